def fX8_refuse (v_t_refused : Nat → Int32) (p0 : Int32) : Option (Int32 × (Nat → Int32)) :=
  if (-p0) < 0 ∨ 8 ≤ (-p0).toNatClampNeg then none else
  if (-p0) < 0 ∨ 8 ≤ (-p0).toNatClampNeg then none else
  some (p0, upd v_t_refused (-p0).toNatClampNeg ((v_t_refused (-p0).toNatClampNeg) + (1 : Int32)))
set_option maxHeartbeats 4000000 in
set_option maxRecDepth 100000 in
theorem mX8_refuse (l : Launch) (D : va_G) (cy : Nat → ClassId) (q_t q_t_shelf q_t_rowSort q_t_rowSize q_t_rows q_t_moved q_t_shown q_t_tape q_t_refused q_t_ways q_t_kind q_t_by q_t_home q_t_aim q_t_at0 q_t_told q_t_steps q_t_spot q_t_then q_t_sights q_t_darkAt q_t_can : Nat) (v_t_tapeSize : Int32) (v_t_places : Int32) (v_t_people : Int32) (v_t_hour : Int32) (v_t_chance : Int32) (v_t_seed : Int32) (w_t_kept : Value) (w_t_tried : Value) (v_t_at : Int32) (v_t_token : Int32) (v_t_from : Int32) (v_t_figures : Int32) (v_t_fault : Int32) (v_t_statements : Int32) (v_t_now : Int32) (v_t_gone : Int32) (v_t_refused : Nat → Int32) (sz : Nat) (p0 : Int32) {r_ : Int32} {n_t_refused : Nat → Int32} (hf : fX8_refuse v_t_refused p0 = some (r_, n_t_refused)) : Met l yX8_refuse wsX8_refuse ({ frames := 0, cells := 0, slots := 0, locals := 0 }) (va_Pc [.ref q_t, .int p0] (fun U => U.heap.size = sz ∧ va_P D vwCl [(q_t, oX8 q_t_shelf q_t_rowSort q_t_rowSize q_t_rows q_t_moved q_t_shown q_t_tape v_t_tapeSize q_t_refused v_t_places q_t_ways v_t_people q_t_kind q_t_by q_t_home q_t_aim q_t_at0 v_t_hour v_t_chance v_t_seed w_t_kept w_t_tried v_t_at v_t_token v_t_from v_t_figures v_t_fault q_t_told v_t_statements q_t_steps q_t_spot q_t_then v_t_now v_t_gone q_t_sights q_t_darkAt q_t_can), (q_t_refused, .inl (cy 0, 8, .inl v_t_refused))] U.heap ∧ xK D cy U ∧ va_D (fun _ => True) [(q_t, oX8 q_t_shelf q_t_rowSort q_t_rowSize q_t_rows q_t_moved q_t_shown q_t_tape v_t_tapeSize q_t_refused v_t_places q_t_ways v_t_people q_t_kind q_t_by q_t_home q_t_aim q_t_at0 v_t_hour v_t_chance v_t_seed w_t_kept w_t_tried v_t_at v_t_token v_t_from v_t_figures v_t_fault q_t_told v_t_statements q_t_steps q_t_spot q_t_then v_t_now v_t_gone q_t_sights q_t_darkAt q_t_can), (q_t_refused, .inl (cy 0, 8, .inl v_t_refused))])) (va_Qi (fun (x : Int32) (_ : Unit) => x = r_) (fun _ t => va_P D vwCl [(q_t, oX8 q_t_shelf q_t_rowSort q_t_rowSize q_t_rows q_t_moved q_t_shown q_t_tape v_t_tapeSize q_t_refused v_t_places q_t_ways v_t_people q_t_kind q_t_by q_t_home q_t_aim q_t_at0 v_t_hour v_t_chance v_t_seed w_t_kept w_t_tried v_t_at v_t_token v_t_from v_t_figures v_t_fault q_t_told v_t_statements q_t_steps q_t_spot q_t_then v_t_now v_t_gone q_t_sights q_t_darkAt q_t_can), (q_t_refused, .inl (cy 0, 8, .inl n_t_refused))] t.heap) (va_A [(q_t, oX8 q_t_shelf q_t_rowSort q_t_rowSize q_t_rows q_t_moved q_t_shown q_t_tape v_t_tapeSize q_t_refused v_t_places q_t_ways v_t_people q_t_kind q_t_by q_t_home q_t_aim q_t_at0 v_t_hour v_t_chance v_t_seed w_t_kept w_t_tried v_t_at v_t_token v_t_from v_t_figures v_t_fault q_t_told v_t_statements q_t_steps q_t_spot q_t_then v_t_now v_t_gone q_t_sights q_t_darkAt q_t_can), (q_t_refused, .inl (cy 0, 8, .inl v_t_refused))] sz)) 0 0 (va_A [(q_t, oX8 q_t_shelf q_t_rowSort q_t_rowSize q_t_rows q_t_moved q_t_shown q_t_tape v_t_tapeSize q_t_refused v_t_places q_t_ways v_t_people q_t_kind q_t_by q_t_home q_t_aim q_t_at0 v_t_hour v_t_chance v_t_seed w_t_kept w_t_tried v_t_at v_t_token v_t_from v_t_figures v_t_fault q_t_told v_t_statements q_t_steps q_t_spot q_t_then v_t_now v_t_gone q_t_sights q_t_darkAt q_t_can), (q_t_refused, .inl (cy 0, 8, .inl v_t_refused))] sz) := by
  refine Met.ofW (cc := cX8_refuse) (maxL := 2) (ret := (some .int)) (by decide) rfl ?_
  intro p e s m args below meth c s₁ B hml hv
  obtain ⟨rfl, hsz, hP, hK, hD0⟩ := hv
  have hx := B.exec
  have hb := B.bytes
  have hr := B.returns
  have hts := atoms_spec (ws := wsX8_refuse) B.pre
  have hown : s.vm.findClass RX8 = some m.cls := findClass_of_methodNamed B.named
  have hlocks := B.notSynchronized
  subst hsz
  have hD := hD0.self (sz := s.heap.size)
  generalize hAe : va_A [(q_t, oX8 q_t_shelf q_t_rowSort q_t_rowSize q_t_rows q_t_moved q_t_shown q_t_tape v_t_tapeSize q_t_refused v_t_places q_t_ways v_t_people q_t_kind q_t_by q_t_home q_t_aim q_t_at0 v_t_hour v_t_chance v_t_seed w_t_kept w_t_tried v_t_at v_t_token v_t_from v_t_figures v_t_fault q_t_told v_t_statements q_t_steps q_t_spot q_t_then v_t_now v_t_gone q_t_sights q_t_darkAt q_t_can), (q_t_refused, .inl (cy 0, 8, .inl v_t_refused))] s.heap.size = A at hD ⊢
  have hA : ∀ q : Nat, s.heap.size ≤ q → A q := fun q h => by rw [← hAe]; exact Or.inr h
  have hS : va_S A s.heap s.heap [] := va_S.rf
  have hP : va_P D vwCl [(q_t, oX8 q_t_shelf q_t_rowSort q_t_rowSize q_t_rows q_t_moved q_t_shown q_t_tape v_t_tapeSize q_t_refused v_t_places q_t_ways v_t_people q_t_kind q_t_by q_t_home q_t_aim q_t_at0 v_t_hour v_t_chance v_t_seed w_t_kept w_t_tried v_t_at v_t_token v_t_from v_t_figures v_t_fault q_t_told v_t_statements q_t_steps q_t_spot q_t_then v_t_now v_t_gone q_t_sights q_t_darkAt q_t_can), (q_t_refused, .inl (cy 0, 8, .inl v_t_refused))] s.heap := hP
  have hinX8 : ∀ w ∈ u_ws RX8 TX8 37, w ∈ wsX8_refuse := by decide +kernel
  have hk34 := hts (.fieldLink RX8 34 "ShowsWhereNobodyIsModel" "refused" "[I") (by decide +kernel)
  have hl := lv_entry ([.ref q_t, .int p0]) (n := 2) (Nat.le_of_ble_eq_true rfl)
  rw [lg_entry_eq]
  generalize (lg_sl ([.ref q_t, .int p0]) ++ List.replicate (2 - (lg_sl ([.ref q_t, .int p0])).length) Slot.unset).toArray = ls at hl ⊢
  have hl : lv_has ls 2 [(0, .ref q_t), (1, .int p0)] := hl
  unfold fX8_refuse at hf
  refine lv_aload_n hx hb dX8_refuse_0 rfl (lv_at hl 0 rfl) ?_
  refine va_get (D := D) (ci := 8) (v := .ref q_t_refused) (C := RX8) (T := TX8) (N := 37) hx hb hts hinX8 hown hK.1 hP 0 rfl rfl 8 (by decide) hk34 (fun _ h9 => h9) rfl dX8_refuse_1 ?_
  refine lv_iload_n hx hb dX8_refuse_4 rfl (lv_at hl 1 rfl) ?_
  refine lv_ineg hx hb dX8_refuse_5 ?_
  refine lv_dup2_11 hx hb dX8_refuse_6 rfl rfl ?_
  obtain ⟨hi1, hf⟩ := ckE hf
  refine va_iald hx hb hK.1 hP 1 0 rfl rfl hi1 dX8_refuse_7 ?_
  refine lv_iconst (v := 1) hx hb dX8_refuse_8 (by decide) ?_
  refine lv_iadd hx hb dX8_refuse_9 ?_
  obtain ⟨hi2, hf⟩ := ckE hf
  refine va_iast hx hb hK.1 hP hD hS 1 0 rfl rfl hi2 dX8_refuse_10 (fun H locs hP hD hS => ?_)
  have hP : va_P D vwCl [(q_t, oX8 q_t_shelf q_t_rowSort q_t_rowSize q_t_rows q_t_moved q_t_shown q_t_tape v_t_tapeSize q_t_refused v_t_places q_t_ways v_t_people q_t_kind q_t_by q_t_home q_t_aim q_t_at0 v_t_hour v_t_chance v_t_seed w_t_kept w_t_tried v_t_at v_t_token v_t_from v_t_figures v_t_fault q_t_told v_t_statements q_t_steps q_t_spot q_t_then v_t_now v_t_gone q_t_sights q_t_darkAt q_t_can), (q_t_refused, .inl (cy 0, 8, .inl (upd v_t_refused (-p0).toNatClampNeg ((v_t_refused (-p0).toNatClampNeg) + (1 : Int32)))))] H := hP
  have hD : va_D A [(q_t, oX8 q_t_shelf q_t_rowSort q_t_rowSize q_t_rows q_t_moved q_t_shown q_t_tape v_t_tapeSize q_t_refused v_t_places q_t_ways v_t_people q_t_kind q_t_by q_t_home q_t_aim q_t_at0 v_t_hour v_t_chance v_t_seed w_t_kept w_t_tried v_t_at v_t_token v_t_from v_t_figures v_t_fault q_t_told v_t_statements q_t_steps q_t_spot q_t_then v_t_now v_t_gone q_t_sights q_t_darkAt q_t_can), (q_t_refused, .inl (cy 0, 8, .inl (upd v_t_refused (-p0).toNatClampNeg ((v_t_refused (-p0).toNatClampNeg) + (1 : Int32)))))] := hD
  refine lv_iload_n hx hb dX8_refuse_11 rfl (lv_at hl 1 rfl) ?_
  cases hf
  exact W.iret hx hb hr (fun t ht hW => ⟨⟨_, (), rfl, rfl, xend ht hP⟩, hS.F ht⟩) hS.2.2 dX8_refuse_12
def fX8_in (p0 : Int64) (p1 : Int64) (p2 : Int64) : Option (Int32) :=
  if (lg_cmp p0 p1) < 0 then
    some (0 : Int32)
  else
    if 0 < (lg_cmp p0 p2) then
      some (0 : Int32)
    else
      some (1 : Int32)
set_option maxHeartbeats 4000000 in
set_option maxRecDepth 100000 in
theorem mX8_in (l : Launch) (D : va_G) (cy : Nat → ClassId) (p0 : Int64) (p1 : Int64) (p2 : Int64) {r_ : Int32} (hf : fX8_in p0 p1 p2 = some r_) : Met l yX8_in wsX8_in ({ frames := 0, cells := 0, slots := 0, locals := 0 }) (va_Pc [.long p0, .long p1, .long p2] (fun U => va_P D vwCl [] U.heap ∧ xK D cy U)) (vp_Si (fun x => x = r_)) 0 0 (fun _ => False) := by
  refine Met.ofW (cc := cX8_in) (maxL := 6) (ret := (some .boolean)) (by decide) rfl ?_
  intro p e s m args below meth c s₁ B hml hv
  obtain ⟨rfl, hP, hK⟩ := hv
  have hx := B.exec
  have hb := B.bytes
  have hr := B.returns
  have hts := atoms_spec (ws := wsX8_in) B.pre
  have hown : s.vm.findClass RX8 = some m.cls := findClass_of_methodNamed B.named
  have hlocks := B.notSynchronized
  have hP : va_P D vwCl [] s.heap := hP
  have hl := lv_entry ([.long p0, .long p1, .long p2]) (n := 6) (Nat.le_of_ble_eq_true rfl)
  rw [lg_entry_eq]
  generalize (lg_sl ([.long p0, .long p1, .long p2]) ++ List.replicate (6 - (lg_sl ([.long p0, .long p1, .long p2])).length) Slot.unset).toArray = ls at hl ⊢
  have hl : lv_has ls 6 [(0, .long p0), (2, .long p1), (4, .long p2)] := hl
  unfold fX8_in at hf
  refine lv_lload_n hx hb dX8_in_0 rfl (lv_at hl 0 rfl) ?_
  refine lv_lload_n hx hb dX8_in_1 rfl (lv_at hl 1 rfl) ?_
  refine W.lcmp hx hb dX8_in_2 ?_
  refine lv_if_lt (tgt := 17) hx hb dX8_in_3 (by decide) (fun c2 => ?_) (fun c2 => ?_)
  · have hf := ifT hf c2
    clear c2
    refine lv_iconst (v := 0) hx hb dX8_in_17 (by decide) ?_
    exact W.zret (v := (0 : Int32)) hx hb hr rfl (fun t ht hW => ⟨(0 : Int32), rfl, Option.some.inj hf, ht⟩) (fun q h => nomatch h) dX8_in_18
  · have hf := ifF hf c2
    clear c2
    refine lv_lload_n hx hb dX8_in_6 rfl (lv_at hl 0 rfl) ?_
    refine lv_lload hx hb dX8_in_7 (lv_at hl 2 rfl) ?_
    refine W.lcmp hx hb dX8_in_9 ?_
    refine lv_if_gt (tgt := 17) hx hb dX8_in_10 (by decide) (fun c1 => ?_) (fun c1 => ?_)
    · have hf := ifT hf c1
      clear c1
      refine lv_iconst (v := 0) hx hb dX8_in_17 (by decide) ?_
      exact W.zret (v := (0 : Int32)) hx hb hr rfl (fun t ht hW => ⟨(0 : Int32), rfl, Option.some.inj hf, ht⟩) (fun q h => nomatch h) dX8_in_18
    · have hf := ifF hf c1
      clear c1
      refine lv_iconst (v := 1) hx hb dX8_in_13 (by decide) ?_
      refine lv_goto (tgt := 18) hx hb dX8_in_14 (by decide) ?_
      exact W.zret (v := (1 : Int32)) hx hb hr rfl (fun t ht hW => ⟨(1 : Int32), rfl, Option.some.inj hf, ht⟩) (fun q h => nomatch h) dX8_in_18
def fX8_isPlace (v_t_places : Int32) (p0 : Int32) : Option (Int32) :=
  bo1 (fX8_in p0.toInt64 (0 : Int64) ((v_t_places - (1 : Int32)).toInt64)) fun r1 =>
  if ¬ (r1 = 0 ∨ r1 = 1) then none else
  some r1
set_option maxHeartbeats 4000000 in
set_option maxRecDepth 100000 in
theorem mX8_isPlace (l : Launch) (D : va_G) (cy : Nat → ClassId) (q_t q_t_shelf q_t_rowSort q_t_rowSize q_t_rows q_t_moved q_t_shown q_t_tape q_t_refused q_t_ways q_t_kind q_t_by q_t_home q_t_aim q_t_at0 q_t_told q_t_steps q_t_spot q_t_then q_t_sights q_t_darkAt q_t_can : Nat) (v_t_tapeSize : Int32) (v_t_places : Int32) (v_t_people : Int32) (v_t_hour : Int32) (v_t_chance : Int32) (v_t_seed : Int32) (w_t_kept : Value) (w_t_tried : Value) (v_t_at : Int32) (v_t_token : Int32) (v_t_from : Int32) (v_t_figures : Int32) (v_t_fault : Int32) (v_t_statements : Int32) (v_t_now : Int32) (v_t_gone : Int32) (p0 : Int32) {r_ : Int32} (hf : fX8_isPlace v_t_places p0 = some r_) : Met l yX8_isPlace wsX8_isPlace ({ frames := 1, cells := 0, slots := 0, locals := 25 }) (va_Pc [.ref q_t, .int p0] (fun U => va_P D vwCl [(q_t, oX8 q_t_shelf q_t_rowSort q_t_rowSize q_t_rows q_t_moved q_t_shown q_t_tape v_t_tapeSize q_t_refused v_t_places q_t_ways v_t_people q_t_kind q_t_by q_t_home q_t_aim q_t_at0 v_t_hour v_t_chance v_t_seed w_t_kept w_t_tried v_t_at v_t_token v_t_from v_t_figures v_t_fault q_t_told v_t_statements q_t_steps q_t_spot q_t_then v_t_now v_t_gone q_t_sights q_t_darkAt q_t_can)] U.heap ∧ xK D cy U)) (vp_Si (fun x => x = r_)) 0 0 (fun _ => False) := by
  refine Met.ofW (cc := cX8_isPlace) (maxL := 2) (ret := (some .boolean)) (by decide) rfl ?_
  intro p e s m args below meth c s₁ B hml hv
  obtain ⟨rfl, hP, hK⟩ := hv
  have hx := B.exec
  have hb := B.bytes
  have hr := B.returns
  have hts := atoms_spec (ws := wsX8_isPlace) B.pre
  have hown : s.vm.findClass RX8 = some m.cls := findClass_of_methodNamed B.named
  have hlocks := B.notSynchronized
  have hP : va_P D vwCl [(q_t, oX8 q_t_shelf q_t_rowSort q_t_rowSize q_t_rows q_t_moved q_t_shown q_t_tape v_t_tapeSize q_t_refused v_t_places q_t_ways v_t_people q_t_kind q_t_by q_t_home q_t_aim q_t_at0 v_t_hour v_t_chance v_t_seed w_t_kept w_t_tried v_t_at v_t_token v_t_from v_t_figures v_t_fault q_t_told v_t_statements q_t_steps q_t_spot q_t_then v_t_now v_t_gone q_t_sights q_t_darkAt q_t_can)] s.heap := hP
  have hinX8 : ∀ w ∈ u_ws RX8 TX8 37, w ∈ wsX8_isPlace := by decide +kernel
  have hk37 := hts (.fieldLink RX8 37 "ShowsWhereNobodyIsModel" "places" "I") (by decide +kernel)
  have hl := lv_entry ([.ref q_t, .int p0]) (n := 2) (Nat.le_of_ble_eq_true rfl)
  rw [lg_entry_eq]
  generalize (lg_sl ([.ref q_t, .int p0]) ++ List.replicate (2 - (lg_sl ([.ref q_t, .int p0])).length) Slot.unset).toArray = ls at hl ⊢
  have hl : lv_has ls 2 [(0, .ref q_t), (1, .int p0)] := hl
  unfold fX8_isPlace at hf
  refine lv_iload_n hx hb dX8_isPlace_0 rfl (lv_at hl 1 rfl) ?_
  refine lv_i2l hx hb dX8_isPlace_1 rfl ?_
  refine lv_lconst (v := 0) hx hb dX8_isPlace_2 (by decide) ?_
  refine lv_aload_n hx hb dX8_isPlace_3 rfl (lv_at hl 0 rfl) ?_
  refine va_get (D := D) (ci := 8) (v := .int v_t_places) (C := RX8) (T := TX8) (N := 37) hx hb hts hinX8 hown hK.1 hP 0 rfl rfl 9 (by decide) hk37 (fun _ h9 => h9) rfl dX8_isPlace_4 ?_
  refine lv_iconst (v := 1) hx hb dX8_isPlace_7 (by decide) ?_
  refine lv_isub hx hb dX8_isPlace_8 ?_
  refine lv_i2l hx hb dX8_isPlace_9 rfl ?_
  obtain ⟨r1, hr2, hf⟩ := boE1 hf
  have hPc := hP.sub (ws' := []) [] rfl
  refine xcSi (va_runS (As := [.long p0.toInt64, .long (0 : Int64), .long ((v_t_places - (1 : Int32)).toInt64)]) (rest := []) ⟨hx, hb, hml, hown, hts⟩ (mX8_in l D cy    p0.toInt64 (0 : Int64) ((v_t_places - (1 : Int32)).toInt64) hr2) (va_cwS 3 hts gX8_isPlace_X8_in rfl rfl rfl (by decide +kernel) ⟨Nat.le_of_ble_eq_true rfl, Nat.le_of_ble_eq_true rfl⟩) (xPS hK hPc) rfl rfl hl.1 rfl (lv_room (Nat.le_of_ble_eq_true rfl)) dX8_isPlace_10 ⟨Nat.le_of_ble_eq_true rfl, Nat.le_of_ble_eq_true rfl⟩) ?_
  obtain ⟨hz, hf⟩ := ckE hf
  exact W.zret (v := r1) hx hb hr (by rcases Decidable.not_not.mp hz with h | h <;> rw [h] <;> rfl) (fun t ht hW => ⟨r1, rfl, Option.some.inj hf, ht⟩) (fun q h => nomatch h) dX8_isPlace_13
def fX8_isPerson (v_t_people : Int32) (p0 : Int32) : Option (Int32) :=
  bo1 (fX8_in p0.toInt64 (0 : Int64) ((v_t_people - (1 : Int32)).toInt64)) fun r1 =>
  if ¬ (r1 = 0 ∨ r1 = 1) then none else
  some r1
set_option maxHeartbeats 4000000 in
set_option maxRecDepth 100000 in
theorem mX8_isPerson (l : Launch) (D : va_G) (cy : Nat → ClassId) (q_t q_t_shelf q_t_rowSort q_t_rowSize q_t_rows q_t_moved q_t_shown q_t_tape q_t_refused q_t_ways q_t_kind q_t_by q_t_home q_t_aim q_t_at0 q_t_told q_t_steps q_t_spot q_t_then q_t_sights q_t_darkAt q_t_can : Nat) (v_t_tapeSize : Int32) (v_t_places : Int32) (v_t_people : Int32) (v_t_hour : Int32) (v_t_chance : Int32) (v_t_seed : Int32) (w_t_kept : Value) (w_t_tried : Value) (v_t_at : Int32) (v_t_token : Int32) (v_t_from : Int32) (v_t_figures : Int32) (v_t_fault : Int32) (v_t_statements : Int32) (v_t_now : Int32) (v_t_gone : Int32) (p0 : Int32) {r_ : Int32} (hf : fX8_isPerson v_t_people p0 = some r_) : Met l yX8_isPerson wsX8_isPerson ({ frames := 1, cells := 0, slots := 0, locals := 25 }) (va_Pc [.ref q_t, .int p0] (fun U => va_P D vwCl [(q_t, oX8 q_t_shelf q_t_rowSort q_t_rowSize q_t_rows q_t_moved q_t_shown q_t_tape v_t_tapeSize q_t_refused v_t_places q_t_ways v_t_people q_t_kind q_t_by q_t_home q_t_aim q_t_at0 v_t_hour v_t_chance v_t_seed w_t_kept w_t_tried v_t_at v_t_token v_t_from v_t_figures v_t_fault q_t_told v_t_statements q_t_steps q_t_spot q_t_then v_t_now v_t_gone q_t_sights q_t_darkAt q_t_can)] U.heap ∧ xK D cy U)) (vp_Si (fun x => x = r_)) 0 0 (fun _ => False) := by
  refine Met.ofW (cc := cX8_isPerson) (maxL := 2) (ret := (some .boolean)) (by decide) rfl ?_
  intro p e s m args below meth c s₁ B hml hv
  obtain ⟨rfl, hP, hK⟩ := hv
  have hx := B.exec
  have hb := B.bytes
  have hr := B.returns
  have hts := atoms_spec (ws := wsX8_isPerson) B.pre
  have hown : s.vm.findClass RX8 = some m.cls := findClass_of_methodNamed B.named
  have hlocks := B.notSynchronized
  have hP : va_P D vwCl [(q_t, oX8 q_t_shelf q_t_rowSort q_t_rowSize q_t_rows q_t_moved q_t_shown q_t_tape v_t_tapeSize q_t_refused v_t_places q_t_ways v_t_people q_t_kind q_t_by q_t_home q_t_aim q_t_at0 v_t_hour v_t_chance v_t_seed w_t_kept w_t_tried v_t_at v_t_token v_t_from v_t_figures v_t_fault q_t_told v_t_statements q_t_steps q_t_spot q_t_then v_t_now v_t_gone q_t_sights q_t_darkAt q_t_can)] s.heap := hP
  have hinX8 : ∀ w ∈ u_ws RX8 TX8 37, w ∈ wsX8_isPerson := by decide +kernel
  have hk95 := hts (.fieldLink RX8 95 "ShowsWhereNobodyIsModel" "people" "I") (by decide +kernel)
  have hl := lv_entry ([.ref q_t, .int p0]) (n := 2) (Nat.le_of_ble_eq_true rfl)
  rw [lg_entry_eq]
  generalize (lg_sl ([.ref q_t, .int p0]) ++ List.replicate (2 - (lg_sl ([.ref q_t, .int p0])).length) Slot.unset).toArray = ls at hl ⊢
  have hl : lv_has ls 2 [(0, .ref q_t), (1, .int p0)] := hl
  unfold fX8_isPerson at hf
  refine lv_iload_n hx hb dX8_isPerson_0 rfl (lv_at hl 1 rfl) ?_
  refine lv_i2l hx hb dX8_isPerson_1 rfl ?_
  refine lv_lconst (v := 0) hx hb dX8_isPerson_2 (by decide) ?_
  refine lv_aload_n hx hb dX8_isPerson_3 rfl (lv_at hl 0 rfl) ?_
  refine va_get (D := D) (ci := 8) (v := .int v_t_people) (C := RX8) (T := TX8) (N := 37) hx hb hts hinX8 hown hK.1 hP 0 rfl rfl 11 (by decide) hk95 (fun _ h9 => h9) rfl dX8_isPerson_4 ?_
  refine lv_iconst (v := 1) hx hb dX8_isPerson_7 (by decide) ?_
  refine lv_isub hx hb dX8_isPerson_8 ?_
  refine lv_i2l hx hb dX8_isPerson_9 rfl ?_
  obtain ⟨r1, hr2, hf⟩ := boE1 hf
  have hPc := hP.sub (ws' := []) [] rfl
  refine xcSi (va_runS (As := [.long p0.toInt64, .long (0 : Int64), .long ((v_t_people - (1 : Int32)).toInt64)]) (rest := []) ⟨hx, hb, hml, hown, hts⟩ (mX8_in l D cy    p0.toInt64 (0 : Int64) ((v_t_people - (1 : Int32)).toInt64) hr2) (va_cwS 3 hts gX8_isPerson_X8_in rfl rfl rfl (by decide +kernel) ⟨Nat.le_of_ble_eq_true rfl, Nat.le_of_ble_eq_true rfl⟩) (xPS hK hPc) rfl rfl hl.1 rfl (lv_room (Nat.le_of_ble_eq_true rfl)) dX8_isPerson_10 ⟨Nat.le_of_ble_eq_true rfl, Nat.le_of_ble_eq_true rfl⟩) ?_
  obtain ⟨hz, hf⟩ := ckE hf
  exact W.zret (v := r1) hx hb hr (by rcases Decidable.not_not.mp hz with h | h <;> rw [h] <;> rfl) (fun t ht hW => ⟨r1, rfl, Option.some.inj hf, ht⟩) (fun q h => nomatch h) dX8_isPerson_13
def fX8_bits (p0 : Int32) : Option (Int32) :=
  lo2 (fun g3 (x1 : Int32) (x2 : Int32) =>
    if x2 = 0 then
      some x1
    else
      vlet (x1 + (1 : Int32)) fun x4 =>
      vlet (x2 &&& (x2 - (1 : Int32))) fun x5 =>
      g3 x4 x5) 400 (0 : Int32) p0
set_option maxHeartbeats 4000000 in
set_option maxRecDepth 100000 in
theorem mX8_bits (l : Launch) (D : va_G) (cy : Nat → ClassId) (p0 : Int32) {r_ : Int32} (hf : fX8_bits p0 = some r_) : Met l yX8_bits wsX8_bits ({ frames := 0, cells := 0, slots := 0, locals := 0 }) (va_Pc [.int p0] (fun U => va_P D vwCl [] U.heap ∧ xK D cy U)) (vp_Si (fun x => x = r_)) 0 0 (fun _ => False) := by
  refine Met.ofW (cc := cX8_bits) (maxL := 3) (ret := (some .int)) (by decide) rfl ?_
  intro p e s m args below meth c s₁ B hml hv
  obtain ⟨rfl, hP, hK⟩ := hv
  have hx := B.exec
  have hb := B.bytes
  have hr := B.returns
  have hts := atoms_spec (ws := wsX8_bits) B.pre
  have hown : s.vm.findClass RX8 = some m.cls := findClass_of_methodNamed B.named
  have hlocks := B.notSynchronized
  have hP : va_P D vwCl [] s.heap := hP
  have hl := lv_entry ([.int p0]) (n := 3) (Nat.le_of_ble_eq_true rfl)
  rw [lg_entry_eq]
  generalize (lg_sl ([.int p0]) ++ List.replicate (3 - (lg_sl ([.int p0])).length) Slot.unset).toArray = ls at hl ⊢
  have hl : lv_has ls 3 [(0, .int p0)] := hl
  unfold fX8_bits at hf
  refine lv_iconst (v := 0) hx hb dX8_bits_0 (by decide) ?_
  refine lv_istore_n (lv' := [(1, .int (0 : Int32)), (0, .int p0)]) hx hb dX8_bits_1 rfl hl (by decide) rfl (fun ls hl => ?_)
  refine lv_iload_n hx hb dX8_bits_2 rfl (lv_at hl 1 rfl) ?_
  refine lv_istore_n (lv' := [(2, .int p0), (1, .int (0 : Int32)), (0, .int p0)]) hx hb dX8_bits_3 rfl hl (by decide) rfl (fun ls hl => ?_)
  refine wlr2 4 (fun _ _ => []) (fun (x1 : Int32) (x2 : Int32) ls => lv_has ls 3 [(1, .int x1), (2, .int x2)]) (fun g3 L4 x1 x2 ls hl hf => ?_) 400 (0 : Int32) p0 ls (lv_sub hl [1, 0] rfl) hf
  refine lv_iload_n hx hb dX8_bits_4 rfl (lv_at hl 1 rfl) ?_
  refine lv_if_eq (tgt := 20) hx hb dX8_bits_5 (by decide) (fun c6 => ?_) (fun c6 => ?_)
  · have hf := ifT hf c6
    clear c6
    refine lv_iload_n hx hb dX8_bits_20 rfl (lv_at hl 0 rfl) ?_
    exact W.iret (v := x1) hx hb hr (fun t ht hW => ⟨x1, rfl, Option.some.inj hf, ht⟩) (fun q h => nomatch h) dX8_bits_21
  · have hf := ifF hf c6
    clear c6
    obtain ⟨x4, ex4⟩ : ∃ y : Int32, y = x1 + (1 : Int32) := ⟨_, rfl⟩
    have hf := vlE hf ex4
    refine lv_iinc (v := x4) (lv' := [(1, .int x4), (2, .int x2)]) hx hb dX8_bits_8 hl (k := 0) rfl (by rw [ex4]; rfl) (by decide) rfl (fun ls hl => ?_)
    clear ex4
    refine lv_iload_n hx hb dX8_bits_11 rfl (lv_at hl 1 rfl) ?_
    refine lv_iload_n hx hb dX8_bits_12 rfl (lv_at hl 1 rfl) ?_
    refine lv_iconst (v := 1) hx hb dX8_bits_13 (by decide) ?_
    refine lv_isub hx hb dX8_bits_14 ?_
    refine lv_iand hx hb dX8_bits_15 ?_
    refine lv_topi (fun x5 ex5 => ?_)
    have hf := vlE hf ex5
    clear ex5
    refine lv_istore_n (lv' := [(2, .int x5), (1, .int x4)]) hx hb dX8_bits_16 rfl hl (by decide) rfl (fun ls hl => ?_)
    refine lv_goto (tgt := 4) hx hb dX8_bits_17 (by decide) ?_
    exact L4 x4 x5 ls (lv_sub hl [1, 0] rfl) hf
def fX8_row (v_t_shelf : Nat → Int32) (v_t_rowSort : Nat → Int32) (v_t_rowSize : Nat → Int32) (v_t_refused : Nat → Int32) (v_t_rows : Nat → Nat → Int64) (p0 : Int32) (p1 : Int32) (p2 : Int32) : Option (Int32 × (Nat → Int32) × (Nat → Int32) × (Nat → Int32) × (Nat → Int32) × (Nat → Nat → Int64)) :=
  bo1 (fX8_in p0.toInt64 (0 : Int64) (7 : Int64)) fun r1 =>
  jo0 (
    bo2 (fX8_refuse v_t_refused (-2 : Int32)) fun r4 u5 =>
    some (r4, v_t_shelf, v_t_rowSort, v_t_rowSize, u5, v_t_rows)) fun k3 =>
  if r1 = 0 then
    k3
  else
    bo1 (fX8_in p1.toInt64 (0 : Int64) (4 : Int64)) fun r7 =>
    if r7 = 0 then
      k3
    else
      bo1 (fX8_in p2.toInt64 (0 : Int64) (40 : Int64)) fun r9 =>
      if r9 = 0 then
        k3
      else
        if p0 < 0 ∨ 8 ≤ p0.toNatClampNeg then none else
        if p0 < 0 ∨ 8 ≤ p0.toNatClampNeg then none else
        if p0 < 0 ∨ 8 ≤ p0.toNatClampNeg then none else
        lo2 (fun g16 (x14 : Int32) (u15 : Nat → Nat → Int64) =>
          if (40 : Int32) ≤ x14 then
            some ((1 : Int32), upd v_t_shelf p0.toNatClampNeg (1 : Int32), upd v_t_rowSort p0.toNatClampNeg p1, upd v_t_rowSize p0.toNatClampNeg p2, v_t_refused, u15)
          else
            if p0 < 0 ∨ 8 ≤ p0.toNatClampNeg then none else
            if x14 < 0 ∨ 40 ≤ x14.toNatClampNeg then none else
            vlet (x14 + (1 : Int32)) fun x20 =>
            g16 x20 (va_up u15 p0.toNatClampNeg (vp_updL (u15 p0.toNatClampNeg) x14.toNatClampNeg (0 : Int64)))) 400 (0 : Int32) v_t_rows
set_option maxHeartbeats 4000000 in
set_option maxRecDepth 100000 in
theorem mX8_row (l : Launch) (D : va_G) (cy : Nat → ClassId) (q_t q_t_shelf q_t_rowSort q_t_rowSize q_t_rows q_t_moved q_t_shown q_t_tape q_t_refused q_t_ways q_t_kind q_t_by q_t_home q_t_aim q_t_at0 q_t_told q_t_steps q_t_spot q_t_then q_t_sights q_t_darkAt q_t_can : Nat) (ad_t_rows : Nat → Nat) (v_t_tapeSize : Int32) (v_t_places : Int32) (v_t_people : Int32) (v_t_hour : Int32) (v_t_chance : Int32) (v_t_seed : Int32) (w_t_kept : Value) (w_t_tried : Value) (v_t_at : Int32) (v_t_token : Int32) (v_t_from : Int32) (v_t_figures : Int32) (v_t_fault : Int32) (v_t_statements : Int32) (v_t_now : Int32) (v_t_gone : Int32) (v_t_shelf : Nat → Int32) (v_t_rowSort : Nat → Int32) (v_t_rowSize : Nat → Int32) (v_t_refused : Nat → Int32) (v_t_rows : Nat → Nat → Int64) (sz : Nat) (p0 : Int32) (p1 : Int32) (p2 : Int32) {r_ : Int32} {n_t_shelf : Nat → Int32} {n_t_rowSort : Nat → Int32} {n_t_rowSize : Nat → Int32} {n_t_refused : Nat → Int32} {n_t_rows : Nat → Nat → Int64} (hf : fX8_row v_t_shelf v_t_rowSort v_t_rowSize v_t_refused v_t_rows p0 p1 p2 = some (r_, n_t_shelf, n_t_rowSort, n_t_rowSize, n_t_refused, n_t_rows)) : Met l yX8_row wsX8_row ({ frames := 1, cells := 0, slots := 0, locals := 25 }) (va_Pc [.ref q_t, .int p0, .int p1, .int p2] (fun U => U.heap.size = sz ∧ va_P D vwCl ([(q_t, oX8 q_t_shelf q_t_rowSort q_t_rowSize q_t_rows q_t_moved q_t_shown q_t_tape v_t_tapeSize q_t_refused v_t_places q_t_ways v_t_people q_t_kind q_t_by q_t_home q_t_aim q_t_at0 v_t_hour v_t_chance v_t_seed w_t_kept w_t_tried v_t_at v_t_token v_t_from v_t_figures v_t_fault q_t_told v_t_statements q_t_steps q_t_spot q_t_then v_t_now v_t_gone q_t_sights q_t_darkAt q_t_can), (q_t_shelf, .inl (cy 0, 8, .inl v_t_shelf)), (q_t_rowSort, .inl (cy 0, 8, .inl v_t_rowSort)), (q_t_rowSize, .inl (cy 0, 8, .inl v_t_rowSize)), (q_t_rows, .inl (cy 4, 8, .inr (.inr (.inr (.inr (fun i => some (ad_t_rows i))))))), (q_t_refused, .inl (cy 0, 8, .inl v_t_refused))] ++ wFJ cy 8 40 ad_t_rows v_t_rows) U.heap ∧ xK D cy U ∧ va_D (fun _ => True) ([(q_t, oX8 q_t_shelf q_t_rowSort q_t_rowSize q_t_rows q_t_moved q_t_shown q_t_tape v_t_tapeSize q_t_refused v_t_places q_t_ways v_t_people q_t_kind q_t_by q_t_home q_t_aim q_t_at0 v_t_hour v_t_chance v_t_seed w_t_kept w_t_tried v_t_at v_t_token v_t_from v_t_figures v_t_fault q_t_told v_t_statements q_t_steps q_t_spot q_t_then v_t_now v_t_gone q_t_sights q_t_darkAt q_t_can), (q_t_shelf, .inl (cy 0, 8, .inl v_t_shelf)), (q_t_rowSort, .inl (cy 0, 8, .inl v_t_rowSort)), (q_t_rowSize, .inl (cy 0, 8, .inl v_t_rowSize)), (q_t_rows, .inl (cy 4, 8, .inr (.inr (.inr (.inr (fun i => some (ad_t_rows i))))))), (q_t_refused, .inl (cy 0, 8, .inl v_t_refused))] ++ wFJ cy 8 40 ad_t_rows v_t_rows))) (va_Qi (fun (x : Int32) (_ : Unit) => x = r_) (fun _ t => va_P D vwCl ([(q_t, oX8 q_t_shelf q_t_rowSort q_t_rowSize q_t_rows q_t_moved q_t_shown q_t_tape v_t_tapeSize q_t_refused v_t_places q_t_ways v_t_people q_t_kind q_t_by q_t_home q_t_aim q_t_at0 v_t_hour v_t_chance v_t_seed w_t_kept w_t_tried v_t_at v_t_token v_t_from v_t_figures v_t_fault q_t_told v_t_statements q_t_steps q_t_spot q_t_then v_t_now v_t_gone q_t_sights q_t_darkAt q_t_can), (q_t_shelf, .inl (cy 0, 8, .inl n_t_shelf)), (q_t_rowSort, .inl (cy 0, 8, .inl n_t_rowSort)), (q_t_rowSize, .inl (cy 0, 8, .inl n_t_rowSize)), (q_t_rows, .inl (cy 4, 8, .inr (.inr (.inr (.inr (fun i => some (ad_t_rows i))))))), (q_t_refused, .inl (cy 0, 8, .inl n_t_refused))] ++ wFJ cy 8 40 ad_t_rows n_t_rows) t.heap) (va_A ([(q_t, oX8 q_t_shelf q_t_rowSort q_t_rowSize q_t_rows q_t_moved q_t_shown q_t_tape v_t_tapeSize q_t_refused v_t_places q_t_ways v_t_people q_t_kind q_t_by q_t_home q_t_aim q_t_at0 v_t_hour v_t_chance v_t_seed w_t_kept w_t_tried v_t_at v_t_token v_t_from v_t_figures v_t_fault q_t_told v_t_statements q_t_steps q_t_spot q_t_then v_t_now v_t_gone q_t_sights q_t_darkAt q_t_can), (q_t_shelf, .inl (cy 0, 8, .inl v_t_shelf)), (q_t_rowSort, .inl (cy 0, 8, .inl v_t_rowSort)), (q_t_rowSize, .inl (cy 0, 8, .inl v_t_rowSize)), (q_t_rows, .inl (cy 4, 8, .inr (.inr (.inr (.inr (fun i => some (ad_t_rows i))))))), (q_t_refused, .inl (cy 0, 8, .inl v_t_refused))] ++ wFJ cy 8 40 ad_t_rows v_t_rows) sz)) 0 0 (va_A ([(q_t, oX8 q_t_shelf q_t_rowSort q_t_rowSize q_t_rows q_t_moved q_t_shown q_t_tape v_t_tapeSize q_t_refused v_t_places q_t_ways v_t_people q_t_kind q_t_by q_t_home q_t_aim q_t_at0 v_t_hour v_t_chance v_t_seed w_t_kept w_t_tried v_t_at v_t_token v_t_from v_t_figures v_t_fault q_t_told v_t_statements q_t_steps q_t_spot q_t_then v_t_now v_t_gone q_t_sights q_t_darkAt q_t_can), (q_t_shelf, .inl (cy 0, 8, .inl v_t_shelf)), (q_t_rowSort, .inl (cy 0, 8, .inl v_t_rowSort)), (q_t_rowSize, .inl (cy 0, 8, .inl v_t_rowSize)), (q_t_rows, .inl (cy 4, 8, .inr (.inr (.inr (.inr (fun i => some (ad_t_rows i))))))), (q_t_refused, .inl (cy 0, 8, .inl v_t_refused))] ++ wFJ cy 8 40 ad_t_rows v_t_rows) sz) := by
  refine Met.ofW (cc := cX8_row) (maxL := 5) (ret := (some .int)) (by decide) rfl ?_
  intro p e s m args below meth c s₁ B hml hv
  obtain ⟨rfl, hsz, hP, hK, hD0⟩ := hv
  have hx := B.exec
  have hb := B.bytes
  have hr := B.returns
  have hts := atoms_spec (ws := wsX8_row) B.pre
  have hown : s.vm.findClass RX8 = some m.cls := findClass_of_methodNamed B.named
  have hlocks := B.notSynchronized
  subst hsz
  have hD := hD0.self (sz := s.heap.size)
  generalize hAe : va_A ([(q_t, oX8 q_t_shelf q_t_rowSort q_t_rowSize q_t_rows q_t_moved q_t_shown q_t_tape v_t_tapeSize q_t_refused v_t_places q_t_ways v_t_people q_t_kind q_t_by q_t_home q_t_aim q_t_at0 v_t_hour v_t_chance v_t_seed w_t_kept w_t_tried v_t_at v_t_token v_t_from v_t_figures v_t_fault q_t_told v_t_statements q_t_steps q_t_spot q_t_then v_t_now v_t_gone q_t_sights q_t_darkAt q_t_can), (q_t_shelf, .inl (cy 0, 8, .inl v_t_shelf)), (q_t_rowSort, .inl (cy 0, 8, .inl v_t_rowSort)), (q_t_rowSize, .inl (cy 0, 8, .inl v_t_rowSize)), (q_t_rows, .inl (cy 4, 8, .inr (.inr (.inr (.inr (fun i => some (ad_t_rows i))))))), (q_t_refused, .inl (cy 0, 8, .inl v_t_refused))] ++ wFJ cy 8 40 ad_t_rows v_t_rows) s.heap.size = A at hD ⊢
  have hA : ∀ q : Nat, s.heap.size ≤ q → A q := fun q h => by rw [← hAe]; exact Or.inr h
  have hS : va_S A s.heap s.heap [] := va_S.rf
  have hP : va_P D vwCl ([(q_t, oX8 q_t_shelf q_t_rowSort q_t_rowSize q_t_rows q_t_moved q_t_shown q_t_tape v_t_tapeSize q_t_refused v_t_places q_t_ways v_t_people q_t_kind q_t_by q_t_home q_t_aim q_t_at0 v_t_hour v_t_chance v_t_seed w_t_kept w_t_tried v_t_at v_t_token v_t_from v_t_figures v_t_fault q_t_told v_t_statements q_t_steps q_t_spot q_t_then v_t_now v_t_gone q_t_sights q_t_darkAt q_t_can), (q_t_shelf, .inl (cy 0, 8, .inl v_t_shelf)), (q_t_rowSort, .inl (cy 0, 8, .inl v_t_rowSort)), (q_t_rowSize, .inl (cy 0, 8, .inl v_t_rowSize)), (q_t_rows, .inl (cy 4, 8, .inr (.inr (.inr (.inr (fun i => some (ad_t_rows i))))))), (q_t_refused, .inl (cy 0, 8, .inl v_t_refused))] ++ wFJ cy 8 40 ad_t_rows v_t_rows) s.heap := hP
  have hc98 := hts (.constantLong RX8 98 (7)) (by decide +kernel)
  have hc100 := hts (.constantLong RX8 100 (4)) (by decide +kernel)
  have hc102 := hts (.constantLong RX8 102 (40)) (by decide +kernel)
  have hinX8 : ∀ w ∈ u_ws RX8 TX8 37, w ∈ wsX8_row := by decide +kernel
  have hk7 := hts (.fieldLink RX8 7 "ShowsWhereNobodyIsModel" "shelf" "[I") (by decide +kernel)
  have hk13 := hts (.fieldLink RX8 13 "ShowsWhereNobodyIsModel" "rowSort" "[I") (by decide +kernel)
  have hk16 := hts (.fieldLink RX8 16 "ShowsWhereNobodyIsModel" "rowSize" "[I") (by decide +kernel)
  have hk21 := hts (.fieldLink RX8 21 "ShowsWhereNobodyIsModel" "rows" "[[J") (by decide +kernel)
  have hl := lv_entry ([.ref q_t, .int p0, .int p1, .int p2]) (n := 5) (Nat.le_of_ble_eq_true rfl)
  rw [lg_entry_eq]
  generalize (lg_sl ([.ref q_t, .int p0, .int p1, .int p2]) ++ List.replicate (5 - (lg_sl ([.ref q_t, .int p0, .int p1, .int p2])).length) Slot.unset).toArray = ls at hl ⊢
  have hl : lv_has ls 5 [(0, .ref q_t), (1, .int p0), (2, .int p1), (3, .int p2)] := hl
  unfold fX8_row at hf
  refine lv_iload_n hx hb dX8_row_0 rfl (lv_at hl 1 rfl) ?_
  refine lv_i2l hx hb dX8_row_1 rfl ?_
  refine lv_lconst (v := 0) hx hb dX8_row_2 (by decide) ?_
  refine lv_ldc2 hx hb hown hc98 dX8_row_3 ?_
  obtain ⟨r1, hr2, hf⟩ := boE1 hf
  have hPc := hP.sub (ws' := []) [] rfl
  refine xcSi (va_runS (As := [.long p0.toInt64, .long (0 : Int64), .long (7 : Int64)]) (rest := []) ⟨hx, hb, hml, hown, hts⟩ (mX8_in l D cy    p0.toInt64 (0 : Int64) (7 : Int64) hr2) (va_cwS 3 hts gX8_row_X8_in rfl rfl rfl (by decide +kernel) ⟨Nat.le_of_ble_eq_true rfl, Nat.le_of_ble_eq_true rfl⟩) (xPS hK hPc) rfl rfl hl.1 rfl (lv_room (Nat.le_of_ble_eq_true rfl)) dX8_row_6 ⟨Nat.le_of_ble_eq_true rfl, Nat.le_of_ble_eq_true rfl⟩) ?_
  refine jww0 36 [] (fun  H locs ls => va_P D vwCl ([(q_t, oX8 q_t_shelf q_t_rowSort q_t_rowSize q_t_rows q_t_moved q_t_shown q_t_tape v_t_tapeSize q_t_refused v_t_places q_t_ways v_t_people q_t_kind q_t_by q_t_home q_t_aim q_t_at0 v_t_hour v_t_chance v_t_seed w_t_kept w_t_tried v_t_at v_t_token v_t_from v_t_figures v_t_fault q_t_told v_t_statements q_t_steps q_t_spot q_t_then v_t_now v_t_gone q_t_sights q_t_darkAt q_t_can), (q_t_shelf, .inl (cy 0, 8, .inl v_t_shelf)), (q_t_rowSort, .inl (cy 0, 8, .inl v_t_rowSort)), (q_t_rowSize, .inl (cy 0, 8, .inl v_t_rowSize)), (q_t_rows, .inl (cy 4, 8, .inr (.inr (.inr (.inr (fun i => some (ad_t_rows i))))))), (q_t_refused, .inl (cy 0, 8, .inl v_t_refused))] ++ wFJ cy 8 40 ad_t_rows v_t_rows) H ∧ va_D A ([(q_t, oX8 q_t_shelf q_t_rowSort q_t_rowSize q_t_rows q_t_moved q_t_shown q_t_tape v_t_tapeSize q_t_refused v_t_places q_t_ways v_t_people q_t_kind q_t_by q_t_home q_t_aim q_t_at0 v_t_hour v_t_chance v_t_seed w_t_kept w_t_tried v_t_at v_t_token v_t_from v_t_figures v_t_fault q_t_told v_t_statements q_t_steps q_t_spot q_t_then v_t_now v_t_gone q_t_sights q_t_darkAt q_t_can), (q_t_shelf, .inl (cy 0, 8, .inl v_t_shelf)), (q_t_rowSort, .inl (cy 0, 8, .inl v_t_rowSort)), (q_t_rowSize, .inl (cy 0, 8, .inl v_t_rowSize)), (q_t_rows, .inl (cy 4, 8, .inr (.inr (.inr (.inr (fun i => some (ad_t_rows i))))))), (q_t_refused, .inl (cy 0, 8, .inl v_t_refused))] ++ wFJ cy 8 40 ad_t_rows v_t_rows) ∧ va_S A s.heap H locs ∧ lv_has ls 5 [(0, .ref q_t)]) hf (fun  H locs ls hI hf => ?_) (fun k3 J36 hf => ?_)
  · obtain ⟨hP, hD, hS, hl⟩ := hI
    refine lv_aload_n hx hb dX8_row_36 rfl (lv_at hl 0 rfl) ?_
    refine lv_bipush (v := (-2)) hx hb dX8_row_37 (by decide) ?_
    obtain ⟨r4, u5, hr6, hf⟩ := boE2 hf
    have hPc := hP.sub (ws' := [(q_t, oX8 q_t_shelf q_t_rowSort q_t_rowSize q_t_rows q_t_moved q_t_shown q_t_tape v_t_tapeSize q_t_refused v_t_places q_t_ways v_t_people q_t_kind q_t_by q_t_home q_t_aim q_t_at0 v_t_hour v_t_chance v_t_seed w_t_kept w_t_tried v_t_at v_t_token v_t_from v_t_figures v_t_fault q_t_told v_t_statements q_t_steps q_t_spot q_t_then v_t_now v_t_gone q_t_sights q_t_darkAt q_t_can), (q_t_refused, .inl (cy 0, 8, .inl v_t_refused))]) [0, 5] rfl
    have hDc := hD.sub (ws' := [(q_t, oX8 q_t_shelf q_t_rowSort q_t_rowSize q_t_rows q_t_moved q_t_shown q_t_tape v_t_tapeSize q_t_refused v_t_places q_t_ways v_t_people q_t_kind q_t_by q_t_home q_t_aim q_t_at0 v_t_hour v_t_chance v_t_seed w_t_kept w_t_tried v_t_at v_t_token v_t_from v_t_figures v_t_fault q_t_told v_t_statements q_t_steps q_t_spot q_t_then v_t_now v_t_gone q_t_sights q_t_darkAt q_t_can), (q_t_refused, .inl (cy 0, 8, .inl v_t_refused))]) [0, 5] (by decide) rfl
    refine xcQiQ (w1 := [(q_t, oX8 q_t_shelf q_t_rowSort q_t_rowSize q_t_rows q_t_moved q_t_shown q_t_tape v_t_tapeSize q_t_refused v_t_places q_t_ways v_t_people q_t_kind q_t_by q_t_home q_t_aim q_t_at0 v_t_hour v_t_chance v_t_seed w_t_kept w_t_tried v_t_at v_t_token v_t_from v_t_figures v_t_fault q_t_told v_t_statements q_t_steps q_t_spot q_t_then v_t_now v_t_gone q_t_sights q_t_darkAt q_t_can), (q_t_refused, .inl (cy 0, 8, .inl u5))]) (va_runV (As := [.int (-2 : Int32)]) (rest := []) ⟨hx, hb, hml, hown, hts⟩ (mX8_refuse l D cy q_t q_t_shelf q_t_rowSort q_t_rowSize q_t_rows q_t_moved q_t_shown q_t_tape q_t_refused q_t_ways q_t_kind q_t_by q_t_home q_t_aim q_t_at0 q_t_told q_t_steps q_t_spot q_t_then q_t_sights q_t_darkAt q_t_can v_t_tapeSize v_t_places v_t_people v_t_hour v_t_chance v_t_seed w_t_kept w_t_tried v_t_at v_t_token v_t_from v_t_figures v_t_fault v_t_statements v_t_now v_t_gone v_t_refused _ (-2 : Int32) hr6) (cwV 1 hts gX8_row_X8_refuse rfl rfl rfl (by decide +kernel) ⟨Nat.le_of_ble_eq_true rfl, Nat.le_of_ble_eq_true rfl⟩) (xPVw hK hPc hDc (ci := 8) (q0 := 0) rfl rfl) rfl rfl hl.1 rfl (lv_room (Nat.le_of_ble_eq_true rfl)) dX8_row_39 ⟨Nat.le_of_ble_eq_true rfl, Nat.le_of_ble_eq_true rfl⟩) hP hD hS hA [0, 5] rfl rfl (fun H locs hP hD hS => ?_)
    have hP : va_P D vwCl ([(q_t, oX8 q_t_shelf q_t_rowSort q_t_rowSize q_t_rows q_t_moved q_t_shown q_t_tape v_t_tapeSize q_t_refused v_t_places q_t_ways v_t_people q_t_kind q_t_by q_t_home q_t_aim q_t_at0 v_t_hour v_t_chance v_t_seed w_t_kept w_t_tried v_t_at v_t_token v_t_from v_t_figures v_t_fault q_t_told v_t_statements q_t_steps q_t_spot q_t_then v_t_now v_t_gone q_t_sights q_t_darkAt q_t_can), (q_t_shelf, .inl (cy 0, 8, .inl v_t_shelf)), (q_t_rowSort, .inl (cy 0, 8, .inl v_t_rowSort)), (q_t_rowSize, .inl (cy 0, 8, .inl v_t_rowSize)), (q_t_rows, .inl (cy 4, 8, .inr (.inr (.inr (.inr (fun i => some (ad_t_rows i))))))), (q_t_refused, .inl (cy 0, 8, .inl u5))] ++ wFJ cy 8 40 ad_t_rows v_t_rows) H := hP
    have hD : va_D A ([(q_t, oX8 q_t_shelf q_t_rowSort q_t_rowSize q_t_rows q_t_moved q_t_shown q_t_tape v_t_tapeSize q_t_refused v_t_places q_t_ways v_t_people q_t_kind q_t_by q_t_home q_t_aim q_t_at0 v_t_hour v_t_chance v_t_seed w_t_kept w_t_tried v_t_at v_t_token v_t_from v_t_figures v_t_fault q_t_told v_t_statements q_t_steps q_t_spot q_t_then v_t_now v_t_gone q_t_sights q_t_darkAt q_t_can), (q_t_shelf, .inl (cy 0, 8, .inl v_t_shelf)), (q_t_rowSort, .inl (cy 0, 8, .inl v_t_rowSort)), (q_t_rowSize, .inl (cy 0, 8, .inl v_t_rowSize)), (q_t_rows, .inl (cy 4, 8, .inr (.inr (.inr (.inr (fun i => some (ad_t_rows i))))))), (q_t_refused, .inl (cy 0, 8, .inl u5))] ++ wFJ cy 8 40 ad_t_rows v_t_rows) := hD
    cases hf
    exact W.iret hx hb hr (fun t ht hW => ⟨⟨_, (), rfl, rfl, xend ht hP⟩, hS.F ht⟩) hS.2.2 dX8_row_42
  · refine lv_if_eq (tgt := 36) hx hb dX8_row_9 (by decide) (fun c24 => ?_) (fun c24 => ?_)
    · have hf := ifT hf c24
      clear c24
      exact J36 _ _ ls ⟨hP, hD, hS, lv_sub hl [0] rfl⟩ hf
    · have hf := ifF hf c24
      clear c24
      refine lv_iload_n hx hb dX8_row_12 rfl (lv_at hl 2 rfl) ?_
      refine lv_i2l hx hb dX8_row_13 rfl ?_
      refine lv_lconst (v := 0) hx hb dX8_row_14 (by decide) ?_
      refine lv_ldc2 hx hb hown hc100 dX8_row_15 ?_
      obtain ⟨r7, hr8, hf⟩ := boE1 hf
      have hPc := hP.sub (ws' := []) [] rfl
      refine xcSi (va_runS (As := [.long p1.toInt64, .long (0 : Int64), .long (4 : Int64)]) (rest := []) ⟨hx, hb, hml, hown, hts⟩ (mX8_in l D cy    p1.toInt64 (0 : Int64) (4 : Int64) hr8) (va_cwS 3 hts gX8_row_X8_in rfl rfl rfl (by decide +kernel) ⟨Nat.le_of_ble_eq_true rfl, Nat.le_of_ble_eq_true rfl⟩) (xPS hK hPc) rfl rfl hl.1 rfl (lv_room (Nat.le_of_ble_eq_true rfl)) dX8_row_18 ⟨Nat.le_of_ble_eq_true rfl, Nat.le_of_ble_eq_true rfl⟩) ?_
      refine lv_if_eq (tgt := 36) hx hb dX8_row_21 (by decide) (fun c23 => ?_) (fun c23 => ?_)
      · have hf := ifT hf c23
        clear c23
        exact J36 _ _ ls ⟨hP, hD, hS, lv_sub hl [0] rfl⟩ hf
      · have hf := ifF hf c23
        clear c23
        refine lv_iload_n hx hb dX8_row_24 rfl (lv_at hl 3 rfl) ?_
        refine lv_i2l hx hb dX8_row_25 rfl ?_
        refine lv_lconst (v := 0) hx hb dX8_row_26 (by decide) ?_
        refine lv_ldc2 hx hb hown hc102 dX8_row_27 ?_
        obtain ⟨r9, hr10, hf⟩ := boE1 hf
        have hPc := hP.sub (ws' := []) [] rfl
        refine xcSi (va_runS (As := [.long p2.toInt64, .long (0 : Int64), .long (40 : Int64)]) (rest := []) ⟨hx, hb, hml, hown, hts⟩ (mX8_in l D cy    p2.toInt64 (0 : Int64) (40 : Int64) hr10) (va_cwS 3 hts gX8_row_X8_in rfl rfl rfl (by decide +kernel) ⟨Nat.le_of_ble_eq_true rfl, Nat.le_of_ble_eq_true rfl⟩) (xPS hK hPc) rfl rfl hl.1 rfl (lv_room (Nat.le_of_ble_eq_true rfl)) dX8_row_30 ⟨Nat.le_of_ble_eq_true rfl, Nat.le_of_ble_eq_true rfl⟩) ?_
        refine lv_if_ne (tgt := 43) hx hb dX8_row_33 (by decide) (fun c22 => ?_) (fun c22 => ?_)
        · have hf := ifF hf c22
          clear c22
          refine lv_aload_n hx hb dX8_row_43 rfl (lv_at hl 0 rfl) ?_
          refine va_get (D := D) (ci := 8) (v := .ref q_t_shelf) (C := RX8) (T := TX8) (N := 37) hx hb hts hinX8 hown hK.1 hP 0 rfl rfl 0 (by decide) hk7 (fun _ h9 => h9) rfl dX8_row_44 ?_
          refine lv_iload_n hx hb dX8_row_47 rfl (lv_at hl 1 rfl) ?_
          refine lv_iconst (v := 1) hx hb dX8_row_48 (by decide) ?_
          obtain ⟨hi11, hf⟩ := ckE hf
          refine va_iast hx hb hK.1 hP hD hS 1 0 rfl rfl hi11 dX8_row_49 (fun H locs hP hD hS => ?_)
          have hP : va_P D vwCl ([(q_t, oX8 q_t_shelf q_t_rowSort q_t_rowSize q_t_rows q_t_moved q_t_shown q_t_tape v_t_tapeSize q_t_refused v_t_places q_t_ways v_t_people q_t_kind q_t_by q_t_home q_t_aim q_t_at0 v_t_hour v_t_chance v_t_seed w_t_kept w_t_tried v_t_at v_t_token v_t_from v_t_figures v_t_fault q_t_told v_t_statements q_t_steps q_t_spot q_t_then v_t_now v_t_gone q_t_sights q_t_darkAt q_t_can), (q_t_shelf, .inl (cy 0, 8, .inl (upd v_t_shelf p0.toNatClampNeg (1 : Int32)))), (q_t_rowSort, .inl (cy 0, 8, .inl v_t_rowSort)), (q_t_rowSize, .inl (cy 0, 8, .inl v_t_rowSize)), (q_t_rows, .inl (cy 4, 8, .inr (.inr (.inr (.inr (fun i => some (ad_t_rows i))))))), (q_t_refused, .inl (cy 0, 8, .inl v_t_refused))] ++ wFJ cy 8 40 ad_t_rows v_t_rows) H := hP
          have hD : va_D A ([(q_t, oX8 q_t_shelf q_t_rowSort q_t_rowSize q_t_rows q_t_moved q_t_shown q_t_tape v_t_tapeSize q_t_refused v_t_places q_t_ways v_t_people q_t_kind q_t_by q_t_home q_t_aim q_t_at0 v_t_hour v_t_chance v_t_seed w_t_kept w_t_tried v_t_at v_t_token v_t_from v_t_figures v_t_fault q_t_told v_t_statements q_t_steps q_t_spot q_t_then v_t_now v_t_gone q_t_sights q_t_darkAt q_t_can), (q_t_shelf, .inl (cy 0, 8, .inl (upd v_t_shelf p0.toNatClampNeg (1 : Int32)))), (q_t_rowSort, .inl (cy 0, 8, .inl v_t_rowSort)), (q_t_rowSize, .inl (cy 0, 8, .inl v_t_rowSize)), (q_t_rows, .inl (cy 4, 8, .inr (.inr (.inr (.inr (fun i => some (ad_t_rows i))))))), (q_t_refused, .inl (cy 0, 8, .inl v_t_refused))] ++ wFJ cy 8 40 ad_t_rows v_t_rows) := hD
          refine lv_aload_n hx hb dX8_row_50 rfl (lv_at hl 0 rfl) ?_
          refine va_get (D := D) (ci := 8) (v := .ref q_t_rowSort) (C := RX8) (T := TX8) (N := 37) hx hb hts hinX8 hown hK.1 hP 0 rfl rfl 1 (by decide) hk13 (fun _ h9 => h9) rfl dX8_row_51 ?_
          refine lv_iload_n hx hb dX8_row_54 rfl (lv_at hl 1 rfl) ?_
          refine lv_iload_n hx hb dX8_row_55 rfl (lv_at hl 2 rfl) ?_
          obtain ⟨hi12, hf⟩ := ckE hf
          refine va_iast hx hb hK.1 hP hD hS 2 0 rfl rfl hi12 dX8_row_56 (fun H locs hP hD hS => ?_)
          have hP : va_P D vwCl ([(q_t, oX8 q_t_shelf q_t_rowSort q_t_rowSize q_t_rows q_t_moved q_t_shown q_t_tape v_t_tapeSize q_t_refused v_t_places q_t_ways v_t_people q_t_kind q_t_by q_t_home q_t_aim q_t_at0 v_t_hour v_t_chance v_t_seed w_t_kept w_t_tried v_t_at v_t_token v_t_from v_t_figures v_t_fault q_t_told v_t_statements q_t_steps q_t_spot q_t_then v_t_now v_t_gone q_t_sights q_t_darkAt q_t_can), (q_t_shelf, .inl (cy 0, 8, .inl (upd v_t_shelf p0.toNatClampNeg (1 : Int32)))), (q_t_rowSort, .inl (cy 0, 8, .inl (upd v_t_rowSort p0.toNatClampNeg p1))), (q_t_rowSize, .inl (cy 0, 8, .inl v_t_rowSize)), (q_t_rows, .inl (cy 4, 8, .inr (.inr (.inr (.inr (fun i => some (ad_t_rows i))))))), (q_t_refused, .inl (cy 0, 8, .inl v_t_refused))] ++ wFJ cy 8 40 ad_t_rows v_t_rows) H := hP
          have hD : va_D A ([(q_t, oX8 q_t_shelf q_t_rowSort q_t_rowSize q_t_rows q_t_moved q_t_shown q_t_tape v_t_tapeSize q_t_refused v_t_places q_t_ways v_t_people q_t_kind q_t_by q_t_home q_t_aim q_t_at0 v_t_hour v_t_chance v_t_seed w_t_kept w_t_tried v_t_at v_t_token v_t_from v_t_figures v_t_fault q_t_told v_t_statements q_t_steps q_t_spot q_t_then v_t_now v_t_gone q_t_sights q_t_darkAt q_t_can), (q_t_shelf, .inl (cy 0, 8, .inl (upd v_t_shelf p0.toNatClampNeg (1 : Int32)))), (q_t_rowSort, .inl (cy 0, 8, .inl (upd v_t_rowSort p0.toNatClampNeg p1))), (q_t_rowSize, .inl (cy 0, 8, .inl v_t_rowSize)), (q_t_rows, .inl (cy 4, 8, .inr (.inr (.inr (.inr (fun i => some (ad_t_rows i))))))), (q_t_refused, .inl (cy 0, 8, .inl v_t_refused))] ++ wFJ cy 8 40 ad_t_rows v_t_rows) := hD
          refine lv_aload_n hx hb dX8_row_57 rfl (lv_at hl 0 rfl) ?_
          refine va_get (D := D) (ci := 8) (v := .ref q_t_rowSize) (C := RX8) (T := TX8) (N := 37) hx hb hts hinX8 hown hK.1 hP 0 rfl rfl 2 (by decide) hk16 (fun _ h9 => h9) rfl dX8_row_58 ?_
          refine lv_iload_n hx hb dX8_row_61 rfl (lv_at hl 1 rfl) ?_
          refine lv_iload_n hx hb dX8_row_62 rfl (lv_at hl 3 rfl) ?_
          obtain ⟨hi13, hf⟩ := ckE hf
          refine va_iast hx hb hK.1 hP hD hS 3 0 rfl rfl hi13 dX8_row_63 (fun H locs hP hD hS => ?_)
          have hP : va_P D vwCl ([(q_t, oX8 q_t_shelf q_t_rowSort q_t_rowSize q_t_rows q_t_moved q_t_shown q_t_tape v_t_tapeSize q_t_refused v_t_places q_t_ways v_t_people q_t_kind q_t_by q_t_home q_t_aim q_t_at0 v_t_hour v_t_chance v_t_seed w_t_kept w_t_tried v_t_at v_t_token v_t_from v_t_figures v_t_fault q_t_told v_t_statements q_t_steps q_t_spot q_t_then v_t_now v_t_gone q_t_sights q_t_darkAt q_t_can), (q_t_shelf, .inl (cy 0, 8, .inl (upd v_t_shelf p0.toNatClampNeg (1 : Int32)))), (q_t_rowSort, .inl (cy 0, 8, .inl (upd v_t_rowSort p0.toNatClampNeg p1))), (q_t_rowSize, .inl (cy 0, 8, .inl (upd v_t_rowSize p0.toNatClampNeg p2))), (q_t_rows, .inl (cy 4, 8, .inr (.inr (.inr (.inr (fun i => some (ad_t_rows i))))))), (q_t_refused, .inl (cy 0, 8, .inl v_t_refused))] ++ wFJ cy 8 40 ad_t_rows v_t_rows) H := hP
          have hD : va_D A ([(q_t, oX8 q_t_shelf q_t_rowSort q_t_rowSize q_t_rows q_t_moved q_t_shown q_t_tape v_t_tapeSize q_t_refused v_t_places q_t_ways v_t_people q_t_kind q_t_by q_t_home q_t_aim q_t_at0 v_t_hour v_t_chance v_t_seed w_t_kept w_t_tried v_t_at v_t_token v_t_from v_t_figures v_t_fault q_t_told v_t_statements q_t_steps q_t_spot q_t_then v_t_now v_t_gone q_t_sights q_t_darkAt q_t_can), (q_t_shelf, .inl (cy 0, 8, .inl (upd v_t_shelf p0.toNatClampNeg (1 : Int32)))), (q_t_rowSort, .inl (cy 0, 8, .inl (upd v_t_rowSort p0.toNatClampNeg p1))), (q_t_rowSize, .inl (cy 0, 8, .inl (upd v_t_rowSize p0.toNatClampNeg p2))), (q_t_rows, .inl (cy 4, 8, .inr (.inr (.inr (.inr (fun i => some (ad_t_rows i))))))), (q_t_refused, .inl (cy 0, 8, .inl v_t_refused))] ++ wFJ cy 8 40 ad_t_rows v_t_rows) := hD
          refine lv_iconst (v := 0) hx hb dX8_row_64 (by decide) ?_
          refine lv_istore (lv' := [(4, .int (0 : Int32)), (0, .ref q_t), (1, .int p0), (2, .int p1), (3, .int p2)]) hx hb dX8_row_65 hl (by decide) rfl (fun ls hl => ?_)
          refine wlw2 67 (fun _ _ => []) (fun (x14 : Int32) (u15 : Nat → Nat → Int64) H locs ls => va_P D vwCl ([(q_t, oX8 q_t_shelf q_t_rowSort q_t_rowSize q_t_rows q_t_moved q_t_shown q_t_tape v_t_tapeSize q_t_refused v_t_places q_t_ways v_t_people q_t_kind q_t_by q_t_home q_t_aim q_t_at0 v_t_hour v_t_chance v_t_seed w_t_kept w_t_tried v_t_at v_t_token v_t_from v_t_figures v_t_fault q_t_told v_t_statements q_t_steps q_t_spot q_t_then v_t_now v_t_gone q_t_sights q_t_darkAt q_t_can), (q_t_shelf, .inl (cy 0, 8, .inl (upd v_t_shelf p0.toNatClampNeg (1 : Int32)))), (q_t_rowSort, .inl (cy 0, 8, .inl (upd v_t_rowSort p0.toNatClampNeg p1))), (q_t_rowSize, .inl (cy 0, 8, .inl (upd v_t_rowSize p0.toNatClampNeg p2))), (q_t_rows, .inl (cy 4, 8, .inr (.inr (.inr (.inr (fun i => some (ad_t_rows i))))))), (q_t_refused, .inl (cy 0, 8, .inl v_t_refused))] ++ wFJ cy 8 40 ad_t_rows u15) H ∧ va_D A ([(q_t, oX8 q_t_shelf q_t_rowSort q_t_rowSize q_t_rows q_t_moved q_t_shown q_t_tape v_t_tapeSize q_t_refused v_t_places q_t_ways v_t_people q_t_kind q_t_by q_t_home q_t_aim q_t_at0 v_t_hour v_t_chance v_t_seed w_t_kept w_t_tried v_t_at v_t_token v_t_from v_t_figures v_t_fault q_t_told v_t_statements q_t_steps q_t_spot q_t_then v_t_now v_t_gone q_t_sights q_t_darkAt q_t_can), (q_t_shelf, .inl (cy 0, 8, .inl (upd v_t_shelf p0.toNatClampNeg (1 : Int32)))), (q_t_rowSort, .inl (cy 0, 8, .inl (upd v_t_rowSort p0.toNatClampNeg p1))), (q_t_rowSize, .inl (cy 0, 8, .inl (upd v_t_rowSize p0.toNatClampNeg p2))), (q_t_rows, .inl (cy 4, 8, .inr (.inr (.inr (.inr (fun i => some (ad_t_rows i))))))), (q_t_refused, .inl (cy 0, 8, .inl v_t_refused))] ++ wFJ cy 8 40 ad_t_rows u15) ∧ va_S A s.heap H locs ∧ lv_has ls 5 [(4, .int x14), (0, .ref q_t), (1, .int p0)]) (fun g16 L67 x14 u15 H locs ls hI hf => ?_) 400 (0 : Int32) v_t_rows _ _ ls ⟨hP, hD, hS, lv_sub hl [0, 1, 2] rfl⟩ hf
          obtain ⟨hP, hD, hS, hl⟩ := hI
          refine lv_iload hx hb dX8_row_67 (lv_at hl 0 rfl) ?_
          refine lv_bipush (v := 40) hx hb dX8_row_69 (by decide) ?_
          refine lv_icmp_ge (tgt := 90) hx hb dX8_row_71 (by decide) (fun c21 => ?_) (fun c21 => ?_)
          · have hf := ifT hf c21
            clear c21
            refine lv_iconst (v := 1) hx hb dX8_row_90 (by decide) ?_
            cases hf
            exact W.iret (v := (1 : Int32)) hx hb hr (fun t ht hW => ⟨⟨(1 : Int32), (), rfl, rfl, xend ht hP⟩, hS.F ht⟩) hS.2.2 dX8_row_91
          · have hf := ifF hf c21
            clear c21
            refine lv_aload_n hx hb dX8_row_74 rfl (lv_at hl 1 rfl) ?_
            refine va_get (D := D) (ci := 8) (v := .ref q_t_rows) (C := RX8) (T := TX8) (N := 37) hx hb hts hinX8 hown hK.1 hP 0 rfl rfl 3 (by decide) hk21 (fun _ h9 => h9) rfl dX8_row_75 ?_
            refine lv_iload_n hx hb dX8_row_78 rfl (lv_at hl 2 rfl) ?_
            obtain ⟨hi17, hf⟩ := ckE hf
            have hj18 : p0.toNatClampNeg < 8 := xlt hi17
            refine va_alda hx hb hK.1 hP 4 4 rfl rfl hi17 dX8_row_79 ?_
            refine W.eq (g2 := F0 m 80 ls [.ref (ad_t_rows p0.toNatClampNeg)]) rfl ?_
            refine lv_iload hx hb dX8_row_80 (lv_at hl 0 rfl) ?_
            refine lv_lconst (v := 0) hx hb dX8_row_82 (by decide) ?_
            obtain ⟨hi19, hf⟩ := ckE hf
            refine va_last hx hb hK.1 hP hD hS _ 1 (xfj hj18) rfl hi19 dX8_row_83 (fun H locs hP hD hS => ?_)
            rw [xfj_set hj18] at hP hD
            have hP : va_P D vwCl ([(q_t, oX8 q_t_shelf q_t_rowSort q_t_rowSize q_t_rows q_t_moved q_t_shown q_t_tape v_t_tapeSize q_t_refused v_t_places q_t_ways v_t_people q_t_kind q_t_by q_t_home q_t_aim q_t_at0 v_t_hour v_t_chance v_t_seed w_t_kept w_t_tried v_t_at v_t_token v_t_from v_t_figures v_t_fault q_t_told v_t_statements q_t_steps q_t_spot q_t_then v_t_now v_t_gone q_t_sights q_t_darkAt q_t_can), (q_t_shelf, .inl (cy 0, 8, .inl (upd v_t_shelf p0.toNatClampNeg (1 : Int32)))), (q_t_rowSort, .inl (cy 0, 8, .inl (upd v_t_rowSort p0.toNatClampNeg p1))), (q_t_rowSize, .inl (cy 0, 8, .inl (upd v_t_rowSize p0.toNatClampNeg p2))), (q_t_rows, .inl (cy 4, 8, .inr (.inr (.inr (.inr (fun i => some (ad_t_rows i))))))), (q_t_refused, .inl (cy 0, 8, .inl v_t_refused))] ++ wFJ cy 8 40 ad_t_rows (va_up u15 p0.toNatClampNeg (vp_updL (u15 p0.toNatClampNeg) x14.toNatClampNeg (0 : Int64)))) H := hP
            have hD : va_D A ([(q_t, oX8 q_t_shelf q_t_rowSort q_t_rowSize q_t_rows q_t_moved q_t_shown q_t_tape v_t_tapeSize q_t_refused v_t_places q_t_ways v_t_people q_t_kind q_t_by q_t_home q_t_aim q_t_at0 v_t_hour v_t_chance v_t_seed w_t_kept w_t_tried v_t_at v_t_token v_t_from v_t_figures v_t_fault q_t_told v_t_statements q_t_steps q_t_spot q_t_then v_t_now v_t_gone q_t_sights q_t_darkAt q_t_can), (q_t_shelf, .inl (cy 0, 8, .inl (upd v_t_shelf p0.toNatClampNeg (1 : Int32)))), (q_t_rowSort, .inl (cy 0, 8, .inl (upd v_t_rowSort p0.toNatClampNeg p1))), (q_t_rowSize, .inl (cy 0, 8, .inl (upd v_t_rowSize p0.toNatClampNeg p2))), (q_t_rows, .inl (cy 4, 8, .inr (.inr (.inr (.inr (fun i => some (ad_t_rows i))))))), (q_t_refused, .inl (cy 0, 8, .inl v_t_refused))] ++ wFJ cy 8 40 ad_t_rows (va_up u15 p0.toNatClampNeg (vp_updL (u15 p0.toNatClampNeg) x14.toNatClampNeg (0 : Int64)))) := hD
            obtain ⟨x20, ex20⟩ : ∃ y : Int32, y = x14 + (1 : Int32) := ⟨_, rfl⟩
            have hf := vlE hf ex20
            refine lv_iinc (v := x20) (lv' := [(4, .int x20), (0, .ref q_t), (1, .int p0)]) hx hb dX8_row_84 hl (k := 0) rfl (by rw [ex20]; rfl) (by decide) rfl (fun ls hl => ?_)
            clear ex20
            refine lv_goto (tgt := 67) hx hb dX8_row_87 (by decide) ?_
            exact L67 x20 (va_up u15 p0.toNatClampNeg (vp_updL (u15 p0.toNatClampNeg) x14.toNatClampNeg (0 : Int64))) _ _ ls ⟨hP, hD, hS, lv_sub hl [0, 1, 2] rfl⟩ hf
        · have hf := ifT hf c22
          clear c22
          exact J36 _ _ ls ⟨hP, hD, hS, lv_sub hl [0] rfl⟩ hf
def fX8_fit (p0 : Int32) (p1 : Int64) : Option (Int64) :=
  if p0 = (0 : Int32) then
    some p1.toInt32.toInt8.toInt32.toInt64
  else
    if p0 = (1 : Int32) then
      some p1.toInt32.toInt16.toInt32.toInt64
    else
      if p0 = (2 : Int32) then
        some p1.toInt32.toInt64
      else
        if p0 = (3 : Int32) then
          some p1
        else
          if (lg_cmp p1 (0 : Int64)) = 0 then
            some (0 : Int64)
          else
            some (1 : Int64)
set_option maxHeartbeats 4000000 in
set_option maxRecDepth 100000 in
theorem mX8_fit (l : Launch) (D : va_G) (cy : Nat → ClassId) (p0 : Int32) (p1 : Int64) {r_ : Int64} (hf : fX8_fit p0 p1 = some r_) : Met l yX8_fit wsX8_fit ({ frames := 0, cells := 0, slots := 0, locals := 0 }) (va_Pc [.int p0, .long p1] (fun U => va_P D vwCl [] U.heap ∧ xK D cy U)) (vp_Sl (fun x => x = r_)) 0 0 (fun _ => False) := by
  refine Met.ofW (cc := cX8_fit) (maxL := 3) (ret := (some .long)) (by decide) rfl ?_
  intro p e s m args below meth c s₁ B hml hv
  obtain ⟨rfl, hP, hK⟩ := hv
  have hx := B.exec
  have hb := B.bytes
  have hr := B.returns
  have hts := atoms_spec (ws := wsX8_fit) B.pre
  have hown : s.vm.findClass RX8 = some m.cls := findClass_of_methodNamed B.named
  have hlocks := B.notSynchronized
  have hP : va_P D vwCl [] s.heap := hP
  have hl := lv_entry ([.int p0, .long p1]) (n := 3) (Nat.le_of_ble_eq_true rfl)
  rw [lg_entry_eq]
  generalize (lg_sl ([.int p0, .long p1]) ++ List.replicate (3 - (lg_sl ([.int p0, .long p1])).length) Slot.unset).toArray = ls at hl ⊢
  have hl : lv_has ls 3 [(0, .int p0), (1, .long p1)] := hl
  unfold fX8_fit at hf
  refine lv_iload_n hx hb dX8_fit_0 rfl (lv_at hl 0 rfl) ?_
  by_cases c2 : p0 = (0 : Int32)
  · have hf := ifT hf c2
    refine lv_tableIn (tgt := 32) hx hb dX8_fit_1 (by rw [c2]; decide) (by rw [c2]; decide) (by rw [c2]; rfl) (by decide) ?_
    refine lv_lload_n hx hb dX8_fit_32 rfl (lv_at hl 1 rfl) ?_
    refine lv_l2i hx hb dX8_fit_33 rfl ?_
    refine lv_i2b hx hb dX8_fit_34 rfl ?_
    refine lv_i2l hx hb dX8_fit_35 rfl ?_
    exact W.lret (v := p1.toInt32.toInt8.toInt32.toInt64) hx hb hr (fun t ht hW => ⟨p1.toInt32.toInt8.toInt32.toInt64, rfl, Option.some.inj hf, ht⟩) (fun q h => nomatch h) dX8_fit_36
  · have hf := ifF hf c2
    by_cases c3 : p0 = (1 : Int32)
    · have hf := ifT hf c3
      refine lv_tableIn (tgt := 37) hx hb dX8_fit_1 (by rw [c3]; decide) (by rw [c3]; decide) (by rw [c3]; rfl) (by decide) ?_
      refine lv_lload_n hx hb dX8_fit_37 rfl (lv_at hl 1 rfl) ?_
      refine lv_l2i hx hb dX8_fit_38 rfl ?_
      refine lv_i2s hx hb dX8_fit_39 rfl ?_
      refine lv_i2l hx hb dX8_fit_40 rfl ?_
      exact W.lret (v := p1.toInt32.toInt16.toInt32.toInt64) hx hb hr (fun t ht hW => ⟨p1.toInt32.toInt16.toInt32.toInt64, rfl, Option.some.inj hf, ht⟩) (fun q h => nomatch h) dX8_fit_41
    · have hf := ifF hf c3
      by_cases c4 : p0 = (2 : Int32)
      · have hf := ifT hf c4
        refine lv_tableIn (tgt := 42) hx hb dX8_fit_1 (by rw [c4]; decide) (by rw [c4]; decide) (by rw [c4]; rfl) (by decide) ?_
        refine lv_lload_n hx hb dX8_fit_42 rfl (lv_at hl 1 rfl) ?_
        refine lv_l2i hx hb dX8_fit_43 rfl ?_
        refine lv_i2l hx hb dX8_fit_44 rfl ?_
        exact W.lret (v := p1.toInt32.toInt64) hx hb hr (fun t ht hW => ⟨p1.toInt32.toInt64, rfl, Option.some.inj hf, ht⟩) (fun q h => nomatch h) dX8_fit_45
      · have hf := ifF hf c4
        by_cases c5 : p0 = (3 : Int32)
        · have hf := ifT hf c5
          refine lv_tableIn (tgt := 46) hx hb dX8_fit_1 (by rw [c5]; decide) (by rw [c5]; decide) (by rw [c5]; rfl) (by decide) ?_
          refine lv_lload_n hx hb dX8_fit_46 rfl (lv_at hl 1 rfl) ?_
          exact W.lret (v := p1) hx hb hr (fun t ht hW => ⟨p1, rfl, Option.some.inj hf, ht⟩) (fun q h => nomatch h) dX8_fit_47
        · have hf := ifF hf c5
          refine lv_tableOut (tgt := 48) hx hb dX8_fit_1 (by have n0 := lv_neT c2 (a := 0) (by decide); have n1 := lv_neT c3 (a := 1) (by decide); have n2 := lv_neT c4 (a := 2) (by decide); have n3 := lv_neT c5 (a := 3) (by decide); omega) (by decide) ?_
          refine lv_lload_n hx hb dX8_fit_48 rfl (lv_at hl 1 rfl) ?_
          refine lv_lconst (v := 0) hx hb dX8_fit_49 (by decide) ?_
          refine W.lcmp hx hb dX8_fit_50 ?_
          refine lv_if_eq (tgt := 58) hx hb dX8_fit_51 (by decide) (fun c1 => ?_) (fun c1 => ?_)
          · have hf := ifT hf c1
            clear c1
            refine lv_lconst (v := 0) hx hb dX8_fit_58 (by decide) ?_
            exact W.lret (v := (0 : Int64)) hx hb hr (fun t ht hW => ⟨(0 : Int64), rfl, Option.some.inj hf, ht⟩) (fun q h => nomatch h) dX8_fit_59
          · have hf := ifF hf c1
            clear c1
            refine lv_lconst (v := 1) hx hb dX8_fit_54 (by decide) ?_
            refine lv_goto (tgt := 59) hx hb dX8_fit_55 (by decide) ?_
            exact W.lret (v := (1 : Int64)) hx hb hr (fun t ht hW => ⟨(1 : Int64), rfl, Option.some.inj hf, ht⟩) (fun q h => nomatch h) dX8_fit_59
def fX8_noRow (v_t_shelf : Nat → Int32) (v_t_refused : Nat → Int32) (p0 : Int32) : Option (Int32 × (Nat → Int32)) :=
  bo1 (fX8_in p0.toInt64 (0 : Int64) (7 : Int64)) fun r1 =>
  if r1 = 0 then
    bo2 (fX8_refuse v_t_refused (-2 : Int32)) fun r13 u14 =>
    some (r13, u14)
  else
    if p0 < 0 ∨ 8 ≤ p0.toNatClampNeg then none else
    if (v_t_shelf p0.toNatClampNeg) = (2 : Int32) then
      bo2 (fX8_refuse v_t_refused (-3 : Int32)) fun r9 u10 =>
      some (r9, u10)
    else
      if p0 < 0 ∨ 8 ≤ p0.toNatClampNeg then none else
      if (v_t_shelf p0.toNatClampNeg) = 0 then
        bo2 (fX8_refuse v_t_refused (-4 : Int32)) fun r5 u6 =>
        some (r5, u6)
      else
        some ((0 : Int32), v_t_refused)
set_option maxHeartbeats 4000000 in
set_option maxRecDepth 100000 in
theorem mX8_noRow (l : Launch) (D : va_G) (cy : Nat → ClassId) (q_t q_t_shelf q_t_rowSort q_t_rowSize q_t_rows q_t_moved q_t_shown q_t_tape q_t_refused q_t_ways q_t_kind q_t_by q_t_home q_t_aim q_t_at0 q_t_told q_t_steps q_t_spot q_t_then q_t_sights q_t_darkAt q_t_can : Nat) (v_t_tapeSize : Int32) (v_t_places : Int32) (v_t_people : Int32) (v_t_hour : Int32) (v_t_chance : Int32) (v_t_seed : Int32) (w_t_kept : Value) (w_t_tried : Value) (v_t_at : Int32) (v_t_token : Int32) (v_t_from : Int32) (v_t_figures : Int32) (v_t_fault : Int32) (v_t_statements : Int32) (v_t_now : Int32) (v_t_gone : Int32) (v_t_shelf : Nat → Int32) (v_t_refused : Nat → Int32) (sz : Nat) (p0 : Int32) {r_ : Int32} {n_t_refused : Nat → Int32} (hf : fX8_noRow v_t_shelf v_t_refused p0 = some (r_, n_t_refused)) : Met l yX8_noRow wsX8_noRow ({ frames := 1, cells := 0, slots := 0, locals := 25 }) (va_Pc [.ref q_t, .int p0] (fun U => U.heap.size = sz ∧ va_P D vwCl [(q_t, oX8 q_t_shelf q_t_rowSort q_t_rowSize q_t_rows q_t_moved q_t_shown q_t_tape v_t_tapeSize q_t_refused v_t_places q_t_ways v_t_people q_t_kind q_t_by q_t_home q_t_aim q_t_at0 v_t_hour v_t_chance v_t_seed w_t_kept w_t_tried v_t_at v_t_token v_t_from v_t_figures v_t_fault q_t_told v_t_statements q_t_steps q_t_spot q_t_then v_t_now v_t_gone q_t_sights q_t_darkAt q_t_can), (q_t_shelf, .inl (cy 0, 8, .inl v_t_shelf)), (q_t_refused, .inl (cy 0, 8, .inl v_t_refused))] U.heap ∧ xK D cy U ∧ va_D (fun _ => True) [(q_t, oX8 q_t_shelf q_t_rowSort q_t_rowSize q_t_rows q_t_moved q_t_shown q_t_tape v_t_tapeSize q_t_refused v_t_places q_t_ways v_t_people q_t_kind q_t_by q_t_home q_t_aim q_t_at0 v_t_hour v_t_chance v_t_seed w_t_kept w_t_tried v_t_at v_t_token v_t_from v_t_figures v_t_fault q_t_told v_t_statements q_t_steps q_t_spot q_t_then v_t_now v_t_gone q_t_sights q_t_darkAt q_t_can), (q_t_shelf, .inl (cy 0, 8, .inl v_t_shelf)), (q_t_refused, .inl (cy 0, 8, .inl v_t_refused))])) (va_Qi (fun (x : Int32) (_ : Unit) => x = r_) (fun _ t => va_P D vwCl [(q_t, oX8 q_t_shelf q_t_rowSort q_t_rowSize q_t_rows q_t_moved q_t_shown q_t_tape v_t_tapeSize q_t_refused v_t_places q_t_ways v_t_people q_t_kind q_t_by q_t_home q_t_aim q_t_at0 v_t_hour v_t_chance v_t_seed w_t_kept w_t_tried v_t_at v_t_token v_t_from v_t_figures v_t_fault q_t_told v_t_statements q_t_steps q_t_spot q_t_then v_t_now v_t_gone q_t_sights q_t_darkAt q_t_can), (q_t_shelf, .inl (cy 0, 8, .inl v_t_shelf)), (q_t_refused, .inl (cy 0, 8, .inl n_t_refused))] t.heap) (va_A [(q_t, oX8 q_t_shelf q_t_rowSort q_t_rowSize q_t_rows q_t_moved q_t_shown q_t_tape v_t_tapeSize q_t_refused v_t_places q_t_ways v_t_people q_t_kind q_t_by q_t_home q_t_aim q_t_at0 v_t_hour v_t_chance v_t_seed w_t_kept w_t_tried v_t_at v_t_token v_t_from v_t_figures v_t_fault q_t_told v_t_statements q_t_steps q_t_spot q_t_then v_t_now v_t_gone q_t_sights q_t_darkAt q_t_can), (q_t_shelf, .inl (cy 0, 8, .inl v_t_shelf)), (q_t_refused, .inl (cy 0, 8, .inl v_t_refused))] sz)) 0 0 (va_A [(q_t, oX8 q_t_shelf q_t_rowSort q_t_rowSize q_t_rows q_t_moved q_t_shown q_t_tape v_t_tapeSize q_t_refused v_t_places q_t_ways v_t_people q_t_kind q_t_by q_t_home q_t_aim q_t_at0 v_t_hour v_t_chance v_t_seed w_t_kept w_t_tried v_t_at v_t_token v_t_from v_t_figures v_t_fault q_t_told v_t_statements q_t_steps q_t_spot q_t_then v_t_now v_t_gone q_t_sights q_t_darkAt q_t_can), (q_t_shelf, .inl (cy 0, 8, .inl v_t_shelf)), (q_t_refused, .inl (cy 0, 8, .inl v_t_refused))] sz) := by
  refine Met.ofW (cc := cX8_noRow) (maxL := 2) (ret := (some .int)) (by decide) rfl ?_
  intro p e s m args below meth c s₁ B hml hv
  obtain ⟨rfl, hsz, hP, hK, hD0⟩ := hv
  have hx := B.exec
  have hb := B.bytes
  have hr := B.returns
  have hts := atoms_spec (ws := wsX8_noRow) B.pre
  have hown : s.vm.findClass RX8 = some m.cls := findClass_of_methodNamed B.named
  have hlocks := B.notSynchronized
  subst hsz
  have hD := hD0.self (sz := s.heap.size)
  generalize hAe : va_A [(q_t, oX8 q_t_shelf q_t_rowSort q_t_rowSize q_t_rows q_t_moved q_t_shown q_t_tape v_t_tapeSize q_t_refused v_t_places q_t_ways v_t_people q_t_kind q_t_by q_t_home q_t_aim q_t_at0 v_t_hour v_t_chance v_t_seed w_t_kept w_t_tried v_t_at v_t_token v_t_from v_t_figures v_t_fault q_t_told v_t_statements q_t_steps q_t_spot q_t_then v_t_now v_t_gone q_t_sights q_t_darkAt q_t_can), (q_t_shelf, .inl (cy 0, 8, .inl v_t_shelf)), (q_t_refused, .inl (cy 0, 8, .inl v_t_refused))] s.heap.size = A at hD ⊢
  have hA : ∀ q : Nat, s.heap.size ≤ q → A q := fun q h => by rw [← hAe]; exact Or.inr h
  have hS : va_S A s.heap s.heap [] := va_S.rf
  have hP : va_P D vwCl [(q_t, oX8 q_t_shelf q_t_rowSort q_t_rowSize q_t_rows q_t_moved q_t_shown q_t_tape v_t_tapeSize q_t_refused v_t_places q_t_ways v_t_people q_t_kind q_t_by q_t_home q_t_aim q_t_at0 v_t_hour v_t_chance v_t_seed w_t_kept w_t_tried v_t_at v_t_token v_t_from v_t_figures v_t_fault q_t_told v_t_statements q_t_steps q_t_spot q_t_then v_t_now v_t_gone q_t_sights q_t_darkAt q_t_can), (q_t_shelf, .inl (cy 0, 8, .inl v_t_shelf)), (q_t_refused, .inl (cy 0, 8, .inl v_t_refused))] s.heap := hP
  have hc98 := hts (.constantLong RX8 98 (7)) (by decide +kernel)
  have hinX8 : ∀ w ∈ u_ws RX8 TX8 37, w ∈ wsX8_noRow := by decide +kernel
  have hk7 := hts (.fieldLink RX8 7 "ShowsWhereNobodyIsModel" "shelf" "[I") (by decide +kernel)
  have hl := lv_entry ([.ref q_t, .int p0]) (n := 2) (Nat.le_of_ble_eq_true rfl)
  rw [lg_entry_eq]
  generalize (lg_sl ([.ref q_t, .int p0]) ++ List.replicate (2 - (lg_sl ([.ref q_t, .int p0])).length) Slot.unset).toArray = ls at hl ⊢
  have hl : lv_has ls 2 [(0, .ref q_t), (1, .int p0)] := hl
  unfold fX8_noRow at hf
  refine lv_iload_n hx hb dX8_noRow_0 rfl (lv_at hl 1 rfl) ?_
  refine lv_i2l hx hb dX8_noRow_1 rfl ?_
  refine lv_lconst (v := 0) hx hb dX8_noRow_2 (by decide) ?_
  refine lv_ldc2 hx hb hown hc98 dX8_noRow_3 ?_
  obtain ⟨r1, hr2, hf⟩ := boE1 hf
  have hPc := hP.sub (ws' := []) [] rfl
  refine xcSi (va_runS (As := [.long p0.toInt64, .long (0 : Int64), .long (7 : Int64)]) (rest := []) ⟨hx, hb, hml, hown, hts⟩ (mX8_in l D cy    p0.toInt64 (0 : Int64) (7 : Int64) hr2) (va_cwS 3 hts gX8_noRow_X8_in rfl rfl rfl (by decide +kernel) ⟨Nat.le_of_ble_eq_true rfl, Nat.le_of_ble_eq_true rfl⟩) (xPS hK hPc) rfl rfl hl.1 rfl (lv_room (Nat.le_of_ble_eq_true rfl)) dX8_noRow_6 ⟨Nat.le_of_ble_eq_true rfl, Nat.le_of_ble_eq_true rfl⟩) ?_
  refine lv_if_ne (tgt := 19) hx hb dX8_noRow_9 (by decide) (fun c16 => ?_) (fun c16 => ?_)
  · have hf := ifF hf c16
    clear c16
    refine lv_aload_n hx hb dX8_noRow_19 rfl (lv_at hl 0 rfl) ?_
    refine va_get (D := D) (ci := 8) (v := .ref q_t_shelf) (C := RX8) (T := TX8) (N := 37) hx hb hts hinX8 hown hK.1 hP 0 rfl rfl 0 (by decide) hk7 (fun _ h9 => h9) rfl dX8_noRow_20 ?_
    refine lv_iload_n hx hb dX8_noRow_23 rfl (lv_at hl 1 rfl) ?_
    obtain ⟨hi3, hf⟩ := ckE hf
    refine va_iald hx hb hK.1 hP 1 0 rfl rfl hi3 dX8_noRow_24 ?_
    refine lv_iconst (v := 2) hx hb dX8_noRow_25 (by decide) ?_
    refine lv_icmp_ne (tgt := 36) hx hb dX8_noRow_26 (by decide) (fun c12 => ?_) (fun c12 => ?_)
    · have hf := ifF hf c12
      clear c12
      refine lv_aload_n hx hb dX8_noRow_36 rfl (lv_at hl 0 rfl) ?_
      refine va_get (D := D) (ci := 8) (v := .ref q_t_shelf) (C := RX8) (T := TX8) (N := 37) hx hb hts hinX8 hown hK.1 hP 0 rfl rfl 0 (by decide) hk7 (fun _ h9 => h9) rfl dX8_noRow_37 ?_
      refine lv_iload_n hx hb dX8_noRow_40 rfl (lv_at hl 1 rfl) ?_
      obtain ⟨hi4, hf⟩ := ckE hf
      refine va_iald hx hb hK.1 hP 1 0 rfl rfl hi4 dX8_noRow_41 ?_
      refine lv_if_ne (tgt := 54) hx hb dX8_noRow_42 (by decide) (fun c8 => ?_) (fun c8 => ?_)
      · have hf := ifF hf c8
        clear c8
        refine lv_iconst (v := 0) hx hb dX8_noRow_54 (by decide) ?_
        cases hf
        exact W.iret (v := (0 : Int32)) hx hb hr (fun t ht hW => ⟨⟨(0 : Int32), (), rfl, rfl, xend ht hP⟩, hS.F ht⟩) hS.2.2 dX8_noRow_55
      · have hf := ifT hf c8
        clear c8
        refine lv_aload_n hx hb dX8_noRow_45 rfl (lv_at hl 0 rfl) ?_
        refine lv_bipush (v := (-4)) hx hb dX8_noRow_46 (by decide) ?_
        obtain ⟨r5, u6, hr7, hf⟩ := boE2 hf
        have hPc := hP.sub (ws' := [(q_t, oX8 q_t_shelf q_t_rowSort q_t_rowSize q_t_rows q_t_moved q_t_shown q_t_tape v_t_tapeSize q_t_refused v_t_places q_t_ways v_t_people q_t_kind q_t_by q_t_home q_t_aim q_t_at0 v_t_hour v_t_chance v_t_seed w_t_kept w_t_tried v_t_at v_t_token v_t_from v_t_figures v_t_fault q_t_told v_t_statements q_t_steps q_t_spot q_t_then v_t_now v_t_gone q_t_sights q_t_darkAt q_t_can), (q_t_refused, .inl (cy 0, 8, .inl v_t_refused))]) [0, 2] rfl
        have hDc := hD.sub (ws' := [(q_t, oX8 q_t_shelf q_t_rowSort q_t_rowSize q_t_rows q_t_moved q_t_shown q_t_tape v_t_tapeSize q_t_refused v_t_places q_t_ways v_t_people q_t_kind q_t_by q_t_home q_t_aim q_t_at0 v_t_hour v_t_chance v_t_seed w_t_kept w_t_tried v_t_at v_t_token v_t_from v_t_figures v_t_fault q_t_told v_t_statements q_t_steps q_t_spot q_t_then v_t_now v_t_gone q_t_sights q_t_darkAt q_t_can), (q_t_refused, .inl (cy 0, 8, .inl v_t_refused))]) [0, 2] (by decide) rfl
        refine xcQi (w1 := [(q_t, oX8 q_t_shelf q_t_rowSort q_t_rowSize q_t_rows q_t_moved q_t_shown q_t_tape v_t_tapeSize q_t_refused v_t_places q_t_ways v_t_people q_t_kind q_t_by q_t_home q_t_aim q_t_at0 v_t_hour v_t_chance v_t_seed w_t_kept w_t_tried v_t_at v_t_token v_t_from v_t_figures v_t_fault q_t_told v_t_statements q_t_steps q_t_spot q_t_then v_t_now v_t_gone q_t_sights q_t_darkAt q_t_can), (q_t_refused, .inl (cy 0, 8, .inl u6))]) (va_runV (As := [.int (-4 : Int32)]) (rest := []) ⟨hx, hb, hml, hown, hts⟩ (mX8_refuse l D cy q_t q_t_shelf q_t_rowSort q_t_rowSize q_t_rows q_t_moved q_t_shown q_t_tape q_t_refused q_t_ways q_t_kind q_t_by q_t_home q_t_aim q_t_at0 q_t_told q_t_steps q_t_spot q_t_then q_t_sights q_t_darkAt q_t_can v_t_tapeSize v_t_places v_t_people v_t_hour v_t_chance v_t_seed w_t_kept w_t_tried v_t_at v_t_token v_t_from v_t_figures v_t_fault v_t_statements v_t_now v_t_gone v_t_refused _ (-4 : Int32) hr7) (cwV 1 hts gX8_noRow_X8_refuse rfl rfl rfl (by decide +kernel) ⟨Nat.le_of_ble_eq_true rfl, Nat.le_of_ble_eq_true rfl⟩) (xPVw hK hPc hDc (ci := 8) (q0 := 0) rfl rfl) rfl rfl hl.1 rfl (lv_room (Nat.le_of_ble_eq_true rfl)) dX8_noRow_48 ⟨Nat.le_of_ble_eq_true rfl, Nat.le_of_ble_eq_true rfl⟩) hP hD hS hA [0, 2] rfl rfl (fun H locs hP hD hS => ?_)
        have hP : va_P D vwCl [(q_t, oX8 q_t_shelf q_t_rowSort q_t_rowSize q_t_rows q_t_moved q_t_shown q_t_tape v_t_tapeSize q_t_refused v_t_places q_t_ways v_t_people q_t_kind q_t_by q_t_home q_t_aim q_t_at0 v_t_hour v_t_chance v_t_seed w_t_kept w_t_tried v_t_at v_t_token v_t_from v_t_figures v_t_fault q_t_told v_t_statements q_t_steps q_t_spot q_t_then v_t_now v_t_gone q_t_sights q_t_darkAt q_t_can), (q_t_shelf, .inl (cy 0, 8, .inl v_t_shelf)), (q_t_refused, .inl (cy 0, 8, .inl u6))] H := hP
        have hD : va_D A [(q_t, oX8 q_t_shelf q_t_rowSort q_t_rowSize q_t_rows q_t_moved q_t_shown q_t_tape v_t_tapeSize q_t_refused v_t_places q_t_ways v_t_people q_t_kind q_t_by q_t_home q_t_aim q_t_at0 v_t_hour v_t_chance v_t_seed w_t_kept w_t_tried v_t_at v_t_token v_t_from v_t_figures v_t_fault q_t_told v_t_statements q_t_steps q_t_spot q_t_then v_t_now v_t_gone q_t_sights q_t_darkAt q_t_can), (q_t_shelf, .inl (cy 0, 8, .inl v_t_shelf)), (q_t_refused, .inl (cy 0, 8, .inl u6))] := hD
        refine lv_goto (tgt := 55) hx hb dX8_noRow_51 (by decide) ?_
        cases hf
        exact W.iret hx hb hr (fun t ht hW => ⟨⟨_, (), rfl, rfl, xend ht hP⟩, hS.F ht⟩) hS.2.2 dX8_noRow_55
    · have hf := ifT hf c12
      clear c12
      refine lv_aload_n hx hb dX8_noRow_29 rfl (lv_at hl 0 rfl) ?_
      refine lv_bipush (v := (-3)) hx hb dX8_noRow_30 (by decide) ?_
      obtain ⟨r9, u10, hr11, hf⟩ := boE2 hf
      have hPc := hP.sub (ws' := [(q_t, oX8 q_t_shelf q_t_rowSort q_t_rowSize q_t_rows q_t_moved q_t_shown q_t_tape v_t_tapeSize q_t_refused v_t_places q_t_ways v_t_people q_t_kind q_t_by q_t_home q_t_aim q_t_at0 v_t_hour v_t_chance v_t_seed w_t_kept w_t_tried v_t_at v_t_token v_t_from v_t_figures v_t_fault q_t_told v_t_statements q_t_steps q_t_spot q_t_then v_t_now v_t_gone q_t_sights q_t_darkAt q_t_can), (q_t_refused, .inl (cy 0, 8, .inl v_t_refused))]) [0, 2] rfl
      have hDc := hD.sub (ws' := [(q_t, oX8 q_t_shelf q_t_rowSort q_t_rowSize q_t_rows q_t_moved q_t_shown q_t_tape v_t_tapeSize q_t_refused v_t_places q_t_ways v_t_people q_t_kind q_t_by q_t_home q_t_aim q_t_at0 v_t_hour v_t_chance v_t_seed w_t_kept w_t_tried v_t_at v_t_token v_t_from v_t_figures v_t_fault q_t_told v_t_statements q_t_steps q_t_spot q_t_then v_t_now v_t_gone q_t_sights q_t_darkAt q_t_can), (q_t_refused, .inl (cy 0, 8, .inl v_t_refused))]) [0, 2] (by decide) rfl
      refine xcQi (w1 := [(q_t, oX8 q_t_shelf q_t_rowSort q_t_rowSize q_t_rows q_t_moved q_t_shown q_t_tape v_t_tapeSize q_t_refused v_t_places q_t_ways v_t_people q_t_kind q_t_by q_t_home q_t_aim q_t_at0 v_t_hour v_t_chance v_t_seed w_t_kept w_t_tried v_t_at v_t_token v_t_from v_t_figures v_t_fault q_t_told v_t_statements q_t_steps q_t_spot q_t_then v_t_now v_t_gone q_t_sights q_t_darkAt q_t_can), (q_t_refused, .inl (cy 0, 8, .inl u10))]) (va_runV (As := [.int (-3 : Int32)]) (rest := []) ⟨hx, hb, hml, hown, hts⟩ (mX8_refuse l D cy q_t q_t_shelf q_t_rowSort q_t_rowSize q_t_rows q_t_moved q_t_shown q_t_tape q_t_refused q_t_ways q_t_kind q_t_by q_t_home q_t_aim q_t_at0 q_t_told q_t_steps q_t_spot q_t_then q_t_sights q_t_darkAt q_t_can v_t_tapeSize v_t_places v_t_people v_t_hour v_t_chance v_t_seed w_t_kept w_t_tried v_t_at v_t_token v_t_from v_t_figures v_t_fault v_t_statements v_t_now v_t_gone v_t_refused _ (-3 : Int32) hr11) (cwV 1 hts gX8_noRow_X8_refuse rfl rfl rfl (by decide +kernel) ⟨Nat.le_of_ble_eq_true rfl, Nat.le_of_ble_eq_true rfl⟩) (xPVw hK hPc hDc (ci := 8) (q0 := 0) rfl rfl) rfl rfl hl.1 rfl (lv_room (Nat.le_of_ble_eq_true rfl)) dX8_noRow_32 ⟨Nat.le_of_ble_eq_true rfl, Nat.le_of_ble_eq_true rfl⟩) hP hD hS hA [0, 2] rfl rfl (fun H locs hP hD hS => ?_)
      have hP : va_P D vwCl [(q_t, oX8 q_t_shelf q_t_rowSort q_t_rowSize q_t_rows q_t_moved q_t_shown q_t_tape v_t_tapeSize q_t_refused v_t_places q_t_ways v_t_people q_t_kind q_t_by q_t_home q_t_aim q_t_at0 v_t_hour v_t_chance v_t_seed w_t_kept w_t_tried v_t_at v_t_token v_t_from v_t_figures v_t_fault q_t_told v_t_statements q_t_steps q_t_spot q_t_then v_t_now v_t_gone q_t_sights q_t_darkAt q_t_can), (q_t_shelf, .inl (cy 0, 8, .inl v_t_shelf)), (q_t_refused, .inl (cy 0, 8, .inl u10))] H := hP
      have hD : va_D A [(q_t, oX8 q_t_shelf q_t_rowSort q_t_rowSize q_t_rows q_t_moved q_t_shown q_t_tape v_t_tapeSize q_t_refused v_t_places q_t_ways v_t_people q_t_kind q_t_by q_t_home q_t_aim q_t_at0 v_t_hour v_t_chance v_t_seed w_t_kept w_t_tried v_t_at v_t_token v_t_from v_t_figures v_t_fault q_t_told v_t_statements q_t_steps q_t_spot q_t_then v_t_now v_t_gone q_t_sights q_t_darkAt q_t_can), (q_t_shelf, .inl (cy 0, 8, .inl v_t_shelf)), (q_t_refused, .inl (cy 0, 8, .inl u10))] := hD
      cases hf
      exact W.iret hx hb hr (fun t ht hW => ⟨⟨_, (), rfl, rfl, xend ht hP⟩, hS.F ht⟩) hS.2.2 dX8_noRow_35
  · have hf := ifT hf c16
    clear c16
    refine lv_aload_n hx hb dX8_noRow_12 rfl (lv_at hl 0 rfl) ?_
    refine lv_bipush (v := (-2)) hx hb dX8_noRow_13 (by decide) ?_
    obtain ⟨r13, u14, hr15, hf⟩ := boE2 hf
    have hPc := hP.sub (ws' := [(q_t, oX8 q_t_shelf q_t_rowSort q_t_rowSize q_t_rows q_t_moved q_t_shown q_t_tape v_t_tapeSize q_t_refused v_t_places q_t_ways v_t_people q_t_kind q_t_by q_t_home q_t_aim q_t_at0 v_t_hour v_t_chance v_t_seed w_t_kept w_t_tried v_t_at v_t_token v_t_from v_t_figures v_t_fault q_t_told v_t_statements q_t_steps q_t_spot q_t_then v_t_now v_t_gone q_t_sights q_t_darkAt q_t_can), (q_t_refused, .inl (cy 0, 8, .inl v_t_refused))]) [0, 2] rfl
    have hDc := hD.sub (ws' := [(q_t, oX8 q_t_shelf q_t_rowSort q_t_rowSize q_t_rows q_t_moved q_t_shown q_t_tape v_t_tapeSize q_t_refused v_t_places q_t_ways v_t_people q_t_kind q_t_by q_t_home q_t_aim q_t_at0 v_t_hour v_t_chance v_t_seed w_t_kept w_t_tried v_t_at v_t_token v_t_from v_t_figures v_t_fault q_t_told v_t_statements q_t_steps q_t_spot q_t_then v_t_now v_t_gone q_t_sights q_t_darkAt q_t_can), (q_t_refused, .inl (cy 0, 8, .inl v_t_refused))]) [0, 2] (by decide) rfl
    refine xcQi (w1 := [(q_t, oX8 q_t_shelf q_t_rowSort q_t_rowSize q_t_rows q_t_moved q_t_shown q_t_tape v_t_tapeSize q_t_refused v_t_places q_t_ways v_t_people q_t_kind q_t_by q_t_home q_t_aim q_t_at0 v_t_hour v_t_chance v_t_seed w_t_kept w_t_tried v_t_at v_t_token v_t_from v_t_figures v_t_fault q_t_told v_t_statements q_t_steps q_t_spot q_t_then v_t_now v_t_gone q_t_sights q_t_darkAt q_t_can), (q_t_refused, .inl (cy 0, 8, .inl u14))]) (va_runV (As := [.int (-2 : Int32)]) (rest := []) ⟨hx, hb, hml, hown, hts⟩ (mX8_refuse l D cy q_t q_t_shelf q_t_rowSort q_t_rowSize q_t_rows q_t_moved q_t_shown q_t_tape q_t_refused q_t_ways q_t_kind q_t_by q_t_home q_t_aim q_t_at0 q_t_told q_t_steps q_t_spot q_t_then q_t_sights q_t_darkAt q_t_can v_t_tapeSize v_t_places v_t_people v_t_hour v_t_chance v_t_seed w_t_kept w_t_tried v_t_at v_t_token v_t_from v_t_figures v_t_fault v_t_statements v_t_now v_t_gone v_t_refused _ (-2 : Int32) hr15) (cwV 1 hts gX8_noRow_X8_refuse rfl rfl rfl (by decide +kernel) ⟨Nat.le_of_ble_eq_true rfl, Nat.le_of_ble_eq_true rfl⟩) (xPVw hK hPc hDc (ci := 8) (q0 := 0) rfl rfl) rfl rfl hl.1 rfl (lv_room (Nat.le_of_ble_eq_true rfl)) dX8_noRow_15 ⟨Nat.le_of_ble_eq_true rfl, Nat.le_of_ble_eq_true rfl⟩) hP hD hS hA [0, 2] rfl rfl (fun H locs hP hD hS => ?_)
    have hP : va_P D vwCl [(q_t, oX8 q_t_shelf q_t_rowSort q_t_rowSize q_t_rows q_t_moved q_t_shown q_t_tape v_t_tapeSize q_t_refused v_t_places q_t_ways v_t_people q_t_kind q_t_by q_t_home q_t_aim q_t_at0 v_t_hour v_t_chance v_t_seed w_t_kept w_t_tried v_t_at v_t_token v_t_from v_t_figures v_t_fault q_t_told v_t_statements q_t_steps q_t_spot q_t_then v_t_now v_t_gone q_t_sights q_t_darkAt q_t_can), (q_t_shelf, .inl (cy 0, 8, .inl v_t_shelf)), (q_t_refused, .inl (cy 0, 8, .inl u14))] H := hP
    have hD : va_D A [(q_t, oX8 q_t_shelf q_t_rowSort q_t_rowSize q_t_rows q_t_moved q_t_shown q_t_tape v_t_tapeSize q_t_refused v_t_places q_t_ways v_t_people q_t_kind q_t_by q_t_home q_t_aim q_t_at0 v_t_hour v_t_chance v_t_seed w_t_kept w_t_tried v_t_at v_t_token v_t_from v_t_figures v_t_fault q_t_told v_t_statements q_t_steps q_t_spot q_t_then v_t_now v_t_gone q_t_sights q_t_darkAt q_t_can), (q_t_shelf, .inl (cy 0, 8, .inl v_t_shelf)), (q_t_refused, .inl (cy 0, 8, .inl u14))] := hD
    cases hf
    exact W.iret hx hb hr (fun t ht hW => ⟨⟨_, (), rfl, rfl, xend ht hP⟩, hS.F ht⟩) hS.2.2 dX8_noRow_18
def fX8_set (v_t_shelf : Nat → Int32) (v_t_rowSort : Nat → Int32) (v_t_rowSize : Nat → Int32) (v_t_refused : Nat → Int32) (v_t_rows : Nat → Nat → Int64) (p0 : Int32) (p1 : Int32) (p2 : Int64) : Option (Int32 × (Nat → Int32) × (Nat → Nat → Int64)) :=
  bo2 (fX8_noRow v_t_shelf v_t_refused p0) fun r1 u2 =>
  if r1 = 0 then
    if p0 < 0 ∨ 8 ≤ p0.toNatClampNeg then none else
    bo1 (fX8_in p1.toInt64 (0 : Int64) (((v_t_rowSize p0.toNatClampNeg) - (1 : Int32)).toInt64)) fun r5 =>
    if r5 = 0 then
      bo2 (fX8_refuse u2 (-2 : Int32)) fun r13 u14 =>
      some (r13, u14, v_t_rows)
    else
      if p0 < 0 ∨ 8 ≤ p0.toNatClampNeg then none else
      if p0 < 0 ∨ 8 ≤ p0.toNatClampNeg then none else
      bo1 (fX8_fit (v_t_rowSort p0.toNatClampNeg) p2) fun r10 =>
      if p1 < 0 ∨ 40 ≤ p1.toNatClampNeg then none else
      some ((1 : Int32), u2, va_up v_t_rows p0.toNatClampNeg (vp_updL (v_t_rows p0.toNatClampNeg) p1.toNatClampNeg r10))
  else
    some (r1, u2, v_t_rows)
set_option maxHeartbeats 4000000 in
set_option maxRecDepth 100000 in
theorem mX8_set (l : Launch) (D : va_G) (cy : Nat → ClassId) (q_t q_t_shelf q_t_rowSort q_t_rowSize q_t_rows q_t_moved q_t_shown q_t_tape q_t_refused q_t_ways q_t_kind q_t_by q_t_home q_t_aim q_t_at0 q_t_told q_t_steps q_t_spot q_t_then q_t_sights q_t_darkAt q_t_can : Nat) (ad_t_rows : Nat → Nat) (v_t_tapeSize : Int32) (v_t_places : Int32) (v_t_people : Int32) (v_t_hour : Int32) (v_t_chance : Int32) (v_t_seed : Int32) (w_t_kept : Value) (w_t_tried : Value) (v_t_at : Int32) (v_t_token : Int32) (v_t_from : Int32) (v_t_figures : Int32) (v_t_fault : Int32) (v_t_statements : Int32) (v_t_now : Int32) (v_t_gone : Int32) (v_t_shelf : Nat → Int32) (v_t_rowSort : Nat → Int32) (v_t_rowSize : Nat → Int32) (v_t_refused : Nat → Int32) (v_t_rows : Nat → Nat → Int64) (sz : Nat) (p0 : Int32) (p1 : Int32) (p2 : Int64) {r_ : Int32} {n_t_refused : Nat → Int32} {n_t_rows : Nat → Nat → Int64} (hf : fX8_set v_t_shelf v_t_rowSort v_t_rowSize v_t_refused v_t_rows p0 p1 p2 = some (r_, n_t_refused, n_t_rows)) : Met l yX8_set wsX8_set ({ frames := 2, cells := 0, slots := 0, locals := 46 }) (va_Pc [.ref q_t, .int p0, .int p1, .long p2] (fun U => U.heap.size = sz ∧ va_P D vwCl ([(q_t, oX8 q_t_shelf q_t_rowSort q_t_rowSize q_t_rows q_t_moved q_t_shown q_t_tape v_t_tapeSize q_t_refused v_t_places q_t_ways v_t_people q_t_kind q_t_by q_t_home q_t_aim q_t_at0 v_t_hour v_t_chance v_t_seed w_t_kept w_t_tried v_t_at v_t_token v_t_from v_t_figures v_t_fault q_t_told v_t_statements q_t_steps q_t_spot q_t_then v_t_now v_t_gone q_t_sights q_t_darkAt q_t_can), (q_t_shelf, .inl (cy 0, 8, .inl v_t_shelf)), (q_t_rowSort, .inl (cy 0, 8, .inl v_t_rowSort)), (q_t_rowSize, .inl (cy 0, 8, .inl v_t_rowSize)), (q_t_rows, .inl (cy 4, 8, .inr (.inr (.inr (.inr (fun i => some (ad_t_rows i))))))), (q_t_refused, .inl (cy 0, 8, .inl v_t_refused))] ++ wFJ cy 8 40 ad_t_rows v_t_rows) U.heap ∧ xK D cy U ∧ va_D (fun _ => True) ([(q_t, oX8 q_t_shelf q_t_rowSort q_t_rowSize q_t_rows q_t_moved q_t_shown q_t_tape v_t_tapeSize q_t_refused v_t_places q_t_ways v_t_people q_t_kind q_t_by q_t_home q_t_aim q_t_at0 v_t_hour v_t_chance v_t_seed w_t_kept w_t_tried v_t_at v_t_token v_t_from v_t_figures v_t_fault q_t_told v_t_statements q_t_steps q_t_spot q_t_then v_t_now v_t_gone q_t_sights q_t_darkAt q_t_can), (q_t_shelf, .inl (cy 0, 8, .inl v_t_shelf)), (q_t_rowSort, .inl (cy 0, 8, .inl v_t_rowSort)), (q_t_rowSize, .inl (cy 0, 8, .inl v_t_rowSize)), (q_t_rows, .inl (cy 4, 8, .inr (.inr (.inr (.inr (fun i => some (ad_t_rows i))))))), (q_t_refused, .inl (cy 0, 8, .inl v_t_refused))] ++ wFJ cy 8 40 ad_t_rows v_t_rows))) (va_Qi (fun (x : Int32) (_ : Unit) => x = r_) (fun _ t => va_P D vwCl ([(q_t, oX8 q_t_shelf q_t_rowSort q_t_rowSize q_t_rows q_t_moved q_t_shown q_t_tape v_t_tapeSize q_t_refused v_t_places q_t_ways v_t_people q_t_kind q_t_by q_t_home q_t_aim q_t_at0 v_t_hour v_t_chance v_t_seed w_t_kept w_t_tried v_t_at v_t_token v_t_from v_t_figures v_t_fault q_t_told v_t_statements q_t_steps q_t_spot q_t_then v_t_now v_t_gone q_t_sights q_t_darkAt q_t_can), (q_t_shelf, .inl (cy 0, 8, .inl v_t_shelf)), (q_t_rowSort, .inl (cy 0, 8, .inl v_t_rowSort)), (q_t_rowSize, .inl (cy 0, 8, .inl v_t_rowSize)), (q_t_rows, .inl (cy 4, 8, .inr (.inr (.inr (.inr (fun i => some (ad_t_rows i))))))), (q_t_refused, .inl (cy 0, 8, .inl n_t_refused))] ++ wFJ cy 8 40 ad_t_rows n_t_rows) t.heap) (va_A ([(q_t, oX8 q_t_shelf q_t_rowSort q_t_rowSize q_t_rows q_t_moved q_t_shown q_t_tape v_t_tapeSize q_t_refused v_t_places q_t_ways v_t_people q_t_kind q_t_by q_t_home q_t_aim q_t_at0 v_t_hour v_t_chance v_t_seed w_t_kept w_t_tried v_t_at v_t_token v_t_from v_t_figures v_t_fault q_t_told v_t_statements q_t_steps q_t_spot q_t_then v_t_now v_t_gone q_t_sights q_t_darkAt q_t_can), (q_t_shelf, .inl (cy 0, 8, .inl v_t_shelf)), (q_t_rowSort, .inl (cy 0, 8, .inl v_t_rowSort)), (q_t_rowSize, .inl (cy 0, 8, .inl v_t_rowSize)), (q_t_rows, .inl (cy 4, 8, .inr (.inr (.inr (.inr (fun i => some (ad_t_rows i))))))), (q_t_refused, .inl (cy 0, 8, .inl v_t_refused))] ++ wFJ cy 8 40 ad_t_rows v_t_rows) sz)) 0 0 (va_A ([(q_t, oX8 q_t_shelf q_t_rowSort q_t_rowSize q_t_rows q_t_moved q_t_shown q_t_tape v_t_tapeSize q_t_refused v_t_places q_t_ways v_t_people q_t_kind q_t_by q_t_home q_t_aim q_t_at0 v_t_hour v_t_chance v_t_seed w_t_kept w_t_tried v_t_at v_t_token v_t_from v_t_figures v_t_fault q_t_told v_t_statements q_t_steps q_t_spot q_t_then v_t_now v_t_gone q_t_sights q_t_darkAt q_t_can), (q_t_shelf, .inl (cy 0, 8, .inl v_t_shelf)), (q_t_rowSort, .inl (cy 0, 8, .inl v_t_rowSort)), (q_t_rowSize, .inl (cy 0, 8, .inl v_t_rowSize)), (q_t_rows, .inl (cy 4, 8, .inr (.inr (.inr (.inr (fun i => some (ad_t_rows i))))))), (q_t_refused, .inl (cy 0, 8, .inl v_t_refused))] ++ wFJ cy 8 40 ad_t_rows v_t_rows) sz) := by
  refine Met.ofW (cc := cX8_set) (maxL := 6) (ret := (some .int)) (by decide) rfl ?_
  intro p e s m args below meth c s₁ B hml hv
  obtain ⟨rfl, hsz, hP, hK, hD0⟩ := hv
  have hx := B.exec
  have hb := B.bytes
  have hr := B.returns
  have hts := atoms_spec (ws := wsX8_set) B.pre
  have hown : s.vm.findClass RX8 = some m.cls := findClass_of_methodNamed B.named
  have hlocks := B.notSynchronized
  subst hsz
  have hD := hD0.self (sz := s.heap.size)
  generalize hAe : va_A ([(q_t, oX8 q_t_shelf q_t_rowSort q_t_rowSize q_t_rows q_t_moved q_t_shown q_t_tape v_t_tapeSize q_t_refused v_t_places q_t_ways v_t_people q_t_kind q_t_by q_t_home q_t_aim q_t_at0 v_t_hour v_t_chance v_t_seed w_t_kept w_t_tried v_t_at v_t_token v_t_from v_t_figures v_t_fault q_t_told v_t_statements q_t_steps q_t_spot q_t_then v_t_now v_t_gone q_t_sights q_t_darkAt q_t_can), (q_t_shelf, .inl (cy 0, 8, .inl v_t_shelf)), (q_t_rowSort, .inl (cy 0, 8, .inl v_t_rowSort)), (q_t_rowSize, .inl (cy 0, 8, .inl v_t_rowSize)), (q_t_rows, .inl (cy 4, 8, .inr (.inr (.inr (.inr (fun i => some (ad_t_rows i))))))), (q_t_refused, .inl (cy 0, 8, .inl v_t_refused))] ++ wFJ cy 8 40 ad_t_rows v_t_rows) s.heap.size = A at hD ⊢
  have hA : ∀ q : Nat, s.heap.size ≤ q → A q := fun q h => by rw [← hAe]; exact Or.inr h
  have hS : va_S A s.heap s.heap [] := va_S.rf
  have hP : va_P D vwCl ([(q_t, oX8 q_t_shelf q_t_rowSort q_t_rowSize q_t_rows q_t_moved q_t_shown q_t_tape v_t_tapeSize q_t_refused v_t_places q_t_ways v_t_people q_t_kind q_t_by q_t_home q_t_aim q_t_at0 v_t_hour v_t_chance v_t_seed w_t_kept w_t_tried v_t_at v_t_token v_t_from v_t_figures v_t_fault q_t_told v_t_statements q_t_steps q_t_spot q_t_then v_t_now v_t_gone q_t_sights q_t_darkAt q_t_can), (q_t_shelf, .inl (cy 0, 8, .inl v_t_shelf)), (q_t_rowSort, .inl (cy 0, 8, .inl v_t_rowSort)), (q_t_rowSize, .inl (cy 0, 8, .inl v_t_rowSize)), (q_t_rows, .inl (cy 4, 8, .inr (.inr (.inr (.inr (fun i => some (ad_t_rows i))))))), (q_t_refused, .inl (cy 0, 8, .inl v_t_refused))] ++ wFJ cy 8 40 ad_t_rows v_t_rows) s.heap := hP
  have hinX8 : ∀ w ∈ u_ws RX8 TX8 37, w ∈ wsX8_set := by decide +kernel
  have hk16 := hts (.fieldLink RX8 16 "ShowsWhereNobodyIsModel" "rowSize" "[I") (by decide +kernel)
  have hk21 := hts (.fieldLink RX8 21 "ShowsWhereNobodyIsModel" "rows" "[[J") (by decide +kernel)
  have hk13 := hts (.fieldLink RX8 13 "ShowsWhereNobodyIsModel" "rowSort" "[I") (by decide +kernel)
  have hl := lv_entry ([.ref q_t, .int p0, .int p1, .long p2]) (n := 6) (Nat.le_of_ble_eq_true rfl)
  rw [lg_entry_eq]
  generalize (lg_sl ([.ref q_t, .int p0, .int p1, .long p2]) ++ List.replicate (6 - (lg_sl ([.ref q_t, .int p0, .int p1, .long p2])).length) Slot.unset).toArray = ls at hl ⊢
  have hl : lv_has ls 6 [(0, .ref q_t), (1, .int p0), (2, .int p1), (3, .long p2)] := hl
  unfold fX8_set at hf
  refine lv_aload_n hx hb dX8_set_0 rfl (lv_at hl 0 rfl) ?_
  refine lv_iload_n hx hb dX8_set_1 rfl (lv_at hl 1 rfl) ?_
  obtain ⟨r1, u2, hr3, hf⟩ := boE2 hf
  have hPc := hP.sub (ws' := [(q_t, oX8 q_t_shelf q_t_rowSort q_t_rowSize q_t_rows q_t_moved q_t_shown q_t_tape v_t_tapeSize q_t_refused v_t_places q_t_ways v_t_people q_t_kind q_t_by q_t_home q_t_aim q_t_at0 v_t_hour v_t_chance v_t_seed w_t_kept w_t_tried v_t_at v_t_token v_t_from v_t_figures v_t_fault q_t_told v_t_statements q_t_steps q_t_spot q_t_then v_t_now v_t_gone q_t_sights q_t_darkAt q_t_can), (q_t_shelf, .inl (cy 0, 8, .inl v_t_shelf)), (q_t_refused, .inl (cy 0, 8, .inl v_t_refused))]) [0, 1, 5] rfl
  have hDc := hD.sub (ws' := [(q_t, oX8 q_t_shelf q_t_rowSort q_t_rowSize q_t_rows q_t_moved q_t_shown q_t_tape v_t_tapeSize q_t_refused v_t_places q_t_ways v_t_people q_t_kind q_t_by q_t_home q_t_aim q_t_at0 v_t_hour v_t_chance v_t_seed w_t_kept w_t_tried v_t_at v_t_token v_t_from v_t_figures v_t_fault q_t_told v_t_statements q_t_steps q_t_spot q_t_then v_t_now v_t_gone q_t_sights q_t_darkAt q_t_can), (q_t_shelf, .inl (cy 0, 8, .inl v_t_shelf)), (q_t_refused, .inl (cy 0, 8, .inl v_t_refused))]) [0, 1, 5] (by decide) rfl
  refine xcQiQ (w1 := [(q_t, oX8 q_t_shelf q_t_rowSort q_t_rowSize q_t_rows q_t_moved q_t_shown q_t_tape v_t_tapeSize q_t_refused v_t_places q_t_ways v_t_people q_t_kind q_t_by q_t_home q_t_aim q_t_at0 v_t_hour v_t_chance v_t_seed w_t_kept w_t_tried v_t_at v_t_token v_t_from v_t_figures v_t_fault q_t_told v_t_statements q_t_steps q_t_spot q_t_then v_t_now v_t_gone q_t_sights q_t_darkAt q_t_can), (q_t_shelf, .inl (cy 0, 8, .inl v_t_shelf)), (q_t_refused, .inl (cy 0, 8, .inl u2))]) (va_runV (As := [.int p0]) (rest := []) ⟨hx, hb, hml, hown, hts⟩ (mX8_noRow l D cy q_t q_t_shelf q_t_rowSort q_t_rowSize q_t_rows q_t_moved q_t_shown q_t_tape q_t_refused q_t_ways q_t_kind q_t_by q_t_home q_t_aim q_t_at0 q_t_told q_t_steps q_t_spot q_t_then q_t_sights q_t_darkAt q_t_can v_t_tapeSize v_t_places v_t_people v_t_hour v_t_chance v_t_seed w_t_kept w_t_tried v_t_at v_t_token v_t_from v_t_figures v_t_fault v_t_statements v_t_now v_t_gone v_t_shelf v_t_refused _ p0 hr3) (cwV 1 hts gX8_set_X8_noRow rfl rfl rfl (by decide +kernel) ⟨Nat.le_of_ble_eq_true rfl, Nat.le_of_ble_eq_true rfl⟩) (xPVw hK hPc hDc (ci := 8) (q0 := 0) rfl rfl) rfl rfl hl.1 rfl (lv_room (Nat.le_of_ble_eq_true rfl)) dX8_set_2 ⟨Nat.le_of_ble_eq_true rfl, Nat.le_of_ble_eq_true rfl⟩) hP hD hS hA [0, 1, 5] rfl rfl (fun H locs hP hD hS => ?_)
  have hP : va_P D vwCl ([(q_t, oX8 q_t_shelf q_t_rowSort q_t_rowSize q_t_rows q_t_moved q_t_shown q_t_tape v_t_tapeSize q_t_refused v_t_places q_t_ways v_t_people q_t_kind q_t_by q_t_home q_t_aim q_t_at0 v_t_hour v_t_chance v_t_seed w_t_kept w_t_tried v_t_at v_t_token v_t_from v_t_figures v_t_fault q_t_told v_t_statements q_t_steps q_t_spot q_t_then v_t_now v_t_gone q_t_sights q_t_darkAt q_t_can), (q_t_shelf, .inl (cy 0, 8, .inl v_t_shelf)), (q_t_rowSort, .inl (cy 0, 8, .inl v_t_rowSort)), (q_t_rowSize, .inl (cy 0, 8, .inl v_t_rowSize)), (q_t_rows, .inl (cy 4, 8, .inr (.inr (.inr (.inr (fun i => some (ad_t_rows i))))))), (q_t_refused, .inl (cy 0, 8, .inl u2))] ++ wFJ cy 8 40 ad_t_rows v_t_rows) H := hP
  have hD : va_D A ([(q_t, oX8 q_t_shelf q_t_rowSort q_t_rowSize q_t_rows q_t_moved q_t_shown q_t_tape v_t_tapeSize q_t_refused v_t_places q_t_ways v_t_people q_t_kind q_t_by q_t_home q_t_aim q_t_at0 v_t_hour v_t_chance v_t_seed w_t_kept w_t_tried v_t_at v_t_token v_t_from v_t_figures v_t_fault q_t_told v_t_statements q_t_steps q_t_spot q_t_then v_t_now v_t_gone q_t_sights q_t_darkAt q_t_can), (q_t_shelf, .inl (cy 0, 8, .inl v_t_shelf)), (q_t_rowSort, .inl (cy 0, 8, .inl v_t_rowSort)), (q_t_rowSize, .inl (cy 0, 8, .inl v_t_rowSize)), (q_t_rows, .inl (cy 4, 8, .inr (.inr (.inr (.inr (fun i => some (ad_t_rows i))))))), (q_t_refused, .inl (cy 0, 8, .inl u2))] ++ wFJ cy 8 40 ad_t_rows v_t_rows) := hD
  refine lv_istore (lv' := [(5, .int r1), (0, .ref q_t), (1, .int p0), (2, .int p1), (3, .long p2)]) hx hb dX8_set_5 hl (by decide) rfl (fun ls hl => ?_)
  refine lv_iload hx hb dX8_set_7 (lv_at hl 0 rfl) ?_
  refine lv_if_eq (tgt := 15) hx hb dX8_set_9 (by decide) (fun c17 => ?_) (fun c17 => ?_)
  · have hf := ifT hf c17
    clear c17
    refine lv_iload_n hx hb dX8_set_15 rfl (lv_at hl 3 rfl) ?_
    refine lv_i2l hx hb dX8_set_16 rfl ?_
    refine lv_lconst (v := 0) hx hb dX8_set_17 (by decide) ?_
    refine lv_aload_n hx hb dX8_set_18 rfl (lv_at hl 1 rfl) ?_
    refine va_get (D := D) (ci := 8) (v := .ref q_t_rowSize) (C := RX8) (T := TX8) (N := 37) hx hb hts hinX8 hown hK.1 hP 0 rfl rfl 2 (by decide) hk16 (fun _ h9 => h9) rfl dX8_set_19 ?_
    refine lv_iload_n hx hb dX8_set_22 rfl (lv_at hl 2 rfl) ?_
    obtain ⟨hi4, hf⟩ := ckE hf
    refine va_iald hx hb hK.1 hP 3 0 rfl rfl hi4 dX8_set_23 ?_
    refine lv_iconst (v := 1) hx hb dX8_set_24 (by decide) ?_
    refine lv_isub hx hb dX8_set_25 ?_
    refine lv_i2l hx hb dX8_set_26 rfl ?_
    obtain ⟨r5, hr6, hf⟩ := boE1 hf
    have hPc := hP.sub (ws' := []) [] rfl
    refine xcSi (va_runS (As := [.long p1.toInt64, .long (0 : Int64), .long (((v_t_rowSize p0.toNatClampNeg) - (1 : Int32)).toInt64)]) (rest := []) ⟨hx, hb, hml, hown, hts⟩ (mX8_in l D cy    p1.toInt64 (0 : Int64) (((v_t_rowSize p0.toNatClampNeg) - (1 : Int32)).toInt64) hr6) (va_cwS 3 hts gX8_set_X8_in rfl rfl rfl (by decide +kernel) ⟨Nat.le_of_ble_eq_true rfl, Nat.le_of_ble_eq_true rfl⟩) (xPS hK hPc) rfl rfl hl.1 rfl (lv_room (Nat.le_of_ble_eq_true rfl)) dX8_set_27 ⟨Nat.le_of_ble_eq_true rfl, Nat.le_of_ble_eq_true rfl⟩) ?_
    refine lv_if_ne (tgt := 40) hx hb dX8_set_30 (by decide) (fun c16 => ?_) (fun c16 => ?_)
    · have hf := ifF hf c16
      clear c16
      refine lv_aload_n hx hb dX8_set_40 rfl (lv_at hl 1 rfl) ?_
      refine va_get (D := D) (ci := 8) (v := .ref q_t_rows) (C := RX8) (T := TX8) (N := 37) hx hb hts hinX8 hown hK.1 hP 0 rfl rfl 3 (by decide) hk21 (fun _ h9 => h9) rfl dX8_set_41 ?_
      refine lv_iload_n hx hb dX8_set_44 rfl (lv_at hl 2 rfl) ?_
      obtain ⟨hi7, hf⟩ := ckE hf
      have hj8 : p0.toNatClampNeg < 8 := xlt hi7
      refine va_alda hx hb hK.1 hP 4 4 rfl rfl hi7 dX8_set_45 ?_
      refine W.eq (g2 := F0 m 46 ls [.ref (ad_t_rows p0.toNatClampNeg)]) rfl ?_
      refine lv_iload_n hx hb dX8_set_46 rfl (lv_at hl 3 rfl) ?_
      refine lv_aload_n hx hb dX8_set_47 rfl (lv_at hl 1 rfl) ?_
      refine va_get (D := D) (ci := 8) (v := .ref q_t_rowSort) (C := RX8) (T := TX8) (N := 37) hx hb hts hinX8 hown hK.1 hP 0 rfl rfl 1 (by decide) hk13 (fun _ h9 => h9) rfl dX8_set_48 ?_
      refine lv_iload_n hx hb dX8_set_51 rfl (lv_at hl 2 rfl) ?_
      obtain ⟨hi9, hf⟩ := ckE hf
      refine va_iald hx hb hK.1 hP 2 0 rfl rfl hi9 dX8_set_52 ?_
      refine lv_lload_n hx hb dX8_set_53 rfl (lv_at hl 4 rfl) ?_
      obtain ⟨r10, hr11, hf⟩ := boE1 hf
      have hPc := hP.sub (ws' := []) [] rfl
      refine xcSl (va_runS (As := [.int (v_t_rowSort p0.toNatClampNeg), .long p2]) (rest := [.int p1, .ref (ad_t_rows p0.toNatClampNeg)]) ⟨hx, hb, hml, hown, hts⟩ (mX8_fit l D cy    (v_t_rowSort p0.toNatClampNeg) p2 hr11) (va_cwS 2 hts gX8_set_X8_fit rfl rfl rfl (by decide +kernel) ⟨Nat.le_of_ble_eq_true rfl, Nat.le_of_ble_eq_true rfl⟩) (xPS hK hPc) rfl rfl hl.1 rfl (lv_room (Nat.le_of_ble_eq_true rfl)) dX8_set_54 ⟨Nat.le_of_ble_eq_true rfl, Nat.le_of_ble_eq_true rfl⟩) ?_
      obtain ⟨hi12, hf⟩ := ckE hf
      refine va_last hx hb hK.1 hP hD hS _ 1 (xfj hj8) rfl hi12 dX8_set_57 (fun H locs hP hD hS => ?_)
      rw [xfj_set hj8] at hP hD
      have hP : va_P D vwCl ([(q_t, oX8 q_t_shelf q_t_rowSort q_t_rowSize q_t_rows q_t_moved q_t_shown q_t_tape v_t_tapeSize q_t_refused v_t_places q_t_ways v_t_people q_t_kind q_t_by q_t_home q_t_aim q_t_at0 v_t_hour v_t_chance v_t_seed w_t_kept w_t_tried v_t_at v_t_token v_t_from v_t_figures v_t_fault q_t_told v_t_statements q_t_steps q_t_spot q_t_then v_t_now v_t_gone q_t_sights q_t_darkAt q_t_can), (q_t_shelf, .inl (cy 0, 8, .inl v_t_shelf)), (q_t_rowSort, .inl (cy 0, 8, .inl v_t_rowSort)), (q_t_rowSize, .inl (cy 0, 8, .inl v_t_rowSize)), (q_t_rows, .inl (cy 4, 8, .inr (.inr (.inr (.inr (fun i => some (ad_t_rows i))))))), (q_t_refused, .inl (cy 0, 8, .inl u2))] ++ wFJ cy 8 40 ad_t_rows (va_up v_t_rows p0.toNatClampNeg (vp_updL (v_t_rows p0.toNatClampNeg) p1.toNatClampNeg r10))) H := hP
      have hD : va_D A ([(q_t, oX8 q_t_shelf q_t_rowSort q_t_rowSize q_t_rows q_t_moved q_t_shown q_t_tape v_t_tapeSize q_t_refused v_t_places q_t_ways v_t_people q_t_kind q_t_by q_t_home q_t_aim q_t_at0 v_t_hour v_t_chance v_t_seed w_t_kept w_t_tried v_t_at v_t_token v_t_from v_t_figures v_t_fault q_t_told v_t_statements q_t_steps q_t_spot q_t_then v_t_now v_t_gone q_t_sights q_t_darkAt q_t_can), (q_t_shelf, .inl (cy 0, 8, .inl v_t_shelf)), (q_t_rowSort, .inl (cy 0, 8, .inl v_t_rowSort)), (q_t_rowSize, .inl (cy 0, 8, .inl v_t_rowSize)), (q_t_rows, .inl (cy 4, 8, .inr (.inr (.inr (.inr (fun i => some (ad_t_rows i))))))), (q_t_refused, .inl (cy 0, 8, .inl u2))] ++ wFJ cy 8 40 ad_t_rows (va_up v_t_rows p0.toNatClampNeg (vp_updL (v_t_rows p0.toNatClampNeg) p1.toNatClampNeg r10))) := hD
      refine lv_iconst (v := 1) hx hb dX8_set_58 (by decide) ?_
      cases hf
      exact W.iret (v := (1 : Int32)) hx hb hr (fun t ht hW => ⟨⟨(1 : Int32), (), rfl, rfl, xend ht hP⟩, hS.F ht⟩) hS.2.2 dX8_set_59
    · have hf := ifT hf c16
      clear c16
      refine lv_aload_n hx hb dX8_set_33 rfl (lv_at hl 1 rfl) ?_
      refine lv_bipush (v := (-2)) hx hb dX8_set_34 (by decide) ?_
      obtain ⟨r13, u14, hr15, hf⟩ := boE2 hf
      have hPc := hP.sub (ws' := [(q_t, oX8 q_t_shelf q_t_rowSort q_t_rowSize q_t_rows q_t_moved q_t_shown q_t_tape v_t_tapeSize q_t_refused v_t_places q_t_ways v_t_people q_t_kind q_t_by q_t_home q_t_aim q_t_at0 v_t_hour v_t_chance v_t_seed w_t_kept w_t_tried v_t_at v_t_token v_t_from v_t_figures v_t_fault q_t_told v_t_statements q_t_steps q_t_spot q_t_then v_t_now v_t_gone q_t_sights q_t_darkAt q_t_can), (q_t_refused, .inl (cy 0, 8, .inl u2))]) [0, 5] rfl
      have hDc := hD.sub (ws' := [(q_t, oX8 q_t_shelf q_t_rowSort q_t_rowSize q_t_rows q_t_moved q_t_shown q_t_tape v_t_tapeSize q_t_refused v_t_places q_t_ways v_t_people q_t_kind q_t_by q_t_home q_t_aim q_t_at0 v_t_hour v_t_chance v_t_seed w_t_kept w_t_tried v_t_at v_t_token v_t_from v_t_figures v_t_fault q_t_told v_t_statements q_t_steps q_t_spot q_t_then v_t_now v_t_gone q_t_sights q_t_darkAt q_t_can), (q_t_refused, .inl (cy 0, 8, .inl u2))]) [0, 5] (by decide) rfl
      refine xcQiQ (w1 := [(q_t, oX8 q_t_shelf q_t_rowSort q_t_rowSize q_t_rows q_t_moved q_t_shown q_t_tape v_t_tapeSize q_t_refused v_t_places q_t_ways v_t_people q_t_kind q_t_by q_t_home q_t_aim q_t_at0 v_t_hour v_t_chance v_t_seed w_t_kept w_t_tried v_t_at v_t_token v_t_from v_t_figures v_t_fault q_t_told v_t_statements q_t_steps q_t_spot q_t_then v_t_now v_t_gone q_t_sights q_t_darkAt q_t_can), (q_t_refused, .inl (cy 0, 8, .inl u14))]) (va_runV (As := [.int (-2 : Int32)]) (rest := []) ⟨hx, hb, hml, hown, hts⟩ (mX8_refuse l D cy q_t q_t_shelf q_t_rowSort q_t_rowSize q_t_rows q_t_moved q_t_shown q_t_tape q_t_refused q_t_ways q_t_kind q_t_by q_t_home q_t_aim q_t_at0 q_t_told q_t_steps q_t_spot q_t_then q_t_sights q_t_darkAt q_t_can v_t_tapeSize v_t_places v_t_people v_t_hour v_t_chance v_t_seed w_t_kept w_t_tried v_t_at v_t_token v_t_from v_t_figures v_t_fault v_t_statements v_t_now v_t_gone u2 _ (-2 : Int32) hr15) (cwV 1 hts gX8_set_X8_refuse rfl rfl rfl (by decide +kernel) ⟨Nat.le_of_ble_eq_true rfl, Nat.le_of_ble_eq_true rfl⟩) (xPVw hK hPc hDc (ci := 8) (q0 := 0) rfl rfl) rfl rfl hl.1 rfl (lv_room (Nat.le_of_ble_eq_true rfl)) dX8_set_36 ⟨Nat.le_of_ble_eq_true rfl, Nat.le_of_ble_eq_true rfl⟩) hP hD hS hA [0, 5] rfl rfl (fun H locs hP hD hS => ?_)
      have hP : va_P D vwCl ([(q_t, oX8 q_t_shelf q_t_rowSort q_t_rowSize q_t_rows q_t_moved q_t_shown q_t_tape v_t_tapeSize q_t_refused v_t_places q_t_ways v_t_people q_t_kind q_t_by q_t_home q_t_aim q_t_at0 v_t_hour v_t_chance v_t_seed w_t_kept w_t_tried v_t_at v_t_token v_t_from v_t_figures v_t_fault q_t_told v_t_statements q_t_steps q_t_spot q_t_then v_t_now v_t_gone q_t_sights q_t_darkAt q_t_can), (q_t_shelf, .inl (cy 0, 8, .inl v_t_shelf)), (q_t_rowSort, .inl (cy 0, 8, .inl v_t_rowSort)), (q_t_rowSize, .inl (cy 0, 8, .inl v_t_rowSize)), (q_t_rows, .inl (cy 4, 8, .inr (.inr (.inr (.inr (fun i => some (ad_t_rows i))))))), (q_t_refused, .inl (cy 0, 8, .inl u14))] ++ wFJ cy 8 40 ad_t_rows v_t_rows) H := hP
      have hD : va_D A ([(q_t, oX8 q_t_shelf q_t_rowSort q_t_rowSize q_t_rows q_t_moved q_t_shown q_t_tape v_t_tapeSize q_t_refused v_t_places q_t_ways v_t_people q_t_kind q_t_by q_t_home q_t_aim q_t_at0 v_t_hour v_t_chance v_t_seed w_t_kept w_t_tried v_t_at v_t_token v_t_from v_t_figures v_t_fault q_t_told v_t_statements q_t_steps q_t_spot q_t_then v_t_now v_t_gone q_t_sights q_t_darkAt q_t_can), (q_t_shelf, .inl (cy 0, 8, .inl v_t_shelf)), (q_t_rowSort, .inl (cy 0, 8, .inl v_t_rowSort)), (q_t_rowSize, .inl (cy 0, 8, .inl v_t_rowSize)), (q_t_rows, .inl (cy 4, 8, .inr (.inr (.inr (.inr (fun i => some (ad_t_rows i))))))), (q_t_refused, .inl (cy 0, 8, .inl u14))] ++ wFJ cy 8 40 ad_t_rows v_t_rows) := hD
      cases hf
      exact W.iret hx hb hr (fun t ht hW => ⟨⟨_, (), rfl, rfl, xend ht hP⟩, hS.F ht⟩) hS.2.2 dX8_set_39
  · have hf := ifF hf c17
    clear c17
    refine lv_iload hx hb dX8_set_12 (lv_at hl 0 rfl) ?_
    cases hf
    exact W.iret hx hb hr (fun t ht hW => ⟨⟨_, (), rfl, rfl, xend ht hP⟩, hS.F ht⟩) hS.2.2 dX8_set_14
