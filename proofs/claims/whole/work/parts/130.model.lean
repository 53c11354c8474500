def fX8_begin (v_t_people : Int32) (v_t_hour : Int32) (v_t_at0 : Nat → Int32) (v_t_spot : Nat → Int32) : Option (Int32 × (Nat → Int32)) :=
  lo2 (fun g3 (x1 : Int32) (u2 : Nat → Int32) =>
    if v_t_people ≤ x1 then
      some (v_t_hour, u2)
    else
      if x1 < 0 ∨ 8 ≤ x1.toNatClampNeg then none else
      if x1 < 0 ∨ 8 ≤ x1.toNatClampNeg then none else
      vlet (x1 + (1 : Int32)) fun x6 =>
      g3 x6 (upd u2 x1.toNatClampNeg (v_t_at0 x1.toNatClampNeg))) 400 (0 : Int32) v_t_spot
set_option maxHeartbeats 4000000 in
set_option maxRecDepth 100000 in
theorem mX8_begin (l : Launch) (D : va_G) (cy : Nat → ClassId) (q_t q_t_shelf q_t_rowSort q_t_rowSize q_t_rows q_t_moved q_t_shown q_t_tape q_t_refused q_t_ways q_t_kind q_t_by q_t_home q_t_aim q_t_at0 q_t_told q_t_steps q_t_spot q_t_then q_t_sights q_t_darkAt q_t_can : Nat) (v_t_tapeSize : Int32) (v_t_places : Int32) (v_t_people : Int32) (v_t_hour : Int32) (v_t_chance : Int32) (v_t_seed : Int32) (w_t_kept : Value) (w_t_tried : Value) (v_t_at : Int32) (v_t_token : Int32) (v_t_from : Int32) (v_t_figures : Int32) (v_t_fault : Int32) (v_t_statements : Int32) (v_t_now : Int32) (v_t_gone : Int32) (v_t_at0 : Nat → Int32) (v_t_spot : Nat → Int32) (sz : Nat) {n_t_now : Int32} {n_t_spot : Nat → Int32} (hf : fX8_begin v_t_people v_t_hour v_t_at0 v_t_spot = some (n_t_now, n_t_spot)) : Met l yX8_begin wsX8_begin ({ frames := 0, cells := 0, slots := 0, locals := 0 }) (va_Pc [.ref q_t] (fun U => U.heap.size = sz ∧ va_P D vwCl [(q_t, oX8 q_t_shelf q_t_rowSort q_t_rowSize q_t_rows q_t_moved q_t_shown q_t_tape v_t_tapeSize q_t_refused v_t_places q_t_ways v_t_people q_t_kind q_t_by q_t_home q_t_aim q_t_at0 v_t_hour v_t_chance v_t_seed w_t_kept w_t_tried v_t_at v_t_token v_t_from v_t_figures v_t_fault q_t_told v_t_statements q_t_steps q_t_spot q_t_then v_t_now v_t_gone q_t_sights q_t_darkAt q_t_can), (q_t_at0, .inl (cy 0, 8, .inl v_t_at0)), (q_t_spot, .inl (cy 0, 8, .inl v_t_spot))] U.heap ∧ xK D cy U ∧ va_D (fun _ => True) [(q_t, oX8 q_t_shelf q_t_rowSort q_t_rowSize q_t_rows q_t_moved q_t_shown q_t_tape v_t_tapeSize q_t_refused v_t_places q_t_ways v_t_people q_t_kind q_t_by q_t_home q_t_aim q_t_at0 v_t_hour v_t_chance v_t_seed w_t_kept w_t_tried v_t_at v_t_token v_t_from v_t_figures v_t_fault q_t_told v_t_statements q_t_steps q_t_spot q_t_then v_t_now v_t_gone q_t_sights q_t_darkAt q_t_can), (q_t_at0, .inl (cy 0, 8, .inl v_t_at0)), (q_t_spot, .inl (cy 0, 8, .inl v_t_spot))])) (va_Qv (fun (_ : Unit) => True) (fun _ t => va_P D vwCl [(q_t, oX8 q_t_shelf q_t_rowSort q_t_rowSize q_t_rows q_t_moved q_t_shown q_t_tape v_t_tapeSize q_t_refused v_t_places q_t_ways v_t_people q_t_kind q_t_by q_t_home q_t_aim q_t_at0 v_t_hour v_t_chance v_t_seed w_t_kept w_t_tried v_t_at v_t_token v_t_from v_t_figures v_t_fault q_t_told v_t_statements q_t_steps q_t_spot q_t_then n_t_now v_t_gone q_t_sights q_t_darkAt q_t_can), (q_t_at0, .inl (cy 0, 8, .inl v_t_at0)), (q_t_spot, .inl (cy 0, 8, .inl n_t_spot))] t.heap) (va_A [(q_t, oX8 q_t_shelf q_t_rowSort q_t_rowSize q_t_rows q_t_moved q_t_shown q_t_tape v_t_tapeSize q_t_refused v_t_places q_t_ways v_t_people q_t_kind q_t_by q_t_home q_t_aim q_t_at0 v_t_hour v_t_chance v_t_seed w_t_kept w_t_tried v_t_at v_t_token v_t_from v_t_figures v_t_fault q_t_told v_t_statements q_t_steps q_t_spot q_t_then v_t_now v_t_gone q_t_sights q_t_darkAt q_t_can), (q_t_at0, .inl (cy 0, 8, .inl v_t_at0)), (q_t_spot, .inl (cy 0, 8, .inl v_t_spot))] sz)) 0 0 (va_A [(q_t, oX8 q_t_shelf q_t_rowSort q_t_rowSize q_t_rows q_t_moved q_t_shown q_t_tape v_t_tapeSize q_t_refused v_t_places q_t_ways v_t_people q_t_kind q_t_by q_t_home q_t_aim q_t_at0 v_t_hour v_t_chance v_t_seed w_t_kept w_t_tried v_t_at v_t_token v_t_from v_t_figures v_t_fault q_t_told v_t_statements q_t_steps q_t_spot q_t_then v_t_now v_t_gone q_t_sights q_t_darkAt q_t_can), (q_t_at0, .inl (cy 0, 8, .inl v_t_at0)), (q_t_spot, .inl (cy 0, 8, .inl v_t_spot))] sz) := by
  refine Met.ofW (cc := cX8_begin) (maxL := 2) (ret := none) (by decide) rfl ?_
  intro p e s m args below meth c s₁ B hml hv
  obtain ⟨rfl, hsz, hP, hK, hD0⟩ := hv
  have hx := B.exec
  have hb := B.bytes
  have hr := B.returns
  have hts := atoms_spec (ws := wsX8_begin) B.pre
  have hown : s.vm.findClass RX8 = some m.cls := findClass_of_methodNamed B.named
  have hlocks := B.notSynchronized
  subst hsz
  have hD := hD0.self (sz := s.heap.size)
  generalize hAe : va_A [(q_t, oX8 q_t_shelf q_t_rowSort q_t_rowSize q_t_rows q_t_moved q_t_shown q_t_tape v_t_tapeSize q_t_refused v_t_places q_t_ways v_t_people q_t_kind q_t_by q_t_home q_t_aim q_t_at0 v_t_hour v_t_chance v_t_seed w_t_kept w_t_tried v_t_at v_t_token v_t_from v_t_figures v_t_fault q_t_told v_t_statements q_t_steps q_t_spot q_t_then v_t_now v_t_gone q_t_sights q_t_darkAt q_t_can), (q_t_at0, .inl (cy 0, 8, .inl v_t_at0)), (q_t_spot, .inl (cy 0, 8, .inl v_t_spot))] s.heap.size = A at hD ⊢
  have hA : ∀ q : Nat, s.heap.size ≤ q → A q := fun q h => by rw [← hAe]; exact Or.inr h
  have hS : va_S A s.heap s.heap [] := va_S.rf
  have hP : va_P D vwCl [(q_t, oX8 q_t_shelf q_t_rowSort q_t_rowSize q_t_rows q_t_moved q_t_shown q_t_tape v_t_tapeSize q_t_refused v_t_places q_t_ways v_t_people q_t_kind q_t_by q_t_home q_t_aim q_t_at0 v_t_hour v_t_chance v_t_seed w_t_kept w_t_tried v_t_at v_t_token v_t_from v_t_figures v_t_fault q_t_told v_t_statements q_t_steps q_t_spot q_t_then v_t_now v_t_gone q_t_sights q_t_darkAt q_t_can), (q_t_at0, .inl (cy 0, 8, .inl v_t_at0)), (q_t_spot, .inl (cy 0, 8, .inl v_t_spot))] s.heap := hP
  have hinX8 : ∀ w ∈ u_ws RX8 TX8 37, w ∈ wsX8_begin := by decide +kernel
  have hk95 := hts (.fieldLink RX8 95 "ShowsWhereNobodyIsModel" "people" "I") (by decide +kernel)
  have hk153 := hts (.fieldLink RX8 153 "ShowsWhereNobodyIsModel" "hour" "I") (by decide +kernel)
  have hk254 := hts (.fieldLink RX8 254 "ShowsWhereNobodyIsModel" "now" "I") (by decide +kernel)
  have hk71 := hts (.fieldLink RX8 71 "ShowsWhereNobodyIsModel" "spot" "[I") (by decide +kernel)
  have hk56 := hts (.fieldLink RX8 56 "ShowsWhereNobodyIsModel" "at0" "[I") (by decide +kernel)
  have hl := lv_entry ([.ref q_t]) (n := 2) (Nat.le_of_ble_eq_true rfl)
  rw [lg_entry_eq]
  generalize (lg_sl ([.ref q_t]) ++ List.replicate (2 - (lg_sl ([.ref q_t])).length) Slot.unset).toArray = ls at hl ⊢
  have hl : lv_has ls 2 [(0, .ref q_t)] := hl
  unfold fX8_begin at hf
  refine lv_iconst (v := 0) hx hb dX8_begin_0 (by decide) ?_
  refine lv_istore_n (lv' := [(1, .int (0 : Int32)), (0, .ref q_t)]) hx hb dX8_begin_1 rfl hl (by decide) rfl (fun ls hl => ?_)
  refine wlw2 2 (fun _ _ => []) (fun (x1 : Int32) (u2 : Nat → Int32) H locs ls => va_P D vwCl [(q_t, oX8 q_t_shelf q_t_rowSort q_t_rowSize q_t_rows q_t_moved q_t_shown q_t_tape v_t_tapeSize q_t_refused v_t_places q_t_ways v_t_people q_t_kind q_t_by q_t_home q_t_aim q_t_at0 v_t_hour v_t_chance v_t_seed w_t_kept w_t_tried v_t_at v_t_token v_t_from v_t_figures v_t_fault q_t_told v_t_statements q_t_steps q_t_spot q_t_then v_t_now v_t_gone q_t_sights q_t_darkAt q_t_can), (q_t_at0, .inl (cy 0, 8, .inl v_t_at0)), (q_t_spot, .inl (cy 0, 8, .inl u2))] H ∧ va_D A [(q_t, oX8 q_t_shelf q_t_rowSort q_t_rowSize q_t_rows q_t_moved q_t_shown q_t_tape v_t_tapeSize q_t_refused v_t_places q_t_ways v_t_people q_t_kind q_t_by q_t_home q_t_aim q_t_at0 v_t_hour v_t_chance v_t_seed w_t_kept w_t_tried v_t_at v_t_token v_t_from v_t_figures v_t_fault q_t_told v_t_statements q_t_steps q_t_spot q_t_then v_t_now v_t_gone q_t_sights q_t_darkAt q_t_can), (q_t_at0, .inl (cy 0, 8, .inl v_t_at0)), (q_t_spot, .inl (cy 0, 8, .inl u2))] ∧ va_S A s.heap H locs ∧ lv_has ls 2 [(1, .int x1), (0, .ref q_t)]) (fun g3 L2 x1 u2 H locs ls hI hf => ?_) 400 (0 : Int32) v_t_spot _ _ ls ⟨hP, hD, hS, lv_sub hl [0, 1] rfl⟩ hf
  obtain ⟨hP, hD, hS, hl⟩ := hI
  refine lv_iload_n hx hb dX8_begin_2 rfl (lv_at hl 0 rfl) ?_
  refine lv_aload_n hx hb dX8_begin_3 rfl (lv_at hl 1 rfl) ?_
  refine va_get (D := D) (ci := 8) (v := .int v_t_people) (C := RX8) (T := TX8) (N := 37) hx hb hts hinX8 hown hK.1 hP 0 rfl rfl 11 (by decide) hk95 (fun _ h9 => h9) rfl dX8_begin_4 ?_
  refine lv_icmp_ge (tgt := 28) hx hb dX8_begin_7 (by decide) (fun c7 => ?_) (fun c7 => ?_)
  · have hf := ifT hf c7
    clear c7
    refine lv_aload_n hx hb dX8_begin_28 rfl (lv_at hl 1 rfl) ?_
    refine lv_aload_n hx hb dX8_begin_29 rfl (lv_at hl 1 rfl) ?_
    refine va_get (D := D) (ci := 8) (v := .int v_t_hour) (C := RX8) (T := TX8) (N := 37) hx hb hts hinX8 hown hK.1 hP 0 rfl rfl 17 (by decide) hk153 (fun _ h9 => h9) rfl dX8_begin_30 ?_
    refine va_put (D := D) (ci := 8) (v := .int v_t_hour) (ty := .int) (C := RX8) (T := TX8) (N := 37) hx hb hts hinX8 tyX8 tyX8_ok nmX8 hown hK.1 hP hD hS 0 rfl rfl 32 (by decide) hk254 (fun _ h9 => h9) rfl (by decide +kernel) rfl rfl (Nat.le_of_ble_eq_true rfl) dX8_begin_33 (fun H locs hP hD hS => ?_)
    have hP : va_P D vwCl [(q_t, oX8 q_t_shelf q_t_rowSort q_t_rowSize q_t_rows q_t_moved q_t_shown q_t_tape v_t_tapeSize q_t_refused v_t_places q_t_ways v_t_people q_t_kind q_t_by q_t_home q_t_aim q_t_at0 v_t_hour v_t_chance v_t_seed w_t_kept w_t_tried v_t_at v_t_token v_t_from v_t_figures v_t_fault q_t_told v_t_statements q_t_steps q_t_spot q_t_then v_t_hour v_t_gone q_t_sights q_t_darkAt q_t_can), (q_t_at0, .inl (cy 0, 8, .inl v_t_at0)), (q_t_spot, .inl (cy 0, 8, .inl u2))] H := hP
    have hD : va_D A [(q_t, oX8 q_t_shelf q_t_rowSort q_t_rowSize q_t_rows q_t_moved q_t_shown q_t_tape v_t_tapeSize q_t_refused v_t_places q_t_ways v_t_people q_t_kind q_t_by q_t_home q_t_aim q_t_at0 v_t_hour v_t_chance v_t_seed w_t_kept w_t_tried v_t_at v_t_token v_t_from v_t_figures v_t_fault q_t_told v_t_statements q_t_steps q_t_spot q_t_then v_t_hour v_t_gone q_t_sights q_t_darkAt q_t_can), (q_t_at0, .inl (cy 0, 8, .inl v_t_at0)), (q_t_spot, .inl (cy 0, 8, .inl u2))] := hD
    cases hf
    exact W.vret hx hb hr (fun t ht hW => ⟨⟨(), rfl, trivial, xend ht hP⟩, hS.F ht⟩) hS.2.2 dX8_begin_36
  · have hf := ifF hf c7
    clear c7
    refine lv_aload_n hx hb dX8_begin_10 rfl (lv_at hl 1 rfl) ?_
    refine va_get (D := D) (ci := 8) (v := .ref q_t_spot) (C := RX8) (T := TX8) (N := 37) hx hb hts hinX8 hown hK.1 hP 0 rfl rfl 30 (by decide) hk71 (fun _ h9 => h9) rfl dX8_begin_11 ?_
    refine lv_iload_n hx hb dX8_begin_14 rfl (lv_at hl 0 rfl) ?_
    refine lv_aload_n hx hb dX8_begin_15 rfl (lv_at hl 1 rfl) ?_
    refine va_get (D := D) (ci := 8) (v := .ref q_t_at0) (C := RX8) (T := TX8) (N := 37) hx hb hts hinX8 hown hK.1 hP 0 rfl rfl 16 (by decide) hk56 (fun _ h9 => h9) rfl dX8_begin_16 ?_
    refine lv_iload_n hx hb dX8_begin_19 rfl (lv_at hl 0 rfl) ?_
    obtain ⟨hi4, hf⟩ := ckE hf
    refine va_iald hx hb hK.1 hP 1 0 rfl rfl hi4 dX8_begin_20 ?_
    obtain ⟨hi5, hf⟩ := ckE hf
    refine va_iast hx hb hK.1 hP hD hS 2 0 rfl rfl hi5 dX8_begin_21 (fun H locs hP hD hS => ?_)
    have hP : va_P D vwCl [(q_t, oX8 q_t_shelf q_t_rowSort q_t_rowSize q_t_rows q_t_moved q_t_shown q_t_tape v_t_tapeSize q_t_refused v_t_places q_t_ways v_t_people q_t_kind q_t_by q_t_home q_t_aim q_t_at0 v_t_hour v_t_chance v_t_seed w_t_kept w_t_tried v_t_at v_t_token v_t_from v_t_figures v_t_fault q_t_told v_t_statements q_t_steps q_t_spot q_t_then v_t_now v_t_gone q_t_sights q_t_darkAt q_t_can), (q_t_at0, .inl (cy 0, 8, .inl v_t_at0)), (q_t_spot, .inl (cy 0, 8, .inl (upd u2 x1.toNatClampNeg (v_t_at0 x1.toNatClampNeg))))] H := hP
    have hD : va_D A [(q_t, oX8 q_t_shelf q_t_rowSort q_t_rowSize q_t_rows q_t_moved q_t_shown q_t_tape v_t_tapeSize q_t_refused v_t_places q_t_ways v_t_people q_t_kind q_t_by q_t_home q_t_aim q_t_at0 v_t_hour v_t_chance v_t_seed w_t_kept w_t_tried v_t_at v_t_token v_t_from v_t_figures v_t_fault q_t_told v_t_statements q_t_steps q_t_spot q_t_then v_t_now v_t_gone q_t_sights q_t_darkAt q_t_can), (q_t_at0, .inl (cy 0, 8, .inl v_t_at0)), (q_t_spot, .inl (cy 0, 8, .inl (upd u2 x1.toNatClampNeg (v_t_at0 x1.toNatClampNeg))))] := hD
    obtain ⟨x6, ex6⟩ : ∃ y : Int32, y = x1 + (1 : Int32) := ⟨_, rfl⟩
    have hf := vlE hf ex6
    refine lv_iinc (v := x6) (lv' := [(1, .int x6), (0, .ref q_t)]) hx hb dX8_begin_22 hl (k := 0) rfl (by rw [ex6]; rfl) (by decide) rfl (fun ls hl => ?_)
    clear ex6
    refine lv_goto (tgt := 2) hx hb dX8_begin_25 (by decide) ?_
    exact L2 x6 (upd u2 x1.toNatClampNeg (v_t_at0 x1.toNatClampNeg)) _ _ ls ⟨hP, hD, hS, lv_sub hl [0, 1] rfl⟩ hf
def fX8_nextRound (v_t_ways : Nat → Int32) (p0 : Int32) : Option (Int32) :=
  if p0 < 0 ∨ 12 ≤ p0.toNatClampNeg then none else
  vlet ((v_t_ways p0.toNatClampNeg) >>> ((p0 + (1 : Int32)) &&& 31)) fun x2 =>
  jo1 (fun (y3 : Int32) =>
    if y3 = 0 then
      some p0
    else
      lo1 (fun g6 (x5 : Int32) =>
        if ((y3 >>> (x5 &&& 31)) &&& (1 : Int32)) = 0 then
          vlet (x5 + (1 : Int32)) fun x7 =>
          g6 x7
        else
          some x5) 400 (0 : Int32)) fun k4 =>
  if x2 = 0 then
    if p0 < 0 ∨ 12 ≤ p0.toNatClampNeg then none else
    k4 (v_t_ways p0.toNatClampNeg)
  else
    k4 (x2 <<< ((p0 + (1 : Int32)) &&& 31))
set_option maxHeartbeats 4000000 in
set_option maxRecDepth 100000 in
theorem mX8_nextRound (l : Launch) (D : va_G) (cy : Nat → ClassId) (q_t q_t_shelf q_t_rowSort q_t_rowSize q_t_rows q_t_moved q_t_shown q_t_tape q_t_refused q_t_ways q_t_kind q_t_by q_t_home q_t_aim q_t_at0 q_t_told q_t_steps q_t_spot q_t_then q_t_sights q_t_darkAt q_t_can : Nat) (v_t_tapeSize : Int32) (v_t_places : Int32) (v_t_people : Int32) (v_t_hour : Int32) (v_t_chance : Int32) (v_t_seed : Int32) (w_t_kept : Value) (w_t_tried : Value) (v_t_at : Int32) (v_t_token : Int32) (v_t_from : Int32) (v_t_figures : Int32) (v_t_fault : Int32) (v_t_statements : Int32) (v_t_now : Int32) (v_t_gone : Int32) (v_t_ways : Nat → Int32) (p0 : Int32) {r_ : Int32} (hf : fX8_nextRound v_t_ways p0 = some r_) : Met l yX8_nextRound wsX8_nextRound ({ frames := 0, cells := 0, slots := 0, locals := 0 }) (va_Pc [.ref q_t, .int p0] (fun U => va_P D vwCl [(q_t, oX8 q_t_shelf q_t_rowSort q_t_rowSize q_t_rows q_t_moved q_t_shown q_t_tape v_t_tapeSize q_t_refused v_t_places q_t_ways v_t_people q_t_kind q_t_by q_t_home q_t_aim q_t_at0 v_t_hour v_t_chance v_t_seed w_t_kept w_t_tried v_t_at v_t_token v_t_from v_t_figures v_t_fault q_t_told v_t_statements q_t_steps q_t_spot q_t_then v_t_now v_t_gone q_t_sights q_t_darkAt q_t_can), (q_t_ways, .inl (cy 0, 12, .inl v_t_ways))] U.heap ∧ xK D cy U)) (vp_Si (fun x => x = r_)) 0 0 (fun _ => False) := by
  refine Met.ofW (cc := cX8_nextRound) (maxL := 5) (ret := (some .int)) (by decide) rfl ?_
  intro p e s m args below meth c s₁ B hml hv
  obtain ⟨rfl, hP, hK⟩ := hv
  have hx := B.exec
  have hb := B.bytes
  have hr := B.returns
  have hts := atoms_spec (ws := wsX8_nextRound) B.pre
  have hown : s.vm.findClass RX8 = some m.cls := findClass_of_methodNamed B.named
  have hlocks := B.notSynchronized
  have hP : va_P D vwCl [(q_t, oX8 q_t_shelf q_t_rowSort q_t_rowSize q_t_rows q_t_moved q_t_shown q_t_tape v_t_tapeSize q_t_refused v_t_places q_t_ways v_t_people q_t_kind q_t_by q_t_home q_t_aim q_t_at0 v_t_hour v_t_chance v_t_seed w_t_kept w_t_tried v_t_at v_t_token v_t_from v_t_figures v_t_fault q_t_told v_t_statements q_t_steps q_t_spot q_t_then v_t_now v_t_gone q_t_sights q_t_darkAt q_t_can), (q_t_ways, .inl (cy 0, 12, .inl v_t_ways))] s.heap := hP
  have hinX8 : ∀ w ∈ u_ws RX8 TX8 37, w ∈ wsX8_nextRound := by decide +kernel
  have hk41 := hts (.fieldLink RX8 41 "ShowsWhereNobodyIsModel" "ways" "[I") (by decide +kernel)
  have hl := lv_entry ([.ref q_t, .int p0]) (n := 5) (Nat.le_of_ble_eq_true rfl)
  rw [lg_entry_eq]
  generalize (lg_sl ([.ref q_t, .int p0]) ++ List.replicate (5 - (lg_sl ([.ref q_t, .int p0])).length) Slot.unset).toArray = ls at hl ⊢
  have hl : lv_has ls 5 [(0, .ref q_t), (1, .int p0)] := hl
  unfold fX8_nextRound at hf
  refine lv_aload_n hx hb dX8_nextRound_0 rfl (lv_at hl 0 rfl) ?_
  refine va_get (D := D) (ci := 8) (v := .ref q_t_ways) (C := RX8) (T := TX8) (N := 37) hx hb hts hinX8 hown hK.1 hP 0 rfl rfl 10 (by decide) hk41 (fun _ h9 => h9) rfl dX8_nextRound_1 ?_
  refine lv_iload_n hx hb dX8_nextRound_4 rfl (lv_at hl 1 rfl) ?_
  obtain ⟨hi1, hf⟩ := ckE hf
  refine va_iald hx hb hK.1 hP 1 0 rfl rfl hi1 dX8_nextRound_5 ?_
  refine lv_iload_n hx hb dX8_nextRound_6 rfl (lv_at hl 1 rfl) ?_
  refine lv_iconst (v := 1) hx hb dX8_nextRound_7 (by decide) ?_
  refine lv_iadd hx hb dX8_nextRound_8 ?_
  refine lv_ishr hx hb dX8_nextRound_9 ?_
  refine lv_topi (fun x2 ex2 => ?_)
  have hf := vlE hf ex2
  clear ex2
  refine lv_istore_n (lv' := [(2, .int x2), (0, .ref q_t), (1, .int p0)]) hx hb dX8_nextRound_10 rfl hl (by decide) rfl (fun ls hl => ?_)
  refine lv_iload_n hx hb dX8_nextRound_11 rfl (lv_at hl 0 rfl) ?_
  refine jwr1 29 (fun (y3 : Int32) => [.int y3]) (fun (y3 : Int32) ls => lv_has ls 5 [(1, .int p0)]) hf (fun y3 ls hl hf => ?_) (fun k4 J29 hf => ?_)
  · refine lv_istore_n (lv' := [(3, .int y3), (1, .int p0)]) hx hb dX8_nextRound_29 rfl hl (by decide) rfl (fun ls hl => ?_)
    refine lv_iload_n hx hb dX8_nextRound_30 rfl (lv_at hl 0 rfl) ?_
    refine lv_if_ne (tgt := 36) hx hb dX8_nextRound_31 (by decide) (fun c9 => ?_) (fun c9 => ?_)
    · have hf := ifF hf c9
      clear c9
      refine lv_iconst (v := 0) hx hb dX8_nextRound_36 (by decide) ?_
      refine lv_istore (lv' := [(4, .int (0 : Int32)), (3, .int y3), (1, .int p0)]) hx hb dX8_nextRound_37 hl (by decide) rfl (fun ls hl => ?_)
      refine wlr1 39 (fun _ => []) (fun (x5 : Int32) ls => lv_has ls 5 [(4, .int x5), (3, .int y3)]) (fun g6 L39 x5 ls hl hf => ?_) 400 (0 : Int32) ls (lv_sub hl [0, 1] rfl) hf
      refine lv_iload_n hx hb dX8_nextRound_39 rfl (lv_at hl 1 rfl) ?_
      refine lv_iload hx hb dX8_nextRound_40 (lv_at hl 0 rfl) ?_
      refine lv_ishr hx hb dX8_nextRound_42 ?_
      refine lv_iconst (v := 1) hx hb dX8_nextRound_43 (by decide) ?_
      refine lv_iand hx hb dX8_nextRound_44 ?_
      refine lv_if_ne (tgt := 54) hx hb dX8_nextRound_45 (by decide) (fun c8 => ?_) (fun c8 => ?_)
      · have hf := ifF hf c8
        clear c8
        refine lv_iload hx hb dX8_nextRound_54 (lv_at hl 0 rfl) ?_
        exact W.iret (v := x5) hx hb hr (fun t ht hW => ⟨x5, rfl, Option.some.inj hf, ht⟩) (fun q h => nomatch h) dX8_nextRound_56
      · have hf := ifT hf c8
        clear c8
        obtain ⟨x7, ex7⟩ : ∃ y : Int32, y = x5 + (1 : Int32) := ⟨_, rfl⟩
        have hf := vlE hf ex7
        refine lv_iinc (v := x7) (lv' := [(4, .int x7), (3, .int y3)]) hx hb dX8_nextRound_48 hl (k := 0) rfl (by rw [ex7]; rfl) (by decide) rfl (fun ls hl => ?_)
        clear ex7
        refine lv_goto (tgt := 39) hx hb dX8_nextRound_51 (by decide) ?_
        exact L39 x7 ls (lv_sub hl [0, 1] rfl) hf
    · have hf := ifT hf c9
      clear c9
      refine lv_iload_n hx hb dX8_nextRound_34 rfl (lv_at hl 1 rfl) ?_
      exact W.iret (v := p0) hx hb hr (fun t ht hW => ⟨p0, rfl, Option.some.inj hf, ht⟩) (fun q h => nomatch h) dX8_nextRound_35
  · refine lv_if_eq (tgt := 23) hx hb dX8_nextRound_12 (by decide) (fun c11 => ?_) (fun c11 => ?_)
    · have hf := ifT hf c11
      clear c11
      refine lv_aload_n hx hb dX8_nextRound_23 rfl (lv_at hl 1 rfl) ?_
      refine va_get (D := D) (ci := 8) (v := .ref q_t_ways) (C := RX8) (T := TX8) (N := 37) hx hb hts hinX8 hown hK.1 hP 0 rfl rfl 10 (by decide) hk41 (fun _ h9 => h9) rfl dX8_nextRound_24 ?_
      refine lv_iload_n hx hb dX8_nextRound_27 rfl (lv_at hl 2 rfl) ?_
      obtain ⟨hi10, hf⟩ := ckE hf
      refine va_iald hx hb hK.1 hP 1 0 rfl rfl hi10 dX8_nextRound_28 ?_
      exact J29 (v_t_ways p0.toNatClampNeg) ls (lv_sub hl [2] rfl) hf
    · have hf := ifF hf c11
      clear c11
      refine lv_iload_n hx hb dX8_nextRound_15 rfl (lv_at hl 0 rfl) ?_
      refine lv_iload_n hx hb dX8_nextRound_16 rfl (lv_at hl 2 rfl) ?_
      refine lv_iconst (v := 1) hx hb dX8_nextRound_17 (by decide) ?_
      refine lv_iadd hx hb dX8_nextRound_18 ?_
      refine lv_ishl hx hb dX8_nextRound_19 ?_
      refine lv_goto (tgt := 29) hx hb dX8_nextRound_20 (by decide) ?_
      exact J29 (x2 <<< ((p0 + (1 : Int32)) &&& 31)) ls (lv_sub hl [2] rfl) hf
def fX8_darkens (v_t_gone : Int32) (v_t_kind : Nat → Int32) (p0 : Int32) : Option (Int32) :=
  if p0 = v_t_gone then
    some (0 : Int32)
  else
    if p0 < 0 ∨ 8 ≤ p0.toNatClampNeg then none else
    if (v_t_kind p0.toNatClampNeg) = (3 : Int32) then
      some (0 : Int32)
    else
      if p0 < 0 ∨ 8 ≤ p0.toNatClampNeg then none else
      if (v_t_kind p0.toNatClampNeg) = (5 : Int32) then
        some (0 : Int32)
      else
        some (1 : Int32)
set_option maxHeartbeats 4000000 in
set_option maxRecDepth 100000 in
theorem mX8_darkens (l : Launch) (D : va_G) (cy : Nat → ClassId) (q_t q_t_shelf q_t_rowSort q_t_rowSize q_t_rows q_t_moved q_t_shown q_t_tape q_t_refused q_t_ways q_t_kind q_t_by q_t_home q_t_aim q_t_at0 q_t_told q_t_steps q_t_spot q_t_then q_t_sights q_t_darkAt q_t_can : Nat) (v_t_tapeSize : Int32) (v_t_places : Int32) (v_t_people : Int32) (v_t_hour : Int32) (v_t_chance : Int32) (v_t_seed : Int32) (w_t_kept : Value) (w_t_tried : Value) (v_t_at : Int32) (v_t_token : Int32) (v_t_from : Int32) (v_t_figures : Int32) (v_t_fault : Int32) (v_t_statements : Int32) (v_t_now : Int32) (v_t_gone : Int32) (v_t_kind : Nat → Int32) (p0 : Int32) {r_ : Int32} (hf : fX8_darkens v_t_gone v_t_kind p0 = some r_) : Met l yX8_darkens wsX8_darkens ({ frames := 0, cells := 0, slots := 0, locals := 0 }) (va_Pc [.ref q_t, .int p0] (fun U => va_P D vwCl [(q_t, oX8 q_t_shelf q_t_rowSort q_t_rowSize q_t_rows q_t_moved q_t_shown q_t_tape v_t_tapeSize q_t_refused v_t_places q_t_ways v_t_people q_t_kind q_t_by q_t_home q_t_aim q_t_at0 v_t_hour v_t_chance v_t_seed w_t_kept w_t_tried v_t_at v_t_token v_t_from v_t_figures v_t_fault q_t_told v_t_statements q_t_steps q_t_spot q_t_then v_t_now v_t_gone q_t_sights q_t_darkAt q_t_can), (q_t_kind, .inl (cy 0, 8, .inl v_t_kind))] U.heap ∧ xK D cy U)) (vp_Si (fun x => x = r_)) 0 0 (fun _ => False) := by
  refine Met.ofW (cc := cX8_darkens) (maxL := 2) (ret := (some .boolean)) (by decide) rfl ?_
  intro p e s m args below meth c s₁ B hml hv
  obtain ⟨rfl, hP, hK⟩ := hv
  have hx := B.exec
  have hb := B.bytes
  have hr := B.returns
  have hts := atoms_spec (ws := wsX8_darkens) B.pre
  have hown : s.vm.findClass RX8 = some m.cls := findClass_of_methodNamed B.named
  have hlocks := B.notSynchronized
  have hP : va_P D vwCl [(q_t, oX8 q_t_shelf q_t_rowSort q_t_rowSize q_t_rows q_t_moved q_t_shown q_t_tape v_t_tapeSize q_t_refused v_t_places q_t_ways v_t_people q_t_kind q_t_by q_t_home q_t_aim q_t_at0 v_t_hour v_t_chance v_t_seed w_t_kept w_t_tried v_t_at v_t_token v_t_from v_t_figures v_t_fault q_t_told v_t_statements q_t_steps q_t_spot q_t_then v_t_now v_t_gone q_t_sights q_t_darkAt q_t_can), (q_t_kind, .inl (cy 0, 8, .inl v_t_kind))] s.heap := hP
  have hinX8 : ∀ w ∈ u_ws RX8 TX8 37, w ∈ wsX8_darkens := by decide +kernel
  have hk77 := hts (.fieldLink RX8 77 "ShowsWhereNobodyIsModel" "gone" "I") (by decide +kernel)
  have hk44 := hts (.fieldLink RX8 44 "ShowsWhereNobodyIsModel" "kind" "[I") (by decide +kernel)
  have hl := lv_entry ([.ref q_t, .int p0]) (n := 2) (Nat.le_of_ble_eq_true rfl)
  rw [lg_entry_eq]
  generalize (lg_sl ([.ref q_t, .int p0]) ++ List.replicate (2 - (lg_sl ([.ref q_t, .int p0])).length) Slot.unset).toArray = ls at hl ⊢
  have hl : lv_has ls 2 [(0, .ref q_t), (1, .int p0)] := hl
  unfold fX8_darkens at hf
  refine lv_iload_n hx hb dX8_darkens_0 rfl (lv_at hl 1 rfl) ?_
  refine lv_aload_n hx hb dX8_darkens_1 rfl (lv_at hl 0 rfl) ?_
  refine va_get (D := D) (ci := 8) (v := .int v_t_gone) (C := RX8) (T := TX8) (N := 37) hx hb hts hinX8 hown hK.1 hP 0 rfl rfl 33 (by decide) hk77 (fun _ h9 => h9) rfl dX8_darkens_2 ?_
  refine lv_icmp_eq (tgt := 32) hx hb dX8_darkens_5 (by decide) (fun c5 => ?_) (fun c5 => ?_)
  · have hf := ifT hf c5
    clear c5
    refine lv_iconst (v := 0) hx hb dX8_darkens_32 (by decide) ?_
    exact W.zret (v := (0 : Int32)) hx hb hr rfl (fun t ht hW => ⟨(0 : Int32), rfl, Option.some.inj hf, ht⟩) (fun q h => nomatch h) dX8_darkens_33
  · have hf := ifF hf c5
    clear c5
    refine lv_aload_n hx hb dX8_darkens_8 rfl (lv_at hl 0 rfl) ?_
    refine va_get (D := D) (ci := 8) (v := .ref q_t_kind) (C := RX8) (T := TX8) (N := 37) hx hb hts hinX8 hown hK.1 hP 0 rfl rfl 12 (by decide) hk44 (fun _ h9 => h9) rfl dX8_darkens_9 ?_
    refine lv_iload_n hx hb dX8_darkens_12 rfl (lv_at hl 1 rfl) ?_
    obtain ⟨hi1, hf⟩ := ckE hf
    refine va_iald hx hb hK.1 hP 1 0 rfl rfl hi1 dX8_darkens_13 ?_
    refine lv_iconst (v := 3) hx hb dX8_darkens_14 (by decide) ?_
    refine lv_icmp_eq (tgt := 32) hx hb dX8_darkens_15 (by decide) (fun c4 => ?_) (fun c4 => ?_)
    · have hf := ifT hf c4
      clear c4
      refine lv_iconst (v := 0) hx hb dX8_darkens_32 (by decide) ?_
      exact W.zret (v := (0 : Int32)) hx hb hr rfl (fun t ht hW => ⟨(0 : Int32), rfl, Option.some.inj hf, ht⟩) (fun q h => nomatch h) dX8_darkens_33
    · have hf := ifF hf c4
      clear c4
      refine lv_aload_n hx hb dX8_darkens_18 rfl (lv_at hl 0 rfl) ?_
      refine va_get (D := D) (ci := 8) (v := .ref q_t_kind) (C := RX8) (T := TX8) (N := 37) hx hb hts hinX8 hown hK.1 hP 0 rfl rfl 12 (by decide) hk44 (fun _ h9 => h9) rfl dX8_darkens_19 ?_
      refine lv_iload_n hx hb dX8_darkens_22 rfl (lv_at hl 1 rfl) ?_
      obtain ⟨hi2, hf⟩ := ckE hf
      refine va_iald hx hb hK.1 hP 1 0 rfl rfl hi2 dX8_darkens_23 ?_
      refine lv_iconst (v := 5) hx hb dX8_darkens_24 (by decide) ?_
      refine lv_icmp_eq (tgt := 32) hx hb dX8_darkens_25 (by decide) (fun c3 => ?_) (fun c3 => ?_)
      · have hf := ifT hf c3
        clear c3
        refine lv_iconst (v := 0) hx hb dX8_darkens_32 (by decide) ?_
        exact W.zret (v := (0 : Int32)) hx hb hr rfl (fun t ht hW => ⟨(0 : Int32), rfl, Option.some.inj hf, ht⟩) (fun q h => nomatch h) dX8_darkens_33
      · have hf := ifF hf c3
        clear c3
        refine lv_iconst (v := 1) hx hb dX8_darkens_28 (by decide) ?_
        refine lv_goto (tgt := 33) hx hb dX8_darkens_29 (by decide) ?_
        exact W.zret (v := (1 : Int32)) hx hb hr rfl (fun t ht hW => ⟨(1 : Int32), rfl, Option.some.inj hf, ht⟩) (fun q h => nomatch h) dX8_darkens_33
def fX8_isDarkBut (v_t_people : Int32) (v_t_gone : Int32) (v_t_kind : Nat → Int32) (v_t_spot : Nat → Int32) (p0 : Int32) (p1 : Int32) : Option (Int32) :=
  lo1 (fun g2 (x1 : Int32) =>
    if v_t_people ≤ x1 then
      some (0 : Int32)
    else
      jo0 (
        vlet (x1 + (1 : Int32)) fun x4 =>
        g2 x4) fun k3 =>
      if x1 = p1 then
        k3
      else
        if x1 < 0 ∨ 8 ≤ x1.toNatClampNeg then none else
        if (v_t_spot x1.toNatClampNeg) = p0 then
          bo1 (fX8_darkens v_t_gone v_t_kind x1) fun r6 =>
          if r6 = 0 then
            k3
          else
            some (1 : Int32)
        else
          k3) 400 (0 : Int32)
set_option maxHeartbeats 4000000 in
set_option maxRecDepth 100000 in
theorem mX8_isDarkBut (l : Launch) (D : va_G) (cy : Nat → ClassId) (q_t q_t_shelf q_t_rowSort q_t_rowSize q_t_rows q_t_moved q_t_shown q_t_tape q_t_refused q_t_ways q_t_kind q_t_by q_t_home q_t_aim q_t_at0 q_t_told q_t_steps q_t_spot q_t_then q_t_sights q_t_darkAt q_t_can : Nat) (v_t_tapeSize : Int32) (v_t_places : Int32) (v_t_people : Int32) (v_t_hour : Int32) (v_t_chance : Int32) (v_t_seed : Int32) (w_t_kept : Value) (w_t_tried : Value) (v_t_at : Int32) (v_t_token : Int32) (v_t_from : Int32) (v_t_figures : Int32) (v_t_fault : Int32) (v_t_statements : Int32) (v_t_now : Int32) (v_t_gone : Int32) (v_t_kind : Nat → Int32) (v_t_spot : Nat → Int32) (p0 : Int32) (p1 : Int32) {r_ : Int32} (hf : fX8_isDarkBut v_t_people v_t_gone v_t_kind v_t_spot p0 p1 = some r_) : Met l yX8_isDarkBut wsX8_isDarkBut ({ frames := 1, cells := 0, slots := 0, locals := 21 }) (va_Pc [.ref q_t, .int p0, .int p1] (fun U => va_P D vwCl [(q_t, oX8 q_t_shelf q_t_rowSort q_t_rowSize q_t_rows q_t_moved q_t_shown q_t_tape v_t_tapeSize q_t_refused v_t_places q_t_ways v_t_people q_t_kind q_t_by q_t_home q_t_aim q_t_at0 v_t_hour v_t_chance v_t_seed w_t_kept w_t_tried v_t_at v_t_token v_t_from v_t_figures v_t_fault q_t_told v_t_statements q_t_steps q_t_spot q_t_then v_t_now v_t_gone q_t_sights q_t_darkAt q_t_can), (q_t_kind, .inl (cy 0, 8, .inl v_t_kind)), (q_t_spot, .inl (cy 0, 8, .inl v_t_spot))] U.heap ∧ xK D cy U)) (vp_Si (fun x => x = r_)) 0 0 (fun _ => False) := by
  refine Met.ofW (cc := cX8_isDarkBut) (maxL := 4) (ret := (some .boolean)) (by decide) rfl ?_
  intro p e s m args below meth c s₁ B hml hv
  obtain ⟨rfl, hP, hK⟩ := hv
  have hx := B.exec
  have hb := B.bytes
  have hr := B.returns
  have hts := atoms_spec (ws := wsX8_isDarkBut) B.pre
  have hown : s.vm.findClass RX8 = some m.cls := findClass_of_methodNamed B.named
  have hlocks := B.notSynchronized
  have hP : va_P D vwCl [(q_t, oX8 q_t_shelf q_t_rowSort q_t_rowSize q_t_rows q_t_moved q_t_shown q_t_tape v_t_tapeSize q_t_refused v_t_places q_t_ways v_t_people q_t_kind q_t_by q_t_home q_t_aim q_t_at0 v_t_hour v_t_chance v_t_seed w_t_kept w_t_tried v_t_at v_t_token v_t_from v_t_figures v_t_fault q_t_told v_t_statements q_t_steps q_t_spot q_t_then v_t_now v_t_gone q_t_sights q_t_darkAt q_t_can), (q_t_kind, .inl (cy 0, 8, .inl v_t_kind)), (q_t_spot, .inl (cy 0, 8, .inl v_t_spot))] s.heap := hP
  have hinX8 : ∀ w ∈ u_ws RX8 TX8 37, w ∈ wsX8_isDarkBut := by decide +kernel
  have hk95 := hts (.fieldLink RX8 95 "ShowsWhereNobodyIsModel" "people" "I") (by decide +kernel)
  have hk71 := hts (.fieldLink RX8 71 "ShowsWhereNobodyIsModel" "spot" "[I") (by decide +kernel)
  have hl := lv_entry ([.ref q_t, .int p0, .int p1]) (n := 4) (Nat.le_of_ble_eq_true rfl)
  rw [lg_entry_eq]
  generalize (lg_sl ([.ref q_t, .int p0, .int p1]) ++ List.replicate (4 - (lg_sl ([.ref q_t, .int p0, .int p1])).length) Slot.unset).toArray = ls at hl ⊢
  have hl : lv_has ls 4 [(0, .ref q_t), (1, .int p0), (2, .int p1)] := hl
  unfold fX8_isDarkBut at hf
  refine lv_iconst (v := 0) hx hb dX8_isDarkBut_0 (by decide) ?_
  refine lv_istore_n (lv' := [(3, .int (0 : Int32)), (0, .ref q_t), (1, .int p0), (2, .int p1)]) hx hb dX8_isDarkBut_1 rfl hl (by decide) rfl (fun ls hl => ?_)
  refine wlr1 2 (fun _ => []) (fun (x1 : Int32) ls => lv_has ls 4 [(3, .int x1), (0, .ref q_t), (1, .int p0), (2, .int p1)]) (fun g2 L2 x1 ls hl hf => ?_) 400 (0 : Int32) ls (lv_sub hl [0, 1, 2, 3] rfl) hf
  refine lv_iload_n hx hb dX8_isDarkBut_2 rfl (lv_at hl 0 rfl) ?_
  refine lv_aload_n hx hb dX8_isDarkBut_3 rfl (lv_at hl 1 rfl) ?_
  refine va_get (D := D) (ci := 8) (v := .int v_t_people) (C := RX8) (T := TX8) (N := 37) hx hb hts hinX8 hown hK.1 hP 0 rfl rfl 11 (by decide) hk95 (fun _ h9 => h9) rfl dX8_isDarkBut_4 ?_
  refine lv_icmp_ge (tgt := 41) hx hb dX8_isDarkBut_7 (by decide) (fun c11 => ?_) (fun c11 => ?_)
  · have hf := ifT hf c11
    clear c11
    refine lv_iconst (v := 0) hx hb dX8_isDarkBut_41 (by decide) ?_
    exact W.zret (v := (0 : Int32)) hx hb hr rfl (fun t ht hW => ⟨(0 : Int32), rfl, Option.some.inj hf, ht⟩) (fun q h => nomatch h) dX8_isDarkBut_42
  · have hf := ifF hf c11
    clear c11
    refine lv_iload_n hx hb dX8_isDarkBut_10 rfl (lv_at hl 0 rfl) ?_
    refine lv_iload_n hx hb dX8_isDarkBut_11 rfl (lv_at hl 3 rfl) ?_
    refine jwr0 35 [] (fun  ls => lv_has ls 4 [(0, .ref q_t), (1, .int p0), (2, .int p1), (3, .int x1)]) hf (fun  ls hl hf => ?_) (fun k3 J35 hf => ?_)
    · obtain ⟨x4, ex4⟩ : ∃ y : Int32, y = x1 + (1 : Int32) := ⟨_, rfl⟩
      have hf := vlE hf ex4
      refine lv_iinc (v := x4) (lv' := [(3, .int x4), (0, .ref q_t), (1, .int p0), (2, .int p1)]) hx hb dX8_isDarkBut_35 hl (k := 3) rfl (by rw [ex4]; rfl) (by decide) rfl (fun ls hl => ?_)
      clear ex4
      refine lv_goto (tgt := 2) hx hb dX8_isDarkBut_38 (by decide) ?_
      exact L2 x4 ls (lv_sub hl [0, 1, 2, 3] rfl) hf
    · refine lv_icmp_eq (tgt := 35) hx hb dX8_isDarkBut_12 (by decide) (fun c10 => ?_) (fun c10 => ?_)
      · have hf := ifT hf c10
        clear c10
        exact J35 ls (lv_sub hl [1, 2, 3, 0] rfl) hf
      · have hf := ifF hf c10
        clear c10
        refine lv_aload_n hx hb dX8_isDarkBut_15 rfl (lv_at hl 1 rfl) ?_
        refine va_get (D := D) (ci := 8) (v := .ref q_t_spot) (C := RX8) (T := TX8) (N := 37) hx hb hts hinX8 hown hK.1 hP 0 rfl rfl 30 (by decide) hk71 (fun _ h9 => h9) rfl dX8_isDarkBut_16 ?_
        refine lv_iload_n hx hb dX8_isDarkBut_19 rfl (lv_at hl 0 rfl) ?_
        obtain ⟨hi5, hf⟩ := ckE hf
        refine va_iald hx hb hK.1 hP 2 0 rfl rfl hi5 dX8_isDarkBut_20 ?_
        refine lv_iload_n hx hb dX8_isDarkBut_21 rfl (lv_at hl 2 rfl) ?_
        refine lv_icmp_ne (tgt := 35) hx hb dX8_isDarkBut_22 (by decide) (fun c9 => ?_) (fun c9 => ?_)
        · have hf := ifF hf c9
          clear c9
          exact J35 ls (lv_sub hl [1, 2, 3, 0] rfl) hf
        · have hf := ifT hf c9
          clear c9
          refine lv_aload_n hx hb dX8_isDarkBut_25 rfl (lv_at hl 1 rfl) ?_
          refine lv_iload_n hx hb dX8_isDarkBut_26 rfl (lv_at hl 0 rfl) ?_
          obtain ⟨r6, hr7, hf⟩ := boE1 hf
          have hPc := hP.sub (ws' := [(q_t, oX8 q_t_shelf q_t_rowSort q_t_rowSize q_t_rows q_t_moved q_t_shown q_t_tape v_t_tapeSize q_t_refused v_t_places q_t_ways v_t_people q_t_kind q_t_by q_t_home q_t_aim q_t_at0 v_t_hour v_t_chance v_t_seed w_t_kept w_t_tried v_t_at v_t_token v_t_from v_t_figures v_t_fault q_t_told v_t_statements q_t_steps q_t_spot q_t_then v_t_now v_t_gone q_t_sights q_t_darkAt q_t_can), (q_t_kind, .inl (cy 0, 8, .inl v_t_kind))]) [0, 1] rfl
          refine xcSi (va_runV (As := [.int x1]) (rest := []) ⟨hx, hb, hml, hown, hts⟩ (mX8_darkens l D cy q_t q_t_shelf q_t_rowSort q_t_rowSize q_t_rows q_t_moved q_t_shown q_t_tape q_t_refused q_t_ways q_t_kind q_t_by q_t_home q_t_aim q_t_at0 q_t_told q_t_steps q_t_spot q_t_then q_t_sights q_t_darkAt q_t_can v_t_tapeSize v_t_places v_t_people v_t_hour v_t_chance v_t_seed w_t_kept w_t_tried v_t_at v_t_token v_t_from v_t_figures v_t_fault v_t_statements v_t_now v_t_gone v_t_kind  x1 hr7) (cwV 1 hts gX8_isDarkBut_X8_darkens rfl rfl rfl (by decide +kernel) ⟨Nat.le_of_ble_eq_true rfl, Nat.le_of_ble_eq_true rfl⟩) (xPV hK hPc (ci := 8) (q0 := 0) rfl rfl) rfl rfl hl.1 rfl (lv_room (Nat.le_of_ble_eq_true rfl)) dX8_isDarkBut_27 ⟨Nat.le_of_ble_eq_true rfl, Nat.le_of_ble_eq_true rfl⟩) ?_
          refine lv_if_eq (tgt := 35) hx hb dX8_isDarkBut_30 (by decide) (fun c8 => ?_) (fun c8 => ?_)
          · have hf := ifT hf c8
            clear c8
            exact J35 ls (lv_sub hl [1, 2, 3, 0] rfl) hf
          · have hf := ifF hf c8
            clear c8
            refine lv_iconst (v := 1) hx hb dX8_isDarkBut_33 (by decide) ?_
            exact W.zret (v := (1 : Int32)) hx hb hr rfl (fun t ht hW => ⟨(1 : Int32), rfl, Option.some.inj hf, ht⟩) (fun q h => nomatch h) dX8_isDarkBut_34
def fX8_findFar (v_t_places : Int32) (v_t_ways : Nat → Int32) (v_t_steps : Nat → Int32) (p0 : Int32) : Option ((Nat → Int32)) :=
  lo2 (fun g3 (x1 : Int32) (u2 : Nat → Int32) =>
    if v_t_places ≤ x1 then
      lo2 (fun g6 (x4 : Int32) (u5 : Nat → Int32) =>
        if v_t_places ≤ x4 then
          some u5
        else
          lo2 (fun g9 (x7 : Int32) (u8 : Nat → Int32) =>
            if v_t_places ≤ x7 then
              vlet (x4 + (1 : Int32)) fun x10 =>
              g6 x10 u8
            else
              lo2 (fun g13 (x11 : Int32) (u12 : Nat → Int32) =>
                jo0 (
                  vlet (x7 + (1 : Int32)) fun x15 =>
                  g9 x15 u12) fun k14 =>
                if v_t_places ≤ x11 then
                  k14
                else
                  if x7 < 0 ∨ 12 ≤ x7.toNatClampNeg then none else
                  if (u12 x7.toNatClampNeg) = (-1 : Int32) then
                    if x7 < 0 ∨ 12 ≤ x7.toNatClampNeg then none else
                    jo1 (fun (y18 : Int32) =>
                      if x7 < 0 ∨ 12 ≤ x7.toNatClampNeg then none else
                      vlet (x11 + (1 : Int32)) fun x21 =>
                      g13 x21 (upd u12 x7.toNatClampNeg y18)) fun k19 =>
                    jo0 (
                      k19 (-1 : Int32)) fun k22 =>
                    if (((v_t_ways x7.toNatClampNeg) >>> (x11 &&& 31)) &&& (1 : Int32)) = (1 : Int32) then
                      if x11 < 0 ∨ 12 ≤ x11.toNatClampNeg then none else
                      if (u12 x11.toNatClampNeg) = (x4 - (1 : Int32)) then
                        k19 x4
                      else
                        k22
                    else
                      k22
                  else
                    k14) 400 (0 : Int32) u8) 400 (0 : Int32) u5) 400 (1 : Int32) u2
    else
      jo1 (fun (y30 : Int32) =>
        if x1 < 0 ∨ 12 ≤ x1.toNatClampNeg then none else
        vlet (x1 + (1 : Int32)) fun x33 =>
        g3 x33 (upd u2 x1.toNatClampNeg y30)) fun k31 =>
      if x1 = p0 then
        k31 (0 : Int32)
      else
        k31 (-1 : Int32)) 400 (0 : Int32) v_t_steps
set_option maxHeartbeats 4000000 in
set_option maxRecDepth 100000 in
theorem mX8_findFar (l : Launch) (D : va_G) (cy : Nat → ClassId) (q_t q_t_shelf q_t_rowSort q_t_rowSize q_t_rows q_t_moved q_t_shown q_t_tape q_t_refused q_t_ways q_t_kind q_t_by q_t_home q_t_aim q_t_at0 q_t_told q_t_steps q_t_spot q_t_then q_t_sights q_t_darkAt q_t_can : Nat) (v_t_tapeSize : Int32) (v_t_places : Int32) (v_t_people : Int32) (v_t_hour : Int32) (v_t_chance : Int32) (v_t_seed : Int32) (w_t_kept : Value) (w_t_tried : Value) (v_t_at : Int32) (v_t_token : Int32) (v_t_from : Int32) (v_t_figures : Int32) (v_t_fault : Int32) (v_t_statements : Int32) (v_t_now : Int32) (v_t_gone : Int32) (v_t_ways : Nat → Int32) (v_t_steps : Nat → Int32) (sz : Nat) (p0 : Int32) {n_t_steps : Nat → Int32} (hf : fX8_findFar v_t_places v_t_ways v_t_steps p0 = some n_t_steps) : Met l yX8_findFar wsX8_findFar ({ frames := 0, cells := 0, slots := 0, locals := 0 }) (va_Pc [.ref q_t, .int p0] (fun U => U.heap.size = sz ∧ va_P D vwCl [(q_t, oX8 q_t_shelf q_t_rowSort q_t_rowSize q_t_rows q_t_moved q_t_shown q_t_tape v_t_tapeSize q_t_refused v_t_places q_t_ways v_t_people q_t_kind q_t_by q_t_home q_t_aim q_t_at0 v_t_hour v_t_chance v_t_seed w_t_kept w_t_tried v_t_at v_t_token v_t_from v_t_figures v_t_fault q_t_told v_t_statements q_t_steps q_t_spot q_t_then v_t_now v_t_gone q_t_sights q_t_darkAt q_t_can), (q_t_ways, .inl (cy 0, 12, .inl v_t_ways)), (q_t_steps, .inl (cy 0, 12, .inl v_t_steps))] U.heap ∧ xK D cy U ∧ va_D (fun _ => True) [(q_t, oX8 q_t_shelf q_t_rowSort q_t_rowSize q_t_rows q_t_moved q_t_shown q_t_tape v_t_tapeSize q_t_refused v_t_places q_t_ways v_t_people q_t_kind q_t_by q_t_home q_t_aim q_t_at0 v_t_hour v_t_chance v_t_seed w_t_kept w_t_tried v_t_at v_t_token v_t_from v_t_figures v_t_fault q_t_told v_t_statements q_t_steps q_t_spot q_t_then v_t_now v_t_gone q_t_sights q_t_darkAt q_t_can), (q_t_ways, .inl (cy 0, 12, .inl v_t_ways)), (q_t_steps, .inl (cy 0, 12, .inl v_t_steps))])) (va_Qv (fun (_ : Unit) => True) (fun _ t => va_P D vwCl [(q_t, oX8 q_t_shelf q_t_rowSort q_t_rowSize q_t_rows q_t_moved q_t_shown q_t_tape v_t_tapeSize q_t_refused v_t_places q_t_ways v_t_people q_t_kind q_t_by q_t_home q_t_aim q_t_at0 v_t_hour v_t_chance v_t_seed w_t_kept w_t_tried v_t_at v_t_token v_t_from v_t_figures v_t_fault q_t_told v_t_statements q_t_steps q_t_spot q_t_then v_t_now v_t_gone q_t_sights q_t_darkAt q_t_can), (q_t_ways, .inl (cy 0, 12, .inl v_t_ways)), (q_t_steps, .inl (cy 0, 12, .inl n_t_steps))] t.heap) (va_A [(q_t, oX8 q_t_shelf q_t_rowSort q_t_rowSize q_t_rows q_t_moved q_t_shown q_t_tape v_t_tapeSize q_t_refused v_t_places q_t_ways v_t_people q_t_kind q_t_by q_t_home q_t_aim q_t_at0 v_t_hour v_t_chance v_t_seed w_t_kept w_t_tried v_t_at v_t_token v_t_from v_t_figures v_t_fault q_t_told v_t_statements q_t_steps q_t_spot q_t_then v_t_now v_t_gone q_t_sights q_t_darkAt q_t_can), (q_t_ways, .inl (cy 0, 12, .inl v_t_ways)), (q_t_steps, .inl (cy 0, 12, .inl v_t_steps))] sz)) 0 0 (va_A [(q_t, oX8 q_t_shelf q_t_rowSort q_t_rowSize q_t_rows q_t_moved q_t_shown q_t_tape v_t_tapeSize q_t_refused v_t_places q_t_ways v_t_people q_t_kind q_t_by q_t_home q_t_aim q_t_at0 v_t_hour v_t_chance v_t_seed w_t_kept w_t_tried v_t_at v_t_token v_t_from v_t_figures v_t_fault q_t_told v_t_statements q_t_steps q_t_spot q_t_then v_t_now v_t_gone q_t_sights q_t_darkAt q_t_can), (q_t_ways, .inl (cy 0, 12, .inl v_t_ways)), (q_t_steps, .inl (cy 0, 12, .inl v_t_steps))] sz) := by
  refine Met.ofW (cc := cX8_findFar) (maxL := 5) (ret := none) (by decide) rfl ?_
  intro p e s m args below meth c s₁ B hml hv
  obtain ⟨rfl, hsz, hP, hK, hD0⟩ := hv
  have hx := B.exec
  have hb := B.bytes
  have hr := B.returns
  have hts := atoms_spec (ws := wsX8_findFar) B.pre
  have hown : s.vm.findClass RX8 = some m.cls := findClass_of_methodNamed B.named
  have hlocks := B.notSynchronized
  subst hsz
  have hD := hD0.self (sz := s.heap.size)
  generalize hAe : va_A [(q_t, oX8 q_t_shelf q_t_rowSort q_t_rowSize q_t_rows q_t_moved q_t_shown q_t_tape v_t_tapeSize q_t_refused v_t_places q_t_ways v_t_people q_t_kind q_t_by q_t_home q_t_aim q_t_at0 v_t_hour v_t_chance v_t_seed w_t_kept w_t_tried v_t_at v_t_token v_t_from v_t_figures v_t_fault q_t_told v_t_statements q_t_steps q_t_spot q_t_then v_t_now v_t_gone q_t_sights q_t_darkAt q_t_can), (q_t_ways, .inl (cy 0, 12, .inl v_t_ways)), (q_t_steps, .inl (cy 0, 12, .inl v_t_steps))] s.heap.size = A at hD ⊢
  have hA : ∀ q : Nat, s.heap.size ≤ q → A q := fun q h => by rw [← hAe]; exact Or.inr h
  have hS : va_S A s.heap s.heap [] := va_S.rf
  have hP : va_P D vwCl [(q_t, oX8 q_t_shelf q_t_rowSort q_t_rowSize q_t_rows q_t_moved q_t_shown q_t_tape v_t_tapeSize q_t_refused v_t_places q_t_ways v_t_people q_t_kind q_t_by q_t_home q_t_aim q_t_at0 v_t_hour v_t_chance v_t_seed w_t_kept w_t_tried v_t_at v_t_token v_t_from v_t_figures v_t_fault q_t_told v_t_statements q_t_steps q_t_spot q_t_then v_t_now v_t_gone q_t_sights q_t_darkAt q_t_can), (q_t_ways, .inl (cy 0, 12, .inl v_t_ways)), (q_t_steps, .inl (cy 0, 12, .inl v_t_steps))] s.heap := hP
  have hinX8 : ∀ w ∈ u_ws RX8 TX8 37, w ∈ wsX8_findFar := by decide +kernel
  have hk37 := hts (.fieldLink RX8 37 "ShowsWhereNobodyIsModel" "places" "I") (by decide +kernel)
  have hk68 := hts (.fieldLink RX8 68 "ShowsWhereNobodyIsModel" "steps" "[I") (by decide +kernel)
  have hk41 := hts (.fieldLink RX8 41 "ShowsWhereNobodyIsModel" "ways" "[I") (by decide +kernel)
  have hl := lv_entry ([.ref q_t, .int p0]) (n := 5) (Nat.le_of_ble_eq_true rfl)
  rw [lg_entry_eq]
  generalize (lg_sl ([.ref q_t, .int p0]) ++ List.replicate (5 - (lg_sl ([.ref q_t, .int p0])).length) Slot.unset).toArray = ls at hl ⊢
  have hl : lv_has ls 5 [(0, .ref q_t), (1, .int p0)] := hl
  unfold fX8_findFar at hf
  refine lv_iconst (v := 0) hx hb dX8_findFar_0 (by decide) ?_
  refine lv_istore_n (lv' := [(2, .int (0 : Int32)), (0, .ref q_t), (1, .int p0)]) hx hb dX8_findFar_1 rfl hl (by decide) rfl (fun ls hl => ?_)
  refine wlw2 2 (fun _ _ => []) (fun (x1 : Int32) (u2 : Nat → Int32) H locs ls => va_P D vwCl [(q_t, oX8 q_t_shelf q_t_rowSort q_t_rowSize q_t_rows q_t_moved q_t_shown q_t_tape v_t_tapeSize q_t_refused v_t_places q_t_ways v_t_people q_t_kind q_t_by q_t_home q_t_aim q_t_at0 v_t_hour v_t_chance v_t_seed w_t_kept w_t_tried v_t_at v_t_token v_t_from v_t_figures v_t_fault q_t_told v_t_statements q_t_steps q_t_spot q_t_then v_t_now v_t_gone q_t_sights q_t_darkAt q_t_can), (q_t_ways, .inl (cy 0, 12, .inl v_t_ways)), (q_t_steps, .inl (cy 0, 12, .inl u2))] H ∧ va_D A [(q_t, oX8 q_t_shelf q_t_rowSort q_t_rowSize q_t_rows q_t_moved q_t_shown q_t_tape v_t_tapeSize q_t_refused v_t_places q_t_ways v_t_people q_t_kind q_t_by q_t_home q_t_aim q_t_at0 v_t_hour v_t_chance v_t_seed w_t_kept w_t_tried v_t_at v_t_token v_t_from v_t_figures v_t_fault q_t_told v_t_statements q_t_steps q_t_spot q_t_then v_t_now v_t_gone q_t_sights q_t_darkAt q_t_can), (q_t_ways, .inl (cy 0, 12, .inl v_t_ways)), (q_t_steps, .inl (cy 0, 12, .inl u2))] ∧ va_S A s.heap H locs ∧ lv_has ls 5 [(2, .int x1), (0, .ref q_t), (1, .int p0)]) (fun g3 L2 x1 u2 H locs ls hI hf => ?_) 400 (0 : Int32) v_t_steps _ _ ls ⟨hP, hD, hS, lv_sub hl [0, 1, 2] rfl⟩ hf
  obtain ⟨hP, hD, hS, hl⟩ := hI
  refine lv_iload_n hx hb dX8_findFar_2 rfl (lv_at hl 0 rfl) ?_
  refine lv_aload_n hx hb dX8_findFar_3 rfl (lv_at hl 1 rfl) ?_
  refine va_get (D := D) (ci := 8) (v := .int v_t_places) (C := RX8) (T := TX8) (N := 37) hx hb hts hinX8 hown hK.1 hP 0 rfl rfl 9 (by decide) hk37 (fun _ h9 => h9) rfl dX8_findFar_4 ?_
  refine lv_icmp_ge (tgt := 32) hx hb dX8_findFar_7 (by decide) (fun c35 => ?_) (fun c35 => ?_)
  · have hf := ifT hf c35
    clear c35
    refine lv_iconst (v := 1) hx hb dX8_findFar_32 (by decide) ?_
    refine lv_istore_n (lv' := [(2, .int (1 : Int32)), (0, .ref q_t), (1, .int p0)]) hx hb dX8_findFar_33 rfl hl (by decide) rfl (fun ls hl => ?_)
    refine wlw2 34 (fun _ _ => []) (fun (x4 : Int32) (u5 : Nat → Int32) H locs ls => va_P D vwCl [(q_t, oX8 q_t_shelf q_t_rowSort q_t_rowSize q_t_rows q_t_moved q_t_shown q_t_tape v_t_tapeSize q_t_refused v_t_places q_t_ways v_t_people q_t_kind q_t_by q_t_home q_t_aim q_t_at0 v_t_hour v_t_chance v_t_seed w_t_kept w_t_tried v_t_at v_t_token v_t_from v_t_figures v_t_fault q_t_told v_t_statements q_t_steps q_t_spot q_t_then v_t_now v_t_gone q_t_sights q_t_darkAt q_t_can), (q_t_ways, .inl (cy 0, 12, .inl v_t_ways)), (q_t_steps, .inl (cy 0, 12, .inl u5))] H ∧ va_D A [(q_t, oX8 q_t_shelf q_t_rowSort q_t_rowSize q_t_rows q_t_moved q_t_shown q_t_tape v_t_tapeSize q_t_refused v_t_places q_t_ways v_t_people q_t_kind q_t_by q_t_home q_t_aim q_t_at0 v_t_hour v_t_chance v_t_seed w_t_kept w_t_tried v_t_at v_t_token v_t_from v_t_figures v_t_fault q_t_told v_t_statements q_t_steps q_t_spot q_t_then v_t_now v_t_gone q_t_sights q_t_darkAt q_t_can), (q_t_ways, .inl (cy 0, 12, .inl v_t_ways)), (q_t_steps, .inl (cy 0, 12, .inl u5))] ∧ va_S A s.heap H locs ∧ lv_has ls 5 [(2, .int x4), (0, .ref q_t)]) (fun g6 L34 x4 u5 H locs ls hI hf => ?_) 400 (1 : Int32) u2 _ _ ls ⟨hP, hD, hS, lv_sub hl [0, 1] rfl⟩ hf
    obtain ⟨hP, hD, hS, hl⟩ := hI
    refine lv_iload_n hx hb dX8_findFar_34 rfl (lv_at hl 0 rfl) ?_
    refine lv_aload_n hx hb dX8_findFar_35 rfl (lv_at hl 1 rfl) ?_
    refine va_get (D := D) (ci := 8) (v := .int v_t_places) (C := RX8) (T := TX8) (N := 37) hx hb hts hinX8 hown hK.1 hP 0 rfl rfl 9 (by decide) hk37 (fun _ h9 => h9) rfl dX8_findFar_36 ?_
    refine lv_icmp_ge (tgt := 131) hx hb dX8_findFar_39 (by decide) (fun c29 => ?_) (fun c29 => ?_)
    · have hf := ifT hf c29
      clear c29
      cases hf
      exact W.vret hx hb hr (fun t ht hW => ⟨⟨(), rfl, trivial, xend ht hP⟩, hS.F ht⟩) hS.2.2 dX8_findFar_131
    · have hf := ifF hf c29
      clear c29
      refine lv_iconst (v := 0) hx hb dX8_findFar_42 (by decide) ?_
      refine lv_istore_n (lv' := [(3, .int (0 : Int32)), (2, .int x4), (0, .ref q_t)]) hx hb dX8_findFar_43 rfl hl (by decide) rfl (fun ls hl => ?_)
      refine wlw2 44 (fun _ _ => []) (fun (x7 : Int32) (u8 : Nat → Int32) H locs ls => va_P D vwCl [(q_t, oX8 q_t_shelf q_t_rowSort q_t_rowSize q_t_rows q_t_moved q_t_shown q_t_tape v_t_tapeSize q_t_refused v_t_places q_t_ways v_t_people q_t_kind q_t_by q_t_home q_t_aim q_t_at0 v_t_hour v_t_chance v_t_seed w_t_kept w_t_tried v_t_at v_t_token v_t_from v_t_figures v_t_fault q_t_told v_t_statements q_t_steps q_t_spot q_t_then v_t_now v_t_gone q_t_sights q_t_darkAt q_t_can), (q_t_ways, .inl (cy 0, 12, .inl v_t_ways)), (q_t_steps, .inl (cy 0, 12, .inl u8))] H ∧ va_D A [(q_t, oX8 q_t_shelf q_t_rowSort q_t_rowSize q_t_rows q_t_moved q_t_shown q_t_tape v_t_tapeSize q_t_refused v_t_places q_t_ways v_t_people q_t_kind q_t_by q_t_home q_t_aim q_t_at0 v_t_hour v_t_chance v_t_seed w_t_kept w_t_tried v_t_at v_t_token v_t_from v_t_figures v_t_fault q_t_told v_t_statements q_t_steps q_t_spot q_t_then v_t_now v_t_gone q_t_sights q_t_darkAt q_t_can), (q_t_ways, .inl (cy 0, 12, .inl v_t_ways)), (q_t_steps, .inl (cy 0, 12, .inl u8))] ∧ va_S A s.heap H locs ∧ lv_has ls 5 [(3, .int x7), (2, .int x4), (0, .ref q_t)]) (fun g9 L44 x7 u8 H locs ls hI hf => ?_) 400 (0 : Int32) u5 _ _ ls ⟨hP, hD, hS, lv_sub hl [0, 1, 2] rfl⟩ hf
      obtain ⟨hP, hD, hS, hl⟩ := hI
      refine lv_iload_n hx hb dX8_findFar_44 rfl (lv_at hl 0 rfl) ?_
      refine lv_aload_n hx hb dX8_findFar_45 rfl (lv_at hl 2 rfl) ?_
      refine va_get (D := D) (ci := 8) (v := .int v_t_places) (C := RX8) (T := TX8) (N := 37) hx hb hts hinX8 hown hK.1 hP 0 rfl rfl 9 (by decide) hk37 (fun _ h9 => h9) rfl dX8_findFar_46 ?_
      refine lv_icmp_ge (tgt := 125) hx hb dX8_findFar_49 (by decide) (fun c28 => ?_) (fun c28 => ?_)
      · have hf := ifT hf c28
        clear c28
        obtain ⟨x10, ex10⟩ : ∃ y : Int32, y = x4 + (1 : Int32) := ⟨_, rfl⟩
        have hf := vlE hf ex10
        refine lv_iinc (v := x10) (lv' := [(2, .int x10), (3, .int x7), (0, .ref q_t)]) hx hb dX8_findFar_125 hl (k := 1) rfl (by rw [ex10]; rfl) (by decide) rfl (fun ls hl => ?_)
        clear ex10
        refine lv_goto (tgt := 34) hx hb dX8_findFar_128 (by decide) ?_
        exact L34 x10 u8 _ _ ls ⟨hP, hD, hS, lv_sub hl [0, 2] rfl⟩ hf
      · have hf := ifF hf c28
        clear c28
        refine lv_iconst (v := 0) hx hb dX8_findFar_52 (by decide) ?_
        refine lv_istore (lv' := [(4, .int (0 : Int32)), (3, .int x7), (2, .int x4), (0, .ref q_t)]) hx hb dX8_findFar_53 hl (by decide) rfl (fun ls hl => ?_)
        refine wlw2 55 (fun _ _ => []) (fun (x11 : Int32) (u12 : Nat → Int32) H locs ls => va_P D vwCl [(q_t, oX8 q_t_shelf q_t_rowSort q_t_rowSize q_t_rows q_t_moved q_t_shown q_t_tape v_t_tapeSize q_t_refused v_t_places q_t_ways v_t_people q_t_kind q_t_by q_t_home q_t_aim q_t_at0 v_t_hour v_t_chance v_t_seed w_t_kept w_t_tried v_t_at v_t_token v_t_from v_t_figures v_t_fault q_t_told v_t_statements q_t_steps q_t_spot q_t_then v_t_now v_t_gone q_t_sights q_t_darkAt q_t_can), (q_t_ways, .inl (cy 0, 12, .inl v_t_ways)), (q_t_steps, .inl (cy 0, 12, .inl u12))] H ∧ va_D A [(q_t, oX8 q_t_shelf q_t_rowSort q_t_rowSize q_t_rows q_t_moved q_t_shown q_t_tape v_t_tapeSize q_t_refused v_t_places q_t_ways v_t_people q_t_kind q_t_by q_t_home q_t_aim q_t_at0 v_t_hour v_t_chance v_t_seed w_t_kept w_t_tried v_t_at v_t_token v_t_from v_t_figures v_t_fault q_t_told v_t_statements q_t_steps q_t_spot q_t_then v_t_now v_t_gone q_t_sights q_t_darkAt q_t_can), (q_t_ways, .inl (cy 0, 12, .inl v_t_ways)), (q_t_steps, .inl (cy 0, 12, .inl u12))] ∧ va_S A s.heap H locs ∧ lv_has ls 5 [(4, .int x11), (3, .int x7), (2, .int x4), (0, .ref q_t)]) (fun g13 L55 x11 u12 H locs ls hI hf => ?_) 400 (0 : Int32) u8 _ _ ls ⟨hP, hD, hS, lv_sub hl [0, 1, 2, 3] rfl⟩ hf
        obtain ⟨hP, hD, hS, hl⟩ := hI
        refine lv_iload hx hb dX8_findFar_55 (lv_at hl 0 rfl) ?_
        refine lv_aload_n hx hb dX8_findFar_57 rfl (lv_at hl 3 rfl) ?_
        refine va_get (D := D) (ci := 8) (v := .int v_t_places) (C := RX8) (T := TX8) (N := 37) hx hb hts hinX8 hown hK.1 hP 0 rfl rfl 9 (by decide) hk37 (fun _ h9 => h9) rfl dX8_findFar_58 ?_
        refine jww0 119 [] (fun  H locs ls => va_P D vwCl [(q_t, oX8 q_t_shelf q_t_rowSort q_t_rowSize q_t_rows q_t_moved q_t_shown q_t_tape v_t_tapeSize q_t_refused v_t_places q_t_ways v_t_people q_t_kind q_t_by q_t_home q_t_aim q_t_at0 v_t_hour v_t_chance v_t_seed w_t_kept w_t_tried v_t_at v_t_token v_t_from v_t_figures v_t_fault q_t_told v_t_statements q_t_steps q_t_spot q_t_then v_t_now v_t_gone q_t_sights q_t_darkAt q_t_can), (q_t_ways, .inl (cy 0, 12, .inl v_t_ways)), (q_t_steps, .inl (cy 0, 12, .inl u12))] H ∧ va_D A [(q_t, oX8 q_t_shelf q_t_rowSort q_t_rowSize q_t_rows q_t_moved q_t_shown q_t_tape v_t_tapeSize q_t_refused v_t_places q_t_ways v_t_people q_t_kind q_t_by q_t_home q_t_aim q_t_at0 v_t_hour v_t_chance v_t_seed w_t_kept w_t_tried v_t_at v_t_token v_t_from v_t_figures v_t_fault q_t_told v_t_statements q_t_steps q_t_spot q_t_then v_t_now v_t_gone q_t_sights q_t_darkAt q_t_can), (q_t_ways, .inl (cy 0, 12, .inl v_t_ways)), (q_t_steps, .inl (cy 0, 12, .inl u12))] ∧ va_S A s.heap H locs ∧ lv_has ls 5 [(0, .ref q_t), (2, .int x4), (3, .int x7)]) hf (fun  H locs ls hI hf => ?_) (fun k14 J119 hf => ?_)
        · obtain ⟨hP, hD, hS, hl⟩ := hI
          obtain ⟨x15, ex15⟩ : ∃ y : Int32, y = x7 + (1 : Int32) := ⟨_, rfl⟩
          have hf := vlE hf ex15
          refine lv_iinc (v := x15) (lv' := [(3, .int x15), (0, .ref q_t), (2, .int x4)]) hx hb dX8_findFar_119 hl (k := 2) rfl (by rw [ex15]; rfl) (by decide) rfl (fun ls hl => ?_)
          clear ex15
          refine lv_goto (tgt := 44) hx hb dX8_findFar_122 (by decide) ?_
          exact L44 x15 u12 _ _ ls ⟨hP, hD, hS, lv_sub hl [0, 2, 1] rfl⟩ hf
        · refine lv_icmp_ge (tgt := 119) hx hb dX8_findFar_61 (by decide) (fun c27 => ?_) (fun c27 => ?_)
          · have hf := ifT hf c27
            clear c27
            exact J119 _ _ ls ⟨hP, hD, hS, lv_sub hl [3, 2, 1] rfl⟩ hf
          · have hf := ifF hf c27
            clear c27
            refine lv_aload_n hx hb dX8_findFar_64 rfl (lv_at hl 3 rfl) ?_
            refine va_get (D := D) (ci := 8) (v := .ref q_t_steps) (C := RX8) (T := TX8) (N := 37) hx hb hts hinX8 hown hK.1 hP 0 rfl rfl 29 (by decide) hk68 (fun _ h9 => h9) rfl dX8_findFar_65 ?_
            refine lv_iload_n hx hb dX8_findFar_68 rfl (lv_at hl 1 rfl) ?_
            obtain ⟨hi16, hf⟩ := ckE hf
            refine va_iald hx hb hK.1 hP 2 0 rfl rfl hi16 dX8_findFar_69 ?_
            refine lv_iconst (v := (-1)) hx hb dX8_findFar_70 (by decide) ?_
            refine lv_icmp_ne (tgt := 119) hx hb dX8_findFar_71 (by decide) (fun c26 => ?_) (fun c26 => ?_)
            · have hf := ifF hf c26
              clear c26
              exact J119 _ _ ls ⟨hP, hD, hS, lv_sub hl [3, 2, 1] rfl⟩ hf
            · have hf := ifT hf c26
              clear c26
              refine lv_aload_n hx hb dX8_findFar_74 rfl (lv_at hl 3 rfl) ?_
              refine va_get (D := D) (ci := 8) (v := .ref q_t_steps) (C := RX8) (T := TX8) (N := 37) hx hb hts hinX8 hown hK.1 hP 0 rfl rfl 29 (by decide) hk68 (fun _ h9 => h9) rfl dX8_findFar_75 ?_
              refine lv_iload_n hx hb dX8_findFar_78 rfl (lv_at hl 1 rfl) ?_
              refine lv_aload_n hx hb dX8_findFar_79 rfl (lv_at hl 3 rfl) ?_
              refine va_get (D := D) (ci := 8) (v := .ref q_t_ways) (C := RX8) (T := TX8) (N := 37) hx hb hts hinX8 hown hK.1 hP 0 rfl rfl 10 (by decide) hk41 (fun _ h9 => h9) rfl dX8_findFar_80 ?_
              refine lv_iload_n hx hb dX8_findFar_83 rfl (lv_at hl 1 rfl) ?_
              obtain ⟨hi17, hf⟩ := ckE hf
              refine va_iald hx hb hK.1 hP 1 0 rfl rfl hi17 dX8_findFar_84 ?_
              refine lv_iload hx hb dX8_findFar_85 (lv_at hl 0 rfl) ?_
              refine lv_ishr hx hb dX8_findFar_87 ?_
              refine lv_iconst (v := 1) hx hb dX8_findFar_88 (by decide) ?_
              refine lv_iand hx hb dX8_findFar_89 ?_
              refine lv_iconst (v := 1) hx hb dX8_findFar_90 (by decide) ?_
              refine jww1 112 (fun (y18 : Int32) => [.int y18, .int x7, .ref q_t_steps]) (fun (y18 : Int32) H locs ls => va_P D vwCl [(q_t, oX8 q_t_shelf q_t_rowSort q_t_rowSize q_t_rows q_t_moved q_t_shown q_t_tape v_t_tapeSize q_t_refused v_t_places q_t_ways v_t_people q_t_kind q_t_by q_t_home q_t_aim q_t_at0 v_t_hour v_t_chance v_t_seed w_t_kept w_t_tried v_t_at v_t_token v_t_from v_t_figures v_t_fault q_t_told v_t_statements q_t_steps q_t_spot q_t_then v_t_now v_t_gone q_t_sights q_t_darkAt q_t_can), (q_t_ways, .inl (cy 0, 12, .inl v_t_ways)), (q_t_steps, .inl (cy 0, 12, .inl u12))] H ∧ va_D A [(q_t, oX8 q_t_shelf q_t_rowSort q_t_rowSize q_t_rows q_t_moved q_t_shown q_t_tape v_t_tapeSize q_t_refused v_t_places q_t_ways v_t_people q_t_kind q_t_by q_t_home q_t_aim q_t_at0 v_t_hour v_t_chance v_t_seed w_t_kept w_t_tried v_t_at v_t_token v_t_from v_t_figures v_t_fault q_t_told v_t_statements q_t_steps q_t_spot q_t_then v_t_now v_t_gone q_t_sights q_t_darkAt q_t_can), (q_t_ways, .inl (cy 0, 12, .inl v_t_ways)), (q_t_steps, .inl (cy 0, 12, .inl u12))] ∧ va_S A s.heap H locs ∧ lv_has ls 5 [(0, .ref q_t), (2, .int x4), (3, .int x7), (4, .int x11)]) hf (fun y18 H locs ls hI hf => ?_) (fun k19 J112 hf => ?_)
              · obtain ⟨hP, hD, hS, hl⟩ := hI
                obtain ⟨hi20, hf⟩ := ckE hf
                refine va_iast hx hb hK.1 hP hD hS 2 0 rfl rfl hi20 dX8_findFar_112 (fun H locs hP hD hS => ?_)
                have hP : va_P D vwCl [(q_t, oX8 q_t_shelf q_t_rowSort q_t_rowSize q_t_rows q_t_moved q_t_shown q_t_tape v_t_tapeSize q_t_refused v_t_places q_t_ways v_t_people q_t_kind q_t_by q_t_home q_t_aim q_t_at0 v_t_hour v_t_chance v_t_seed w_t_kept w_t_tried v_t_at v_t_token v_t_from v_t_figures v_t_fault q_t_told v_t_statements q_t_steps q_t_spot q_t_then v_t_now v_t_gone q_t_sights q_t_darkAt q_t_can), (q_t_ways, .inl (cy 0, 12, .inl v_t_ways)), (q_t_steps, .inl (cy 0, 12, .inl (upd u12 x7.toNatClampNeg y18)))] H := hP
                have hD : va_D A [(q_t, oX8 q_t_shelf q_t_rowSort q_t_rowSize q_t_rows q_t_moved q_t_shown q_t_tape v_t_tapeSize q_t_refused v_t_places q_t_ways v_t_people q_t_kind q_t_by q_t_home q_t_aim q_t_at0 v_t_hour v_t_chance v_t_seed w_t_kept w_t_tried v_t_at v_t_token v_t_from v_t_figures v_t_fault q_t_told v_t_statements q_t_steps q_t_spot q_t_then v_t_now v_t_gone q_t_sights q_t_darkAt q_t_can), (q_t_ways, .inl (cy 0, 12, .inl v_t_ways)), (q_t_steps, .inl (cy 0, 12, .inl (upd u12 x7.toNatClampNeg y18)))] := hD
                obtain ⟨x21, ex21⟩ : ∃ y : Int32, y = x11 + (1 : Int32) := ⟨_, rfl⟩
                have hf := vlE hf ex21
                refine lv_iinc (v := x21) (lv' := [(4, .int x21), (0, .ref q_t), (2, .int x4), (3, .int x7)]) hx hb dX8_findFar_113 hl (k := 3) rfl (by rw [ex21]; rfl) (by decide) rfl (fun ls hl => ?_)
                clear ex21
                refine lv_goto (tgt := 55) hx hb dX8_findFar_116 (by decide) ?_
                exact L55 x21 (upd u12 x7.toNatClampNeg y18) _ _ ls ⟨hP, hD, hS, lv_sub hl [0, 3, 2, 1] rfl⟩ hf
              · refine jww0 111 [.int x7, .ref q_t_steps] (fun  H locs ls => va_P D vwCl [(q_t, oX8 q_t_shelf q_t_rowSort q_t_rowSize q_t_rows q_t_moved q_t_shown q_t_tape v_t_tapeSize q_t_refused v_t_places q_t_ways v_t_people q_t_kind q_t_by q_t_home q_t_aim q_t_at0 v_t_hour v_t_chance v_t_seed w_t_kept w_t_tried v_t_at v_t_token v_t_from v_t_figures v_t_fault q_t_told v_t_statements q_t_steps q_t_spot q_t_then v_t_now v_t_gone q_t_sights q_t_darkAt q_t_can), (q_t_ways, .inl (cy 0, 12, .inl v_t_ways)), (q_t_steps, .inl (cy 0, 12, .inl u12))] H ∧ va_D A [(q_t, oX8 q_t_shelf q_t_rowSort q_t_rowSize q_t_rows q_t_moved q_t_shown q_t_tape v_t_tapeSize q_t_refused v_t_places q_t_ways v_t_people q_t_kind q_t_by q_t_home q_t_aim q_t_at0 v_t_hour v_t_chance v_t_seed w_t_kept w_t_tried v_t_at v_t_token v_t_from v_t_figures v_t_fault q_t_told v_t_statements q_t_steps q_t_spot q_t_then v_t_now v_t_gone q_t_sights q_t_darkAt q_t_can), (q_t_ways, .inl (cy 0, 12, .inl v_t_ways)), (q_t_steps, .inl (cy 0, 12, .inl u12))] ∧ va_S A s.heap H locs ∧ lv_has ls 5 [(0, .ref q_t), (2, .int x4), (3, .int x7), (4, .int x11)]) hf (fun  H locs ls hI hf => ?_) (fun k22 J111 hf => ?_)
                · obtain ⟨hP, hD, hS, hl⟩ := hI
                  refine lv_iconst (v := (-1)) hx hb dX8_findFar_111 (by decide) ?_
                  exact J112 (-1 : Int32) _ _ ls ⟨hP, hD, hS, lv_sub hl [0, 1, 2, 3] rfl⟩ hf
                · refine lv_icmp_ne (tgt := 111) hx hb dX8_findFar_91 (by decide) (fun c25 => ?_) (fun c25 => ?_)
                  · have hf := ifF hf c25
                    clear c25
                    exact J111 _ _ ls ⟨hP, hD, hS, lv_sub hl [3, 2, 1, 0] rfl⟩ hf
                  · have hf := ifT hf c25
                    clear c25
                    refine lv_aload_n hx hb dX8_findFar_94 rfl (lv_at hl 3 rfl) ?_
                    refine va_get (D := D) (ci := 8) (v := .ref q_t_steps) (C := RX8) (T := TX8) (N := 37) hx hb hts hinX8 hown hK.1 hP 0 rfl rfl 29 (by decide) hk68 (fun _ h9 => h9) rfl dX8_findFar_95 ?_
                    refine lv_iload hx hb dX8_findFar_98 (lv_at hl 0 rfl) ?_
                    obtain ⟨hi23, hf⟩ := ckE hf
                    refine va_iald hx hb hK.1 hP 2 0 rfl rfl hi23 dX8_findFar_100 ?_
                    refine lv_iload_n hx hb dX8_findFar_101 rfl (lv_at hl 2 rfl) ?_
                    refine lv_iconst (v := 1) hx hb dX8_findFar_102 (by decide) ?_
                    refine lv_isub hx hb dX8_findFar_103 ?_
                    refine lv_icmp_ne (tgt := 111) hx hb dX8_findFar_104 (by decide) (fun c24 => ?_) (fun c24 => ?_)
                    · have hf := ifF hf c24
                      clear c24
                      exact J111 _ _ ls ⟨hP, hD, hS, lv_sub hl [3, 2, 1, 0] rfl⟩ hf
                    · have hf := ifT hf c24
                      clear c24
                      refine lv_iload_n hx hb dX8_findFar_107 rfl (lv_at hl 2 rfl) ?_
                      refine lv_goto (tgt := 112) hx hb dX8_findFar_108 (by decide) ?_
                      exact J112 x4 _ _ ls ⟨hP, hD, hS, lv_sub hl [3, 2, 1, 0] rfl⟩ hf
  · have hf := ifF hf c35
    clear c35
    refine lv_aload_n hx hb dX8_findFar_10 rfl (lv_at hl 1 rfl) ?_
    refine va_get (D := D) (ci := 8) (v := .ref q_t_steps) (C := RX8) (T := TX8) (N := 37) hx hb hts hinX8 hown hK.1 hP 0 rfl rfl 29 (by decide) hk68 (fun _ h9 => h9) rfl dX8_findFar_11 ?_
    refine lv_iload_n hx hb dX8_findFar_14 rfl (lv_at hl 0 rfl) ?_
    refine lv_iload_n hx hb dX8_findFar_15 rfl (lv_at hl 0 rfl) ?_
    refine lv_iload_n hx hb dX8_findFar_16 rfl (lv_at hl 2 rfl) ?_
    refine jww1 25 (fun (y30 : Int32) => [.int y30, .int x1, .ref q_t_steps]) (fun (y30 : Int32) H locs ls => va_P D vwCl [(q_t, oX8 q_t_shelf q_t_rowSort q_t_rowSize q_t_rows q_t_moved q_t_shown q_t_tape v_t_tapeSize q_t_refused v_t_places q_t_ways v_t_people q_t_kind q_t_by q_t_home q_t_aim q_t_at0 v_t_hour v_t_chance v_t_seed w_t_kept w_t_tried v_t_at v_t_token v_t_from v_t_figures v_t_fault q_t_told v_t_statements q_t_steps q_t_spot q_t_then v_t_now v_t_gone q_t_sights q_t_darkAt q_t_can), (q_t_ways, .inl (cy 0, 12, .inl v_t_ways)), (q_t_steps, .inl (cy 0, 12, .inl u2))] H ∧ va_D A [(q_t, oX8 q_t_shelf q_t_rowSort q_t_rowSize q_t_rows q_t_moved q_t_shown q_t_tape v_t_tapeSize q_t_refused v_t_places q_t_ways v_t_people q_t_kind q_t_by q_t_home q_t_aim q_t_at0 v_t_hour v_t_chance v_t_seed w_t_kept w_t_tried v_t_at v_t_token v_t_from v_t_figures v_t_fault q_t_told v_t_statements q_t_steps q_t_spot q_t_then v_t_now v_t_gone q_t_sights q_t_darkAt q_t_can), (q_t_ways, .inl (cy 0, 12, .inl v_t_ways)), (q_t_steps, .inl (cy 0, 12, .inl u2))] ∧ va_S A s.heap H locs ∧ lv_has ls 5 [(0, .ref q_t), (1, .int p0), (2, .int x1)]) hf (fun y30 H locs ls hI hf => ?_) (fun k31 J25 hf => ?_)
    · obtain ⟨hP, hD, hS, hl⟩ := hI
      obtain ⟨hi32, hf⟩ := ckE hf
      refine va_iast hx hb hK.1 hP hD hS 2 0 rfl rfl hi32 dX8_findFar_25 (fun H locs hP hD hS => ?_)
      have hP : va_P D vwCl [(q_t, oX8 q_t_shelf q_t_rowSort q_t_rowSize q_t_rows q_t_moved q_t_shown q_t_tape v_t_tapeSize q_t_refused v_t_places q_t_ways v_t_people q_t_kind q_t_by q_t_home q_t_aim q_t_at0 v_t_hour v_t_chance v_t_seed w_t_kept w_t_tried v_t_at v_t_token v_t_from v_t_figures v_t_fault q_t_told v_t_statements q_t_steps q_t_spot q_t_then v_t_now v_t_gone q_t_sights q_t_darkAt q_t_can), (q_t_ways, .inl (cy 0, 12, .inl v_t_ways)), (q_t_steps, .inl (cy 0, 12, .inl (upd u2 x1.toNatClampNeg y30)))] H := hP
      have hD : va_D A [(q_t, oX8 q_t_shelf q_t_rowSort q_t_rowSize q_t_rows q_t_moved q_t_shown q_t_tape v_t_tapeSize q_t_refused v_t_places q_t_ways v_t_people q_t_kind q_t_by q_t_home q_t_aim q_t_at0 v_t_hour v_t_chance v_t_seed w_t_kept w_t_tried v_t_at v_t_token v_t_from v_t_figures v_t_fault q_t_told v_t_statements q_t_steps q_t_spot q_t_then v_t_now v_t_gone q_t_sights q_t_darkAt q_t_can), (q_t_ways, .inl (cy 0, 12, .inl v_t_ways)), (q_t_steps, .inl (cy 0, 12, .inl (upd u2 x1.toNatClampNeg y30)))] := hD
      obtain ⟨x33, ex33⟩ : ∃ y : Int32, y = x1 + (1 : Int32) := ⟨_, rfl⟩
      have hf := vlE hf ex33
      refine lv_iinc (v := x33) (lv' := [(2, .int x33), (0, .ref q_t), (1, .int p0)]) hx hb dX8_findFar_26 hl (k := 2) rfl (by rw [ex33]; rfl) (by decide) rfl (fun ls hl => ?_)
      clear ex33
      refine lv_goto (tgt := 2) hx hb dX8_findFar_29 (by decide) ?_
      exact L2 x33 (upd u2 x1.toNatClampNeg y30) _ _ ls ⟨hP, hD, hS, lv_sub hl [0, 1, 2] rfl⟩ hf
    · refine lv_icmp_ne (tgt := 24) hx hb dX8_findFar_17 (by decide) (fun c34 => ?_) (fun c34 => ?_)
      · have hf := ifF hf c34
        clear c34
        refine lv_iconst (v := (-1)) hx hb dX8_findFar_24 (by decide) ?_
        exact J25 (-1 : Int32) _ _ ls ⟨hP, hD, hS, lv_sub hl [1, 2, 0] rfl⟩ hf
      · have hf := ifT hf c34
        clear c34
        refine lv_iconst (v := 0) hx hb dX8_findFar_20 (by decide) ?_
        refine lv_goto (tgt := 25) hx hb dX8_findFar_21 (by decide) ?_
        exact J25 (0 : Int32) _ _ ls ⟨hP, hD, hS, lv_sub hl [1, 2, 0] rfl⟩ hf
def fX8_stepToward (v_t_places : Int32) (v_t_ways : Nat → Int32) (v_t_steps : Nat → Int32) (p0 : Int32) (p1 : Int32) : Option (Int32 × (Nat → Int32)) :=
  bo1 (fX8_findFar v_t_places v_t_ways v_t_steps p1) fun u1 =>
  lo1 (fun g4 (x3 : Int32) =>
    if v_t_places ≤ x3 then
      some (p0, u1)
    else
      if p0 < 0 ∨ 12 ≤ p0.toNatClampNeg then none else
      jo0 (
        vlet (x3 + (1 : Int32)) fun x7 =>
        g4 x7) fun k6 =>
      if (((v_t_ways p0.toNatClampNeg) >>> (x3 &&& 31)) &&& (1 : Int32)) = (1 : Int32) then
        if p0 < 0 ∨ 12 ≤ p0.toNatClampNeg then none else
        if (u1 p0.toNatClampNeg) ≤ 0 then
          k6
        else
          if x3 < 0 ∨ 12 ≤ x3.toNatClampNeg then none else
          if p0 < 0 ∨ 12 ≤ p0.toNatClampNeg then none else
          if (u1 x3.toNatClampNeg) = ((u1 p0.toNatClampNeg) - (1 : Int32)) then
            some (x3, u1)
          else
            k6
      else
        k6) 400 (0 : Int32)
set_option maxHeartbeats 4000000 in
set_option maxRecDepth 100000 in
theorem mX8_stepToward (l : Launch) (D : va_G) (cy : Nat → ClassId) (q_t q_t_shelf q_t_rowSort q_t_rowSize q_t_rows q_t_moved q_t_shown q_t_tape q_t_refused q_t_ways q_t_kind q_t_by q_t_home q_t_aim q_t_at0 q_t_told q_t_steps q_t_spot q_t_then q_t_sights q_t_darkAt q_t_can : Nat) (v_t_tapeSize : Int32) (v_t_places : Int32) (v_t_people : Int32) (v_t_hour : Int32) (v_t_chance : Int32) (v_t_seed : Int32) (w_t_kept : Value) (w_t_tried : Value) (v_t_at : Int32) (v_t_token : Int32) (v_t_from : Int32) (v_t_figures : Int32) (v_t_fault : Int32) (v_t_statements : Int32) (v_t_now : Int32) (v_t_gone : Int32) (v_t_ways : Nat → Int32) (v_t_steps : Nat → Int32) (sz : Nat) (p0 : Int32) (p1 : Int32) {r_ : Int32} {n_t_steps : Nat → Int32} (hf : fX8_stepToward v_t_places v_t_ways v_t_steps p0 p1 = some (r_, n_t_steps)) : Met l yX8_stepToward wsX8_stepToward ({ frames := 1, cells := 0, slots := 0, locals := 24 }) (va_Pc [.ref q_t, .int p0, .int p1] (fun U => U.heap.size = sz ∧ va_P D vwCl [(q_t, oX8 q_t_shelf q_t_rowSort q_t_rowSize q_t_rows q_t_moved q_t_shown q_t_tape v_t_tapeSize q_t_refused v_t_places q_t_ways v_t_people q_t_kind q_t_by q_t_home q_t_aim q_t_at0 v_t_hour v_t_chance v_t_seed w_t_kept w_t_tried v_t_at v_t_token v_t_from v_t_figures v_t_fault q_t_told v_t_statements q_t_steps q_t_spot q_t_then v_t_now v_t_gone q_t_sights q_t_darkAt q_t_can), (q_t_ways, .inl (cy 0, 12, .inl v_t_ways)), (q_t_steps, .inl (cy 0, 12, .inl v_t_steps))] U.heap ∧ xK D cy U ∧ va_D (fun _ => True) [(q_t, oX8 q_t_shelf q_t_rowSort q_t_rowSize q_t_rows q_t_moved q_t_shown q_t_tape v_t_tapeSize q_t_refused v_t_places q_t_ways v_t_people q_t_kind q_t_by q_t_home q_t_aim q_t_at0 v_t_hour v_t_chance v_t_seed w_t_kept w_t_tried v_t_at v_t_token v_t_from v_t_figures v_t_fault q_t_told v_t_statements q_t_steps q_t_spot q_t_then v_t_now v_t_gone q_t_sights q_t_darkAt q_t_can), (q_t_ways, .inl (cy 0, 12, .inl v_t_ways)), (q_t_steps, .inl (cy 0, 12, .inl v_t_steps))])) (va_Qi (fun (x : Int32) (_ : Unit) => x = r_) (fun _ t => va_P D vwCl [(q_t, oX8 q_t_shelf q_t_rowSort q_t_rowSize q_t_rows q_t_moved q_t_shown q_t_tape v_t_tapeSize q_t_refused v_t_places q_t_ways v_t_people q_t_kind q_t_by q_t_home q_t_aim q_t_at0 v_t_hour v_t_chance v_t_seed w_t_kept w_t_tried v_t_at v_t_token v_t_from v_t_figures v_t_fault q_t_told v_t_statements q_t_steps q_t_spot q_t_then v_t_now v_t_gone q_t_sights q_t_darkAt q_t_can), (q_t_ways, .inl (cy 0, 12, .inl v_t_ways)), (q_t_steps, .inl (cy 0, 12, .inl n_t_steps))] t.heap) (va_A [(q_t, oX8 q_t_shelf q_t_rowSort q_t_rowSize q_t_rows q_t_moved q_t_shown q_t_tape v_t_tapeSize q_t_refused v_t_places q_t_ways v_t_people q_t_kind q_t_by q_t_home q_t_aim q_t_at0 v_t_hour v_t_chance v_t_seed w_t_kept w_t_tried v_t_at v_t_token v_t_from v_t_figures v_t_fault q_t_told v_t_statements q_t_steps q_t_spot q_t_then v_t_now v_t_gone q_t_sights q_t_darkAt q_t_can), (q_t_ways, .inl (cy 0, 12, .inl v_t_ways)), (q_t_steps, .inl (cy 0, 12, .inl v_t_steps))] sz)) 0 0 (va_A [(q_t, oX8 q_t_shelf q_t_rowSort q_t_rowSize q_t_rows q_t_moved q_t_shown q_t_tape v_t_tapeSize q_t_refused v_t_places q_t_ways v_t_people q_t_kind q_t_by q_t_home q_t_aim q_t_at0 v_t_hour v_t_chance v_t_seed w_t_kept w_t_tried v_t_at v_t_token v_t_from v_t_figures v_t_fault q_t_told v_t_statements q_t_steps q_t_spot q_t_then v_t_now v_t_gone q_t_sights q_t_darkAt q_t_can), (q_t_ways, .inl (cy 0, 12, .inl v_t_ways)), (q_t_steps, .inl (cy 0, 12, .inl v_t_steps))] sz) := by
  refine Met.ofW (cc := cX8_stepToward) (maxL := 4) (ret := (some .int)) (by decide) rfl ?_
  intro p e s m args below meth c s₁ B hml hv
  obtain ⟨rfl, hsz, hP, hK, hD0⟩ := hv
  have hx := B.exec
  have hb := B.bytes
  have hr := B.returns
  have hts := atoms_spec (ws := wsX8_stepToward) B.pre
  have hown : s.vm.findClass RX8 = some m.cls := findClass_of_methodNamed B.named
  have hlocks := B.notSynchronized
  subst hsz
  have hD := hD0.self (sz := s.heap.size)
  generalize hAe : va_A [(q_t, oX8 q_t_shelf q_t_rowSort q_t_rowSize q_t_rows q_t_moved q_t_shown q_t_tape v_t_tapeSize q_t_refused v_t_places q_t_ways v_t_people q_t_kind q_t_by q_t_home q_t_aim q_t_at0 v_t_hour v_t_chance v_t_seed w_t_kept w_t_tried v_t_at v_t_token v_t_from v_t_figures v_t_fault q_t_told v_t_statements q_t_steps q_t_spot q_t_then v_t_now v_t_gone q_t_sights q_t_darkAt q_t_can), (q_t_ways, .inl (cy 0, 12, .inl v_t_ways)), (q_t_steps, .inl (cy 0, 12, .inl v_t_steps))] s.heap.size = A at hD ⊢
  have hA : ∀ q : Nat, s.heap.size ≤ q → A q := fun q h => by rw [← hAe]; exact Or.inr h
  have hS : va_S A s.heap s.heap [] := va_S.rf
  have hP : va_P D vwCl [(q_t, oX8 q_t_shelf q_t_rowSort q_t_rowSize q_t_rows q_t_moved q_t_shown q_t_tape v_t_tapeSize q_t_refused v_t_places q_t_ways v_t_people q_t_kind q_t_by q_t_home q_t_aim q_t_at0 v_t_hour v_t_chance v_t_seed w_t_kept w_t_tried v_t_at v_t_token v_t_from v_t_figures v_t_fault q_t_told v_t_statements q_t_steps q_t_spot q_t_then v_t_now v_t_gone q_t_sights q_t_darkAt q_t_can), (q_t_ways, .inl (cy 0, 12, .inl v_t_ways)), (q_t_steps, .inl (cy 0, 12, .inl v_t_steps))] s.heap := hP
  have hinX8 : ∀ w ∈ u_ws RX8 TX8 37, w ∈ wsX8_stepToward := by decide +kernel
  have hk37 := hts (.fieldLink RX8 37 "ShowsWhereNobodyIsModel" "places" "I") (by decide +kernel)
  have hk41 := hts (.fieldLink RX8 41 "ShowsWhereNobodyIsModel" "ways" "[I") (by decide +kernel)
  have hk68 := hts (.fieldLink RX8 68 "ShowsWhereNobodyIsModel" "steps" "[I") (by decide +kernel)
  have hl := lv_entry ([.ref q_t, .int p0, .int p1]) (n := 4) (Nat.le_of_ble_eq_true rfl)
  rw [lg_entry_eq]
  generalize (lg_sl ([.ref q_t, .int p0, .int p1]) ++ List.replicate (4 - (lg_sl ([.ref q_t, .int p0, .int p1])).length) Slot.unset).toArray = ls at hl ⊢
  have hl : lv_has ls 4 [(0, .ref q_t), (1, .int p0), (2, .int p1)] := hl
  unfold fX8_stepToward at hf
  refine lv_aload_n hx hb dX8_stepToward_0 rfl (lv_at hl 0 rfl) ?_
  refine lv_iload_n hx hb dX8_stepToward_1 rfl (lv_at hl 2 rfl) ?_
  obtain ⟨u1, hr2, hf⟩ := boE1 hf
  have hPc := hP.sub (ws' := [(q_t, oX8 q_t_shelf q_t_rowSort q_t_rowSize q_t_rows q_t_moved q_t_shown q_t_tape v_t_tapeSize q_t_refused v_t_places q_t_ways v_t_people q_t_kind q_t_by q_t_home q_t_aim q_t_at0 v_t_hour v_t_chance v_t_seed w_t_kept w_t_tried v_t_at v_t_token v_t_from v_t_figures v_t_fault q_t_told v_t_statements q_t_steps q_t_spot q_t_then v_t_now v_t_gone q_t_sights q_t_darkAt q_t_can), (q_t_ways, .inl (cy 0, 12, .inl v_t_ways)), (q_t_steps, .inl (cy 0, 12, .inl v_t_steps))]) [0, 1, 2] rfl
  have hDc := hD.sub (ws' := [(q_t, oX8 q_t_shelf q_t_rowSort q_t_rowSize q_t_rows q_t_moved q_t_shown q_t_tape v_t_tapeSize q_t_refused v_t_places q_t_ways v_t_people q_t_kind q_t_by q_t_home q_t_aim q_t_at0 v_t_hour v_t_chance v_t_seed w_t_kept w_t_tried v_t_at v_t_token v_t_from v_t_figures v_t_fault q_t_told v_t_statements q_t_steps q_t_spot q_t_then v_t_now v_t_gone q_t_sights q_t_darkAt q_t_can), (q_t_ways, .inl (cy 0, 12, .inl v_t_ways)), (q_t_steps, .inl (cy 0, 12, .inl v_t_steps))]) [0, 1, 2] (by decide) rfl
  refine xcQv (w1 := [(q_t, oX8 q_t_shelf q_t_rowSort q_t_rowSize q_t_rows q_t_moved q_t_shown q_t_tape v_t_tapeSize q_t_refused v_t_places q_t_ways v_t_people q_t_kind q_t_by q_t_home q_t_aim q_t_at0 v_t_hour v_t_chance v_t_seed w_t_kept w_t_tried v_t_at v_t_token v_t_from v_t_figures v_t_fault q_t_told v_t_statements q_t_steps q_t_spot q_t_then v_t_now v_t_gone q_t_sights q_t_darkAt q_t_can), (q_t_ways, .inl (cy 0, 12, .inl v_t_ways)), (q_t_steps, .inl (cy 0, 12, .inl u1))]) (va_runV (As := [.int p1]) (rest := []) ⟨hx, hb, hml, hown, hts⟩ (mX8_findFar l D cy q_t q_t_shelf q_t_rowSort q_t_rowSize q_t_rows q_t_moved q_t_shown q_t_tape q_t_refused q_t_ways q_t_kind q_t_by q_t_home q_t_aim q_t_at0 q_t_told q_t_steps q_t_spot q_t_then q_t_sights q_t_darkAt q_t_can v_t_tapeSize v_t_places v_t_people v_t_hour v_t_chance v_t_seed w_t_kept w_t_tried v_t_at v_t_token v_t_from v_t_figures v_t_fault v_t_statements v_t_now v_t_gone v_t_ways v_t_steps _ p1 hr2) (cwV 1 hts gX8_stepToward_X8_findFar rfl rfl rfl (by decide +kernel) ⟨Nat.le_of_ble_eq_true rfl, Nat.le_of_ble_eq_true rfl⟩) (xPVw hK hPc hDc (ci := 8) (q0 := 0) rfl rfl) rfl rfl hl.1 rfl (lv_room (Nat.le_of_ble_eq_true rfl)) dX8_stepToward_2 ⟨Nat.le_of_ble_eq_true rfl, Nat.le_of_ble_eq_true rfl⟩) hP hD hS hA [0, 1, 2] rfl rfl (fun H locs hP hD hS => ?_)
  have hP : va_P D vwCl [(q_t, oX8 q_t_shelf q_t_rowSort q_t_rowSize q_t_rows q_t_moved q_t_shown q_t_tape v_t_tapeSize q_t_refused v_t_places q_t_ways v_t_people q_t_kind q_t_by q_t_home q_t_aim q_t_at0 v_t_hour v_t_chance v_t_seed w_t_kept w_t_tried v_t_at v_t_token v_t_from v_t_figures v_t_fault q_t_told v_t_statements q_t_steps q_t_spot q_t_then v_t_now v_t_gone q_t_sights q_t_darkAt q_t_can), (q_t_ways, .inl (cy 0, 12, .inl v_t_ways)), (q_t_steps, .inl (cy 0, 12, .inl u1))] H := hP
  have hD : va_D A [(q_t, oX8 q_t_shelf q_t_rowSort q_t_rowSize q_t_rows q_t_moved q_t_shown q_t_tape v_t_tapeSize q_t_refused v_t_places q_t_ways v_t_people q_t_kind q_t_by q_t_home q_t_aim q_t_at0 v_t_hour v_t_chance v_t_seed w_t_kept w_t_tried v_t_at v_t_token v_t_from v_t_figures v_t_fault q_t_told v_t_statements q_t_steps q_t_spot q_t_then v_t_now v_t_gone q_t_sights q_t_darkAt q_t_can), (q_t_ways, .inl (cy 0, 12, .inl v_t_ways)), (q_t_steps, .inl (cy 0, 12, .inl u1))] := hD
  refine lv_iconst (v := 0) hx hb dX8_stepToward_5 (by decide) ?_
  refine lv_istore_n (lv' := [(3, .int (0 : Int32)), (0, .ref q_t), (1, .int p0), (2, .int p1)]) hx hb dX8_stepToward_6 rfl hl (by decide) rfl (fun ls hl => ?_)
  refine wlw1 7 (fun _ => []) (fun (x3 : Int32) H locs ls => va_P D vwCl [(q_t, oX8 q_t_shelf q_t_rowSort q_t_rowSize q_t_rows q_t_moved q_t_shown q_t_tape v_t_tapeSize q_t_refused v_t_places q_t_ways v_t_people q_t_kind q_t_by q_t_home q_t_aim q_t_at0 v_t_hour v_t_chance v_t_seed w_t_kept w_t_tried v_t_at v_t_token v_t_from v_t_figures v_t_fault q_t_told v_t_statements q_t_steps q_t_spot q_t_then v_t_now v_t_gone q_t_sights q_t_darkAt q_t_can), (q_t_ways, .inl (cy 0, 12, .inl v_t_ways)), (q_t_steps, .inl (cy 0, 12, .inl u1))] H ∧ va_D A [(q_t, oX8 q_t_shelf q_t_rowSort q_t_rowSize q_t_rows q_t_moved q_t_shown q_t_tape v_t_tapeSize q_t_refused v_t_places q_t_ways v_t_people q_t_kind q_t_by q_t_home q_t_aim q_t_at0 v_t_hour v_t_chance v_t_seed w_t_kept w_t_tried v_t_at v_t_token v_t_from v_t_figures v_t_fault q_t_told v_t_statements q_t_steps q_t_spot q_t_then v_t_now v_t_gone q_t_sights q_t_darkAt q_t_can), (q_t_ways, .inl (cy 0, 12, .inl v_t_ways)), (q_t_steps, .inl (cy 0, 12, .inl u1))] ∧ va_S A s.heap H locs ∧ lv_has ls 4 [(3, .int x3), (0, .ref q_t), (1, .int p0)]) (fun g4 L7 x3 H locs ls hI hf => ?_) 400 (0 : Int32) _ _ ls ⟨hP, hD, hS, lv_sub hl [0, 1, 2] rfl⟩ hf
  obtain ⟨hP, hD, hS, hl⟩ := hI
  refine lv_iload_n hx hb dX8_stepToward_7 rfl (lv_at hl 0 rfl) ?_
  refine lv_aload_n hx hb dX8_stepToward_8 rfl (lv_at hl 1 rfl) ?_
  refine va_get (D := D) (ci := 8) (v := .int v_t_places) (C := RX8) (T := TX8) (N := 37) hx hb hts hinX8 hown hK.1 hP 0 rfl rfl 9 (by decide) hk37 (fun _ h9 => h9) rfl dX8_stepToward_9 ?_
  refine lv_icmp_ge (tgt := 63) hx hb dX8_stepToward_12 (by decide) (fun c14 => ?_) (fun c14 => ?_)
  · have hf := ifT hf c14
    clear c14
    refine lv_iload_n hx hb dX8_stepToward_63 rfl (lv_at hl 2 rfl) ?_
    cases hf
    exact W.iret hx hb hr (fun t ht hW => ⟨⟨_, (), rfl, rfl, xend ht hP⟩, hS.F ht⟩) hS.2.2 dX8_stepToward_64
  · have hf := ifF hf c14
    clear c14
    refine lv_aload_n hx hb dX8_stepToward_15 rfl (lv_at hl 1 rfl) ?_
    refine va_get (D := D) (ci := 8) (v := .ref q_t_ways) (C := RX8) (T := TX8) (N := 37) hx hb hts hinX8 hown hK.1 hP 0 rfl rfl 10 (by decide) hk41 (fun _ h9 => h9) rfl dX8_stepToward_16 ?_
    refine lv_iload_n hx hb dX8_stepToward_19 rfl (lv_at hl 2 rfl) ?_
    obtain ⟨hi5, hf⟩ := ckE hf
    refine va_iald hx hb hK.1 hP 1 0 rfl rfl hi5 dX8_stepToward_20 ?_
    refine lv_iload_n hx hb dX8_stepToward_21 rfl (lv_at hl 0 rfl) ?_
    refine lv_ishr hx hb dX8_stepToward_22 ?_
    refine lv_iconst (v := 1) hx hb dX8_stepToward_23 (by decide) ?_
    refine lv_iand hx hb dX8_stepToward_24 ?_
    refine lv_iconst (v := 1) hx hb dX8_stepToward_25 (by decide) ?_
    refine jww0 57 [] (fun  H locs ls => va_P D vwCl [(q_t, oX8 q_t_shelf q_t_rowSort q_t_rowSize q_t_rows q_t_moved q_t_shown q_t_tape v_t_tapeSize q_t_refused v_t_places q_t_ways v_t_people q_t_kind q_t_by q_t_home q_t_aim q_t_at0 v_t_hour v_t_chance v_t_seed w_t_kept w_t_tried v_t_at v_t_token v_t_from v_t_figures v_t_fault q_t_told v_t_statements q_t_steps q_t_spot q_t_then v_t_now v_t_gone q_t_sights q_t_darkAt q_t_can), (q_t_ways, .inl (cy 0, 12, .inl v_t_ways)), (q_t_steps, .inl (cy 0, 12, .inl u1))] H ∧ va_D A [(q_t, oX8 q_t_shelf q_t_rowSort q_t_rowSize q_t_rows q_t_moved q_t_shown q_t_tape v_t_tapeSize q_t_refused v_t_places q_t_ways v_t_people q_t_kind q_t_by q_t_home q_t_aim q_t_at0 v_t_hour v_t_chance v_t_seed w_t_kept w_t_tried v_t_at v_t_token v_t_from v_t_figures v_t_fault q_t_told v_t_statements q_t_steps q_t_spot q_t_then v_t_now v_t_gone q_t_sights q_t_darkAt q_t_can), (q_t_ways, .inl (cy 0, 12, .inl v_t_ways)), (q_t_steps, .inl (cy 0, 12, .inl u1))] ∧ va_S A s.heap H locs ∧ lv_has ls 4 [(0, .ref q_t), (1, .int p0), (3, .int x3)]) hf (fun  H locs ls hI hf => ?_) (fun k6 J57 hf => ?_)
    · obtain ⟨hP, hD, hS, hl⟩ := hI
      obtain ⟨x7, ex7⟩ : ∃ y : Int32, y = x3 + (1 : Int32) := ⟨_, rfl⟩
      have hf := vlE hf ex7
      refine lv_iinc (v := x7) (lv' := [(3, .int x7), (0, .ref q_t), (1, .int p0)]) hx hb dX8_stepToward_57 hl (k := 2) rfl (by rw [ex7]; rfl) (by decide) rfl (fun ls hl => ?_)
      clear ex7
      refine lv_goto (tgt := 7) hx hb dX8_stepToward_60 (by decide) ?_
      exact L7 x7 _ _ ls ⟨hP, hD, hS, lv_sub hl [0, 1, 2] rfl⟩ hf
    · refine lv_icmp_ne (tgt := 57) hx hb dX8_stepToward_26 (by decide) (fun c13 => ?_) (fun c13 => ?_)
      · have hf := ifF hf c13
        clear c13
        exact J57 _ _ ls ⟨hP, hD, hS, lv_sub hl [1, 2, 0] rfl⟩ hf
      · have hf := ifT hf c13
        clear c13
        refine lv_aload_n hx hb dX8_stepToward_29 rfl (lv_at hl 1 rfl) ?_
        refine va_get (D := D) (ci := 8) (v := .ref q_t_steps) (C := RX8) (T := TX8) (N := 37) hx hb hts hinX8 hown hK.1 hP 0 rfl rfl 29 (by decide) hk68 (fun _ h9 => h9) rfl dX8_stepToward_30 ?_
        refine lv_iload_n hx hb dX8_stepToward_33 rfl (lv_at hl 2 rfl) ?_
        obtain ⟨hi8, hf⟩ := ckE hf
        refine va_iald hx hb hK.1 hP 2 0 rfl rfl hi8 dX8_stepToward_34 ?_
        refine lv_if_le (tgt := 57) hx hb dX8_stepToward_35 (by decide) (fun c12 => ?_) (fun c12 => ?_)
        · have hf := ifT hf c12
          clear c12
          exact J57 _ _ ls ⟨hP, hD, hS, lv_sub hl [1, 2, 0] rfl⟩ hf
        · have hf := ifF hf c12
          clear c12
          refine lv_aload_n hx hb dX8_stepToward_38 rfl (lv_at hl 1 rfl) ?_
          refine va_get (D := D) (ci := 8) (v := .ref q_t_steps) (C := RX8) (T := TX8) (N := 37) hx hb hts hinX8 hown hK.1 hP 0 rfl rfl 29 (by decide) hk68 (fun _ h9 => h9) rfl dX8_stepToward_39 ?_
          refine lv_iload_n hx hb dX8_stepToward_42 rfl (lv_at hl 0 rfl) ?_
          obtain ⟨hi9, hf⟩ := ckE hf
          refine va_iald hx hb hK.1 hP 2 0 rfl rfl hi9 dX8_stepToward_43 ?_
          refine lv_aload_n hx hb dX8_stepToward_44 rfl (lv_at hl 1 rfl) ?_
          refine va_get (D := D) (ci := 8) (v := .ref q_t_steps) (C := RX8) (T := TX8) (N := 37) hx hb hts hinX8 hown hK.1 hP 0 rfl rfl 29 (by decide) hk68 (fun _ h9 => h9) rfl dX8_stepToward_45 ?_
          refine lv_iload_n hx hb dX8_stepToward_48 rfl (lv_at hl 2 rfl) ?_
          obtain ⟨hi10, hf⟩ := ckE hf
          refine va_iald hx hb hK.1 hP 2 0 rfl rfl hi10 dX8_stepToward_49 ?_
          refine lv_iconst (v := 1) hx hb dX8_stepToward_50 (by decide) ?_
          refine lv_isub hx hb dX8_stepToward_51 ?_
          refine lv_icmp_ne (tgt := 57) hx hb dX8_stepToward_52 (by decide) (fun c11 => ?_) (fun c11 => ?_)
          · have hf := ifF hf c11
            clear c11
            exact J57 _ _ ls ⟨hP, hD, hS, lv_sub hl [1, 2, 0] rfl⟩ hf
          · have hf := ifT hf c11
            clear c11
            refine lv_iload_n hx hb dX8_stepToward_55 rfl (lv_at hl 0 rfl) ?_
            cases hf
            exact W.iret hx hb hr (fun t ht hW => ⟨⟨_, (), rfl, rfl, xend ht hP⟩, hS.F ht⟩) hS.2.2 dX8_stepToward_56
def fX8_goesTo (v_t_places : Int32) (v_t_people : Int32) (v_t_now : Int32) (v_t_gone : Int32) (v_t_ways : Nat → Int32) (v_t_kind : Nat → Int32) (v_t_home : Nat → Int32) (v_t_aim : Nat → Int32) (v_t_steps : Nat → Int32) (v_t_spot : Nat → Int32) (p0 : Int32) : Option (Int32 × (Nat → Int32)) :=
  if p0 < 0 ∨ 8 ≤ p0.toNatClampNeg then none else
  jo0 (
    if p0 < 0 ∨ 8 ≤ p0.toNatClampNeg then none else
    some (v_t_spot p0.toNatClampNeg, v_t_steps)) fun k2 =>
  if (v_t_kind p0.toNatClampNeg) = (1 : Int32) then
    k2
  else
    if (v_t_kind p0.toNatClampNeg) = (2 : Int32) then
      if p0 < 0 ∨ 8 ≤ p0.toNatClampNeg then none else
      bo1 (fX8_nextRound v_t_ways (v_t_spot p0.toNatClampNeg)) fun r27 =>
      some (r27, v_t_steps)
    else
      if (v_t_kind p0.toNatClampNeg) = (3 : Int32) then
        k2
      else
        if (v_t_kind p0.toNatClampNeg) = (4 : Int32) then
          if p0 < 0 ∨ 8 ≤ p0.toNatClampNeg then none else
          bo1 (fX8_nextRound v_t_ways (v_t_spot p0.toNatClampNeg)) fun r20 =>
          bo1 (fX8_isDarkBut v_t_people v_t_gone v_t_kind v_t_spot r20 p0) fun r22 =>
          if r22 = 0 then
            if p0 < 0 ∨ 8 ≤ p0.toNatClampNeg then none else
            some (v_t_spot p0.toNatClampNeg, v_t_steps)
          else
            some (r20, v_t_steps)
        else
          if p0 < 0 ∨ 8 ≤ p0.toNatClampNeg then none else
          bo1 (fX8_in ((v_t_now - v_t_now / (24 : Int32) * (24 : Int32)).toInt64) (8 : Int64) (19 : Int64)) fun r5 =>
          jo1 (fun (y7 : Int32) =>
            bo2 (fX8_stepToward v_t_places v_t_ways v_t_steps (v_t_spot p0.toNatClampNeg) y7) fun r9 u10 =>
            some (r9, u10)) fun k8 =>
          if r5 = 0 then
            if p0 < 0 ∨ 8 ≤ p0.toNatClampNeg then none else
            k8 (v_t_home p0.toNatClampNeg)
          else
            if p0 < 0 ∨ 8 ≤ p0.toNatClampNeg then none else
            k8 (v_t_aim p0.toNatClampNeg)
set_option maxHeartbeats 4000000 in
set_option maxRecDepth 100000 in
theorem mX8_goesTo (l : Launch) (D : va_G) (cy : Nat → ClassId) (q_t q_t_shelf q_t_rowSort q_t_rowSize q_t_rows q_t_moved q_t_shown q_t_tape q_t_refused q_t_ways q_t_kind q_t_by q_t_home q_t_aim q_t_at0 q_t_told q_t_steps q_t_spot q_t_then q_t_sights q_t_darkAt q_t_can : Nat) (v_t_tapeSize : Int32) (v_t_places : Int32) (v_t_people : Int32) (v_t_hour : Int32) (v_t_chance : Int32) (v_t_seed : Int32) (w_t_kept : Value) (w_t_tried : Value) (v_t_at : Int32) (v_t_token : Int32) (v_t_from : Int32) (v_t_figures : Int32) (v_t_fault : Int32) (v_t_statements : Int32) (v_t_now : Int32) (v_t_gone : Int32) (v_t_ways : Nat → Int32) (v_t_kind : Nat → Int32) (v_t_home : Nat → Int32) (v_t_aim : Nat → Int32) (v_t_steps : Nat → Int32) (v_t_spot : Nat → Int32) (sz : Nat) (p0 : Int32) {r_ : Int32} {n_t_steps : Nat → Int32} (hf : fX8_goesTo v_t_places v_t_people v_t_now v_t_gone v_t_ways v_t_kind v_t_home v_t_aim v_t_steps v_t_spot p0 = some (r_, n_t_steps)) : Met l yX8_goesTo wsX8_goesTo ({ frames := 2, cells := 0, slots := 0, locals := 47 }) (va_Pc [.ref q_t, .int p0] (fun U => U.heap.size = sz ∧ va_P D vwCl [(q_t, oX8 q_t_shelf q_t_rowSort q_t_rowSize q_t_rows q_t_moved q_t_shown q_t_tape v_t_tapeSize q_t_refused v_t_places q_t_ways v_t_people q_t_kind q_t_by q_t_home q_t_aim q_t_at0 v_t_hour v_t_chance v_t_seed w_t_kept w_t_tried v_t_at v_t_token v_t_from v_t_figures v_t_fault q_t_told v_t_statements q_t_steps q_t_spot q_t_then v_t_now v_t_gone q_t_sights q_t_darkAt q_t_can), (q_t_ways, .inl (cy 0, 12, .inl v_t_ways)), (q_t_kind, .inl (cy 0, 8, .inl v_t_kind)), (q_t_home, .inl (cy 0, 8, .inl v_t_home)), (q_t_aim, .inl (cy 0, 8, .inl v_t_aim)), (q_t_steps, .inl (cy 0, 12, .inl v_t_steps)), (q_t_spot, .inl (cy 0, 8, .inl v_t_spot))] U.heap ∧ xK D cy U ∧ va_D (fun _ => True) [(q_t, oX8 q_t_shelf q_t_rowSort q_t_rowSize q_t_rows q_t_moved q_t_shown q_t_tape v_t_tapeSize q_t_refused v_t_places q_t_ways v_t_people q_t_kind q_t_by q_t_home q_t_aim q_t_at0 v_t_hour v_t_chance v_t_seed w_t_kept w_t_tried v_t_at v_t_token v_t_from v_t_figures v_t_fault q_t_told v_t_statements q_t_steps q_t_spot q_t_then v_t_now v_t_gone q_t_sights q_t_darkAt q_t_can), (q_t_ways, .inl (cy 0, 12, .inl v_t_ways)), (q_t_kind, .inl (cy 0, 8, .inl v_t_kind)), (q_t_home, .inl (cy 0, 8, .inl v_t_home)), (q_t_aim, .inl (cy 0, 8, .inl v_t_aim)), (q_t_steps, .inl (cy 0, 12, .inl v_t_steps)), (q_t_spot, .inl (cy 0, 8, .inl v_t_spot))])) (va_Qi (fun (x : Int32) (_ : Unit) => x = r_) (fun _ t => va_P D vwCl [(q_t, oX8 q_t_shelf q_t_rowSort q_t_rowSize q_t_rows q_t_moved q_t_shown q_t_tape v_t_tapeSize q_t_refused v_t_places q_t_ways v_t_people q_t_kind q_t_by q_t_home q_t_aim q_t_at0 v_t_hour v_t_chance v_t_seed w_t_kept w_t_tried v_t_at v_t_token v_t_from v_t_figures v_t_fault q_t_told v_t_statements q_t_steps q_t_spot q_t_then v_t_now v_t_gone q_t_sights q_t_darkAt q_t_can), (q_t_ways, .inl (cy 0, 12, .inl v_t_ways)), (q_t_kind, .inl (cy 0, 8, .inl v_t_kind)), (q_t_home, .inl (cy 0, 8, .inl v_t_home)), (q_t_aim, .inl (cy 0, 8, .inl v_t_aim)), (q_t_steps, .inl (cy 0, 12, .inl n_t_steps)), (q_t_spot, .inl (cy 0, 8, .inl v_t_spot))] t.heap) (va_A [(q_t, oX8 q_t_shelf q_t_rowSort q_t_rowSize q_t_rows q_t_moved q_t_shown q_t_tape v_t_tapeSize q_t_refused v_t_places q_t_ways v_t_people q_t_kind q_t_by q_t_home q_t_aim q_t_at0 v_t_hour v_t_chance v_t_seed w_t_kept w_t_tried v_t_at v_t_token v_t_from v_t_figures v_t_fault q_t_told v_t_statements q_t_steps q_t_spot q_t_then v_t_now v_t_gone q_t_sights q_t_darkAt q_t_can), (q_t_ways, .inl (cy 0, 12, .inl v_t_ways)), (q_t_kind, .inl (cy 0, 8, .inl v_t_kind)), (q_t_home, .inl (cy 0, 8, .inl v_t_home)), (q_t_aim, .inl (cy 0, 8, .inl v_t_aim)), (q_t_steps, .inl (cy 0, 12, .inl v_t_steps)), (q_t_spot, .inl (cy 0, 8, .inl v_t_spot))] sz)) 0 0 (va_A [(q_t, oX8 q_t_shelf q_t_rowSort q_t_rowSize q_t_rows q_t_moved q_t_shown q_t_tape v_t_tapeSize q_t_refused v_t_places q_t_ways v_t_people q_t_kind q_t_by q_t_home q_t_aim q_t_at0 v_t_hour v_t_chance v_t_seed w_t_kept w_t_tried v_t_at v_t_token v_t_from v_t_figures v_t_fault q_t_told v_t_statements q_t_steps q_t_spot q_t_then v_t_now v_t_gone q_t_sights q_t_darkAt q_t_can), (q_t_ways, .inl (cy 0, 12, .inl v_t_ways)), (q_t_kind, .inl (cy 0, 8, .inl v_t_kind)), (q_t_home, .inl (cy 0, 8, .inl v_t_home)), (q_t_aim, .inl (cy 0, 8, .inl v_t_aim)), (q_t_steps, .inl (cy 0, 12, .inl v_t_steps)), (q_t_spot, .inl (cy 0, 8, .inl v_t_spot))] sz) := by
  refine Met.ofW (cc := cX8_goesTo) (maxL := 3) (ret := (some .int)) (by decide) rfl ?_
  intro p e s m args below meth c s₁ B hml hv
  obtain ⟨rfl, hsz, hP, hK, hD0⟩ := hv
  have hx := B.exec
  have hb := B.bytes
  have hr := B.returns
  have hts := atoms_spec (ws := wsX8_goesTo) B.pre
  have hown : s.vm.findClass RX8 = some m.cls := findClass_of_methodNamed B.named
  have hlocks := B.notSynchronized
  subst hsz
  have hD := hD0.self (sz := s.heap.size)
  generalize hAe : va_A [(q_t, oX8 q_t_shelf q_t_rowSort q_t_rowSize q_t_rows q_t_moved q_t_shown q_t_tape v_t_tapeSize q_t_refused v_t_places q_t_ways v_t_people q_t_kind q_t_by q_t_home q_t_aim q_t_at0 v_t_hour v_t_chance v_t_seed w_t_kept w_t_tried v_t_at v_t_token v_t_from v_t_figures v_t_fault q_t_told v_t_statements q_t_steps q_t_spot q_t_then v_t_now v_t_gone q_t_sights q_t_darkAt q_t_can), (q_t_ways, .inl (cy 0, 12, .inl v_t_ways)), (q_t_kind, .inl (cy 0, 8, .inl v_t_kind)), (q_t_home, .inl (cy 0, 8, .inl v_t_home)), (q_t_aim, .inl (cy 0, 8, .inl v_t_aim)), (q_t_steps, .inl (cy 0, 12, .inl v_t_steps)), (q_t_spot, .inl (cy 0, 8, .inl v_t_spot))] s.heap.size = A at hD ⊢
  have hA : ∀ q : Nat, s.heap.size ≤ q → A q := fun q h => by rw [← hAe]; exact Or.inr h
  have hS : va_S A s.heap s.heap [] := va_S.rf
  have hP : va_P D vwCl [(q_t, oX8 q_t_shelf q_t_rowSort q_t_rowSize q_t_rows q_t_moved q_t_shown q_t_tape v_t_tapeSize q_t_refused v_t_places q_t_ways v_t_people q_t_kind q_t_by q_t_home q_t_aim q_t_at0 v_t_hour v_t_chance v_t_seed w_t_kept w_t_tried v_t_at v_t_token v_t_from v_t_figures v_t_fault q_t_told v_t_statements q_t_steps q_t_spot q_t_then v_t_now v_t_gone q_t_sights q_t_darkAt q_t_can), (q_t_ways, .inl (cy 0, 12, .inl v_t_ways)), (q_t_kind, .inl (cy 0, 8, .inl v_t_kind)), (q_t_home, .inl (cy 0, 8, .inl v_t_home)), (q_t_aim, .inl (cy 0, 8, .inl v_t_aim)), (q_t_steps, .inl (cy 0, 12, .inl v_t_steps)), (q_t_spot, .inl (cy 0, 8, .inl v_t_spot))] s.heap := hP
  have hinX8 : ∀ w ∈ u_ws RX8 TX8 37, w ∈ wsX8_goesTo := by decide +kernel
  have hk44 := hts (.fieldLink RX8 44 "ShowsWhereNobodyIsModel" "kind" "[I") (by decide +kernel)
  have hk71 := hts (.fieldLink RX8 71 "ShowsWhereNobodyIsModel" "spot" "[I") (by decide +kernel)
  have hk254 := hts (.fieldLink RX8 254 "ShowsWhereNobodyIsModel" "now" "I") (by decide +kernel)
  have hc263 := hts (.constantLong RX8 263 (8)) (by decide +kernel)
  have hc265 := hts (.constantLong RX8 265 (19)) (by decide +kernel)
  have hk50 := hts (.fieldLink RX8 50 "ShowsWhereNobodyIsModel" "home" "[I") (by decide +kernel)
  have hk53 := hts (.fieldLink RX8 53 "ShowsWhereNobodyIsModel" "aim" "[I") (by decide +kernel)
  have hl := lv_entry ([.ref q_t, .int p0]) (n := 3) (Nat.le_of_ble_eq_true rfl)
  rw [lg_entry_eq]
  generalize (lg_sl ([.ref q_t, .int p0]) ++ List.replicate (3 - (lg_sl ([.ref q_t, .int p0])).length) Slot.unset).toArray = ls at hl ⊢
  have hl : lv_has ls 3 [(0, .ref q_t), (1, .int p0)] := hl
  unfold fX8_goesTo at hf
  refine lv_aload_n hx hb dX8_goesTo_0 rfl (lv_at hl 0 rfl) ?_
  refine va_get (D := D) (ci := 8) (v := .ref q_t_kind) (C := RX8) (T := TX8) (N := 37) hx hb hts hinX8 hown hK.1 hP 0 rfl rfl 12 (by decide) hk44 (fun _ h9 => h9) rfl dX8_goesTo_1 ?_
  refine lv_iload_n hx hb dX8_goesTo_4 rfl (lv_at hl 1 rfl) ?_
  obtain ⟨hi1, hf⟩ := ckE hf
  refine va_iald hx hb hK.1 hP 2 0 rfl rfl hi1 dX8_goesTo_5 ?_
  refine jww0 36 [] (fun  H locs ls => va_P D vwCl [(q_t, oX8 q_t_shelf q_t_rowSort q_t_rowSize q_t_rows q_t_moved q_t_shown q_t_tape v_t_tapeSize q_t_refused v_t_places q_t_ways v_t_people q_t_kind q_t_by q_t_home q_t_aim q_t_at0 v_t_hour v_t_chance v_t_seed w_t_kept w_t_tried v_t_at v_t_token v_t_from v_t_figures v_t_fault q_t_told v_t_statements q_t_steps q_t_spot q_t_then v_t_now v_t_gone q_t_sights q_t_darkAt q_t_can), (q_t_ways, .inl (cy 0, 12, .inl v_t_ways)), (q_t_kind, .inl (cy 0, 8, .inl v_t_kind)), (q_t_home, .inl (cy 0, 8, .inl v_t_home)), (q_t_aim, .inl (cy 0, 8, .inl v_t_aim)), (q_t_steps, .inl (cy 0, 12, .inl v_t_steps)), (q_t_spot, .inl (cy 0, 8, .inl v_t_spot))] H ∧ va_D A [(q_t, oX8 q_t_shelf q_t_rowSort q_t_rowSize q_t_rows q_t_moved q_t_shown q_t_tape v_t_tapeSize q_t_refused v_t_places q_t_ways v_t_people q_t_kind q_t_by q_t_home q_t_aim q_t_at0 v_t_hour v_t_chance v_t_seed w_t_kept w_t_tried v_t_at v_t_token v_t_from v_t_figures v_t_fault q_t_told v_t_statements q_t_steps q_t_spot q_t_then v_t_now v_t_gone q_t_sights q_t_darkAt q_t_can), (q_t_ways, .inl (cy 0, 12, .inl v_t_ways)), (q_t_kind, .inl (cy 0, 8, .inl v_t_kind)), (q_t_home, .inl (cy 0, 8, .inl v_t_home)), (q_t_aim, .inl (cy 0, 8, .inl v_t_aim)), (q_t_steps, .inl (cy 0, 12, .inl v_t_steps)), (q_t_spot, .inl (cy 0, 8, .inl v_t_spot))] ∧ va_S A s.heap H locs ∧ lv_has ls 3 [(0, .ref q_t), (1, .int p0)]) hf (fun  H locs ls hI hf => ?_) (fun k2 J36 hf => ?_)
  · obtain ⟨hP, hD, hS, hl⟩ := hI
    refine lv_aload_n hx hb dX8_goesTo_36 rfl (lv_at hl 0 rfl) ?_
    refine va_get (D := D) (ci := 8) (v := .ref q_t_spot) (C := RX8) (T := TX8) (N := 37) hx hb hts hinX8 hown hK.1 hP 0 rfl rfl 30 (by decide) hk71 (fun _ h9 => h9) rfl dX8_goesTo_37 ?_
    refine lv_iload_n hx hb dX8_goesTo_40 rfl (lv_at hl 1 rfl) ?_
    obtain ⟨hi3, hf⟩ := ckE hf
    refine va_iald hx hb hK.1 hP 6 0 rfl rfl hi3 dX8_goesTo_41 ?_
    cases hf
    exact W.iret hx hb hr (fun t ht hW => ⟨⟨_, (), rfl, rfl, xend ht hP⟩, hS.F ht⟩) hS.2.2 dX8_goesTo_42
  · by_cases c15 : (v_t_kind p0.toNatClampNeg) = (1 : Int32)
    · have hf := ifT hf c15
      refine lv_tableIn (tgt := 36) hx hb dX8_goesTo_6 (by rw [c15]; decide) (by rw [c15]; decide) (by rw [c15]; rfl) (by decide) ?_
      exact J36 _ _ ls ⟨hP, hD, hS, lv_sub hl [0, 1] rfl⟩ hf
    · have hf := ifF hf c15
      by_cases c16 : (v_t_kind p0.toNatClampNeg) = (2 : Int32)
      · have hf := ifT hf c16
        refine lv_tableIn (tgt := 43) hx hb dX8_goesTo_6 (by rw [c16]; decide) (by rw [c16]; decide) (by rw [c16]; rfl) (by decide) ?_
        refine lv_aload_n hx hb dX8_goesTo_43 rfl (lv_at hl 0 rfl) ?_
        refine lv_aload_n hx hb dX8_goesTo_44 rfl (lv_at hl 0 rfl) ?_
        refine va_get (D := D) (ci := 8) (v := .ref q_t_spot) (C := RX8) (T := TX8) (N := 37) hx hb hts hinX8 hown hK.1 hP 0 rfl rfl 30 (by decide) hk71 (fun _ h9 => h9) rfl dX8_goesTo_45 ?_
        refine lv_iload_n hx hb dX8_goesTo_48 rfl (lv_at hl 1 rfl) ?_
        obtain ⟨hi26, hf⟩ := ckE hf
        refine va_iald hx hb hK.1 hP 6 0 rfl rfl hi26 dX8_goesTo_49 ?_
        obtain ⟨r27, hr28, hf⟩ := boE1 hf
        have hPc := hP.sub (ws' := [(q_t, oX8 q_t_shelf q_t_rowSort q_t_rowSize q_t_rows q_t_moved q_t_shown q_t_tape v_t_tapeSize q_t_refused v_t_places q_t_ways v_t_people q_t_kind q_t_by q_t_home q_t_aim q_t_at0 v_t_hour v_t_chance v_t_seed w_t_kept w_t_tried v_t_at v_t_token v_t_from v_t_figures v_t_fault q_t_told v_t_statements q_t_steps q_t_spot q_t_then v_t_now v_t_gone q_t_sights q_t_darkAt q_t_can), (q_t_ways, .inl (cy 0, 12, .inl v_t_ways))]) [0, 1] rfl
        refine xcSi (va_runV (As := [.int (v_t_spot p0.toNatClampNeg)]) (rest := []) ⟨hx, hb, hml, hown, hts⟩ (mX8_nextRound l D cy q_t q_t_shelf q_t_rowSort q_t_rowSize q_t_rows q_t_moved q_t_shown q_t_tape q_t_refused q_t_ways q_t_kind q_t_by q_t_home q_t_aim q_t_at0 q_t_told q_t_steps q_t_spot q_t_then q_t_sights q_t_darkAt q_t_can v_t_tapeSize v_t_places v_t_people v_t_hour v_t_chance v_t_seed w_t_kept w_t_tried v_t_at v_t_token v_t_from v_t_figures v_t_fault v_t_statements v_t_now v_t_gone v_t_ways  (v_t_spot p0.toNatClampNeg) hr28) (cwV 1 hts gX8_goesTo_X8_nextRound rfl rfl rfl (by decide +kernel) ⟨Nat.le_of_ble_eq_true rfl, Nat.le_of_ble_eq_true rfl⟩) (xPV hK hPc (ci := 8) (q0 := 0) rfl rfl) rfl rfl hl.1 rfl (lv_room (Nat.le_of_ble_eq_true rfl)) dX8_goesTo_50 ⟨Nat.le_of_ble_eq_true rfl, Nat.le_of_ble_eq_true rfl⟩) ?_
        cases hf
        exact W.iret hx hb hr (fun t ht hW => ⟨⟨_, (), rfl, rfl, xend ht hP⟩, hS.F ht⟩) hS.2.2 dX8_goesTo_53
      · have hf := ifF hf c16
        by_cases c17 : (v_t_kind p0.toNatClampNeg) = (3 : Int32)
        · have hf := ifT hf c17
          refine lv_tableIn (tgt := 36) hx hb dX8_goesTo_6 (by rw [c17]; decide) (by rw [c17]; decide) (by rw [c17]; rfl) (by decide) ?_
          exact J36 _ _ ls ⟨hP, hD, hS, lv_sub hl [0, 1] rfl⟩ hf
        · have hf := ifF hf c17
          by_cases c18 : (v_t_kind p0.toNatClampNeg) = (4 : Int32)
          · have hf := ifT hf c18
            refine lv_tableIn (tgt := 54) hx hb dX8_goesTo_6 (by rw [c18]; decide) (by rw [c18]; decide) (by rw [c18]; rfl) (by decide) ?_
            refine lv_aload_n hx hb dX8_goesTo_54 rfl (lv_at hl 0 rfl) ?_
            refine lv_aload_n hx hb dX8_goesTo_55 rfl (lv_at hl 0 rfl) ?_
            refine va_get (D := D) (ci := 8) (v := .ref q_t_spot) (C := RX8) (T := TX8) (N := 37) hx hb hts hinX8 hown hK.1 hP 0 rfl rfl 30 (by decide) hk71 (fun _ h9 => h9) rfl dX8_goesTo_56 ?_
            refine lv_iload_n hx hb dX8_goesTo_59 rfl (lv_at hl 1 rfl) ?_
            obtain ⟨hi19, hf⟩ := ckE hf
            refine va_iald hx hb hK.1 hP 6 0 rfl rfl hi19 dX8_goesTo_60 ?_
            obtain ⟨r20, hr21, hf⟩ := boE1 hf
            have hPc := hP.sub (ws' := [(q_t, oX8 q_t_shelf q_t_rowSort q_t_rowSize q_t_rows q_t_moved q_t_shown q_t_tape v_t_tapeSize q_t_refused v_t_places q_t_ways v_t_people q_t_kind q_t_by q_t_home q_t_aim q_t_at0 v_t_hour v_t_chance v_t_seed w_t_kept w_t_tried v_t_at v_t_token v_t_from v_t_figures v_t_fault q_t_told v_t_statements q_t_steps q_t_spot q_t_then v_t_now v_t_gone q_t_sights q_t_darkAt q_t_can), (q_t_ways, .inl (cy 0, 12, .inl v_t_ways))]) [0, 1] rfl
            refine xcSi (va_runV (As := [.int (v_t_spot p0.toNatClampNeg)]) (rest := []) ⟨hx, hb, hml, hown, hts⟩ (mX8_nextRound l D cy q_t q_t_shelf q_t_rowSort q_t_rowSize q_t_rows q_t_moved q_t_shown q_t_tape q_t_refused q_t_ways q_t_kind q_t_by q_t_home q_t_aim q_t_at0 q_t_told q_t_steps q_t_spot q_t_then q_t_sights q_t_darkAt q_t_can v_t_tapeSize v_t_places v_t_people v_t_hour v_t_chance v_t_seed w_t_kept w_t_tried v_t_at v_t_token v_t_from v_t_figures v_t_fault v_t_statements v_t_now v_t_gone v_t_ways  (v_t_spot p0.toNatClampNeg) hr21) (cwV 1 hts gX8_goesTo_X8_nextRound rfl rfl rfl (by decide +kernel) ⟨Nat.le_of_ble_eq_true rfl, Nat.le_of_ble_eq_true rfl⟩) (xPV hK hPc (ci := 8) (q0 := 0) rfl rfl) rfl rfl hl.1 rfl (lv_room (Nat.le_of_ble_eq_true rfl)) dX8_goesTo_61 ⟨Nat.le_of_ble_eq_true rfl, Nat.le_of_ble_eq_true rfl⟩) ?_
            refine lv_istore_n (lv' := [(2, .int r20), (0, .ref q_t), (1, .int p0)]) hx hb dX8_goesTo_64 rfl hl (by decide) rfl (fun ls hl => ?_)
            refine lv_aload_n hx hb dX8_goesTo_65 rfl (lv_at hl 1 rfl) ?_
            refine lv_iload_n hx hb dX8_goesTo_66 rfl (lv_at hl 0 rfl) ?_
            refine lv_iload_n hx hb dX8_goesTo_67 rfl (lv_at hl 2 rfl) ?_
            obtain ⟨r22, hr23, hf⟩ := boE1 hf
            have hPc := hP.sub (ws' := [(q_t, oX8 q_t_shelf q_t_rowSort q_t_rowSize q_t_rows q_t_moved q_t_shown q_t_tape v_t_tapeSize q_t_refused v_t_places q_t_ways v_t_people q_t_kind q_t_by q_t_home q_t_aim q_t_at0 v_t_hour v_t_chance v_t_seed w_t_kept w_t_tried v_t_at v_t_token v_t_from v_t_figures v_t_fault q_t_told v_t_statements q_t_steps q_t_spot q_t_then v_t_now v_t_gone q_t_sights q_t_darkAt q_t_can), (q_t_kind, .inl (cy 0, 8, .inl v_t_kind)), (q_t_spot, .inl (cy 0, 8, .inl v_t_spot))]) [0, 2, 6] rfl
            refine xcSi (va_runV (As := [.int r20, .int p0]) (rest := []) ⟨hx, hb, hml, hown, hts⟩ (mX8_isDarkBut l D cy q_t q_t_shelf q_t_rowSort q_t_rowSize q_t_rows q_t_moved q_t_shown q_t_tape q_t_refused q_t_ways q_t_kind q_t_by q_t_home q_t_aim q_t_at0 q_t_told q_t_steps q_t_spot q_t_then q_t_sights q_t_darkAt q_t_can v_t_tapeSize v_t_places v_t_people v_t_hour v_t_chance v_t_seed w_t_kept w_t_tried v_t_at v_t_token v_t_from v_t_figures v_t_fault v_t_statements v_t_now v_t_gone v_t_kind v_t_spot  r20 p0 hr23) (cwV 2 hts gX8_goesTo_X8_isDarkBut rfl rfl rfl (by decide +kernel) ⟨Nat.le_of_ble_eq_true rfl, Nat.le_of_ble_eq_true rfl⟩) (xPV hK hPc (ci := 8) (q0 := 0) rfl rfl) rfl rfl hl.1 rfl (lv_room (Nat.le_of_ble_eq_true rfl)) dX8_goesTo_68 ⟨Nat.le_of_ble_eq_true rfl, Nat.le_of_ble_eq_true rfl⟩) ?_
            refine lv_if_eq (tgt := 78) hx hb dX8_goesTo_71 (by decide) (fun c25 => ?_) (fun c25 => ?_)
            · have hf := ifT hf c25
              clear c25
              refine lv_aload_n hx hb dX8_goesTo_78 rfl (lv_at hl 1 rfl) ?_
              refine va_get (D := D) (ci := 8) (v := .ref q_t_spot) (C := RX8) (T := TX8) (N := 37) hx hb hts hinX8 hown hK.1 hP 0 rfl rfl 30 (by decide) hk71 (fun _ h9 => h9) rfl dX8_goesTo_79 ?_
              refine lv_iload_n hx hb dX8_goesTo_82 rfl (lv_at hl 2 rfl) ?_
              obtain ⟨hi24, hf⟩ := ckE hf
              refine va_iald hx hb hK.1 hP 6 0 rfl rfl hi24 dX8_goesTo_83 ?_
              cases hf
              exact W.iret hx hb hr (fun t ht hW => ⟨⟨_, (), rfl, rfl, xend ht hP⟩, hS.F ht⟩) hS.2.2 dX8_goesTo_84
            · have hf := ifF hf c25
              clear c25
              refine lv_iload_n hx hb dX8_goesTo_74 rfl (lv_at hl 0 rfl) ?_
              refine lv_goto (tgt := 84) hx hb dX8_goesTo_75 (by decide) ?_
              cases hf
              exact W.iret hx hb hr (fun t ht hW => ⟨⟨_, (), rfl, rfl, xend ht hP⟩, hS.F ht⟩) hS.2.2 dX8_goesTo_84
          · have hf := ifF hf c18
            refine lv_tableOut (tgt := 85) hx hb dX8_goesTo_6 (by have n0 := lv_neT c15 (a := 1) (by decide); have n1 := lv_neT c16 (a := 2) (by decide); have n2 := lv_neT c17 (a := 3) (by decide); have n3 := lv_neT c18 (a := 4) (by decide); omega) (by decide) ?_
            refine lv_aload_n hx hb dX8_goesTo_85 rfl (lv_at hl 0 rfl) ?_
            refine lv_aload_n hx hb dX8_goesTo_86 rfl (lv_at hl 0 rfl) ?_
            refine va_get (D := D) (ci := 8) (v := .ref q_t_spot) (C := RX8) (T := TX8) (N := 37) hx hb hts hinX8 hown hK.1 hP 0 rfl rfl 30 (by decide) hk71 (fun _ h9 => h9) rfl dX8_goesTo_87 ?_
            refine lv_iload_n hx hb dX8_goesTo_90 rfl (lv_at hl 1 rfl) ?_
            obtain ⟨hi4, hf⟩ := ckE hf
            refine va_iald hx hb hK.1 hP 6 0 rfl rfl hi4 dX8_goesTo_91 ?_
            refine lv_aload_n hx hb dX8_goesTo_92 rfl (lv_at hl 0 rfl) ?_
            refine va_get (D := D) (ci := 8) (v := .int v_t_now) (C := RX8) (T := TX8) (N := 37) hx hb hts hinX8 hown hK.1 hP 0 rfl rfl 32 (by decide) hk254 (fun _ h9 => h9) rfl dX8_goesTo_93 ?_
            refine lv_bipush (v := 24) hx hb dX8_goesTo_96 (by decide) ?_
            refine lv_irem hx hb dX8_goesTo_98 (by decide) ?_
            refine lv_i2l hx hb dX8_goesTo_99 rfl ?_
            refine lv_ldc2 hx hb hown hc263 dX8_goesTo_100 ?_
            refine lv_ldc2 hx hb hown hc265 dX8_goesTo_103 ?_
            obtain ⟨r5, hr6, hf⟩ := boE1 hf
            have hPc := hP.sub (ws' := []) [] rfl
            refine xcSi (va_runS (As := [.long ((v_t_now - v_t_now / (24 : Int32) * (24 : Int32)).toInt64), .long (8 : Int64), .long (19 : Int64)]) (rest := [.int (v_t_spot p0.toNatClampNeg), .ref q_t]) ⟨hx, hb, hml, hown, hts⟩ (mX8_in l D cy    ((v_t_now - v_t_now / (24 : Int32) * (24 : Int32)).toInt64) (8 : Int64) (19 : Int64) hr6) (va_cwS 3 hts gX8_goesTo_X8_in rfl rfl rfl (by decide +kernel) ⟨Nat.le_of_ble_eq_true rfl, Nat.le_of_ble_eq_true rfl⟩) (xPS hK hPc) rfl rfl hl.1 rfl (lv_room (Nat.le_of_ble_eq_true rfl)) dX8_goesTo_106 ⟨Nat.le_of_ble_eq_true rfl, Nat.le_of_ble_eq_true rfl⟩) ?_
            refine jww1 127 (fun (y7 : Int32) => [.int y7, .int (v_t_spot p0.toNatClampNeg), .ref q_t]) (fun (y7 : Int32) H locs ls => va_P D vwCl [(q_t, oX8 q_t_shelf q_t_rowSort q_t_rowSize q_t_rows q_t_moved q_t_shown q_t_tape v_t_tapeSize q_t_refused v_t_places q_t_ways v_t_people q_t_kind q_t_by q_t_home q_t_aim q_t_at0 v_t_hour v_t_chance v_t_seed w_t_kept w_t_tried v_t_at v_t_token v_t_from v_t_figures v_t_fault q_t_told v_t_statements q_t_steps q_t_spot q_t_then v_t_now v_t_gone q_t_sights q_t_darkAt q_t_can), (q_t_ways, .inl (cy 0, 12, .inl v_t_ways)), (q_t_kind, .inl (cy 0, 8, .inl v_t_kind)), (q_t_home, .inl (cy 0, 8, .inl v_t_home)), (q_t_aim, .inl (cy 0, 8, .inl v_t_aim)), (q_t_steps, .inl (cy 0, 12, .inl v_t_steps)), (q_t_spot, .inl (cy 0, 8, .inl v_t_spot))] H ∧ va_D A [(q_t, oX8 q_t_shelf q_t_rowSort q_t_rowSize q_t_rows q_t_moved q_t_shown q_t_tape v_t_tapeSize q_t_refused v_t_places q_t_ways v_t_people q_t_kind q_t_by q_t_home q_t_aim q_t_at0 v_t_hour v_t_chance v_t_seed w_t_kept w_t_tried v_t_at v_t_token v_t_from v_t_figures v_t_fault q_t_told v_t_statements q_t_steps q_t_spot q_t_then v_t_now v_t_gone q_t_sights q_t_darkAt q_t_can), (q_t_ways, .inl (cy 0, 12, .inl v_t_ways)), (q_t_kind, .inl (cy 0, 8, .inl v_t_kind)), (q_t_home, .inl (cy 0, 8, .inl v_t_home)), (q_t_aim, .inl (cy 0, 8, .inl v_t_aim)), (q_t_steps, .inl (cy 0, 12, .inl v_t_steps)), (q_t_spot, .inl (cy 0, 8, .inl v_t_spot))] ∧ va_S A s.heap H locs ∧ lv_has ls 3 []) hf (fun y7 H locs ls hI hf => ?_) (fun k8 J127 hf => ?_)
            · obtain ⟨hP, hD, hS, hl⟩ := hI
              obtain ⟨r9, u10, hr11, hf⟩ := boE2 hf
              have hPc := hP.sub (ws' := [(q_t, oX8 q_t_shelf q_t_rowSort q_t_rowSize q_t_rows q_t_moved q_t_shown q_t_tape v_t_tapeSize q_t_refused v_t_places q_t_ways v_t_people q_t_kind q_t_by q_t_home q_t_aim q_t_at0 v_t_hour v_t_chance v_t_seed w_t_kept w_t_tried v_t_at v_t_token v_t_from v_t_figures v_t_fault q_t_told v_t_statements q_t_steps q_t_spot q_t_then v_t_now v_t_gone q_t_sights q_t_darkAt q_t_can), (q_t_ways, .inl (cy 0, 12, .inl v_t_ways)), (q_t_steps, .inl (cy 0, 12, .inl v_t_steps))]) [0, 1, 5] rfl
              have hDc := hD.sub (ws' := [(q_t, oX8 q_t_shelf q_t_rowSort q_t_rowSize q_t_rows q_t_moved q_t_shown q_t_tape v_t_tapeSize q_t_refused v_t_places q_t_ways v_t_people q_t_kind q_t_by q_t_home q_t_aim q_t_at0 v_t_hour v_t_chance v_t_seed w_t_kept w_t_tried v_t_at v_t_token v_t_from v_t_figures v_t_fault q_t_told v_t_statements q_t_steps q_t_spot q_t_then v_t_now v_t_gone q_t_sights q_t_darkAt q_t_can), (q_t_ways, .inl (cy 0, 12, .inl v_t_ways)), (q_t_steps, .inl (cy 0, 12, .inl v_t_steps))]) [0, 1, 5] (by decide) rfl
              refine xcQi (w1 := [(q_t, oX8 q_t_shelf q_t_rowSort q_t_rowSize q_t_rows q_t_moved q_t_shown q_t_tape v_t_tapeSize q_t_refused v_t_places q_t_ways v_t_people q_t_kind q_t_by q_t_home q_t_aim q_t_at0 v_t_hour v_t_chance v_t_seed w_t_kept w_t_tried v_t_at v_t_token v_t_from v_t_figures v_t_fault q_t_told v_t_statements q_t_steps q_t_spot q_t_then v_t_now v_t_gone q_t_sights q_t_darkAt q_t_can), (q_t_ways, .inl (cy 0, 12, .inl v_t_ways)), (q_t_steps, .inl (cy 0, 12, .inl u10))]) (va_runV (As := [.int (v_t_spot p0.toNatClampNeg), .int y7]) (rest := []) ⟨hx, hb, hml, hown, hts⟩ (mX8_stepToward l D cy q_t q_t_shelf q_t_rowSort q_t_rowSize q_t_rows q_t_moved q_t_shown q_t_tape q_t_refused q_t_ways q_t_kind q_t_by q_t_home q_t_aim q_t_at0 q_t_told q_t_steps q_t_spot q_t_then q_t_sights q_t_darkAt q_t_can v_t_tapeSize v_t_places v_t_people v_t_hour v_t_chance v_t_seed w_t_kept w_t_tried v_t_at v_t_token v_t_from v_t_figures v_t_fault v_t_statements v_t_now v_t_gone v_t_ways v_t_steps _ (v_t_spot p0.toNatClampNeg) y7 hr11) (cwV 2 hts gX8_goesTo_X8_stepToward rfl rfl rfl (by decide +kernel) ⟨Nat.le_of_ble_eq_true rfl, Nat.le_of_ble_eq_true rfl⟩) (xPVw hK hPc hDc (ci := 8) (q0 := 0) rfl rfl) rfl rfl hl.1 rfl (lv_room (Nat.le_of_ble_eq_true rfl)) dX8_goesTo_127 ⟨Nat.le_of_ble_eq_true rfl, Nat.le_of_ble_eq_true rfl⟩) hP hD hS hA [0, 1, 5] rfl rfl (fun H locs hP hD hS => ?_)
              have hP : va_P D vwCl [(q_t, oX8 q_t_shelf q_t_rowSort q_t_rowSize q_t_rows q_t_moved q_t_shown q_t_tape v_t_tapeSize q_t_refused v_t_places q_t_ways v_t_people q_t_kind q_t_by q_t_home q_t_aim q_t_at0 v_t_hour v_t_chance v_t_seed w_t_kept w_t_tried v_t_at v_t_token v_t_from v_t_figures v_t_fault q_t_told v_t_statements q_t_steps q_t_spot q_t_then v_t_now v_t_gone q_t_sights q_t_darkAt q_t_can), (q_t_ways, .inl (cy 0, 12, .inl v_t_ways)), (q_t_kind, .inl (cy 0, 8, .inl v_t_kind)), (q_t_home, .inl (cy 0, 8, .inl v_t_home)), (q_t_aim, .inl (cy 0, 8, .inl v_t_aim)), (q_t_steps, .inl (cy 0, 12, .inl u10)), (q_t_spot, .inl (cy 0, 8, .inl v_t_spot))] H := hP
              have hD : va_D A [(q_t, oX8 q_t_shelf q_t_rowSort q_t_rowSize q_t_rows q_t_moved q_t_shown q_t_tape v_t_tapeSize q_t_refused v_t_places q_t_ways v_t_people q_t_kind q_t_by q_t_home q_t_aim q_t_at0 v_t_hour v_t_chance v_t_seed w_t_kept w_t_tried v_t_at v_t_token v_t_from v_t_figures v_t_fault q_t_told v_t_statements q_t_steps q_t_spot q_t_then v_t_now v_t_gone q_t_sights q_t_darkAt q_t_can), (q_t_ways, .inl (cy 0, 12, .inl v_t_ways)), (q_t_kind, .inl (cy 0, 8, .inl v_t_kind)), (q_t_home, .inl (cy 0, 8, .inl v_t_home)), (q_t_aim, .inl (cy 0, 8, .inl v_t_aim)), (q_t_steps, .inl (cy 0, 12, .inl u10)), (q_t_spot, .inl (cy 0, 8, .inl v_t_spot))] := hD
              cases hf
              exact W.iret hx hb hr (fun t ht hW => ⟨⟨_, (), rfl, rfl, xend ht hP⟩, hS.F ht⟩) hS.2.2 dX8_goesTo_130
            · refine lv_if_eq (tgt := 121) hx hb dX8_goesTo_109 (by decide) (fun c14 => ?_) (fun c14 => ?_)
              · have hf := ifT hf c14
                clear c14
                refine lv_aload_n hx hb dX8_goesTo_121 rfl (lv_at hl 0 rfl) ?_
                refine va_get (D := D) (ci := 8) (v := .ref q_t_home) (C := RX8) (T := TX8) (N := 37) hx hb hts hinX8 hown hK.1 hP 0 rfl rfl 14 (by decide) hk50 (fun _ h9 => h9) rfl dX8_goesTo_122 ?_
                refine lv_iload_n hx hb dX8_goesTo_125 rfl (lv_at hl 1 rfl) ?_
                obtain ⟨hi12, hf⟩ := ckE hf
                refine va_iald hx hb hK.1 hP 3 0 rfl rfl hi12 dX8_goesTo_126 ?_
                exact J127 (v_t_home p0.toNatClampNeg) _ _ ls ⟨hP, hD, hS, lv_sub hl [] rfl⟩ hf
              · have hf := ifF hf c14
                clear c14
                refine lv_aload_n hx hb dX8_goesTo_112 rfl (lv_at hl 0 rfl) ?_
                refine va_get (D := D) (ci := 8) (v := .ref q_t_aim) (C := RX8) (T := TX8) (N := 37) hx hb hts hinX8 hown hK.1 hP 0 rfl rfl 15 (by decide) hk53 (fun _ h9 => h9) rfl dX8_goesTo_113 ?_
                refine lv_iload_n hx hb dX8_goesTo_116 rfl (lv_at hl 1 rfl) ?_
                obtain ⟨hi13, hf⟩ := ckE hf
                refine va_iald hx hb hK.1 hP 4 0 rfl rfl hi13 dX8_goesTo_117 ?_
                refine lv_goto (tgt := 127) hx hb dX8_goesTo_118 (by decide) ?_
                exact J127 (v_t_aim p0.toNatClampNeg) _ _ ls ⟨hP, hD, hS, lv_sub hl [] rfl⟩ hf
