def fX8_next (v_t_places : Int32) (v_t_people : Int32) (v_t_hour : Int32) (v_t_now : Int32) (v_t_gone : Int32) (v_t_refused : Nat → Int32) (v_t_ways : Nat → Int32) (v_t_kind : Nat → Int32) (v_t_home : Nat → Int32) (v_t_aim : Nat → Int32) (v_t_at0 : Nat → Int32) (v_t_steps : Nat → Int32) (v_t_spot : Nat → Int32) (v_t_then : Nat → Int32) (v_t_sights : Nat → Nat → Int32) (p0 : Int32) : Option (Int32 × Int32 × (Nat → Int32) × (Nat → Int32) × (Nat → Int32) × (Nat → Int32) × (Nat → Int32) × (Nat → Nat → Int32)) :=
  bo1 (fX8_isPerson v_t_people p0) fun r1 =>
  if r1 = 0 then
    bo2 (fX8_refuse v_t_refused (-2 : Int32)) fun r53 u54 =>
    some (r53, v_t_now, u54, v_t_at0, v_t_steps, v_t_spot, v_t_then, v_t_sights)
  else
    if p0 < 0 ∨ 8 ≤ p0.toNatClampNeg then none else
    vlet (v_t_at0 p0.toNatClampNeg) fun x4 =>
    lo7 (fun g12 (x5 : Int32) (u6 : Int32) (u7 : Nat → Int32) (u8 : Nat → Int32) (u9 : Nat → Int32) (u10 : Nat → Int32) (u11 : Nat → Nat → Int32) =>
      if v_t_places ≤ x5 then
        if p0 < 0 ∨ 8 ≤ p0.toNatClampNeg then none else
        lo3 (fun g17 (x14 : Int32) (x15 : Int32) (x16 : Int32) =>
          if (24 : Int32) < x16 then
            some (x14, u6, v_t_refused, upd u7 p0.toNatClampNeg x4, u8, u9, u10, u11)
          else
            bo1 (fX8_worstAt v_t_places u11 x16) fun r18 =>
            jo1 (fun (y20 : Int32) =>
              jo1 (fun (y22 : Int32) =>
                vlet (x16 + (1 : Int32)) fun x24 =>
                g17 y20 y22 x24) fun k23 =>
              if x15 ≤ r18 then
                k23 x15
              else
                k23 r18) fun k21 =>
            if x15 ≤ r18 then
              k21 x14
            else
              k21 x16) 400 (-1 : Int32) v_t_places (0 : Int32)
      else
        if p0 < 0 ∨ 8 ≤ p0.toNatClampNeg then none else
        bo2 (fX8_begin v_t_people v_t_hour (upd u7 p0.toNatClampNeg x5) u9) fun u29 u30 =>
        lo6 (fun g38 (x32 : Int32) (u33 : Int32) (u34 : Nat → Int32) (u35 : Nat → Int32) (u36 : Nat → Int32) (u37 : Nat → Nat → Int32) =>
          if (24 : Int32) < x32 then
            vlet (x5 + (1 : Int32)) fun x39 =>
            g12 x39 u33 (upd u7 p0.toNatClampNeg x5) u34 u35 u36 u37
          else
            if x5 < 0 ∨ 12 ≤ x5.toNatClampNeg then none else
            bo1 (fX8_light v_t_places v_t_people v_t_gone v_t_kind u35) fun r42 =>
            if x32 < 0 ∨ 25 ≤ x32.toNatClampNeg then none else
            bo4 (fX8_goes v_t_places v_t_people u33 v_t_gone v_t_ways v_t_kind v_t_home v_t_aim u34 u35 u36) fun u45 u46 u47 u48 =>
            vlet (x32 + (1 : Int32)) fun x50 =>
            g38 x50 u45 u46 u47 u48 (va_up u37 x5.toNatClampNeg (upd (u37 x5.toNatClampNeg) x32.toNatClampNeg r42))) 400 (0 : Int32) u29 u8 u30 u10 u11) 400 (0 : Int32) v_t_now v_t_at0 v_t_steps v_t_spot v_t_then v_t_sights
set_option maxHeartbeats 4000000 in
set_option maxRecDepth 100000 in
theorem mX8_next (l : Launch) (D : va_G) (cy : Nat → ClassId) (q_t q_t_shelf q_t_rowSort q_t_rowSize q_t_rows q_t_moved q_t_shown q_t_tape q_t_refused q_t_ways q_t_kind q_t_by q_t_home q_t_aim q_t_at0 q_t_told q_t_steps q_t_spot q_t_then q_t_sights q_t_darkAt q_t_can : Nat) (ad_t_sights : Nat → Nat) (v_t_tapeSize : Int32) (v_t_places : Int32) (v_t_people : Int32) (v_t_hour : Int32) (v_t_chance : Int32) (v_t_seed : Int32) (w_t_kept : Value) (w_t_tried : Value) (v_t_at : Int32) (v_t_token : Int32) (v_t_from : Int32) (v_t_figures : Int32) (v_t_fault : Int32) (v_t_statements : Int32) (v_t_now : Int32) (v_t_gone : Int32) (v_t_refused : Nat → Int32) (v_t_ways : Nat → Int32) (v_t_kind : Nat → Int32) (v_t_home : Nat → Int32) (v_t_aim : Nat → Int32) (v_t_at0 : Nat → Int32) (v_t_steps : Nat → Int32) (v_t_spot : Nat → Int32) (v_t_then : Nat → Int32) (v_t_sights : Nat → Nat → Int32) (sz : Nat) (p0 : Int32) {r_ : Int32} {n_t_now : Int32} {n_t_refused : Nat → Int32} {n_t_at0 : Nat → Int32} {n_t_steps : Nat → Int32} {n_t_spot : Nat → Int32} {n_t_then : Nat → Int32} {n_t_sights : Nat → Nat → Int32} (hf : fX8_next v_t_places v_t_people v_t_hour v_t_now v_t_gone v_t_refused v_t_ways v_t_kind v_t_home v_t_aim v_t_at0 v_t_steps v_t_spot v_t_then v_t_sights p0 = some (r_, n_t_now, n_t_refused, n_t_at0, n_t_steps, n_t_spot, n_t_then, n_t_sights)) : Met l yX8_next wsX8_next ({ frames := 4, cells := 0, slots := 0, locals := 90 }) (va_Pc [.ref q_t, .int p0] (fun U => U.heap.size = sz ∧ va_P D vwCl ([(q_t, oX8 q_t_shelf q_t_rowSort q_t_rowSize q_t_rows q_t_moved q_t_shown q_t_tape v_t_tapeSize q_t_refused v_t_places q_t_ways v_t_people q_t_kind q_t_by q_t_home q_t_aim q_t_at0 v_t_hour v_t_chance v_t_seed w_t_kept w_t_tried v_t_at v_t_token v_t_from v_t_figures v_t_fault q_t_told v_t_statements q_t_steps q_t_spot q_t_then v_t_now v_t_gone q_t_sights q_t_darkAt q_t_can), (q_t_refused, .inl (cy 0, 8, .inl v_t_refused)), (q_t_ways, .inl (cy 0, 12, .inl v_t_ways)), (q_t_kind, .inl (cy 0, 8, .inl v_t_kind)), (q_t_home, .inl (cy 0, 8, .inl v_t_home)), (q_t_aim, .inl (cy 0, 8, .inl v_t_aim)), (q_t_at0, .inl (cy 0, 8, .inl v_t_at0)), (q_t_steps, .inl (cy 0, 12, .inl v_t_steps)), (q_t_spot, .inl (cy 0, 8, .inl v_t_spot)), (q_t_then, .inl (cy 0, 8, .inl v_t_then)), (q_t_sights, .inl (cy 3, 12, .inr (.inr (.inr (.inr (fun i => some (ad_t_sights i)))))))] ++ wFI cy 12 25 ad_t_sights v_t_sights) U.heap ∧ xK D cy U ∧ va_D (fun _ => True) ([(q_t, oX8 q_t_shelf q_t_rowSort q_t_rowSize q_t_rows q_t_moved q_t_shown q_t_tape v_t_tapeSize q_t_refused v_t_places q_t_ways v_t_people q_t_kind q_t_by q_t_home q_t_aim q_t_at0 v_t_hour v_t_chance v_t_seed w_t_kept w_t_tried v_t_at v_t_token v_t_from v_t_figures v_t_fault q_t_told v_t_statements q_t_steps q_t_spot q_t_then v_t_now v_t_gone q_t_sights q_t_darkAt q_t_can), (q_t_refused, .inl (cy 0, 8, .inl v_t_refused)), (q_t_ways, .inl (cy 0, 12, .inl v_t_ways)), (q_t_kind, .inl (cy 0, 8, .inl v_t_kind)), (q_t_home, .inl (cy 0, 8, .inl v_t_home)), (q_t_aim, .inl (cy 0, 8, .inl v_t_aim)), (q_t_at0, .inl (cy 0, 8, .inl v_t_at0)), (q_t_steps, .inl (cy 0, 12, .inl v_t_steps)), (q_t_spot, .inl (cy 0, 8, .inl v_t_spot)), (q_t_then, .inl (cy 0, 8, .inl v_t_then)), (q_t_sights, .inl (cy 3, 12, .inr (.inr (.inr (.inr (fun i => some (ad_t_sights i)))))))] ++ wFI cy 12 25 ad_t_sights v_t_sights))) (va_Qi (fun (x : Int32) (_ : Unit) => x = r_) (fun _ t => va_P D vwCl ([(q_t, oX8 q_t_shelf q_t_rowSort q_t_rowSize q_t_rows q_t_moved q_t_shown q_t_tape v_t_tapeSize q_t_refused v_t_places q_t_ways v_t_people q_t_kind q_t_by q_t_home q_t_aim q_t_at0 v_t_hour v_t_chance v_t_seed w_t_kept w_t_tried v_t_at v_t_token v_t_from v_t_figures v_t_fault q_t_told v_t_statements q_t_steps q_t_spot q_t_then n_t_now v_t_gone q_t_sights q_t_darkAt q_t_can), (q_t_refused, .inl (cy 0, 8, .inl n_t_refused)), (q_t_ways, .inl (cy 0, 12, .inl v_t_ways)), (q_t_kind, .inl (cy 0, 8, .inl v_t_kind)), (q_t_home, .inl (cy 0, 8, .inl v_t_home)), (q_t_aim, .inl (cy 0, 8, .inl v_t_aim)), (q_t_at0, .inl (cy 0, 8, .inl n_t_at0)), (q_t_steps, .inl (cy 0, 12, .inl n_t_steps)), (q_t_spot, .inl (cy 0, 8, .inl n_t_spot)), (q_t_then, .inl (cy 0, 8, .inl n_t_then)), (q_t_sights, .inl (cy 3, 12, .inr (.inr (.inr (.inr (fun i => some (ad_t_sights i)))))))] ++ wFI cy 12 25 ad_t_sights n_t_sights) t.heap) (va_A ([(q_t, oX8 q_t_shelf q_t_rowSort q_t_rowSize q_t_rows q_t_moved q_t_shown q_t_tape v_t_tapeSize q_t_refused v_t_places q_t_ways v_t_people q_t_kind q_t_by q_t_home q_t_aim q_t_at0 v_t_hour v_t_chance v_t_seed w_t_kept w_t_tried v_t_at v_t_token v_t_from v_t_figures v_t_fault q_t_told v_t_statements q_t_steps q_t_spot q_t_then v_t_now v_t_gone q_t_sights q_t_darkAt q_t_can), (q_t_refused, .inl (cy 0, 8, .inl v_t_refused)), (q_t_ways, .inl (cy 0, 12, .inl v_t_ways)), (q_t_kind, .inl (cy 0, 8, .inl v_t_kind)), (q_t_home, .inl (cy 0, 8, .inl v_t_home)), (q_t_aim, .inl (cy 0, 8, .inl v_t_aim)), (q_t_at0, .inl (cy 0, 8, .inl v_t_at0)), (q_t_steps, .inl (cy 0, 12, .inl v_t_steps)), (q_t_spot, .inl (cy 0, 8, .inl v_t_spot)), (q_t_then, .inl (cy 0, 8, .inl v_t_then)), (q_t_sights, .inl (cy 3, 12, .inr (.inr (.inr (.inr (fun i => some (ad_t_sights i)))))))] ++ wFI cy 12 25 ad_t_sights v_t_sights) sz)) 0 0 (va_A ([(q_t, oX8 q_t_shelf q_t_rowSort q_t_rowSize q_t_rows q_t_moved q_t_shown q_t_tape v_t_tapeSize q_t_refused v_t_places q_t_ways v_t_people q_t_kind q_t_by q_t_home q_t_aim q_t_at0 v_t_hour v_t_chance v_t_seed w_t_kept w_t_tried v_t_at v_t_token v_t_from v_t_figures v_t_fault q_t_told v_t_statements q_t_steps q_t_spot q_t_then v_t_now v_t_gone q_t_sights q_t_darkAt q_t_can), (q_t_refused, .inl (cy 0, 8, .inl v_t_refused)), (q_t_ways, .inl (cy 0, 12, .inl v_t_ways)), (q_t_kind, .inl (cy 0, 8, .inl v_t_kind)), (q_t_home, .inl (cy 0, 8, .inl v_t_home)), (q_t_aim, .inl (cy 0, 8, .inl v_t_aim)), (q_t_at0, .inl (cy 0, 8, .inl v_t_at0)), (q_t_steps, .inl (cy 0, 12, .inl v_t_steps)), (q_t_spot, .inl (cy 0, 8, .inl v_t_spot)), (q_t_then, .inl (cy 0, 8, .inl v_t_then)), (q_t_sights, .inl (cy 3, 12, .inr (.inr (.inr (.inr (fun i => some (ad_t_sights i)))))))] ++ wFI cy 12 25 ad_t_sights v_t_sights) sz) := by
  refine Met.ofW (cc := cX8_next) (maxL := 7) (ret := (some .int)) (by decide) rfl ?_
  intro p e s m args below meth c s₁ B hml hv
  obtain ⟨rfl, hsz, hP, hK, hD0⟩ := hv
  have hx := B.exec
  have hb := B.bytes
  have hr := B.returns
  have hts := atoms_spec (ws := wsX8_next) B.pre
  have hown : s.vm.findClass RX8 = some m.cls := findClass_of_methodNamed B.named
  have hlocks := B.notSynchronized
  subst hsz
  have hD := hD0.self (sz := s.heap.size)
  generalize hAe : va_A ([(q_t, oX8 q_t_shelf q_t_rowSort q_t_rowSize q_t_rows q_t_moved q_t_shown q_t_tape v_t_tapeSize q_t_refused v_t_places q_t_ways v_t_people q_t_kind q_t_by q_t_home q_t_aim q_t_at0 v_t_hour v_t_chance v_t_seed w_t_kept w_t_tried v_t_at v_t_token v_t_from v_t_figures v_t_fault q_t_told v_t_statements q_t_steps q_t_spot q_t_then v_t_now v_t_gone q_t_sights q_t_darkAt q_t_can), (q_t_refused, .inl (cy 0, 8, .inl v_t_refused)), (q_t_ways, .inl (cy 0, 12, .inl v_t_ways)), (q_t_kind, .inl (cy 0, 8, .inl v_t_kind)), (q_t_home, .inl (cy 0, 8, .inl v_t_home)), (q_t_aim, .inl (cy 0, 8, .inl v_t_aim)), (q_t_at0, .inl (cy 0, 8, .inl v_t_at0)), (q_t_steps, .inl (cy 0, 12, .inl v_t_steps)), (q_t_spot, .inl (cy 0, 8, .inl v_t_spot)), (q_t_then, .inl (cy 0, 8, .inl v_t_then)), (q_t_sights, .inl (cy 3, 12, .inr (.inr (.inr (.inr (fun i => some (ad_t_sights i)))))))] ++ wFI cy 12 25 ad_t_sights v_t_sights) s.heap.size = A at hD ⊢
  have hA : ∀ q : Nat, s.heap.size ≤ q → A q := fun q h => by rw [← hAe]; exact Or.inr h
  have hS : va_S A s.heap s.heap [] := va_S.rf
  have hP : va_P D vwCl ([(q_t, oX8 q_t_shelf q_t_rowSort q_t_rowSize q_t_rows q_t_moved q_t_shown q_t_tape v_t_tapeSize q_t_refused v_t_places q_t_ways v_t_people q_t_kind q_t_by q_t_home q_t_aim q_t_at0 v_t_hour v_t_chance v_t_seed w_t_kept w_t_tried v_t_at v_t_token v_t_from v_t_figures v_t_fault q_t_told v_t_statements q_t_steps q_t_spot q_t_then v_t_now v_t_gone q_t_sights q_t_darkAt q_t_can), (q_t_refused, .inl (cy 0, 8, .inl v_t_refused)), (q_t_ways, .inl (cy 0, 12, .inl v_t_ways)), (q_t_kind, .inl (cy 0, 8, .inl v_t_kind)), (q_t_home, .inl (cy 0, 8, .inl v_t_home)), (q_t_aim, .inl (cy 0, 8, .inl v_t_aim)), (q_t_at0, .inl (cy 0, 8, .inl v_t_at0)), (q_t_steps, .inl (cy 0, 12, .inl v_t_steps)), (q_t_spot, .inl (cy 0, 8, .inl v_t_spot)), (q_t_then, .inl (cy 0, 8, .inl v_t_then)), (q_t_sights, .inl (cy 3, 12, .inr (.inr (.inr (.inr (fun i => some (ad_t_sights i)))))))] ++ wFI cy 12 25 ad_t_sights v_t_sights) s.heap := hP
  have hinX8 : ∀ w ∈ u_ws RX8 TX8 37, w ∈ wsX8_next := by decide +kernel
  have hk56 := hts (.fieldLink RX8 56 "ShowsWhereNobodyIsModel" "at0" "[I") (by decide +kernel)
  have hk37 := hts (.fieldLink RX8 37 "ShowsWhereNobodyIsModel" "places" "I") (by decide +kernel)
  have hk82 := hts (.fieldLink RX8 82 "ShowsWhereNobodyIsModel" "sights" "[[I") (by decide +kernel)
  have hl := lv_entry ([.ref q_t, .int p0]) (n := 7) (Nat.le_of_ble_eq_true rfl)
  rw [lg_entry_eq]
  generalize (lg_sl ([.ref q_t, .int p0]) ++ List.replicate (7 - (lg_sl ([.ref q_t, .int p0])).length) Slot.unset).toArray = ls at hl ⊢
  have hl : lv_has ls 7 [(0, .ref q_t), (1, .int p0)] := hl
  unfold fX8_next at hf
  refine lv_aload_n hx hb dX8_next_0 rfl (lv_at hl 0 rfl) ?_
  refine lv_iload_n hx hb dX8_next_1 rfl (lv_at hl 1 rfl) ?_
  obtain ⟨r1, hr2, hf⟩ := boE1 hf
  have hPc := hP.sub (ws' := [(q_t, oX8 q_t_shelf q_t_rowSort q_t_rowSize q_t_rows q_t_moved q_t_shown q_t_tape v_t_tapeSize q_t_refused v_t_places q_t_ways v_t_people q_t_kind q_t_by q_t_home q_t_aim q_t_at0 v_t_hour v_t_chance v_t_seed w_t_kept w_t_tried v_t_at v_t_token v_t_from v_t_figures v_t_fault q_t_told v_t_statements q_t_steps q_t_spot q_t_then v_t_now v_t_gone q_t_sights q_t_darkAt q_t_can)]) [0] rfl
  refine xcSi (va_runV (As := [.int p0]) (rest := []) ⟨hx, hb, hml, hown, hts⟩ (mX8_isPerson l D cy q_t q_t_shelf q_t_rowSort q_t_rowSize q_t_rows q_t_moved q_t_shown q_t_tape q_t_refused q_t_ways q_t_kind q_t_by q_t_home q_t_aim q_t_at0 q_t_told q_t_steps q_t_spot q_t_then q_t_sights q_t_darkAt q_t_can v_t_tapeSize v_t_places v_t_people v_t_hour v_t_chance v_t_seed w_t_kept w_t_tried v_t_at v_t_token v_t_from v_t_figures v_t_fault v_t_statements v_t_now v_t_gone  p0 hr2) (cwV 1 hts gX8_next_X8_isPerson rfl rfl rfl (by decide +kernel) ⟨Nat.le_of_ble_eq_true rfl, Nat.le_of_ble_eq_true rfl⟩) (xPV hK hPc (ci := 8) (q0 := 0) rfl rfl) rfl rfl hl.1 rfl (lv_room (Nat.le_of_ble_eq_true rfl)) dX8_next_2 ⟨Nat.le_of_ble_eq_true rfl, Nat.le_of_ble_eq_true rfl⟩) ?_
  refine lv_if_ne (tgt := 15) hx hb dX8_next_5 (by decide) (fun c56 => ?_) (fun c56 => ?_)
  · have hf := ifF hf c56
    clear c56
    refine lv_aload_n hx hb dX8_next_15 rfl (lv_at hl 0 rfl) ?_
    refine va_get (D := D) (ci := 8) (v := .ref q_t_at0) (C := RX8) (T := TX8) (N := 37) hx hb hts hinX8 hown hK.1 hP 0 rfl rfl 16 (by decide) hk56 (fun _ h9 => h9) rfl dX8_next_16 ?_
    refine lv_iload_n hx hb dX8_next_19 rfl (lv_at hl 1 rfl) ?_
    obtain ⟨hi3, hf⟩ := ckE hf
    refine va_iald hx hb hK.1 hP 6 0 rfl rfl hi3 dX8_next_20 ?_
    refine lv_topi (fun x4 ex4 => ?_)
    have hf := vlE hf ex4
    clear ex4
    refine lv_istore_n (lv' := [(2, .int x4), (0, .ref q_t), (1, .int p0)]) hx hb dX8_next_21 rfl hl (by decide) rfl (fun ls hl => ?_)
    refine lv_iconst (v := 0) hx hb dX8_next_22 (by decide) ?_
    refine lv_istore_n (lv' := [(3, .int (0 : Int32)), (2, .int x4), (0, .ref q_t), (1, .int p0)]) hx hb dX8_next_23 rfl hl (by decide) rfl (fun ls hl => ?_)
    refine wlw7 24 (fun _ _ _ _ _ _ _ => []) (fun (x5 : Int32) (u6 : Int32) (u7 : Nat → Int32) (u8 : Nat → Int32) (u9 : Nat → Int32) (u10 : Nat → Int32) (u11 : Nat → Nat → Int32) H locs ls => va_P D vwCl ([(q_t, oX8 q_t_shelf q_t_rowSort q_t_rowSize q_t_rows q_t_moved q_t_shown q_t_tape v_t_tapeSize q_t_refused v_t_places q_t_ways v_t_people q_t_kind q_t_by q_t_home q_t_aim q_t_at0 v_t_hour v_t_chance v_t_seed w_t_kept w_t_tried v_t_at v_t_token v_t_from v_t_figures v_t_fault q_t_told v_t_statements q_t_steps q_t_spot q_t_then u6 v_t_gone q_t_sights q_t_darkAt q_t_can), (q_t_refused, .inl (cy 0, 8, .inl v_t_refused)), (q_t_ways, .inl (cy 0, 12, .inl v_t_ways)), (q_t_kind, .inl (cy 0, 8, .inl v_t_kind)), (q_t_home, .inl (cy 0, 8, .inl v_t_home)), (q_t_aim, .inl (cy 0, 8, .inl v_t_aim)), (q_t_at0, .inl (cy 0, 8, .inl u7)), (q_t_steps, .inl (cy 0, 12, .inl u8)), (q_t_spot, .inl (cy 0, 8, .inl u9)), (q_t_then, .inl (cy 0, 8, .inl u10)), (q_t_sights, .inl (cy 3, 12, .inr (.inr (.inr (.inr (fun i => some (ad_t_sights i)))))))] ++ wFI cy 12 25 ad_t_sights u11) H ∧ va_D A ([(q_t, oX8 q_t_shelf q_t_rowSort q_t_rowSize q_t_rows q_t_moved q_t_shown q_t_tape v_t_tapeSize q_t_refused v_t_places q_t_ways v_t_people q_t_kind q_t_by q_t_home q_t_aim q_t_at0 v_t_hour v_t_chance v_t_seed w_t_kept w_t_tried v_t_at v_t_token v_t_from v_t_figures v_t_fault q_t_told v_t_statements q_t_steps q_t_spot q_t_then u6 v_t_gone q_t_sights q_t_darkAt q_t_can), (q_t_refused, .inl (cy 0, 8, .inl v_t_refused)), (q_t_ways, .inl (cy 0, 12, .inl v_t_ways)), (q_t_kind, .inl (cy 0, 8, .inl v_t_kind)), (q_t_home, .inl (cy 0, 8, .inl v_t_home)), (q_t_aim, .inl (cy 0, 8, .inl v_t_aim)), (q_t_at0, .inl (cy 0, 8, .inl u7)), (q_t_steps, .inl (cy 0, 12, .inl u8)), (q_t_spot, .inl (cy 0, 8, .inl u9)), (q_t_then, .inl (cy 0, 8, .inl u10)), (q_t_sights, .inl (cy 3, 12, .inr (.inr (.inr (.inr (fun i => some (ad_t_sights i)))))))] ++ wFI cy 12 25 ad_t_sights u11) ∧ va_S A s.heap H locs ∧ lv_has ls 7 [(3, .int x5), (2, .int x4), (0, .ref q_t), (1, .int p0)]) (fun g12 L24 x5 u6 u7 u8 u9 u10 u11 H locs ls hI hf => ?_) 400 (0 : Int32) v_t_now v_t_at0 v_t_steps v_t_spot v_t_then v_t_sights _ _ ls ⟨hP, hD, hS, lv_sub hl [0, 1, 2, 3] rfl⟩ hf
    obtain ⟨hP, hD, hS, hl⟩ := hI
    refine lv_iload_n hx hb dX8_next_24 rfl (lv_at hl 0 rfl) ?_
    refine lv_aload_n hx hb dX8_next_25 rfl (lv_at hl 2 rfl) ?_
    refine va_get (D := D) (ci := 8) (v := .int v_t_places) (C := RX8) (T := TX8) (N := 37) hx hb hts hinX8 hown hK.1 hP 0 rfl rfl 9 (by decide) hk37 (fun _ h9 => h9) rfl dX8_next_26 ?_
    refine lv_icmp_ge (tgt := 82) hx hb dX8_next_29 (by decide) (fun c52 => ?_) (fun c52 => ?_)
    · have hf := ifT hf c52
      clear c52
      refine lv_aload_n hx hb dX8_next_82 rfl (lv_at hl 2 rfl) ?_
      refine va_get (D := D) (ci := 8) (v := .ref q_t_at0) (C := RX8) (T := TX8) (N := 37) hx hb hts hinX8 hown hK.1 hP 0 rfl rfl 16 (by decide) hk56 (fun _ h9 => h9) rfl dX8_next_83 ?_
      refine lv_iload_n hx hb dX8_next_86 rfl (lv_at hl 3 rfl) ?_
      refine lv_iload_n hx hb dX8_next_87 rfl (lv_at hl 1 rfl) ?_
      obtain ⟨hi13, hf⟩ := ckE hf
      refine va_iast hx hb hK.1 hP hD hS 6 0 rfl rfl hi13 dX8_next_88 (fun H locs hP hD hS => ?_)
      have hP : va_P D vwCl ([(q_t, oX8 q_t_shelf q_t_rowSort q_t_rowSize q_t_rows q_t_moved q_t_shown q_t_tape v_t_tapeSize q_t_refused v_t_places q_t_ways v_t_people q_t_kind q_t_by q_t_home q_t_aim q_t_at0 v_t_hour v_t_chance v_t_seed w_t_kept w_t_tried v_t_at v_t_token v_t_from v_t_figures v_t_fault q_t_told v_t_statements q_t_steps q_t_spot q_t_then u6 v_t_gone q_t_sights q_t_darkAt q_t_can), (q_t_refused, .inl (cy 0, 8, .inl v_t_refused)), (q_t_ways, .inl (cy 0, 12, .inl v_t_ways)), (q_t_kind, .inl (cy 0, 8, .inl v_t_kind)), (q_t_home, .inl (cy 0, 8, .inl v_t_home)), (q_t_aim, .inl (cy 0, 8, .inl v_t_aim)), (q_t_at0, .inl (cy 0, 8, .inl (upd u7 p0.toNatClampNeg x4))), (q_t_steps, .inl (cy 0, 12, .inl u8)), (q_t_spot, .inl (cy 0, 8, .inl u9)), (q_t_then, .inl (cy 0, 8, .inl u10)), (q_t_sights, .inl (cy 3, 12, .inr (.inr (.inr (.inr (fun i => some (ad_t_sights i)))))))] ++ wFI cy 12 25 ad_t_sights u11) H := hP
      have hD : va_D A ([(q_t, oX8 q_t_shelf q_t_rowSort q_t_rowSize q_t_rows q_t_moved q_t_shown q_t_tape v_t_tapeSize q_t_refused v_t_places q_t_ways v_t_people q_t_kind q_t_by q_t_home q_t_aim q_t_at0 v_t_hour v_t_chance v_t_seed w_t_kept w_t_tried v_t_at v_t_token v_t_from v_t_figures v_t_fault q_t_told v_t_statements q_t_steps q_t_spot q_t_then u6 v_t_gone q_t_sights q_t_darkAt q_t_can), (q_t_refused, .inl (cy 0, 8, .inl v_t_refused)), (q_t_ways, .inl (cy 0, 12, .inl v_t_ways)), (q_t_kind, .inl (cy 0, 8, .inl v_t_kind)), (q_t_home, .inl (cy 0, 8, .inl v_t_home)), (q_t_aim, .inl (cy 0, 8, .inl v_t_aim)), (q_t_at0, .inl (cy 0, 8, .inl (upd u7 p0.toNatClampNeg x4))), (q_t_steps, .inl (cy 0, 12, .inl u8)), (q_t_spot, .inl (cy 0, 8, .inl u9)), (q_t_then, .inl (cy 0, 8, .inl u10)), (q_t_sights, .inl (cy 3, 12, .inr (.inr (.inr (.inr (fun i => some (ad_t_sights i)))))))] ++ wFI cy 12 25 ad_t_sights u11) := hD
      refine lv_iconst (v := (-1)) hx hb dX8_next_89 (by decide) ?_
      refine lv_istore_n (lv' := [(3, .int (-1 : Int32)), (2, .int x4), (0, .ref q_t), (1, .int p0)]) hx hb dX8_next_90 rfl hl (by decide) rfl (fun ls hl => ?_)
      refine lv_aload_n hx hb dX8_next_91 rfl (lv_at hl 2 rfl) ?_
      refine va_get (D := D) (ci := 8) (v := .int v_t_places) (C := RX8) (T := TX8) (N := 37) hx hb hts hinX8 hown hK.1 hP 0 rfl rfl 9 (by decide) hk37 (fun _ h9 => h9) rfl dX8_next_92 ?_
      refine lv_istore (lv' := [(4, .int v_t_places), (3, .int (-1 : Int32)), (2, .int x4), (0, .ref q_t), (1, .int p0)]) hx hb dX8_next_95 hl (by decide) rfl (fun ls hl => ?_)
      refine lv_iconst (v := 0) hx hb dX8_next_97 (by decide) ?_
      refine lv_istore (lv' := [(5, .int (0 : Int32)), (4, .int v_t_places), (3, .int (-1 : Int32)), (2, .int x4), (0, .ref q_t), (1, .int p0)]) hx hb dX8_next_98 hl (by decide) rfl (fun ls hl => ?_)
      refine wlw3 100 (fun _ _ _ => []) (fun (x14 : Int32) (x15 : Int32) (x16 : Int32) H locs ls => va_P D vwCl ([(q_t, oX8 q_t_shelf q_t_rowSort q_t_rowSize q_t_rows q_t_moved q_t_shown q_t_tape v_t_tapeSize q_t_refused v_t_places q_t_ways v_t_people q_t_kind q_t_by q_t_home q_t_aim q_t_at0 v_t_hour v_t_chance v_t_seed w_t_kept w_t_tried v_t_at v_t_token v_t_from v_t_figures v_t_fault q_t_told v_t_statements q_t_steps q_t_spot q_t_then u6 v_t_gone q_t_sights q_t_darkAt q_t_can), (q_t_refused, .inl (cy 0, 8, .inl v_t_refused)), (q_t_ways, .inl (cy 0, 12, .inl v_t_ways)), (q_t_kind, .inl (cy 0, 8, .inl v_t_kind)), (q_t_home, .inl (cy 0, 8, .inl v_t_home)), (q_t_aim, .inl (cy 0, 8, .inl v_t_aim)), (q_t_at0, .inl (cy 0, 8, .inl (upd u7 p0.toNatClampNeg x4))), (q_t_steps, .inl (cy 0, 12, .inl u8)), (q_t_spot, .inl (cy 0, 8, .inl u9)), (q_t_then, .inl (cy 0, 8, .inl u10)), (q_t_sights, .inl (cy 3, 12, .inr (.inr (.inr (.inr (fun i => some (ad_t_sights i)))))))] ++ wFI cy 12 25 ad_t_sights u11) H ∧ va_D A ([(q_t, oX8 q_t_shelf q_t_rowSort q_t_rowSize q_t_rows q_t_moved q_t_shown q_t_tape v_t_tapeSize q_t_refused v_t_places q_t_ways v_t_people q_t_kind q_t_by q_t_home q_t_aim q_t_at0 v_t_hour v_t_chance v_t_seed w_t_kept w_t_tried v_t_at v_t_token v_t_from v_t_figures v_t_fault q_t_told v_t_statements q_t_steps q_t_spot q_t_then u6 v_t_gone q_t_sights q_t_darkAt q_t_can), (q_t_refused, .inl (cy 0, 8, .inl v_t_refused)), (q_t_ways, .inl (cy 0, 12, .inl v_t_ways)), (q_t_kind, .inl (cy 0, 8, .inl v_t_kind)), (q_t_home, .inl (cy 0, 8, .inl v_t_home)), (q_t_aim, .inl (cy 0, 8, .inl v_t_aim)), (q_t_at0, .inl (cy 0, 8, .inl (upd u7 p0.toNatClampNeg x4))), (q_t_steps, .inl (cy 0, 12, .inl u8)), (q_t_spot, .inl (cy 0, 8, .inl u9)), (q_t_then, .inl (cy 0, 8, .inl u10)), (q_t_sights, .inl (cy 3, 12, .inr (.inr (.inr (.inr (fun i => some (ad_t_sights i)))))))] ++ wFI cy 12 25 ad_t_sights u11) ∧ va_S A s.heap H locs ∧ lv_has ls 7 [(3, .int x14), (4, .int x15), (5, .int x16), (0, .ref q_t)]) (fun g17 L100 x14 x15 x16 H locs ls hI hf => ?_) 400 (-1 : Int32) v_t_places (0 : Int32) _ _ ls ⟨hP, hD, hS, lv_sub hl [2, 1, 0, 4] rfl⟩ hf
      obtain ⟨hP, hD, hS, hl⟩ := hI
      refine lv_iload hx hb dX8_next_100 (lv_at hl 2 rfl) ?_
      refine lv_bipush (v := 24) hx hb dX8_next_102 (by decide) ?_
      refine lv_icmp_gt (tgt := 151) hx hb dX8_next_104 (by decide) (fun c27 => ?_) (fun c27 => ?_)
      · have hf := ifT hf c27
        clear c27
        refine lv_iload_n hx hb dX8_next_151 rfl (lv_at hl 0 rfl) ?_
        cases hf
        exact W.iret hx hb hr (fun t ht hW => ⟨⟨_, (), rfl, rfl, xend ht hP⟩, hS.F ht⟩) hS.2.2 dX8_next_152
      · have hf := ifF hf c27
        clear c27
        refine lv_aload_n hx hb dX8_next_107 rfl (lv_at hl 3 rfl) ?_
        refine lv_iload hx hb dX8_next_108 (lv_at hl 2 rfl) ?_
        obtain ⟨r18, hr19, hf⟩ := boE1 hf
        have hPc : va_P D vwCl ([(q_t, oX8 q_t_shelf q_t_rowSort q_t_rowSize q_t_rows q_t_moved q_t_shown q_t_tape v_t_tapeSize q_t_refused v_t_places q_t_ways v_t_people q_t_kind q_t_by q_t_home q_t_aim q_t_at0 v_t_hour v_t_chance v_t_seed w_t_kept w_t_tried v_t_at v_t_token v_t_from v_t_figures v_t_fault q_t_told v_t_statements q_t_steps q_t_spot q_t_then u6 v_t_gone q_t_sights q_t_darkAt q_t_can), (q_t_sights, .inl (cy 3, 12, .inr (.inr (.inr (.inr (fun i => some (ad_t_sights i)))))))] ++ wFI cy 12 25 ad_t_sights u11) _ := hP.part [0, 10] rfl
        refine xcSi (va_runV (As := [.int x16]) (rest := []) ⟨hx, hb, hml, hown, hts⟩ (mX8_worstAt l D cy q_t q_t_shelf q_t_rowSort q_t_rowSize q_t_rows q_t_moved q_t_shown q_t_tape q_t_refused q_t_ways q_t_kind q_t_by q_t_home q_t_aim q_t_at0 q_t_told q_t_steps q_t_spot q_t_then q_t_sights q_t_darkAt q_t_can ad_t_sights v_t_tapeSize v_t_places v_t_people v_t_hour v_t_chance v_t_seed w_t_kept w_t_tried v_t_at v_t_token v_t_from v_t_figures v_t_fault v_t_statements u6 v_t_gone u11  x16 hr19) (cwV 1 hts gX8_next_X8_worstAt rfl rfl rfl (by decide +kernel) ⟨Nat.le_of_ble_eq_true rfl, Nat.le_of_ble_eq_true rfl⟩) (xPV hK hPc (ci := 8) (q0 := 0) rfl rfl) rfl rfl hl.1 rfl (lv_room (Nat.le_of_ble_eq_true rfl)) dX8_next_110 ⟨Nat.le_of_ble_eq_true rfl, Nat.le_of_ble_eq_true rfl⟩) ?_
        refine lv_istore (lv' := [(6, .int r18), (3, .int x14), (4, .int x15), (5, .int x16), (0, .ref q_t)]) hx hb dX8_next_113 hl (by decide) rfl (fun ls hl => ?_)
        refine lv_iload hx hb dX8_next_115 (lv_at hl 0 rfl) ?_
        refine lv_iload hx hb dX8_next_117 (lv_at hl 2 rfl) ?_
        refine jww1 128 (fun (y20 : Int32) => [.int y20]) (fun (y20 : Int32) H locs ls => va_P D vwCl ([(q_t, oX8 q_t_shelf q_t_rowSort q_t_rowSize q_t_rows q_t_moved q_t_shown q_t_tape v_t_tapeSize q_t_refused v_t_places q_t_ways v_t_people q_t_kind q_t_by q_t_home q_t_aim q_t_at0 v_t_hour v_t_chance v_t_seed w_t_kept w_t_tried v_t_at v_t_token v_t_from v_t_figures v_t_fault q_t_told v_t_statements q_t_steps q_t_spot q_t_then u6 v_t_gone q_t_sights q_t_darkAt q_t_can), (q_t_refused, .inl (cy 0, 8, .inl v_t_refused)), (q_t_ways, .inl (cy 0, 12, .inl v_t_ways)), (q_t_kind, .inl (cy 0, 8, .inl v_t_kind)), (q_t_home, .inl (cy 0, 8, .inl v_t_home)), (q_t_aim, .inl (cy 0, 8, .inl v_t_aim)), (q_t_at0, .inl (cy 0, 8, .inl (upd u7 p0.toNatClampNeg x4))), (q_t_steps, .inl (cy 0, 12, .inl u8)), (q_t_spot, .inl (cy 0, 8, .inl u9)), (q_t_then, .inl (cy 0, 8, .inl u10)), (q_t_sights, .inl (cy 3, 12, .inr (.inr (.inr (.inr (fun i => some (ad_t_sights i)))))))] ++ wFI cy 12 25 ad_t_sights u11) H ∧ va_D A ([(q_t, oX8 q_t_shelf q_t_rowSort q_t_rowSize q_t_rows q_t_moved q_t_shown q_t_tape v_t_tapeSize q_t_refused v_t_places q_t_ways v_t_people q_t_kind q_t_by q_t_home q_t_aim q_t_at0 v_t_hour v_t_chance v_t_seed w_t_kept w_t_tried v_t_at v_t_token v_t_from v_t_figures v_t_fault q_t_told v_t_statements q_t_steps q_t_spot q_t_then u6 v_t_gone q_t_sights q_t_darkAt q_t_can), (q_t_refused, .inl (cy 0, 8, .inl v_t_refused)), (q_t_ways, .inl (cy 0, 12, .inl v_t_ways)), (q_t_kind, .inl (cy 0, 8, .inl v_t_kind)), (q_t_home, .inl (cy 0, 8, .inl v_t_home)), (q_t_aim, .inl (cy 0, 8, .inl v_t_aim)), (q_t_at0, .inl (cy 0, 8, .inl (upd u7 p0.toNatClampNeg x4))), (q_t_steps, .inl (cy 0, 12, .inl u8)), (q_t_spot, .inl (cy 0, 8, .inl u9)), (q_t_then, .inl (cy 0, 8, .inl u10)), (q_t_sights, .inl (cy 3, 12, .inr (.inr (.inr (.inr (fun i => some (ad_t_sights i)))))))] ++ wFI cy 12 25 ad_t_sights u11) ∧ va_S A s.heap H locs ∧ lv_has ls 7 [(0, .ref q_t), (4, .int x15), (5, .int x16), (6, .int r18)]) hf (fun y20 H locs ls hI hf => ?_) (fun k21 J128 hf => ?_)
        · obtain ⟨hP, hD, hS, hl⟩ := hI
          refine lv_istore_n (lv' := [(3, .int y20), (0, .ref q_t), (4, .int x15), (5, .int x16), (6, .int r18)]) hx hb dX8_next_128 rfl hl (by decide) rfl (fun ls hl => ?_)
          refine lv_iload hx hb dX8_next_129 (lv_at hl 4 rfl) ?_
          refine lv_iload hx hb dX8_next_131 (lv_at hl 2 rfl) ?_
          refine jww1 143 (fun (y22 : Int32) => [.int y22]) (fun (y22 : Int32) H locs ls => va_P D vwCl ([(q_t, oX8 q_t_shelf q_t_rowSort q_t_rowSize q_t_rows q_t_moved q_t_shown q_t_tape v_t_tapeSize q_t_refused v_t_places q_t_ways v_t_people q_t_kind q_t_by q_t_home q_t_aim q_t_at0 v_t_hour v_t_chance v_t_seed w_t_kept w_t_tried v_t_at v_t_token v_t_from v_t_figures v_t_fault q_t_told v_t_statements q_t_steps q_t_spot q_t_then u6 v_t_gone q_t_sights q_t_darkAt q_t_can), (q_t_refused, .inl (cy 0, 8, .inl v_t_refused)), (q_t_ways, .inl (cy 0, 12, .inl v_t_ways)), (q_t_kind, .inl (cy 0, 8, .inl v_t_kind)), (q_t_home, .inl (cy 0, 8, .inl v_t_home)), (q_t_aim, .inl (cy 0, 8, .inl v_t_aim)), (q_t_at0, .inl (cy 0, 8, .inl (upd u7 p0.toNatClampNeg x4))), (q_t_steps, .inl (cy 0, 12, .inl u8)), (q_t_spot, .inl (cy 0, 8, .inl u9)), (q_t_then, .inl (cy 0, 8, .inl u10)), (q_t_sights, .inl (cy 3, 12, .inr (.inr (.inr (.inr (fun i => some (ad_t_sights i)))))))] ++ wFI cy 12 25 ad_t_sights u11) H ∧ va_D A ([(q_t, oX8 q_t_shelf q_t_rowSort q_t_rowSize q_t_rows q_t_moved q_t_shown q_t_tape v_t_tapeSize q_t_refused v_t_places q_t_ways v_t_people q_t_kind q_t_by q_t_home q_t_aim q_t_at0 v_t_hour v_t_chance v_t_seed w_t_kept w_t_tried v_t_at v_t_token v_t_from v_t_figures v_t_fault q_t_told v_t_statements q_t_steps q_t_spot q_t_then u6 v_t_gone q_t_sights q_t_darkAt q_t_can), (q_t_refused, .inl (cy 0, 8, .inl v_t_refused)), (q_t_ways, .inl (cy 0, 12, .inl v_t_ways)), (q_t_kind, .inl (cy 0, 8, .inl v_t_kind)), (q_t_home, .inl (cy 0, 8, .inl v_t_home)), (q_t_aim, .inl (cy 0, 8, .inl v_t_aim)), (q_t_at0, .inl (cy 0, 8, .inl (upd u7 p0.toNatClampNeg x4))), (q_t_steps, .inl (cy 0, 12, .inl u8)), (q_t_spot, .inl (cy 0, 8, .inl u9)), (q_t_then, .inl (cy 0, 8, .inl u10)), (q_t_sights, .inl (cy 3, 12, .inr (.inr (.inr (.inr (fun i => some (ad_t_sights i)))))))] ++ wFI cy 12 25 ad_t_sights u11) ∧ va_S A s.heap H locs ∧ lv_has ls 7 [(0, .ref q_t), (3, .int y20), (5, .int x16)]) hf (fun y22 H locs ls hI hf => ?_) (fun k23 J143 hf => ?_)
          · obtain ⟨hP, hD, hS, hl⟩ := hI
            refine lv_istore (lv' := [(4, .int y22), (0, .ref q_t), (3, .int y20), (5, .int x16)]) hx hb dX8_next_143 hl (by decide) rfl (fun ls hl => ?_)
            obtain ⟨x24, ex24⟩ : ∃ y : Int32, y = x16 + (1 : Int32) := ⟨_, rfl⟩
            have hf := vlE hf ex24
            refine lv_iinc (v := x24) (lv' := [(5, .int x24), (4, .int y22), (0, .ref q_t), (3, .int y20)]) hx hb dX8_next_145 hl (k := 3) rfl (by rw [ex24]; rfl) (by decide) rfl (fun ls hl => ?_)
            clear ex24
            refine lv_goto (tgt := 100) hx hb dX8_next_148 (by decide) ?_
            exact L100 y20 y22 x24 _ _ ls ⟨hP, hD, hS, lv_sub hl [3, 1, 0, 2] rfl⟩ hf
          · refine lv_icmp_ge (tgt := 141) hx hb dX8_next_133 (by decide) (fun c25 => ?_) (fun c25 => ?_)
            · have hf := ifT hf c25
              clear c25
              refine lv_iload hx hb dX8_next_141 (lv_at hl 2 rfl) ?_
              exact J143 x15 _ _ ls ⟨hP, hD, hS, lv_sub hl [1, 0, 3] rfl⟩ hf
            · have hf := ifF hf c25
              clear c25
              refine lv_iload hx hb dX8_next_136 (lv_at hl 4 rfl) ?_
              refine lv_goto (tgt := 143) hx hb dX8_next_138 (by decide) ?_
              exact J143 r18 _ _ ls ⟨hP, hD, hS, lv_sub hl [1, 0, 3] rfl⟩ hf
        · refine lv_icmp_ge (tgt := 127) hx hb dX8_next_119 (by decide) (fun c26 => ?_) (fun c26 => ?_)
          · have hf := ifT hf c26
            clear c26
            refine lv_iload_n hx hb dX8_next_127 rfl (lv_at hl 1 rfl) ?_
            exact J128 x14 _ _ ls ⟨hP, hD, hS, lv_sub hl [4, 2, 3, 0] rfl⟩ hf
          · have hf := ifF hf c26
            clear c26
            refine lv_iload hx hb dX8_next_122 (lv_at hl 3 rfl) ?_
            refine lv_goto (tgt := 128) hx hb dX8_next_124 (by decide) ?_
            exact J128 x16 _ _ ls ⟨hP, hD, hS, lv_sub hl [4, 2, 3, 0] rfl⟩ hf
    · have hf := ifF hf c52
      clear c52
      refine lv_aload_n hx hb dX8_next_32 rfl (lv_at hl 2 rfl) ?_
      refine va_get (D := D) (ci := 8) (v := .ref q_t_at0) (C := RX8) (T := TX8) (N := 37) hx hb hts hinX8 hown hK.1 hP 0 rfl rfl 16 (by decide) hk56 (fun _ h9 => h9) rfl dX8_next_33 ?_
      refine lv_iload_n hx hb dX8_next_36 rfl (lv_at hl 3 rfl) ?_
      refine lv_iload_n hx hb dX8_next_37 rfl (lv_at hl 0 rfl) ?_
      obtain ⟨hi28, hf⟩ := ckE hf
      refine va_iast hx hb hK.1 hP hD hS 6 0 rfl rfl hi28 dX8_next_38 (fun H locs hP hD hS => ?_)
      have hP : va_P D vwCl ([(q_t, oX8 q_t_shelf q_t_rowSort q_t_rowSize q_t_rows q_t_moved q_t_shown q_t_tape v_t_tapeSize q_t_refused v_t_places q_t_ways v_t_people q_t_kind q_t_by q_t_home q_t_aim q_t_at0 v_t_hour v_t_chance v_t_seed w_t_kept w_t_tried v_t_at v_t_token v_t_from v_t_figures v_t_fault q_t_told v_t_statements q_t_steps q_t_spot q_t_then u6 v_t_gone q_t_sights q_t_darkAt q_t_can), (q_t_refused, .inl (cy 0, 8, .inl v_t_refused)), (q_t_ways, .inl (cy 0, 12, .inl v_t_ways)), (q_t_kind, .inl (cy 0, 8, .inl v_t_kind)), (q_t_home, .inl (cy 0, 8, .inl v_t_home)), (q_t_aim, .inl (cy 0, 8, .inl v_t_aim)), (q_t_at0, .inl (cy 0, 8, .inl (upd u7 p0.toNatClampNeg x5))), (q_t_steps, .inl (cy 0, 12, .inl u8)), (q_t_spot, .inl (cy 0, 8, .inl u9)), (q_t_then, .inl (cy 0, 8, .inl u10)), (q_t_sights, .inl (cy 3, 12, .inr (.inr (.inr (.inr (fun i => some (ad_t_sights i)))))))] ++ wFI cy 12 25 ad_t_sights u11) H := hP
      have hD : va_D A ([(q_t, oX8 q_t_shelf q_t_rowSort q_t_rowSize q_t_rows q_t_moved q_t_shown q_t_tape v_t_tapeSize q_t_refused v_t_places q_t_ways v_t_people q_t_kind q_t_by q_t_home q_t_aim q_t_at0 v_t_hour v_t_chance v_t_seed w_t_kept w_t_tried v_t_at v_t_token v_t_from v_t_figures v_t_fault q_t_told v_t_statements q_t_steps q_t_spot q_t_then u6 v_t_gone q_t_sights q_t_darkAt q_t_can), (q_t_refused, .inl (cy 0, 8, .inl v_t_refused)), (q_t_ways, .inl (cy 0, 12, .inl v_t_ways)), (q_t_kind, .inl (cy 0, 8, .inl v_t_kind)), (q_t_home, .inl (cy 0, 8, .inl v_t_home)), (q_t_aim, .inl (cy 0, 8, .inl v_t_aim)), (q_t_at0, .inl (cy 0, 8, .inl (upd u7 p0.toNatClampNeg x5))), (q_t_steps, .inl (cy 0, 12, .inl u8)), (q_t_spot, .inl (cy 0, 8, .inl u9)), (q_t_then, .inl (cy 0, 8, .inl u10)), (q_t_sights, .inl (cy 3, 12, .inr (.inr (.inr (.inr (fun i => some (ad_t_sights i)))))))] ++ wFI cy 12 25 ad_t_sights u11) := hD
      refine lv_aload_n hx hb dX8_next_39 rfl (lv_at hl 2 rfl) ?_
      obtain ⟨u29, u30, hr31, hf⟩ := boE2 hf
      have hPc := hP.sub (ws' := [(q_t, oX8 q_t_shelf q_t_rowSort q_t_rowSize q_t_rows q_t_moved q_t_shown q_t_tape v_t_tapeSize q_t_refused v_t_places q_t_ways v_t_people q_t_kind q_t_by q_t_home q_t_aim q_t_at0 v_t_hour v_t_chance v_t_seed w_t_kept w_t_tried v_t_at v_t_token v_t_from v_t_figures v_t_fault q_t_told v_t_statements q_t_steps q_t_spot q_t_then u6 v_t_gone q_t_sights q_t_darkAt q_t_can), (q_t_at0, .inl (cy 0, 8, .inl (upd u7 p0.toNatClampNeg x5))), (q_t_spot, .inl (cy 0, 8, .inl u9))]) [0, 6, 8] rfl
      have hDc := hD.sub (ws' := [(q_t, oX8 q_t_shelf q_t_rowSort q_t_rowSize q_t_rows q_t_moved q_t_shown q_t_tape v_t_tapeSize q_t_refused v_t_places q_t_ways v_t_people q_t_kind q_t_by q_t_home q_t_aim q_t_at0 v_t_hour v_t_chance v_t_seed w_t_kept w_t_tried v_t_at v_t_token v_t_from v_t_figures v_t_fault q_t_told v_t_statements q_t_steps q_t_spot q_t_then u6 v_t_gone q_t_sights q_t_darkAt q_t_can), (q_t_at0, .inl (cy 0, 8, .inl (upd u7 p0.toNatClampNeg x5))), (q_t_spot, .inl (cy 0, 8, .inl u9))]) [0, 6, 8] (by decide) rfl
      refine xcQvQ (w1 := [(q_t, oX8 q_t_shelf q_t_rowSort q_t_rowSize q_t_rows q_t_moved q_t_shown q_t_tape v_t_tapeSize q_t_refused v_t_places q_t_ways v_t_people q_t_kind q_t_by q_t_home q_t_aim q_t_at0 v_t_hour v_t_chance v_t_seed w_t_kept w_t_tried v_t_at v_t_token v_t_from v_t_figures v_t_fault q_t_told v_t_statements q_t_steps q_t_spot q_t_then u29 v_t_gone q_t_sights q_t_darkAt q_t_can), (q_t_at0, .inl (cy 0, 8, .inl (upd u7 p0.toNatClampNeg x5))), (q_t_spot, .inl (cy 0, 8, .inl u30))]) (va_runV (As := []) (rest := []) ⟨hx, hb, hml, hown, hts⟩ (mX8_begin l D cy q_t q_t_shelf q_t_rowSort q_t_rowSize q_t_rows q_t_moved q_t_shown q_t_tape q_t_refused q_t_ways q_t_kind q_t_by q_t_home q_t_aim q_t_at0 q_t_told q_t_steps q_t_spot q_t_then q_t_sights q_t_darkAt q_t_can v_t_tapeSize v_t_places v_t_people v_t_hour v_t_chance v_t_seed w_t_kept w_t_tried v_t_at v_t_token v_t_from v_t_figures v_t_fault v_t_statements u6 v_t_gone (upd u7 p0.toNatClampNeg x5) u9 _  hr31) (cwV 0 hts gX8_next_X8_begin rfl rfl rfl (by decide +kernel) ⟨Nat.le_of_ble_eq_true rfl, Nat.le_of_ble_eq_true rfl⟩) (xPVw hK hPc hDc (ci := 8) (q0 := 0) rfl rfl) rfl rfl hl.1 rfl (lv_room (Nat.le_of_ble_eq_true rfl)) dX8_next_40 ⟨Nat.le_of_ble_eq_true rfl, Nat.le_of_ble_eq_true rfl⟩) hP hD hS hA [0, 6, 8] rfl rfl (fun H locs hP hD hS => ?_)
      have hP : va_P D vwCl ([(q_t, oX8 q_t_shelf q_t_rowSort q_t_rowSize q_t_rows q_t_moved q_t_shown q_t_tape v_t_tapeSize q_t_refused v_t_places q_t_ways v_t_people q_t_kind q_t_by q_t_home q_t_aim q_t_at0 v_t_hour v_t_chance v_t_seed w_t_kept w_t_tried v_t_at v_t_token v_t_from v_t_figures v_t_fault q_t_told v_t_statements q_t_steps q_t_spot q_t_then u29 v_t_gone q_t_sights q_t_darkAt q_t_can), (q_t_refused, .inl (cy 0, 8, .inl v_t_refused)), (q_t_ways, .inl (cy 0, 12, .inl v_t_ways)), (q_t_kind, .inl (cy 0, 8, .inl v_t_kind)), (q_t_home, .inl (cy 0, 8, .inl v_t_home)), (q_t_aim, .inl (cy 0, 8, .inl v_t_aim)), (q_t_at0, .inl (cy 0, 8, .inl (upd u7 p0.toNatClampNeg x5))), (q_t_steps, .inl (cy 0, 12, .inl u8)), (q_t_spot, .inl (cy 0, 8, .inl u30)), (q_t_then, .inl (cy 0, 8, .inl u10)), (q_t_sights, .inl (cy 3, 12, .inr (.inr (.inr (.inr (fun i => some (ad_t_sights i)))))))] ++ wFI cy 12 25 ad_t_sights u11) H := hP
      have hD : va_D A ([(q_t, oX8 q_t_shelf q_t_rowSort q_t_rowSize q_t_rows q_t_moved q_t_shown q_t_tape v_t_tapeSize q_t_refused v_t_places q_t_ways v_t_people q_t_kind q_t_by q_t_home q_t_aim q_t_at0 v_t_hour v_t_chance v_t_seed w_t_kept w_t_tried v_t_at v_t_token v_t_from v_t_figures v_t_fault q_t_told v_t_statements q_t_steps q_t_spot q_t_then u29 v_t_gone q_t_sights q_t_darkAt q_t_can), (q_t_refused, .inl (cy 0, 8, .inl v_t_refused)), (q_t_ways, .inl (cy 0, 12, .inl v_t_ways)), (q_t_kind, .inl (cy 0, 8, .inl v_t_kind)), (q_t_home, .inl (cy 0, 8, .inl v_t_home)), (q_t_aim, .inl (cy 0, 8, .inl v_t_aim)), (q_t_at0, .inl (cy 0, 8, .inl (upd u7 p0.toNatClampNeg x5))), (q_t_steps, .inl (cy 0, 12, .inl u8)), (q_t_spot, .inl (cy 0, 8, .inl u30)), (q_t_then, .inl (cy 0, 8, .inl u10)), (q_t_sights, .inl (cy 3, 12, .inr (.inr (.inr (.inr (fun i => some (ad_t_sights i)))))))] ++ wFI cy 12 25 ad_t_sights u11) := hD
      refine lv_iconst (v := 0) hx hb dX8_next_43 (by decide) ?_
      refine lv_istore (lv' := [(4, .int (0 : Int32)), (3, .int x5), (2, .int x4), (0, .ref q_t), (1, .int p0)]) hx hb dX8_next_44 hl (by decide) rfl (fun ls hl => ?_)
      refine wlw6 46 (fun _ _ _ _ _ _ => []) (fun (x32 : Int32) (u33 : Int32) (u34 : Nat → Int32) (u35 : Nat → Int32) (u36 : Nat → Int32) (u37 : Nat → Nat → Int32) H locs ls => va_P D vwCl ([(q_t, oX8 q_t_shelf q_t_rowSort q_t_rowSize q_t_rows q_t_moved q_t_shown q_t_tape v_t_tapeSize q_t_refused v_t_places q_t_ways v_t_people q_t_kind q_t_by q_t_home q_t_aim q_t_at0 v_t_hour v_t_chance v_t_seed w_t_kept w_t_tried v_t_at v_t_token v_t_from v_t_figures v_t_fault q_t_told v_t_statements q_t_steps q_t_spot q_t_then u33 v_t_gone q_t_sights q_t_darkAt q_t_can), (q_t_refused, .inl (cy 0, 8, .inl v_t_refused)), (q_t_ways, .inl (cy 0, 12, .inl v_t_ways)), (q_t_kind, .inl (cy 0, 8, .inl v_t_kind)), (q_t_home, .inl (cy 0, 8, .inl v_t_home)), (q_t_aim, .inl (cy 0, 8, .inl v_t_aim)), (q_t_at0, .inl (cy 0, 8, .inl (upd u7 p0.toNatClampNeg x5))), (q_t_steps, .inl (cy 0, 12, .inl u34)), (q_t_spot, .inl (cy 0, 8, .inl u35)), (q_t_then, .inl (cy 0, 8, .inl u36)), (q_t_sights, .inl (cy 3, 12, .inr (.inr (.inr (.inr (fun i => some (ad_t_sights i)))))))] ++ wFI cy 12 25 ad_t_sights u37) H ∧ va_D A ([(q_t, oX8 q_t_shelf q_t_rowSort q_t_rowSize q_t_rows q_t_moved q_t_shown q_t_tape v_t_tapeSize q_t_refused v_t_places q_t_ways v_t_people q_t_kind q_t_by q_t_home q_t_aim q_t_at0 v_t_hour v_t_chance v_t_seed w_t_kept w_t_tried v_t_at v_t_token v_t_from v_t_figures v_t_fault q_t_told v_t_statements q_t_steps q_t_spot q_t_then u33 v_t_gone q_t_sights q_t_darkAt q_t_can), (q_t_refused, .inl (cy 0, 8, .inl v_t_refused)), (q_t_ways, .inl (cy 0, 12, .inl v_t_ways)), (q_t_kind, .inl (cy 0, 8, .inl v_t_kind)), (q_t_home, .inl (cy 0, 8, .inl v_t_home)), (q_t_aim, .inl (cy 0, 8, .inl v_t_aim)), (q_t_at0, .inl (cy 0, 8, .inl (upd u7 p0.toNatClampNeg x5))), (q_t_steps, .inl (cy 0, 12, .inl u34)), (q_t_spot, .inl (cy 0, 8, .inl u35)), (q_t_then, .inl (cy 0, 8, .inl u36)), (q_t_sights, .inl (cy 3, 12, .inr (.inr (.inr (.inr (fun i => some (ad_t_sights i)))))))] ++ wFI cy 12 25 ad_t_sights u37) ∧ va_S A s.heap H locs ∧ lv_has ls 7 [(4, .int x32), (3, .int x5), (2, .int x4), (0, .ref q_t), (1, .int p0)]) (fun g38 L46 x32 u33 u34 u35 u36 u37 H locs ls hI hf => ?_) 400 (0 : Int32) u29 u8 u30 u10 u11 _ _ ls ⟨hP, hD, hS, lv_sub hl [0, 1, 2, 3, 4] rfl⟩ hf
      obtain ⟨hP, hD, hS, hl⟩ := hI
      refine lv_iload hx hb dX8_next_46 (lv_at hl 0 rfl) ?_
      refine lv_bipush (v := 24) hx hb dX8_next_48 (by decide) ?_
      refine lv_icmp_gt (tgt := 76) hx hb dX8_next_50 (by decide) (fun c51 => ?_) (fun c51 => ?_)
      · have hf := ifT hf c51
        clear c51
        obtain ⟨x39, ex39⟩ : ∃ y : Int32, y = x5 + (1 : Int32) := ⟨_, rfl⟩
        have hf := vlE hf ex39
        refine lv_iinc (v := x39) (lv' := [(3, .int x39), (4, .int x32), (2, .int x4), (0, .ref q_t), (1, .int p0)]) hx hb dX8_next_76 hl (k := 1) rfl (by rw [ex39]; rfl) (by decide) rfl (fun ls hl => ?_)
        clear ex39
        refine lv_goto (tgt := 24) hx hb dX8_next_79 (by decide) ?_
        exact L24 x39 u33 (upd u7 p0.toNatClampNeg x5) u34 u35 u36 u37 _ _ ls ⟨hP, hD, hS, lv_sub hl [0, 2, 3, 4] rfl⟩ hf
      · have hf := ifF hf c51
        clear c51
        refine lv_aload_n hx hb dX8_next_53 rfl (lv_at hl 3 rfl) ?_
        refine va_get (D := D) (ci := 8) (v := .ref q_t_sights) (C := RX8) (T := TX8) (N := 37) hx hb hts hinX8 hown hK.1 hP 0 rfl rfl 34 (by decide) hk82 (fun _ h9 => h9) rfl dX8_next_54 ?_
        refine lv_iload_n hx hb dX8_next_57 rfl (lv_at hl 1 rfl) ?_
        obtain ⟨hi40, hf⟩ := ckE hf
        have hj41 : x5.toNatClampNeg < 12 := xlt hi40
        refine va_alda hx hb hK.1 hP 10 3 rfl rfl hi40 dX8_next_58 ?_
        refine W.eq (g2 := F0 m 59 ls [.ref (ad_t_sights x5.toNatClampNeg)]) rfl ?_
        refine lv_iload hx hb dX8_next_59 (lv_at hl 0 rfl) ?_
        refine lv_aload_n hx hb dX8_next_61 rfl (lv_at hl 3 rfl) ?_
        obtain ⟨r42, hr43, hf⟩ := boE1 hf
        have hPc := hP.sub (ws' := [(q_t, oX8 q_t_shelf q_t_rowSort q_t_rowSize q_t_rows q_t_moved q_t_shown q_t_tape v_t_tapeSize q_t_refused v_t_places q_t_ways v_t_people q_t_kind q_t_by q_t_home q_t_aim q_t_at0 v_t_hour v_t_chance v_t_seed w_t_kept w_t_tried v_t_at v_t_token v_t_from v_t_figures v_t_fault q_t_told v_t_statements q_t_steps q_t_spot q_t_then u33 v_t_gone q_t_sights q_t_darkAt q_t_can), (q_t_kind, .inl (cy 0, 8, .inl v_t_kind)), (q_t_spot, .inl (cy 0, 8, .inl u35))]) [0, 3, 8] rfl
        refine xcSi (va_runV (As := []) (rest := [.int x32, .ref (ad_t_sights x5.toNatClampNeg)]) ⟨hx, hb, hml, hown, hts⟩ (mX8_light l D cy q_t q_t_shelf q_t_rowSort q_t_rowSize q_t_rows q_t_moved q_t_shown q_t_tape q_t_refused q_t_ways q_t_kind q_t_by q_t_home q_t_aim q_t_at0 q_t_told q_t_steps q_t_spot q_t_then q_t_sights q_t_darkAt q_t_can v_t_tapeSize v_t_places v_t_people v_t_hour v_t_chance v_t_seed w_t_kept w_t_tried v_t_at v_t_token v_t_from v_t_figures v_t_fault v_t_statements u33 v_t_gone v_t_kind u35   hr43) (cwV 0 hts gX8_next_X8_light rfl rfl rfl (by decide +kernel) ⟨Nat.le_of_ble_eq_true rfl, Nat.le_of_ble_eq_true rfl⟩) (xPV hK hPc (ci := 8) (q0 := 0) rfl rfl) rfl rfl hl.1 rfl (lv_room (Nat.le_of_ble_eq_true rfl)) dX8_next_62 ⟨Nat.le_of_ble_eq_true rfl, Nat.le_of_ble_eq_true rfl⟩) ?_
        obtain ⟨hi44, hf⟩ := ckE hf
        refine va_iast hx hb hK.1 hP hD hS _ 0 (xfi hj41) rfl hi44 dX8_next_65 (fun H locs hP hD hS => ?_)
        rw [xfi_set hj41] at hP hD
        have hP : va_P D vwCl ([(q_t, oX8 q_t_shelf q_t_rowSort q_t_rowSize q_t_rows q_t_moved q_t_shown q_t_tape v_t_tapeSize q_t_refused v_t_places q_t_ways v_t_people q_t_kind q_t_by q_t_home q_t_aim q_t_at0 v_t_hour v_t_chance v_t_seed w_t_kept w_t_tried v_t_at v_t_token v_t_from v_t_figures v_t_fault q_t_told v_t_statements q_t_steps q_t_spot q_t_then u33 v_t_gone q_t_sights q_t_darkAt q_t_can), (q_t_refused, .inl (cy 0, 8, .inl v_t_refused)), (q_t_ways, .inl (cy 0, 12, .inl v_t_ways)), (q_t_kind, .inl (cy 0, 8, .inl v_t_kind)), (q_t_home, .inl (cy 0, 8, .inl v_t_home)), (q_t_aim, .inl (cy 0, 8, .inl v_t_aim)), (q_t_at0, .inl (cy 0, 8, .inl (upd u7 p0.toNatClampNeg x5))), (q_t_steps, .inl (cy 0, 12, .inl u34)), (q_t_spot, .inl (cy 0, 8, .inl u35)), (q_t_then, .inl (cy 0, 8, .inl u36)), (q_t_sights, .inl (cy 3, 12, .inr (.inr (.inr (.inr (fun i => some (ad_t_sights i)))))))] ++ wFI cy 12 25 ad_t_sights (va_up u37 x5.toNatClampNeg (upd (u37 x5.toNatClampNeg) x32.toNatClampNeg r42))) H := hP
        have hD : va_D A ([(q_t, oX8 q_t_shelf q_t_rowSort q_t_rowSize q_t_rows q_t_moved q_t_shown q_t_tape v_t_tapeSize q_t_refused v_t_places q_t_ways v_t_people q_t_kind q_t_by q_t_home q_t_aim q_t_at0 v_t_hour v_t_chance v_t_seed w_t_kept w_t_tried v_t_at v_t_token v_t_from v_t_figures v_t_fault q_t_told v_t_statements q_t_steps q_t_spot q_t_then u33 v_t_gone q_t_sights q_t_darkAt q_t_can), (q_t_refused, .inl (cy 0, 8, .inl v_t_refused)), (q_t_ways, .inl (cy 0, 12, .inl v_t_ways)), (q_t_kind, .inl (cy 0, 8, .inl v_t_kind)), (q_t_home, .inl (cy 0, 8, .inl v_t_home)), (q_t_aim, .inl (cy 0, 8, .inl v_t_aim)), (q_t_at0, .inl (cy 0, 8, .inl (upd u7 p0.toNatClampNeg x5))), (q_t_steps, .inl (cy 0, 12, .inl u34)), (q_t_spot, .inl (cy 0, 8, .inl u35)), (q_t_then, .inl (cy 0, 8, .inl u36)), (q_t_sights, .inl (cy 3, 12, .inr (.inr (.inr (.inr (fun i => some (ad_t_sights i)))))))] ++ wFI cy 12 25 ad_t_sights (va_up u37 x5.toNatClampNeg (upd (u37 x5.toNatClampNeg) x32.toNatClampNeg r42))) := hD
        refine lv_aload_n hx hb dX8_next_66 rfl (lv_at hl 3 rfl) ?_
        obtain ⟨u45, u46, u47, u48, hr49, hf⟩ := boE4 hf
        have hPc := hP.sub (ws' := [(q_t, oX8 q_t_shelf q_t_rowSort q_t_rowSize q_t_rows q_t_moved q_t_shown q_t_tape v_t_tapeSize q_t_refused v_t_places q_t_ways v_t_people q_t_kind q_t_by q_t_home q_t_aim q_t_at0 v_t_hour v_t_chance v_t_seed w_t_kept w_t_tried v_t_at v_t_token v_t_from v_t_figures v_t_fault q_t_told v_t_statements q_t_steps q_t_spot q_t_then u33 v_t_gone q_t_sights q_t_darkAt q_t_can), (q_t_ways, .inl (cy 0, 12, .inl v_t_ways)), (q_t_kind, .inl (cy 0, 8, .inl v_t_kind)), (q_t_home, .inl (cy 0, 8, .inl v_t_home)), (q_t_aim, .inl (cy 0, 8, .inl v_t_aim)), (q_t_steps, .inl (cy 0, 12, .inl u34)), (q_t_spot, .inl (cy 0, 8, .inl u35)), (q_t_then, .inl (cy 0, 8, .inl u36))]) [0, 2, 3, 4, 5, 7, 8, 9] rfl
        have hDc := hD.sub (ws' := [(q_t, oX8 q_t_shelf q_t_rowSort q_t_rowSize q_t_rows q_t_moved q_t_shown q_t_tape v_t_tapeSize q_t_refused v_t_places q_t_ways v_t_people q_t_kind q_t_by q_t_home q_t_aim q_t_at0 v_t_hour v_t_chance v_t_seed w_t_kept w_t_tried v_t_at v_t_token v_t_from v_t_figures v_t_fault q_t_told v_t_statements q_t_steps q_t_spot q_t_then u33 v_t_gone q_t_sights q_t_darkAt q_t_can), (q_t_ways, .inl (cy 0, 12, .inl v_t_ways)), (q_t_kind, .inl (cy 0, 8, .inl v_t_kind)), (q_t_home, .inl (cy 0, 8, .inl v_t_home)), (q_t_aim, .inl (cy 0, 8, .inl v_t_aim)), (q_t_steps, .inl (cy 0, 12, .inl u34)), (q_t_spot, .inl (cy 0, 8, .inl u35)), (q_t_then, .inl (cy 0, 8, .inl u36))]) [0, 2, 3, 4, 5, 7, 8, 9] (by decide) rfl
        refine xcQvQ (w1 := [(q_t, oX8 q_t_shelf q_t_rowSort q_t_rowSize q_t_rows q_t_moved q_t_shown q_t_tape v_t_tapeSize q_t_refused v_t_places q_t_ways v_t_people q_t_kind q_t_by q_t_home q_t_aim q_t_at0 v_t_hour v_t_chance v_t_seed w_t_kept w_t_tried v_t_at v_t_token v_t_from v_t_figures v_t_fault q_t_told v_t_statements q_t_steps q_t_spot q_t_then u45 v_t_gone q_t_sights q_t_darkAt q_t_can), (q_t_ways, .inl (cy 0, 12, .inl v_t_ways)), (q_t_kind, .inl (cy 0, 8, .inl v_t_kind)), (q_t_home, .inl (cy 0, 8, .inl v_t_home)), (q_t_aim, .inl (cy 0, 8, .inl v_t_aim)), (q_t_steps, .inl (cy 0, 12, .inl u46)), (q_t_spot, .inl (cy 0, 8, .inl u47)), (q_t_then, .inl (cy 0, 8, .inl u48))]) (va_runV (As := []) (rest := []) ⟨hx, hb, hml, hown, hts⟩ (mX8_goes l D cy q_t q_t_shelf q_t_rowSort q_t_rowSize q_t_rows q_t_moved q_t_shown q_t_tape q_t_refused q_t_ways q_t_kind q_t_by q_t_home q_t_aim q_t_at0 q_t_told q_t_steps q_t_spot q_t_then q_t_sights q_t_darkAt q_t_can v_t_tapeSize v_t_places v_t_people v_t_hour v_t_chance v_t_seed w_t_kept w_t_tried v_t_at v_t_token v_t_from v_t_figures v_t_fault v_t_statements u33 v_t_gone v_t_ways v_t_kind v_t_home v_t_aim u34 u35 u36 _  hr49) (cwV 0 hts gX8_next_X8_goes rfl rfl rfl (by decide +kernel) ⟨Nat.le_of_ble_eq_true rfl, Nat.le_of_ble_eq_true rfl⟩) (xPVw hK hPc hDc (ci := 8) (q0 := 0) rfl rfl) rfl rfl hl.1 rfl (lv_room (Nat.le_of_ble_eq_true rfl)) dX8_next_67 ⟨Nat.le_of_ble_eq_true rfl, Nat.le_of_ble_eq_true rfl⟩) hP hD hS hA [0, 2, 3, 4, 5, 7, 8, 9] rfl rfl (fun H locs hP hD hS => ?_)
        have hP : va_P D vwCl ([(q_t, oX8 q_t_shelf q_t_rowSort q_t_rowSize q_t_rows q_t_moved q_t_shown q_t_tape v_t_tapeSize q_t_refused v_t_places q_t_ways v_t_people q_t_kind q_t_by q_t_home q_t_aim q_t_at0 v_t_hour v_t_chance v_t_seed w_t_kept w_t_tried v_t_at v_t_token v_t_from v_t_figures v_t_fault q_t_told v_t_statements q_t_steps q_t_spot q_t_then u45 v_t_gone q_t_sights q_t_darkAt q_t_can), (q_t_refused, .inl (cy 0, 8, .inl v_t_refused)), (q_t_ways, .inl (cy 0, 12, .inl v_t_ways)), (q_t_kind, .inl (cy 0, 8, .inl v_t_kind)), (q_t_home, .inl (cy 0, 8, .inl v_t_home)), (q_t_aim, .inl (cy 0, 8, .inl v_t_aim)), (q_t_at0, .inl (cy 0, 8, .inl (upd u7 p0.toNatClampNeg x5))), (q_t_steps, .inl (cy 0, 12, .inl u46)), (q_t_spot, .inl (cy 0, 8, .inl u47)), (q_t_then, .inl (cy 0, 8, .inl u48)), (q_t_sights, .inl (cy 3, 12, .inr (.inr (.inr (.inr (fun i => some (ad_t_sights i)))))))] ++ wFI cy 12 25 ad_t_sights (va_up u37 x5.toNatClampNeg (upd (u37 x5.toNatClampNeg) x32.toNatClampNeg r42))) H := hP
        have hD : va_D A ([(q_t, oX8 q_t_shelf q_t_rowSort q_t_rowSize q_t_rows q_t_moved q_t_shown q_t_tape v_t_tapeSize q_t_refused v_t_places q_t_ways v_t_people q_t_kind q_t_by q_t_home q_t_aim q_t_at0 v_t_hour v_t_chance v_t_seed w_t_kept w_t_tried v_t_at v_t_token v_t_from v_t_figures v_t_fault q_t_told v_t_statements q_t_steps q_t_spot q_t_then u45 v_t_gone q_t_sights q_t_darkAt q_t_can), (q_t_refused, .inl (cy 0, 8, .inl v_t_refused)), (q_t_ways, .inl (cy 0, 12, .inl v_t_ways)), (q_t_kind, .inl (cy 0, 8, .inl v_t_kind)), (q_t_home, .inl (cy 0, 8, .inl v_t_home)), (q_t_aim, .inl (cy 0, 8, .inl v_t_aim)), (q_t_at0, .inl (cy 0, 8, .inl (upd u7 p0.toNatClampNeg x5))), (q_t_steps, .inl (cy 0, 12, .inl u46)), (q_t_spot, .inl (cy 0, 8, .inl u47)), (q_t_then, .inl (cy 0, 8, .inl u48)), (q_t_sights, .inl (cy 3, 12, .inr (.inr (.inr (.inr (fun i => some (ad_t_sights i)))))))] ++ wFI cy 12 25 ad_t_sights (va_up u37 x5.toNatClampNeg (upd (u37 x5.toNatClampNeg) x32.toNatClampNeg r42))) := hD
        obtain ⟨x50, ex50⟩ : ∃ y : Int32, y = x32 + (1 : Int32) := ⟨_, rfl⟩
        have hf := vlE hf ex50
        refine lv_iinc (v := x50) (lv' := [(4, .int x50), (3, .int x5), (2, .int x4), (0, .ref q_t), (1, .int p0)]) hx hb dX8_next_70 hl (k := 0) rfl (by rw [ex50]; rfl) (by decide) rfl (fun ls hl => ?_)
        clear ex50
        refine lv_goto (tgt := 46) hx hb dX8_next_73 (by decide) ?_
        exact L46 x50 u45 u46 u47 u48 (va_up u37 x5.toNatClampNeg (upd (u37 x5.toNatClampNeg) x32.toNatClampNeg r42)) _ _ ls ⟨hP, hD, hS, lv_sub hl [0, 1, 2, 3, 4] rfl⟩ hf
  · have hf := ifT hf c56
    clear c56
    refine lv_aload_n hx hb dX8_next_8 rfl (lv_at hl 0 rfl) ?_
    refine lv_bipush (v := (-2)) hx hb dX8_next_9 (by decide) ?_
    obtain ⟨r53, u54, hr55, hf⟩ := boE2 hf
    have hPc := hP.sub (ws' := [(q_t, oX8 q_t_shelf q_t_rowSort q_t_rowSize q_t_rows q_t_moved q_t_shown q_t_tape v_t_tapeSize q_t_refused v_t_places q_t_ways v_t_people q_t_kind q_t_by q_t_home q_t_aim q_t_at0 v_t_hour v_t_chance v_t_seed w_t_kept w_t_tried v_t_at v_t_token v_t_from v_t_figures v_t_fault q_t_told v_t_statements q_t_steps q_t_spot q_t_then v_t_now v_t_gone q_t_sights q_t_darkAt q_t_can), (q_t_refused, .inl (cy 0, 8, .inl v_t_refused))]) [0, 1] rfl
    have hDc := hD.sub (ws' := [(q_t, oX8 q_t_shelf q_t_rowSort q_t_rowSize q_t_rows q_t_moved q_t_shown q_t_tape v_t_tapeSize q_t_refused v_t_places q_t_ways v_t_people q_t_kind q_t_by q_t_home q_t_aim q_t_at0 v_t_hour v_t_chance v_t_seed w_t_kept w_t_tried v_t_at v_t_token v_t_from v_t_figures v_t_fault q_t_told v_t_statements q_t_steps q_t_spot q_t_then v_t_now v_t_gone q_t_sights q_t_darkAt q_t_can), (q_t_refused, .inl (cy 0, 8, .inl v_t_refused))]) [0, 1] (by decide) rfl
    refine xcQiQ (w1 := [(q_t, oX8 q_t_shelf q_t_rowSort q_t_rowSize q_t_rows q_t_moved q_t_shown q_t_tape v_t_tapeSize q_t_refused v_t_places q_t_ways v_t_people q_t_kind q_t_by q_t_home q_t_aim q_t_at0 v_t_hour v_t_chance v_t_seed w_t_kept w_t_tried v_t_at v_t_token v_t_from v_t_figures v_t_fault q_t_told v_t_statements q_t_steps q_t_spot q_t_then v_t_now v_t_gone q_t_sights q_t_darkAt q_t_can), (q_t_refused, .inl (cy 0, 8, .inl u54))]) (va_runV (As := [.int (-2 : Int32)]) (rest := []) ⟨hx, hb, hml, hown, hts⟩ (mX8_refuse l D cy q_t q_t_shelf q_t_rowSort q_t_rowSize q_t_rows q_t_moved q_t_shown q_t_tape q_t_refused q_t_ways q_t_kind q_t_by q_t_home q_t_aim q_t_at0 q_t_told q_t_steps q_t_spot q_t_then q_t_sights q_t_darkAt q_t_can v_t_tapeSize v_t_places v_t_people v_t_hour v_t_chance v_t_seed w_t_kept w_t_tried v_t_at v_t_token v_t_from v_t_figures v_t_fault v_t_statements v_t_now v_t_gone v_t_refused _ (-2 : Int32) hr55) (cwV 1 hts gX8_next_X8_refuse rfl rfl rfl (by decide +kernel) ⟨Nat.le_of_ble_eq_true rfl, Nat.le_of_ble_eq_true rfl⟩) (xPVw hK hPc hDc (ci := 8) (q0 := 0) rfl rfl) rfl rfl hl.1 rfl (lv_room (Nat.le_of_ble_eq_true rfl)) dX8_next_11 ⟨Nat.le_of_ble_eq_true rfl, Nat.le_of_ble_eq_true rfl⟩) hP hD hS hA [0, 1] rfl rfl (fun H locs hP hD hS => ?_)
    have hP : va_P D vwCl ([(q_t, oX8 q_t_shelf q_t_rowSort q_t_rowSize q_t_rows q_t_moved q_t_shown q_t_tape v_t_tapeSize q_t_refused v_t_places q_t_ways v_t_people q_t_kind q_t_by q_t_home q_t_aim q_t_at0 v_t_hour v_t_chance v_t_seed w_t_kept w_t_tried v_t_at v_t_token v_t_from v_t_figures v_t_fault q_t_told v_t_statements q_t_steps q_t_spot q_t_then v_t_now v_t_gone q_t_sights q_t_darkAt q_t_can), (q_t_refused, .inl (cy 0, 8, .inl u54)), (q_t_ways, .inl (cy 0, 12, .inl v_t_ways)), (q_t_kind, .inl (cy 0, 8, .inl v_t_kind)), (q_t_home, .inl (cy 0, 8, .inl v_t_home)), (q_t_aim, .inl (cy 0, 8, .inl v_t_aim)), (q_t_at0, .inl (cy 0, 8, .inl v_t_at0)), (q_t_steps, .inl (cy 0, 12, .inl v_t_steps)), (q_t_spot, .inl (cy 0, 8, .inl v_t_spot)), (q_t_then, .inl (cy 0, 8, .inl v_t_then)), (q_t_sights, .inl (cy 3, 12, .inr (.inr (.inr (.inr (fun i => some (ad_t_sights i)))))))] ++ wFI cy 12 25 ad_t_sights v_t_sights) H := hP
    have hD : va_D A ([(q_t, oX8 q_t_shelf q_t_rowSort q_t_rowSize q_t_rows q_t_moved q_t_shown q_t_tape v_t_tapeSize q_t_refused v_t_places q_t_ways v_t_people q_t_kind q_t_by q_t_home q_t_aim q_t_at0 v_t_hour v_t_chance v_t_seed w_t_kept w_t_tried v_t_at v_t_token v_t_from v_t_figures v_t_fault q_t_told v_t_statements q_t_steps q_t_spot q_t_then v_t_now v_t_gone q_t_sights q_t_darkAt q_t_can), (q_t_refused, .inl (cy 0, 8, .inl u54)), (q_t_ways, .inl (cy 0, 12, .inl v_t_ways)), (q_t_kind, .inl (cy 0, 8, .inl v_t_kind)), (q_t_home, .inl (cy 0, 8, .inl v_t_home)), (q_t_aim, .inl (cy 0, 8, .inl v_t_aim)), (q_t_at0, .inl (cy 0, 8, .inl v_t_at0)), (q_t_steps, .inl (cy 0, 12, .inl v_t_steps)), (q_t_spot, .inl (cy 0, 8, .inl v_t_spot)), (q_t_then, .inl (cy 0, 8, .inl v_t_then)), (q_t_sights, .inl (cy 3, 12, .inr (.inr (.inr (.inr (fun i => some (ad_t_sights i)))))))] ++ wFI cy 12 25 ad_t_sights v_t_sights) := hD
    cases hf
    exact W.iret hx hb hr (fun t ht hW => ⟨⟨_, (), rfl, rfl, xend ht hP⟩, hS.F ht⟩) hS.2.2 dX8_next_14
def fX8_besides (v_t_places : Int32) (v_t_ways : Nat → Int32) (p0 : Int32) : Option (Int32) :=
  lo2 (fun g3 (x1 : Int32) (x2 : Int32) =>
    if v_t_places ≤ x2 then
      some x1
    else
      jo1 (fun (y4 : Int32) =>
        vlet (x1 ||| y4) fun x6 =>
        vlet (x2 + (1 : Int32)) fun x7 =>
        g3 x6 x7) fun k5 =>
      if ((p0 >>> (x2 &&& 31)) &&& (1 : Int32)) = (1 : Int32) then
        if x2 < 0 ∨ 12 ≤ x2.toNatClampNeg then none else
        k5 (v_t_ways x2.toNatClampNeg)
      else
        k5 (0 : Int32)) 400 p0 (0 : Int32)
set_option maxHeartbeats 4000000 in
set_option maxRecDepth 100000 in
theorem mX8_besides (l : Launch) (D : va_G) (cy : Nat → ClassId) (q_t q_t_shelf q_t_rowSort q_t_rowSize q_t_rows q_t_moved q_t_shown q_t_tape q_t_refused q_t_ways q_t_kind q_t_by q_t_home q_t_aim q_t_at0 q_t_told q_t_steps q_t_spot q_t_then q_t_sights q_t_darkAt q_t_can : Nat) (v_t_tapeSize : Int32) (v_t_places : Int32) (v_t_people : Int32) (v_t_hour : Int32) (v_t_chance : Int32) (v_t_seed : Int32) (w_t_kept : Value) (w_t_tried : Value) (v_t_at : Int32) (v_t_token : Int32) (v_t_from : Int32) (v_t_figures : Int32) (v_t_fault : Int32) (v_t_statements : Int32) (v_t_now : Int32) (v_t_gone : Int32) (v_t_ways : Nat → Int32) (p0 : Int32) {r_ : Int32} (hf : fX8_besides v_t_places v_t_ways p0 = some r_) : Met l yX8_besides wsX8_besides ({ frames := 0, cells := 0, slots := 0, locals := 0 }) (va_Pc [.ref q_t, .int p0] (fun U => va_P D vwCl [(q_t, oX8 q_t_shelf q_t_rowSort q_t_rowSize q_t_rows q_t_moved q_t_shown q_t_tape v_t_tapeSize q_t_refused v_t_places q_t_ways v_t_people q_t_kind q_t_by q_t_home q_t_aim q_t_at0 v_t_hour v_t_chance v_t_seed w_t_kept w_t_tried v_t_at v_t_token v_t_from v_t_figures v_t_fault q_t_told v_t_statements q_t_steps q_t_spot q_t_then v_t_now v_t_gone q_t_sights q_t_darkAt q_t_can), (q_t_ways, .inl (cy 0, 12, .inl v_t_ways))] U.heap ∧ xK D cy U)) (vp_Si (fun x => x = r_)) 0 0 (fun _ => False) := by
  refine Met.ofW (cc := cX8_besides) (maxL := 4) (ret := (some .int)) (by decide) rfl ?_
  intro p e s m args below meth c s₁ B hml hv
  obtain ⟨rfl, hP, hK⟩ := hv
  have hx := B.exec
  have hb := B.bytes
  have hr := B.returns
  have hts := atoms_spec (ws := wsX8_besides) B.pre
  have hown : s.vm.findClass RX8 = some m.cls := findClass_of_methodNamed B.named
  have hlocks := B.notSynchronized
  have hP : va_P D vwCl [(q_t, oX8 q_t_shelf q_t_rowSort q_t_rowSize q_t_rows q_t_moved q_t_shown q_t_tape v_t_tapeSize q_t_refused v_t_places q_t_ways v_t_people q_t_kind q_t_by q_t_home q_t_aim q_t_at0 v_t_hour v_t_chance v_t_seed w_t_kept w_t_tried v_t_at v_t_token v_t_from v_t_figures v_t_fault q_t_told v_t_statements q_t_steps q_t_spot q_t_then v_t_now v_t_gone q_t_sights q_t_darkAt q_t_can), (q_t_ways, .inl (cy 0, 12, .inl v_t_ways))] s.heap := hP
  have hinX8 : ∀ w ∈ u_ws RX8 TX8 37, w ∈ wsX8_besides := by decide +kernel
  have hk37 := hts (.fieldLink RX8 37 "ShowsWhereNobodyIsModel" "places" "I") (by decide +kernel)
  have hk41 := hts (.fieldLink RX8 41 "ShowsWhereNobodyIsModel" "ways" "[I") (by decide +kernel)
  have hl := lv_entry ([.ref q_t, .int p0]) (n := 4) (Nat.le_of_ble_eq_true rfl)
  rw [lg_entry_eq]
  generalize (lg_sl ([.ref q_t, .int p0]) ++ List.replicate (4 - (lg_sl ([.ref q_t, .int p0])).length) Slot.unset).toArray = ls at hl ⊢
  have hl : lv_has ls 4 [(0, .ref q_t), (1, .int p0)] := hl
  unfold fX8_besides at hf
  refine lv_iload_n hx hb dX8_besides_0 rfl (lv_at hl 1 rfl) ?_
  refine lv_istore_n (lv' := [(2, .int p0), (0, .ref q_t), (1, .int p0)]) hx hb dX8_besides_1 rfl hl (by decide) rfl (fun ls hl => ?_)
  refine lv_iconst (v := 0) hx hb dX8_besides_2 (by decide) ?_
  refine lv_istore_n (lv' := [(3, .int (0 : Int32)), (2, .int p0), (0, .ref q_t), (1, .int p0)]) hx hb dX8_besides_3 rfl hl (by decide) rfl (fun ls hl => ?_)
  refine wlr2 4 (fun _ _ => []) (fun (x1 : Int32) (x2 : Int32) ls => lv_has ls 4 [(2, .int x1), (3, .int x2), (0, .ref q_t), (1, .int p0)]) (fun g3 L4 x1 x2 ls hl hf => ?_) 400 p0 (0 : Int32) ls (lv_sub hl [1, 0, 2, 3] rfl) hf
  refine lv_iload_n hx hb dX8_besides_4 rfl (lv_at hl 1 rfl) ?_
  refine lv_aload_n hx hb dX8_besides_5 rfl (lv_at hl 2 rfl) ?_
  refine va_get (D := D) (ci := 8) (v := .int v_t_places) (C := RX8) (T := TX8) (N := 37) hx hb hts hinX8 hown hK.1 hP 0 rfl rfl 9 (by decide) hk37 (fun _ h9 => h9) rfl dX8_besides_6 ?_
  refine lv_icmp_ge (tgt := 40) hx hb dX8_besides_9 (by decide) (fun c10 => ?_) (fun c10 => ?_)
  · have hf := ifT hf c10
    clear c10
    refine lv_iload_n hx hb dX8_besides_40 rfl (lv_at hl 0 rfl) ?_
    exact W.iret (v := x1) hx hb hr (fun t ht hW => ⟨x1, rfl, Option.some.inj hf, ht⟩) (fun q h => nomatch h) dX8_besides_41
  · have hf := ifF hf c10
    clear c10
    refine lv_iload_n hx hb dX8_besides_12 rfl (lv_at hl 0 rfl) ?_
    refine lv_iload_n hx hb dX8_besides_13 rfl (lv_at hl 3 rfl) ?_
    refine lv_iload_n hx hb dX8_besides_14 rfl (lv_at hl 1 rfl) ?_
    refine lv_ishr hx hb dX8_besides_15 ?_
    refine lv_iconst (v := 1) hx hb dX8_besides_16 (by decide) ?_
    refine lv_iand hx hb dX8_besides_17 ?_
    refine lv_iconst (v := 1) hx hb dX8_besides_18 (by decide) ?_
    refine jwr1 32 (fun (y4 : Int32) => [.int y4, .int x1]) (fun (y4 : Int32) ls => lv_has ls 4 [(0, .ref q_t), (1, .int p0), (3, .int x2)]) hf (fun y4 ls hl hf => ?_) (fun k5 J32 hf => ?_)
    · refine lv_ior hx hb dX8_besides_32 ?_
      refine lv_topi (fun x6 ex6 => ?_)
      have hf := vlE hf ex6
      clear ex6
      refine lv_istore_n (lv' := [(2, .int x6), (0, .ref q_t), (1, .int p0), (3, .int x2)]) hx hb dX8_besides_33 rfl hl (by decide) rfl (fun ls hl => ?_)
      obtain ⟨x7, ex7⟩ : ∃ y : Int32, y = x2 + (1 : Int32) := ⟨_, rfl⟩
      have hf := vlE hf ex7
      refine lv_iinc (v := x7) (lv' := [(3, .int x7), (2, .int x6), (0, .ref q_t), (1, .int p0)]) hx hb dX8_besides_34 hl (k := 3) rfl (by rw [ex7]; rfl) (by decide) rfl (fun ls hl => ?_)
      clear ex7
      refine lv_goto (tgt := 4) hx hb dX8_besides_37 (by decide) ?_
      exact L4 x6 x7 ls (lv_sub hl [1, 0, 2, 3] rfl) hf
    · refine lv_icmp_ne (tgt := 31) hx hb dX8_besides_19 (by decide) (fun c9 => ?_) (fun c9 => ?_)
      · have hf := ifF hf c9
        clear c9
        refine lv_iconst (v := 0) hx hb dX8_besides_31 (by decide) ?_
        exact J32 (0 : Int32) ls (lv_sub hl [2, 3, 1] rfl) hf
      · have hf := ifT hf c9
        clear c9
        refine lv_aload_n hx hb dX8_besides_22 rfl (lv_at hl 2 rfl) ?_
        refine va_get (D := D) (ci := 8) (v := .ref q_t_ways) (C := RX8) (T := TX8) (N := 37) hx hb hts hinX8 hown hK.1 hP 0 rfl rfl 10 (by decide) hk41 (fun _ h9 => h9) rfl dX8_besides_23 ?_
        refine lv_iload_n hx hb dX8_besides_26 rfl (lv_at hl 1 rfl) ?_
        obtain ⟨hi8, hf⟩ := ckE hf
        refine va_iald hx hb hK.1 hP 1 0 rfl rfl hi8 dX8_besides_27 ?_
        refine lv_goto (tgt := 32) hx hb dX8_besides_28 (by decide) ?_
        exact J32 (v_t_ways x2.toNatClampNeg) ls (lv_sub hl [2, 3, 1] rfl) hf
def fX8_hiddenHours (v_t_places : Int32) (v_t_people : Int32) (v_t_hour : Int32) (v_t_gone : Int32) (v_t_ways : Nat → Int32) (v_t_kind : Nat → Int32) (v_t_home : Nat → Int32) (v_t_aim : Nat → Int32) (v_t_at0 : Nat → Int32) (v_t_steps : Nat → Int32) (v_t_spot : Nat → Int32) (v_t_then : Nat → Int32) (v_t_darkAt : Nat → Int32) (v_t_can : Nat → Int32) (p0 : Int32) (p1 : Int32) : Option (Int32 × Int32 × (Nat → Int32) × (Nat → Int32) × (Nat → Int32) × (Nat → Int32) × (Nat → Int32)) :=
  bo2 (fX8_begin v_t_people v_t_hour v_t_at0 v_t_spot) fun u1 u2 =>
  lo6 (fun g10 (x4 : Int32) (u5 : Int32) (u6 : Nat → Int32) (u7 : Nat → Int32) (u8 : Nat → Int32) (u9 : Nat → Int32) =>
    if (24 : Int32) < x4 then
      vlet (((1 : Int32) <<< (p0 &&& 31)) &&& (u9 (0 : Int32).toNatClampNeg)) fun x11 =>
      lo2 (fun g14 (x12 : Int32) (x13 : Int32) =>
        jo0 (
          if ((x12 >>> (p1 &&& 31)) &&& (1 : Int32)) = 0 then
            some ((-1 : Int32), u5, u6, u7, u8, u9, v_t_can)
          else
            if x13 < 0 ∨ 25 ≤ x13.toNatClampNeg then none else
            vlet (x13 - (1 : Int32)) fun x17 =>
            lo2 (fun g20 (x18 : Int32) (u19 : Nat → Int32) =>
              if x18 < 0 then
                some (x13, u5, u6, u7, u8, u9, u19)
              else
                if (x18 + (1 : Int32)) < 0 ∨ 25 ≤ (x18 + (1 : Int32)).toNatClampNeg then none else
                bo1 (fX8_besides v_t_places v_t_ways (u19 (x18 + (1 : Int32)).toNatClampNeg)) fun r22 =>
                if x18 < 0 ∨ 25 ≤ x18.toNatClampNeg then none else
                if x18 < 0 ∨ 25 ≤ x18.toNatClampNeg then none else
                vlet (x18 + (-1 : Int32)) fun x26 =>
                g20 x26 (upd u19 x18.toNatClampNeg (r22 &&& (u9 x18.toNatClampNeg)))) 400 x17 (upd v_t_can x13.toNatClampNeg ((1 : Int32) <<< (p1 &&& 31)))) fun k15 =>
        if ((x12 >>> (p1 &&& 31)) &&& (1 : Int32)) = 0 then
          if (24 : Int32) ≤ x13 then
            k15
          else
            vlet (x13 + (1 : Int32)) fun x29 =>
            bo1 (fX8_besides v_t_places v_t_ways x12) fun r30 =>
            if x29 < 0 ∨ 25 ≤ x29.toNatClampNeg then none else
            vlet (r30 &&& (u9 x29.toNatClampNeg)) fun x33 =>
            g14 x33 x29
        else
          k15) 400 x11 (0 : Int32)
    else
      bo1 (fX8_dark v_t_places v_t_people v_t_gone v_t_kind u7) fun r36 =>
      if x4 < 0 ∨ 25 ≤ x4.toNatClampNeg then none else
      bo4 (fX8_goes v_t_places v_t_people u5 v_t_gone v_t_ways v_t_kind v_t_home v_t_aim u6 u7 u8) fun u39 u40 u41 u42 =>
      vlet (x4 + (1 : Int32)) fun x44 =>
      g10 x44 u39 u40 u41 u42 (upd u9 x4.toNatClampNeg r36)) 400 (0 : Int32) u1 v_t_steps u2 v_t_then v_t_darkAt
set_option maxHeartbeats 4000000 in
set_option maxRecDepth 100000 in
theorem mX8_hiddenHours (l : Launch) (D : va_G) (cy : Nat → ClassId) (q_t q_t_shelf q_t_rowSort q_t_rowSize q_t_rows q_t_moved q_t_shown q_t_tape q_t_refused q_t_ways q_t_kind q_t_by q_t_home q_t_aim q_t_at0 q_t_told q_t_steps q_t_spot q_t_then q_t_sights q_t_darkAt q_t_can : Nat) (v_t_tapeSize : Int32) (v_t_places : Int32) (v_t_people : Int32) (v_t_hour : Int32) (v_t_chance : Int32) (v_t_seed : Int32) (w_t_kept : Value) (w_t_tried : Value) (v_t_at : Int32) (v_t_token : Int32) (v_t_from : Int32) (v_t_figures : Int32) (v_t_fault : Int32) (v_t_statements : Int32) (v_t_now : Int32) (v_t_gone : Int32) (v_t_ways : Nat → Int32) (v_t_kind : Nat → Int32) (v_t_home : Nat → Int32) (v_t_aim : Nat → Int32) (v_t_at0 : Nat → Int32) (v_t_steps : Nat → Int32) (v_t_spot : Nat → Int32) (v_t_then : Nat → Int32) (v_t_darkAt : Nat → Int32) (v_t_can : Nat → Int32) (sz : Nat) (p0 : Int32) (p1 : Int32) {r_ : Int32} {n_t_now : Int32} {n_t_steps : Nat → Int32} {n_t_spot : Nat → Int32} {n_t_then : Nat → Int32} {n_t_darkAt : Nat → Int32} {n_t_can : Nat → Int32} (hf : fX8_hiddenHours v_t_places v_t_people v_t_hour v_t_gone v_t_ways v_t_kind v_t_home v_t_aim v_t_at0 v_t_steps v_t_spot v_t_then v_t_darkAt v_t_can p0 p1 = some (r_, n_t_now, n_t_steps, n_t_spot, n_t_then, n_t_darkAt, n_t_can)) : Met l yX8_hiddenHours wsX8_hiddenHours ({ frames := 4, cells := 0, slots := 0, locals := 90 }) (va_Pc [.ref q_t, .int p0, .int p1] (fun U => U.heap.size = sz ∧ va_P D vwCl [(q_t, oX8 q_t_shelf q_t_rowSort q_t_rowSize q_t_rows q_t_moved q_t_shown q_t_tape v_t_tapeSize q_t_refused v_t_places q_t_ways v_t_people q_t_kind q_t_by q_t_home q_t_aim q_t_at0 v_t_hour v_t_chance v_t_seed w_t_kept w_t_tried v_t_at v_t_token v_t_from v_t_figures v_t_fault q_t_told v_t_statements q_t_steps q_t_spot q_t_then v_t_now v_t_gone q_t_sights q_t_darkAt q_t_can), (q_t_ways, .inl (cy 0, 12, .inl v_t_ways)), (q_t_kind, .inl (cy 0, 8, .inl v_t_kind)), (q_t_home, .inl (cy 0, 8, .inl v_t_home)), (q_t_aim, .inl (cy 0, 8, .inl v_t_aim)), (q_t_at0, .inl (cy 0, 8, .inl v_t_at0)), (q_t_steps, .inl (cy 0, 12, .inl v_t_steps)), (q_t_spot, .inl (cy 0, 8, .inl v_t_spot)), (q_t_then, .inl (cy 0, 8, .inl v_t_then)), (q_t_darkAt, .inl (cy 0, 25, .inl v_t_darkAt)), (q_t_can, .inl (cy 0, 25, .inl v_t_can))] U.heap ∧ xK D cy U ∧ va_D (fun _ => True) [(q_t, oX8 q_t_shelf q_t_rowSort q_t_rowSize q_t_rows q_t_moved q_t_shown q_t_tape v_t_tapeSize q_t_refused v_t_places q_t_ways v_t_people q_t_kind q_t_by q_t_home q_t_aim q_t_at0 v_t_hour v_t_chance v_t_seed w_t_kept w_t_tried v_t_at v_t_token v_t_from v_t_figures v_t_fault q_t_told v_t_statements q_t_steps q_t_spot q_t_then v_t_now v_t_gone q_t_sights q_t_darkAt q_t_can), (q_t_ways, .inl (cy 0, 12, .inl v_t_ways)), (q_t_kind, .inl (cy 0, 8, .inl v_t_kind)), (q_t_home, .inl (cy 0, 8, .inl v_t_home)), (q_t_aim, .inl (cy 0, 8, .inl v_t_aim)), (q_t_at0, .inl (cy 0, 8, .inl v_t_at0)), (q_t_steps, .inl (cy 0, 12, .inl v_t_steps)), (q_t_spot, .inl (cy 0, 8, .inl v_t_spot)), (q_t_then, .inl (cy 0, 8, .inl v_t_then)), (q_t_darkAt, .inl (cy 0, 25, .inl v_t_darkAt)), (q_t_can, .inl (cy 0, 25, .inl v_t_can))])) (va_Qi (fun (x : Int32) (_ : Unit) => x = r_) (fun _ t => va_P D vwCl [(q_t, oX8 q_t_shelf q_t_rowSort q_t_rowSize q_t_rows q_t_moved q_t_shown q_t_tape v_t_tapeSize q_t_refused v_t_places q_t_ways v_t_people q_t_kind q_t_by q_t_home q_t_aim q_t_at0 v_t_hour v_t_chance v_t_seed w_t_kept w_t_tried v_t_at v_t_token v_t_from v_t_figures v_t_fault q_t_told v_t_statements q_t_steps q_t_spot q_t_then n_t_now v_t_gone q_t_sights q_t_darkAt q_t_can), (q_t_ways, .inl (cy 0, 12, .inl v_t_ways)), (q_t_kind, .inl (cy 0, 8, .inl v_t_kind)), (q_t_home, .inl (cy 0, 8, .inl v_t_home)), (q_t_aim, .inl (cy 0, 8, .inl v_t_aim)), (q_t_at0, .inl (cy 0, 8, .inl v_t_at0)), (q_t_steps, .inl (cy 0, 12, .inl n_t_steps)), (q_t_spot, .inl (cy 0, 8, .inl n_t_spot)), (q_t_then, .inl (cy 0, 8, .inl n_t_then)), (q_t_darkAt, .inl (cy 0, 25, .inl n_t_darkAt)), (q_t_can, .inl (cy 0, 25, .inl n_t_can))] t.heap) (va_A [(q_t, oX8 q_t_shelf q_t_rowSort q_t_rowSize q_t_rows q_t_moved q_t_shown q_t_tape v_t_tapeSize q_t_refused v_t_places q_t_ways v_t_people q_t_kind q_t_by q_t_home q_t_aim q_t_at0 v_t_hour v_t_chance v_t_seed w_t_kept w_t_tried v_t_at v_t_token v_t_from v_t_figures v_t_fault q_t_told v_t_statements q_t_steps q_t_spot q_t_then v_t_now v_t_gone q_t_sights q_t_darkAt q_t_can), (q_t_ways, .inl (cy 0, 12, .inl v_t_ways)), (q_t_kind, .inl (cy 0, 8, .inl v_t_kind)), (q_t_home, .inl (cy 0, 8, .inl v_t_home)), (q_t_aim, .inl (cy 0, 8, .inl v_t_aim)), (q_t_at0, .inl (cy 0, 8, .inl v_t_at0)), (q_t_steps, .inl (cy 0, 12, .inl v_t_steps)), (q_t_spot, .inl (cy 0, 8, .inl v_t_spot)), (q_t_then, .inl (cy 0, 8, .inl v_t_then)), (q_t_darkAt, .inl (cy 0, 25, .inl v_t_darkAt)), (q_t_can, .inl (cy 0, 25, .inl v_t_can))] sz)) 0 0 (va_A [(q_t, oX8 q_t_shelf q_t_rowSort q_t_rowSize q_t_rows q_t_moved q_t_shown q_t_tape v_t_tapeSize q_t_refused v_t_places q_t_ways v_t_people q_t_kind q_t_by q_t_home q_t_aim q_t_at0 v_t_hour v_t_chance v_t_seed w_t_kept w_t_tried v_t_at v_t_token v_t_from v_t_figures v_t_fault q_t_told v_t_statements q_t_steps q_t_spot q_t_then v_t_now v_t_gone q_t_sights q_t_darkAt q_t_can), (q_t_ways, .inl (cy 0, 12, .inl v_t_ways)), (q_t_kind, .inl (cy 0, 8, .inl v_t_kind)), (q_t_home, .inl (cy 0, 8, .inl v_t_home)), (q_t_aim, .inl (cy 0, 8, .inl v_t_aim)), (q_t_at0, .inl (cy 0, 8, .inl v_t_at0)), (q_t_steps, .inl (cy 0, 12, .inl v_t_steps)), (q_t_spot, .inl (cy 0, 8, .inl v_t_spot)), (q_t_then, .inl (cy 0, 8, .inl v_t_then)), (q_t_darkAt, .inl (cy 0, 25, .inl v_t_darkAt)), (q_t_can, .inl (cy 0, 25, .inl v_t_can))] sz) := by
  refine Met.ofW (cc := cX8_hiddenHours) (maxL := 6) (ret := (some .int)) (by decide) rfl ?_
  intro p e s m args below meth c s₁ B hml hv
  obtain ⟨rfl, hsz, hP, hK, hD0⟩ := hv
  have hx := B.exec
  have hb := B.bytes
  have hr := B.returns
  have hts := atoms_spec (ws := wsX8_hiddenHours) B.pre
  have hown : s.vm.findClass RX8 = some m.cls := findClass_of_methodNamed B.named
  have hlocks := B.notSynchronized
  subst hsz
  have hD := hD0.self (sz := s.heap.size)
  generalize hAe : va_A [(q_t, oX8 q_t_shelf q_t_rowSort q_t_rowSize q_t_rows q_t_moved q_t_shown q_t_tape v_t_tapeSize q_t_refused v_t_places q_t_ways v_t_people q_t_kind q_t_by q_t_home q_t_aim q_t_at0 v_t_hour v_t_chance v_t_seed w_t_kept w_t_tried v_t_at v_t_token v_t_from v_t_figures v_t_fault q_t_told v_t_statements q_t_steps q_t_spot q_t_then v_t_now v_t_gone q_t_sights q_t_darkAt q_t_can), (q_t_ways, .inl (cy 0, 12, .inl v_t_ways)), (q_t_kind, .inl (cy 0, 8, .inl v_t_kind)), (q_t_home, .inl (cy 0, 8, .inl v_t_home)), (q_t_aim, .inl (cy 0, 8, .inl v_t_aim)), (q_t_at0, .inl (cy 0, 8, .inl v_t_at0)), (q_t_steps, .inl (cy 0, 12, .inl v_t_steps)), (q_t_spot, .inl (cy 0, 8, .inl v_t_spot)), (q_t_then, .inl (cy 0, 8, .inl v_t_then)), (q_t_darkAt, .inl (cy 0, 25, .inl v_t_darkAt)), (q_t_can, .inl (cy 0, 25, .inl v_t_can))] s.heap.size = A at hD ⊢
  have hA : ∀ q : Nat, s.heap.size ≤ q → A q := fun q h => by rw [← hAe]; exact Or.inr h
  have hS : va_S A s.heap s.heap [] := va_S.rf
  have hP : va_P D vwCl [(q_t, oX8 q_t_shelf q_t_rowSort q_t_rowSize q_t_rows q_t_moved q_t_shown q_t_tape v_t_tapeSize q_t_refused v_t_places q_t_ways v_t_people q_t_kind q_t_by q_t_home q_t_aim q_t_at0 v_t_hour v_t_chance v_t_seed w_t_kept w_t_tried v_t_at v_t_token v_t_from v_t_figures v_t_fault q_t_told v_t_statements q_t_steps q_t_spot q_t_then v_t_now v_t_gone q_t_sights q_t_darkAt q_t_can), (q_t_ways, .inl (cy 0, 12, .inl v_t_ways)), (q_t_kind, .inl (cy 0, 8, .inl v_t_kind)), (q_t_home, .inl (cy 0, 8, .inl v_t_home)), (q_t_aim, .inl (cy 0, 8, .inl v_t_aim)), (q_t_at0, .inl (cy 0, 8, .inl v_t_at0)), (q_t_steps, .inl (cy 0, 12, .inl v_t_steps)), (q_t_spot, .inl (cy 0, 8, .inl v_t_spot)), (q_t_then, .inl (cy 0, 8, .inl v_t_then)), (q_t_darkAt, .inl (cy 0, 25, .inl v_t_darkAt)), (q_t_can, .inl (cy 0, 25, .inl v_t_can))] s.heap := hP
  have hinX8 : ∀ w ∈ u_ws RX8 TX8 37, w ∈ wsX8_hiddenHours := by decide +kernel
  have hk85 := hts (.fieldLink RX8 85 "ShowsWhereNobodyIsModel" "darkAt" "[I") (by decide +kernel)
  have hk88 := hts (.fieldLink RX8 88 "ShowsWhereNobodyIsModel" "can" "[I") (by decide +kernel)
  have hl := lv_entry ([.ref q_t, .int p0, .int p1]) (n := 6) (Nat.le_of_ble_eq_true rfl)
  rw [lg_entry_eq]
  generalize (lg_sl ([.ref q_t, .int p0, .int p1]) ++ List.replicate (6 - (lg_sl ([.ref q_t, .int p0, .int p1])).length) Slot.unset).toArray = ls at hl ⊢
  have hl : lv_has ls 6 [(0, .ref q_t), (1, .int p0), (2, .int p1)] := hl
  unfold fX8_hiddenHours at hf
  refine lv_aload_n hx hb dX8_hiddenHours_0 rfl (lv_at hl 0 rfl) ?_
  obtain ⟨u1, u2, hr3, hf⟩ := boE2 hf
  have hPc := hP.sub (ws' := [(q_t, oX8 q_t_shelf q_t_rowSort q_t_rowSize q_t_rows q_t_moved q_t_shown q_t_tape v_t_tapeSize q_t_refused v_t_places q_t_ways v_t_people q_t_kind q_t_by q_t_home q_t_aim q_t_at0 v_t_hour v_t_chance v_t_seed w_t_kept w_t_tried v_t_at v_t_token v_t_from v_t_figures v_t_fault q_t_told v_t_statements q_t_steps q_t_spot q_t_then v_t_now v_t_gone q_t_sights q_t_darkAt q_t_can), (q_t_at0, .inl (cy 0, 8, .inl v_t_at0)), (q_t_spot, .inl (cy 0, 8, .inl v_t_spot))]) [0, 5, 7] rfl
  have hDc := hD.sub (ws' := [(q_t, oX8 q_t_shelf q_t_rowSort q_t_rowSize q_t_rows q_t_moved q_t_shown q_t_tape v_t_tapeSize q_t_refused v_t_places q_t_ways v_t_people q_t_kind q_t_by q_t_home q_t_aim q_t_at0 v_t_hour v_t_chance v_t_seed w_t_kept w_t_tried v_t_at v_t_token v_t_from v_t_figures v_t_fault q_t_told v_t_statements q_t_steps q_t_spot q_t_then v_t_now v_t_gone q_t_sights q_t_darkAt q_t_can), (q_t_at0, .inl (cy 0, 8, .inl v_t_at0)), (q_t_spot, .inl (cy 0, 8, .inl v_t_spot))]) [0, 5, 7] (by decide) rfl
  refine xcQv (w1 := [(q_t, oX8 q_t_shelf q_t_rowSort q_t_rowSize q_t_rows q_t_moved q_t_shown q_t_tape v_t_tapeSize q_t_refused v_t_places q_t_ways v_t_people q_t_kind q_t_by q_t_home q_t_aim q_t_at0 v_t_hour v_t_chance v_t_seed w_t_kept w_t_tried v_t_at v_t_token v_t_from v_t_figures v_t_fault q_t_told v_t_statements q_t_steps q_t_spot q_t_then u1 v_t_gone q_t_sights q_t_darkAt q_t_can), (q_t_at0, .inl (cy 0, 8, .inl v_t_at0)), (q_t_spot, .inl (cy 0, 8, .inl u2))]) (va_runV (As := []) (rest := []) ⟨hx, hb, hml, hown, hts⟩ (mX8_begin l D cy q_t q_t_shelf q_t_rowSort q_t_rowSize q_t_rows q_t_moved q_t_shown q_t_tape q_t_refused q_t_ways q_t_kind q_t_by q_t_home q_t_aim q_t_at0 q_t_told q_t_steps q_t_spot q_t_then q_t_sights q_t_darkAt q_t_can v_t_tapeSize v_t_places v_t_people v_t_hour v_t_chance v_t_seed w_t_kept w_t_tried v_t_at v_t_token v_t_from v_t_figures v_t_fault v_t_statements v_t_now v_t_gone v_t_at0 v_t_spot _  hr3) (cwV 0 hts gX8_hiddenHours_X8_begin rfl rfl rfl (by decide +kernel) ⟨Nat.le_of_ble_eq_true rfl, Nat.le_of_ble_eq_true rfl⟩) (xPVw hK hPc hDc (ci := 8) (q0 := 0) rfl rfl) rfl rfl hl.1 rfl (lv_room (Nat.le_of_ble_eq_true rfl)) dX8_hiddenHours_1 ⟨Nat.le_of_ble_eq_true rfl, Nat.le_of_ble_eq_true rfl⟩) hP hD hS hA [0, 5, 7] rfl rfl (fun H locs hP hD hS => ?_)
  have hP : va_P D vwCl [(q_t, oX8 q_t_shelf q_t_rowSort q_t_rowSize q_t_rows q_t_moved q_t_shown q_t_tape v_t_tapeSize q_t_refused v_t_places q_t_ways v_t_people q_t_kind q_t_by q_t_home q_t_aim q_t_at0 v_t_hour v_t_chance v_t_seed w_t_kept w_t_tried v_t_at v_t_token v_t_from v_t_figures v_t_fault q_t_told v_t_statements q_t_steps q_t_spot q_t_then u1 v_t_gone q_t_sights q_t_darkAt q_t_can), (q_t_ways, .inl (cy 0, 12, .inl v_t_ways)), (q_t_kind, .inl (cy 0, 8, .inl v_t_kind)), (q_t_home, .inl (cy 0, 8, .inl v_t_home)), (q_t_aim, .inl (cy 0, 8, .inl v_t_aim)), (q_t_at0, .inl (cy 0, 8, .inl v_t_at0)), (q_t_steps, .inl (cy 0, 12, .inl v_t_steps)), (q_t_spot, .inl (cy 0, 8, .inl u2)), (q_t_then, .inl (cy 0, 8, .inl v_t_then)), (q_t_darkAt, .inl (cy 0, 25, .inl v_t_darkAt)), (q_t_can, .inl (cy 0, 25, .inl v_t_can))] H := hP
  have hD : va_D A [(q_t, oX8 q_t_shelf q_t_rowSort q_t_rowSize q_t_rows q_t_moved q_t_shown q_t_tape v_t_tapeSize q_t_refused v_t_places q_t_ways v_t_people q_t_kind q_t_by q_t_home q_t_aim q_t_at0 v_t_hour v_t_chance v_t_seed w_t_kept w_t_tried v_t_at v_t_token v_t_from v_t_figures v_t_fault q_t_told v_t_statements q_t_steps q_t_spot q_t_then u1 v_t_gone q_t_sights q_t_darkAt q_t_can), (q_t_ways, .inl (cy 0, 12, .inl v_t_ways)), (q_t_kind, .inl (cy 0, 8, .inl v_t_kind)), (q_t_home, .inl (cy 0, 8, .inl v_t_home)), (q_t_aim, .inl (cy 0, 8, .inl v_t_aim)), (q_t_at0, .inl (cy 0, 8, .inl v_t_at0)), (q_t_steps, .inl (cy 0, 12, .inl v_t_steps)), (q_t_spot, .inl (cy 0, 8, .inl u2)), (q_t_then, .inl (cy 0, 8, .inl v_t_then)), (q_t_darkAt, .inl (cy 0, 25, .inl v_t_darkAt)), (q_t_can, .inl (cy 0, 25, .inl v_t_can))] := hD
  refine lv_iconst (v := 0) hx hb dX8_hiddenHours_4 (by decide) ?_
  refine lv_istore_n (lv' := [(3, .int (0 : Int32)), (0, .ref q_t), (1, .int p0), (2, .int p1)]) hx hb dX8_hiddenHours_5 rfl hl (by decide) rfl (fun ls hl => ?_)
  refine wlw6 6 (fun _ _ _ _ _ _ => []) (fun (x4 : Int32) (u5 : Int32) (u6 : Nat → Int32) (u7 : Nat → Int32) (u8 : Nat → Int32) (u9 : Nat → Int32) H locs ls => va_P D vwCl [(q_t, oX8 q_t_shelf q_t_rowSort q_t_rowSize q_t_rows q_t_moved q_t_shown q_t_tape v_t_tapeSize q_t_refused v_t_places q_t_ways v_t_people q_t_kind q_t_by q_t_home q_t_aim q_t_at0 v_t_hour v_t_chance v_t_seed w_t_kept w_t_tried v_t_at v_t_token v_t_from v_t_figures v_t_fault q_t_told v_t_statements q_t_steps q_t_spot q_t_then u5 v_t_gone q_t_sights q_t_darkAt q_t_can), (q_t_ways, .inl (cy 0, 12, .inl v_t_ways)), (q_t_kind, .inl (cy 0, 8, .inl v_t_kind)), (q_t_home, .inl (cy 0, 8, .inl v_t_home)), (q_t_aim, .inl (cy 0, 8, .inl v_t_aim)), (q_t_at0, .inl (cy 0, 8, .inl v_t_at0)), (q_t_steps, .inl (cy 0, 12, .inl u6)), (q_t_spot, .inl (cy 0, 8, .inl u7)), (q_t_then, .inl (cy 0, 8, .inl u8)), (q_t_darkAt, .inl (cy 0, 25, .inl u9)), (q_t_can, .inl (cy 0, 25, .inl v_t_can))] H ∧ va_D A [(q_t, oX8 q_t_shelf q_t_rowSort q_t_rowSize q_t_rows q_t_moved q_t_shown q_t_tape v_t_tapeSize q_t_refused v_t_places q_t_ways v_t_people q_t_kind q_t_by q_t_home q_t_aim q_t_at0 v_t_hour v_t_chance v_t_seed w_t_kept w_t_tried v_t_at v_t_token v_t_from v_t_figures v_t_fault q_t_told v_t_statements q_t_steps q_t_spot q_t_then u5 v_t_gone q_t_sights q_t_darkAt q_t_can), (q_t_ways, .inl (cy 0, 12, .inl v_t_ways)), (q_t_kind, .inl (cy 0, 8, .inl v_t_kind)), (q_t_home, .inl (cy 0, 8, .inl v_t_home)), (q_t_aim, .inl (cy 0, 8, .inl v_t_aim)), (q_t_at0, .inl (cy 0, 8, .inl v_t_at0)), (q_t_steps, .inl (cy 0, 12, .inl u6)), (q_t_spot, .inl (cy 0, 8, .inl u7)), (q_t_then, .inl (cy 0, 8, .inl u8)), (q_t_darkAt, .inl (cy 0, 25, .inl u9)), (q_t_can, .inl (cy 0, 25, .inl v_t_can))] ∧ va_S A s.heap H locs ∧ lv_has ls 6 [(3, .int x4), (0, .ref q_t), (1, .int p0), (2, .int p1)]) (fun g10 L6 x4 u5 u6 u7 u8 u9 H locs ls hI hf => ?_) 400 (0 : Int32) u1 v_t_steps u2 v_t_then v_t_darkAt _ _ ls ⟨hP, hD, hS, lv_sub hl [0, 1, 2, 3] rfl⟩ hf
  obtain ⟨hP, hD, hS, hl⟩ := hI
  refine lv_iload_n hx hb dX8_hiddenHours_6 rfl (lv_at hl 0 rfl) ?_
  refine lv_bipush (v := 24) hx hb dX8_hiddenHours_7 (by decide) ?_
  refine lv_icmp_gt (tgt := 32) hx hb dX8_hiddenHours_9 (by decide) (fun c45 => ?_) (fun c45 => ?_)
  · have hf := ifT hf c45
    clear c45
    refine lv_iconst (v := 1) hx hb dX8_hiddenHours_32 (by decide) ?_
    refine lv_iload_n hx hb dX8_hiddenHours_33 rfl (lv_at hl 2 rfl) ?_
    refine lv_ishl hx hb dX8_hiddenHours_34 ?_
    refine lv_aload_n hx hb dX8_hiddenHours_35 rfl (lv_at hl 1 rfl) ?_
    refine va_get (D := D) (ci := 8) (v := .ref q_t_darkAt) (C := RX8) (T := TX8) (N := 37) hx hb hts hinX8 hown hK.1 hP 0 rfl rfl 35 (by decide) hk85 (fun _ h9 => h9) rfl dX8_hiddenHours_36 ?_
    refine lv_iconst (v := 0) hx hb dX8_hiddenHours_39 (by decide) ?_
    refine va_iald hx hb hK.1 hP 9 0 rfl rfl (show vp_in (0 : Int32) 25 from by unfold vp_in; decide) dX8_hiddenHours_40 ?_
    refine lv_iand hx hb dX8_hiddenHours_41 ?_
    refine lv_topi (fun x11 ex11 => ?_)
    have hf := vlE hf ex11
    clear ex11
    refine lv_istore_n (lv' := [(3, .int x11), (0, .ref q_t), (1, .int p0), (2, .int p1)]) hx hb dX8_hiddenHours_42 rfl hl (by decide) rfl (fun ls hl => ?_)
    refine lv_iconst (v := 0) hx hb dX8_hiddenHours_43 (by decide) ?_
    refine lv_istore (lv' := [(4, .int (0 : Int32)), (3, .int x11), (0, .ref q_t), (1, .int p0), (2, .int p1)]) hx hb dX8_hiddenHours_44 hl (by decide) rfl (fun ls hl => ?_)
    refine wlw2 46 (fun _ _ => []) (fun (x12 : Int32) (x13 : Int32) H locs ls => va_P D vwCl [(q_t, oX8 q_t_shelf q_t_rowSort q_t_rowSize q_t_rows q_t_moved q_t_shown q_t_tape v_t_tapeSize q_t_refused v_t_places q_t_ways v_t_people q_t_kind q_t_by q_t_home q_t_aim q_t_at0 v_t_hour v_t_chance v_t_seed w_t_kept w_t_tried v_t_at v_t_token v_t_from v_t_figures v_t_fault q_t_told v_t_statements q_t_steps q_t_spot q_t_then u5 v_t_gone q_t_sights q_t_darkAt q_t_can), (q_t_ways, .inl (cy 0, 12, .inl v_t_ways)), (q_t_kind, .inl (cy 0, 8, .inl v_t_kind)), (q_t_home, .inl (cy 0, 8, .inl v_t_home)), (q_t_aim, .inl (cy 0, 8, .inl v_t_aim)), (q_t_at0, .inl (cy 0, 8, .inl v_t_at0)), (q_t_steps, .inl (cy 0, 12, .inl u6)), (q_t_spot, .inl (cy 0, 8, .inl u7)), (q_t_then, .inl (cy 0, 8, .inl u8)), (q_t_darkAt, .inl (cy 0, 25, .inl u9)), (q_t_can, .inl (cy 0, 25, .inl v_t_can))] H ∧ va_D A [(q_t, oX8 q_t_shelf q_t_rowSort q_t_rowSize q_t_rows q_t_moved q_t_shown q_t_tape v_t_tapeSize q_t_refused v_t_places q_t_ways v_t_people q_t_kind q_t_by q_t_home q_t_aim q_t_at0 v_t_hour v_t_chance v_t_seed w_t_kept w_t_tried v_t_at v_t_token v_t_from v_t_figures v_t_fault q_t_told v_t_statements q_t_steps q_t_spot q_t_then u5 v_t_gone q_t_sights q_t_darkAt q_t_can), (q_t_ways, .inl (cy 0, 12, .inl v_t_ways)), (q_t_kind, .inl (cy 0, 8, .inl v_t_kind)), (q_t_home, .inl (cy 0, 8, .inl v_t_home)), (q_t_aim, .inl (cy 0, 8, .inl v_t_aim)), (q_t_at0, .inl (cy 0, 8, .inl v_t_at0)), (q_t_steps, .inl (cy 0, 12, .inl u6)), (q_t_spot, .inl (cy 0, 8, .inl u7)), (q_t_then, .inl (cy 0, 8, .inl u8)), (q_t_darkAt, .inl (cy 0, 25, .inl u9)), (q_t_can, .inl (cy 0, 25, .inl v_t_can))] ∧ va_S A s.heap H locs ∧ lv_has ls 6 [(3, .int x12), (4, .int x13), (0, .ref q_t), (2, .int p1)]) (fun g14 L46 x12 x13 H locs ls hI hf => ?_) 400 x11 (0 : Int32) _ _ ls ⟨hP, hD, hS, lv_sub hl [1, 0, 2, 4] rfl⟩ hf
    obtain ⟨hP, hD, hS, hl⟩ := hI
    refine lv_iload_n hx hb dX8_hiddenHours_46 rfl (lv_at hl 0 rfl) ?_
    refine lv_iload_n hx hb dX8_hiddenHours_47 rfl (lv_at hl 3 rfl) ?_
    refine lv_ishr hx hb dX8_hiddenHours_48 ?_
    refine lv_iconst (v := 1) hx hb dX8_hiddenHours_49 (by decide) ?_
    refine lv_iand hx hb dX8_hiddenHours_50 ?_
    refine jww0 81 [] (fun  H locs ls => va_P D vwCl [(q_t, oX8 q_t_shelf q_t_rowSort q_t_rowSize q_t_rows q_t_moved q_t_shown q_t_tape v_t_tapeSize q_t_refused v_t_places q_t_ways v_t_people q_t_kind q_t_by q_t_home q_t_aim q_t_at0 v_t_hour v_t_chance v_t_seed w_t_kept w_t_tried v_t_at v_t_token v_t_from v_t_figures v_t_fault q_t_told v_t_statements q_t_steps q_t_spot q_t_then u5 v_t_gone q_t_sights q_t_darkAt q_t_can), (q_t_ways, .inl (cy 0, 12, .inl v_t_ways)), (q_t_kind, .inl (cy 0, 8, .inl v_t_kind)), (q_t_home, .inl (cy 0, 8, .inl v_t_home)), (q_t_aim, .inl (cy 0, 8, .inl v_t_aim)), (q_t_at0, .inl (cy 0, 8, .inl v_t_at0)), (q_t_steps, .inl (cy 0, 12, .inl u6)), (q_t_spot, .inl (cy 0, 8, .inl u7)), (q_t_then, .inl (cy 0, 8, .inl u8)), (q_t_darkAt, .inl (cy 0, 25, .inl u9)), (q_t_can, .inl (cy 0, 25, .inl v_t_can))] H ∧ va_D A [(q_t, oX8 q_t_shelf q_t_rowSort q_t_rowSize q_t_rows q_t_moved q_t_shown q_t_tape v_t_tapeSize q_t_refused v_t_places q_t_ways v_t_people q_t_kind q_t_by q_t_home q_t_aim q_t_at0 v_t_hour v_t_chance v_t_seed w_t_kept w_t_tried v_t_at v_t_token v_t_from v_t_figures v_t_fault q_t_told v_t_statements q_t_steps q_t_spot q_t_then u5 v_t_gone q_t_sights q_t_darkAt q_t_can), (q_t_ways, .inl (cy 0, 12, .inl v_t_ways)), (q_t_kind, .inl (cy 0, 8, .inl v_t_kind)), (q_t_home, .inl (cy 0, 8, .inl v_t_home)), (q_t_aim, .inl (cy 0, 8, .inl v_t_aim)), (q_t_at0, .inl (cy 0, 8, .inl v_t_at0)), (q_t_steps, .inl (cy 0, 12, .inl u6)), (q_t_spot, .inl (cy 0, 8, .inl u7)), (q_t_then, .inl (cy 0, 8, .inl u8)), (q_t_darkAt, .inl (cy 0, 25, .inl u9)), (q_t_can, .inl (cy 0, 25, .inl v_t_can))] ∧ va_S A s.heap H locs ∧ lv_has ls 6 [(0, .ref q_t), (2, .int p1), (3, .int x12), (4, .int x13)]) hf (fun  H locs ls hI hf => ?_) (fun k15 J81 hf => ?_)
    · obtain ⟨hP, hD, hS, hl⟩ := hI
      refine lv_iload_n hx hb dX8_hiddenHours_81 rfl (lv_at hl 2 rfl) ?_
      refine lv_iload_n hx hb dX8_hiddenHours_82 rfl (lv_at hl 1 rfl) ?_
      refine lv_ishr hx hb dX8_hiddenHours_83 ?_
      refine lv_iconst (v := 1) hx hb dX8_hiddenHours_84 (by decide) ?_
      refine lv_iand hx hb dX8_hiddenHours_85 ?_
      refine lv_if_ne (tgt := 91) hx hb dX8_hiddenHours_86 (by decide) (fun c28 => ?_) (fun c28 => ?_)
      · have hf := ifF hf c28
        clear c28
        refine lv_aload_n hx hb dX8_hiddenHours_91 rfl (lv_at hl 0 rfl) ?_
        refine va_get (D := D) (ci := 8) (v := .ref q_t_can) (C := RX8) (T := TX8) (N := 37) hx hb hts hinX8 hown hK.1 hP 0 rfl rfl 36 (by decide) hk88 (fun _ h9 => h9) rfl dX8_hiddenHours_92 ?_
        refine lv_iload hx hb dX8_hiddenHours_95 (lv_at hl 3 rfl) ?_
        refine lv_iconst (v := 1) hx hb dX8_hiddenHours_97 (by decide) ?_
        refine lv_iload_n hx hb dX8_hiddenHours_98 rfl (lv_at hl 1 rfl) ?_
        refine lv_ishl hx hb dX8_hiddenHours_99 ?_
        obtain ⟨hi16, hf⟩ := ckE hf
        refine va_iast hx hb hK.1 hP hD hS 10 0 rfl rfl hi16 dX8_hiddenHours_100 (fun H locs hP hD hS => ?_)
        have hP : va_P D vwCl [(q_t, oX8 q_t_shelf q_t_rowSort q_t_rowSize q_t_rows q_t_moved q_t_shown q_t_tape v_t_tapeSize q_t_refused v_t_places q_t_ways v_t_people q_t_kind q_t_by q_t_home q_t_aim q_t_at0 v_t_hour v_t_chance v_t_seed w_t_kept w_t_tried v_t_at v_t_token v_t_from v_t_figures v_t_fault q_t_told v_t_statements q_t_steps q_t_spot q_t_then u5 v_t_gone q_t_sights q_t_darkAt q_t_can), (q_t_ways, .inl (cy 0, 12, .inl v_t_ways)), (q_t_kind, .inl (cy 0, 8, .inl v_t_kind)), (q_t_home, .inl (cy 0, 8, .inl v_t_home)), (q_t_aim, .inl (cy 0, 8, .inl v_t_aim)), (q_t_at0, .inl (cy 0, 8, .inl v_t_at0)), (q_t_steps, .inl (cy 0, 12, .inl u6)), (q_t_spot, .inl (cy 0, 8, .inl u7)), (q_t_then, .inl (cy 0, 8, .inl u8)), (q_t_darkAt, .inl (cy 0, 25, .inl u9)), (q_t_can, .inl (cy 0, 25, .inl (upd v_t_can x13.toNatClampNeg ((1 : Int32) <<< (p1 &&& 31)))))] H := hP
        have hD : va_D A [(q_t, oX8 q_t_shelf q_t_rowSort q_t_rowSize q_t_rows q_t_moved q_t_shown q_t_tape v_t_tapeSize q_t_refused v_t_places q_t_ways v_t_people q_t_kind q_t_by q_t_home q_t_aim q_t_at0 v_t_hour v_t_chance v_t_seed w_t_kept w_t_tried v_t_at v_t_token v_t_from v_t_figures v_t_fault q_t_told v_t_statements q_t_steps q_t_spot q_t_then u5 v_t_gone q_t_sights q_t_darkAt q_t_can), (q_t_ways, .inl (cy 0, 12, .inl v_t_ways)), (q_t_kind, .inl (cy 0, 8, .inl v_t_kind)), (q_t_home, .inl (cy 0, 8, .inl v_t_home)), (q_t_aim, .inl (cy 0, 8, .inl v_t_aim)), (q_t_at0, .inl (cy 0, 8, .inl v_t_at0)), (q_t_steps, .inl (cy 0, 12, .inl u6)), (q_t_spot, .inl (cy 0, 8, .inl u7)), (q_t_then, .inl (cy 0, 8, .inl u8)), (q_t_darkAt, .inl (cy 0, 25, .inl u9)), (q_t_can, .inl (cy 0, 25, .inl (upd v_t_can x13.toNatClampNeg ((1 : Int32) <<< (p1 &&& 31)))))] := hD
        refine lv_iload hx hb dX8_hiddenHours_101 (lv_at hl 3 rfl) ?_
        refine lv_iconst (v := 1) hx hb dX8_hiddenHours_103 (by decide) ?_
        refine lv_isub hx hb dX8_hiddenHours_104 ?_
        refine lv_topi (fun x17 ex17 => ?_)
        have hf := vlE hf ex17
        clear ex17
        refine lv_istore (lv' := [(5, .int x17), (0, .ref q_t), (2, .int p1), (3, .int x12), (4, .int x13)]) hx hb dX8_hiddenHours_105 hl (by decide) rfl (fun ls hl => ?_)
        refine wlw2 107 (fun _ _ => []) (fun (x18 : Int32) (u19 : Nat → Int32) H locs ls => va_P D vwCl [(q_t, oX8 q_t_shelf q_t_rowSort q_t_rowSize q_t_rows q_t_moved q_t_shown q_t_tape v_t_tapeSize q_t_refused v_t_places q_t_ways v_t_people q_t_kind q_t_by q_t_home q_t_aim q_t_at0 v_t_hour v_t_chance v_t_seed w_t_kept w_t_tried v_t_at v_t_token v_t_from v_t_figures v_t_fault q_t_told v_t_statements q_t_steps q_t_spot q_t_then u5 v_t_gone q_t_sights q_t_darkAt q_t_can), (q_t_ways, .inl (cy 0, 12, .inl v_t_ways)), (q_t_kind, .inl (cy 0, 8, .inl v_t_kind)), (q_t_home, .inl (cy 0, 8, .inl v_t_home)), (q_t_aim, .inl (cy 0, 8, .inl v_t_aim)), (q_t_at0, .inl (cy 0, 8, .inl v_t_at0)), (q_t_steps, .inl (cy 0, 12, .inl u6)), (q_t_spot, .inl (cy 0, 8, .inl u7)), (q_t_then, .inl (cy 0, 8, .inl u8)), (q_t_darkAt, .inl (cy 0, 25, .inl u9)), (q_t_can, .inl (cy 0, 25, .inl u19))] H ∧ va_D A [(q_t, oX8 q_t_shelf q_t_rowSort q_t_rowSize q_t_rows q_t_moved q_t_shown q_t_tape v_t_tapeSize q_t_refused v_t_places q_t_ways v_t_people q_t_kind q_t_by q_t_home q_t_aim q_t_at0 v_t_hour v_t_chance v_t_seed w_t_kept w_t_tried v_t_at v_t_token v_t_from v_t_figures v_t_fault q_t_told v_t_statements q_t_steps q_t_spot q_t_then u5 v_t_gone q_t_sights q_t_darkAt q_t_can), (q_t_ways, .inl (cy 0, 12, .inl v_t_ways)), (q_t_kind, .inl (cy 0, 8, .inl v_t_kind)), (q_t_home, .inl (cy 0, 8, .inl v_t_home)), (q_t_aim, .inl (cy 0, 8, .inl v_t_aim)), (q_t_at0, .inl (cy 0, 8, .inl v_t_at0)), (q_t_steps, .inl (cy 0, 12, .inl u6)), (q_t_spot, .inl (cy 0, 8, .inl u7)), (q_t_then, .inl (cy 0, 8, .inl u8)), (q_t_darkAt, .inl (cy 0, 25, .inl u9)), (q_t_can, .inl (cy 0, 25, .inl u19))] ∧ va_S A s.heap H locs ∧ lv_has ls 6 [(5, .int x18), (0, .ref q_t), (4, .int x13)]) (fun g20 L107 x18 u19 H locs ls hI hf => ?_) 400 x17 (upd v_t_can x13.toNatClampNeg ((1 : Int32) <<< (p1 &&& 31))) _ _ ls ⟨hP, hD, hS, lv_sub hl [0, 1, 4] rfl⟩ hf
        obtain ⟨hP, hD, hS, hl⟩ := hI
        refine lv_iload hx hb dX8_hiddenHours_107 (lv_at hl 0 rfl) ?_
        refine lv_if_lt (tgt := 146) hx hb dX8_hiddenHours_109 (by decide) (fun c27 => ?_) (fun c27 => ?_)
        · have hf := ifT hf c27
          clear c27
          refine lv_iload hx hb dX8_hiddenHours_146 (lv_at hl 2 rfl) ?_
          cases hf
          exact W.iret hx hb hr (fun t ht hW => ⟨⟨_, (), rfl, rfl, xend ht hP⟩, hS.F ht⟩) hS.2.2 dX8_hiddenHours_148
        · have hf := ifF hf c27
          clear c27
          refine lv_aload_n hx hb dX8_hiddenHours_112 rfl (lv_at hl 1 rfl) ?_
          refine va_get (D := D) (ci := 8) (v := .ref q_t_can) (C := RX8) (T := TX8) (N := 37) hx hb hts hinX8 hown hK.1 hP 0 rfl rfl 36 (by decide) hk88 (fun _ h9 => h9) rfl dX8_hiddenHours_113 ?_
          refine lv_iload hx hb dX8_hiddenHours_116 (lv_at hl 0 rfl) ?_
          refine lv_aload_n hx hb dX8_hiddenHours_118 rfl (lv_at hl 1 rfl) ?_
          refine lv_aload_n hx hb dX8_hiddenHours_119 rfl (lv_at hl 1 rfl) ?_
          refine va_get (D := D) (ci := 8) (v := .ref q_t_can) (C := RX8) (T := TX8) (N := 37) hx hb hts hinX8 hown hK.1 hP 0 rfl rfl 36 (by decide) hk88 (fun _ h9 => h9) rfl dX8_hiddenHours_120 ?_
          refine lv_iload hx hb dX8_hiddenHours_123 (lv_at hl 0 rfl) ?_
          refine lv_iconst (v := 1) hx hb dX8_hiddenHours_125 (by decide) ?_
          refine lv_iadd hx hb dX8_hiddenHours_126 ?_
          obtain ⟨hi21, hf⟩ := ckE hf
          refine va_iald hx hb hK.1 hP 10 0 rfl rfl hi21 dX8_hiddenHours_127 ?_
          obtain ⟨r22, hr23, hf⟩ := boE1 hf
          have hPc := hP.sub (ws' := [(q_t, oX8 q_t_shelf q_t_rowSort q_t_rowSize q_t_rows q_t_moved q_t_shown q_t_tape v_t_tapeSize q_t_refused v_t_places q_t_ways v_t_people q_t_kind q_t_by q_t_home q_t_aim q_t_at0 v_t_hour v_t_chance v_t_seed w_t_kept w_t_tried v_t_at v_t_token v_t_from v_t_figures v_t_fault q_t_told v_t_statements q_t_steps q_t_spot q_t_then u5 v_t_gone q_t_sights q_t_darkAt q_t_can), (q_t_ways, .inl (cy 0, 12, .inl v_t_ways))]) [0, 1] rfl
          refine xcSi (va_runV (As := [.int (u19 (x18 + (1 : Int32)).toNatClampNeg)]) (rest := [.int x18, .ref q_t_can]) ⟨hx, hb, hml, hown, hts⟩ (mX8_besides l D cy q_t q_t_shelf q_t_rowSort q_t_rowSize q_t_rows q_t_moved q_t_shown q_t_tape q_t_refused q_t_ways q_t_kind q_t_by q_t_home q_t_aim q_t_at0 q_t_told q_t_steps q_t_spot q_t_then q_t_sights q_t_darkAt q_t_can v_t_tapeSize v_t_places v_t_people v_t_hour v_t_chance v_t_seed w_t_kept w_t_tried v_t_at v_t_token v_t_from v_t_figures v_t_fault v_t_statements u5 v_t_gone v_t_ways  (u19 (x18 + (1 : Int32)).toNatClampNeg) hr23) (cwV 1 hts gX8_hiddenHours_X8_besides rfl rfl rfl (by decide +kernel) ⟨Nat.le_of_ble_eq_true rfl, Nat.le_of_ble_eq_true rfl⟩) (xPV hK hPc (ci := 8) (q0 := 0) rfl rfl) rfl rfl hl.1 rfl (lv_room (Nat.le_of_ble_eq_true rfl)) dX8_hiddenHours_128 ⟨Nat.le_of_ble_eq_true rfl, Nat.le_of_ble_eq_true rfl⟩) ?_
          refine lv_aload_n hx hb dX8_hiddenHours_131 rfl (lv_at hl 1 rfl) ?_
          refine va_get (D := D) (ci := 8) (v := .ref q_t_darkAt) (C := RX8) (T := TX8) (N := 37) hx hb hts hinX8 hown hK.1 hP 0 rfl rfl 35 (by decide) hk85 (fun _ h9 => h9) rfl dX8_hiddenHours_132 ?_
          refine lv_iload hx hb dX8_hiddenHours_135 (lv_at hl 0 rfl) ?_
          obtain ⟨hi24, hf⟩ := ckE hf
          refine va_iald hx hb hK.1 hP 9 0 rfl rfl hi24 dX8_hiddenHours_137 ?_
          refine lv_iand hx hb dX8_hiddenHours_138 ?_
          obtain ⟨hi25, hf⟩ := ckE hf
          refine va_iast hx hb hK.1 hP hD hS 10 0 rfl rfl hi25 dX8_hiddenHours_139 (fun H locs hP hD hS => ?_)
          have hP : va_P D vwCl [(q_t, oX8 q_t_shelf q_t_rowSort q_t_rowSize q_t_rows q_t_moved q_t_shown q_t_tape v_t_tapeSize q_t_refused v_t_places q_t_ways v_t_people q_t_kind q_t_by q_t_home q_t_aim q_t_at0 v_t_hour v_t_chance v_t_seed w_t_kept w_t_tried v_t_at v_t_token v_t_from v_t_figures v_t_fault q_t_told v_t_statements q_t_steps q_t_spot q_t_then u5 v_t_gone q_t_sights q_t_darkAt q_t_can), (q_t_ways, .inl (cy 0, 12, .inl v_t_ways)), (q_t_kind, .inl (cy 0, 8, .inl v_t_kind)), (q_t_home, .inl (cy 0, 8, .inl v_t_home)), (q_t_aim, .inl (cy 0, 8, .inl v_t_aim)), (q_t_at0, .inl (cy 0, 8, .inl v_t_at0)), (q_t_steps, .inl (cy 0, 12, .inl u6)), (q_t_spot, .inl (cy 0, 8, .inl u7)), (q_t_then, .inl (cy 0, 8, .inl u8)), (q_t_darkAt, .inl (cy 0, 25, .inl u9)), (q_t_can, .inl (cy 0, 25, .inl (upd u19 x18.toNatClampNeg (r22 &&& (u9 x18.toNatClampNeg)))))] H := hP
          have hD : va_D A [(q_t, oX8 q_t_shelf q_t_rowSort q_t_rowSize q_t_rows q_t_moved q_t_shown q_t_tape v_t_tapeSize q_t_refused v_t_places q_t_ways v_t_people q_t_kind q_t_by q_t_home q_t_aim q_t_at0 v_t_hour v_t_chance v_t_seed w_t_kept w_t_tried v_t_at v_t_token v_t_from v_t_figures v_t_fault q_t_told v_t_statements q_t_steps q_t_spot q_t_then u5 v_t_gone q_t_sights q_t_darkAt q_t_can), (q_t_ways, .inl (cy 0, 12, .inl v_t_ways)), (q_t_kind, .inl (cy 0, 8, .inl v_t_kind)), (q_t_home, .inl (cy 0, 8, .inl v_t_home)), (q_t_aim, .inl (cy 0, 8, .inl v_t_aim)), (q_t_at0, .inl (cy 0, 8, .inl v_t_at0)), (q_t_steps, .inl (cy 0, 12, .inl u6)), (q_t_spot, .inl (cy 0, 8, .inl u7)), (q_t_then, .inl (cy 0, 8, .inl u8)), (q_t_darkAt, .inl (cy 0, 25, .inl u9)), (q_t_can, .inl (cy 0, 25, .inl (upd u19 x18.toNatClampNeg (r22 &&& (u9 x18.toNatClampNeg)))))] := hD
          obtain ⟨x26, ex26⟩ : ∃ y : Int32, y = x18 + (-1 : Int32) := ⟨_, rfl⟩
          have hf := vlE hf ex26
          refine lv_iinc (v := x26) (lv' := [(5, .int x26), (0, .ref q_t), (4, .int x13)]) hx hb dX8_hiddenHours_140 hl (k := 0) rfl (by rw [ex26]; rfl) (by decide) rfl (fun ls hl => ?_)
          clear ex26
          refine lv_goto (tgt := 107) hx hb dX8_hiddenHours_143 (by decide) ?_
          exact L107 x26 (upd u19 x18.toNatClampNeg (r22 &&& (u9 x18.toNatClampNeg))) _ _ ls ⟨hP, hD, hS, lv_sub hl [0, 1, 2] rfl⟩ hf
      · have hf := ifT hf c28
        clear c28
        refine lv_iconst (v := (-1)) hx hb dX8_hiddenHours_89 (by decide) ?_
        cases hf
        exact W.iret (v := (-1 : Int32)) hx hb hr (fun t ht hW => ⟨⟨(-1 : Int32), (), rfl, rfl, xend ht hP⟩, hS.F ht⟩) hS.2.2 dX8_hiddenHours_90
    · refine lv_if_ne (tgt := 81) hx hb dX8_hiddenHours_51 (by decide) (fun c35 => ?_) (fun c35 => ?_)
      · have hf := ifF hf c35
        clear c35
        exact J81 _ _ ls ⟨hP, hD, hS, lv_sub hl [2, 3, 0, 1] rfl⟩ hf
      · have hf := ifT hf c35
        clear c35
        refine lv_iload hx hb dX8_hiddenHours_54 (lv_at hl 1 rfl) ?_
        refine lv_bipush (v := 24) hx hb dX8_hiddenHours_56 (by decide) ?_
        refine lv_icmp_ge (tgt := 81) hx hb dX8_hiddenHours_58 (by decide) (fun c34 => ?_) (fun c34 => ?_)
        · have hf := ifT hf c34
          clear c34
          exact J81 _ _ ls ⟨hP, hD, hS, lv_sub hl [2, 3, 0, 1] rfl⟩ hf
        · have hf := ifF hf c34
          clear c34
          obtain ⟨x29, ex29⟩ : ∃ y : Int32, y = x13 + (1 : Int32) := ⟨_, rfl⟩
          have hf := vlE hf ex29
          refine lv_iinc (v := x29) (lv' := [(4, .int x29), (3, .int x12), (0, .ref q_t), (2, .int p1)]) hx hb dX8_hiddenHours_61 hl (k := 1) rfl (by rw [ex29]; rfl) (by decide) rfl (fun ls hl => ?_)
          clear ex29
          refine lv_aload_n hx hb dX8_hiddenHours_64 rfl (lv_at hl 2 rfl) ?_
          refine lv_iload_n hx hb dX8_hiddenHours_65 rfl (lv_at hl 1 rfl) ?_
          obtain ⟨r30, hr31, hf⟩ := boE1 hf
          have hPc := hP.sub (ws' := [(q_t, oX8 q_t_shelf q_t_rowSort q_t_rowSize q_t_rows q_t_moved q_t_shown q_t_tape v_t_tapeSize q_t_refused v_t_places q_t_ways v_t_people q_t_kind q_t_by q_t_home q_t_aim q_t_at0 v_t_hour v_t_chance v_t_seed w_t_kept w_t_tried v_t_at v_t_token v_t_from v_t_figures v_t_fault q_t_told v_t_statements q_t_steps q_t_spot q_t_then u5 v_t_gone q_t_sights q_t_darkAt q_t_can), (q_t_ways, .inl (cy 0, 12, .inl v_t_ways))]) [0, 1] rfl
          refine xcSi (va_runV (As := [.int x12]) (rest := []) ⟨hx, hb, hml, hown, hts⟩ (mX8_besides l D cy q_t q_t_shelf q_t_rowSort q_t_rowSize q_t_rows q_t_moved q_t_shown q_t_tape q_t_refused q_t_ways q_t_kind q_t_by q_t_home q_t_aim q_t_at0 q_t_told q_t_steps q_t_spot q_t_then q_t_sights q_t_darkAt q_t_can v_t_tapeSize v_t_places v_t_people v_t_hour v_t_chance v_t_seed w_t_kept w_t_tried v_t_at v_t_token v_t_from v_t_figures v_t_fault v_t_statements u5 v_t_gone v_t_ways  x12 hr31) (cwV 1 hts gX8_hiddenHours_X8_besides rfl rfl rfl (by decide +kernel) ⟨Nat.le_of_ble_eq_true rfl, Nat.le_of_ble_eq_true rfl⟩) (xPV hK hPc (ci := 8) (q0 := 0) rfl rfl) rfl rfl hl.1 rfl (lv_room (Nat.le_of_ble_eq_true rfl)) dX8_hiddenHours_66 ⟨Nat.le_of_ble_eq_true rfl, Nat.le_of_ble_eq_true rfl⟩) ?_
          refine lv_aload_n hx hb dX8_hiddenHours_69 rfl (lv_at hl 2 rfl) ?_
          refine va_get (D := D) (ci := 8) (v := .ref q_t_darkAt) (C := RX8) (T := TX8) (N := 37) hx hb hts hinX8 hown hK.1 hP 0 rfl rfl 35 (by decide) hk85 (fun _ h9 => h9) rfl dX8_hiddenHours_70 ?_
          refine lv_iload hx hb dX8_hiddenHours_73 (lv_at hl 0 rfl) ?_
          obtain ⟨hi32, hf⟩ := ckE hf
          refine va_iald hx hb hK.1 hP 9 0 rfl rfl hi32 dX8_hiddenHours_75 ?_
          refine lv_iand hx hb dX8_hiddenHours_76 ?_
          refine lv_topi (fun x33 ex33 => ?_)
          have hf := vlE hf ex33
          clear ex33
          refine lv_istore_n (lv' := [(3, .int x33), (4, .int x29), (0, .ref q_t), (2, .int p1)]) hx hb dX8_hiddenHours_77 rfl hl (by decide) rfl (fun ls hl => ?_)
          refine lv_goto (tgt := 46) hx hb dX8_hiddenHours_78 (by decide) ?_
          exact L46 x33 x29 _ _ ls ⟨hP, hD, hS, lv_sub hl [0, 1, 2, 3] rfl⟩ hf
  · have hf := ifF hf c45
    clear c45
    refine lv_aload_n hx hb dX8_hiddenHours_12 rfl (lv_at hl 1 rfl) ?_
    refine va_get (D := D) (ci := 8) (v := .ref q_t_darkAt) (C := RX8) (T := TX8) (N := 37) hx hb hts hinX8 hown hK.1 hP 0 rfl rfl 35 (by decide) hk85 (fun _ h9 => h9) rfl dX8_hiddenHours_13 ?_
    refine lv_iload_n hx hb dX8_hiddenHours_16 rfl (lv_at hl 0 rfl) ?_
    refine lv_aload_n hx hb dX8_hiddenHours_17 rfl (lv_at hl 1 rfl) ?_
    obtain ⟨r36, hr37, hf⟩ := boE1 hf
    have hPc := hP.sub (ws' := [(q_t, oX8 q_t_shelf q_t_rowSort q_t_rowSize q_t_rows q_t_moved q_t_shown q_t_tape v_t_tapeSize q_t_refused v_t_places q_t_ways v_t_people q_t_kind q_t_by q_t_home q_t_aim q_t_at0 v_t_hour v_t_chance v_t_seed w_t_kept w_t_tried v_t_at v_t_token v_t_from v_t_figures v_t_fault q_t_told v_t_statements q_t_steps q_t_spot q_t_then u5 v_t_gone q_t_sights q_t_darkAt q_t_can), (q_t_kind, .inl (cy 0, 8, .inl v_t_kind)), (q_t_spot, .inl (cy 0, 8, .inl u7))]) [0, 2, 7] rfl
    refine xcSi (va_runV (As := []) (rest := [.int x4, .ref q_t_darkAt]) ⟨hx, hb, hml, hown, hts⟩ (mX8_dark l D cy q_t q_t_shelf q_t_rowSort q_t_rowSize q_t_rows q_t_moved q_t_shown q_t_tape q_t_refused q_t_ways q_t_kind q_t_by q_t_home q_t_aim q_t_at0 q_t_told q_t_steps q_t_spot q_t_then q_t_sights q_t_darkAt q_t_can v_t_tapeSize v_t_places v_t_people v_t_hour v_t_chance v_t_seed w_t_kept w_t_tried v_t_at v_t_token v_t_from v_t_figures v_t_fault v_t_statements u5 v_t_gone v_t_kind u7   hr37) (cwV 0 hts gX8_hiddenHours_X8_dark rfl rfl rfl (by decide +kernel) ⟨Nat.le_of_ble_eq_true rfl, Nat.le_of_ble_eq_true rfl⟩) (xPV hK hPc (ci := 8) (q0 := 0) rfl rfl) rfl rfl hl.1 rfl (lv_room (Nat.le_of_ble_eq_true rfl)) dX8_hiddenHours_18 ⟨Nat.le_of_ble_eq_true rfl, Nat.le_of_ble_eq_true rfl⟩) ?_
    obtain ⟨hi38, hf⟩ := ckE hf
    refine va_iast hx hb hK.1 hP hD hS 9 0 rfl rfl hi38 dX8_hiddenHours_21 (fun H locs hP hD hS => ?_)
    have hP : va_P D vwCl [(q_t, oX8 q_t_shelf q_t_rowSort q_t_rowSize q_t_rows q_t_moved q_t_shown q_t_tape v_t_tapeSize q_t_refused v_t_places q_t_ways v_t_people q_t_kind q_t_by q_t_home q_t_aim q_t_at0 v_t_hour v_t_chance v_t_seed w_t_kept w_t_tried v_t_at v_t_token v_t_from v_t_figures v_t_fault q_t_told v_t_statements q_t_steps q_t_spot q_t_then u5 v_t_gone q_t_sights q_t_darkAt q_t_can), (q_t_ways, .inl (cy 0, 12, .inl v_t_ways)), (q_t_kind, .inl (cy 0, 8, .inl v_t_kind)), (q_t_home, .inl (cy 0, 8, .inl v_t_home)), (q_t_aim, .inl (cy 0, 8, .inl v_t_aim)), (q_t_at0, .inl (cy 0, 8, .inl v_t_at0)), (q_t_steps, .inl (cy 0, 12, .inl u6)), (q_t_spot, .inl (cy 0, 8, .inl u7)), (q_t_then, .inl (cy 0, 8, .inl u8)), (q_t_darkAt, .inl (cy 0, 25, .inl (upd u9 x4.toNatClampNeg r36))), (q_t_can, .inl (cy 0, 25, .inl v_t_can))] H := hP
    have hD : va_D A [(q_t, oX8 q_t_shelf q_t_rowSort q_t_rowSize q_t_rows q_t_moved q_t_shown q_t_tape v_t_tapeSize q_t_refused v_t_places q_t_ways v_t_people q_t_kind q_t_by q_t_home q_t_aim q_t_at0 v_t_hour v_t_chance v_t_seed w_t_kept w_t_tried v_t_at v_t_token v_t_from v_t_figures v_t_fault q_t_told v_t_statements q_t_steps q_t_spot q_t_then u5 v_t_gone q_t_sights q_t_darkAt q_t_can), (q_t_ways, .inl (cy 0, 12, .inl v_t_ways)), (q_t_kind, .inl (cy 0, 8, .inl v_t_kind)), (q_t_home, .inl (cy 0, 8, .inl v_t_home)), (q_t_aim, .inl (cy 0, 8, .inl v_t_aim)), (q_t_at0, .inl (cy 0, 8, .inl v_t_at0)), (q_t_steps, .inl (cy 0, 12, .inl u6)), (q_t_spot, .inl (cy 0, 8, .inl u7)), (q_t_then, .inl (cy 0, 8, .inl u8)), (q_t_darkAt, .inl (cy 0, 25, .inl (upd u9 x4.toNatClampNeg r36))), (q_t_can, .inl (cy 0, 25, .inl v_t_can))] := hD
    refine lv_aload_n hx hb dX8_hiddenHours_22 rfl (lv_at hl 1 rfl) ?_
    obtain ⟨u39, u40, u41, u42, hr43, hf⟩ := boE4 hf
    have hPc := hP.sub (ws' := [(q_t, oX8 q_t_shelf q_t_rowSort q_t_rowSize q_t_rows q_t_moved q_t_shown q_t_tape v_t_tapeSize q_t_refused v_t_places q_t_ways v_t_people q_t_kind q_t_by q_t_home q_t_aim q_t_at0 v_t_hour v_t_chance v_t_seed w_t_kept w_t_tried v_t_at v_t_token v_t_from v_t_figures v_t_fault q_t_told v_t_statements q_t_steps q_t_spot q_t_then u5 v_t_gone q_t_sights q_t_darkAt q_t_can), (q_t_ways, .inl (cy 0, 12, .inl v_t_ways)), (q_t_kind, .inl (cy 0, 8, .inl v_t_kind)), (q_t_home, .inl (cy 0, 8, .inl v_t_home)), (q_t_aim, .inl (cy 0, 8, .inl v_t_aim)), (q_t_steps, .inl (cy 0, 12, .inl u6)), (q_t_spot, .inl (cy 0, 8, .inl u7)), (q_t_then, .inl (cy 0, 8, .inl u8))]) [0, 1, 2, 3, 4, 6, 7, 8] rfl
    have hDc := hD.sub (ws' := [(q_t, oX8 q_t_shelf q_t_rowSort q_t_rowSize q_t_rows q_t_moved q_t_shown q_t_tape v_t_tapeSize q_t_refused v_t_places q_t_ways v_t_people q_t_kind q_t_by q_t_home q_t_aim q_t_at0 v_t_hour v_t_chance v_t_seed w_t_kept w_t_tried v_t_at v_t_token v_t_from v_t_figures v_t_fault q_t_told v_t_statements q_t_steps q_t_spot q_t_then u5 v_t_gone q_t_sights q_t_darkAt q_t_can), (q_t_ways, .inl (cy 0, 12, .inl v_t_ways)), (q_t_kind, .inl (cy 0, 8, .inl v_t_kind)), (q_t_home, .inl (cy 0, 8, .inl v_t_home)), (q_t_aim, .inl (cy 0, 8, .inl v_t_aim)), (q_t_steps, .inl (cy 0, 12, .inl u6)), (q_t_spot, .inl (cy 0, 8, .inl u7)), (q_t_then, .inl (cy 0, 8, .inl u8))]) [0, 1, 2, 3, 4, 6, 7, 8] (by decide) rfl
    refine xcQv (w1 := [(q_t, oX8 q_t_shelf q_t_rowSort q_t_rowSize q_t_rows q_t_moved q_t_shown q_t_tape v_t_tapeSize q_t_refused v_t_places q_t_ways v_t_people q_t_kind q_t_by q_t_home q_t_aim q_t_at0 v_t_hour v_t_chance v_t_seed w_t_kept w_t_tried v_t_at v_t_token v_t_from v_t_figures v_t_fault q_t_told v_t_statements q_t_steps q_t_spot q_t_then u39 v_t_gone q_t_sights q_t_darkAt q_t_can), (q_t_ways, .inl (cy 0, 12, .inl v_t_ways)), (q_t_kind, .inl (cy 0, 8, .inl v_t_kind)), (q_t_home, .inl (cy 0, 8, .inl v_t_home)), (q_t_aim, .inl (cy 0, 8, .inl v_t_aim)), (q_t_steps, .inl (cy 0, 12, .inl u40)), (q_t_spot, .inl (cy 0, 8, .inl u41)), (q_t_then, .inl (cy 0, 8, .inl u42))]) (va_runV (As := []) (rest := []) ⟨hx, hb, hml, hown, hts⟩ (mX8_goes l D cy q_t q_t_shelf q_t_rowSort q_t_rowSize q_t_rows q_t_moved q_t_shown q_t_tape q_t_refused q_t_ways q_t_kind q_t_by q_t_home q_t_aim q_t_at0 q_t_told q_t_steps q_t_spot q_t_then q_t_sights q_t_darkAt q_t_can v_t_tapeSize v_t_places v_t_people v_t_hour v_t_chance v_t_seed w_t_kept w_t_tried v_t_at v_t_token v_t_from v_t_figures v_t_fault v_t_statements u5 v_t_gone v_t_ways v_t_kind v_t_home v_t_aim u6 u7 u8 _  hr43) (cwV 0 hts gX8_hiddenHours_X8_goes rfl rfl rfl (by decide +kernel) ⟨Nat.le_of_ble_eq_true rfl, Nat.le_of_ble_eq_true rfl⟩) (xPVw hK hPc hDc (ci := 8) (q0 := 0) rfl rfl) rfl rfl hl.1 rfl (lv_room (Nat.le_of_ble_eq_true rfl)) dX8_hiddenHours_23 ⟨Nat.le_of_ble_eq_true rfl, Nat.le_of_ble_eq_true rfl⟩) hP hD hS hA [0, 1, 2, 3, 4, 6, 7, 8] rfl rfl (fun H locs hP hD hS => ?_)
    have hP : va_P D vwCl [(q_t, oX8 q_t_shelf q_t_rowSort q_t_rowSize q_t_rows q_t_moved q_t_shown q_t_tape v_t_tapeSize q_t_refused v_t_places q_t_ways v_t_people q_t_kind q_t_by q_t_home q_t_aim q_t_at0 v_t_hour v_t_chance v_t_seed w_t_kept w_t_tried v_t_at v_t_token v_t_from v_t_figures v_t_fault q_t_told v_t_statements q_t_steps q_t_spot q_t_then u39 v_t_gone q_t_sights q_t_darkAt q_t_can), (q_t_ways, .inl (cy 0, 12, .inl v_t_ways)), (q_t_kind, .inl (cy 0, 8, .inl v_t_kind)), (q_t_home, .inl (cy 0, 8, .inl v_t_home)), (q_t_aim, .inl (cy 0, 8, .inl v_t_aim)), (q_t_at0, .inl (cy 0, 8, .inl v_t_at0)), (q_t_steps, .inl (cy 0, 12, .inl u40)), (q_t_spot, .inl (cy 0, 8, .inl u41)), (q_t_then, .inl (cy 0, 8, .inl u42)), (q_t_darkAt, .inl (cy 0, 25, .inl (upd u9 x4.toNatClampNeg r36))), (q_t_can, .inl (cy 0, 25, .inl v_t_can))] H := hP
    have hD : va_D A [(q_t, oX8 q_t_shelf q_t_rowSort q_t_rowSize q_t_rows q_t_moved q_t_shown q_t_tape v_t_tapeSize q_t_refused v_t_places q_t_ways v_t_people q_t_kind q_t_by q_t_home q_t_aim q_t_at0 v_t_hour v_t_chance v_t_seed w_t_kept w_t_tried v_t_at v_t_token v_t_from v_t_figures v_t_fault q_t_told v_t_statements q_t_steps q_t_spot q_t_then u39 v_t_gone q_t_sights q_t_darkAt q_t_can), (q_t_ways, .inl (cy 0, 12, .inl v_t_ways)), (q_t_kind, .inl (cy 0, 8, .inl v_t_kind)), (q_t_home, .inl (cy 0, 8, .inl v_t_home)), (q_t_aim, .inl (cy 0, 8, .inl v_t_aim)), (q_t_at0, .inl (cy 0, 8, .inl v_t_at0)), (q_t_steps, .inl (cy 0, 12, .inl u40)), (q_t_spot, .inl (cy 0, 8, .inl u41)), (q_t_then, .inl (cy 0, 8, .inl u42)), (q_t_darkAt, .inl (cy 0, 25, .inl (upd u9 x4.toNatClampNeg r36))), (q_t_can, .inl (cy 0, 25, .inl v_t_can))] := hD
    obtain ⟨x44, ex44⟩ : ∃ y : Int32, y = x4 + (1 : Int32) := ⟨_, rfl⟩
    have hf := vlE hf ex44
    refine lv_iinc (v := x44) (lv' := [(3, .int x44), (0, .ref q_t), (1, .int p0), (2, .int p1)]) hx hb dX8_hiddenHours_26 hl (k := 0) rfl (by rw [ex44]; rfl) (by decide) rfl (fun ls hl => ?_)
    clear ex44
    refine lv_goto (tgt := 6) hx hb dX8_hiddenHours_29 (by decide) ?_
    exact L6 x44 u39 u40 u41 u42 (upd u9 x4.toNatClampNeg r36) _ _ ls ⟨hP, hD, hS, lv_sub hl [0, 1, 2, 3] rfl⟩ hf
