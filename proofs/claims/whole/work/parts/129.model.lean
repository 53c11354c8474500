def fX8_copy (v_t_shelf : Nat → Int32) (v_t_rowSort : Nat → Int32) (v_t_rowSize : Nat → Int32) (v_t_moved : Nat → Int64) (v_t_refused : Nat → Int32) (v_t_rows : Nat → Nat → Int64) (p0 : Int32) (p1 : Int32) (p2 : Int32) (p3 : Int32) (p4 : Int32) : Option (Int32 × (Nat → Int64) × (Nat → Int32) × (Nat → Nat → Int64)) :=
  bo1 (fX8_in p0.toInt64 (0 : Int64) (7 : Int64)) fun r1 =>
  jo0 (
    bo2 (fX8_refuse v_t_refused (-2 : Int32)) fun r4 u5 =>
    some (r4, v_t_moved, u5, v_t_rows)) fun k3 =>
  if r1 = 0 then
    k3
  else
    bo1 (fX8_in p1.toInt64 (0 : Int64) (7 : Int64)) fun r7 =>
    if r7 = 0 then
      k3
    else
      if p0 < 0 ∨ 8 ≤ p0.toNatClampNeg then none else
      jo0 (
        bo2 (fX8_refuse v_t_refused (-3 : Int32)) fun r11 u12 =>
        some (r11, v_t_moved, u12, v_t_rows)) fun k10 =>
      if (v_t_shelf p0.toNatClampNeg) = (2 : Int32) then
        k10
      else
        if p1 < 0 ∨ 8 ≤ p1.toNatClampNeg then none else
        if (v_t_shelf p1.toNatClampNeg) = (2 : Int32) then
          k10
        else
          if p0 < 0 ∨ 8 ≤ p0.toNatClampNeg then none else
          jo0 (
            if p0 < 0 ∨ 8 ≤ p0.toNatClampNeg then none else
            jo0 (
              bo2 (fX8_refuse v_t_refused (-4 : Int32)) fun r19 u20 =>
              some (r19, v_t_moved, u20, v_t_rows)) fun k18 =>
            if (v_t_shelf p0.toNatClampNeg) = 0 then
              k18
            else
              if p1 < 0 ∨ 8 ≤ p1.toNatClampNeg then none else
              if (v_t_shelf p1.toNatClampNeg) = 0 then
                k18
              else
                jo0 (
                  bo2 (fX8_refuse v_t_refused (-2 : Int32)) fun r24 u25 =>
                  some (r24, v_t_moved, u25, v_t_rows)) fun k23 =>
                if p4 < 0 then
                  k23
                else
                  if p2 < 0 then
                    k23
                  else
                    if p3 < 0 then
                      k23
                    else
                      if p0 < 0 ∨ 8 ≤ p0.toNatClampNeg then none else
                      if (v_t_rowSize p0.toNatClampNeg) < p4 then
                        k23
                      else
                        if p1 < 0 ∨ 8 ≤ p1.toNatClampNeg then none else
                        if (v_t_rowSize p1.toNatClampNeg) < p4 then
                          k23
                        else
                          if p0 < 0 ∨ 8 ≤ p0.toNatClampNeg then none else
                          if ((v_t_rowSize p0.toNatClampNeg) - p4) < p2 then
                            k23
                          else
                            if p1 < 0 ∨ 8 ≤ p1.toNatClampNeg then none else
                            if p3 ≤ ((v_t_rowSize p1.toNatClampNeg) - p4) then
                              lo2 (fun g33 (x31 : Int32) (u32 : Nat → Int64) =>
                                if p4 ≤ x31 then
                                  lo2 (fun g36 (x34 : Int32) (u35 : Nat → Nat → Int64) =>
                                    if p4 ≤ x34 then
                                      some (p4, u32, v_t_refused, u35)
                                    else
                                      if p1 < 0 ∨ 8 ≤ p1.toNatClampNeg then none else
                                      if x34 < 0 ∨ 40 ≤ x34.toNatClampNeg then none else
                                      if (p3 + x34) < 0 ∨ 40 ≤ (p3 + x34).toNatClampNeg then none else
                                      vlet (x34 + (1 : Int32)) fun x41 =>
                                      g36 x41 (va_up u35 p1.toNatClampNeg (vp_updL (u35 p1.toNatClampNeg) (p3 + x34).toNatClampNeg (u32 x34.toNatClampNeg)))) 400 (0 : Int32) v_t_rows
                                else
                                  if p0 < 0 ∨ 8 ≤ p0.toNatClampNeg then none else
                                  if (p2 + x31) < 0 ∨ 40 ≤ (p2 + x31).toNatClampNeg then none else
                                  if x31 < 0 ∨ 40 ≤ x31.toNatClampNeg then none else
                                  vlet (x31 + (1 : Int32)) fun x47 =>
                                  g33 x47 (vp_updL u32 x31.toNatClampNeg (v_t_rows p0.toNatClampNeg (p2 + x31).toNatClampNeg))) 400 (0 : Int32) v_t_moved
                            else
                              k23) fun k16 =>
          if (v_t_shelf p0.toNatClampNeg) = (1 : Int32) then
            if p1 < 0 ∨ 8 ≤ p1.toNatClampNeg then none else
            if (v_t_shelf p1.toNatClampNeg) = (1 : Int32) then
              if p0 < 0 ∨ 8 ≤ p0.toNatClampNeg then none else
              if p1 < 0 ∨ 8 ≤ p1.toNatClampNeg then none else
              if (v_t_rowSort p0.toNatClampNeg) = (v_t_rowSort p1.toNatClampNeg) then
                k16
              else
                k10
            else
              k16
          else
            k16
set_option maxHeartbeats 4000000 in
set_option maxRecDepth 100000 in
theorem mX8_copy (l : Launch) (D : va_G) (cy : Nat → ClassId) (q_t q_t_shelf q_t_rowSort q_t_rowSize q_t_rows q_t_moved q_t_shown q_t_tape q_t_refused q_t_ways q_t_kind q_t_by q_t_home q_t_aim q_t_at0 q_t_told q_t_steps q_t_spot q_t_then q_t_sights q_t_darkAt q_t_can : Nat) (ad_t_rows : Nat → Nat) (v_t_tapeSize : Int32) (v_t_places : Int32) (v_t_people : Int32) (v_t_hour : Int32) (v_t_chance : Int32) (v_t_seed : Int32) (w_t_kept : Value) (w_t_tried : Value) (v_t_at : Int32) (v_t_token : Int32) (v_t_from : Int32) (v_t_figures : Int32) (v_t_fault : Int32) (v_t_statements : Int32) (v_t_now : Int32) (v_t_gone : Int32) (v_t_shelf : Nat → Int32) (v_t_rowSort : Nat → Int32) (v_t_rowSize : Nat → Int32) (v_t_moved : Nat → Int64) (v_t_refused : Nat → Int32) (v_t_rows : Nat → Nat → Int64) (sz : Nat) (p0 : Int32) (p1 : Int32) (p2 : Int32) (p3 : Int32) (p4 : Int32) {r_ : Int32} {n_t_moved : Nat → Int64} {n_t_refused : Nat → Int32} {n_t_rows : Nat → Nat → Int64} (hf : fX8_copy v_t_shelf v_t_rowSort v_t_rowSize v_t_moved v_t_refused v_t_rows p0 p1 p2 p3 p4 = some (r_, n_t_moved, n_t_refused, n_t_rows)) : Met l yX8_copy wsX8_copy ({ frames := 1, cells := 0, slots := 0, locals := 25 }) (va_Pc [.ref q_t, .int p0, .int p1, .int p2, .int p3, .int p4] (fun U => U.heap.size = sz ∧ va_P D vwCl ([(q_t, oX8 q_t_shelf q_t_rowSort q_t_rowSize q_t_rows q_t_moved q_t_shown q_t_tape v_t_tapeSize q_t_refused v_t_places q_t_ways v_t_people q_t_kind q_t_by q_t_home q_t_aim q_t_at0 v_t_hour v_t_chance v_t_seed w_t_kept w_t_tried v_t_at v_t_token v_t_from v_t_figures v_t_fault q_t_told v_t_statements q_t_steps q_t_spot q_t_then v_t_now v_t_gone q_t_sights q_t_darkAt q_t_can), (q_t_shelf, .inl (cy 0, 8, .inl v_t_shelf)), (q_t_rowSort, .inl (cy 0, 8, .inl v_t_rowSort)), (q_t_rowSize, .inl (cy 0, 8, .inl v_t_rowSize)), (q_t_rows, .inl (cy 4, 8, .inr (.inr (.inr (.inr (fun i => some (ad_t_rows i))))))), (q_t_moved, .inl (cy 1, 40, .inr (.inl v_t_moved))), (q_t_refused, .inl (cy 0, 8, .inl v_t_refused))] ++ wFJ cy 8 40 ad_t_rows v_t_rows) U.heap ∧ xK D cy U ∧ va_D (fun _ => True) ([(q_t, oX8 q_t_shelf q_t_rowSort q_t_rowSize q_t_rows q_t_moved q_t_shown q_t_tape v_t_tapeSize q_t_refused v_t_places q_t_ways v_t_people q_t_kind q_t_by q_t_home q_t_aim q_t_at0 v_t_hour v_t_chance v_t_seed w_t_kept w_t_tried v_t_at v_t_token v_t_from v_t_figures v_t_fault q_t_told v_t_statements q_t_steps q_t_spot q_t_then v_t_now v_t_gone q_t_sights q_t_darkAt q_t_can), (q_t_shelf, .inl (cy 0, 8, .inl v_t_shelf)), (q_t_rowSort, .inl (cy 0, 8, .inl v_t_rowSort)), (q_t_rowSize, .inl (cy 0, 8, .inl v_t_rowSize)), (q_t_rows, .inl (cy 4, 8, .inr (.inr (.inr (.inr (fun i => some (ad_t_rows i))))))), (q_t_moved, .inl (cy 1, 40, .inr (.inl v_t_moved))), (q_t_refused, .inl (cy 0, 8, .inl v_t_refused))] ++ wFJ cy 8 40 ad_t_rows v_t_rows))) (va_Qi (fun (x : Int32) (_ : Unit) => x = r_) (fun _ t => va_P D vwCl ([(q_t, oX8 q_t_shelf q_t_rowSort q_t_rowSize q_t_rows q_t_moved q_t_shown q_t_tape v_t_tapeSize q_t_refused v_t_places q_t_ways v_t_people q_t_kind q_t_by q_t_home q_t_aim q_t_at0 v_t_hour v_t_chance v_t_seed w_t_kept w_t_tried v_t_at v_t_token v_t_from v_t_figures v_t_fault q_t_told v_t_statements q_t_steps q_t_spot q_t_then v_t_now v_t_gone q_t_sights q_t_darkAt q_t_can), (q_t_shelf, .inl (cy 0, 8, .inl v_t_shelf)), (q_t_rowSort, .inl (cy 0, 8, .inl v_t_rowSort)), (q_t_rowSize, .inl (cy 0, 8, .inl v_t_rowSize)), (q_t_rows, .inl (cy 4, 8, .inr (.inr (.inr (.inr (fun i => some (ad_t_rows i))))))), (q_t_moved, .inl (cy 1, 40, .inr (.inl n_t_moved))), (q_t_refused, .inl (cy 0, 8, .inl n_t_refused))] ++ wFJ cy 8 40 ad_t_rows n_t_rows) t.heap) (va_A ([(q_t, oX8 q_t_shelf q_t_rowSort q_t_rowSize q_t_rows q_t_moved q_t_shown q_t_tape v_t_tapeSize q_t_refused v_t_places q_t_ways v_t_people q_t_kind q_t_by q_t_home q_t_aim q_t_at0 v_t_hour v_t_chance v_t_seed w_t_kept w_t_tried v_t_at v_t_token v_t_from v_t_figures v_t_fault q_t_told v_t_statements q_t_steps q_t_spot q_t_then v_t_now v_t_gone q_t_sights q_t_darkAt q_t_can), (q_t_shelf, .inl (cy 0, 8, .inl v_t_shelf)), (q_t_rowSort, .inl (cy 0, 8, .inl v_t_rowSort)), (q_t_rowSize, .inl (cy 0, 8, .inl v_t_rowSize)), (q_t_rows, .inl (cy 4, 8, .inr (.inr (.inr (.inr (fun i => some (ad_t_rows i))))))), (q_t_moved, .inl (cy 1, 40, .inr (.inl v_t_moved))), (q_t_refused, .inl (cy 0, 8, .inl v_t_refused))] ++ wFJ cy 8 40 ad_t_rows v_t_rows) sz)) 0 0 (va_A ([(q_t, oX8 q_t_shelf q_t_rowSort q_t_rowSize q_t_rows q_t_moved q_t_shown q_t_tape v_t_tapeSize q_t_refused v_t_places q_t_ways v_t_people q_t_kind q_t_by q_t_home q_t_aim q_t_at0 v_t_hour v_t_chance v_t_seed w_t_kept w_t_tried v_t_at v_t_token v_t_from v_t_figures v_t_fault q_t_told v_t_statements q_t_steps q_t_spot q_t_then v_t_now v_t_gone q_t_sights q_t_darkAt q_t_can), (q_t_shelf, .inl (cy 0, 8, .inl v_t_shelf)), (q_t_rowSort, .inl (cy 0, 8, .inl v_t_rowSort)), (q_t_rowSize, .inl (cy 0, 8, .inl v_t_rowSize)), (q_t_rows, .inl (cy 4, 8, .inr (.inr (.inr (.inr (fun i => some (ad_t_rows i))))))), (q_t_moved, .inl (cy 1, 40, .inr (.inl v_t_moved))), (q_t_refused, .inl (cy 0, 8, .inl v_t_refused))] ++ wFJ cy 8 40 ad_t_rows v_t_rows) sz) := by
  refine Met.ofW (cc := cX8_copy) (maxL := 7) (ret := (some .int)) (by decide) rfl ?_
  intro p e s m args below meth c s₁ B hml hv
  obtain ⟨rfl, hsz, hP, hK, hD0⟩ := hv
  have hx := B.exec
  have hb := B.bytes
  have hr := B.returns
  have hts := atoms_spec (ws := wsX8_copy) B.pre
  have hown : s.vm.findClass RX8 = some m.cls := findClass_of_methodNamed B.named
  have hlocks := B.notSynchronized
  subst hsz
  have hD := hD0.self (sz := s.heap.size)
  generalize hAe : va_A ([(q_t, oX8 q_t_shelf q_t_rowSort q_t_rowSize q_t_rows q_t_moved q_t_shown q_t_tape v_t_tapeSize q_t_refused v_t_places q_t_ways v_t_people q_t_kind q_t_by q_t_home q_t_aim q_t_at0 v_t_hour v_t_chance v_t_seed w_t_kept w_t_tried v_t_at v_t_token v_t_from v_t_figures v_t_fault q_t_told v_t_statements q_t_steps q_t_spot q_t_then v_t_now v_t_gone q_t_sights q_t_darkAt q_t_can), (q_t_shelf, .inl (cy 0, 8, .inl v_t_shelf)), (q_t_rowSort, .inl (cy 0, 8, .inl v_t_rowSort)), (q_t_rowSize, .inl (cy 0, 8, .inl v_t_rowSize)), (q_t_rows, .inl (cy 4, 8, .inr (.inr (.inr (.inr (fun i => some (ad_t_rows i))))))), (q_t_moved, .inl (cy 1, 40, .inr (.inl v_t_moved))), (q_t_refused, .inl (cy 0, 8, .inl v_t_refused))] ++ wFJ cy 8 40 ad_t_rows v_t_rows) s.heap.size = A at hD ⊢
  have hA : ∀ q : Nat, s.heap.size ≤ q → A q := fun q h => by rw [← hAe]; exact Or.inr h
  have hS : va_S A s.heap s.heap [] := va_S.rf
  have hP : va_P D vwCl ([(q_t, oX8 q_t_shelf q_t_rowSort q_t_rowSize q_t_rows q_t_moved q_t_shown q_t_tape v_t_tapeSize q_t_refused v_t_places q_t_ways v_t_people q_t_kind q_t_by q_t_home q_t_aim q_t_at0 v_t_hour v_t_chance v_t_seed w_t_kept w_t_tried v_t_at v_t_token v_t_from v_t_figures v_t_fault q_t_told v_t_statements q_t_steps q_t_spot q_t_then v_t_now v_t_gone q_t_sights q_t_darkAt q_t_can), (q_t_shelf, .inl (cy 0, 8, .inl v_t_shelf)), (q_t_rowSort, .inl (cy 0, 8, .inl v_t_rowSort)), (q_t_rowSize, .inl (cy 0, 8, .inl v_t_rowSize)), (q_t_rows, .inl (cy 4, 8, .inr (.inr (.inr (.inr (fun i => some (ad_t_rows i))))))), (q_t_moved, .inl (cy 1, 40, .inr (.inl v_t_moved))), (q_t_refused, .inl (cy 0, 8, .inl v_t_refused))] ++ wFJ cy 8 40 ad_t_rows v_t_rows) s.heap := hP
  have hc98 := hts (.constantLong RX8 98 (7)) (by decide +kernel)
  have hinX8 : ∀ w ∈ u_ws RX8 TX8 37, w ∈ wsX8_copy := by decide +kernel
  have hk7 := hts (.fieldLink RX8 7 "ShowsWhereNobodyIsModel" "shelf" "[I") (by decide +kernel)
  have hk16 := hts (.fieldLink RX8 16 "ShowsWhereNobodyIsModel" "rowSize" "[I") (by decide +kernel)
  have hk21 := hts (.fieldLink RX8 21 "ShowsWhereNobodyIsModel" "rows" "[[J") (by decide +kernel)
  have hk24 := hts (.fieldLink RX8 24 "ShowsWhereNobodyIsModel" "moved" "[J") (by decide +kernel)
  have hk13 := hts (.fieldLink RX8 13 "ShowsWhereNobodyIsModel" "rowSort" "[I") (by decide +kernel)
  have hl := lv_entry ([.ref q_t, .int p0, .int p1, .int p2, .int p3, .int p4]) (n := 7) (Nat.le_of_ble_eq_true rfl)
  rw [lg_entry_eq]
  generalize (lg_sl ([.ref q_t, .int p0, .int p1, .int p2, .int p3, .int p4]) ++ List.replicate (7 - (lg_sl ([.ref q_t, .int p0, .int p1, .int p2, .int p3, .int p4])).length) Slot.unset).toArray = ls at hl ⊢
  have hl : lv_has ls 7 [(0, .ref q_t), (1, .int p0), (2, .int p1), (3, .int p2), (4, .int p3), (5, .int p4)] := hl
  unfold fX8_copy at hf
  refine lv_iload_n hx hb dX8_copy_0 rfl (lv_at hl 1 rfl) ?_
  refine lv_i2l hx hb dX8_copy_1 rfl ?_
  refine lv_lconst (v := 0) hx hb dX8_copy_2 (by decide) ?_
  refine lv_ldc2 hx hb hown hc98 dX8_copy_3 ?_
  obtain ⟨r1, hr2, hf⟩ := boE1 hf
  have hPc := hP.sub (ws' := []) [] rfl
  refine xcSi (va_runS (As := [.long p0.toInt64, .long (0 : Int64), .long (7 : Int64)]) (rest := []) ⟨hx, hb, hml, hown, hts⟩ (mX8_in l D cy    p0.toInt64 (0 : Int64) (7 : Int64) hr2) (va_cwS 3 hts gX8_copy_X8_in rfl rfl rfl (by decide +kernel) ⟨Nat.le_of_ble_eq_true rfl, Nat.le_of_ble_eq_true rfl⟩) (xPS hK hPc) rfl rfl hl.1 rfl (lv_room (Nat.le_of_ble_eq_true rfl)) dX8_copy_6 ⟨Nat.le_of_ble_eq_true rfl, Nat.le_of_ble_eq_true rfl⟩) ?_
  refine jww0 24 [] (fun  H locs ls => va_P D vwCl ([(q_t, oX8 q_t_shelf q_t_rowSort q_t_rowSize q_t_rows q_t_moved q_t_shown q_t_tape v_t_tapeSize q_t_refused v_t_places q_t_ways v_t_people q_t_kind q_t_by q_t_home q_t_aim q_t_at0 v_t_hour v_t_chance v_t_seed w_t_kept w_t_tried v_t_at v_t_token v_t_from v_t_figures v_t_fault q_t_told v_t_statements q_t_steps q_t_spot q_t_then v_t_now v_t_gone q_t_sights q_t_darkAt q_t_can), (q_t_shelf, .inl (cy 0, 8, .inl v_t_shelf)), (q_t_rowSort, .inl (cy 0, 8, .inl v_t_rowSort)), (q_t_rowSize, .inl (cy 0, 8, .inl v_t_rowSize)), (q_t_rows, .inl (cy 4, 8, .inr (.inr (.inr (.inr (fun i => some (ad_t_rows i))))))), (q_t_moved, .inl (cy 1, 40, .inr (.inl v_t_moved))), (q_t_refused, .inl (cy 0, 8, .inl v_t_refused))] ++ wFJ cy 8 40 ad_t_rows v_t_rows) H ∧ va_D A ([(q_t, oX8 q_t_shelf q_t_rowSort q_t_rowSize q_t_rows q_t_moved q_t_shown q_t_tape v_t_tapeSize q_t_refused v_t_places q_t_ways v_t_people q_t_kind q_t_by q_t_home q_t_aim q_t_at0 v_t_hour v_t_chance v_t_seed w_t_kept w_t_tried v_t_at v_t_token v_t_from v_t_figures v_t_fault q_t_told v_t_statements q_t_steps q_t_spot q_t_then v_t_now v_t_gone q_t_sights q_t_darkAt q_t_can), (q_t_shelf, .inl (cy 0, 8, .inl v_t_shelf)), (q_t_rowSort, .inl (cy 0, 8, .inl v_t_rowSort)), (q_t_rowSize, .inl (cy 0, 8, .inl v_t_rowSize)), (q_t_rows, .inl (cy 4, 8, .inr (.inr (.inr (.inr (fun i => some (ad_t_rows i))))))), (q_t_moved, .inl (cy 1, 40, .inr (.inl v_t_moved))), (q_t_refused, .inl (cy 0, 8, .inl v_t_refused))] ++ wFJ cy 8 40 ad_t_rows v_t_rows) ∧ va_S A s.heap H locs ∧ lv_has ls 7 [(0, .ref q_t)]) hf (fun  H locs ls hI hf => ?_) (fun k3 J24 hf => ?_)
  · obtain ⟨hP, hD, hS, hl⟩ := hI
    refine lv_aload_n hx hb dX8_copy_24 rfl (lv_at hl 0 rfl) ?_
    refine lv_bipush (v := (-2)) hx hb dX8_copy_25 (by decide) ?_
    obtain ⟨r4, u5, hr6, hf⟩ := boE2 hf
    have hPc := hP.sub (ws' := [(q_t, oX8 q_t_shelf q_t_rowSort q_t_rowSize q_t_rows q_t_moved q_t_shown q_t_tape v_t_tapeSize q_t_refused v_t_places q_t_ways v_t_people q_t_kind q_t_by q_t_home q_t_aim q_t_at0 v_t_hour v_t_chance v_t_seed w_t_kept w_t_tried v_t_at v_t_token v_t_from v_t_figures v_t_fault q_t_told v_t_statements q_t_steps q_t_spot q_t_then v_t_now v_t_gone q_t_sights q_t_darkAt q_t_can), (q_t_refused, .inl (cy 0, 8, .inl v_t_refused))]) [0, 6] rfl
    have hDc := hD.sub (ws' := [(q_t, oX8 q_t_shelf q_t_rowSort q_t_rowSize q_t_rows q_t_moved q_t_shown q_t_tape v_t_tapeSize q_t_refused v_t_places q_t_ways v_t_people q_t_kind q_t_by q_t_home q_t_aim q_t_at0 v_t_hour v_t_chance v_t_seed w_t_kept w_t_tried v_t_at v_t_token v_t_from v_t_figures v_t_fault q_t_told v_t_statements q_t_steps q_t_spot q_t_then v_t_now v_t_gone q_t_sights q_t_darkAt q_t_can), (q_t_refused, .inl (cy 0, 8, .inl v_t_refused))]) [0, 6] (by decide) rfl
    refine xcQiQ (w1 := [(q_t, oX8 q_t_shelf q_t_rowSort q_t_rowSize q_t_rows q_t_moved q_t_shown q_t_tape v_t_tapeSize q_t_refused v_t_places q_t_ways v_t_people q_t_kind q_t_by q_t_home q_t_aim q_t_at0 v_t_hour v_t_chance v_t_seed w_t_kept w_t_tried v_t_at v_t_token v_t_from v_t_figures v_t_fault q_t_told v_t_statements q_t_steps q_t_spot q_t_then v_t_now v_t_gone q_t_sights q_t_darkAt q_t_can), (q_t_refused, .inl (cy 0, 8, .inl u5))]) (va_runV (As := [.int (-2 : Int32)]) (rest := []) ⟨hx, hb, hml, hown, hts⟩ (mX8_refuse l D cy q_t q_t_shelf q_t_rowSort q_t_rowSize q_t_rows q_t_moved q_t_shown q_t_tape q_t_refused q_t_ways q_t_kind q_t_by q_t_home q_t_aim q_t_at0 q_t_told q_t_steps q_t_spot q_t_then q_t_sights q_t_darkAt q_t_can v_t_tapeSize v_t_places v_t_people v_t_hour v_t_chance v_t_seed w_t_kept w_t_tried v_t_at v_t_token v_t_from v_t_figures v_t_fault v_t_statements v_t_now v_t_gone v_t_refused _ (-2 : Int32) hr6) (cwV 1 hts gX8_copy_X8_refuse rfl rfl rfl (by decide +kernel) ⟨Nat.le_of_ble_eq_true rfl, Nat.le_of_ble_eq_true rfl⟩) (xPVw hK hPc hDc (ci := 8) (q0 := 0) rfl rfl) rfl rfl hl.1 rfl (lv_room (Nat.le_of_ble_eq_true rfl)) dX8_copy_27 ⟨Nat.le_of_ble_eq_true rfl, Nat.le_of_ble_eq_true rfl⟩) hP hD hS hA [0, 6] rfl rfl (fun H locs hP hD hS => ?_)
    have hP : va_P D vwCl ([(q_t, oX8 q_t_shelf q_t_rowSort q_t_rowSize q_t_rows q_t_moved q_t_shown q_t_tape v_t_tapeSize q_t_refused v_t_places q_t_ways v_t_people q_t_kind q_t_by q_t_home q_t_aim q_t_at0 v_t_hour v_t_chance v_t_seed w_t_kept w_t_tried v_t_at v_t_token v_t_from v_t_figures v_t_fault q_t_told v_t_statements q_t_steps q_t_spot q_t_then v_t_now v_t_gone q_t_sights q_t_darkAt q_t_can), (q_t_shelf, .inl (cy 0, 8, .inl v_t_shelf)), (q_t_rowSort, .inl (cy 0, 8, .inl v_t_rowSort)), (q_t_rowSize, .inl (cy 0, 8, .inl v_t_rowSize)), (q_t_rows, .inl (cy 4, 8, .inr (.inr (.inr (.inr (fun i => some (ad_t_rows i))))))), (q_t_moved, .inl (cy 1, 40, .inr (.inl v_t_moved))), (q_t_refused, .inl (cy 0, 8, .inl u5))] ++ wFJ cy 8 40 ad_t_rows v_t_rows) H := hP
    have hD : va_D A ([(q_t, oX8 q_t_shelf q_t_rowSort q_t_rowSize q_t_rows q_t_moved q_t_shown q_t_tape v_t_tapeSize q_t_refused v_t_places q_t_ways v_t_people q_t_kind q_t_by q_t_home q_t_aim q_t_at0 v_t_hour v_t_chance v_t_seed w_t_kept w_t_tried v_t_at v_t_token v_t_from v_t_figures v_t_fault q_t_told v_t_statements q_t_steps q_t_spot q_t_then v_t_now v_t_gone q_t_sights q_t_darkAt q_t_can), (q_t_shelf, .inl (cy 0, 8, .inl v_t_shelf)), (q_t_rowSort, .inl (cy 0, 8, .inl v_t_rowSort)), (q_t_rowSize, .inl (cy 0, 8, .inl v_t_rowSize)), (q_t_rows, .inl (cy 4, 8, .inr (.inr (.inr (.inr (fun i => some (ad_t_rows i))))))), (q_t_moved, .inl (cy 1, 40, .inr (.inl v_t_moved))), (q_t_refused, .inl (cy 0, 8, .inl u5))] ++ wFJ cy 8 40 ad_t_rows v_t_rows) := hD
    cases hf
    exact W.iret hx hb hr (fun t ht hW => ⟨⟨_, (), rfl, rfl, xend ht hP⟩, hS.F ht⟩) hS.2.2 dX8_copy_30
  · refine lv_if_eq (tgt := 24) hx hb dX8_copy_9 (by decide) (fun c67 => ?_) (fun c67 => ?_)
    · have hf := ifT hf c67
      clear c67
      exact J24 _ _ ls ⟨hP, hD, hS, lv_sub hl [0] rfl⟩ hf
    · have hf := ifF hf c67
      clear c67
      refine lv_iload_n hx hb dX8_copy_12 rfl (lv_at hl 2 rfl) ?_
      refine lv_i2l hx hb dX8_copy_13 rfl ?_
      refine lv_lconst (v := 0) hx hb dX8_copy_14 (by decide) ?_
      refine lv_ldc2 hx hb hown hc98 dX8_copy_15 ?_
      obtain ⟨r7, hr8, hf⟩ := boE1 hf
      have hPc := hP.sub (ws' := []) [] rfl
      refine xcSi (va_runS (As := [.long p1.toInt64, .long (0 : Int64), .long (7 : Int64)]) (rest := []) ⟨hx, hb, hml, hown, hts⟩ (mX8_in l D cy    p1.toInt64 (0 : Int64) (7 : Int64) hr8) (va_cwS 3 hts gX8_copy_X8_in rfl rfl rfl (by decide +kernel) ⟨Nat.le_of_ble_eq_true rfl, Nat.le_of_ble_eq_true rfl⟩) (xPS hK hPc) rfl rfl hl.1 rfl (lv_room (Nat.le_of_ble_eq_true rfl)) dX8_copy_18 ⟨Nat.le_of_ble_eq_true rfl, Nat.le_of_ble_eq_true rfl⟩) ?_
      refine lv_if_ne (tgt := 31) hx hb dX8_copy_21 (by decide) (fun c66 => ?_) (fun c66 => ?_)
      · have hf := ifF hf c66
        clear c66
        refine lv_aload_n hx hb dX8_copy_31 rfl (lv_at hl 0 rfl) ?_
        refine va_get (D := D) (ci := 8) (v := .ref q_t_shelf) (C := RX8) (T := TX8) (N := 37) hx hb hts hinX8 hown hK.1 hP 0 rfl rfl 0 (by decide) hk7 (fun _ h9 => h9) rfl dX8_copy_32 ?_
        refine lv_iload_n hx hb dX8_copy_35 rfl (lv_at hl 1 rfl) ?_
        obtain ⟨hi9, hf⟩ := ckE hf
        refine va_iald hx hb hK.1 hP 1 0 rfl rfl hi9 dX8_copy_36 ?_
        refine lv_iconst (v := 2) hx hb dX8_copy_37 (by decide) ?_
        refine jww0 86 [] (fun  H locs ls => va_P D vwCl ([(q_t, oX8 q_t_shelf q_t_rowSort q_t_rowSize q_t_rows q_t_moved q_t_shown q_t_tape v_t_tapeSize q_t_refused v_t_places q_t_ways v_t_people q_t_kind q_t_by q_t_home q_t_aim q_t_at0 v_t_hour v_t_chance v_t_seed w_t_kept w_t_tried v_t_at v_t_token v_t_from v_t_figures v_t_fault q_t_told v_t_statements q_t_steps q_t_spot q_t_then v_t_now v_t_gone q_t_sights q_t_darkAt q_t_can), (q_t_shelf, .inl (cy 0, 8, .inl v_t_shelf)), (q_t_rowSort, .inl (cy 0, 8, .inl v_t_rowSort)), (q_t_rowSize, .inl (cy 0, 8, .inl v_t_rowSize)), (q_t_rows, .inl (cy 4, 8, .inr (.inr (.inr (.inr (fun i => some (ad_t_rows i))))))), (q_t_moved, .inl (cy 1, 40, .inr (.inl v_t_moved))), (q_t_refused, .inl (cy 0, 8, .inl v_t_refused))] ++ wFJ cy 8 40 ad_t_rows v_t_rows) H ∧ va_D A ([(q_t, oX8 q_t_shelf q_t_rowSort q_t_rowSize q_t_rows q_t_moved q_t_shown q_t_tape v_t_tapeSize q_t_refused v_t_places q_t_ways v_t_people q_t_kind q_t_by q_t_home q_t_aim q_t_at0 v_t_hour v_t_chance v_t_seed w_t_kept w_t_tried v_t_at v_t_token v_t_from v_t_figures v_t_fault q_t_told v_t_statements q_t_steps q_t_spot q_t_then v_t_now v_t_gone q_t_sights q_t_darkAt q_t_can), (q_t_shelf, .inl (cy 0, 8, .inl v_t_shelf)), (q_t_rowSort, .inl (cy 0, 8, .inl v_t_rowSort)), (q_t_rowSize, .inl (cy 0, 8, .inl v_t_rowSize)), (q_t_rows, .inl (cy 4, 8, .inr (.inr (.inr (.inr (fun i => some (ad_t_rows i))))))), (q_t_moved, .inl (cy 1, 40, .inr (.inl v_t_moved))), (q_t_refused, .inl (cy 0, 8, .inl v_t_refused))] ++ wFJ cy 8 40 ad_t_rows v_t_rows) ∧ va_S A s.heap H locs ∧ lv_has ls 7 [(0, .ref q_t)]) hf (fun  H locs ls hI hf => ?_) (fun k10 J86 hf => ?_)
        · obtain ⟨hP, hD, hS, hl⟩ := hI
          refine lv_aload_n hx hb dX8_copy_86 rfl (lv_at hl 0 rfl) ?_
          refine lv_bipush (v := (-3)) hx hb dX8_copy_87 (by decide) ?_
          obtain ⟨r11, u12, hr13, hf⟩ := boE2 hf
          have hPc := hP.sub (ws' := [(q_t, oX8 q_t_shelf q_t_rowSort q_t_rowSize q_t_rows q_t_moved q_t_shown q_t_tape v_t_tapeSize q_t_refused v_t_places q_t_ways v_t_people q_t_kind q_t_by q_t_home q_t_aim q_t_at0 v_t_hour v_t_chance v_t_seed w_t_kept w_t_tried v_t_at v_t_token v_t_from v_t_figures v_t_fault q_t_told v_t_statements q_t_steps q_t_spot q_t_then v_t_now v_t_gone q_t_sights q_t_darkAt q_t_can), (q_t_refused, .inl (cy 0, 8, .inl v_t_refused))]) [0, 6] rfl
          have hDc := hD.sub (ws' := [(q_t, oX8 q_t_shelf q_t_rowSort q_t_rowSize q_t_rows q_t_moved q_t_shown q_t_tape v_t_tapeSize q_t_refused v_t_places q_t_ways v_t_people q_t_kind q_t_by q_t_home q_t_aim q_t_at0 v_t_hour v_t_chance v_t_seed w_t_kept w_t_tried v_t_at v_t_token v_t_from v_t_figures v_t_fault q_t_told v_t_statements q_t_steps q_t_spot q_t_then v_t_now v_t_gone q_t_sights q_t_darkAt q_t_can), (q_t_refused, .inl (cy 0, 8, .inl v_t_refused))]) [0, 6] (by decide) rfl
          refine xcQiQ (w1 := [(q_t, oX8 q_t_shelf q_t_rowSort q_t_rowSize q_t_rows q_t_moved q_t_shown q_t_tape v_t_tapeSize q_t_refused v_t_places q_t_ways v_t_people q_t_kind q_t_by q_t_home q_t_aim q_t_at0 v_t_hour v_t_chance v_t_seed w_t_kept w_t_tried v_t_at v_t_token v_t_from v_t_figures v_t_fault q_t_told v_t_statements q_t_steps q_t_spot q_t_then v_t_now v_t_gone q_t_sights q_t_darkAt q_t_can), (q_t_refused, .inl (cy 0, 8, .inl u12))]) (va_runV (As := [.int (-3 : Int32)]) (rest := []) ⟨hx, hb, hml, hown, hts⟩ (mX8_refuse l D cy q_t q_t_shelf q_t_rowSort q_t_rowSize q_t_rows q_t_moved q_t_shown q_t_tape q_t_refused q_t_ways q_t_kind q_t_by q_t_home q_t_aim q_t_at0 q_t_told q_t_steps q_t_spot q_t_then q_t_sights q_t_darkAt q_t_can v_t_tapeSize v_t_places v_t_people v_t_hour v_t_chance v_t_seed w_t_kept w_t_tried v_t_at v_t_token v_t_from v_t_figures v_t_fault v_t_statements v_t_now v_t_gone v_t_refused _ (-3 : Int32) hr13) (cwV 1 hts gX8_copy_X8_refuse rfl rfl rfl (by decide +kernel) ⟨Nat.le_of_ble_eq_true rfl, Nat.le_of_ble_eq_true rfl⟩) (xPVw hK hPc hDc (ci := 8) (q0 := 0) rfl rfl) rfl rfl hl.1 rfl (lv_room (Nat.le_of_ble_eq_true rfl)) dX8_copy_89 ⟨Nat.le_of_ble_eq_true rfl, Nat.le_of_ble_eq_true rfl⟩) hP hD hS hA [0, 6] rfl rfl (fun H locs hP hD hS => ?_)
          have hP : va_P D vwCl ([(q_t, oX8 q_t_shelf q_t_rowSort q_t_rowSize q_t_rows q_t_moved q_t_shown q_t_tape v_t_tapeSize q_t_refused v_t_places q_t_ways v_t_people q_t_kind q_t_by q_t_home q_t_aim q_t_at0 v_t_hour v_t_chance v_t_seed w_t_kept w_t_tried v_t_at v_t_token v_t_from v_t_figures v_t_fault q_t_told v_t_statements q_t_steps q_t_spot q_t_then v_t_now v_t_gone q_t_sights q_t_darkAt q_t_can), (q_t_shelf, .inl (cy 0, 8, .inl v_t_shelf)), (q_t_rowSort, .inl (cy 0, 8, .inl v_t_rowSort)), (q_t_rowSize, .inl (cy 0, 8, .inl v_t_rowSize)), (q_t_rows, .inl (cy 4, 8, .inr (.inr (.inr (.inr (fun i => some (ad_t_rows i))))))), (q_t_moved, .inl (cy 1, 40, .inr (.inl v_t_moved))), (q_t_refused, .inl (cy 0, 8, .inl u12))] ++ wFJ cy 8 40 ad_t_rows v_t_rows) H := hP
          have hD : va_D A ([(q_t, oX8 q_t_shelf q_t_rowSort q_t_rowSize q_t_rows q_t_moved q_t_shown q_t_tape v_t_tapeSize q_t_refused v_t_places q_t_ways v_t_people q_t_kind q_t_by q_t_home q_t_aim q_t_at0 v_t_hour v_t_chance v_t_seed w_t_kept w_t_tried v_t_at v_t_token v_t_from v_t_figures v_t_fault q_t_told v_t_statements q_t_steps q_t_spot q_t_then v_t_now v_t_gone q_t_sights q_t_darkAt q_t_can), (q_t_shelf, .inl (cy 0, 8, .inl v_t_shelf)), (q_t_rowSort, .inl (cy 0, 8, .inl v_t_rowSort)), (q_t_rowSize, .inl (cy 0, 8, .inl v_t_rowSize)), (q_t_rows, .inl (cy 4, 8, .inr (.inr (.inr (.inr (fun i => some (ad_t_rows i))))))), (q_t_moved, .inl (cy 1, 40, .inr (.inl v_t_moved))), (q_t_refused, .inl (cy 0, 8, .inl u12))] ++ wFJ cy 8 40 ad_t_rows v_t_rows) := hD
          cases hf
          exact W.iret hx hb hr (fun t ht hW => ⟨⟨_, (), rfl, rfl, xend ht hP⟩, hS.F ht⟩) hS.2.2 dX8_copy_92
        · refine lv_icmp_eq (tgt := 86) hx hb dX8_copy_38 (by decide) (fun c65 => ?_) (fun c65 => ?_)
          · have hf := ifT hf c65
            clear c65
            exact J86 _ _ ls ⟨hP, hD, hS, lv_sub hl [0] rfl⟩ hf
          · have hf := ifF hf c65
            clear c65
            refine lv_aload_n hx hb dX8_copy_41 rfl (lv_at hl 0 rfl) ?_
            refine va_get (D := D) (ci := 8) (v := .ref q_t_shelf) (C := RX8) (T := TX8) (N := 37) hx hb hts hinX8 hown hK.1 hP 0 rfl rfl 0 (by decide) hk7 (fun _ h9 => h9) rfl dX8_copy_42 ?_
            refine lv_iload_n hx hb dX8_copy_45 rfl (lv_at hl 2 rfl) ?_
            obtain ⟨hi14, hf⟩ := ckE hf
            refine va_iald hx hb hK.1 hP 1 0 rfl rfl hi14 dX8_copy_46 ?_
            refine lv_iconst (v := 2) hx hb dX8_copy_47 (by decide) ?_
            refine lv_icmp_eq (tgt := 86) hx hb dX8_copy_48 (by decide) (fun c64 => ?_) (fun c64 => ?_)
            · have hf := ifT hf c64
              clear c64
              exact J86 _ _ ls ⟨hP, hD, hS, lv_sub hl [0] rfl⟩ hf
            · have hf := ifF hf c64
              clear c64
              refine lv_aload_n hx hb dX8_copy_51 rfl (lv_at hl 0 rfl) ?_
              refine va_get (D := D) (ci := 8) (v := .ref q_t_shelf) (C := RX8) (T := TX8) (N := 37) hx hb hts hinX8 hown hK.1 hP 0 rfl rfl 0 (by decide) hk7 (fun _ h9 => h9) rfl dX8_copy_52 ?_
              refine lv_iload_n hx hb dX8_copy_55 rfl (lv_at hl 1 rfl) ?_
              obtain ⟨hi15, hf⟩ := ckE hf
              refine va_iald hx hb hK.1 hP 1 0 rfl rfl hi15 dX8_copy_56 ?_
              refine lv_iconst (v := 1) hx hb dX8_copy_57 (by decide) ?_
              refine jww0 93 [] (fun  H locs ls => va_P D vwCl ([(q_t, oX8 q_t_shelf q_t_rowSort q_t_rowSize q_t_rows q_t_moved q_t_shown q_t_tape v_t_tapeSize q_t_refused v_t_places q_t_ways v_t_people q_t_kind q_t_by q_t_home q_t_aim q_t_at0 v_t_hour v_t_chance v_t_seed w_t_kept w_t_tried v_t_at v_t_token v_t_from v_t_figures v_t_fault q_t_told v_t_statements q_t_steps q_t_spot q_t_then v_t_now v_t_gone q_t_sights q_t_darkAt q_t_can), (q_t_shelf, .inl (cy 0, 8, .inl v_t_shelf)), (q_t_rowSort, .inl (cy 0, 8, .inl v_t_rowSort)), (q_t_rowSize, .inl (cy 0, 8, .inl v_t_rowSize)), (q_t_rows, .inl (cy 4, 8, .inr (.inr (.inr (.inr (fun i => some (ad_t_rows i))))))), (q_t_moved, .inl (cy 1, 40, .inr (.inl v_t_moved))), (q_t_refused, .inl (cy 0, 8, .inl v_t_refused))] ++ wFJ cy 8 40 ad_t_rows v_t_rows) H ∧ va_D A ([(q_t, oX8 q_t_shelf q_t_rowSort q_t_rowSize q_t_rows q_t_moved q_t_shown q_t_tape v_t_tapeSize q_t_refused v_t_places q_t_ways v_t_people q_t_kind q_t_by q_t_home q_t_aim q_t_at0 v_t_hour v_t_chance v_t_seed w_t_kept w_t_tried v_t_at v_t_token v_t_from v_t_figures v_t_fault q_t_told v_t_statements q_t_steps q_t_spot q_t_then v_t_now v_t_gone q_t_sights q_t_darkAt q_t_can), (q_t_shelf, .inl (cy 0, 8, .inl v_t_shelf)), (q_t_rowSort, .inl (cy 0, 8, .inl v_t_rowSort)), (q_t_rowSize, .inl (cy 0, 8, .inl v_t_rowSize)), (q_t_rows, .inl (cy 4, 8, .inr (.inr (.inr (.inr (fun i => some (ad_t_rows i))))))), (q_t_moved, .inl (cy 1, 40, .inr (.inl v_t_moved))), (q_t_refused, .inl (cy 0, 8, .inl v_t_refused))] ++ wFJ cy 8 40 ad_t_rows v_t_rows) ∧ va_S A s.heap H locs ∧ lv_has ls 7 [(0, .ref q_t), (1, .int p0), (2, .int p1), (3, .int p2), (4, .int p3), (5, .int p4)]) hf (fun  H locs ls hI hf => ?_) (fun k16 J93 hf => ?_)
              · obtain ⟨hP, hD, hS, hl⟩ := hI
                refine lv_aload_n hx hb dX8_copy_93 rfl (lv_at hl 0 rfl) ?_
                refine va_get (D := D) (ci := 8) (v := .ref q_t_shelf) (C := RX8) (T := TX8) (N := 37) hx hb hts hinX8 hown hK.1 hP 0 rfl rfl 0 (by decide) hk7 (fun _ h9 => h9) rfl dX8_copy_94 ?_
                refine lv_iload_n hx hb dX8_copy_97 rfl (lv_at hl 1 rfl) ?_
                obtain ⟨hi17, hf⟩ := ckE hf
                refine va_iald hx hb hK.1 hP 1 0 rfl rfl hi17 dX8_copy_98 ?_
                refine jww0 111 [] (fun  H locs ls => va_P D vwCl ([(q_t, oX8 q_t_shelf q_t_rowSort q_t_rowSize q_t_rows q_t_moved q_t_shown q_t_tape v_t_tapeSize q_t_refused v_t_places q_t_ways v_t_people q_t_kind q_t_by q_t_home q_t_aim q_t_at0 v_t_hour v_t_chance v_t_seed w_t_kept w_t_tried v_t_at v_t_token v_t_from v_t_figures v_t_fault q_t_told v_t_statements q_t_steps q_t_spot q_t_then v_t_now v_t_gone q_t_sights q_t_darkAt q_t_can), (q_t_shelf, .inl (cy 0, 8, .inl v_t_shelf)), (q_t_rowSort, .inl (cy 0, 8, .inl v_t_rowSort)), (q_t_rowSize, .inl (cy 0, 8, .inl v_t_rowSize)), (q_t_rows, .inl (cy 4, 8, .inr (.inr (.inr (.inr (fun i => some (ad_t_rows i))))))), (q_t_moved, .inl (cy 1, 40, .inr (.inl v_t_moved))), (q_t_refused, .inl (cy 0, 8, .inl v_t_refused))] ++ wFJ cy 8 40 ad_t_rows v_t_rows) H ∧ va_D A ([(q_t, oX8 q_t_shelf q_t_rowSort q_t_rowSize q_t_rows q_t_moved q_t_shown q_t_tape v_t_tapeSize q_t_refused v_t_places q_t_ways v_t_people q_t_kind q_t_by q_t_home q_t_aim q_t_at0 v_t_hour v_t_chance v_t_seed w_t_kept w_t_tried v_t_at v_t_token v_t_from v_t_figures v_t_fault q_t_told v_t_statements q_t_steps q_t_spot q_t_then v_t_now v_t_gone q_t_sights q_t_darkAt q_t_can), (q_t_shelf, .inl (cy 0, 8, .inl v_t_shelf)), (q_t_rowSort, .inl (cy 0, 8, .inl v_t_rowSort)), (q_t_rowSize, .inl (cy 0, 8, .inl v_t_rowSize)), (q_t_rows, .inl (cy 4, 8, .inr (.inr (.inr (.inr (fun i => some (ad_t_rows i))))))), (q_t_moved, .inl (cy 1, 40, .inr (.inl v_t_moved))), (q_t_refused, .inl (cy 0, 8, .inl v_t_refused))] ++ wFJ cy 8 40 ad_t_rows v_t_rows) ∧ va_S A s.heap H locs ∧ lv_has ls 7 [(0, .ref q_t)]) hf (fun  H locs ls hI hf => ?_) (fun k18 J111 hf => ?_)
                · obtain ⟨hP, hD, hS, hl⟩ := hI
                  refine lv_aload_n hx hb dX8_copy_111 rfl (lv_at hl 0 rfl) ?_
                  refine lv_bipush (v := (-4)) hx hb dX8_copy_112 (by decide) ?_
                  obtain ⟨r19, u20, hr21, hf⟩ := boE2 hf
                  have hPc := hP.sub (ws' := [(q_t, oX8 q_t_shelf q_t_rowSort q_t_rowSize q_t_rows q_t_moved q_t_shown q_t_tape v_t_tapeSize q_t_refused v_t_places q_t_ways v_t_people q_t_kind q_t_by q_t_home q_t_aim q_t_at0 v_t_hour v_t_chance v_t_seed w_t_kept w_t_tried v_t_at v_t_token v_t_from v_t_figures v_t_fault q_t_told v_t_statements q_t_steps q_t_spot q_t_then v_t_now v_t_gone q_t_sights q_t_darkAt q_t_can), (q_t_refused, .inl (cy 0, 8, .inl v_t_refused))]) [0, 6] rfl
                  have hDc := hD.sub (ws' := [(q_t, oX8 q_t_shelf q_t_rowSort q_t_rowSize q_t_rows q_t_moved q_t_shown q_t_tape v_t_tapeSize q_t_refused v_t_places q_t_ways v_t_people q_t_kind q_t_by q_t_home q_t_aim q_t_at0 v_t_hour v_t_chance v_t_seed w_t_kept w_t_tried v_t_at v_t_token v_t_from v_t_figures v_t_fault q_t_told v_t_statements q_t_steps q_t_spot q_t_then v_t_now v_t_gone q_t_sights q_t_darkAt q_t_can), (q_t_refused, .inl (cy 0, 8, .inl v_t_refused))]) [0, 6] (by decide) rfl
                  refine xcQiQ (w1 := [(q_t, oX8 q_t_shelf q_t_rowSort q_t_rowSize q_t_rows q_t_moved q_t_shown q_t_tape v_t_tapeSize q_t_refused v_t_places q_t_ways v_t_people q_t_kind q_t_by q_t_home q_t_aim q_t_at0 v_t_hour v_t_chance v_t_seed w_t_kept w_t_tried v_t_at v_t_token v_t_from v_t_figures v_t_fault q_t_told v_t_statements q_t_steps q_t_spot q_t_then v_t_now v_t_gone q_t_sights q_t_darkAt q_t_can), (q_t_refused, .inl (cy 0, 8, .inl u20))]) (va_runV (As := [.int (-4 : Int32)]) (rest := []) ⟨hx, hb, hml, hown, hts⟩ (mX8_refuse l D cy q_t q_t_shelf q_t_rowSort q_t_rowSize q_t_rows q_t_moved q_t_shown q_t_tape q_t_refused q_t_ways q_t_kind q_t_by q_t_home q_t_aim q_t_at0 q_t_told q_t_steps q_t_spot q_t_then q_t_sights q_t_darkAt q_t_can v_t_tapeSize v_t_places v_t_people v_t_hour v_t_chance v_t_seed w_t_kept w_t_tried v_t_at v_t_token v_t_from v_t_figures v_t_fault v_t_statements v_t_now v_t_gone v_t_refused _ (-4 : Int32) hr21) (cwV 1 hts gX8_copy_X8_refuse rfl rfl rfl (by decide +kernel) ⟨Nat.le_of_ble_eq_true rfl, Nat.le_of_ble_eq_true rfl⟩) (xPVw hK hPc hDc (ci := 8) (q0 := 0) rfl rfl) rfl rfl hl.1 rfl (lv_room (Nat.le_of_ble_eq_true rfl)) dX8_copy_114 ⟨Nat.le_of_ble_eq_true rfl, Nat.le_of_ble_eq_true rfl⟩) hP hD hS hA [0, 6] rfl rfl (fun H locs hP hD hS => ?_)
                  have hP : va_P D vwCl ([(q_t, oX8 q_t_shelf q_t_rowSort q_t_rowSize q_t_rows q_t_moved q_t_shown q_t_tape v_t_tapeSize q_t_refused v_t_places q_t_ways v_t_people q_t_kind q_t_by q_t_home q_t_aim q_t_at0 v_t_hour v_t_chance v_t_seed w_t_kept w_t_tried v_t_at v_t_token v_t_from v_t_figures v_t_fault q_t_told v_t_statements q_t_steps q_t_spot q_t_then v_t_now v_t_gone q_t_sights q_t_darkAt q_t_can), (q_t_shelf, .inl (cy 0, 8, .inl v_t_shelf)), (q_t_rowSort, .inl (cy 0, 8, .inl v_t_rowSort)), (q_t_rowSize, .inl (cy 0, 8, .inl v_t_rowSize)), (q_t_rows, .inl (cy 4, 8, .inr (.inr (.inr (.inr (fun i => some (ad_t_rows i))))))), (q_t_moved, .inl (cy 1, 40, .inr (.inl v_t_moved))), (q_t_refused, .inl (cy 0, 8, .inl u20))] ++ wFJ cy 8 40 ad_t_rows v_t_rows) H := hP
                  have hD : va_D A ([(q_t, oX8 q_t_shelf q_t_rowSort q_t_rowSize q_t_rows q_t_moved q_t_shown q_t_tape v_t_tapeSize q_t_refused v_t_places q_t_ways v_t_people q_t_kind q_t_by q_t_home q_t_aim q_t_at0 v_t_hour v_t_chance v_t_seed w_t_kept w_t_tried v_t_at v_t_token v_t_from v_t_figures v_t_fault q_t_told v_t_statements q_t_steps q_t_spot q_t_then v_t_now v_t_gone q_t_sights q_t_darkAt q_t_can), (q_t_shelf, .inl (cy 0, 8, .inl v_t_shelf)), (q_t_rowSort, .inl (cy 0, 8, .inl v_t_rowSort)), (q_t_rowSize, .inl (cy 0, 8, .inl v_t_rowSize)), (q_t_rows, .inl (cy 4, 8, .inr (.inr (.inr (.inr (fun i => some (ad_t_rows i))))))), (q_t_moved, .inl (cy 1, 40, .inr (.inl v_t_moved))), (q_t_refused, .inl (cy 0, 8, .inl u20))] ++ wFJ cy 8 40 ad_t_rows v_t_rows) := hD
                  cases hf
                  exact W.iret hx hb hr (fun t ht hW => ⟨⟨_, (), rfl, rfl, xend ht hP⟩, hS.F ht⟩) hS.2.2 dX8_copy_117
                · refine lv_if_eq (tgt := 111) hx hb dX8_copy_99 (by decide) (fun c57 => ?_) (fun c57 => ?_)
                  · have hf := ifT hf c57
                    clear c57
                    exact J111 _ _ ls ⟨hP, hD, hS, lv_sub hl [0] rfl⟩ hf
                  · have hf := ifF hf c57
                    clear c57
                    refine lv_aload_n hx hb dX8_copy_102 rfl (lv_at hl 0 rfl) ?_
                    refine va_get (D := D) (ci := 8) (v := .ref q_t_shelf) (C := RX8) (T := TX8) (N := 37) hx hb hts hinX8 hown hK.1 hP 0 rfl rfl 0 (by decide) hk7 (fun _ h9 => h9) rfl dX8_copy_103 ?_
                    refine lv_iload_n hx hb dX8_copy_106 rfl (lv_at hl 2 rfl) ?_
                    obtain ⟨hi22, hf⟩ := ckE hf
                    refine va_iald hx hb hK.1 hP 1 0 rfl rfl hi22 dX8_copy_107 ?_
                    refine lv_if_ne (tgt := 118) hx hb dX8_copy_108 (by decide) (fun c56 => ?_) (fun c56 => ?_)
                    · have hf := ifF hf c56
                      clear c56
                      refine lv_iload hx hb dX8_copy_118 (lv_at hl 5 rfl) ?_
                      refine jww0 181 [] (fun  H locs ls => va_P D vwCl ([(q_t, oX8 q_t_shelf q_t_rowSort q_t_rowSize q_t_rows q_t_moved q_t_shown q_t_tape v_t_tapeSize q_t_refused v_t_places q_t_ways v_t_people q_t_kind q_t_by q_t_home q_t_aim q_t_at0 v_t_hour v_t_chance v_t_seed w_t_kept w_t_tried v_t_at v_t_token v_t_from v_t_figures v_t_fault q_t_told v_t_statements q_t_steps q_t_spot q_t_then v_t_now v_t_gone q_t_sights q_t_darkAt q_t_can), (q_t_shelf, .inl (cy 0, 8, .inl v_t_shelf)), (q_t_rowSort, .inl (cy 0, 8, .inl v_t_rowSort)), (q_t_rowSize, .inl (cy 0, 8, .inl v_t_rowSize)), (q_t_rows, .inl (cy 4, 8, .inr (.inr (.inr (.inr (fun i => some (ad_t_rows i))))))), (q_t_moved, .inl (cy 1, 40, .inr (.inl v_t_moved))), (q_t_refused, .inl (cy 0, 8, .inl v_t_refused))] ++ wFJ cy 8 40 ad_t_rows v_t_rows) H ∧ va_D A ([(q_t, oX8 q_t_shelf q_t_rowSort q_t_rowSize q_t_rows q_t_moved q_t_shown q_t_tape v_t_tapeSize q_t_refused v_t_places q_t_ways v_t_people q_t_kind q_t_by q_t_home q_t_aim q_t_at0 v_t_hour v_t_chance v_t_seed w_t_kept w_t_tried v_t_at v_t_token v_t_from v_t_figures v_t_fault q_t_told v_t_statements q_t_steps q_t_spot q_t_then v_t_now v_t_gone q_t_sights q_t_darkAt q_t_can), (q_t_shelf, .inl (cy 0, 8, .inl v_t_shelf)), (q_t_rowSort, .inl (cy 0, 8, .inl v_t_rowSort)), (q_t_rowSize, .inl (cy 0, 8, .inl v_t_rowSize)), (q_t_rows, .inl (cy 4, 8, .inr (.inr (.inr (.inr (fun i => some (ad_t_rows i))))))), (q_t_moved, .inl (cy 1, 40, .inr (.inl v_t_moved))), (q_t_refused, .inl (cy 0, 8, .inl v_t_refused))] ++ wFJ cy 8 40 ad_t_rows v_t_rows) ∧ va_S A s.heap H locs ∧ lv_has ls 7 [(0, .ref q_t)]) hf (fun  H locs ls hI hf => ?_) (fun k23 J181 hf => ?_)
                      · obtain ⟨hP, hD, hS, hl⟩ := hI
                        refine lv_aload_n hx hb dX8_copy_181 rfl (lv_at hl 0 rfl) ?_
                        refine lv_bipush (v := (-2)) hx hb dX8_copy_182 (by decide) ?_
                        obtain ⟨r24, u25, hr26, hf⟩ := boE2 hf
                        have hPc := hP.sub (ws' := [(q_t, oX8 q_t_shelf q_t_rowSort q_t_rowSize q_t_rows q_t_moved q_t_shown q_t_tape v_t_tapeSize q_t_refused v_t_places q_t_ways v_t_people q_t_kind q_t_by q_t_home q_t_aim q_t_at0 v_t_hour v_t_chance v_t_seed w_t_kept w_t_tried v_t_at v_t_token v_t_from v_t_figures v_t_fault q_t_told v_t_statements q_t_steps q_t_spot q_t_then v_t_now v_t_gone q_t_sights q_t_darkAt q_t_can), (q_t_refused, .inl (cy 0, 8, .inl v_t_refused))]) [0, 6] rfl
                        have hDc := hD.sub (ws' := [(q_t, oX8 q_t_shelf q_t_rowSort q_t_rowSize q_t_rows q_t_moved q_t_shown q_t_tape v_t_tapeSize q_t_refused v_t_places q_t_ways v_t_people q_t_kind q_t_by q_t_home q_t_aim q_t_at0 v_t_hour v_t_chance v_t_seed w_t_kept w_t_tried v_t_at v_t_token v_t_from v_t_figures v_t_fault q_t_told v_t_statements q_t_steps q_t_spot q_t_then v_t_now v_t_gone q_t_sights q_t_darkAt q_t_can), (q_t_refused, .inl (cy 0, 8, .inl v_t_refused))]) [0, 6] (by decide) rfl
                        refine xcQiQ (w1 := [(q_t, oX8 q_t_shelf q_t_rowSort q_t_rowSize q_t_rows q_t_moved q_t_shown q_t_tape v_t_tapeSize q_t_refused v_t_places q_t_ways v_t_people q_t_kind q_t_by q_t_home q_t_aim q_t_at0 v_t_hour v_t_chance v_t_seed w_t_kept w_t_tried v_t_at v_t_token v_t_from v_t_figures v_t_fault q_t_told v_t_statements q_t_steps q_t_spot q_t_then v_t_now v_t_gone q_t_sights q_t_darkAt q_t_can), (q_t_refused, .inl (cy 0, 8, .inl u25))]) (va_runV (As := [.int (-2 : Int32)]) (rest := []) ⟨hx, hb, hml, hown, hts⟩ (mX8_refuse l D cy q_t q_t_shelf q_t_rowSort q_t_rowSize q_t_rows q_t_moved q_t_shown q_t_tape q_t_refused q_t_ways q_t_kind q_t_by q_t_home q_t_aim q_t_at0 q_t_told q_t_steps q_t_spot q_t_then q_t_sights q_t_darkAt q_t_can v_t_tapeSize v_t_places v_t_people v_t_hour v_t_chance v_t_seed w_t_kept w_t_tried v_t_at v_t_token v_t_from v_t_figures v_t_fault v_t_statements v_t_now v_t_gone v_t_refused _ (-2 : Int32) hr26) (cwV 1 hts gX8_copy_X8_refuse rfl rfl rfl (by decide +kernel) ⟨Nat.le_of_ble_eq_true rfl, Nat.le_of_ble_eq_true rfl⟩) (xPVw hK hPc hDc (ci := 8) (q0 := 0) rfl rfl) rfl rfl hl.1 rfl (lv_room (Nat.le_of_ble_eq_true rfl)) dX8_copy_184 ⟨Nat.le_of_ble_eq_true rfl, Nat.le_of_ble_eq_true rfl⟩) hP hD hS hA [0, 6] rfl rfl (fun H locs hP hD hS => ?_)
                        have hP : va_P D vwCl ([(q_t, oX8 q_t_shelf q_t_rowSort q_t_rowSize q_t_rows q_t_moved q_t_shown q_t_tape v_t_tapeSize q_t_refused v_t_places q_t_ways v_t_people q_t_kind q_t_by q_t_home q_t_aim q_t_at0 v_t_hour v_t_chance v_t_seed w_t_kept w_t_tried v_t_at v_t_token v_t_from v_t_figures v_t_fault q_t_told v_t_statements q_t_steps q_t_spot q_t_then v_t_now v_t_gone q_t_sights q_t_darkAt q_t_can), (q_t_shelf, .inl (cy 0, 8, .inl v_t_shelf)), (q_t_rowSort, .inl (cy 0, 8, .inl v_t_rowSort)), (q_t_rowSize, .inl (cy 0, 8, .inl v_t_rowSize)), (q_t_rows, .inl (cy 4, 8, .inr (.inr (.inr (.inr (fun i => some (ad_t_rows i))))))), (q_t_moved, .inl (cy 1, 40, .inr (.inl v_t_moved))), (q_t_refused, .inl (cy 0, 8, .inl u25))] ++ wFJ cy 8 40 ad_t_rows v_t_rows) H := hP
                        have hD : va_D A ([(q_t, oX8 q_t_shelf q_t_rowSort q_t_rowSize q_t_rows q_t_moved q_t_shown q_t_tape v_t_tapeSize q_t_refused v_t_places q_t_ways v_t_people q_t_kind q_t_by q_t_home q_t_aim q_t_at0 v_t_hour v_t_chance v_t_seed w_t_kept w_t_tried v_t_at v_t_token v_t_from v_t_figures v_t_fault q_t_told v_t_statements q_t_steps q_t_spot q_t_then v_t_now v_t_gone q_t_sights q_t_darkAt q_t_can), (q_t_shelf, .inl (cy 0, 8, .inl v_t_shelf)), (q_t_rowSort, .inl (cy 0, 8, .inl v_t_rowSort)), (q_t_rowSize, .inl (cy 0, 8, .inl v_t_rowSize)), (q_t_rows, .inl (cy 4, 8, .inr (.inr (.inr (.inr (fun i => some (ad_t_rows i))))))), (q_t_moved, .inl (cy 1, 40, .inr (.inl v_t_moved))), (q_t_refused, .inl (cy 0, 8, .inl u25))] ++ wFJ cy 8 40 ad_t_rows v_t_rows) := hD
                        cases hf
                        exact W.iret hx hb hr (fun t ht hW => ⟨⟨_, (), rfl, rfl, xend ht hP⟩, hS.F ht⟩) hS.2.2 dX8_copy_187
                      · refine lv_if_lt (tgt := 181) hx hb dX8_copy_120 (by decide) (fun c55 => ?_) (fun c55 => ?_)
                        · have hf := ifT hf c55
                          clear c55
                          exact J181 _ _ ls ⟨hP, hD, hS, lv_sub hl [0] rfl⟩ hf
                        · have hf := ifF hf c55
                          clear c55
                          refine lv_iload_n hx hb dX8_copy_123 rfl (lv_at hl 3 rfl) ?_
                          refine lv_if_lt (tgt := 181) hx hb dX8_copy_124 (by decide) (fun c54 => ?_) (fun c54 => ?_)
                          · have hf := ifT hf c54
                            clear c54
                            exact J181 _ _ ls ⟨hP, hD, hS, lv_sub hl [0] rfl⟩ hf
                          · have hf := ifF hf c54
                            clear c54
                            refine lv_iload hx hb dX8_copy_127 (lv_at hl 4 rfl) ?_
                            refine lv_if_lt (tgt := 181) hx hb dX8_copy_129 (by decide) (fun c53 => ?_) (fun c53 => ?_)
                            · have hf := ifT hf c53
                              clear c53
                              exact J181 _ _ ls ⟨hP, hD, hS, lv_sub hl [0] rfl⟩ hf
                            · have hf := ifF hf c53
                              clear c53
                              refine lv_iload hx hb dX8_copy_132 (lv_at hl 5 rfl) ?_
                              refine lv_aload_n hx hb dX8_copy_134 rfl (lv_at hl 0 rfl) ?_
                              refine va_get (D := D) (ci := 8) (v := .ref q_t_rowSize) (C := RX8) (T := TX8) (N := 37) hx hb hts hinX8 hown hK.1 hP 0 rfl rfl 2 (by decide) hk16 (fun _ h9 => h9) rfl dX8_copy_135 ?_
                              refine lv_iload_n hx hb dX8_copy_138 rfl (lv_at hl 1 rfl) ?_
                              obtain ⟨hi27, hf⟩ := ckE hf
                              refine va_iald hx hb hK.1 hP 3 0 rfl rfl hi27 dX8_copy_139 ?_
                              refine lv_icmp_gt (tgt := 181) hx hb dX8_copy_140 (by decide) (fun c52 => ?_) (fun c52 => ?_)
                              · have hf := ifT hf c52
                                clear c52
                                exact J181 _ _ ls ⟨hP, hD, hS, lv_sub hl [0] rfl⟩ hf
                              · have hf := ifF hf c52
                                clear c52
                                refine lv_iload hx hb dX8_copy_143 (lv_at hl 5 rfl) ?_
                                refine lv_aload_n hx hb dX8_copy_145 rfl (lv_at hl 0 rfl) ?_
                                refine va_get (D := D) (ci := 8) (v := .ref q_t_rowSize) (C := RX8) (T := TX8) (N := 37) hx hb hts hinX8 hown hK.1 hP 0 rfl rfl 2 (by decide) hk16 (fun _ h9 => h9) rfl dX8_copy_146 ?_
                                refine lv_iload_n hx hb dX8_copy_149 rfl (lv_at hl 2 rfl) ?_
                                obtain ⟨hi28, hf⟩ := ckE hf
                                refine va_iald hx hb hK.1 hP 3 0 rfl rfl hi28 dX8_copy_150 ?_
                                refine lv_icmp_gt (tgt := 181) hx hb dX8_copy_151 (by decide) (fun c51 => ?_) (fun c51 => ?_)
                                · have hf := ifT hf c51
                                  clear c51
                                  exact J181 _ _ ls ⟨hP, hD, hS, lv_sub hl [0] rfl⟩ hf
                                · have hf := ifF hf c51
                                  clear c51
                                  refine lv_iload_n hx hb dX8_copy_154 rfl (lv_at hl 3 rfl) ?_
                                  refine lv_aload_n hx hb dX8_copy_155 rfl (lv_at hl 0 rfl) ?_
                                  refine va_get (D := D) (ci := 8) (v := .ref q_t_rowSize) (C := RX8) (T := TX8) (N := 37) hx hb hts hinX8 hown hK.1 hP 0 rfl rfl 2 (by decide) hk16 (fun _ h9 => h9) rfl dX8_copy_156 ?_
                                  refine lv_iload_n hx hb dX8_copy_159 rfl (lv_at hl 1 rfl) ?_
                                  obtain ⟨hi29, hf⟩ := ckE hf
                                  refine va_iald hx hb hK.1 hP 3 0 rfl rfl hi29 dX8_copy_160 ?_
                                  refine lv_iload hx hb dX8_copy_161 (lv_at hl 5 rfl) ?_
                                  refine lv_isub hx hb dX8_copy_163 ?_
                                  refine lv_icmp_gt (tgt := 181) hx hb dX8_copy_164 (by decide) (fun c50 => ?_) (fun c50 => ?_)
                                  · have hf := ifT hf c50
                                    clear c50
                                    exact J181 _ _ ls ⟨hP, hD, hS, lv_sub hl [0] rfl⟩ hf
                                  · have hf := ifF hf c50
                                    clear c50
                                    refine lv_iload hx hb dX8_copy_167 (lv_at hl 4 rfl) ?_
                                    refine lv_aload_n hx hb dX8_copy_169 rfl (lv_at hl 0 rfl) ?_
                                    refine va_get (D := D) (ci := 8) (v := .ref q_t_rowSize) (C := RX8) (T := TX8) (N := 37) hx hb hts hinX8 hown hK.1 hP 0 rfl rfl 2 (by decide) hk16 (fun _ h9 => h9) rfl dX8_copy_170 ?_
                                    refine lv_iload_n hx hb dX8_copy_173 rfl (lv_at hl 2 rfl) ?_
                                    obtain ⟨hi30, hf⟩ := ckE hf
                                    refine va_iald hx hb hK.1 hP 3 0 rfl rfl hi30 dX8_copy_174 ?_
                                    refine lv_iload hx hb dX8_copy_175 (lv_at hl 5 rfl) ?_
                                    refine lv_isub hx hb dX8_copy_177 ?_
                                    refine lv_icmp_le (tgt := 188) hx hb dX8_copy_178 (by decide) (fun c49 => ?_) (fun c49 => ?_)
                                    · have hf := ifT hf c49
                                      clear c49
                                      refine lv_iconst (v := 0) hx hb dX8_copy_188 (by decide) ?_
                                      refine lv_istore (lv' := [(6, .int (0 : Int32)), (0, .ref q_t), (1, .int p0), (2, .int p1), (3, .int p2), (4, .int p3), (5, .int p4)]) hx hb dX8_copy_189 hl (by decide) rfl (fun ls hl => ?_)
                                      refine wlw2 191 (fun _ _ => []) (fun (x31 : Int32) (u32 : Nat → Int64) H locs ls => va_P D vwCl ([(q_t, oX8 q_t_shelf q_t_rowSort q_t_rowSize q_t_rows q_t_moved q_t_shown q_t_tape v_t_tapeSize q_t_refused v_t_places q_t_ways v_t_people q_t_kind q_t_by q_t_home q_t_aim q_t_at0 v_t_hour v_t_chance v_t_seed w_t_kept w_t_tried v_t_at v_t_token v_t_from v_t_figures v_t_fault q_t_told v_t_statements q_t_steps q_t_spot q_t_then v_t_now v_t_gone q_t_sights q_t_darkAt q_t_can), (q_t_shelf, .inl (cy 0, 8, .inl v_t_shelf)), (q_t_rowSort, .inl (cy 0, 8, .inl v_t_rowSort)), (q_t_rowSize, .inl (cy 0, 8, .inl v_t_rowSize)), (q_t_rows, .inl (cy 4, 8, .inr (.inr (.inr (.inr (fun i => some (ad_t_rows i))))))), (q_t_moved, .inl (cy 1, 40, .inr (.inl u32))), (q_t_refused, .inl (cy 0, 8, .inl v_t_refused))] ++ wFJ cy 8 40 ad_t_rows v_t_rows) H ∧ va_D A ([(q_t, oX8 q_t_shelf q_t_rowSort q_t_rowSize q_t_rows q_t_moved q_t_shown q_t_tape v_t_tapeSize q_t_refused v_t_places q_t_ways v_t_people q_t_kind q_t_by q_t_home q_t_aim q_t_at0 v_t_hour v_t_chance v_t_seed w_t_kept w_t_tried v_t_at v_t_token v_t_from v_t_figures v_t_fault q_t_told v_t_statements q_t_steps q_t_spot q_t_then v_t_now v_t_gone q_t_sights q_t_darkAt q_t_can), (q_t_shelf, .inl (cy 0, 8, .inl v_t_shelf)), (q_t_rowSort, .inl (cy 0, 8, .inl v_t_rowSort)), (q_t_rowSize, .inl (cy 0, 8, .inl v_t_rowSize)), (q_t_rows, .inl (cy 4, 8, .inr (.inr (.inr (.inr (fun i => some (ad_t_rows i))))))), (q_t_moved, .inl (cy 1, 40, .inr (.inl u32))), (q_t_refused, .inl (cy 0, 8, .inl v_t_refused))] ++ wFJ cy 8 40 ad_t_rows v_t_rows) ∧ va_S A s.heap H locs ∧ lv_has ls 7 [(6, .int x31), (0, .ref q_t), (1, .int p0), (2, .int p1), (3, .int p2), (4, .int p3), (5, .int p4)]) (fun g33 L191 x31 u32 H locs ls hI hf => ?_) 400 (0 : Int32) v_t_moved _ _ ls ⟨hP, hD, hS, lv_sub hl [0, 1, 2, 3, 4, 5, 6] rfl⟩ hf
                                      obtain ⟨hP, hD, hS, hl⟩ := hI
                                      refine lv_iload hx hb dX8_copy_191 (lv_at hl 0 rfl) ?_
                                      refine lv_iload hx hb dX8_copy_193 (lv_at hl 6 rfl) ?_
                                      refine lv_icmp_ge (tgt := 222) hx hb dX8_copy_195 (by decide) (fun c48 => ?_) (fun c48 => ?_)
                                      · have hf := ifT hf c48
                                        clear c48
                                        refine lv_iconst (v := 0) hx hb dX8_copy_222 (by decide) ?_
                                        refine lv_istore (lv' := [(6, .int (0 : Int32)), (0, .ref q_t), (1, .int p0), (2, .int p1), (3, .int p2), (4, .int p3), (5, .int p4)]) hx hb dX8_copy_223 hl (by decide) rfl (fun ls hl => ?_)
                                        refine wlw2 225 (fun _ _ => []) (fun (x34 : Int32) (u35 : Nat → Nat → Int64) H locs ls => va_P D vwCl ([(q_t, oX8 q_t_shelf q_t_rowSort q_t_rowSize q_t_rows q_t_moved q_t_shown q_t_tape v_t_tapeSize q_t_refused v_t_places q_t_ways v_t_people q_t_kind q_t_by q_t_home q_t_aim q_t_at0 v_t_hour v_t_chance v_t_seed w_t_kept w_t_tried v_t_at v_t_token v_t_from v_t_figures v_t_fault q_t_told v_t_statements q_t_steps q_t_spot q_t_then v_t_now v_t_gone q_t_sights q_t_darkAt q_t_can), (q_t_shelf, .inl (cy 0, 8, .inl v_t_shelf)), (q_t_rowSort, .inl (cy 0, 8, .inl v_t_rowSort)), (q_t_rowSize, .inl (cy 0, 8, .inl v_t_rowSize)), (q_t_rows, .inl (cy 4, 8, .inr (.inr (.inr (.inr (fun i => some (ad_t_rows i))))))), (q_t_moved, .inl (cy 1, 40, .inr (.inl u32))), (q_t_refused, .inl (cy 0, 8, .inl v_t_refused))] ++ wFJ cy 8 40 ad_t_rows u35) H ∧ va_D A ([(q_t, oX8 q_t_shelf q_t_rowSort q_t_rowSize q_t_rows q_t_moved q_t_shown q_t_tape v_t_tapeSize q_t_refused v_t_places q_t_ways v_t_people q_t_kind q_t_by q_t_home q_t_aim q_t_at0 v_t_hour v_t_chance v_t_seed w_t_kept w_t_tried v_t_at v_t_token v_t_from v_t_figures v_t_fault q_t_told v_t_statements q_t_steps q_t_spot q_t_then v_t_now v_t_gone q_t_sights q_t_darkAt q_t_can), (q_t_shelf, .inl (cy 0, 8, .inl v_t_shelf)), (q_t_rowSort, .inl (cy 0, 8, .inl v_t_rowSort)), (q_t_rowSize, .inl (cy 0, 8, .inl v_t_rowSize)), (q_t_rows, .inl (cy 4, 8, .inr (.inr (.inr (.inr (fun i => some (ad_t_rows i))))))), (q_t_moved, .inl (cy 1, 40, .inr (.inl u32))), (q_t_refused, .inl (cy 0, 8, .inl v_t_refused))] ++ wFJ cy 8 40 ad_t_rows u35) ∧ va_S A s.heap H locs ∧ lv_has ls 7 [(6, .int x34), (0, .ref q_t), (2, .int p1), (4, .int p3), (5, .int p4)]) (fun g36 L225 x34 u35 H locs ls hI hf => ?_) 400 (0 : Int32) v_t_rows _ _ ls ⟨hP, hD, hS, lv_sub hl [0, 1, 3, 5, 6] rfl⟩ hf
                                        obtain ⟨hP, hD, hS, hl⟩ := hI
                                        refine lv_iload hx hb dX8_copy_225 (lv_at hl 0 rfl) ?_
                                        refine lv_iload hx hb dX8_copy_227 (lv_at hl 4 rfl) ?_
                                        refine lv_icmp_ge (tgt := 257) hx hb dX8_copy_229 (by decide) (fun c42 => ?_) (fun c42 => ?_)
                                        · have hf := ifT hf c42
                                          clear c42
                                          refine lv_iload hx hb dX8_copy_257 (lv_at hl 4 rfl) ?_
                                          cases hf
                                          exact W.iret hx hb hr (fun t ht hW => ⟨⟨_, (), rfl, rfl, xend ht hP⟩, hS.F ht⟩) hS.2.2 dX8_copy_259
                                        · have hf := ifF hf c42
                                          clear c42
                                          refine lv_aload_n hx hb dX8_copy_232 rfl (lv_at hl 1 rfl) ?_
                                          refine va_get (D := D) (ci := 8) (v := .ref q_t_rows) (C := RX8) (T := TX8) (N := 37) hx hb hts hinX8 hown hK.1 hP 0 rfl rfl 3 (by decide) hk21 (fun _ h9 => h9) rfl dX8_copy_233 ?_
                                          refine lv_iload_n hx hb dX8_copy_236 rfl (lv_at hl 2 rfl) ?_
                                          obtain ⟨hi37, hf⟩ := ckE hf
                                          have hj38 : p1.toNatClampNeg < 8 := xlt hi37
                                          refine va_alda hx hb hK.1 hP 4 4 rfl rfl hi37 dX8_copy_237 ?_
                                          refine W.eq (g2 := F0 m 238 ls [.ref (ad_t_rows p1.toNatClampNeg)]) rfl ?_
                                          refine lv_iload hx hb dX8_copy_238 (lv_at hl 3 rfl) ?_
                                          refine lv_iload hx hb dX8_copy_240 (lv_at hl 0 rfl) ?_
                                          refine lv_iadd hx hb dX8_copy_242 ?_
                                          refine lv_aload_n hx hb dX8_copy_243 rfl (lv_at hl 1 rfl) ?_
                                          refine va_get (D := D) (ci := 8) (v := .ref q_t_moved) (C := RX8) (T := TX8) (N := 37) hx hb hts hinX8 hown hK.1 hP 0 rfl rfl 4 (by decide) hk24 (fun _ h9 => h9) rfl dX8_copy_244 ?_
                                          refine lv_iload hx hb dX8_copy_247 (lv_at hl 0 rfl) ?_
                                          obtain ⟨hi39, hf⟩ := ckE hf
                                          refine va_lald hx hb hK.1 hP 5 1 rfl rfl hi39 dX8_copy_249 ?_
                                          obtain ⟨hi40, hf⟩ := ckE hf
                                          refine va_last hx hb hK.1 hP hD hS _ 1 (xfj hj38) rfl hi40 dX8_copy_250 (fun H locs hP hD hS => ?_)
                                          rw [xfj_set hj38] at hP hD
                                          have hP : va_P D vwCl ([(q_t, oX8 q_t_shelf q_t_rowSort q_t_rowSize q_t_rows q_t_moved q_t_shown q_t_tape v_t_tapeSize q_t_refused v_t_places q_t_ways v_t_people q_t_kind q_t_by q_t_home q_t_aim q_t_at0 v_t_hour v_t_chance v_t_seed w_t_kept w_t_tried v_t_at v_t_token v_t_from v_t_figures v_t_fault q_t_told v_t_statements q_t_steps q_t_spot q_t_then v_t_now v_t_gone q_t_sights q_t_darkAt q_t_can), (q_t_shelf, .inl (cy 0, 8, .inl v_t_shelf)), (q_t_rowSort, .inl (cy 0, 8, .inl v_t_rowSort)), (q_t_rowSize, .inl (cy 0, 8, .inl v_t_rowSize)), (q_t_rows, .inl (cy 4, 8, .inr (.inr (.inr (.inr (fun i => some (ad_t_rows i))))))), (q_t_moved, .inl (cy 1, 40, .inr (.inl u32))), (q_t_refused, .inl (cy 0, 8, .inl v_t_refused))] ++ wFJ cy 8 40 ad_t_rows (va_up u35 p1.toNatClampNeg (vp_updL (u35 p1.toNatClampNeg) (p3 + x34).toNatClampNeg (u32 x34.toNatClampNeg)))) H := hP
                                          have hD : va_D A ([(q_t, oX8 q_t_shelf q_t_rowSort q_t_rowSize q_t_rows q_t_moved q_t_shown q_t_tape v_t_tapeSize q_t_refused v_t_places q_t_ways v_t_people q_t_kind q_t_by q_t_home q_t_aim q_t_at0 v_t_hour v_t_chance v_t_seed w_t_kept w_t_tried v_t_at v_t_token v_t_from v_t_figures v_t_fault q_t_told v_t_statements q_t_steps q_t_spot q_t_then v_t_now v_t_gone q_t_sights q_t_darkAt q_t_can), (q_t_shelf, .inl (cy 0, 8, .inl v_t_shelf)), (q_t_rowSort, .inl (cy 0, 8, .inl v_t_rowSort)), (q_t_rowSize, .inl (cy 0, 8, .inl v_t_rowSize)), (q_t_rows, .inl (cy 4, 8, .inr (.inr (.inr (.inr (fun i => some (ad_t_rows i))))))), (q_t_moved, .inl (cy 1, 40, .inr (.inl u32))), (q_t_refused, .inl (cy 0, 8, .inl v_t_refused))] ++ wFJ cy 8 40 ad_t_rows (va_up u35 p1.toNatClampNeg (vp_updL (u35 p1.toNatClampNeg) (p3 + x34).toNatClampNeg (u32 x34.toNatClampNeg)))) := hD
                                          obtain ⟨x41, ex41⟩ : ∃ y : Int32, y = x34 + (1 : Int32) := ⟨_, rfl⟩
                                          have hf := vlE hf ex41
                                          refine lv_iinc (v := x41) (lv' := [(6, .int x41), (0, .ref q_t), (2, .int p1), (4, .int p3), (5, .int p4)]) hx hb dX8_copy_251 hl (k := 0) rfl (by rw [ex41]; rfl) (by decide) rfl (fun ls hl => ?_)
                                          clear ex41
                                          refine lv_goto (tgt := 225) hx hb dX8_copy_254 (by decide) ?_
                                          exact L225 x41 (va_up u35 p1.toNatClampNeg (vp_updL (u35 p1.toNatClampNeg) (p3 + x34).toNatClampNeg (u32 x34.toNatClampNeg))) _ _ ls ⟨hP, hD, hS, lv_sub hl [0, 1, 2, 3, 4] rfl⟩ hf
                                      · have hf := ifF hf c48
                                        clear c48
                                        refine lv_aload_n hx hb dX8_copy_198 rfl (lv_at hl 1 rfl) ?_
                                        refine va_get (D := D) (ci := 8) (v := .ref q_t_moved) (C := RX8) (T := TX8) (N := 37) hx hb hts hinX8 hown hK.1 hP 0 rfl rfl 4 (by decide) hk24 (fun _ h9 => h9) rfl dX8_copy_199 ?_
                                        refine lv_iload hx hb dX8_copy_202 (lv_at hl 0 rfl) ?_
                                        refine lv_aload_n hx hb dX8_copy_204 rfl (lv_at hl 1 rfl) ?_
                                        refine va_get (D := D) (ci := 8) (v := .ref q_t_rows) (C := RX8) (T := TX8) (N := 37) hx hb hts hinX8 hown hK.1 hP 0 rfl rfl 3 (by decide) hk21 (fun _ h9 => h9) rfl dX8_copy_205 ?_
                                        refine lv_iload_n hx hb dX8_copy_208 rfl (lv_at hl 2 rfl) ?_
                                        obtain ⟨hi43, hf⟩ := ckE hf
                                        have hj44 : p0.toNatClampNeg < 8 := xlt hi43
                                        refine va_alda hx hb hK.1 hP 4 4 rfl rfl hi43 dX8_copy_209 ?_
                                        refine W.eq (g2 := F0 m 210 ls [.ref (ad_t_rows p0.toNatClampNeg), .int x31, .ref q_t_moved]) rfl ?_
                                        refine lv_iload_n hx hb dX8_copy_210 rfl (lv_at hl 4 rfl) ?_
                                        refine lv_iload hx hb dX8_copy_211 (lv_at hl 0 rfl) ?_
                                        refine lv_iadd hx hb dX8_copy_213 ?_
                                        obtain ⟨hi45, hf⟩ := ckE hf
                                        refine va_lald hx hb hK.1 hP _ 1 (xfj hj44) rfl hi45 dX8_copy_214 ?_
                                        obtain ⟨hi46, hf⟩ := ckE hf
                                        refine va_last hx hb hK.1 hP hD hS 5 1 rfl rfl hi46 dX8_copy_215 (fun H locs hP hD hS => ?_)
                                        have hP : va_P D vwCl ([(q_t, oX8 q_t_shelf q_t_rowSort q_t_rowSize q_t_rows q_t_moved q_t_shown q_t_tape v_t_tapeSize q_t_refused v_t_places q_t_ways v_t_people q_t_kind q_t_by q_t_home q_t_aim q_t_at0 v_t_hour v_t_chance v_t_seed w_t_kept w_t_tried v_t_at v_t_token v_t_from v_t_figures v_t_fault q_t_told v_t_statements q_t_steps q_t_spot q_t_then v_t_now v_t_gone q_t_sights q_t_darkAt q_t_can), (q_t_shelf, .inl (cy 0, 8, .inl v_t_shelf)), (q_t_rowSort, .inl (cy 0, 8, .inl v_t_rowSort)), (q_t_rowSize, .inl (cy 0, 8, .inl v_t_rowSize)), (q_t_rows, .inl (cy 4, 8, .inr (.inr (.inr (.inr (fun i => some (ad_t_rows i))))))), (q_t_moved, .inl (cy 1, 40, .inr (.inl (vp_updL u32 x31.toNatClampNeg (v_t_rows p0.toNatClampNeg (p2 + x31).toNatClampNeg))))), (q_t_refused, .inl (cy 0, 8, .inl v_t_refused))] ++ wFJ cy 8 40 ad_t_rows v_t_rows) H := hP
                                        have hD : va_D A ([(q_t, oX8 q_t_shelf q_t_rowSort q_t_rowSize q_t_rows q_t_moved q_t_shown q_t_tape v_t_tapeSize q_t_refused v_t_places q_t_ways v_t_people q_t_kind q_t_by q_t_home q_t_aim q_t_at0 v_t_hour v_t_chance v_t_seed w_t_kept w_t_tried v_t_at v_t_token v_t_from v_t_figures v_t_fault q_t_told v_t_statements q_t_steps q_t_spot q_t_then v_t_now v_t_gone q_t_sights q_t_darkAt q_t_can), (q_t_shelf, .inl (cy 0, 8, .inl v_t_shelf)), (q_t_rowSort, .inl (cy 0, 8, .inl v_t_rowSort)), (q_t_rowSize, .inl (cy 0, 8, .inl v_t_rowSize)), (q_t_rows, .inl (cy 4, 8, .inr (.inr (.inr (.inr (fun i => some (ad_t_rows i))))))), (q_t_moved, .inl (cy 1, 40, .inr (.inl (vp_updL u32 x31.toNatClampNeg (v_t_rows p0.toNatClampNeg (p2 + x31).toNatClampNeg))))), (q_t_refused, .inl (cy 0, 8, .inl v_t_refused))] ++ wFJ cy 8 40 ad_t_rows v_t_rows) := hD
                                        obtain ⟨x47, ex47⟩ : ∃ y : Int32, y = x31 + (1 : Int32) := ⟨_, rfl⟩
                                        have hf := vlE hf ex47
                                        refine lv_iinc (v := x47) (lv' := [(6, .int x47), (0, .ref q_t), (1, .int p0), (2, .int p1), (3, .int p2), (4, .int p3), (5, .int p4)]) hx hb dX8_copy_216 hl (k := 0) rfl (by rw [ex47]; rfl) (by decide) rfl (fun ls hl => ?_)
                                        clear ex47
                                        refine lv_goto (tgt := 191) hx hb dX8_copy_219 (by decide) ?_
                                        exact L191 x47 (vp_updL u32 x31.toNatClampNeg (v_t_rows p0.toNatClampNeg (p2 + x31).toNatClampNeg)) _ _ ls ⟨hP, hD, hS, lv_sub hl [0, 1, 2, 3, 4, 5, 6] rfl⟩ hf
                                    · have hf := ifF hf c49
                                      clear c49
                                      exact J181 _ _ ls ⟨hP, hD, hS, lv_sub hl [0] rfl⟩ hf
                    · have hf := ifT hf c56
                      clear c56
                      exact J111 _ _ ls ⟨hP, hD, hS, lv_sub hl [0] rfl⟩ hf
              · refine lv_icmp_ne (tgt := 93) hx hb dX8_copy_58 (by decide) (fun c63 => ?_) (fun c63 => ?_)
                · have hf := ifF hf c63
                  clear c63
                  exact J93 _ _ ls ⟨hP, hD, hS, lv_sub hl [0, 1, 2, 3, 4, 5] rfl⟩ hf
                · have hf := ifT hf c63
                  clear c63
                  refine lv_aload_n hx hb dX8_copy_61 rfl (lv_at hl 0 rfl) ?_
                  refine va_get (D := D) (ci := 8) (v := .ref q_t_shelf) (C := RX8) (T := TX8) (N := 37) hx hb hts hinX8 hown hK.1 hP 0 rfl rfl 0 (by decide) hk7 (fun _ h9 => h9) rfl dX8_copy_62 ?_
                  refine lv_iload_n hx hb dX8_copy_65 rfl (lv_at hl 2 rfl) ?_
                  obtain ⟨hi58, hf⟩ := ckE hf
                  refine va_iald hx hb hK.1 hP 1 0 rfl rfl hi58 dX8_copy_66 ?_
                  refine lv_iconst (v := 1) hx hb dX8_copy_67 (by decide) ?_
                  refine lv_icmp_ne (tgt := 93) hx hb dX8_copy_68 (by decide) (fun c62 => ?_) (fun c62 => ?_)
                  · have hf := ifF hf c62
                    clear c62
                    exact J93 _ _ ls ⟨hP, hD, hS, lv_sub hl [0, 1, 2, 3, 4, 5] rfl⟩ hf
                  · have hf := ifT hf c62
                    clear c62
                    refine lv_aload_n hx hb dX8_copy_71 rfl (lv_at hl 0 rfl) ?_
                    refine va_get (D := D) (ci := 8) (v := .ref q_t_rowSort) (C := RX8) (T := TX8) (N := 37) hx hb hts hinX8 hown hK.1 hP 0 rfl rfl 1 (by decide) hk13 (fun _ h9 => h9) rfl dX8_copy_72 ?_
                    refine lv_iload_n hx hb dX8_copy_75 rfl (lv_at hl 1 rfl) ?_
                    obtain ⟨hi59, hf⟩ := ckE hf
                    refine va_iald hx hb hK.1 hP 2 0 rfl rfl hi59 dX8_copy_76 ?_
                    refine lv_aload_n hx hb dX8_copy_77 rfl (lv_at hl 0 rfl) ?_
                    refine va_get (D := D) (ci := 8) (v := .ref q_t_rowSort) (C := RX8) (T := TX8) (N := 37) hx hb hts hinX8 hown hK.1 hP 0 rfl rfl 1 (by decide) hk13 (fun _ h9 => h9) rfl dX8_copy_78 ?_
                    refine lv_iload_n hx hb dX8_copy_81 rfl (lv_at hl 2 rfl) ?_
                    obtain ⟨hi60, hf⟩ := ckE hf
                    refine va_iald hx hb hK.1 hP 2 0 rfl rfl hi60 dX8_copy_82 ?_
                    refine lv_icmp_eq (tgt := 93) hx hb dX8_copy_83 (by decide) (fun c61 => ?_) (fun c61 => ?_)
                    · have hf := ifT hf c61
                      clear c61
                      exact J93 _ _ ls ⟨hP, hD, hS, lv_sub hl [0, 1, 2, 3, 4, 5] rfl⟩ hf
                    · have hf := ifF hf c61
                      clear c61
                      exact J86 _ _ ls ⟨hP, hD, hS, lv_sub hl [0] rfl⟩ hf
      · have hf := ifT hf c66
        clear c66
        exact J24 _ _ ls ⟨hP, hD, hS, lv_sub hl [0] rfl⟩ hf
def fX8_element (v_t_shelf : Nat → Int32) (v_t_rowSize : Nat → Int32) (v_t_rows : Nat → Nat → Int64) (p0 : Int32) (p1 : Int32) : Option (Int64) :=
  bo1 (fX8_in p0.toInt64 (0 : Int64) (7 : Int64)) fun r1 =>
  if r1 = 0 then
    some (0 : Int64)
  else
    if p0 < 0 ∨ 8 ≤ p0.toNatClampNeg then none else
    if (v_t_shelf p0.toNatClampNeg) = (1 : Int32) then
      if p0 < 0 ∨ 8 ≤ p0.toNatClampNeg then none else
      bo1 (fX8_in p1.toInt64 (0 : Int64) (((v_t_rowSize p0.toNatClampNeg) - (1 : Int32)).toInt64)) fun r5 =>
      if r5 = 0 then
        some (0 : Int64)
      else
        if p0 < 0 ∨ 8 ≤ p0.toNatClampNeg then none else
        if p1 < 0 ∨ 40 ≤ p1.toNatClampNeg then none else
        some (v_t_rows p0.toNatClampNeg p1.toNatClampNeg)
    else
      some (0 : Int64)
set_option maxHeartbeats 4000000 in
set_option maxRecDepth 100000 in
theorem mX8_element (l : Launch) (D : va_G) (cy : Nat → ClassId) (q_t q_t_shelf q_t_rowSort q_t_rowSize q_t_rows q_t_moved q_t_shown q_t_tape q_t_refused q_t_ways q_t_kind q_t_by q_t_home q_t_aim q_t_at0 q_t_told q_t_steps q_t_spot q_t_then q_t_sights q_t_darkAt q_t_can : Nat) (ad_t_rows : Nat → Nat) (v_t_tapeSize : Int32) (v_t_places : Int32) (v_t_people : Int32) (v_t_hour : Int32) (v_t_chance : Int32) (v_t_seed : Int32) (w_t_kept : Value) (w_t_tried : Value) (v_t_at : Int32) (v_t_token : Int32) (v_t_from : Int32) (v_t_figures : Int32) (v_t_fault : Int32) (v_t_statements : Int32) (v_t_now : Int32) (v_t_gone : Int32) (v_t_shelf : Nat → Int32) (v_t_rowSize : Nat → Int32) (v_t_rows : Nat → Nat → Int64) (p0 : Int32) (p1 : Int32) {r_ : Int64} (hf : fX8_element v_t_shelf v_t_rowSize v_t_rows p0 p1 = some r_) : Met l yX8_element wsX8_element ({ frames := 1, cells := 0, slots := 0, locals := 25 }) (va_Pc [.ref q_t, .int p0, .int p1] (fun U => va_P D vwCl ([(q_t, oX8 q_t_shelf q_t_rowSort q_t_rowSize q_t_rows q_t_moved q_t_shown q_t_tape v_t_tapeSize q_t_refused v_t_places q_t_ways v_t_people q_t_kind q_t_by q_t_home q_t_aim q_t_at0 v_t_hour v_t_chance v_t_seed w_t_kept w_t_tried v_t_at v_t_token v_t_from v_t_figures v_t_fault q_t_told v_t_statements q_t_steps q_t_spot q_t_then v_t_now v_t_gone q_t_sights q_t_darkAt q_t_can), (q_t_shelf, .inl (cy 0, 8, .inl v_t_shelf)), (q_t_rowSize, .inl (cy 0, 8, .inl v_t_rowSize)), (q_t_rows, .inl (cy 4, 8, .inr (.inr (.inr (.inr (fun i => some (ad_t_rows i)))))))] ++ wFJ cy 8 40 ad_t_rows v_t_rows) U.heap ∧ xK D cy U)) (vp_Sl (fun x => x = r_)) 0 0 (fun _ => False) := by
  refine Met.ofW (cc := cX8_element) (maxL := 3) (ret := (some .long)) (by decide) rfl ?_
  intro p e s m args below meth c s₁ B hml hv
  obtain ⟨rfl, hP, hK⟩ := hv
  have hx := B.exec
  have hb := B.bytes
  have hr := B.returns
  have hts := atoms_spec (ws := wsX8_element) B.pre
  have hown : s.vm.findClass RX8 = some m.cls := findClass_of_methodNamed B.named
  have hlocks := B.notSynchronized
  have hP : va_P D vwCl ([(q_t, oX8 q_t_shelf q_t_rowSort q_t_rowSize q_t_rows q_t_moved q_t_shown q_t_tape v_t_tapeSize q_t_refused v_t_places q_t_ways v_t_people q_t_kind q_t_by q_t_home q_t_aim q_t_at0 v_t_hour v_t_chance v_t_seed w_t_kept w_t_tried v_t_at v_t_token v_t_from v_t_figures v_t_fault q_t_told v_t_statements q_t_steps q_t_spot q_t_then v_t_now v_t_gone q_t_sights q_t_darkAt q_t_can), (q_t_shelf, .inl (cy 0, 8, .inl v_t_shelf)), (q_t_rowSize, .inl (cy 0, 8, .inl v_t_rowSize)), (q_t_rows, .inl (cy 4, 8, .inr (.inr (.inr (.inr (fun i => some (ad_t_rows i)))))))] ++ wFJ cy 8 40 ad_t_rows v_t_rows) s.heap := hP
  have hc98 := hts (.constantLong RX8 98 (7)) (by decide +kernel)
  have hinX8 : ∀ w ∈ u_ws RX8 TX8 37, w ∈ wsX8_element := by decide +kernel
  have hk7 := hts (.fieldLink RX8 7 "ShowsWhereNobodyIsModel" "shelf" "[I") (by decide +kernel)
  have hk16 := hts (.fieldLink RX8 16 "ShowsWhereNobodyIsModel" "rowSize" "[I") (by decide +kernel)
  have hk21 := hts (.fieldLink RX8 21 "ShowsWhereNobodyIsModel" "rows" "[[J") (by decide +kernel)
  have hl := lv_entry ([.ref q_t, .int p0, .int p1]) (n := 3) (Nat.le_of_ble_eq_true rfl)
  rw [lg_entry_eq]
  generalize (lg_sl ([.ref q_t, .int p0, .int p1]) ++ List.replicate (3 - (lg_sl ([.ref q_t, .int p0, .int p1])).length) Slot.unset).toArray = ls at hl ⊢
  have hl : lv_has ls 3 [(0, .ref q_t), (1, .int p0), (2, .int p1)] := hl
  unfold fX8_element at hf
  refine lv_iload_n hx hb dX8_element_0 rfl (lv_at hl 1 rfl) ?_
  refine lv_i2l hx hb dX8_element_1 rfl ?_
  refine lv_lconst (v := 0) hx hb dX8_element_2 (by decide) ?_
  refine lv_ldc2 hx hb hown hc98 dX8_element_3 ?_
  obtain ⟨r1, hr2, hf⟩ := boE1 hf
  have hPc := hP.sub (ws' := []) [] rfl
  refine xcSi (va_runS (As := [.long p0.toInt64, .long (0 : Int64), .long (7 : Int64)]) (rest := []) ⟨hx, hb, hml, hown, hts⟩ (mX8_in l D cy    p0.toInt64 (0 : Int64) (7 : Int64) hr2) (va_cwS 3 hts gX8_element_X8_in rfl rfl rfl (by decide +kernel) ⟨Nat.le_of_ble_eq_true rfl, Nat.le_of_ble_eq_true rfl⟩) (xPS hK hPc) rfl rfl hl.1 rfl (lv_room (Nat.le_of_ble_eq_true rfl)) dX8_element_6 ⟨Nat.le_of_ble_eq_true rfl, Nat.le_of_ble_eq_true rfl⟩) ?_
  refine lv_if_eq (tgt := 51) hx hb dX8_element_9 (by decide) (fun c12 => ?_) (fun c12 => ?_)
  · have hf := ifT hf c12
    clear c12
    refine lv_lconst (v := 0) hx hb dX8_element_51 (by decide) ?_
    exact W.lret (v := (0 : Int64)) hx hb hr (fun t ht hW => ⟨(0 : Int64), rfl, Option.some.inj hf, ht⟩) (fun q h => nomatch h) dX8_element_52
  · have hf := ifF hf c12
    clear c12
    refine lv_aload_n hx hb dX8_element_12 rfl (lv_at hl 0 rfl) ?_
    refine va_get (D := D) (ci := 8) (v := .ref q_t_shelf) (C := RX8) (T := TX8) (N := 37) hx hb hts hinX8 hown hK.1 hP 0 rfl rfl 0 (by decide) hk7 (fun _ h9 => h9) rfl dX8_element_13 ?_
    refine lv_iload_n hx hb dX8_element_16 rfl (lv_at hl 1 rfl) ?_
    obtain ⟨hi3, hf⟩ := ckE hf
    refine va_iald hx hb hK.1 hP 1 0 rfl rfl hi3 dX8_element_17 ?_
    refine lv_iconst (v := 1) hx hb dX8_element_18 (by decide) ?_
    refine lv_icmp_ne (tgt := 51) hx hb dX8_element_19 (by decide) (fun c11 => ?_) (fun c11 => ?_)
    · have hf := ifF hf c11
      clear c11
      refine lv_lconst (v := 0) hx hb dX8_element_51 (by decide) ?_
      exact W.lret (v := (0 : Int64)) hx hb hr (fun t ht hW => ⟨(0 : Int64), rfl, Option.some.inj hf, ht⟩) (fun q h => nomatch h) dX8_element_52
    · have hf := ifT hf c11
      clear c11
      refine lv_iload_n hx hb dX8_element_22 rfl (lv_at hl 2 rfl) ?_
      refine lv_i2l hx hb dX8_element_23 rfl ?_
      refine lv_lconst (v := 0) hx hb dX8_element_24 (by decide) ?_
      refine lv_aload_n hx hb dX8_element_25 rfl (lv_at hl 0 rfl) ?_
      refine va_get (D := D) (ci := 8) (v := .ref q_t_rowSize) (C := RX8) (T := TX8) (N := 37) hx hb hts hinX8 hown hK.1 hP 0 rfl rfl 2 (by decide) hk16 (fun _ h9 => h9) rfl dX8_element_26 ?_
      refine lv_iload_n hx hb dX8_element_29 rfl (lv_at hl 1 rfl) ?_
      obtain ⟨hi4, hf⟩ := ckE hf
      refine va_iald hx hb hK.1 hP 2 0 rfl rfl hi4 dX8_element_30 ?_
      refine lv_iconst (v := 1) hx hb dX8_element_31 (by decide) ?_
      refine lv_isub hx hb dX8_element_32 ?_
      refine lv_i2l hx hb dX8_element_33 rfl ?_
      obtain ⟨r5, hr6, hf⟩ := boE1 hf
      have hPc := hP.sub (ws' := []) [] rfl
      refine xcSi (va_runS (As := [.long p1.toInt64, .long (0 : Int64), .long (((v_t_rowSize p0.toNatClampNeg) - (1 : Int32)).toInt64)]) (rest := []) ⟨hx, hb, hml, hown, hts⟩ (mX8_in l D cy    p1.toInt64 (0 : Int64) (((v_t_rowSize p0.toNatClampNeg) - (1 : Int32)).toInt64) hr6) (va_cwS 3 hts gX8_element_X8_in rfl rfl rfl (by decide +kernel) ⟨Nat.le_of_ble_eq_true rfl, Nat.le_of_ble_eq_true rfl⟩) (xPS hK hPc) rfl rfl hl.1 rfl (lv_room (Nat.le_of_ble_eq_true rfl)) dX8_element_34 ⟨Nat.le_of_ble_eq_true rfl, Nat.le_of_ble_eq_true rfl⟩) ?_
      refine lv_if_eq (tgt := 51) hx hb dX8_element_37 (by decide) (fun c10 => ?_) (fun c10 => ?_)
      · have hf := ifT hf c10
        clear c10
        refine lv_lconst (v := 0) hx hb dX8_element_51 (by decide) ?_
        exact W.lret (v := (0 : Int64)) hx hb hr (fun t ht hW => ⟨(0 : Int64), rfl, Option.some.inj hf, ht⟩) (fun q h => nomatch h) dX8_element_52
      · have hf := ifF hf c10
        clear c10
        refine lv_aload_n hx hb dX8_element_40 rfl (lv_at hl 0 rfl) ?_
        refine va_get (D := D) (ci := 8) (v := .ref q_t_rows) (C := RX8) (T := TX8) (N := 37) hx hb hts hinX8 hown hK.1 hP 0 rfl rfl 3 (by decide) hk21 (fun _ h9 => h9) rfl dX8_element_41 ?_
        refine lv_iload_n hx hb dX8_element_44 rfl (lv_at hl 1 rfl) ?_
        obtain ⟨hi7, hf⟩ := ckE hf
        have hj8 : p0.toNatClampNeg < 8 := xlt hi7
        refine va_alda hx hb hK.1 hP 3 4 rfl rfl hi7 dX8_element_45 ?_
        refine W.eq (g2 := F0 m 46 ls [.ref (ad_t_rows p0.toNatClampNeg)]) rfl ?_
        refine lv_iload_n hx hb dX8_element_46 rfl (lv_at hl 2 rfl) ?_
        obtain ⟨hi9, hf⟩ := ckE hf
        refine va_lald hx hb hK.1 hP _ 1 (xfj hj8) rfl hi9 dX8_element_47 ?_
        refine lv_goto (tgt := 52) hx hb dX8_element_48 (by decide) ?_
        exact W.lret (v := (v_t_rows p0.toNatClampNeg p1.toNatClampNeg)) hx hb hr (fun t ht hW => ⟨(v_t_rows p0.toNatClampNeg p1.toNatClampNeg), rfl, Option.some.inj hf, ht⟩) (fun q h => nomatch h) dX8_element_52
def fX8_holds (v_t_shelf : Nat → Int32) (v_t_rowSort : Nat → Int32) (v_t_shown : Nat → Int32) (p0 : Int32) : Option (Int32) :=
  bo1 (fX8_in p0.toInt64 (0 : Int64) (7 : Int64)) fun r1 =>
  if r1 = 0 then
    some (-1 : Int32)
  else
    if p0 < 0 ∨ 8 ≤ p0.toNatClampNeg then none else
    if (v_t_shelf p0.toNatClampNeg) = 0 then
      some (-1 : Int32)
    else
      if p0 < 0 ∨ 8 ≤ p0.toNatClampNeg then none else
      if (v_t_shelf p0.toNatClampNeg) = (1 : Int32) then
        if p0 < 0 ∨ 8 ≤ p0.toNatClampNeg then none else
        some (v_t_rowSort p0.toNatClampNeg)
      else
        if p0 < 0 ∨ 8 ≤ p0.toNatClampNeg then none else
        some ((10 : Int32) + (v_t_shown p0.toNatClampNeg))
set_option maxHeartbeats 4000000 in
set_option maxRecDepth 100000 in
theorem mX8_holds (l : Launch) (D : va_G) (cy : Nat → ClassId) (q_t q_t_shelf q_t_rowSort q_t_rowSize q_t_rows q_t_moved q_t_shown q_t_tape q_t_refused q_t_ways q_t_kind q_t_by q_t_home q_t_aim q_t_at0 q_t_told q_t_steps q_t_spot q_t_then q_t_sights q_t_darkAt q_t_can : Nat) (v_t_tapeSize : Int32) (v_t_places : Int32) (v_t_people : Int32) (v_t_hour : Int32) (v_t_chance : Int32) (v_t_seed : Int32) (w_t_kept : Value) (w_t_tried : Value) (v_t_at : Int32) (v_t_token : Int32) (v_t_from : Int32) (v_t_figures : Int32) (v_t_fault : Int32) (v_t_statements : Int32) (v_t_now : Int32) (v_t_gone : Int32) (v_t_shelf : Nat → Int32) (v_t_rowSort : Nat → Int32) (v_t_shown : Nat → Int32) (p0 : Int32) {r_ : Int32} (hf : fX8_holds v_t_shelf v_t_rowSort v_t_shown p0 = some r_) : Met l yX8_holds wsX8_holds ({ frames := 1, cells := 0, slots := 0, locals := 25 }) (va_Pc [.ref q_t, .int p0] (fun U => va_P D vwCl [(q_t, oX8 q_t_shelf q_t_rowSort q_t_rowSize q_t_rows q_t_moved q_t_shown q_t_tape v_t_tapeSize q_t_refused v_t_places q_t_ways v_t_people q_t_kind q_t_by q_t_home q_t_aim q_t_at0 v_t_hour v_t_chance v_t_seed w_t_kept w_t_tried v_t_at v_t_token v_t_from v_t_figures v_t_fault q_t_told v_t_statements q_t_steps q_t_spot q_t_then v_t_now v_t_gone q_t_sights q_t_darkAt q_t_can), (q_t_shelf, .inl (cy 0, 8, .inl v_t_shelf)), (q_t_rowSort, .inl (cy 0, 8, .inl v_t_rowSort)), (q_t_shown, .inl (cy 0, 8, .inl v_t_shown))] U.heap ∧ xK D cy U)) (vp_Si (fun x => x = r_)) 0 0 (fun _ => False) := by
  refine Met.ofW (cc := cX8_holds) (maxL := 2) (ret := (some .int)) (by decide) rfl ?_
  intro p e s m args below meth c s₁ B hml hv
  obtain ⟨rfl, hP, hK⟩ := hv
  have hx := B.exec
  have hb := B.bytes
  have hr := B.returns
  have hts := atoms_spec (ws := wsX8_holds) B.pre
  have hown : s.vm.findClass RX8 = some m.cls := findClass_of_methodNamed B.named
  have hlocks := B.notSynchronized
  have hP : va_P D vwCl [(q_t, oX8 q_t_shelf q_t_rowSort q_t_rowSize q_t_rows q_t_moved q_t_shown q_t_tape v_t_tapeSize q_t_refused v_t_places q_t_ways v_t_people q_t_kind q_t_by q_t_home q_t_aim q_t_at0 v_t_hour v_t_chance v_t_seed w_t_kept w_t_tried v_t_at v_t_token v_t_from v_t_figures v_t_fault q_t_told v_t_statements q_t_steps q_t_spot q_t_then v_t_now v_t_gone q_t_sights q_t_darkAt q_t_can), (q_t_shelf, .inl (cy 0, 8, .inl v_t_shelf)), (q_t_rowSort, .inl (cy 0, 8, .inl v_t_rowSort)), (q_t_shown, .inl (cy 0, 8, .inl v_t_shown))] s.heap := hP
  have hc98 := hts (.constantLong RX8 98 (7)) (by decide +kernel)
  have hinX8 : ∀ w ∈ u_ws RX8 TX8 37, w ∈ wsX8_holds := by decide +kernel
  have hk7 := hts (.fieldLink RX8 7 "ShowsWhereNobodyIsModel" "shelf" "[I") (by decide +kernel)
  have hk28 := hts (.fieldLink RX8 28 "ShowsWhereNobodyIsModel" "shown" "[I") (by decide +kernel)
  have hk13 := hts (.fieldLink RX8 13 "ShowsWhereNobodyIsModel" "rowSort" "[I") (by decide +kernel)
  have hl := lv_entry ([.ref q_t, .int p0]) (n := 2) (Nat.le_of_ble_eq_true rfl)
  rw [lg_entry_eq]
  generalize (lg_sl ([.ref q_t, .int p0]) ++ List.replicate (2 - (lg_sl ([.ref q_t, .int p0])).length) Slot.unset).toArray = ls at hl ⊢
  have hl : lv_has ls 2 [(0, .ref q_t), (1, .int p0)] := hl
  unfold fX8_holds at hf
  refine lv_iload_n hx hb dX8_holds_0 rfl (lv_at hl 1 rfl) ?_
  refine lv_i2l hx hb dX8_holds_1 rfl ?_
  refine lv_lconst (v := 0) hx hb dX8_holds_2 (by decide) ?_
  refine lv_ldc2 hx hb hown hc98 dX8_holds_3 ?_
  obtain ⟨r1, hr2, hf⟩ := boE1 hf
  have hPc := hP.sub (ws' := []) [] rfl
  refine xcSi (va_runS (As := [.long p0.toInt64, .long (0 : Int64), .long (7 : Int64)]) (rest := []) ⟨hx, hb, hml, hown, hts⟩ (mX8_in l D cy    p0.toInt64 (0 : Int64) (7 : Int64) hr2) (va_cwS 3 hts gX8_holds_X8_in rfl rfl rfl (by decide +kernel) ⟨Nat.le_of_ble_eq_true rfl, Nat.le_of_ble_eq_true rfl⟩) (xPS hK hPc) rfl rfl hl.1 rfl (lv_room (Nat.le_of_ble_eq_true rfl)) dX8_holds_6 ⟨Nat.le_of_ble_eq_true rfl, Nat.le_of_ble_eq_true rfl⟩) ?_
  refine lv_if_eq (tgt := 21) hx hb dX8_holds_9 (by decide) (fun c9 => ?_) (fun c9 => ?_)
  · have hf := ifT hf c9
    clear c9
    refine lv_iconst (v := (-1)) hx hb dX8_holds_21 (by decide) ?_
    exact W.iret (v := (-1 : Int32)) hx hb hr (fun t ht hW => ⟨(-1 : Int32), rfl, Option.some.inj hf, ht⟩) (fun q h => nomatch h) dX8_holds_22
  · have hf := ifF hf c9
    clear c9
    refine lv_aload_n hx hb dX8_holds_12 rfl (lv_at hl 0 rfl) ?_
    refine va_get (D := D) (ci := 8) (v := .ref q_t_shelf) (C := RX8) (T := TX8) (N := 37) hx hb hts hinX8 hown hK.1 hP 0 rfl rfl 0 (by decide) hk7 (fun _ h9 => h9) rfl dX8_holds_13 ?_
    refine lv_iload_n hx hb dX8_holds_16 rfl (lv_at hl 1 rfl) ?_
    obtain ⟨hi3, hf⟩ := ckE hf
    refine va_iald hx hb hK.1 hP 1 0 rfl rfl hi3 dX8_holds_17 ?_
    refine lv_if_ne (tgt := 23) hx hb dX8_holds_18 (by decide) (fun c8 => ?_) (fun c8 => ?_)
    · have hf := ifF hf c8
      clear c8
      refine lv_aload_n hx hb dX8_holds_23 rfl (lv_at hl 0 rfl) ?_
      refine va_get (D := D) (ci := 8) (v := .ref q_t_shelf) (C := RX8) (T := TX8) (N := 37) hx hb hts hinX8 hown hK.1 hP 0 rfl rfl 0 (by decide) hk7 (fun _ h9 => h9) rfl dX8_holds_24 ?_
      refine lv_iload_n hx hb dX8_holds_27 rfl (lv_at hl 1 rfl) ?_
      obtain ⟨hi4, hf⟩ := ckE hf
      refine va_iald hx hb hK.1 hP 1 0 rfl rfl hi4 dX8_holds_28 ?_
      refine lv_iconst (v := 1) hx hb dX8_holds_29 (by decide) ?_
      refine lv_icmp_ne (tgt := 42) hx hb dX8_holds_30 (by decide) (fun c7 => ?_) (fun c7 => ?_)
      · have hf := ifF hf c7
        clear c7
        refine lv_bipush (v := 10) hx hb dX8_holds_42 (by decide) ?_
        refine lv_aload_n hx hb dX8_holds_44 rfl (lv_at hl 0 rfl) ?_
        refine va_get (D := D) (ci := 8) (v := .ref q_t_shown) (C := RX8) (T := TX8) (N := 37) hx hb hts hinX8 hown hK.1 hP 0 rfl rfl 5 (by decide) hk28 (fun _ h9 => h9) rfl dX8_holds_45 ?_
        refine lv_iload_n hx hb dX8_holds_48 rfl (lv_at hl 1 rfl) ?_
        obtain ⟨hi5, hf⟩ := ckE hf
        refine va_iald hx hb hK.1 hP 3 0 rfl rfl hi5 dX8_holds_49 ?_
        refine lv_iadd hx hb dX8_holds_50 ?_
        exact W.iret (v := ((10 : Int32) + (v_t_shown p0.toNatClampNeg))) hx hb hr (fun t ht hW => ⟨((10 : Int32) + (v_t_shown p0.toNatClampNeg)), rfl, Option.some.inj hf, ht⟩) (fun q h => nomatch h) dX8_holds_51
      · have hf := ifT hf c7
        clear c7
        refine lv_aload_n hx hb dX8_holds_33 rfl (lv_at hl 0 rfl) ?_
        refine va_get (D := D) (ci := 8) (v := .ref q_t_rowSort) (C := RX8) (T := TX8) (N := 37) hx hb hts hinX8 hown hK.1 hP 0 rfl rfl 1 (by decide) hk13 (fun _ h9 => h9) rfl dX8_holds_34 ?_
        refine lv_iload_n hx hb dX8_holds_37 rfl (lv_at hl 1 rfl) ?_
        obtain ⟨hi6, hf⟩ := ckE hf
        refine va_iald hx hb hK.1 hP 2 0 rfl rfl hi6 dX8_holds_38 ?_
        refine lv_goto (tgt := 51) hx hb dX8_holds_39 (by decide) ?_
        exact W.iret (v := (v_t_rowSort p0.toNatClampNeg)) hx hb hr (fun t ht hW => ⟨(v_t_rowSort p0.toNatClampNeg), rfl, Option.some.inj hf, ht⟩) (fun q h => nomatch h) dX8_holds_51
    · have hf := ifT hf c8
      clear c8
      refine lv_iconst (v := (-1)) hx hb dX8_holds_21 (by decide) ?_
      exact W.iret (v := (-1 : Int32)) hx hb hr (fun t ht hW => ⟨(-1 : Int32), rfl, Option.some.inj hf, ht⟩) (fun q h => nomatch h) dX8_holds_22
def fX8_show (v_t_people : Int32) (v_t_shelf : Nat → Int32) (v_t_shown : Nat → Int32) (v_t_refused : Nat → Int32) (p0 : Int32) (p1 : Int32) : Option (Int32 × (Nat → Int32) × (Nat → Int32) × (Nat → Int32)) :=
  bo1 (fX8_in p0.toInt64 (0 : Int64) (7 : Int64)) fun r1 =>
  jo0 (
    bo2 (fX8_refuse v_t_refused (-2 : Int32)) fun r4 u5 =>
    some (r4, v_t_shelf, v_t_shown, u5)) fun k3 =>
  if r1 = 0 then
    k3
  else
    jo0 (
      jo1 (fun (y8 : Int32) =>
        if p0 < 0 ∨ 8 ≤ p0.toNatClampNeg then none else
        if p0 < 0 ∨ 8 ≤ p0.toNatClampNeg then none else
        some ((1 : Int32), upd v_t_shelf p0.toNatClampNeg y8, upd v_t_shown p0.toNatClampNeg p1, v_t_refused)) fun k9 =>
      if p1 = (-1 : Int32) then
        k9 (0 : Int32)
      else
        k9 (2 : Int32)) fun k7 =>
    if p1 = (-1 : Int32) then
      k7
    else
      bo1 (fX8_isPerson v_t_people p1) fun r13 =>
      if r13 = 0 then
        k3
      else
        k7
set_option maxHeartbeats 4000000 in
set_option maxRecDepth 100000 in
theorem mX8_show (l : Launch) (D : va_G) (cy : Nat → ClassId) (q_t q_t_shelf q_t_rowSort q_t_rowSize q_t_rows q_t_moved q_t_shown q_t_tape q_t_refused q_t_ways q_t_kind q_t_by q_t_home q_t_aim q_t_at0 q_t_told q_t_steps q_t_spot q_t_then q_t_sights q_t_darkAt q_t_can : Nat) (v_t_tapeSize : Int32) (v_t_places : Int32) (v_t_people : Int32) (v_t_hour : Int32) (v_t_chance : Int32) (v_t_seed : Int32) (w_t_kept : Value) (w_t_tried : Value) (v_t_at : Int32) (v_t_token : Int32) (v_t_from : Int32) (v_t_figures : Int32) (v_t_fault : Int32) (v_t_statements : Int32) (v_t_now : Int32) (v_t_gone : Int32) (v_t_shelf : Nat → Int32) (v_t_shown : Nat → Int32) (v_t_refused : Nat → Int32) (sz : Nat) (p0 : Int32) (p1 : Int32) {r_ : Int32} {n_t_shelf : Nat → Int32} {n_t_shown : Nat → Int32} {n_t_refused : Nat → Int32} (hf : fX8_show v_t_people v_t_shelf v_t_shown v_t_refused p0 p1 = some (r_, n_t_shelf, n_t_shown, n_t_refused)) : Met l yX8_show wsX8_show ({ frames := 2, cells := 0, slots := 0, locals := 46 }) (va_Pc [.ref q_t, .int p0, .int p1] (fun U => U.heap.size = sz ∧ va_P D vwCl [(q_t, oX8 q_t_shelf q_t_rowSort q_t_rowSize q_t_rows q_t_moved q_t_shown q_t_tape v_t_tapeSize q_t_refused v_t_places q_t_ways v_t_people q_t_kind q_t_by q_t_home q_t_aim q_t_at0 v_t_hour v_t_chance v_t_seed w_t_kept w_t_tried v_t_at v_t_token v_t_from v_t_figures v_t_fault q_t_told v_t_statements q_t_steps q_t_spot q_t_then v_t_now v_t_gone q_t_sights q_t_darkAt q_t_can), (q_t_shelf, .inl (cy 0, 8, .inl v_t_shelf)), (q_t_shown, .inl (cy 0, 8, .inl v_t_shown)), (q_t_refused, .inl (cy 0, 8, .inl v_t_refused))] U.heap ∧ xK D cy U ∧ va_D (fun _ => True) [(q_t, oX8 q_t_shelf q_t_rowSort q_t_rowSize q_t_rows q_t_moved q_t_shown q_t_tape v_t_tapeSize q_t_refused v_t_places q_t_ways v_t_people q_t_kind q_t_by q_t_home q_t_aim q_t_at0 v_t_hour v_t_chance v_t_seed w_t_kept w_t_tried v_t_at v_t_token v_t_from v_t_figures v_t_fault q_t_told v_t_statements q_t_steps q_t_spot q_t_then v_t_now v_t_gone q_t_sights q_t_darkAt q_t_can), (q_t_shelf, .inl (cy 0, 8, .inl v_t_shelf)), (q_t_shown, .inl (cy 0, 8, .inl v_t_shown)), (q_t_refused, .inl (cy 0, 8, .inl v_t_refused))])) (va_Qi (fun (x : Int32) (_ : Unit) => x = r_) (fun _ t => va_P D vwCl [(q_t, oX8 q_t_shelf q_t_rowSort q_t_rowSize q_t_rows q_t_moved q_t_shown q_t_tape v_t_tapeSize q_t_refused v_t_places q_t_ways v_t_people q_t_kind q_t_by q_t_home q_t_aim q_t_at0 v_t_hour v_t_chance v_t_seed w_t_kept w_t_tried v_t_at v_t_token v_t_from v_t_figures v_t_fault q_t_told v_t_statements q_t_steps q_t_spot q_t_then v_t_now v_t_gone q_t_sights q_t_darkAt q_t_can), (q_t_shelf, .inl (cy 0, 8, .inl n_t_shelf)), (q_t_shown, .inl (cy 0, 8, .inl n_t_shown)), (q_t_refused, .inl (cy 0, 8, .inl n_t_refused))] t.heap) (va_A [(q_t, oX8 q_t_shelf q_t_rowSort q_t_rowSize q_t_rows q_t_moved q_t_shown q_t_tape v_t_tapeSize q_t_refused v_t_places q_t_ways v_t_people q_t_kind q_t_by q_t_home q_t_aim q_t_at0 v_t_hour v_t_chance v_t_seed w_t_kept w_t_tried v_t_at v_t_token v_t_from v_t_figures v_t_fault q_t_told v_t_statements q_t_steps q_t_spot q_t_then v_t_now v_t_gone q_t_sights q_t_darkAt q_t_can), (q_t_shelf, .inl (cy 0, 8, .inl v_t_shelf)), (q_t_shown, .inl (cy 0, 8, .inl v_t_shown)), (q_t_refused, .inl (cy 0, 8, .inl v_t_refused))] sz)) 0 0 (va_A [(q_t, oX8 q_t_shelf q_t_rowSort q_t_rowSize q_t_rows q_t_moved q_t_shown q_t_tape v_t_tapeSize q_t_refused v_t_places q_t_ways v_t_people q_t_kind q_t_by q_t_home q_t_aim q_t_at0 v_t_hour v_t_chance v_t_seed w_t_kept w_t_tried v_t_at v_t_token v_t_from v_t_figures v_t_fault q_t_told v_t_statements q_t_steps q_t_spot q_t_then v_t_now v_t_gone q_t_sights q_t_darkAt q_t_can), (q_t_shelf, .inl (cy 0, 8, .inl v_t_shelf)), (q_t_shown, .inl (cy 0, 8, .inl v_t_shown)), (q_t_refused, .inl (cy 0, 8, .inl v_t_refused))] sz) := by
  refine Met.ofW (cc := cX8_show) (maxL := 3) (ret := (some .int)) (by decide) rfl ?_
  intro p e s m args below meth c s₁ B hml hv
  obtain ⟨rfl, hsz, hP, hK, hD0⟩ := hv
  have hx := B.exec
  have hb := B.bytes
  have hr := B.returns
  have hts := atoms_spec (ws := wsX8_show) B.pre
  have hown : s.vm.findClass RX8 = some m.cls := findClass_of_methodNamed B.named
  have hlocks := B.notSynchronized
  subst hsz
  have hD := hD0.self (sz := s.heap.size)
  generalize hAe : va_A [(q_t, oX8 q_t_shelf q_t_rowSort q_t_rowSize q_t_rows q_t_moved q_t_shown q_t_tape v_t_tapeSize q_t_refused v_t_places q_t_ways v_t_people q_t_kind q_t_by q_t_home q_t_aim q_t_at0 v_t_hour v_t_chance v_t_seed w_t_kept w_t_tried v_t_at v_t_token v_t_from v_t_figures v_t_fault q_t_told v_t_statements q_t_steps q_t_spot q_t_then v_t_now v_t_gone q_t_sights q_t_darkAt q_t_can), (q_t_shelf, .inl (cy 0, 8, .inl v_t_shelf)), (q_t_shown, .inl (cy 0, 8, .inl v_t_shown)), (q_t_refused, .inl (cy 0, 8, .inl v_t_refused))] s.heap.size = A at hD ⊢
  have hA : ∀ q : Nat, s.heap.size ≤ q → A q := fun q h => by rw [← hAe]; exact Or.inr h
  have hS : va_S A s.heap s.heap [] := va_S.rf
  have hP : va_P D vwCl [(q_t, oX8 q_t_shelf q_t_rowSort q_t_rowSize q_t_rows q_t_moved q_t_shown q_t_tape v_t_tapeSize q_t_refused v_t_places q_t_ways v_t_people q_t_kind q_t_by q_t_home q_t_aim q_t_at0 v_t_hour v_t_chance v_t_seed w_t_kept w_t_tried v_t_at v_t_token v_t_from v_t_figures v_t_fault q_t_told v_t_statements q_t_steps q_t_spot q_t_then v_t_now v_t_gone q_t_sights q_t_darkAt q_t_can), (q_t_shelf, .inl (cy 0, 8, .inl v_t_shelf)), (q_t_shown, .inl (cy 0, 8, .inl v_t_shown)), (q_t_refused, .inl (cy 0, 8, .inl v_t_refused))] s.heap := hP
  have hc98 := hts (.constantLong RX8 98 (7)) (by decide +kernel)
  have hinX8 : ∀ w ∈ u_ws RX8 TX8 37, w ∈ wsX8_show := by decide +kernel
  have hk7 := hts (.fieldLink RX8 7 "ShowsWhereNobodyIsModel" "shelf" "[I") (by decide +kernel)
  have hk28 := hts (.fieldLink RX8 28 "ShowsWhereNobodyIsModel" "shown" "[I") (by decide +kernel)
  have hl := lv_entry ([.ref q_t, .int p0, .int p1]) (n := 3) (Nat.le_of_ble_eq_true rfl)
  rw [lg_entry_eq]
  generalize (lg_sl ([.ref q_t, .int p0, .int p1]) ++ List.replicate (3 - (lg_sl ([.ref q_t, .int p0, .int p1])).length) Slot.unset).toArray = ls at hl ⊢
  have hl : lv_has ls 3 [(0, .ref q_t), (1, .int p0), (2, .int p1)] := hl
  unfold fX8_show at hf
  refine lv_iload_n hx hb dX8_show_0 rfl (lv_at hl 1 rfl) ?_
  refine lv_i2l hx hb dX8_show_1 rfl ?_
  refine lv_lconst (v := 0) hx hb dX8_show_2 (by decide) ?_
  refine lv_ldc2 hx hb hown hc98 dX8_show_3 ?_
  obtain ⟨r1, hr2, hf⟩ := boE1 hf
  have hPc := hP.sub (ws' := []) [] rfl
  refine xcSi (va_runS (As := [.long p0.toInt64, .long (0 : Int64), .long (7 : Int64)]) (rest := []) ⟨hx, hb, hml, hown, hts⟩ (mX8_in l D cy    p0.toInt64 (0 : Int64) (7 : Int64) hr2) (va_cwS 3 hts gX8_show_X8_in rfl rfl rfl (by decide +kernel) ⟨Nat.le_of_ble_eq_true rfl, Nat.le_of_ble_eq_true rfl⟩) (xPS hK hPc) rfl rfl hl.1 rfl (lv_room (Nat.le_of_ble_eq_true rfl)) dX8_show_6 ⟨Nat.le_of_ble_eq_true rfl, Nat.le_of_ble_eq_true rfl⟩) ?_
  refine jww0 25 [] (fun  H locs ls => va_P D vwCl [(q_t, oX8 q_t_shelf q_t_rowSort q_t_rowSize q_t_rows q_t_moved q_t_shown q_t_tape v_t_tapeSize q_t_refused v_t_places q_t_ways v_t_people q_t_kind q_t_by q_t_home q_t_aim q_t_at0 v_t_hour v_t_chance v_t_seed w_t_kept w_t_tried v_t_at v_t_token v_t_from v_t_figures v_t_fault q_t_told v_t_statements q_t_steps q_t_spot q_t_then v_t_now v_t_gone q_t_sights q_t_darkAt q_t_can), (q_t_shelf, .inl (cy 0, 8, .inl v_t_shelf)), (q_t_shown, .inl (cy 0, 8, .inl v_t_shown)), (q_t_refused, .inl (cy 0, 8, .inl v_t_refused))] H ∧ va_D A [(q_t, oX8 q_t_shelf q_t_rowSort q_t_rowSize q_t_rows q_t_moved q_t_shown q_t_tape v_t_tapeSize q_t_refused v_t_places q_t_ways v_t_people q_t_kind q_t_by q_t_home q_t_aim q_t_at0 v_t_hour v_t_chance v_t_seed w_t_kept w_t_tried v_t_at v_t_token v_t_from v_t_figures v_t_fault q_t_told v_t_statements q_t_steps q_t_spot q_t_then v_t_now v_t_gone q_t_sights q_t_darkAt q_t_can), (q_t_shelf, .inl (cy 0, 8, .inl v_t_shelf)), (q_t_shown, .inl (cy 0, 8, .inl v_t_shown)), (q_t_refused, .inl (cy 0, 8, .inl v_t_refused))] ∧ va_S A s.heap H locs ∧ lv_has ls 3 [(0, .ref q_t)]) hf (fun  H locs ls hI hf => ?_) (fun k3 J25 hf => ?_)
  · obtain ⟨hP, hD, hS, hl⟩ := hI
    refine lv_aload_n hx hb dX8_show_25 rfl (lv_at hl 0 rfl) ?_
    refine lv_bipush (v := (-2)) hx hb dX8_show_26 (by decide) ?_
    obtain ⟨r4, u5, hr6, hf⟩ := boE2 hf
    have hPc := hP.sub (ws' := [(q_t, oX8 q_t_shelf q_t_rowSort q_t_rowSize q_t_rows q_t_moved q_t_shown q_t_tape v_t_tapeSize q_t_refused v_t_places q_t_ways v_t_people q_t_kind q_t_by q_t_home q_t_aim q_t_at0 v_t_hour v_t_chance v_t_seed w_t_kept w_t_tried v_t_at v_t_token v_t_from v_t_figures v_t_fault q_t_told v_t_statements q_t_steps q_t_spot q_t_then v_t_now v_t_gone q_t_sights q_t_darkAt q_t_can), (q_t_refused, .inl (cy 0, 8, .inl v_t_refused))]) [0, 3] rfl
    have hDc := hD.sub (ws' := [(q_t, oX8 q_t_shelf q_t_rowSort q_t_rowSize q_t_rows q_t_moved q_t_shown q_t_tape v_t_tapeSize q_t_refused v_t_places q_t_ways v_t_people q_t_kind q_t_by q_t_home q_t_aim q_t_at0 v_t_hour v_t_chance v_t_seed w_t_kept w_t_tried v_t_at v_t_token v_t_from v_t_figures v_t_fault q_t_told v_t_statements q_t_steps q_t_spot q_t_then v_t_now v_t_gone q_t_sights q_t_darkAt q_t_can), (q_t_refused, .inl (cy 0, 8, .inl v_t_refused))]) [0, 3] (by decide) rfl
    refine xcQi (w1 := [(q_t, oX8 q_t_shelf q_t_rowSort q_t_rowSize q_t_rows q_t_moved q_t_shown q_t_tape v_t_tapeSize q_t_refused v_t_places q_t_ways v_t_people q_t_kind q_t_by q_t_home q_t_aim q_t_at0 v_t_hour v_t_chance v_t_seed w_t_kept w_t_tried v_t_at v_t_token v_t_from v_t_figures v_t_fault q_t_told v_t_statements q_t_steps q_t_spot q_t_then v_t_now v_t_gone q_t_sights q_t_darkAt q_t_can), (q_t_refused, .inl (cy 0, 8, .inl u5))]) (va_runV (As := [.int (-2 : Int32)]) (rest := []) ⟨hx, hb, hml, hown, hts⟩ (mX8_refuse l D cy q_t q_t_shelf q_t_rowSort q_t_rowSize q_t_rows q_t_moved q_t_shown q_t_tape q_t_refused q_t_ways q_t_kind q_t_by q_t_home q_t_aim q_t_at0 q_t_told q_t_steps q_t_spot q_t_then q_t_sights q_t_darkAt q_t_can v_t_tapeSize v_t_places v_t_people v_t_hour v_t_chance v_t_seed w_t_kept w_t_tried v_t_at v_t_token v_t_from v_t_figures v_t_fault v_t_statements v_t_now v_t_gone v_t_refused _ (-2 : Int32) hr6) (cwV 1 hts gX8_show_X8_refuse rfl rfl rfl (by decide +kernel) ⟨Nat.le_of_ble_eq_true rfl, Nat.le_of_ble_eq_true rfl⟩) (xPVw hK hPc hDc (ci := 8) (q0 := 0) rfl rfl) rfl rfl hl.1 rfl (lv_room (Nat.le_of_ble_eq_true rfl)) dX8_show_28 ⟨Nat.le_of_ble_eq_true rfl, Nat.le_of_ble_eq_true rfl⟩) hP hD hS hA [0, 3] rfl rfl (fun H locs hP hD hS => ?_)
    have hP : va_P D vwCl [(q_t, oX8 q_t_shelf q_t_rowSort q_t_rowSize q_t_rows q_t_moved q_t_shown q_t_tape v_t_tapeSize q_t_refused v_t_places q_t_ways v_t_people q_t_kind q_t_by q_t_home q_t_aim q_t_at0 v_t_hour v_t_chance v_t_seed w_t_kept w_t_tried v_t_at v_t_token v_t_from v_t_figures v_t_fault q_t_told v_t_statements q_t_steps q_t_spot q_t_then v_t_now v_t_gone q_t_sights q_t_darkAt q_t_can), (q_t_shelf, .inl (cy 0, 8, .inl v_t_shelf)), (q_t_shown, .inl (cy 0, 8, .inl v_t_shown)), (q_t_refused, .inl (cy 0, 8, .inl u5))] H := hP
    have hD : va_D A [(q_t, oX8 q_t_shelf q_t_rowSort q_t_rowSize q_t_rows q_t_moved q_t_shown q_t_tape v_t_tapeSize q_t_refused v_t_places q_t_ways v_t_people q_t_kind q_t_by q_t_home q_t_aim q_t_at0 v_t_hour v_t_chance v_t_seed w_t_kept w_t_tried v_t_at v_t_token v_t_from v_t_figures v_t_fault q_t_told v_t_statements q_t_steps q_t_spot q_t_then v_t_now v_t_gone q_t_sights q_t_darkAt q_t_can), (q_t_shelf, .inl (cy 0, 8, .inl v_t_shelf)), (q_t_shown, .inl (cy 0, 8, .inl v_t_shown)), (q_t_refused, .inl (cy 0, 8, .inl u5))] := hD
    cases hf
    exact W.iret hx hb hr (fun t ht hW => ⟨⟨_, (), rfl, rfl, xend ht hP⟩, hS.F ht⟩) hS.2.2 dX8_show_31
  · refine lv_if_eq (tgt := 25) hx hb dX8_show_9 (by decide) (fun c17 => ?_) (fun c17 => ?_)
    · have hf := ifT hf c17
      clear c17
      exact J25 _ _ ls ⟨hP, hD, hS, lv_sub hl [0] rfl⟩ hf
    · have hf := ifF hf c17
      clear c17
      refine lv_iload_n hx hb dX8_show_12 rfl (lv_at hl 2 rfl) ?_
      refine lv_iconst (v := (-1)) hx hb dX8_show_13 (by decide) ?_
      refine jww0 32 [] (fun  H locs ls => va_P D vwCl [(q_t, oX8 q_t_shelf q_t_rowSort q_t_rowSize q_t_rows q_t_moved q_t_shown q_t_tape v_t_tapeSize q_t_refused v_t_places q_t_ways v_t_people q_t_kind q_t_by q_t_home q_t_aim q_t_at0 v_t_hour v_t_chance v_t_seed w_t_kept w_t_tried v_t_at v_t_token v_t_from v_t_figures v_t_fault q_t_told v_t_statements q_t_steps q_t_spot q_t_then v_t_now v_t_gone q_t_sights q_t_darkAt q_t_can), (q_t_shelf, .inl (cy 0, 8, .inl v_t_shelf)), (q_t_shown, .inl (cy 0, 8, .inl v_t_shown)), (q_t_refused, .inl (cy 0, 8, .inl v_t_refused))] H ∧ va_D A [(q_t, oX8 q_t_shelf q_t_rowSort q_t_rowSize q_t_rows q_t_moved q_t_shown q_t_tape v_t_tapeSize q_t_refused v_t_places q_t_ways v_t_people q_t_kind q_t_by q_t_home q_t_aim q_t_at0 v_t_hour v_t_chance v_t_seed w_t_kept w_t_tried v_t_at v_t_token v_t_from v_t_figures v_t_fault q_t_told v_t_statements q_t_steps q_t_spot q_t_then v_t_now v_t_gone q_t_sights q_t_darkAt q_t_can), (q_t_shelf, .inl (cy 0, 8, .inl v_t_shelf)), (q_t_shown, .inl (cy 0, 8, .inl v_t_shown)), (q_t_refused, .inl (cy 0, 8, .inl v_t_refused))] ∧ va_S A s.heap H locs ∧ lv_has ls 3 [(0, .ref q_t), (1, .int p0), (2, .int p1)]) hf (fun  H locs ls hI hf => ?_) (fun k7 J32 hf => ?_)
      · obtain ⟨hP, hD, hS, hl⟩ := hI
        refine lv_aload_n hx hb dX8_show_32 rfl (lv_at hl 0 rfl) ?_
        refine va_get (D := D) (ci := 8) (v := .ref q_t_shelf) (C := RX8) (T := TX8) (N := 37) hx hb hts hinX8 hown hK.1 hP 0 rfl rfl 0 (by decide) hk7 (fun _ h9 => h9) rfl dX8_show_33 ?_
        refine lv_iload_n hx hb dX8_show_36 rfl (lv_at hl 1 rfl) ?_
        refine lv_iload_n hx hb dX8_show_37 rfl (lv_at hl 2 rfl) ?_
        refine lv_iconst (v := (-1)) hx hb dX8_show_38 (by decide) ?_
        refine jww1 47 (fun (y8 : Int32) => [.int y8, .int p0, .ref q_t_shelf]) (fun (y8 : Int32) H locs ls => va_P D vwCl [(q_t, oX8 q_t_shelf q_t_rowSort q_t_rowSize q_t_rows q_t_moved q_t_shown q_t_tape v_t_tapeSize q_t_refused v_t_places q_t_ways v_t_people q_t_kind q_t_by q_t_home q_t_aim q_t_at0 v_t_hour v_t_chance v_t_seed w_t_kept w_t_tried v_t_at v_t_token v_t_from v_t_figures v_t_fault q_t_told v_t_statements q_t_steps q_t_spot q_t_then v_t_now v_t_gone q_t_sights q_t_darkAt q_t_can), (q_t_shelf, .inl (cy 0, 8, .inl v_t_shelf)), (q_t_shown, .inl (cy 0, 8, .inl v_t_shown)), (q_t_refused, .inl (cy 0, 8, .inl v_t_refused))] H ∧ va_D A [(q_t, oX8 q_t_shelf q_t_rowSort q_t_rowSize q_t_rows q_t_moved q_t_shown q_t_tape v_t_tapeSize q_t_refused v_t_places q_t_ways v_t_people q_t_kind q_t_by q_t_home q_t_aim q_t_at0 v_t_hour v_t_chance v_t_seed w_t_kept w_t_tried v_t_at v_t_token v_t_from v_t_figures v_t_fault q_t_told v_t_statements q_t_steps q_t_spot q_t_then v_t_now v_t_gone q_t_sights q_t_darkAt q_t_can), (q_t_shelf, .inl (cy 0, 8, .inl v_t_shelf)), (q_t_shown, .inl (cy 0, 8, .inl v_t_shown)), (q_t_refused, .inl (cy 0, 8, .inl v_t_refused))] ∧ va_S A s.heap H locs ∧ lv_has ls 3 [(0, .ref q_t), (1, .int p0), (2, .int p1)]) hf (fun y8 H locs ls hI hf => ?_) (fun k9 J47 hf => ?_)
        · obtain ⟨hP, hD, hS, hl⟩ := hI
          obtain ⟨hi10, hf⟩ := ckE hf
          refine va_iast hx hb hK.1 hP hD hS 1 0 rfl rfl hi10 dX8_show_47 (fun H locs hP hD hS => ?_)
          have hP : va_P D vwCl [(q_t, oX8 q_t_shelf q_t_rowSort q_t_rowSize q_t_rows q_t_moved q_t_shown q_t_tape v_t_tapeSize q_t_refused v_t_places q_t_ways v_t_people q_t_kind q_t_by q_t_home q_t_aim q_t_at0 v_t_hour v_t_chance v_t_seed w_t_kept w_t_tried v_t_at v_t_token v_t_from v_t_figures v_t_fault q_t_told v_t_statements q_t_steps q_t_spot q_t_then v_t_now v_t_gone q_t_sights q_t_darkAt q_t_can), (q_t_shelf, .inl (cy 0, 8, .inl (upd v_t_shelf p0.toNatClampNeg y8))), (q_t_shown, .inl (cy 0, 8, .inl v_t_shown)), (q_t_refused, .inl (cy 0, 8, .inl v_t_refused))] H := hP
          have hD : va_D A [(q_t, oX8 q_t_shelf q_t_rowSort q_t_rowSize q_t_rows q_t_moved q_t_shown q_t_tape v_t_tapeSize q_t_refused v_t_places q_t_ways v_t_people q_t_kind q_t_by q_t_home q_t_aim q_t_at0 v_t_hour v_t_chance v_t_seed w_t_kept w_t_tried v_t_at v_t_token v_t_from v_t_figures v_t_fault q_t_told v_t_statements q_t_steps q_t_spot q_t_then v_t_now v_t_gone q_t_sights q_t_darkAt q_t_can), (q_t_shelf, .inl (cy 0, 8, .inl (upd v_t_shelf p0.toNatClampNeg y8))), (q_t_shown, .inl (cy 0, 8, .inl v_t_shown)), (q_t_refused, .inl (cy 0, 8, .inl v_t_refused))] := hD
          refine lv_aload_n hx hb dX8_show_48 rfl (lv_at hl 0 rfl) ?_
          refine va_get (D := D) (ci := 8) (v := .ref q_t_shown) (C := RX8) (T := TX8) (N := 37) hx hb hts hinX8 hown hK.1 hP 0 rfl rfl 5 (by decide) hk28 (fun _ h9 => h9) rfl dX8_show_49 ?_
          refine lv_iload_n hx hb dX8_show_52 rfl (lv_at hl 1 rfl) ?_
          refine lv_iload_n hx hb dX8_show_53 rfl (lv_at hl 2 rfl) ?_
          obtain ⟨hi11, hf⟩ := ckE hf
          refine va_iast hx hb hK.1 hP hD hS 2 0 rfl rfl hi11 dX8_show_54 (fun H locs hP hD hS => ?_)
          have hP : va_P D vwCl [(q_t, oX8 q_t_shelf q_t_rowSort q_t_rowSize q_t_rows q_t_moved q_t_shown q_t_tape v_t_tapeSize q_t_refused v_t_places q_t_ways v_t_people q_t_kind q_t_by q_t_home q_t_aim q_t_at0 v_t_hour v_t_chance v_t_seed w_t_kept w_t_tried v_t_at v_t_token v_t_from v_t_figures v_t_fault q_t_told v_t_statements q_t_steps q_t_spot q_t_then v_t_now v_t_gone q_t_sights q_t_darkAt q_t_can), (q_t_shelf, .inl (cy 0, 8, .inl (upd v_t_shelf p0.toNatClampNeg y8))), (q_t_shown, .inl (cy 0, 8, .inl (upd v_t_shown p0.toNatClampNeg p1))), (q_t_refused, .inl (cy 0, 8, .inl v_t_refused))] H := hP
          have hD : va_D A [(q_t, oX8 q_t_shelf q_t_rowSort q_t_rowSize q_t_rows q_t_moved q_t_shown q_t_tape v_t_tapeSize q_t_refused v_t_places q_t_ways v_t_people q_t_kind q_t_by q_t_home q_t_aim q_t_at0 v_t_hour v_t_chance v_t_seed w_t_kept w_t_tried v_t_at v_t_token v_t_from v_t_figures v_t_fault q_t_told v_t_statements q_t_steps q_t_spot q_t_then v_t_now v_t_gone q_t_sights q_t_darkAt q_t_can), (q_t_shelf, .inl (cy 0, 8, .inl (upd v_t_shelf p0.toNatClampNeg y8))), (q_t_shown, .inl (cy 0, 8, .inl (upd v_t_shown p0.toNatClampNeg p1))), (q_t_refused, .inl (cy 0, 8, .inl v_t_refused))] := hD
          refine lv_iconst (v := 1) hx hb dX8_show_55 (by decide) ?_
          cases hf
          exact W.iret (v := (1 : Int32)) hx hb hr (fun t ht hW => ⟨⟨(1 : Int32), (), rfl, rfl, xend ht hP⟩, hS.F ht⟩) hS.2.2 dX8_show_56
        · refine lv_icmp_ne (tgt := 46) hx hb dX8_show_39 (by decide) (fun c12 => ?_) (fun c12 => ?_)
          · have hf := ifF hf c12
            clear c12
            refine lv_iconst (v := 2) hx hb dX8_show_46 (by decide) ?_
            exact J47 (2 : Int32) _ _ ls ⟨hP, hD, hS, lv_sub hl [0, 1, 2] rfl⟩ hf
          · have hf := ifT hf c12
            clear c12
            refine lv_iconst (v := 0) hx hb dX8_show_42 (by decide) ?_
            refine lv_goto (tgt := 47) hx hb dX8_show_43 (by decide) ?_
            exact J47 (0 : Int32) _ _ ls ⟨hP, hD, hS, lv_sub hl [0, 1, 2] rfl⟩ hf
      · refine lv_icmp_eq (tgt := 32) hx hb dX8_show_14 (by decide) (fun c16 => ?_) (fun c16 => ?_)
        · have hf := ifT hf c16
          clear c16
          exact J32 _ _ ls ⟨hP, hD, hS, lv_sub hl [0, 1, 2] rfl⟩ hf
        · have hf := ifF hf c16
          clear c16
          refine lv_aload_n hx hb dX8_show_17 rfl (lv_at hl 0 rfl) ?_
          refine lv_iload_n hx hb dX8_show_18 rfl (lv_at hl 2 rfl) ?_
          obtain ⟨r13, hr14, hf⟩ := boE1 hf
          have hPc := hP.sub (ws' := [(q_t, oX8 q_t_shelf q_t_rowSort q_t_rowSize q_t_rows q_t_moved q_t_shown q_t_tape v_t_tapeSize q_t_refused v_t_places q_t_ways v_t_people q_t_kind q_t_by q_t_home q_t_aim q_t_at0 v_t_hour v_t_chance v_t_seed w_t_kept w_t_tried v_t_at v_t_token v_t_from v_t_figures v_t_fault q_t_told v_t_statements q_t_steps q_t_spot q_t_then v_t_now v_t_gone q_t_sights q_t_darkAt q_t_can)]) [0] rfl
          refine xcSi (va_runV (As := [.int p1]) (rest := []) ⟨hx, hb, hml, hown, hts⟩ (mX8_isPerson l D cy q_t q_t_shelf q_t_rowSort q_t_rowSize q_t_rows q_t_moved q_t_shown q_t_tape q_t_refused q_t_ways q_t_kind q_t_by q_t_home q_t_aim q_t_at0 q_t_told q_t_steps q_t_spot q_t_then q_t_sights q_t_darkAt q_t_can v_t_tapeSize v_t_places v_t_people v_t_hour v_t_chance v_t_seed w_t_kept w_t_tried v_t_at v_t_token v_t_from v_t_figures v_t_fault v_t_statements v_t_now v_t_gone  p1 hr14) (cwV 1 hts gX8_show_X8_isPerson rfl rfl rfl (by decide +kernel) ⟨Nat.le_of_ble_eq_true rfl, Nat.le_of_ble_eq_true rfl⟩) (xPV hK hPc (ci := 8) (q0 := 0) rfl rfl) rfl rfl hl.1 rfl (lv_room (Nat.le_of_ble_eq_true rfl)) dX8_show_19 ⟨Nat.le_of_ble_eq_true rfl, Nat.le_of_ble_eq_true rfl⟩) ?_
          refine lv_if_ne (tgt := 32) hx hb dX8_show_22 (by decide) (fun c15 => ?_) (fun c15 => ?_)
          · have hf := ifF hf c15
            clear c15
            exact J32 _ _ ls ⟨hP, hD, hS, lv_sub hl [0, 1, 2] rfl⟩ hf
          · have hf := ifT hf c15
            clear c15
            exact J25 _ _ ls ⟨hP, hD, hS, lv_sub hl [0] rfl⟩ hf
def fX8_isUnder (p0 : Int32) (p1 : Int32) : Option (Int32) :=
  if p1 = 0 then
    some (1 : Int32)
  else
    if p0 = p1 then
      some (1 : Int32)
    else
      jo0 (
        if p1 = (2 : Int32) then
          if p0 = (4 : Int32) then
            some (1 : Int32)
          else
            some (0 : Int32)
        else
          some (0 : Int32)) fun k1 =>
      if p1 = (1 : Int32) then
        if p0 = (3 : Int32) then
          some (1 : Int32)
        else
          k1
      else
        k1
set_option maxHeartbeats 4000000 in
set_option maxRecDepth 100000 in
theorem mX8_isUnder (l : Launch) (D : va_G) (cy : Nat → ClassId) (p0 : Int32) (p1 : Int32) {r_ : Int32} (hf : fX8_isUnder p0 p1 = some r_) : Met l yX8_isUnder wsX8_isUnder ({ frames := 0, cells := 0, slots := 0, locals := 0 }) (va_Pc [.int p0, .int p1] (fun U => va_P D vwCl [] U.heap ∧ xK D cy U)) (vp_Si (fun x => x = r_)) 0 0 (fun _ => False) := by
  refine Met.ofW (cc := cX8_isUnder) (maxL := 2) (ret := (some .boolean)) (by decide) rfl ?_
  intro p e s m args below meth c s₁ B hml hv
  obtain ⟨rfl, hP, hK⟩ := hv
  have hx := B.exec
  have hb := B.bytes
  have hr := B.returns
  have hts := atoms_spec (ws := wsX8_isUnder) B.pre
  have hown : s.vm.findClass RX8 = some m.cls := findClass_of_methodNamed B.named
  have hlocks := B.notSynchronized
  have hP : va_P D vwCl [] s.heap := hP
  have hl := lv_entry ([.int p0, .int p1]) (n := 2) (Nat.le_of_ble_eq_true rfl)
  rw [lg_entry_eq]
  generalize (lg_sl ([.int p0, .int p1]) ++ List.replicate (2 - (lg_sl ([.int p0, .int p1])).length) Slot.unset).toArray = ls at hl ⊢
  have hl : lv_has ls 2 [(0, .int p0), (1, .int p1)] := hl
  unfold fX8_isUnder at hf
  refine lv_iload_n hx hb dX8_isUnder_0 rfl (lv_at hl 1 rfl) ?_
  refine lv_if_eq (tgt := 29) hx hb dX8_isUnder_1 (by decide) (fun c7 => ?_) (fun c7 => ?_)
  · have hf := ifT hf c7
    clear c7
    refine lv_iconst (v := 1) hx hb dX8_isUnder_29 (by decide) ?_
    refine lv_goto (tgt := 34) hx hb dX8_isUnder_30 (by decide) ?_
    exact W.zret (v := (1 : Int32)) hx hb hr rfl (fun t ht hW => ⟨(1 : Int32), rfl, Option.some.inj hf, ht⟩) (fun q h => nomatch h) dX8_isUnder_34
  · have hf := ifF hf c7
    clear c7
    refine lv_iload_n hx hb dX8_isUnder_4 rfl (lv_at hl 0 rfl) ?_
    refine lv_iload_n hx hb dX8_isUnder_5 rfl (lv_at hl 1 rfl) ?_
    refine lv_icmp_eq (tgt := 29) hx hb dX8_isUnder_6 (by decide) (fun c6 => ?_) (fun c6 => ?_)
    · have hf := ifT hf c6
      clear c6
      refine lv_iconst (v := 1) hx hb dX8_isUnder_29 (by decide) ?_
      refine lv_goto (tgt := 34) hx hb dX8_isUnder_30 (by decide) ?_
      exact W.zret (v := (1 : Int32)) hx hb hr rfl (fun t ht hW => ⟨(1 : Int32), rfl, Option.some.inj hf, ht⟩) (fun q h => nomatch h) dX8_isUnder_34
    · have hf := ifF hf c6
      clear c6
      refine lv_iload_n hx hb dX8_isUnder_9 rfl (lv_at hl 1 rfl) ?_
      refine lv_iconst (v := 1) hx hb dX8_isUnder_10 (by decide) ?_
      refine jwr0 19 [] (fun  ls => lv_has ls 2 [(0, .int p0), (1, .int p1)]) hf (fun  ls hl hf => ?_) (fun k1 J19 hf => ?_)
      · refine lv_iload_n hx hb dX8_isUnder_19 rfl (lv_at hl 1 rfl) ?_
        refine lv_iconst (v := 2) hx hb dX8_isUnder_20 (by decide) ?_
        refine lv_icmp_ne (tgt := 33) hx hb dX8_isUnder_21 (by decide) (fun c3 => ?_) (fun c3 => ?_)
        · have hf := ifF hf c3
          clear c3
          refine lv_iconst (v := 0) hx hb dX8_isUnder_33 (by decide) ?_
          exact W.zret (v := (0 : Int32)) hx hb hr rfl (fun t ht hW => ⟨(0 : Int32), rfl, Option.some.inj hf, ht⟩) (fun q h => nomatch h) dX8_isUnder_34
        · have hf := ifT hf c3
          clear c3
          refine lv_iload_n hx hb dX8_isUnder_24 rfl (lv_at hl 0 rfl) ?_
          refine lv_iconst (v := 4) hx hb dX8_isUnder_25 (by decide) ?_
          refine lv_icmp_ne (tgt := 33) hx hb dX8_isUnder_26 (by decide) (fun c2 => ?_) (fun c2 => ?_)
          · have hf := ifF hf c2
            clear c2
            refine lv_iconst (v := 0) hx hb dX8_isUnder_33 (by decide) ?_
            exact W.zret (v := (0 : Int32)) hx hb hr rfl (fun t ht hW => ⟨(0 : Int32), rfl, Option.some.inj hf, ht⟩) (fun q h => nomatch h) dX8_isUnder_34
          · have hf := ifT hf c2
            clear c2
            refine lv_iconst (v := 1) hx hb dX8_isUnder_29 (by decide) ?_
            refine lv_goto (tgt := 34) hx hb dX8_isUnder_30 (by decide) ?_
            exact W.zret (v := (1 : Int32)) hx hb hr rfl (fun t ht hW => ⟨(1 : Int32), rfl, Option.some.inj hf, ht⟩) (fun q h => nomatch h) dX8_isUnder_34
      · refine lv_icmp_ne (tgt := 19) hx hb dX8_isUnder_11 (by decide) (fun c5 => ?_) (fun c5 => ?_)
        · have hf := ifF hf c5
          clear c5
          exact J19 ls (lv_sub hl [0, 1] rfl) hf
        · have hf := ifT hf c5
          clear c5
          refine lv_iload_n hx hb dX8_isUnder_14 rfl (lv_at hl 0 rfl) ?_
          refine lv_iconst (v := 3) hx hb dX8_isUnder_15 (by decide) ?_
          refine lv_icmp_eq (tgt := 29) hx hb dX8_isUnder_16 (by decide) (fun c4 => ?_) (fun c4 => ?_)
          · have hf := ifT hf c4
            clear c4
            refine lv_iconst (v := 1) hx hb dX8_isUnder_29 (by decide) ?_
            refine lv_goto (tgt := 34) hx hb dX8_isUnder_30 (by decide) ?_
            exact W.zret (v := (1 : Int32)) hx hb hr rfl (fun t ht hW => ⟨(1 : Int32), rfl, Option.some.inj hf, ht⟩) (fun q h => nomatch h) dX8_isUnder_34
          · have hf := ifF hf c4
            clear c4
            exact J19 ls (lv_sub hl [0, 1] rfl) hf
