def fX8_statement (v_t_tapeSize : Int32) (v_t_places : Int32) (v_t_people : Int32) (v_t_hour : Int32) (v_t_chance : Int32) (v_t_at : Int32) (v_t_token : Int32) (v_t_from : Int32) (v_t_figures : Int32) (v_t_fault : Int32) (v_t_tape : Nat → Int32) (v_t_ways : Nat → Int32) (v_t_kind : Nat → Int32) (v_t_by : Nat → Int32) (v_t_home : Nat → Int32) (v_t_aim : Nat → Int32) (v_t_at0 : Nat → Int32) (v_t_told : Nat → Int32) : Option (Int32 × Int32 × Int32 × Int32 × Int32 × Int32 × Int32 × Int32 × Int32 × Int32 × (Nat → Int32) × (Nat → Int32) × (Nat → Int32) × (Nat → Int32) × (Nat → Int32) × (Nat → Int32) × (Nat → Int32)) :=
  bo1 (fX8_isWord v_t_at v_t_token v_t_from v_t_tape 0) fun r1 =>
  if r1 = 0 then
    bo1 (fX8_isWord v_t_at v_t_token v_t_from v_t_tape 1) fun r3 =>
    jo0 (
      bo7 (fX8_tellsTwo v_t_tapeSize v_t_places v_t_at v_t_fault v_t_tape v_t_told) fun r6 u7 u8 u9 u10 u11 u12 =>
      if r6 = 0 then
        if ¬ (r6 = 0 ∨ r6 = 1) then none else
        some (r6, v_t_places, v_t_people, v_t_hour, v_t_chance, u7, u8, u9, u10, u11, v_t_ways, v_t_kind, v_t_by, v_t_home, v_t_aim, v_t_at0, u12)
      else
        bo1 (fX8_setWay v_t_ways (u12 (0 : Int32).toNatClampNeg) (u12 (1 : Int32).toNatClampNeg) r3) fun u14 =>
        if ¬ (r6 = 0 ∨ r6 = 1) then none else
        some (r6, v_t_places, v_t_people, v_t_hour, v_t_chance, u7, u8, u9, u10, u11, u14, v_t_kind, v_t_by, v_t_home, v_t_aim, v_t_at0, u12)) fun k5 =>
    if r3 = 0 then
      bo1 (fX8_isWord v_t_at v_t_token v_t_from v_t_tape 2) fun r17 =>
      if r17 = 0 then
        bo1 (fX8_isWord v_t_at v_t_token v_t_from v_t_tape 3) fun r19 =>
        jo0 (
          bo1 (fX8_isWord v_t_at v_t_token v_t_from v_t_tape 4) fun r22 =>
          if r22 = 0 then
            bo1 (fX8_isWord v_t_at v_t_token v_t_from v_t_tape 5) fun r24 =>
            if r24 = 0 then
              bo1 (fX8_isWord v_t_at v_t_token v_t_from v_t_tape 6) fun r26 =>
              if r26 = 0 then
                bo2 (fX8_wrong v_t_from) fun r28 u29 =>
                if ¬ (r28 = 0 ∨ r28 = 1) then none else
                some (r28, v_t_places, v_t_people, v_t_hour, v_t_chance, v_t_at, v_t_token, v_t_from, v_t_figures, u29, v_t_ways, v_t_kind, v_t_by, v_t_home, v_t_aim, v_t_at0, v_t_told)
              else
                bo7 (fX8_tells v_t_tapeSize v_t_at v_t_fault v_t_tape v_t_told (0 : Int32) (12 : Int32)) fun r31 u32 u33 u34 u35 u36 u37 =>
                jo1 (fun (y39 : Int32) =>
                  if ¬ (r31 = 0 ∨ r31 = 1) then none else
                  some (r31, v_t_places, v_t_people, v_t_hour, y39, u32, u33, u34, u35, u36, v_t_ways, v_t_kind, v_t_by, v_t_home, v_t_aim, v_t_at0, u37)) fun k40 =>
                if r31 = 0 then
                  k40 v_t_chance
                else
                  k40 (u37 (0 : Int32).toNatClampNeg)
            else
              bo7 (fX8_tells v_t_tapeSize v_t_at v_t_fault v_t_tape v_t_told (0 : Int32) (999 : Int32)) fun r43 u44 u45 u46 u47 u48 u49 =>
              jo1 (fun (y51 : Int32) =>
                if ¬ (r43 = 0 ∨ r43 = 1) then none else
                some (r43, v_t_places, v_t_people, y51, v_t_chance, u44, u45, u46, u47, u48, v_t_ways, v_t_kind, v_t_by, v_t_home, v_t_aim, v_t_at0, u49)) fun k52 =>
              if r43 = 0 then
                k52 v_t_hour
              else
                k52 (u49 (0 : Int32).toNatClampNeg)
          else
            bo7 (fX8_tells v_t_tapeSize v_t_at v_t_fault v_t_tape v_t_told (0 : Int32) (v_t_people - (1 : Int32))) fun r55 u56 u57 u58 u59 u60 u61 =>
            jo7 (fun (y63 : Int32) (u64 : Int32) (u65 : Int32) (u66 : Int32) (u67 : Int32) (u68 : Int32) (u69 : Nat → Int32) =>
              if y63 = 0 then
                if ¬ (y63 = 0 ∨ y63 = 1) then none else
                some (y63, v_t_places, v_t_people, v_t_hour, v_t_chance, u64, u65, u66, u67, u68, v_t_ways, v_t_kind, v_t_by, v_t_home, v_t_aim, v_t_at0, u69)
              else
                if (u69 (0 : Int32).toNatClampNeg) < 0 ∨ 8 ≤ (u69 (0 : Int32).toNatClampNeg).toNatClampNeg then none else
                if ¬ (y63 = 0 ∨ y63 = 1) then none else
                some (y63, v_t_places, v_t_people, v_t_hour, v_t_chance, u64, u65, u66, u67, u68, v_t_ways, v_t_kind, v_t_by, v_t_home, v_t_aim, upd v_t_at0 (u69 (0 : Int32).toNatClampNeg).toNatClampNeg (u69 (1 : Int32).toNatClampNeg), u69)) fun k70 =>
            jo6 (fun (u73 : Int32) (u74 : Int32) (u75 : Int32) (u76 : Int32) (u77 : Int32) (u78 : Nat → Int32) =>
              k70 (0 : Int32) u73 u74 u75 u76 u77 u78) fun k79 =>
            if r55 = 0 then
              k79 u56 u57 u58 u59 u60 u61
            else
              bo7 (fX8_number v_t_tapeSize u56 u57 u58 u59 u60 v_t_tape u61 (1 : Int32) (0 : Int32) (v_t_places - (1 : Int32))) fun r80 u81 u82 u83 u84 u85 u86 =>
              if r80 = 0 then
                k79 u81 u82 u83 u84 u85 u86
              else
                k70 (1 : Int32) u81 u82 u83 u84 u85 u86) fun k21 =>
        if r19 = 0 then
          k21
        else
          if (8 : Int32) ≤ v_t_people then
            k21
          else
            bo13 (fX8_tellsPerson v_t_tapeSize v_t_places v_t_people v_t_at v_t_fault v_t_tape v_t_kind v_t_by v_t_home v_t_aim v_t_at0 v_t_told) fun r91 u92 u93 u94 u95 u96 u97 u98 u99 u100 u101 u102 u103 =>
            if ¬ (r91 = 0 ∨ r91 = 1) then none else
            some (r91, v_t_places, u92, v_t_hour, v_t_chance, u93, u94, u95, u96, u97, v_t_ways, u98, u99, u100, u101, u102, u103)
      else
        k5
    else
      k5
  else
    bo7 (fX8_tells v_t_tapeSize v_t_at v_t_fault v_t_tape v_t_told v_t_places (12 : Int32)) fun r109 u110 u111 u112 u113 u114 u115 =>
    jo1 (fun (y117 : Int32) =>
      if ¬ (r109 = 0 ∨ r109 = 1) then none else
      some (r109, y117, v_t_people, v_t_hour, v_t_chance, u110, u111, u112, u113, u114, v_t_ways, v_t_kind, v_t_by, v_t_home, v_t_aim, v_t_at0, u115)) fun k118 =>
    if r109 = 0 then
      k118 v_t_places
    else
      k118 (u115 (0 : Int32).toNatClampNeg)
set_option maxHeartbeats 4000000 in
set_option maxRecDepth 100000 in
theorem mX8_statement (l : Launch) (D : va_G) (cy : Nat → ClassId) (q_t q_t_shelf q_t_rowSort q_t_rowSize q_t_rows q_t_moved q_t_shown q_t_tape q_t_refused q_t_ways q_t_kind q_t_by q_t_home q_t_aim q_t_at0 q_t_told q_t_steps q_t_spot q_t_then q_t_sights q_t_darkAt q_t_can : Nat) (adK adV : Nat → Nat) (v_t_tapeSize : Int32) (v_t_places : Int32) (v_t_people : Int32) (v_t_hour : Int32) (v_t_chance : Int32) (v_t_seed : Int32) (w_t_kept : Value) (w_t_tried : Value) (v_t_at : Int32) (v_t_token : Int32) (v_t_from : Int32) (v_t_figures : Int32) (v_t_fault : Int32) (v_t_statements : Int32) (v_t_now : Int32) (v_t_gone : Int32) (v_t_tape : Nat → Int32) (v_t_ways : Nat → Int32) (v_t_kind : Nat → Int32) (v_t_by : Nat → Int32) (v_t_home : Nat → Int32) (v_t_aim : Nat → Int32) (v_t_at0 : Nat → Int32) (v_t_told : Nat → Int32) (sz : Nat) {r_ : Int32} {n_t_places : Int32} {n_t_people : Int32} {n_t_hour : Int32} {n_t_chance : Int32} {n_t_at : Int32} {n_t_token : Int32} {n_t_from : Int32} {n_t_figures : Int32} {n_t_fault : Int32} {n_t_ways : Nat → Int32} {n_t_kind : Nat → Int32} {n_t_by : Nat → Int32} {n_t_home : Nat → Int32} {n_t_aim : Nat → Int32} {n_t_at0 : Nat → Int32} {n_t_told : Nat → Int32} (hf : fX8_statement v_t_tapeSize v_t_places v_t_people v_t_hour v_t_chance v_t_at v_t_token v_t_from v_t_figures v_t_fault v_t_tape v_t_ways v_t_kind v_t_by v_t_home v_t_aim v_t_at0 v_t_told = some (r_, n_t_places, n_t_people, n_t_hour, n_t_chance, n_t_at, n_t_token, n_t_from, n_t_figures, n_t_fault, n_t_ways, n_t_kind, n_t_by, n_t_home, n_t_aim, n_t_at0, n_t_told)) : Met l yX8_statement wsX8_statement ({ frames := 5, cells := 0, slots := 0, locals := 107 }) (va_Pc [.ref q_t] (fun U => U.heap.size = sz ∧ va_P D vwCl [(q_t, oX8 q_t_shelf q_t_rowSort q_t_rowSize q_t_rows q_t_moved q_t_shown q_t_tape v_t_tapeSize q_t_refused v_t_places q_t_ways v_t_people q_t_kind q_t_by q_t_home q_t_aim q_t_at0 v_t_hour v_t_chance v_t_seed w_t_kept w_t_tried v_t_at v_t_token v_t_from v_t_figures v_t_fault q_t_told v_t_statements q_t_steps q_t_spot q_t_then v_t_now v_t_gone q_t_sights q_t_darkAt q_t_can), (q_t_tape, .inl (cy 0, 250, .inl v_t_tape)), (q_t_ways, .inl (cy 0, 12, .inl v_t_ways)), (q_t_kind, .inl (cy 0, 8, .inl v_t_kind)), (q_t_by, .inl (cy 0, 8, .inl v_t_by)), (q_t_home, .inl (cy 0, 8, .inl v_t_home)), (q_t_aim, .inl (cy 0, 8, .inl v_t_aim)), (q_t_at0, .inl (cy 0, 8, .inl v_t_at0)), (q_t_told, .inl (cy 0, 4, .inl v_t_told))] U.heap ∧ xK D cy U ∧ va_D (fun _ => True) [(q_t, oX8 q_t_shelf q_t_rowSort q_t_rowSize q_t_rows q_t_moved q_t_shown q_t_tape v_t_tapeSize q_t_refused v_t_places q_t_ways v_t_people q_t_kind q_t_by q_t_home q_t_aim q_t_at0 v_t_hour v_t_chance v_t_seed w_t_kept w_t_tried v_t_at v_t_token v_t_from v_t_figures v_t_fault q_t_told v_t_statements q_t_steps q_t_spot q_t_then v_t_now v_t_gone q_t_sights q_t_darkAt q_t_can), (q_t_tape, .inl (cy 0, 250, .inl v_t_tape)), (q_t_ways, .inl (cy 0, 12, .inl v_t_ways)), (q_t_kind, .inl (cy 0, 8, .inl v_t_kind)), (q_t_by, .inl (cy 0, 8, .inl v_t_by)), (q_t_home, .inl (cy 0, 8, .inl v_t_home)), (q_t_aim, .inl (cy 0, 8, .inl v_t_aim)), (q_t_at0, .inl (cy 0, 8, .inl v_t_at0)), (q_t_told, .inl (cy 0, 4, .inl v_t_told))] ∧ xStr adK adV (va_A [(q_t, oX8 q_t_shelf q_t_rowSort q_t_rowSize q_t_rows q_t_moved q_t_shown q_t_tape v_t_tapeSize q_t_refused v_t_places q_t_ways v_t_people q_t_kind q_t_by q_t_home q_t_aim q_t_at0 v_t_hour v_t_chance v_t_seed w_t_kept w_t_tried v_t_at v_t_token v_t_from v_t_figures v_t_fault q_t_told v_t_statements q_t_steps q_t_spot q_t_then v_t_now v_t_gone q_t_sights q_t_darkAt q_t_can), (q_t_tape, .inl (cy 0, 250, .inl v_t_tape)), (q_t_ways, .inl (cy 0, 12, .inl v_t_ways)), (q_t_kind, .inl (cy 0, 8, .inl v_t_kind)), (q_t_by, .inl (cy 0, 8, .inl v_t_by)), (q_t_home, .inl (cy 0, 8, .inl v_t_home)), (q_t_aim, .inl (cy 0, 8, .inl v_t_aim)), (q_t_at0, .inl (cy 0, 8, .inl v_t_at0)), (q_t_told, .inl (cy 0, 4, .inl v_t_told))] sz) U U.heap ∧ xRef adK U)) (va_Qi (fun (x : Int32) (_ : Unit) => x = r_) (fun _ t => va_P D vwCl [(q_t, oX8 q_t_shelf q_t_rowSort q_t_rowSize q_t_rows q_t_moved q_t_shown q_t_tape v_t_tapeSize q_t_refused n_t_places q_t_ways n_t_people q_t_kind q_t_by q_t_home q_t_aim q_t_at0 n_t_hour n_t_chance v_t_seed w_t_kept w_t_tried n_t_at n_t_token n_t_from n_t_figures n_t_fault q_t_told v_t_statements q_t_steps q_t_spot q_t_then v_t_now v_t_gone q_t_sights q_t_darkAt q_t_can), (q_t_tape, .inl (cy 0, 250, .inl v_t_tape)), (q_t_ways, .inl (cy 0, 12, .inl n_t_ways)), (q_t_kind, .inl (cy 0, 8, .inl n_t_kind)), (q_t_by, .inl (cy 0, 8, .inl n_t_by)), (q_t_home, .inl (cy 0, 8, .inl n_t_home)), (q_t_aim, .inl (cy 0, 8, .inl n_t_aim)), (q_t_at0, .inl (cy 0, 8, .inl n_t_at0)), (q_t_told, .inl (cy 0, 4, .inl n_t_told))] t.heap) (va_A [(q_t, oX8 q_t_shelf q_t_rowSort q_t_rowSize q_t_rows q_t_moved q_t_shown q_t_tape v_t_tapeSize q_t_refused v_t_places q_t_ways v_t_people q_t_kind q_t_by q_t_home q_t_aim q_t_at0 v_t_hour v_t_chance v_t_seed w_t_kept w_t_tried v_t_at v_t_token v_t_from v_t_figures v_t_fault q_t_told v_t_statements q_t_steps q_t_spot q_t_then v_t_now v_t_gone q_t_sights q_t_darkAt q_t_can), (q_t_tape, .inl (cy 0, 250, .inl v_t_tape)), (q_t_ways, .inl (cy 0, 12, .inl v_t_ways)), (q_t_kind, .inl (cy 0, 8, .inl v_t_kind)), (q_t_by, .inl (cy 0, 8, .inl v_t_by)), (q_t_home, .inl (cy 0, 8, .inl v_t_home)), (q_t_aim, .inl (cy 0, 8, .inl v_t_aim)), (q_t_at0, .inl (cy 0, 8, .inl v_t_at0)), (q_t_told, .inl (cy 0, 4, .inl v_t_told))] sz)) 0 0 (va_A [(q_t, oX8 q_t_shelf q_t_rowSort q_t_rowSize q_t_rows q_t_moved q_t_shown q_t_tape v_t_tapeSize q_t_refused v_t_places q_t_ways v_t_people q_t_kind q_t_by q_t_home q_t_aim q_t_at0 v_t_hour v_t_chance v_t_seed w_t_kept w_t_tried v_t_at v_t_token v_t_from v_t_figures v_t_fault q_t_told v_t_statements q_t_steps q_t_spot q_t_then v_t_now v_t_gone q_t_sights q_t_darkAt q_t_can), (q_t_tape, .inl (cy 0, 250, .inl v_t_tape)), (q_t_ways, .inl (cy 0, 12, .inl v_t_ways)), (q_t_kind, .inl (cy 0, 8, .inl v_t_kind)), (q_t_by, .inl (cy 0, 8, .inl v_t_by)), (q_t_home, .inl (cy 0, 8, .inl v_t_home)), (q_t_aim, .inl (cy 0, 8, .inl v_t_aim)), (q_t_at0, .inl (cy 0, 8, .inl v_t_at0)), (q_t_told, .inl (cy 0, 4, .inl v_t_told))] sz) := by
  refine Met.ofW (cc := cX8_statement) (maxL := 3) (ret := (some .boolean)) (by decide) rfl ?_
  intro p e s m args below meth c s₁ B hml hv
  obtain ⟨rfl, hsz, hP, hK, hD0, hE, hR⟩ := hv
  have hx := B.exec
  have hb := B.bytes
  have hr := B.returns
  have hts := atoms_spec (ws := wsX8_statement) B.pre
  have hown : s.vm.findClass RX8 = some m.cls := findClass_of_methodNamed B.named
  have hlocks := B.notSynchronized
  subst hsz
  have hD := hD0.self (sz := s.heap.size)
  generalize hAe : va_A [(q_t, oX8 q_t_shelf q_t_rowSort q_t_rowSize q_t_rows q_t_moved q_t_shown q_t_tape v_t_tapeSize q_t_refused v_t_places q_t_ways v_t_people q_t_kind q_t_by q_t_home q_t_aim q_t_at0 v_t_hour v_t_chance v_t_seed w_t_kept w_t_tried v_t_at v_t_token v_t_from v_t_figures v_t_fault q_t_told v_t_statements q_t_steps q_t_spot q_t_then v_t_now v_t_gone q_t_sights q_t_darkAt q_t_can), (q_t_tape, .inl (cy 0, 250, .inl v_t_tape)), (q_t_ways, .inl (cy 0, 12, .inl v_t_ways)), (q_t_kind, .inl (cy 0, 8, .inl v_t_kind)), (q_t_by, .inl (cy 0, 8, .inl v_t_by)), (q_t_home, .inl (cy 0, 8, .inl v_t_home)), (q_t_aim, .inl (cy 0, 8, .inl v_t_aim)), (q_t_at0, .inl (cy 0, 8, .inl v_t_at0)), (q_t_told, .inl (cy 0, 4, .inl v_t_told))] s.heap.size = A at hD hE ⊢
  have hA : ∀ q : Nat, s.heap.size ≤ q → A q := fun q h => by rw [← hAe]; exact Or.inr h
  have hS : va_S A s.heap s.heap [] := va_S.rf
  have hP : va_P D vwCl [(q_t, oX8 q_t_shelf q_t_rowSort q_t_rowSize q_t_rows q_t_moved q_t_shown q_t_tape v_t_tapeSize q_t_refused v_t_places q_t_ways v_t_people q_t_kind q_t_by q_t_home q_t_aim q_t_at0 v_t_hour v_t_chance v_t_seed w_t_kept w_t_tried v_t_at v_t_token v_t_from v_t_figures v_t_fault q_t_told v_t_statements q_t_steps q_t_spot q_t_then v_t_now v_t_gone q_t_sights q_t_darkAt q_t_can), (q_t_tape, .inl (cy 0, 250, .inl v_t_tape)), (q_t_ways, .inl (cy 0, 12, .inl v_t_ways)), (q_t_kind, .inl (cy 0, 8, .inl v_t_kind)), (q_t_by, .inl (cy 0, 8, .inl v_t_by)), (q_t_home, .inl (cy 0, 8, .inl v_t_home)), (q_t_aim, .inl (cy 0, 8, .inl v_t_aim)), (q_t_at0, .inl (cy 0, 8, .inl v_t_at0)), (q_t_told, .inl (cy 0, 4, .inl v_t_told))] s.heap := hP
  have hinX8 : ∀ w ∈ u_ws RX8 TX8 37, w ∈ wsX8_statement := by decide +kernel
  have hk65 := hts (.fieldLink RX8 65 "ShowsWhereNobodyIsModel" "told" "[I") (by decide +kernel)
  have hk59 := hts (.fieldLink RX8 59 "ShowsWhereNobodyIsModel" "chance" "I") (by decide +kernel)
  have hk153 := hts (.fieldLink RX8 153 "ShowsWhereNobodyIsModel" "hour" "I") (by decide +kernel)
  have hk95 := hts (.fieldLink RX8 95 "ShowsWhereNobodyIsModel" "people" "I") (by decide +kernel)
  have hk56 := hts (.fieldLink RX8 56 "ShowsWhereNobodyIsModel" "at0" "[I") (by decide +kernel)
  have hk37 := hts (.fieldLink RX8 37 "ShowsWhereNobodyIsModel" "places" "I") (by decide +kernel)
  have hl := lv_entry ([.ref q_t]) (n := 3) (Nat.le_of_ble_eq_true rfl)
  rw [lg_entry_eq]
  generalize (lg_sl ([.ref q_t]) ++ List.replicate (3 - (lg_sl ([.ref q_t])).length) Slot.unset).toArray = ls at hl ⊢
  have hl : lv_has ls 3 [(0, .ref q_t)] := hl
  unfold fX8_statement at hf
  refine lv_aload_n hx hb dX8_statement_0 rfl (lv_at hl 0 rfl) ?_
  refine va_ldcS hx hb hown hR.2.1 dX8_statement_1 ?_
  obtain ⟨r1, hr2, hf⟩ := boE1 hf
  have hPc := hP.sub (ws' := [(q_t, oX8 q_t_shelf q_t_rowSort q_t_rowSize q_t_rows q_t_moved q_t_shown q_t_tape v_t_tapeSize q_t_refused v_t_places q_t_ways v_t_people q_t_kind q_t_by q_t_home q_t_aim q_t_at0 v_t_hour v_t_chance v_t_seed w_t_kept w_t_tried v_t_at v_t_token v_t_from v_t_figures v_t_fault q_t_told v_t_statements q_t_steps q_t_spot q_t_then v_t_now v_t_gone q_t_sights q_t_darkAt q_t_can), (q_t_tape, .inl (cy 0, 250, .inl v_t_tape))]) [0, 1] rfl
  refine xcSi (va_runV (As := [.ref (adK 0)]) (rest := []) ⟨hx, hb, hml, hown, hts⟩ (mX8_isWord l D cy q_t q_t_shelf q_t_rowSort q_t_rowSize q_t_rows q_t_moved q_t_shown q_t_tape q_t_refused q_t_ways q_t_kind q_t_by q_t_home q_t_aim q_t_at0 q_t_told q_t_steps q_t_spot q_t_then q_t_sights q_t_darkAt q_t_can adK adV v_t_tapeSize v_t_places v_t_people v_t_hour v_t_chance v_t_seed w_t_kept w_t_tried v_t_at v_t_token v_t_from v_t_figures v_t_fault v_t_statements v_t_now v_t_gone v_t_tape  0 (by decide) hr2) (cwV 1 hts gX8_statement_X8_isWord rfl rfl rfl (by decide +kernel) ⟨Nat.le_of_ble_eq_true rfl, Nat.le_of_ble_eq_true rfl⟩) (xPVs hK hPc ((hE.kept hS.2.1).narrow (fun _ h => h.elim)) hR (ci := 8) (q0 := 0) rfl rfl) rfl rfl hl.1 rfl (lv_room (Nat.le_of_ble_eq_true rfl)) dX8_statement_3 ⟨Nat.le_of_ble_eq_true rfl, Nat.le_of_ble_eq_true rfl⟩) ?_
  refine lv_if_eq (tgt := 43) hx hb dX8_statement_6 (by decide) (fun c120 => ?_) (fun c120 => ?_)
  · have hf := ifT hf c120
    clear c120
    refine lv_aload_n hx hb dX8_statement_43 rfl (lv_at hl 0 rfl) ?_
    refine va_ldcS hx hb hown hR.2.2.1 dX8_statement_44 ?_
    obtain ⟨r3, hr4, hf⟩ := boE1 hf
    have hPc := hP.sub (ws' := [(q_t, oX8 q_t_shelf q_t_rowSort q_t_rowSize q_t_rows q_t_moved q_t_shown q_t_tape v_t_tapeSize q_t_refused v_t_places q_t_ways v_t_people q_t_kind q_t_by q_t_home q_t_aim q_t_at0 v_t_hour v_t_chance v_t_seed w_t_kept w_t_tried v_t_at v_t_token v_t_from v_t_figures v_t_fault q_t_told v_t_statements q_t_steps q_t_spot q_t_then v_t_now v_t_gone q_t_sights q_t_darkAt q_t_can), (q_t_tape, .inl (cy 0, 250, .inl v_t_tape))]) [0, 1] rfl
    refine xcSi (va_runV (As := [.ref (adK 1)]) (rest := []) ⟨hx, hb, hml, hown, hts⟩ (mX8_isWord l D cy q_t q_t_shelf q_t_rowSort q_t_rowSize q_t_rows q_t_moved q_t_shown q_t_tape q_t_refused q_t_ways q_t_kind q_t_by q_t_home q_t_aim q_t_at0 q_t_told q_t_steps q_t_spot q_t_then q_t_sights q_t_darkAt q_t_can adK adV v_t_tapeSize v_t_places v_t_people v_t_hour v_t_chance v_t_seed w_t_kept w_t_tried v_t_at v_t_token v_t_from v_t_figures v_t_fault v_t_statements v_t_now v_t_gone v_t_tape  1 (by decide) hr4) (cwV 1 hts gX8_statement_X8_isWord rfl rfl rfl (by decide +kernel) ⟨Nat.le_of_ble_eq_true rfl, Nat.le_of_ble_eq_true rfl⟩) (xPVs hK hPc ((hE.kept hS.2.1).narrow (fun _ h => h.elim)) hR (ci := 8) (q0 := 0) rfl rfl) rfl rfl hl.1 rfl (lv_room (Nat.le_of_ble_eq_true rfl)) dX8_statement_46 ⟨Nat.le_of_ble_eq_true rfl, Nat.le_of_ble_eq_true rfl⟩) ?_
    refine lv_istore_n (lv' := [(2, .int r3), (0, .ref q_t)]) hx hb dX8_statement_49 rfl hl (by decide) rfl (fun ls hl => ?_)
    refine lv_iload_n hx hb dX8_statement_50 rfl (lv_at hl 0 rfl) ?_
    refine jww0 63 [] (fun  H locs ls => va_P D vwCl [(q_t, oX8 q_t_shelf q_t_rowSort q_t_rowSize q_t_rows q_t_moved q_t_shown q_t_tape v_t_tapeSize q_t_refused v_t_places q_t_ways v_t_people q_t_kind q_t_by q_t_home q_t_aim q_t_at0 v_t_hour v_t_chance v_t_seed w_t_kept w_t_tried v_t_at v_t_token v_t_from v_t_figures v_t_fault q_t_told v_t_statements q_t_steps q_t_spot q_t_then v_t_now v_t_gone q_t_sights q_t_darkAt q_t_can), (q_t_tape, .inl (cy 0, 250, .inl v_t_tape)), (q_t_ways, .inl (cy 0, 12, .inl v_t_ways)), (q_t_kind, .inl (cy 0, 8, .inl v_t_kind)), (q_t_by, .inl (cy 0, 8, .inl v_t_by)), (q_t_home, .inl (cy 0, 8, .inl v_t_home)), (q_t_aim, .inl (cy 0, 8, .inl v_t_aim)), (q_t_at0, .inl (cy 0, 8, .inl v_t_at0)), (q_t_told, .inl (cy 0, 4, .inl v_t_told))] H ∧ va_D A [(q_t, oX8 q_t_shelf q_t_rowSort q_t_rowSize q_t_rows q_t_moved q_t_shown q_t_tape v_t_tapeSize q_t_refused v_t_places q_t_ways v_t_people q_t_kind q_t_by q_t_home q_t_aim q_t_at0 v_t_hour v_t_chance v_t_seed w_t_kept w_t_tried v_t_at v_t_token v_t_from v_t_figures v_t_fault q_t_told v_t_statements q_t_steps q_t_spot q_t_then v_t_now v_t_gone q_t_sights q_t_darkAt q_t_can), (q_t_tape, .inl (cy 0, 250, .inl v_t_tape)), (q_t_ways, .inl (cy 0, 12, .inl v_t_ways)), (q_t_kind, .inl (cy 0, 8, .inl v_t_kind)), (q_t_by, .inl (cy 0, 8, .inl v_t_by)), (q_t_home, .inl (cy 0, 8, .inl v_t_home)), (q_t_aim, .inl (cy 0, 8, .inl v_t_aim)), (q_t_at0, .inl (cy 0, 8, .inl v_t_at0)), (q_t_told, .inl (cy 0, 4, .inl v_t_told))] ∧ va_S A s.heap H locs ∧ lv_has ls 3 [(0, .ref q_t), (2, .int r3)]) hf (fun  H locs ls hI hf => ?_) (fun k5 J63 hf => ?_)
    · obtain ⟨hP, hD, hS, hl⟩ := hI
      refine lv_aload_n hx hb dX8_statement_63 rfl (lv_at hl 0 rfl) ?_
      obtain ⟨r6, u7, u8, u9, u10, u11, u12, hr13, hf⟩ := boE7 hf
      have hPc := hP.sub (ws' := [(q_t, oX8 q_t_shelf q_t_rowSort q_t_rowSize q_t_rows q_t_moved q_t_shown q_t_tape v_t_tapeSize q_t_refused v_t_places q_t_ways v_t_people q_t_kind q_t_by q_t_home q_t_aim q_t_at0 v_t_hour v_t_chance v_t_seed w_t_kept w_t_tried v_t_at v_t_token v_t_from v_t_figures v_t_fault q_t_told v_t_statements q_t_steps q_t_spot q_t_then v_t_now v_t_gone q_t_sights q_t_darkAt q_t_can), (q_t_tape, .inl (cy 0, 250, .inl v_t_tape)), (q_t_told, .inl (cy 0, 4, .inl v_t_told))]) [0, 1, 8] rfl
      have hDc := hD.sub (ws' := [(q_t, oX8 q_t_shelf q_t_rowSort q_t_rowSize q_t_rows q_t_moved q_t_shown q_t_tape v_t_tapeSize q_t_refused v_t_places q_t_ways v_t_people q_t_kind q_t_by q_t_home q_t_aim q_t_at0 v_t_hour v_t_chance v_t_seed w_t_kept w_t_tried v_t_at v_t_token v_t_from v_t_figures v_t_fault q_t_told v_t_statements q_t_steps q_t_spot q_t_then v_t_now v_t_gone q_t_sights q_t_darkAt q_t_can), (q_t_tape, .inl (cy 0, 250, .inl v_t_tape)), (q_t_told, .inl (cy 0, 4, .inl v_t_told))]) [0, 1, 8] (by decide) rfl
      refine xcQi (w1 := [(q_t, oX8 q_t_shelf q_t_rowSort q_t_rowSize q_t_rows q_t_moved q_t_shown q_t_tape v_t_tapeSize q_t_refused v_t_places q_t_ways v_t_people q_t_kind q_t_by q_t_home q_t_aim q_t_at0 v_t_hour v_t_chance v_t_seed w_t_kept w_t_tried u7 u8 u9 u10 u11 q_t_told v_t_statements q_t_steps q_t_spot q_t_then v_t_now v_t_gone q_t_sights q_t_darkAt q_t_can), (q_t_tape, .inl (cy 0, 250, .inl v_t_tape)), (q_t_told, .inl (cy 0, 4, .inl u12))]) (va_runV (As := []) (rest := []) ⟨hx, hb, hml, hown, hts⟩ (mX8_tellsTwo l D cy q_t q_t_shelf q_t_rowSort q_t_rowSize q_t_rows q_t_moved q_t_shown q_t_tape q_t_refused q_t_ways q_t_kind q_t_by q_t_home q_t_aim q_t_at0 q_t_told q_t_steps q_t_spot q_t_then q_t_sights q_t_darkAt q_t_can v_t_tapeSize v_t_places v_t_people v_t_hour v_t_chance v_t_seed w_t_kept w_t_tried v_t_at v_t_token v_t_from v_t_figures v_t_fault v_t_statements v_t_now v_t_gone v_t_tape v_t_told _  hr13) (cwV 0 hts gX8_statement_X8_tellsTwo rfl rfl rfl (by decide +kernel) ⟨Nat.le_of_ble_eq_true rfl, Nat.le_of_ble_eq_true rfl⟩) (xPVw hK hPc hDc (ci := 8) (q0 := 0) rfl rfl) rfl rfl hl.1 rfl (lv_room (Nat.le_of_ble_eq_true rfl)) dX8_statement_64 ⟨Nat.le_of_ble_eq_true rfl, Nat.le_of_ble_eq_true rfl⟩) hP hD hS hA [0, 1, 8] rfl rfl (fun H locs hP hD hS => ?_)
      have hP : va_P D vwCl [(q_t, oX8 q_t_shelf q_t_rowSort q_t_rowSize q_t_rows q_t_moved q_t_shown q_t_tape v_t_tapeSize q_t_refused v_t_places q_t_ways v_t_people q_t_kind q_t_by q_t_home q_t_aim q_t_at0 v_t_hour v_t_chance v_t_seed w_t_kept w_t_tried u7 u8 u9 u10 u11 q_t_told v_t_statements q_t_steps q_t_spot q_t_then v_t_now v_t_gone q_t_sights q_t_darkAt q_t_can), (q_t_tape, .inl (cy 0, 250, .inl v_t_tape)), (q_t_ways, .inl (cy 0, 12, .inl v_t_ways)), (q_t_kind, .inl (cy 0, 8, .inl v_t_kind)), (q_t_by, .inl (cy 0, 8, .inl v_t_by)), (q_t_home, .inl (cy 0, 8, .inl v_t_home)), (q_t_aim, .inl (cy 0, 8, .inl v_t_aim)), (q_t_at0, .inl (cy 0, 8, .inl v_t_at0)), (q_t_told, .inl (cy 0, 4, .inl u12))] H := hP
      have hD : va_D A [(q_t, oX8 q_t_shelf q_t_rowSort q_t_rowSize q_t_rows q_t_moved q_t_shown q_t_tape v_t_tapeSize q_t_refused v_t_places q_t_ways v_t_people q_t_kind q_t_by q_t_home q_t_aim q_t_at0 v_t_hour v_t_chance v_t_seed w_t_kept w_t_tried u7 u8 u9 u10 u11 q_t_told v_t_statements q_t_steps q_t_spot q_t_then v_t_now v_t_gone q_t_sights q_t_darkAt q_t_can), (q_t_tape, .inl (cy 0, 250, .inl v_t_tape)), (q_t_ways, .inl (cy 0, 12, .inl v_t_ways)), (q_t_kind, .inl (cy 0, 8, .inl v_t_kind)), (q_t_by, .inl (cy 0, 8, .inl v_t_by)), (q_t_home, .inl (cy 0, 8, .inl v_t_home)), (q_t_aim, .inl (cy 0, 8, .inl v_t_aim)), (q_t_at0, .inl (cy 0, 8, .inl v_t_at0)), (q_t_told, .inl (cy 0, 4, .inl u12))] := hD
      refine lv_istore_n (lv' := [(1, .int r6), (0, .ref q_t), (2, .int r3)]) hx hb dX8_statement_67 rfl hl (by decide) rfl (fun ls hl => ?_)
      refine lv_iload_n hx hb dX8_statement_68 rfl (lv_at hl 0 rfl) ?_
      refine lv_if_eq (tgt := 89) hx hb dX8_statement_69 (by decide) (fun c16 => ?_) (fun c16 => ?_)
      · have hf := ifT hf c16
        clear c16
        refine lv_iload_n hx hb dX8_statement_89 rfl (lv_at hl 0 rfl) ?_
        obtain ⟨hz, hf⟩ := ckE hf
        have hg0 := Option.some.inj hf
        obtain ⟨ee0, hg1⟩ := Prod.mk.inj hg0
        obtain ⟨ee1, hg2⟩ := Prod.mk.inj hg1
        obtain ⟨ee2, hg3⟩ := Prod.mk.inj hg2
        obtain ⟨ee3, hg4⟩ := Prod.mk.inj hg3
        obtain ⟨ee4, hg5⟩ := Prod.mk.inj hg4
        obtain ⟨ee5, hg6⟩ := Prod.mk.inj hg5
        obtain ⟨ee6, hg7⟩ := Prod.mk.inj hg6
        obtain ⟨ee7, hg8⟩ := Prod.mk.inj hg7
        obtain ⟨ee8, hg9⟩ := Prod.mk.inj hg8
        obtain ⟨ee9, hg10⟩ := Prod.mk.inj hg9
        obtain ⟨ee10, hg11⟩ := Prod.mk.inj hg10
        obtain ⟨ee11, hg12⟩ := Prod.mk.inj hg11
        obtain ⟨ee12, hg13⟩ := Prod.mk.inj hg12
        obtain ⟨ee13, hg14⟩ := Prod.mk.inj hg13
        obtain ⟨ee14, hg15⟩ := Prod.mk.inj hg14
        obtain ⟨ee15, hg16⟩ := Prod.mk.inj hg15
        clear hf hg0 hg1 hg2 hg3 hg4 hg5 hg6 hg7 hg8 hg9 hg10 hg11 hg12 hg13 hg14 hg15
        subst ee0
        subst ee1
        subst ee2
        subst ee3
        subst ee4
        subst ee5
        subst ee6
        subst ee7
        subst ee8
        subst ee9
        subst ee10
        subst ee11
        subst ee12
        subst ee13
        subst ee14
        subst ee15
        subst hg16
        exact W.zret hx hb hr (by rcases Decidable.not_not.mp hz with h | h <;> rw [h] <;> rfl) (fun t ht hW => ⟨⟨_, (), rfl, rfl, xend ht hP⟩, hS.F ht⟩) hS.2.2 dX8_statement_90
      · have hf := ifF hf c16
        clear c16
        refine lv_aload_n hx hb dX8_statement_72 rfl (lv_at hl 1 rfl) ?_
        refine lv_aload_n hx hb dX8_statement_73 rfl (lv_at hl 1 rfl) ?_
        refine va_get (D := D) (ci := 8) (v := .ref q_t_told) (C := RX8) (T := TX8) (N := 37) hx hb hts hinX8 hown hK.1 hP 0 rfl rfl 27 (by decide) hk65 (fun _ h9 => h9) rfl dX8_statement_74 ?_
        refine lv_iconst (v := 0) hx hb dX8_statement_77 (by decide) ?_
        refine va_iald hx hb hK.1 hP 8 0 rfl rfl (show vp_in (0 : Int32) 4 from by unfold vp_in; decide) dX8_statement_78 ?_
        refine lv_aload_n hx hb dX8_statement_79 rfl (lv_at hl 1 rfl) ?_
        refine va_get (D := D) (ci := 8) (v := .ref q_t_told) (C := RX8) (T := TX8) (N := 37) hx hb hts hinX8 hown hK.1 hP 0 rfl rfl 27 (by decide) hk65 (fun _ h9 => h9) rfl dX8_statement_80 ?_
        refine lv_iconst (v := 1) hx hb dX8_statement_83 (by decide) ?_
        refine va_iald hx hb hK.1 hP 8 0 rfl rfl (show vp_in (1 : Int32) 4 from by unfold vp_in; decide) dX8_statement_84 ?_
        refine lv_iload_n hx hb dX8_statement_85 rfl (lv_at hl 2 rfl) ?_
        obtain ⟨u14, hr15, hf⟩ := boE1 hf
        have hPc := hP.sub (ws' := [(q_t, oX8 q_t_shelf q_t_rowSort q_t_rowSize q_t_rows q_t_moved q_t_shown q_t_tape v_t_tapeSize q_t_refused v_t_places q_t_ways v_t_people q_t_kind q_t_by q_t_home q_t_aim q_t_at0 v_t_hour v_t_chance v_t_seed w_t_kept w_t_tried u7 u8 u9 u10 u11 q_t_told v_t_statements q_t_steps q_t_spot q_t_then v_t_now v_t_gone q_t_sights q_t_darkAt q_t_can), (q_t_ways, .inl (cy 0, 12, .inl v_t_ways))]) [0, 2] rfl
        have hDc := hD.sub (ws' := [(q_t, oX8 q_t_shelf q_t_rowSort q_t_rowSize q_t_rows q_t_moved q_t_shown q_t_tape v_t_tapeSize q_t_refused v_t_places q_t_ways v_t_people q_t_kind q_t_by q_t_home q_t_aim q_t_at0 v_t_hour v_t_chance v_t_seed w_t_kept w_t_tried u7 u8 u9 u10 u11 q_t_told v_t_statements q_t_steps q_t_spot q_t_then v_t_now v_t_gone q_t_sights q_t_darkAt q_t_can), (q_t_ways, .inl (cy 0, 12, .inl v_t_ways))]) [0, 2] (by decide) rfl
        refine xcQv (w1 := [(q_t, oX8 q_t_shelf q_t_rowSort q_t_rowSize q_t_rows q_t_moved q_t_shown q_t_tape v_t_tapeSize q_t_refused v_t_places q_t_ways v_t_people q_t_kind q_t_by q_t_home q_t_aim q_t_at0 v_t_hour v_t_chance v_t_seed w_t_kept w_t_tried u7 u8 u9 u10 u11 q_t_told v_t_statements q_t_steps q_t_spot q_t_then v_t_now v_t_gone q_t_sights q_t_darkAt q_t_can), (q_t_ways, .inl (cy 0, 12, .inl u14))]) (va_runV (As := [.int (u12 (0 : Int32).toNatClampNeg), .int (u12 (1 : Int32).toNatClampNeg), .int r3]) (rest := []) ⟨hx, hb, hml, hown, hts⟩ (mX8_setWay l D cy q_t q_t_shelf q_t_rowSort q_t_rowSize q_t_rows q_t_moved q_t_shown q_t_tape q_t_refused q_t_ways q_t_kind q_t_by q_t_home q_t_aim q_t_at0 q_t_told q_t_steps q_t_spot q_t_then q_t_sights q_t_darkAt q_t_can v_t_tapeSize v_t_places v_t_people v_t_hour v_t_chance v_t_seed w_t_kept w_t_tried u7 u8 u9 u10 u11 v_t_statements v_t_now v_t_gone v_t_ways _ (u12 (0 : Int32).toNatClampNeg) (u12 (1 : Int32).toNatClampNeg) r3 hr15) (cwV 3 hts gX8_statement_X8_setWay rfl rfl rfl (by decide +kernel) ⟨Nat.le_of_ble_eq_true rfl, Nat.le_of_ble_eq_true rfl⟩) (xPVw hK hPc hDc (ci := 8) (q0 := 0) rfl rfl) rfl rfl hl.1 rfl (lv_room (Nat.le_of_ble_eq_true rfl)) dX8_statement_86 ⟨Nat.le_of_ble_eq_true rfl, Nat.le_of_ble_eq_true rfl⟩) hP hD hS hA [0, 2] rfl rfl (fun H locs hP hD hS => ?_)
        have hP : va_P D vwCl [(q_t, oX8 q_t_shelf q_t_rowSort q_t_rowSize q_t_rows q_t_moved q_t_shown q_t_tape v_t_tapeSize q_t_refused v_t_places q_t_ways v_t_people q_t_kind q_t_by q_t_home q_t_aim q_t_at0 v_t_hour v_t_chance v_t_seed w_t_kept w_t_tried u7 u8 u9 u10 u11 q_t_told v_t_statements q_t_steps q_t_spot q_t_then v_t_now v_t_gone q_t_sights q_t_darkAt q_t_can), (q_t_tape, .inl (cy 0, 250, .inl v_t_tape)), (q_t_ways, .inl (cy 0, 12, .inl u14)), (q_t_kind, .inl (cy 0, 8, .inl v_t_kind)), (q_t_by, .inl (cy 0, 8, .inl v_t_by)), (q_t_home, .inl (cy 0, 8, .inl v_t_home)), (q_t_aim, .inl (cy 0, 8, .inl v_t_aim)), (q_t_at0, .inl (cy 0, 8, .inl v_t_at0)), (q_t_told, .inl (cy 0, 4, .inl u12))] H := hP
        have hD : va_D A [(q_t, oX8 q_t_shelf q_t_rowSort q_t_rowSize q_t_rows q_t_moved q_t_shown q_t_tape v_t_tapeSize q_t_refused v_t_places q_t_ways v_t_people q_t_kind q_t_by q_t_home q_t_aim q_t_at0 v_t_hour v_t_chance v_t_seed w_t_kept w_t_tried u7 u8 u9 u10 u11 q_t_told v_t_statements q_t_steps q_t_spot q_t_then v_t_now v_t_gone q_t_sights q_t_darkAt q_t_can), (q_t_tape, .inl (cy 0, 250, .inl v_t_tape)), (q_t_ways, .inl (cy 0, 12, .inl u14)), (q_t_kind, .inl (cy 0, 8, .inl v_t_kind)), (q_t_by, .inl (cy 0, 8, .inl v_t_by)), (q_t_home, .inl (cy 0, 8, .inl v_t_home)), (q_t_aim, .inl (cy 0, 8, .inl v_t_aim)), (q_t_at0, .inl (cy 0, 8, .inl v_t_at0)), (q_t_told, .inl (cy 0, 4, .inl u12))] := hD
        refine lv_iload_n hx hb dX8_statement_89 rfl (lv_at hl 0 rfl) ?_
        obtain ⟨hz, hf⟩ := ckE hf
        have hg0 := Option.some.inj hf
        obtain ⟨ee0, hg1⟩ := Prod.mk.inj hg0
        obtain ⟨ee1, hg2⟩ := Prod.mk.inj hg1
        obtain ⟨ee2, hg3⟩ := Prod.mk.inj hg2
        obtain ⟨ee3, hg4⟩ := Prod.mk.inj hg3
        obtain ⟨ee4, hg5⟩ := Prod.mk.inj hg4
        obtain ⟨ee5, hg6⟩ := Prod.mk.inj hg5
        obtain ⟨ee6, hg7⟩ := Prod.mk.inj hg6
        obtain ⟨ee7, hg8⟩ := Prod.mk.inj hg7
        obtain ⟨ee8, hg9⟩ := Prod.mk.inj hg8
        obtain ⟨ee9, hg10⟩ := Prod.mk.inj hg9
        obtain ⟨ee10, hg11⟩ := Prod.mk.inj hg10
        obtain ⟨ee11, hg12⟩ := Prod.mk.inj hg11
        obtain ⟨ee12, hg13⟩ := Prod.mk.inj hg12
        obtain ⟨ee13, hg14⟩ := Prod.mk.inj hg13
        obtain ⟨ee14, hg15⟩ := Prod.mk.inj hg14
        obtain ⟨ee15, hg16⟩ := Prod.mk.inj hg15
        clear hf hg0 hg1 hg2 hg3 hg4 hg5 hg6 hg7 hg8 hg9 hg10 hg11 hg12 hg13 hg14 hg15
        subst ee0
        subst ee1
        subst ee2
        subst ee3
        subst ee4
        subst ee5
        subst ee6
        subst ee7
        subst ee8
        subst ee9
        subst ee10
        subst ee11
        subst ee12
        subst ee13
        subst ee14
        subst ee15
        subst hg16
        exact W.zret hx hb hr (by rcases Decidable.not_not.mp hz with h | h <;> rw [h] <;> rfl) (fun t ht hW => ⟨⟨_, (), rfl, rfl, xend ht hP⟩, hS.F ht⟩) hS.2.2 dX8_statement_90
    · refine lv_if_ne (tgt := 63) hx hb dX8_statement_51 (by decide) (fun c108 => ?_) (fun c108 => ?_)
      · have hf := ifF hf c108
        clear c108
        exact J63 _ _ ls ⟨hP, hD, hS, lv_sub hl [1, 0] rfl⟩ hf
      · have hf := ifT hf c108
        clear c108
        refine lv_aload_n hx hb dX8_statement_54 rfl (lv_at hl 1 rfl) ?_
        refine va_ldcS hx hb hown hR.2.2.2.1 dX8_statement_55 ?_
        obtain ⟨r17, hr18, hf⟩ := boE1 hf
        have hPc := hP.sub (ws' := [(q_t, oX8 q_t_shelf q_t_rowSort q_t_rowSize q_t_rows q_t_moved q_t_shown q_t_tape v_t_tapeSize q_t_refused v_t_places q_t_ways v_t_people q_t_kind q_t_by q_t_home q_t_aim q_t_at0 v_t_hour v_t_chance v_t_seed w_t_kept w_t_tried v_t_at v_t_token v_t_from v_t_figures v_t_fault q_t_told v_t_statements q_t_steps q_t_spot q_t_then v_t_now v_t_gone q_t_sights q_t_darkAt q_t_can), (q_t_tape, .inl (cy 0, 250, .inl v_t_tape))]) [0, 1] rfl
        refine xcSi (va_runV (As := [.ref (adK 2)]) (rest := []) ⟨hx, hb, hml, hown, hts⟩ (mX8_isWord l D cy q_t q_t_shelf q_t_rowSort q_t_rowSize q_t_rows q_t_moved q_t_shown q_t_tape q_t_refused q_t_ways q_t_kind q_t_by q_t_home q_t_aim q_t_at0 q_t_told q_t_steps q_t_spot q_t_then q_t_sights q_t_darkAt q_t_can adK adV v_t_tapeSize v_t_places v_t_people v_t_hour v_t_chance v_t_seed w_t_kept w_t_tried v_t_at v_t_token v_t_from v_t_figures v_t_fault v_t_statements v_t_now v_t_gone v_t_tape  2 (by decide) hr18) (cwV 1 hts gX8_statement_X8_isWord rfl rfl rfl (by decide +kernel) ⟨Nat.le_of_ble_eq_true rfl, Nat.le_of_ble_eq_true rfl⟩) (xPVs hK hPc ((hE.kept hS.2.1).narrow (fun _ h => h.elim)) hR (ci := 8) (q0 := 0) rfl rfl) rfl rfl hl.1 rfl (lv_room (Nat.le_of_ble_eq_true rfl)) dX8_statement_57 ⟨Nat.le_of_ble_eq_true rfl, Nat.le_of_ble_eq_true rfl⟩) ?_
        refine lv_if_eq (tgt := 91) hx hb dX8_statement_60 (by decide) (fun c107 => ?_) (fun c107 => ?_)
        · have hf := ifT hf c107
          clear c107
          refine lv_aload_n hx hb dX8_statement_91 rfl (lv_at hl 1 rfl) ?_
          refine va_ldcS hx hb hown hR.2.2.2.2.1 dX8_statement_92 ?_
          obtain ⟨r19, hr20, hf⟩ := boE1 hf
          have hPc := hP.sub (ws' := [(q_t, oX8 q_t_shelf q_t_rowSort q_t_rowSize q_t_rows q_t_moved q_t_shown q_t_tape v_t_tapeSize q_t_refused v_t_places q_t_ways v_t_people q_t_kind q_t_by q_t_home q_t_aim q_t_at0 v_t_hour v_t_chance v_t_seed w_t_kept w_t_tried v_t_at v_t_token v_t_from v_t_figures v_t_fault q_t_told v_t_statements q_t_steps q_t_spot q_t_then v_t_now v_t_gone q_t_sights q_t_darkAt q_t_can), (q_t_tape, .inl (cy 0, 250, .inl v_t_tape))]) [0, 1] rfl
          refine xcSi (va_runV (As := [.ref (adK 3)]) (rest := []) ⟨hx, hb, hml, hown, hts⟩ (mX8_isWord l D cy q_t q_t_shelf q_t_rowSort q_t_rowSize q_t_rows q_t_moved q_t_shown q_t_tape q_t_refused q_t_ways q_t_kind q_t_by q_t_home q_t_aim q_t_at0 q_t_told q_t_steps q_t_spot q_t_then q_t_sights q_t_darkAt q_t_can adK adV v_t_tapeSize v_t_places v_t_people v_t_hour v_t_chance v_t_seed w_t_kept w_t_tried v_t_at v_t_token v_t_from v_t_figures v_t_fault v_t_statements v_t_now v_t_gone v_t_tape  3 (by decide) hr20) (cwV 1 hts gX8_statement_X8_isWord rfl rfl rfl (by decide +kernel) ⟨Nat.le_of_ble_eq_true rfl, Nat.le_of_ble_eq_true rfl⟩) (xPVs hK hPc ((hE.kept hS.2.1).narrow (fun _ h => h.elim)) hR (ci := 8) (q0 := 0) rfl rfl) rfl rfl hl.1 rfl (lv_room (Nat.le_of_ble_eq_true rfl)) dX8_statement_94 ⟨Nat.le_of_ble_eq_true rfl, Nat.le_of_ble_eq_true rfl⟩) ?_
          refine jww0 114 [] (fun  H locs ls => va_P D vwCl [(q_t, oX8 q_t_shelf q_t_rowSort q_t_rowSize q_t_rows q_t_moved q_t_shown q_t_tape v_t_tapeSize q_t_refused v_t_places q_t_ways v_t_people q_t_kind q_t_by q_t_home q_t_aim q_t_at0 v_t_hour v_t_chance v_t_seed w_t_kept w_t_tried v_t_at v_t_token v_t_from v_t_figures v_t_fault q_t_told v_t_statements q_t_steps q_t_spot q_t_then v_t_now v_t_gone q_t_sights q_t_darkAt q_t_can), (q_t_tape, .inl (cy 0, 250, .inl v_t_tape)), (q_t_ways, .inl (cy 0, 12, .inl v_t_ways)), (q_t_kind, .inl (cy 0, 8, .inl v_t_kind)), (q_t_by, .inl (cy 0, 8, .inl v_t_by)), (q_t_home, .inl (cy 0, 8, .inl v_t_home)), (q_t_aim, .inl (cy 0, 8, .inl v_t_aim)), (q_t_at0, .inl (cy 0, 8, .inl v_t_at0)), (q_t_told, .inl (cy 0, 4, .inl v_t_told))] H ∧ va_D A [(q_t, oX8 q_t_shelf q_t_rowSort q_t_rowSize q_t_rows q_t_moved q_t_shown q_t_tape v_t_tapeSize q_t_refused v_t_places q_t_ways v_t_people q_t_kind q_t_by q_t_home q_t_aim q_t_at0 v_t_hour v_t_chance v_t_seed w_t_kept w_t_tried v_t_at v_t_token v_t_from v_t_figures v_t_fault q_t_told v_t_statements q_t_steps q_t_spot q_t_then v_t_now v_t_gone q_t_sights q_t_darkAt q_t_can), (q_t_tape, .inl (cy 0, 250, .inl v_t_tape)), (q_t_ways, .inl (cy 0, 12, .inl v_t_ways)), (q_t_kind, .inl (cy 0, 8, .inl v_t_kind)), (q_t_by, .inl (cy 0, 8, .inl v_t_by)), (q_t_home, .inl (cy 0, 8, .inl v_t_home)), (q_t_aim, .inl (cy 0, 8, .inl v_t_aim)), (q_t_at0, .inl (cy 0, 8, .inl v_t_at0)), (q_t_told, .inl (cy 0, 4, .inl v_t_told))] ∧ va_S A s.heap H locs ∧ lv_has ls 3 [(0, .ref q_t)]) hf (fun  H locs ls hI hf => ?_) (fun k21 J114 hf => ?_)
          · obtain ⟨hP, hD, hS, hl⟩ := hI
            refine lv_aload_n hx hb dX8_statement_114 rfl (lv_at hl 0 rfl) ?_
            refine va_ldcS hx hb hown hR.2.2.2.2.2.1 dX8_statement_115 ?_
            obtain ⟨r22, hr23, hf⟩ := boE1 hf
            have hPc := hP.sub (ws' := [(q_t, oX8 q_t_shelf q_t_rowSort q_t_rowSize q_t_rows q_t_moved q_t_shown q_t_tape v_t_tapeSize q_t_refused v_t_places q_t_ways v_t_people q_t_kind q_t_by q_t_home q_t_aim q_t_at0 v_t_hour v_t_chance v_t_seed w_t_kept w_t_tried v_t_at v_t_token v_t_from v_t_figures v_t_fault q_t_told v_t_statements q_t_steps q_t_spot q_t_then v_t_now v_t_gone q_t_sights q_t_darkAt q_t_can), (q_t_tape, .inl (cy 0, 250, .inl v_t_tape))]) [0, 1] rfl
            refine xcSi (va_runV (As := [.ref (adK 4)]) (rest := []) ⟨hx, hb, hml, hown, hts⟩ (mX8_isWord l D cy q_t q_t_shelf q_t_rowSort q_t_rowSize q_t_rows q_t_moved q_t_shown q_t_tape q_t_refused q_t_ways q_t_kind q_t_by q_t_home q_t_aim q_t_at0 q_t_told q_t_steps q_t_spot q_t_then q_t_sights q_t_darkAt q_t_can adK adV v_t_tapeSize v_t_places v_t_people v_t_hour v_t_chance v_t_seed w_t_kept w_t_tried v_t_at v_t_token v_t_from v_t_figures v_t_fault v_t_statements v_t_now v_t_gone v_t_tape  4 (by decide) hr23) (cwV 1 hts gX8_statement_X8_isWord rfl rfl rfl (by decide +kernel) ⟨Nat.le_of_ble_eq_true rfl, Nat.le_of_ble_eq_true rfl⟩) (xPVs hK hPc ((hE.kept hS.2.1).narrow (fun _ h => h.elim)) hR (ci := 8) (q0 := 0) rfl rfl) rfl rfl hl.1 rfl (lv_room (Nat.le_of_ble_eq_true rfl)) dX8_statement_117 ⟨Nat.le_of_ble_eq_true rfl, Nat.le_of_ble_eq_true rfl⟩) ?_
            refine lv_if_eq (tgt := 181) hx hb dX8_statement_120 (by decide) (fun c90 => ?_) (fun c90 => ?_)
            · have hf := ifT hf c90
              clear c90
              refine lv_aload_n hx hb dX8_statement_181 rfl (lv_at hl 0 rfl) ?_
              refine va_ldcS hx hb hown hR.2.2.2.2.2.2.1 dX8_statement_182 ?_
              obtain ⟨r24, hr25, hf⟩ := boE1 hf
              have hPc := hP.sub (ws' := [(q_t, oX8 q_t_shelf q_t_rowSort q_t_rowSize q_t_rows q_t_moved q_t_shown q_t_tape v_t_tapeSize q_t_refused v_t_places q_t_ways v_t_people q_t_kind q_t_by q_t_home q_t_aim q_t_at0 v_t_hour v_t_chance v_t_seed w_t_kept w_t_tried v_t_at v_t_token v_t_from v_t_figures v_t_fault q_t_told v_t_statements q_t_steps q_t_spot q_t_then v_t_now v_t_gone q_t_sights q_t_darkAt q_t_can), (q_t_tape, .inl (cy 0, 250, .inl v_t_tape))]) [0, 1] rfl
              refine xcSi (va_runV (As := [.ref (adK 5)]) (rest := []) ⟨hx, hb, hml, hown, hts⟩ (mX8_isWord l D cy q_t q_t_shelf q_t_rowSort q_t_rowSize q_t_rows q_t_moved q_t_shown q_t_tape q_t_refused q_t_ways q_t_kind q_t_by q_t_home q_t_aim q_t_at0 q_t_told q_t_steps q_t_spot q_t_then q_t_sights q_t_darkAt q_t_can adK adV v_t_tapeSize v_t_places v_t_people v_t_hour v_t_chance v_t_seed w_t_kept w_t_tried v_t_at v_t_token v_t_from v_t_figures v_t_fault v_t_statements v_t_now v_t_gone v_t_tape  5 (by decide) hr25) (cwV 1 hts gX8_statement_X8_isWord rfl rfl rfl (by decide +kernel) ⟨Nat.le_of_ble_eq_true rfl, Nat.le_of_ble_eq_true rfl⟩) (xPVs hK hPc ((hE.kept hS.2.1).narrow (fun _ h => h.elim)) hR (ci := 8) (q0 := 0) rfl rfl) rfl rfl hl.1 rfl (lv_room (Nat.le_of_ble_eq_true rfl)) dX8_statement_184 ⟨Nat.le_of_ble_eq_true rfl, Nat.le_of_ble_eq_true rfl⟩) ?_
              refine lv_if_eq (tgt := 222) hx hb dX8_statement_187 (by decide) (fun c54 => ?_) (fun c54 => ?_)
              · have hf := ifT hf c54
                clear c54
                refine lv_aload_n hx hb dX8_statement_222 rfl (lv_at hl 0 rfl) ?_
                refine va_ldcS hx hb hown hR.2.2.2.2.2.2.2 dX8_statement_223 ?_
                obtain ⟨r26, hr27, hf⟩ := boE1 hf
                have hPc := hP.sub (ws' := [(q_t, oX8 q_t_shelf q_t_rowSort q_t_rowSize q_t_rows q_t_moved q_t_shown q_t_tape v_t_tapeSize q_t_refused v_t_places q_t_ways v_t_people q_t_kind q_t_by q_t_home q_t_aim q_t_at0 v_t_hour v_t_chance v_t_seed w_t_kept w_t_tried v_t_at v_t_token v_t_from v_t_figures v_t_fault q_t_told v_t_statements q_t_steps q_t_spot q_t_then v_t_now v_t_gone q_t_sights q_t_darkAt q_t_can), (q_t_tape, .inl (cy 0, 250, .inl v_t_tape))]) [0, 1] rfl
                refine xcSi (va_runV (As := [.ref (adK 6)]) (rest := []) ⟨hx, hb, hml, hown, hts⟩ (mX8_isWord l D cy q_t q_t_shelf q_t_rowSort q_t_rowSize q_t_rows q_t_moved q_t_shown q_t_tape q_t_refused q_t_ways q_t_kind q_t_by q_t_home q_t_aim q_t_at0 q_t_told q_t_steps q_t_spot q_t_then q_t_sights q_t_darkAt q_t_can adK adV v_t_tapeSize v_t_places v_t_people v_t_hour v_t_chance v_t_seed w_t_kept w_t_tried v_t_at v_t_token v_t_from v_t_figures v_t_fault v_t_statements v_t_now v_t_gone v_t_tape  6 (by decide) hr27) (cwV 1 hts gX8_statement_X8_isWord rfl rfl rfl (by decide +kernel) ⟨Nat.le_of_ble_eq_true rfl, Nat.le_of_ble_eq_true rfl⟩) (xPVs hK hPc ((hE.kept hS.2.1).narrow (fun _ h => h.elim)) hR (ci := 8) (q0 := 0) rfl rfl) rfl rfl hl.1 rfl (lv_room (Nat.le_of_ble_eq_true rfl)) dX8_statement_225 ⟨Nat.le_of_ble_eq_true rfl, Nat.le_of_ble_eq_true rfl⟩) ?_
                refine lv_if_eq (tgt := 262) hx hb dX8_statement_228 (by decide) (fun c42 => ?_) (fun c42 => ?_)
                · have hf := ifT hf c42
                  clear c42
                  refine lv_aload_n hx hb dX8_statement_262 rfl (lv_at hl 0 rfl) ?_
                  obtain ⟨r28, u29, hr30, hf⟩ := boE2 hf
                  have hPc := hP.sub (ws' := [(q_t, oX8 q_t_shelf q_t_rowSort q_t_rowSize q_t_rows q_t_moved q_t_shown q_t_tape v_t_tapeSize q_t_refused v_t_places q_t_ways v_t_people q_t_kind q_t_by q_t_home q_t_aim q_t_at0 v_t_hour v_t_chance v_t_seed w_t_kept w_t_tried v_t_at v_t_token v_t_from v_t_figures v_t_fault q_t_told v_t_statements q_t_steps q_t_spot q_t_then v_t_now v_t_gone q_t_sights q_t_darkAt q_t_can)]) [0] rfl
                  have hDc := hD.sub (ws' := [(q_t, oX8 q_t_shelf q_t_rowSort q_t_rowSize q_t_rows q_t_moved q_t_shown q_t_tape v_t_tapeSize q_t_refused v_t_places q_t_ways v_t_people q_t_kind q_t_by q_t_home q_t_aim q_t_at0 v_t_hour v_t_chance v_t_seed w_t_kept w_t_tried v_t_at v_t_token v_t_from v_t_figures v_t_fault q_t_told v_t_statements q_t_steps q_t_spot q_t_then v_t_now v_t_gone q_t_sights q_t_darkAt q_t_can)]) [0] (by decide) rfl
                  refine xcQi (w1 := [(q_t, oX8 q_t_shelf q_t_rowSort q_t_rowSize q_t_rows q_t_moved q_t_shown q_t_tape v_t_tapeSize q_t_refused v_t_places q_t_ways v_t_people q_t_kind q_t_by q_t_home q_t_aim q_t_at0 v_t_hour v_t_chance v_t_seed w_t_kept w_t_tried v_t_at v_t_token v_t_from v_t_figures u29 q_t_told v_t_statements q_t_steps q_t_spot q_t_then v_t_now v_t_gone q_t_sights q_t_darkAt q_t_can)]) (va_runV (As := []) (rest := []) ⟨hx, hb, hml, hown, hts⟩ (mX8_wrong l D cy q_t q_t_shelf q_t_rowSort q_t_rowSize q_t_rows q_t_moved q_t_shown q_t_tape q_t_refused q_t_ways q_t_kind q_t_by q_t_home q_t_aim q_t_at0 q_t_told q_t_steps q_t_spot q_t_then q_t_sights q_t_darkAt q_t_can v_t_tapeSize v_t_places v_t_people v_t_hour v_t_chance v_t_seed w_t_kept w_t_tried v_t_at v_t_token v_t_from v_t_figures v_t_fault v_t_statements v_t_now v_t_gone _  hr30) (cwV 0 hts gX8_statement_X8_wrong rfl rfl rfl (by decide +kernel) ⟨Nat.le_of_ble_eq_true rfl, Nat.le_of_ble_eq_true rfl⟩) (xPVw hK hPc hDc (ci := 8) (q0 := 0) rfl rfl) rfl rfl hl.1 rfl (lv_room (Nat.le_of_ble_eq_true rfl)) dX8_statement_263 ⟨Nat.le_of_ble_eq_true rfl, Nat.le_of_ble_eq_true rfl⟩) hP hD hS hA [0] rfl rfl (fun H locs hP hD hS => ?_)
                  have hP : va_P D vwCl [(q_t, oX8 q_t_shelf q_t_rowSort q_t_rowSize q_t_rows q_t_moved q_t_shown q_t_tape v_t_tapeSize q_t_refused v_t_places q_t_ways v_t_people q_t_kind q_t_by q_t_home q_t_aim q_t_at0 v_t_hour v_t_chance v_t_seed w_t_kept w_t_tried v_t_at v_t_token v_t_from v_t_figures u29 q_t_told v_t_statements q_t_steps q_t_spot q_t_then v_t_now v_t_gone q_t_sights q_t_darkAt q_t_can), (q_t_tape, .inl (cy 0, 250, .inl v_t_tape)), (q_t_ways, .inl (cy 0, 12, .inl v_t_ways)), (q_t_kind, .inl (cy 0, 8, .inl v_t_kind)), (q_t_by, .inl (cy 0, 8, .inl v_t_by)), (q_t_home, .inl (cy 0, 8, .inl v_t_home)), (q_t_aim, .inl (cy 0, 8, .inl v_t_aim)), (q_t_at0, .inl (cy 0, 8, .inl v_t_at0)), (q_t_told, .inl (cy 0, 4, .inl v_t_told))] H := hP
                  have hD : va_D A [(q_t, oX8 q_t_shelf q_t_rowSort q_t_rowSize q_t_rows q_t_moved q_t_shown q_t_tape v_t_tapeSize q_t_refused v_t_places q_t_ways v_t_people q_t_kind q_t_by q_t_home q_t_aim q_t_at0 v_t_hour v_t_chance v_t_seed w_t_kept w_t_tried v_t_at v_t_token v_t_from v_t_figures u29 q_t_told v_t_statements q_t_steps q_t_spot q_t_then v_t_now v_t_gone q_t_sights q_t_darkAt q_t_can), (q_t_tape, .inl (cy 0, 250, .inl v_t_tape)), (q_t_ways, .inl (cy 0, 12, .inl v_t_ways)), (q_t_kind, .inl (cy 0, 8, .inl v_t_kind)), (q_t_by, .inl (cy 0, 8, .inl v_t_by)), (q_t_home, .inl (cy 0, 8, .inl v_t_home)), (q_t_aim, .inl (cy 0, 8, .inl v_t_aim)), (q_t_at0, .inl (cy 0, 8, .inl v_t_at0)), (q_t_told, .inl (cy 0, 4, .inl v_t_told))] := hD
                  obtain ⟨hz, hf⟩ := ckE hf
                  have hg0 := Option.some.inj hf
                  obtain ⟨ee0, hg1⟩ := Prod.mk.inj hg0
                  obtain ⟨ee1, hg2⟩ := Prod.mk.inj hg1
                  obtain ⟨ee2, hg3⟩ := Prod.mk.inj hg2
                  obtain ⟨ee3, hg4⟩ := Prod.mk.inj hg3
                  obtain ⟨ee4, hg5⟩ := Prod.mk.inj hg4
                  obtain ⟨ee5, hg6⟩ := Prod.mk.inj hg5
                  obtain ⟨ee6, hg7⟩ := Prod.mk.inj hg6
                  obtain ⟨ee7, hg8⟩ := Prod.mk.inj hg7
                  obtain ⟨ee8, hg9⟩ := Prod.mk.inj hg8
                  obtain ⟨ee9, hg10⟩ := Prod.mk.inj hg9
                  obtain ⟨ee10, hg11⟩ := Prod.mk.inj hg10
                  obtain ⟨ee11, hg12⟩ := Prod.mk.inj hg11
                  obtain ⟨ee12, hg13⟩ := Prod.mk.inj hg12
                  obtain ⟨ee13, hg14⟩ := Prod.mk.inj hg13
                  obtain ⟨ee14, hg15⟩ := Prod.mk.inj hg14
                  obtain ⟨ee15, hg16⟩ := Prod.mk.inj hg15
                  clear hf hg0 hg1 hg2 hg3 hg4 hg5 hg6 hg7 hg8 hg9 hg10 hg11 hg12 hg13 hg14 hg15
                  subst ee0
                  subst ee1
                  subst ee2
                  subst ee3
                  subst ee4
                  subst ee5
                  subst ee6
                  subst ee7
                  subst ee8
                  subst ee9
                  subst ee10
                  subst ee11
                  subst ee12
                  subst ee13
                  subst ee14
                  subst ee15
                  subst hg16
                  exact W.zret hx hb hr (by rcases Decidable.not_not.mp hz with h | h <;> rw [h] <;> rfl) (fun t ht hW => ⟨⟨_, (), rfl, rfl, xend ht hP⟩, hS.F ht⟩) hS.2.2 dX8_statement_266
                · have hf := ifF hf c42
                  clear c42
                  refine lv_aload_n hx hb dX8_statement_231 rfl (lv_at hl 0 rfl) ?_
                  refine lv_iconst (v := 0) hx hb dX8_statement_232 (by decide) ?_
                  refine lv_bipush (v := 12) hx hb dX8_statement_233 (by decide) ?_
                  obtain ⟨r31, u32, u33, u34, u35, u36, u37, hr38, hf⟩ := boE7 hf
                  have hPc := hP.sub (ws' := [(q_t, oX8 q_t_shelf q_t_rowSort q_t_rowSize q_t_rows q_t_moved q_t_shown q_t_tape v_t_tapeSize q_t_refused v_t_places q_t_ways v_t_people q_t_kind q_t_by q_t_home q_t_aim q_t_at0 v_t_hour v_t_chance v_t_seed w_t_kept w_t_tried v_t_at v_t_token v_t_from v_t_figures v_t_fault q_t_told v_t_statements q_t_steps q_t_spot q_t_then v_t_now v_t_gone q_t_sights q_t_darkAt q_t_can), (q_t_tape, .inl (cy 0, 250, .inl v_t_tape)), (q_t_told, .inl (cy 0, 4, .inl v_t_told))]) [0, 1, 8] rfl
                  have hDc := hD.sub (ws' := [(q_t, oX8 q_t_shelf q_t_rowSort q_t_rowSize q_t_rows q_t_moved q_t_shown q_t_tape v_t_tapeSize q_t_refused v_t_places q_t_ways v_t_people q_t_kind q_t_by q_t_home q_t_aim q_t_at0 v_t_hour v_t_chance v_t_seed w_t_kept w_t_tried v_t_at v_t_token v_t_from v_t_figures v_t_fault q_t_told v_t_statements q_t_steps q_t_spot q_t_then v_t_now v_t_gone q_t_sights q_t_darkAt q_t_can), (q_t_tape, .inl (cy 0, 250, .inl v_t_tape)), (q_t_told, .inl (cy 0, 4, .inl v_t_told))]) [0, 1, 8] (by decide) rfl
                  refine xcQi (w1 := [(q_t, oX8 q_t_shelf q_t_rowSort q_t_rowSize q_t_rows q_t_moved q_t_shown q_t_tape v_t_tapeSize q_t_refused v_t_places q_t_ways v_t_people q_t_kind q_t_by q_t_home q_t_aim q_t_at0 v_t_hour v_t_chance v_t_seed w_t_kept w_t_tried u32 u33 u34 u35 u36 q_t_told v_t_statements q_t_steps q_t_spot q_t_then v_t_now v_t_gone q_t_sights q_t_darkAt q_t_can), (q_t_tape, .inl (cy 0, 250, .inl v_t_tape)), (q_t_told, .inl (cy 0, 4, .inl u37))]) (va_runV (As := [.int (0 : Int32), .int (12 : Int32)]) (rest := []) ⟨hx, hb, hml, hown, hts⟩ (mX8_tells l D cy q_t q_t_shelf q_t_rowSort q_t_rowSize q_t_rows q_t_moved q_t_shown q_t_tape q_t_refused q_t_ways q_t_kind q_t_by q_t_home q_t_aim q_t_at0 q_t_told q_t_steps q_t_spot q_t_then q_t_sights q_t_darkAt q_t_can v_t_tapeSize v_t_places v_t_people v_t_hour v_t_chance v_t_seed w_t_kept w_t_tried v_t_at v_t_token v_t_from v_t_figures v_t_fault v_t_statements v_t_now v_t_gone v_t_tape v_t_told _ (0 : Int32) (12 : Int32) hr38) (cwV 2 hts gX8_statement_X8_tells rfl rfl rfl (by decide +kernel) ⟨Nat.le_of_ble_eq_true rfl, Nat.le_of_ble_eq_true rfl⟩) (xPVw hK hPc hDc (ci := 8) (q0 := 0) rfl rfl) rfl rfl hl.1 rfl (lv_room (Nat.le_of_ble_eq_true rfl)) dX8_statement_235 ⟨Nat.le_of_ble_eq_true rfl, Nat.le_of_ble_eq_true rfl⟩) hP hD hS hA [0, 1, 8] rfl rfl (fun H locs hP hD hS => ?_)
                  have hP : va_P D vwCl [(q_t, oX8 q_t_shelf q_t_rowSort q_t_rowSize q_t_rows q_t_moved q_t_shown q_t_tape v_t_tapeSize q_t_refused v_t_places q_t_ways v_t_people q_t_kind q_t_by q_t_home q_t_aim q_t_at0 v_t_hour v_t_chance v_t_seed w_t_kept w_t_tried u32 u33 u34 u35 u36 q_t_told v_t_statements q_t_steps q_t_spot q_t_then v_t_now v_t_gone q_t_sights q_t_darkAt q_t_can), (q_t_tape, .inl (cy 0, 250, .inl v_t_tape)), (q_t_ways, .inl (cy 0, 12, .inl v_t_ways)), (q_t_kind, .inl (cy 0, 8, .inl v_t_kind)), (q_t_by, .inl (cy 0, 8, .inl v_t_by)), (q_t_home, .inl (cy 0, 8, .inl v_t_home)), (q_t_aim, .inl (cy 0, 8, .inl v_t_aim)), (q_t_at0, .inl (cy 0, 8, .inl v_t_at0)), (q_t_told, .inl (cy 0, 4, .inl u37))] H := hP
                  have hD : va_D A [(q_t, oX8 q_t_shelf q_t_rowSort q_t_rowSize q_t_rows q_t_moved q_t_shown q_t_tape v_t_tapeSize q_t_refused v_t_places q_t_ways v_t_people q_t_kind q_t_by q_t_home q_t_aim q_t_at0 v_t_hour v_t_chance v_t_seed w_t_kept w_t_tried u32 u33 u34 u35 u36 q_t_told v_t_statements q_t_steps q_t_spot q_t_then v_t_now v_t_gone q_t_sights q_t_darkAt q_t_can), (q_t_tape, .inl (cy 0, 250, .inl v_t_tape)), (q_t_ways, .inl (cy 0, 12, .inl v_t_ways)), (q_t_kind, .inl (cy 0, 8, .inl v_t_kind)), (q_t_by, .inl (cy 0, 8, .inl v_t_by)), (q_t_home, .inl (cy 0, 8, .inl v_t_home)), (q_t_aim, .inl (cy 0, 8, .inl v_t_aim)), (q_t_at0, .inl (cy 0, 8, .inl v_t_at0)), (q_t_told, .inl (cy 0, 4, .inl u37))] := hD
                  refine lv_istore_n (lv' := [(1, .int r31), (0, .ref q_t)]) hx hb dX8_statement_238 rfl hl (by decide) rfl (fun ls hl => ?_)
                  refine lv_aload_n hx hb dX8_statement_239 rfl (lv_at hl 1 rfl) ?_
                  refine lv_iload_n hx hb dX8_statement_240 rfl (lv_at hl 0 rfl) ?_
                  refine jww1 257 (fun (y39 : Int32) => [.int y39, .ref q_t]) (fun (y39 : Int32) H locs ls => va_P D vwCl [(q_t, oX8 q_t_shelf q_t_rowSort q_t_rowSize q_t_rows q_t_moved q_t_shown q_t_tape v_t_tapeSize q_t_refused v_t_places q_t_ways v_t_people q_t_kind q_t_by q_t_home q_t_aim q_t_at0 v_t_hour v_t_chance v_t_seed w_t_kept w_t_tried u32 u33 u34 u35 u36 q_t_told v_t_statements q_t_steps q_t_spot q_t_then v_t_now v_t_gone q_t_sights q_t_darkAt q_t_can), (q_t_tape, .inl (cy 0, 250, .inl v_t_tape)), (q_t_ways, .inl (cy 0, 12, .inl v_t_ways)), (q_t_kind, .inl (cy 0, 8, .inl v_t_kind)), (q_t_by, .inl (cy 0, 8, .inl v_t_by)), (q_t_home, .inl (cy 0, 8, .inl v_t_home)), (q_t_aim, .inl (cy 0, 8, .inl v_t_aim)), (q_t_at0, .inl (cy 0, 8, .inl v_t_at0)), (q_t_told, .inl (cy 0, 4, .inl u37))] H ∧ va_D A [(q_t, oX8 q_t_shelf q_t_rowSort q_t_rowSize q_t_rows q_t_moved q_t_shown q_t_tape v_t_tapeSize q_t_refused v_t_places q_t_ways v_t_people q_t_kind q_t_by q_t_home q_t_aim q_t_at0 v_t_hour v_t_chance v_t_seed w_t_kept w_t_tried u32 u33 u34 u35 u36 q_t_told v_t_statements q_t_steps q_t_spot q_t_then v_t_now v_t_gone q_t_sights q_t_darkAt q_t_can), (q_t_tape, .inl (cy 0, 250, .inl v_t_tape)), (q_t_ways, .inl (cy 0, 12, .inl v_t_ways)), (q_t_kind, .inl (cy 0, 8, .inl v_t_kind)), (q_t_by, .inl (cy 0, 8, .inl v_t_by)), (q_t_home, .inl (cy 0, 8, .inl v_t_home)), (q_t_aim, .inl (cy 0, 8, .inl v_t_aim)), (q_t_at0, .inl (cy 0, 8, .inl v_t_at0)), (q_t_told, .inl (cy 0, 4, .inl u37))] ∧ va_S A s.heap H locs ∧ lv_has ls 3 [(1, .int r31)]) hf (fun y39 H locs ls hI hf => ?_) (fun k40 J257 hf => ?_)
                  · obtain ⟨hP, hD, hS, hl⟩ := hI
                    refine va_put (D := D) (ci := 8) (v := .int y39) (ty := .int) (C := RX8) (T := TX8) (N := 37) hx hb hts hinX8 tyX8 tyX8_ok nmX8 hown hK.1 hP hD hS 0 rfl rfl 18 (by decide) hk59 (fun _ h9 => h9) rfl (by decide +kernel) rfl rfl (Nat.le_of_ble_eq_true rfl) dX8_statement_257 (fun H locs hP hD hS => ?_)
                    have hP : va_P D vwCl [(q_t, oX8 q_t_shelf q_t_rowSort q_t_rowSize q_t_rows q_t_moved q_t_shown q_t_tape v_t_tapeSize q_t_refused v_t_places q_t_ways v_t_people q_t_kind q_t_by q_t_home q_t_aim q_t_at0 v_t_hour y39 v_t_seed w_t_kept w_t_tried u32 u33 u34 u35 u36 q_t_told v_t_statements q_t_steps q_t_spot q_t_then v_t_now v_t_gone q_t_sights q_t_darkAt q_t_can), (q_t_tape, .inl (cy 0, 250, .inl v_t_tape)), (q_t_ways, .inl (cy 0, 12, .inl v_t_ways)), (q_t_kind, .inl (cy 0, 8, .inl v_t_kind)), (q_t_by, .inl (cy 0, 8, .inl v_t_by)), (q_t_home, .inl (cy 0, 8, .inl v_t_home)), (q_t_aim, .inl (cy 0, 8, .inl v_t_aim)), (q_t_at0, .inl (cy 0, 8, .inl v_t_at0)), (q_t_told, .inl (cy 0, 4, .inl u37))] H := hP
                    have hD : va_D A [(q_t, oX8 q_t_shelf q_t_rowSort q_t_rowSize q_t_rows q_t_moved q_t_shown q_t_tape v_t_tapeSize q_t_refused v_t_places q_t_ways v_t_people q_t_kind q_t_by q_t_home q_t_aim q_t_at0 v_t_hour y39 v_t_seed w_t_kept w_t_tried u32 u33 u34 u35 u36 q_t_told v_t_statements q_t_steps q_t_spot q_t_then v_t_now v_t_gone q_t_sights q_t_darkAt q_t_can), (q_t_tape, .inl (cy 0, 250, .inl v_t_tape)), (q_t_ways, .inl (cy 0, 12, .inl v_t_ways)), (q_t_kind, .inl (cy 0, 8, .inl v_t_kind)), (q_t_by, .inl (cy 0, 8, .inl v_t_by)), (q_t_home, .inl (cy 0, 8, .inl v_t_home)), (q_t_aim, .inl (cy 0, 8, .inl v_t_aim)), (q_t_at0, .inl (cy 0, 8, .inl v_t_at0)), (q_t_told, .inl (cy 0, 4, .inl u37))] := hD
                    refine lv_iload_n hx hb dX8_statement_260 rfl (lv_at hl 0 rfl) ?_
                    obtain ⟨hz, hf⟩ := ckE hf
                    have hg0 := Option.some.inj hf
                    obtain ⟨ee0, hg1⟩ := Prod.mk.inj hg0
                    obtain ⟨ee1, hg2⟩ := Prod.mk.inj hg1
                    obtain ⟨ee2, hg3⟩ := Prod.mk.inj hg2
                    obtain ⟨ee3, hg4⟩ := Prod.mk.inj hg3
                    obtain ⟨ee4, hg5⟩ := Prod.mk.inj hg4
                    obtain ⟨ee5, hg6⟩ := Prod.mk.inj hg5
                    obtain ⟨ee6, hg7⟩ := Prod.mk.inj hg6
                    obtain ⟨ee7, hg8⟩ := Prod.mk.inj hg7
                    obtain ⟨ee8, hg9⟩ := Prod.mk.inj hg8
                    obtain ⟨ee9, hg10⟩ := Prod.mk.inj hg9
                    obtain ⟨ee10, hg11⟩ := Prod.mk.inj hg10
                    obtain ⟨ee11, hg12⟩ := Prod.mk.inj hg11
                    obtain ⟨ee12, hg13⟩ := Prod.mk.inj hg12
                    obtain ⟨ee13, hg14⟩ := Prod.mk.inj hg13
                    obtain ⟨ee14, hg15⟩ := Prod.mk.inj hg14
                    obtain ⟨ee15, hg16⟩ := Prod.mk.inj hg15
                    clear hf hg0 hg1 hg2 hg3 hg4 hg5 hg6 hg7 hg8 hg9 hg10 hg11 hg12 hg13 hg14 hg15
                    subst ee0
                    subst ee1
                    subst ee2
                    subst ee3
                    subst ee4
                    subst ee5
                    subst ee6
                    subst ee7
                    subst ee8
                    subst ee9
                    subst ee10
                    subst ee11
                    subst ee12
                    subst ee13
                    subst ee14
                    subst ee15
                    subst hg16
                    exact W.zret hx hb hr (by rcases Decidable.not_not.mp hz with h | h <;> rw [h] <;> rfl) (fun t ht hW => ⟨⟨_, (), rfl, rfl, xend ht hP⟩, hS.F ht⟩) hS.2.2 dX8_statement_261
                  · refine lv_if_eq (tgt := 253) hx hb dX8_statement_241 (by decide) (fun c41 => ?_) (fun c41 => ?_)
                    · have hf := ifT hf c41
                      clear c41
                      refine lv_aload_n hx hb dX8_statement_253 rfl (lv_at hl 1 rfl) ?_
                      refine va_get (D := D) (ci := 8) (v := .int v_t_chance) (C := RX8) (T := TX8) (N := 37) hx hb hts hinX8 hown hK.1 hP 0 rfl rfl 18 (by decide) hk59 (fun _ h9 => h9) rfl dX8_statement_254 ?_
                      exact J257 v_t_chance _ _ ls ⟨hP, hD, hS, lv_sub hl [0] rfl⟩ hf
                    · have hf := ifF hf c41
                      clear c41
                      refine lv_aload_n hx hb dX8_statement_244 rfl (lv_at hl 1 rfl) ?_
                      refine va_get (D := D) (ci := 8) (v := .ref q_t_told) (C := RX8) (T := TX8) (N := 37) hx hb hts hinX8 hown hK.1 hP 0 rfl rfl 27 (by decide) hk65 (fun _ h9 => h9) rfl dX8_statement_245 ?_
                      refine lv_iconst (v := 0) hx hb dX8_statement_248 (by decide) ?_
                      refine va_iald hx hb hK.1 hP 8 0 rfl rfl (show vp_in (0 : Int32) 4 from by unfold vp_in; decide) dX8_statement_249 ?_
                      refine lv_goto (tgt := 257) hx hb dX8_statement_250 (by decide) ?_
                      exact J257 (u37 (0 : Int32).toNatClampNeg) _ _ ls ⟨hP, hD, hS, lv_sub hl [0] rfl⟩ hf
              · have hf := ifF hf c54
                clear c54
                refine lv_aload_n hx hb dX8_statement_190 rfl (lv_at hl 0 rfl) ?_
                refine lv_iconst (v := 0) hx hb dX8_statement_191 (by decide) ?_
                refine lv_sipush (v := 999) hx hb dX8_statement_192 (by decide) ?_
                obtain ⟨r43, u44, u45, u46, u47, u48, u49, hr50, hf⟩ := boE7 hf
                have hPc := hP.sub (ws' := [(q_t, oX8 q_t_shelf q_t_rowSort q_t_rowSize q_t_rows q_t_moved q_t_shown q_t_tape v_t_tapeSize q_t_refused v_t_places q_t_ways v_t_people q_t_kind q_t_by q_t_home q_t_aim q_t_at0 v_t_hour v_t_chance v_t_seed w_t_kept w_t_tried v_t_at v_t_token v_t_from v_t_figures v_t_fault q_t_told v_t_statements q_t_steps q_t_spot q_t_then v_t_now v_t_gone q_t_sights q_t_darkAt q_t_can), (q_t_tape, .inl (cy 0, 250, .inl v_t_tape)), (q_t_told, .inl (cy 0, 4, .inl v_t_told))]) [0, 1, 8] rfl
                have hDc := hD.sub (ws' := [(q_t, oX8 q_t_shelf q_t_rowSort q_t_rowSize q_t_rows q_t_moved q_t_shown q_t_tape v_t_tapeSize q_t_refused v_t_places q_t_ways v_t_people q_t_kind q_t_by q_t_home q_t_aim q_t_at0 v_t_hour v_t_chance v_t_seed w_t_kept w_t_tried v_t_at v_t_token v_t_from v_t_figures v_t_fault q_t_told v_t_statements q_t_steps q_t_spot q_t_then v_t_now v_t_gone q_t_sights q_t_darkAt q_t_can), (q_t_tape, .inl (cy 0, 250, .inl v_t_tape)), (q_t_told, .inl (cy 0, 4, .inl v_t_told))]) [0, 1, 8] (by decide) rfl
                refine xcQi (w1 := [(q_t, oX8 q_t_shelf q_t_rowSort q_t_rowSize q_t_rows q_t_moved q_t_shown q_t_tape v_t_tapeSize q_t_refused v_t_places q_t_ways v_t_people q_t_kind q_t_by q_t_home q_t_aim q_t_at0 v_t_hour v_t_chance v_t_seed w_t_kept w_t_tried u44 u45 u46 u47 u48 q_t_told v_t_statements q_t_steps q_t_spot q_t_then v_t_now v_t_gone q_t_sights q_t_darkAt q_t_can), (q_t_tape, .inl (cy 0, 250, .inl v_t_tape)), (q_t_told, .inl (cy 0, 4, .inl u49))]) (va_runV (As := [.int (0 : Int32), .int (999 : Int32)]) (rest := []) ⟨hx, hb, hml, hown, hts⟩ (mX8_tells l D cy q_t q_t_shelf q_t_rowSort q_t_rowSize q_t_rows q_t_moved q_t_shown q_t_tape q_t_refused q_t_ways q_t_kind q_t_by q_t_home q_t_aim q_t_at0 q_t_told q_t_steps q_t_spot q_t_then q_t_sights q_t_darkAt q_t_can v_t_tapeSize v_t_places v_t_people v_t_hour v_t_chance v_t_seed w_t_kept w_t_tried v_t_at v_t_token v_t_from v_t_figures v_t_fault v_t_statements v_t_now v_t_gone v_t_tape v_t_told _ (0 : Int32) (999 : Int32) hr50) (cwV 2 hts gX8_statement_X8_tells rfl rfl rfl (by decide +kernel) ⟨Nat.le_of_ble_eq_true rfl, Nat.le_of_ble_eq_true rfl⟩) (xPVw hK hPc hDc (ci := 8) (q0 := 0) rfl rfl) rfl rfl hl.1 rfl (lv_room (Nat.le_of_ble_eq_true rfl)) dX8_statement_195 ⟨Nat.le_of_ble_eq_true rfl, Nat.le_of_ble_eq_true rfl⟩) hP hD hS hA [0, 1, 8] rfl rfl (fun H locs hP hD hS => ?_)
                have hP : va_P D vwCl [(q_t, oX8 q_t_shelf q_t_rowSort q_t_rowSize q_t_rows q_t_moved q_t_shown q_t_tape v_t_tapeSize q_t_refused v_t_places q_t_ways v_t_people q_t_kind q_t_by q_t_home q_t_aim q_t_at0 v_t_hour v_t_chance v_t_seed w_t_kept w_t_tried u44 u45 u46 u47 u48 q_t_told v_t_statements q_t_steps q_t_spot q_t_then v_t_now v_t_gone q_t_sights q_t_darkAt q_t_can), (q_t_tape, .inl (cy 0, 250, .inl v_t_tape)), (q_t_ways, .inl (cy 0, 12, .inl v_t_ways)), (q_t_kind, .inl (cy 0, 8, .inl v_t_kind)), (q_t_by, .inl (cy 0, 8, .inl v_t_by)), (q_t_home, .inl (cy 0, 8, .inl v_t_home)), (q_t_aim, .inl (cy 0, 8, .inl v_t_aim)), (q_t_at0, .inl (cy 0, 8, .inl v_t_at0)), (q_t_told, .inl (cy 0, 4, .inl u49))] H := hP
                have hD : va_D A [(q_t, oX8 q_t_shelf q_t_rowSort q_t_rowSize q_t_rows q_t_moved q_t_shown q_t_tape v_t_tapeSize q_t_refused v_t_places q_t_ways v_t_people q_t_kind q_t_by q_t_home q_t_aim q_t_at0 v_t_hour v_t_chance v_t_seed w_t_kept w_t_tried u44 u45 u46 u47 u48 q_t_told v_t_statements q_t_steps q_t_spot q_t_then v_t_now v_t_gone q_t_sights q_t_darkAt q_t_can), (q_t_tape, .inl (cy 0, 250, .inl v_t_tape)), (q_t_ways, .inl (cy 0, 12, .inl v_t_ways)), (q_t_kind, .inl (cy 0, 8, .inl v_t_kind)), (q_t_by, .inl (cy 0, 8, .inl v_t_by)), (q_t_home, .inl (cy 0, 8, .inl v_t_home)), (q_t_aim, .inl (cy 0, 8, .inl v_t_aim)), (q_t_at0, .inl (cy 0, 8, .inl v_t_at0)), (q_t_told, .inl (cy 0, 4, .inl u49))] := hD
                refine lv_istore_n (lv' := [(1, .int r43), (0, .ref q_t)]) hx hb dX8_statement_198 rfl hl (by decide) rfl (fun ls hl => ?_)
                refine lv_aload_n hx hb dX8_statement_199 rfl (lv_at hl 1 rfl) ?_
                refine lv_iload_n hx hb dX8_statement_200 rfl (lv_at hl 0 rfl) ?_
                refine jww1 217 (fun (y51 : Int32) => [.int y51, .ref q_t]) (fun (y51 : Int32) H locs ls => va_P D vwCl [(q_t, oX8 q_t_shelf q_t_rowSort q_t_rowSize q_t_rows q_t_moved q_t_shown q_t_tape v_t_tapeSize q_t_refused v_t_places q_t_ways v_t_people q_t_kind q_t_by q_t_home q_t_aim q_t_at0 v_t_hour v_t_chance v_t_seed w_t_kept w_t_tried u44 u45 u46 u47 u48 q_t_told v_t_statements q_t_steps q_t_spot q_t_then v_t_now v_t_gone q_t_sights q_t_darkAt q_t_can), (q_t_tape, .inl (cy 0, 250, .inl v_t_tape)), (q_t_ways, .inl (cy 0, 12, .inl v_t_ways)), (q_t_kind, .inl (cy 0, 8, .inl v_t_kind)), (q_t_by, .inl (cy 0, 8, .inl v_t_by)), (q_t_home, .inl (cy 0, 8, .inl v_t_home)), (q_t_aim, .inl (cy 0, 8, .inl v_t_aim)), (q_t_at0, .inl (cy 0, 8, .inl v_t_at0)), (q_t_told, .inl (cy 0, 4, .inl u49))] H ∧ va_D A [(q_t, oX8 q_t_shelf q_t_rowSort q_t_rowSize q_t_rows q_t_moved q_t_shown q_t_tape v_t_tapeSize q_t_refused v_t_places q_t_ways v_t_people q_t_kind q_t_by q_t_home q_t_aim q_t_at0 v_t_hour v_t_chance v_t_seed w_t_kept w_t_tried u44 u45 u46 u47 u48 q_t_told v_t_statements q_t_steps q_t_spot q_t_then v_t_now v_t_gone q_t_sights q_t_darkAt q_t_can), (q_t_tape, .inl (cy 0, 250, .inl v_t_tape)), (q_t_ways, .inl (cy 0, 12, .inl v_t_ways)), (q_t_kind, .inl (cy 0, 8, .inl v_t_kind)), (q_t_by, .inl (cy 0, 8, .inl v_t_by)), (q_t_home, .inl (cy 0, 8, .inl v_t_home)), (q_t_aim, .inl (cy 0, 8, .inl v_t_aim)), (q_t_at0, .inl (cy 0, 8, .inl v_t_at0)), (q_t_told, .inl (cy 0, 4, .inl u49))] ∧ va_S A s.heap H locs ∧ lv_has ls 3 [(1, .int r43)]) hf (fun y51 H locs ls hI hf => ?_) (fun k52 J217 hf => ?_)
                · obtain ⟨hP, hD, hS, hl⟩ := hI
                  refine va_put (D := D) (ci := 8) (v := .int y51) (ty := .int) (C := RX8) (T := TX8) (N := 37) hx hb hts hinX8 tyX8 tyX8_ok nmX8 hown hK.1 hP hD hS 0 rfl rfl 17 (by decide) hk153 (fun _ h9 => h9) rfl (by decide +kernel) rfl rfl (Nat.le_of_ble_eq_true rfl) dX8_statement_217 (fun H locs hP hD hS => ?_)
                  have hP : va_P D vwCl [(q_t, oX8 q_t_shelf q_t_rowSort q_t_rowSize q_t_rows q_t_moved q_t_shown q_t_tape v_t_tapeSize q_t_refused v_t_places q_t_ways v_t_people q_t_kind q_t_by q_t_home q_t_aim q_t_at0 y51 v_t_chance v_t_seed w_t_kept w_t_tried u44 u45 u46 u47 u48 q_t_told v_t_statements q_t_steps q_t_spot q_t_then v_t_now v_t_gone q_t_sights q_t_darkAt q_t_can), (q_t_tape, .inl (cy 0, 250, .inl v_t_tape)), (q_t_ways, .inl (cy 0, 12, .inl v_t_ways)), (q_t_kind, .inl (cy 0, 8, .inl v_t_kind)), (q_t_by, .inl (cy 0, 8, .inl v_t_by)), (q_t_home, .inl (cy 0, 8, .inl v_t_home)), (q_t_aim, .inl (cy 0, 8, .inl v_t_aim)), (q_t_at0, .inl (cy 0, 8, .inl v_t_at0)), (q_t_told, .inl (cy 0, 4, .inl u49))] H := hP
                  have hD : va_D A [(q_t, oX8 q_t_shelf q_t_rowSort q_t_rowSize q_t_rows q_t_moved q_t_shown q_t_tape v_t_tapeSize q_t_refused v_t_places q_t_ways v_t_people q_t_kind q_t_by q_t_home q_t_aim q_t_at0 y51 v_t_chance v_t_seed w_t_kept w_t_tried u44 u45 u46 u47 u48 q_t_told v_t_statements q_t_steps q_t_spot q_t_then v_t_now v_t_gone q_t_sights q_t_darkAt q_t_can), (q_t_tape, .inl (cy 0, 250, .inl v_t_tape)), (q_t_ways, .inl (cy 0, 12, .inl v_t_ways)), (q_t_kind, .inl (cy 0, 8, .inl v_t_kind)), (q_t_by, .inl (cy 0, 8, .inl v_t_by)), (q_t_home, .inl (cy 0, 8, .inl v_t_home)), (q_t_aim, .inl (cy 0, 8, .inl v_t_aim)), (q_t_at0, .inl (cy 0, 8, .inl v_t_at0)), (q_t_told, .inl (cy 0, 4, .inl u49))] := hD
                  refine lv_iload_n hx hb dX8_statement_220 rfl (lv_at hl 0 rfl) ?_
                  obtain ⟨hz, hf⟩ := ckE hf
                  have hg0 := Option.some.inj hf
                  obtain ⟨ee0, hg1⟩ := Prod.mk.inj hg0
                  obtain ⟨ee1, hg2⟩ := Prod.mk.inj hg1
                  obtain ⟨ee2, hg3⟩ := Prod.mk.inj hg2
                  obtain ⟨ee3, hg4⟩ := Prod.mk.inj hg3
                  obtain ⟨ee4, hg5⟩ := Prod.mk.inj hg4
                  obtain ⟨ee5, hg6⟩ := Prod.mk.inj hg5
                  obtain ⟨ee6, hg7⟩ := Prod.mk.inj hg6
                  obtain ⟨ee7, hg8⟩ := Prod.mk.inj hg7
                  obtain ⟨ee8, hg9⟩ := Prod.mk.inj hg8
                  obtain ⟨ee9, hg10⟩ := Prod.mk.inj hg9
                  obtain ⟨ee10, hg11⟩ := Prod.mk.inj hg10
                  obtain ⟨ee11, hg12⟩ := Prod.mk.inj hg11
                  obtain ⟨ee12, hg13⟩ := Prod.mk.inj hg12
                  obtain ⟨ee13, hg14⟩ := Prod.mk.inj hg13
                  obtain ⟨ee14, hg15⟩ := Prod.mk.inj hg14
                  obtain ⟨ee15, hg16⟩ := Prod.mk.inj hg15
                  clear hf hg0 hg1 hg2 hg3 hg4 hg5 hg6 hg7 hg8 hg9 hg10 hg11 hg12 hg13 hg14 hg15
                  subst ee0
                  subst ee1
                  subst ee2
                  subst ee3
                  subst ee4
                  subst ee5
                  subst ee6
                  subst ee7
                  subst ee8
                  subst ee9
                  subst ee10
                  subst ee11
                  subst ee12
                  subst ee13
                  subst ee14
                  subst ee15
                  subst hg16
                  exact W.zret hx hb hr (by rcases Decidable.not_not.mp hz with h | h <;> rw [h] <;> rfl) (fun t ht hW => ⟨⟨_, (), rfl, rfl, xend ht hP⟩, hS.F ht⟩) hS.2.2 dX8_statement_221
                · refine lv_if_eq (tgt := 213) hx hb dX8_statement_201 (by decide) (fun c53 => ?_) (fun c53 => ?_)
                  · have hf := ifT hf c53
                    clear c53
                    refine lv_aload_n hx hb dX8_statement_213 rfl (lv_at hl 1 rfl) ?_
                    refine va_get (D := D) (ci := 8) (v := .int v_t_hour) (C := RX8) (T := TX8) (N := 37) hx hb hts hinX8 hown hK.1 hP 0 rfl rfl 17 (by decide) hk153 (fun _ h9 => h9) rfl dX8_statement_214 ?_
                    exact J217 v_t_hour _ _ ls ⟨hP, hD, hS, lv_sub hl [0] rfl⟩ hf
                  · have hf := ifF hf c53
                    clear c53
                    refine lv_aload_n hx hb dX8_statement_204 rfl (lv_at hl 1 rfl) ?_
                    refine va_get (D := D) (ci := 8) (v := .ref q_t_told) (C := RX8) (T := TX8) (N := 37) hx hb hts hinX8 hown hK.1 hP 0 rfl rfl 27 (by decide) hk65 (fun _ h9 => h9) rfl dX8_statement_205 ?_
                    refine lv_iconst (v := 0) hx hb dX8_statement_208 (by decide) ?_
                    refine va_iald hx hb hK.1 hP 8 0 rfl rfl (show vp_in (0 : Int32) 4 from by unfold vp_in; decide) dX8_statement_209 ?_
                    refine lv_goto (tgt := 217) hx hb dX8_statement_210 (by decide) ?_
                    exact J217 (u49 (0 : Int32).toNatClampNeg) _ _ ls ⟨hP, hD, hS, lv_sub hl [0] rfl⟩ hf
            · have hf := ifF hf c90
              clear c90
              refine lv_aload_n hx hb dX8_statement_123 rfl (lv_at hl 0 rfl) ?_
              refine lv_iconst (v := 0) hx hb dX8_statement_124 (by decide) ?_
              refine lv_aload_n hx hb dX8_statement_125 rfl (lv_at hl 0 rfl) ?_
              refine va_get (D := D) (ci := 8) (v := .int v_t_people) (C := RX8) (T := TX8) (N := 37) hx hb hts hinX8 hown hK.1 hP 0 rfl rfl 11 (by decide) hk95 (fun _ h9 => h9) rfl dX8_statement_126 ?_
              refine lv_iconst (v := 1) hx hb dX8_statement_129 (by decide) ?_
              refine lv_isub hx hb dX8_statement_130 ?_
              obtain ⟨r55, u56, u57, u58, u59, u60, u61, hr62, hf⟩ := boE7 hf
              have hPc := hP.sub (ws' := [(q_t, oX8 q_t_shelf q_t_rowSort q_t_rowSize q_t_rows q_t_moved q_t_shown q_t_tape v_t_tapeSize q_t_refused v_t_places q_t_ways v_t_people q_t_kind q_t_by q_t_home q_t_aim q_t_at0 v_t_hour v_t_chance v_t_seed w_t_kept w_t_tried v_t_at v_t_token v_t_from v_t_figures v_t_fault q_t_told v_t_statements q_t_steps q_t_spot q_t_then v_t_now v_t_gone q_t_sights q_t_darkAt q_t_can), (q_t_tape, .inl (cy 0, 250, .inl v_t_tape)), (q_t_told, .inl (cy 0, 4, .inl v_t_told))]) [0, 1, 8] rfl
              have hDc := hD.sub (ws' := [(q_t, oX8 q_t_shelf q_t_rowSort q_t_rowSize q_t_rows q_t_moved q_t_shown q_t_tape v_t_tapeSize q_t_refused v_t_places q_t_ways v_t_people q_t_kind q_t_by q_t_home q_t_aim q_t_at0 v_t_hour v_t_chance v_t_seed w_t_kept w_t_tried v_t_at v_t_token v_t_from v_t_figures v_t_fault q_t_told v_t_statements q_t_steps q_t_spot q_t_then v_t_now v_t_gone q_t_sights q_t_darkAt q_t_can), (q_t_tape, .inl (cy 0, 250, .inl v_t_tape)), (q_t_told, .inl (cy 0, 4, .inl v_t_told))]) [0, 1, 8] (by decide) rfl
              refine xcQi (w1 := [(q_t, oX8 q_t_shelf q_t_rowSort q_t_rowSize q_t_rows q_t_moved q_t_shown q_t_tape v_t_tapeSize q_t_refused v_t_places q_t_ways v_t_people q_t_kind q_t_by q_t_home q_t_aim q_t_at0 v_t_hour v_t_chance v_t_seed w_t_kept w_t_tried u56 u57 u58 u59 u60 q_t_told v_t_statements q_t_steps q_t_spot q_t_then v_t_now v_t_gone q_t_sights q_t_darkAt q_t_can), (q_t_tape, .inl (cy 0, 250, .inl v_t_tape)), (q_t_told, .inl (cy 0, 4, .inl u61))]) (va_runV (As := [.int (0 : Int32), .int (v_t_people - (1 : Int32))]) (rest := []) ⟨hx, hb, hml, hown, hts⟩ (mX8_tells l D cy q_t q_t_shelf q_t_rowSort q_t_rowSize q_t_rows q_t_moved q_t_shown q_t_tape q_t_refused q_t_ways q_t_kind q_t_by q_t_home q_t_aim q_t_at0 q_t_told q_t_steps q_t_spot q_t_then q_t_sights q_t_darkAt q_t_can v_t_tapeSize v_t_places v_t_people v_t_hour v_t_chance v_t_seed w_t_kept w_t_tried v_t_at v_t_token v_t_from v_t_figures v_t_fault v_t_statements v_t_now v_t_gone v_t_tape v_t_told _ (0 : Int32) (v_t_people - (1 : Int32)) hr62) (cwV 2 hts gX8_statement_X8_tells rfl rfl rfl (by decide +kernel) ⟨Nat.le_of_ble_eq_true rfl, Nat.le_of_ble_eq_true rfl⟩) (xPVw hK hPc hDc (ci := 8) (q0 := 0) rfl rfl) rfl rfl hl.1 rfl (lv_room (Nat.le_of_ble_eq_true rfl)) dX8_statement_131 ⟨Nat.le_of_ble_eq_true rfl, Nat.le_of_ble_eq_true rfl⟩) hP hD hS hA [0, 1, 8] rfl rfl (fun H locs hP hD hS => ?_)
              have hP : va_P D vwCl [(q_t, oX8 q_t_shelf q_t_rowSort q_t_rowSize q_t_rows q_t_moved q_t_shown q_t_tape v_t_tapeSize q_t_refused v_t_places q_t_ways v_t_people q_t_kind q_t_by q_t_home q_t_aim q_t_at0 v_t_hour v_t_chance v_t_seed w_t_kept w_t_tried u56 u57 u58 u59 u60 q_t_told v_t_statements q_t_steps q_t_spot q_t_then v_t_now v_t_gone q_t_sights q_t_darkAt q_t_can), (q_t_tape, .inl (cy 0, 250, .inl v_t_tape)), (q_t_ways, .inl (cy 0, 12, .inl v_t_ways)), (q_t_kind, .inl (cy 0, 8, .inl v_t_kind)), (q_t_by, .inl (cy 0, 8, .inl v_t_by)), (q_t_home, .inl (cy 0, 8, .inl v_t_home)), (q_t_aim, .inl (cy 0, 8, .inl v_t_aim)), (q_t_at0, .inl (cy 0, 8, .inl v_t_at0)), (q_t_told, .inl (cy 0, 4, .inl u61))] H := hP
              have hD : va_D A [(q_t, oX8 q_t_shelf q_t_rowSort q_t_rowSize q_t_rows q_t_moved q_t_shown q_t_tape v_t_tapeSize q_t_refused v_t_places q_t_ways v_t_people q_t_kind q_t_by q_t_home q_t_aim q_t_at0 v_t_hour v_t_chance v_t_seed w_t_kept w_t_tried u56 u57 u58 u59 u60 q_t_told v_t_statements q_t_steps q_t_spot q_t_then v_t_now v_t_gone q_t_sights q_t_darkAt q_t_can), (q_t_tape, .inl (cy 0, 250, .inl v_t_tape)), (q_t_ways, .inl (cy 0, 12, .inl v_t_ways)), (q_t_kind, .inl (cy 0, 8, .inl v_t_kind)), (q_t_by, .inl (cy 0, 8, .inl v_t_by)), (q_t_home, .inl (cy 0, 8, .inl v_t_home)), (q_t_aim, .inl (cy 0, 8, .inl v_t_aim)), (q_t_at0, .inl (cy 0, 8, .inl v_t_at0)), (q_t_told, .inl (cy 0, 4, .inl u61))] := hD
              refine jww7 157 (fun (y63 : Int32) (u64 : Int32) (u65 : Int32) (u66 : Int32) (u67 : Int32) (u68 : Int32) (u69 : Nat → Int32) => [.int y63]) (fun (y63 : Int32) (u64 : Int32) (u65 : Int32) (u66 : Int32) (u67 : Int32) (u68 : Int32) (u69 : Nat → Int32) H locs ls => va_P D vwCl [(q_t, oX8 q_t_shelf q_t_rowSort q_t_rowSize q_t_rows q_t_moved q_t_shown q_t_tape v_t_tapeSize q_t_refused v_t_places q_t_ways v_t_people q_t_kind q_t_by q_t_home q_t_aim q_t_at0 v_t_hour v_t_chance v_t_seed w_t_kept w_t_tried u64 u65 u66 u67 u68 q_t_told v_t_statements q_t_steps q_t_spot q_t_then v_t_now v_t_gone q_t_sights q_t_darkAt q_t_can), (q_t_tape, .inl (cy 0, 250, .inl v_t_tape)), (q_t_ways, .inl (cy 0, 12, .inl v_t_ways)), (q_t_kind, .inl (cy 0, 8, .inl v_t_kind)), (q_t_by, .inl (cy 0, 8, .inl v_t_by)), (q_t_home, .inl (cy 0, 8, .inl v_t_home)), (q_t_aim, .inl (cy 0, 8, .inl v_t_aim)), (q_t_at0, .inl (cy 0, 8, .inl v_t_at0)), (q_t_told, .inl (cy 0, 4, .inl u69))] H ∧ va_D A [(q_t, oX8 q_t_shelf q_t_rowSort q_t_rowSize q_t_rows q_t_moved q_t_shown q_t_tape v_t_tapeSize q_t_refused v_t_places q_t_ways v_t_people q_t_kind q_t_by q_t_home q_t_aim q_t_at0 v_t_hour v_t_chance v_t_seed w_t_kept w_t_tried u64 u65 u66 u67 u68 q_t_told v_t_statements q_t_steps q_t_spot q_t_then v_t_now v_t_gone q_t_sights q_t_darkAt q_t_can), (q_t_tape, .inl (cy 0, 250, .inl v_t_tape)), (q_t_ways, .inl (cy 0, 12, .inl v_t_ways)), (q_t_kind, .inl (cy 0, 8, .inl v_t_kind)), (q_t_by, .inl (cy 0, 8, .inl v_t_by)), (q_t_home, .inl (cy 0, 8, .inl v_t_home)), (q_t_aim, .inl (cy 0, 8, .inl v_t_aim)), (q_t_at0, .inl (cy 0, 8, .inl v_t_at0)), (q_t_told, .inl (cy 0, 4, .inl u69))] ∧ va_S A s.heap H locs ∧ lv_has ls 3 [(0, .ref q_t)]) hf (fun y63 u64 u65 u66 u67 u68 u69 H locs ls hI hf => ?_) (fun k70 J157 hf => ?_)
              · obtain ⟨hP, hD, hS, hl⟩ := hI
                refine lv_istore_n (lv' := [(1, .int y63), (0, .ref q_t)]) hx hb dX8_statement_157 rfl hl (by decide) rfl (fun ls hl => ?_)
                refine lv_iload_n hx hb dX8_statement_158 rfl (lv_at hl 0 rfl) ?_
                refine lv_if_eq (tgt := 179) hx hb dX8_statement_159 (by decide) (fun c72 => ?_) (fun c72 => ?_)
                · have hf := ifT hf c72
                  clear c72
                  refine lv_iload_n hx hb dX8_statement_179 rfl (lv_at hl 0 rfl) ?_
                  obtain ⟨hz, hf⟩ := ckE hf
                  have hg0 := Option.some.inj hf
                  obtain ⟨ee0, hg1⟩ := Prod.mk.inj hg0
                  obtain ⟨ee1, hg2⟩ := Prod.mk.inj hg1
                  obtain ⟨ee2, hg3⟩ := Prod.mk.inj hg2
                  obtain ⟨ee3, hg4⟩ := Prod.mk.inj hg3
                  obtain ⟨ee4, hg5⟩ := Prod.mk.inj hg4
                  obtain ⟨ee5, hg6⟩ := Prod.mk.inj hg5
                  obtain ⟨ee6, hg7⟩ := Prod.mk.inj hg6
                  obtain ⟨ee7, hg8⟩ := Prod.mk.inj hg7
                  obtain ⟨ee8, hg9⟩ := Prod.mk.inj hg8
                  obtain ⟨ee9, hg10⟩ := Prod.mk.inj hg9
                  obtain ⟨ee10, hg11⟩ := Prod.mk.inj hg10
                  obtain ⟨ee11, hg12⟩ := Prod.mk.inj hg11
                  obtain ⟨ee12, hg13⟩ := Prod.mk.inj hg12
                  obtain ⟨ee13, hg14⟩ := Prod.mk.inj hg13
                  obtain ⟨ee14, hg15⟩ := Prod.mk.inj hg14
                  obtain ⟨ee15, hg16⟩ := Prod.mk.inj hg15
                  clear hf hg0 hg1 hg2 hg3 hg4 hg5 hg6 hg7 hg8 hg9 hg10 hg11 hg12 hg13 hg14 hg15
                  subst ee0
                  subst ee1
                  subst ee2
                  subst ee3
                  subst ee4
                  subst ee5
                  subst ee6
                  subst ee7
                  subst ee8
                  subst ee9
                  subst ee10
                  subst ee11
                  subst ee12
                  subst ee13
                  subst ee14
                  subst ee15
                  subst hg16
                  exact W.zret hx hb hr (by rcases Decidable.not_not.mp hz with h | h <;> rw [h] <;> rfl) (fun t ht hW => ⟨⟨_, (), rfl, rfl, xend ht hP⟩, hS.F ht⟩) hS.2.2 dX8_statement_180
                · have hf := ifF hf c72
                  clear c72
                  refine lv_aload_n hx hb dX8_statement_162 rfl (lv_at hl 1 rfl) ?_
                  refine va_get (D := D) (ci := 8) (v := .ref q_t_at0) (C := RX8) (T := TX8) (N := 37) hx hb hts hinX8 hown hK.1 hP 0 rfl rfl 16 (by decide) hk56 (fun _ h9 => h9) rfl dX8_statement_163 ?_
                  refine lv_aload_n hx hb dX8_statement_166 rfl (lv_at hl 1 rfl) ?_
                  refine va_get (D := D) (ci := 8) (v := .ref q_t_told) (C := RX8) (T := TX8) (N := 37) hx hb hts hinX8 hown hK.1 hP 0 rfl rfl 27 (by decide) hk65 (fun _ h9 => h9) rfl dX8_statement_167 ?_
                  refine lv_iconst (v := 0) hx hb dX8_statement_170 (by decide) ?_
                  refine va_iald hx hb hK.1 hP 8 0 rfl rfl (show vp_in (0 : Int32) 4 from by unfold vp_in; decide) dX8_statement_171 ?_
                  refine lv_aload_n hx hb dX8_statement_172 rfl (lv_at hl 1 rfl) ?_
                  refine va_get (D := D) (ci := 8) (v := .ref q_t_told) (C := RX8) (T := TX8) (N := 37) hx hb hts hinX8 hown hK.1 hP 0 rfl rfl 27 (by decide) hk65 (fun _ h9 => h9) rfl dX8_statement_173 ?_
                  refine lv_iconst (v := 1) hx hb dX8_statement_176 (by decide) ?_
                  refine va_iald hx hb hK.1 hP 8 0 rfl rfl (show vp_in (1 : Int32) 4 from by unfold vp_in; decide) dX8_statement_177 ?_
                  obtain ⟨hi71, hf⟩ := ckE hf
                  refine va_iast hx hb hK.1 hP hD hS 7 0 rfl rfl hi71 dX8_statement_178 (fun H locs hP hD hS => ?_)
                  have hP : va_P D vwCl [(q_t, oX8 q_t_shelf q_t_rowSort q_t_rowSize q_t_rows q_t_moved q_t_shown q_t_tape v_t_tapeSize q_t_refused v_t_places q_t_ways v_t_people q_t_kind q_t_by q_t_home q_t_aim q_t_at0 v_t_hour v_t_chance v_t_seed w_t_kept w_t_tried u64 u65 u66 u67 u68 q_t_told v_t_statements q_t_steps q_t_spot q_t_then v_t_now v_t_gone q_t_sights q_t_darkAt q_t_can), (q_t_tape, .inl (cy 0, 250, .inl v_t_tape)), (q_t_ways, .inl (cy 0, 12, .inl v_t_ways)), (q_t_kind, .inl (cy 0, 8, .inl v_t_kind)), (q_t_by, .inl (cy 0, 8, .inl v_t_by)), (q_t_home, .inl (cy 0, 8, .inl v_t_home)), (q_t_aim, .inl (cy 0, 8, .inl v_t_aim)), (q_t_at0, .inl (cy 0, 8, .inl (upd v_t_at0 (u69 (0 : Int32).toNatClampNeg).toNatClampNeg (u69 (1 : Int32).toNatClampNeg)))), (q_t_told, .inl (cy 0, 4, .inl u69))] H := hP
                  have hD : va_D A [(q_t, oX8 q_t_shelf q_t_rowSort q_t_rowSize q_t_rows q_t_moved q_t_shown q_t_tape v_t_tapeSize q_t_refused v_t_places q_t_ways v_t_people q_t_kind q_t_by q_t_home q_t_aim q_t_at0 v_t_hour v_t_chance v_t_seed w_t_kept w_t_tried u64 u65 u66 u67 u68 q_t_told v_t_statements q_t_steps q_t_spot q_t_then v_t_now v_t_gone q_t_sights q_t_darkAt q_t_can), (q_t_tape, .inl (cy 0, 250, .inl v_t_tape)), (q_t_ways, .inl (cy 0, 12, .inl v_t_ways)), (q_t_kind, .inl (cy 0, 8, .inl v_t_kind)), (q_t_by, .inl (cy 0, 8, .inl v_t_by)), (q_t_home, .inl (cy 0, 8, .inl v_t_home)), (q_t_aim, .inl (cy 0, 8, .inl v_t_aim)), (q_t_at0, .inl (cy 0, 8, .inl (upd v_t_at0 (u69 (0 : Int32).toNatClampNeg).toNatClampNeg (u69 (1 : Int32).toNatClampNeg)))), (q_t_told, .inl (cy 0, 4, .inl u69))] := hD
                  refine lv_iload_n hx hb dX8_statement_179 rfl (lv_at hl 0 rfl) ?_
                  obtain ⟨hz, hf⟩ := ckE hf
                  have hg0 := Option.some.inj hf
                  obtain ⟨ee0, hg1⟩ := Prod.mk.inj hg0
                  obtain ⟨ee1, hg2⟩ := Prod.mk.inj hg1
                  obtain ⟨ee2, hg3⟩ := Prod.mk.inj hg2
                  obtain ⟨ee3, hg4⟩ := Prod.mk.inj hg3
                  obtain ⟨ee4, hg5⟩ := Prod.mk.inj hg4
                  obtain ⟨ee5, hg6⟩ := Prod.mk.inj hg5
                  obtain ⟨ee6, hg7⟩ := Prod.mk.inj hg6
                  obtain ⟨ee7, hg8⟩ := Prod.mk.inj hg7
                  obtain ⟨ee8, hg9⟩ := Prod.mk.inj hg8
                  obtain ⟨ee9, hg10⟩ := Prod.mk.inj hg9
                  obtain ⟨ee10, hg11⟩ := Prod.mk.inj hg10
                  obtain ⟨ee11, hg12⟩ := Prod.mk.inj hg11
                  obtain ⟨ee12, hg13⟩ := Prod.mk.inj hg12
                  obtain ⟨ee13, hg14⟩ := Prod.mk.inj hg13
                  obtain ⟨ee14, hg15⟩ := Prod.mk.inj hg14
                  obtain ⟨ee15, hg16⟩ := Prod.mk.inj hg15
                  clear hf hg0 hg1 hg2 hg3 hg4 hg5 hg6 hg7 hg8 hg9 hg10 hg11 hg12 hg13 hg14 hg15
                  subst ee0
                  subst ee1
                  subst ee2
                  subst ee3
                  subst ee4
                  subst ee5
                  subst ee6
                  subst ee7
                  subst ee8
                  subst ee9
                  subst ee10
                  subst ee11
                  subst ee12
                  subst ee13
                  subst ee14
                  subst ee15
                  subst hg16
                  exact W.zret hx hb hr (by rcases Decidable.not_not.mp hz with h | h <;> rw [h] <;> rfl) (fun t ht hW => ⟨⟨_, (), rfl, rfl, xend ht hP⟩, hS.F ht⟩) hS.2.2 dX8_statement_180
              · refine jww6 156 (fun (u73 : Int32) (u74 : Int32) (u75 : Int32) (u76 : Int32) (u77 : Int32) (u78 : Nat → Int32) => []) (fun (u73 : Int32) (u74 : Int32) (u75 : Int32) (u76 : Int32) (u77 : Int32) (u78 : Nat → Int32) H locs ls => va_P D vwCl [(q_t, oX8 q_t_shelf q_t_rowSort q_t_rowSize q_t_rows q_t_moved q_t_shown q_t_tape v_t_tapeSize q_t_refused v_t_places q_t_ways v_t_people q_t_kind q_t_by q_t_home q_t_aim q_t_at0 v_t_hour v_t_chance v_t_seed w_t_kept w_t_tried u73 u74 u75 u76 u77 q_t_told v_t_statements q_t_steps q_t_spot q_t_then v_t_now v_t_gone q_t_sights q_t_darkAt q_t_can), (q_t_tape, .inl (cy 0, 250, .inl v_t_tape)), (q_t_ways, .inl (cy 0, 12, .inl v_t_ways)), (q_t_kind, .inl (cy 0, 8, .inl v_t_kind)), (q_t_by, .inl (cy 0, 8, .inl v_t_by)), (q_t_home, .inl (cy 0, 8, .inl v_t_home)), (q_t_aim, .inl (cy 0, 8, .inl v_t_aim)), (q_t_at0, .inl (cy 0, 8, .inl v_t_at0)), (q_t_told, .inl (cy 0, 4, .inl u78))] H ∧ va_D A [(q_t, oX8 q_t_shelf q_t_rowSort q_t_rowSize q_t_rows q_t_moved q_t_shown q_t_tape v_t_tapeSize q_t_refused v_t_places q_t_ways v_t_people q_t_kind q_t_by q_t_home q_t_aim q_t_at0 v_t_hour v_t_chance v_t_seed w_t_kept w_t_tried u73 u74 u75 u76 u77 q_t_told v_t_statements q_t_steps q_t_spot q_t_then v_t_now v_t_gone q_t_sights q_t_darkAt q_t_can), (q_t_tape, .inl (cy 0, 250, .inl v_t_tape)), (q_t_ways, .inl (cy 0, 12, .inl v_t_ways)), (q_t_kind, .inl (cy 0, 8, .inl v_t_kind)), (q_t_by, .inl (cy 0, 8, .inl v_t_by)), (q_t_home, .inl (cy 0, 8, .inl v_t_home)), (q_t_aim, .inl (cy 0, 8, .inl v_t_aim)), (q_t_at0, .inl (cy 0, 8, .inl v_t_at0)), (q_t_told, .inl (cy 0, 4, .inl u78))] ∧ va_S A s.heap H locs ∧ lv_has ls 3 [(0, .ref q_t)]) hf (fun u73 u74 u75 u76 u77 u78 H locs ls hI hf => ?_) (fun k79 J156 hf => ?_)
                · obtain ⟨hP, hD, hS, hl⟩ := hI
                  refine lv_iconst (v := 0) hx hb dX8_statement_156 (by decide) ?_
                  exact J157 (0 : Int32) u73 u74 u75 u76 u77 u78 _ _ ls ⟨hP, hD, hS, lv_sub hl [0] rfl⟩ hf
                · refine lv_if_eq (tgt := 156) hx hb dX8_statement_134 (by decide) (fun c89 => ?_) (fun c89 => ?_)
                  · have hf := ifT hf c89
                    clear c89
                    exact J156 u56 u57 u58 u59 u60 u61 _ _ ls ⟨hP, hD, hS, lv_sub hl [0] rfl⟩ hf
                  · have hf := ifF hf c89
                    clear c89
                    refine lv_aload_n hx hb dX8_statement_137 rfl (lv_at hl 0 rfl) ?_
                    refine lv_iconst (v := 1) hx hb dX8_statement_138 (by decide) ?_
                    refine lv_iconst (v := 0) hx hb dX8_statement_139 (by decide) ?_
                    refine lv_aload_n hx hb dX8_statement_140 rfl (lv_at hl 0 rfl) ?_
                    refine va_get (D := D) (ci := 8) (v := .int v_t_places) (C := RX8) (T := TX8) (N := 37) hx hb hts hinX8 hown hK.1 hP 0 rfl rfl 9 (by decide) hk37 (fun _ h9 => h9) rfl dX8_statement_141 ?_
                    refine lv_iconst (v := 1) hx hb dX8_statement_144 (by decide) ?_
                    refine lv_isub hx hb dX8_statement_145 ?_
                    obtain ⟨r80, u81, u82, u83, u84, u85, u86, hr87, hf⟩ := boE7 hf
                    have hPc := hP.sub (ws' := [(q_t, oX8 q_t_shelf q_t_rowSort q_t_rowSize q_t_rows q_t_moved q_t_shown q_t_tape v_t_tapeSize q_t_refused v_t_places q_t_ways v_t_people q_t_kind q_t_by q_t_home q_t_aim q_t_at0 v_t_hour v_t_chance v_t_seed w_t_kept w_t_tried u56 u57 u58 u59 u60 q_t_told v_t_statements q_t_steps q_t_spot q_t_then v_t_now v_t_gone q_t_sights q_t_darkAt q_t_can), (q_t_tape, .inl (cy 0, 250, .inl v_t_tape)), (q_t_told, .inl (cy 0, 4, .inl u61))]) [0, 1, 8] rfl
                    have hDc := hD.sub (ws' := [(q_t, oX8 q_t_shelf q_t_rowSort q_t_rowSize q_t_rows q_t_moved q_t_shown q_t_tape v_t_tapeSize q_t_refused v_t_places q_t_ways v_t_people q_t_kind q_t_by q_t_home q_t_aim q_t_at0 v_t_hour v_t_chance v_t_seed w_t_kept w_t_tried u56 u57 u58 u59 u60 q_t_told v_t_statements q_t_steps q_t_spot q_t_then v_t_now v_t_gone q_t_sights q_t_darkAt q_t_can), (q_t_tape, .inl (cy 0, 250, .inl v_t_tape)), (q_t_told, .inl (cy 0, 4, .inl u61))]) [0, 1, 8] (by decide) rfl
                    refine xcQi (w1 := [(q_t, oX8 q_t_shelf q_t_rowSort q_t_rowSize q_t_rows q_t_moved q_t_shown q_t_tape v_t_tapeSize q_t_refused v_t_places q_t_ways v_t_people q_t_kind q_t_by q_t_home q_t_aim q_t_at0 v_t_hour v_t_chance v_t_seed w_t_kept w_t_tried u81 u82 u83 u84 u85 q_t_told v_t_statements q_t_steps q_t_spot q_t_then v_t_now v_t_gone q_t_sights q_t_darkAt q_t_can), (q_t_tape, .inl (cy 0, 250, .inl v_t_tape)), (q_t_told, .inl (cy 0, 4, .inl u86))]) (va_runV (As := [.int (1 : Int32), .int (0 : Int32), .int (v_t_places - (1 : Int32))]) (rest := []) ⟨hx, hb, hml, hown, hts⟩ (mX8_number l D cy q_t q_t_shelf q_t_rowSort q_t_rowSize q_t_rows q_t_moved q_t_shown q_t_tape q_t_refused q_t_ways q_t_kind q_t_by q_t_home q_t_aim q_t_at0 q_t_told q_t_steps q_t_spot q_t_then q_t_sights q_t_darkAt q_t_can v_t_tapeSize v_t_places v_t_people v_t_hour v_t_chance v_t_seed w_t_kept w_t_tried u56 u57 u58 u59 u60 v_t_statements v_t_now v_t_gone v_t_tape u61 _ (1 : Int32) (0 : Int32) (v_t_places - (1 : Int32)) hr87) (cwV 3 hts gX8_statement_X8_number rfl rfl rfl (by decide +kernel) ⟨Nat.le_of_ble_eq_true rfl, Nat.le_of_ble_eq_true rfl⟩) (xPVw hK hPc hDc (ci := 8) (q0 := 0) rfl rfl) rfl rfl hl.1 rfl (lv_room (Nat.le_of_ble_eq_true rfl)) dX8_statement_146 ⟨Nat.le_of_ble_eq_true rfl, Nat.le_of_ble_eq_true rfl⟩) hP hD hS hA [0, 1, 8] rfl rfl (fun H locs hP hD hS => ?_)
                    have hP : va_P D vwCl [(q_t, oX8 q_t_shelf q_t_rowSort q_t_rowSize q_t_rows q_t_moved q_t_shown q_t_tape v_t_tapeSize q_t_refused v_t_places q_t_ways v_t_people q_t_kind q_t_by q_t_home q_t_aim q_t_at0 v_t_hour v_t_chance v_t_seed w_t_kept w_t_tried u81 u82 u83 u84 u85 q_t_told v_t_statements q_t_steps q_t_spot q_t_then v_t_now v_t_gone q_t_sights q_t_darkAt q_t_can), (q_t_tape, .inl (cy 0, 250, .inl v_t_tape)), (q_t_ways, .inl (cy 0, 12, .inl v_t_ways)), (q_t_kind, .inl (cy 0, 8, .inl v_t_kind)), (q_t_by, .inl (cy 0, 8, .inl v_t_by)), (q_t_home, .inl (cy 0, 8, .inl v_t_home)), (q_t_aim, .inl (cy 0, 8, .inl v_t_aim)), (q_t_at0, .inl (cy 0, 8, .inl v_t_at0)), (q_t_told, .inl (cy 0, 4, .inl u86))] H := hP
                    have hD : va_D A [(q_t, oX8 q_t_shelf q_t_rowSort q_t_rowSize q_t_rows q_t_moved q_t_shown q_t_tape v_t_tapeSize q_t_refused v_t_places q_t_ways v_t_people q_t_kind q_t_by q_t_home q_t_aim q_t_at0 v_t_hour v_t_chance v_t_seed w_t_kept w_t_tried u81 u82 u83 u84 u85 q_t_told v_t_statements q_t_steps q_t_spot q_t_then v_t_now v_t_gone q_t_sights q_t_darkAt q_t_can), (q_t_tape, .inl (cy 0, 250, .inl v_t_tape)), (q_t_ways, .inl (cy 0, 12, .inl v_t_ways)), (q_t_kind, .inl (cy 0, 8, .inl v_t_kind)), (q_t_by, .inl (cy 0, 8, .inl v_t_by)), (q_t_home, .inl (cy 0, 8, .inl v_t_home)), (q_t_aim, .inl (cy 0, 8, .inl v_t_aim)), (q_t_at0, .inl (cy 0, 8, .inl v_t_at0)), (q_t_told, .inl (cy 0, 4, .inl u86))] := hD
                    refine lv_if_eq (tgt := 156) hx hb dX8_statement_149 (by decide) (fun c88 => ?_) (fun c88 => ?_)
                    · have hf := ifT hf c88
                      clear c88
                      exact J156 u81 u82 u83 u84 u85 u86 _ _ ls ⟨hP, hD, hS, lv_sub hl [0] rfl⟩ hf
                    · have hf := ifF hf c88
                      clear c88
                      refine lv_iconst (v := 1) hx hb dX8_statement_152 (by decide) ?_
                      refine lv_goto (tgt := 157) hx hb dX8_statement_153 (by decide) ?_
                      exact J157 (1 : Int32) u81 u82 u83 u84 u85 u86 _ _ ls ⟨hP, hD, hS, lv_sub hl [0] rfl⟩ hf
          · refine lv_if_eq (tgt := 114) hx hb dX8_statement_97 (by decide) (fun c106 => ?_) (fun c106 => ?_)
            · have hf := ifT hf c106
              clear c106
              exact J114 _ _ ls ⟨hP, hD, hS, lv_sub hl [1] rfl⟩ hf
            · have hf := ifF hf c106
              clear c106
              refine lv_aload_n hx hb dX8_statement_100 rfl (lv_at hl 1 rfl) ?_
              refine va_get (D := D) (ci := 8) (v := .int v_t_people) (C := RX8) (T := TX8) (N := 37) hx hb hts hinX8 hown hK.1 hP 0 rfl rfl 11 (by decide) hk95 (fun _ h9 => h9) rfl dX8_statement_101 ?_
              refine lv_bipush (v := 8) hx hb dX8_statement_104 (by decide) ?_
              refine lv_icmp_ge (tgt := 114) hx hb dX8_statement_106 (by decide) (fun c105 => ?_) (fun c105 => ?_)
              · have hf := ifT hf c105
                clear c105
                exact J114 _ _ ls ⟨hP, hD, hS, lv_sub hl [1] rfl⟩ hf
              · have hf := ifF hf c105
                clear c105
                refine lv_aload_n hx hb dX8_statement_109 rfl (lv_at hl 1 rfl) ?_
                obtain ⟨r91, u92, u93, u94, u95, u96, u97, u98, u99, u100, u101, u102, u103, hr104, hf⟩ := boE13 hf
                have hPc := hP.sub (ws' := [(q_t, oX8 q_t_shelf q_t_rowSort q_t_rowSize q_t_rows q_t_moved q_t_shown q_t_tape v_t_tapeSize q_t_refused v_t_places q_t_ways v_t_people q_t_kind q_t_by q_t_home q_t_aim q_t_at0 v_t_hour v_t_chance v_t_seed w_t_kept w_t_tried v_t_at v_t_token v_t_from v_t_figures v_t_fault q_t_told v_t_statements q_t_steps q_t_spot q_t_then v_t_now v_t_gone q_t_sights q_t_darkAt q_t_can), (q_t_tape, .inl (cy 0, 250, .inl v_t_tape)), (q_t_kind, .inl (cy 0, 8, .inl v_t_kind)), (q_t_by, .inl (cy 0, 8, .inl v_t_by)), (q_t_home, .inl (cy 0, 8, .inl v_t_home)), (q_t_aim, .inl (cy 0, 8, .inl v_t_aim)), (q_t_at0, .inl (cy 0, 8, .inl v_t_at0)), (q_t_told, .inl (cy 0, 4, .inl v_t_told))]) [0, 1, 3, 4, 5, 6, 7, 8] rfl
                have hDc := hD.sub (ws' := [(q_t, oX8 q_t_shelf q_t_rowSort q_t_rowSize q_t_rows q_t_moved q_t_shown q_t_tape v_t_tapeSize q_t_refused v_t_places q_t_ways v_t_people q_t_kind q_t_by q_t_home q_t_aim q_t_at0 v_t_hour v_t_chance v_t_seed w_t_kept w_t_tried v_t_at v_t_token v_t_from v_t_figures v_t_fault q_t_told v_t_statements q_t_steps q_t_spot q_t_then v_t_now v_t_gone q_t_sights q_t_darkAt q_t_can), (q_t_tape, .inl (cy 0, 250, .inl v_t_tape)), (q_t_kind, .inl (cy 0, 8, .inl v_t_kind)), (q_t_by, .inl (cy 0, 8, .inl v_t_by)), (q_t_home, .inl (cy 0, 8, .inl v_t_home)), (q_t_aim, .inl (cy 0, 8, .inl v_t_aim)), (q_t_at0, .inl (cy 0, 8, .inl v_t_at0)), (q_t_told, .inl (cy 0, 4, .inl v_t_told))]) [0, 1, 3, 4, 5, 6, 7, 8] (by decide) rfl
                refine xcQi (w1 := [(q_t, oX8 q_t_shelf q_t_rowSort q_t_rowSize q_t_rows q_t_moved q_t_shown q_t_tape v_t_tapeSize q_t_refused v_t_places q_t_ways u92 q_t_kind q_t_by q_t_home q_t_aim q_t_at0 v_t_hour v_t_chance v_t_seed w_t_kept w_t_tried u93 u94 u95 u96 u97 q_t_told v_t_statements q_t_steps q_t_spot q_t_then v_t_now v_t_gone q_t_sights q_t_darkAt q_t_can), (q_t_tape, .inl (cy 0, 250, .inl v_t_tape)), (q_t_kind, .inl (cy 0, 8, .inl u98)), (q_t_by, .inl (cy 0, 8, .inl u99)), (q_t_home, .inl (cy 0, 8, .inl u100)), (q_t_aim, .inl (cy 0, 8, .inl u101)), (q_t_at0, .inl (cy 0, 8, .inl u102)), (q_t_told, .inl (cy 0, 4, .inl u103))]) (va_runV (As := []) (rest := []) ⟨hx, hb, hml, hown, hts⟩ (mX8_tellsPerson l D cy q_t q_t_shelf q_t_rowSort q_t_rowSize q_t_rows q_t_moved q_t_shown q_t_tape q_t_refused q_t_ways q_t_kind q_t_by q_t_home q_t_aim q_t_at0 q_t_told q_t_steps q_t_spot q_t_then q_t_sights q_t_darkAt q_t_can v_t_tapeSize v_t_places v_t_people v_t_hour v_t_chance v_t_seed w_t_kept w_t_tried v_t_at v_t_token v_t_from v_t_figures v_t_fault v_t_statements v_t_now v_t_gone v_t_tape v_t_kind v_t_by v_t_home v_t_aim v_t_at0 v_t_told _  hr104) (cwV 0 hts gX8_statement_X8_tellsPerson rfl rfl rfl (by decide +kernel) ⟨Nat.le_of_ble_eq_true rfl, Nat.le_of_ble_eq_true rfl⟩) (xPVw hK hPc hDc (ci := 8) (q0 := 0) rfl rfl) rfl rfl hl.1 rfl (lv_room (Nat.le_of_ble_eq_true rfl)) dX8_statement_110 ⟨Nat.le_of_ble_eq_true rfl, Nat.le_of_ble_eq_true rfl⟩) hP hD hS hA [0, 1, 3, 4, 5, 6, 7, 8] rfl rfl (fun H locs hP hD hS => ?_)
                have hP : va_P D vwCl [(q_t, oX8 q_t_shelf q_t_rowSort q_t_rowSize q_t_rows q_t_moved q_t_shown q_t_tape v_t_tapeSize q_t_refused v_t_places q_t_ways u92 q_t_kind q_t_by q_t_home q_t_aim q_t_at0 v_t_hour v_t_chance v_t_seed w_t_kept w_t_tried u93 u94 u95 u96 u97 q_t_told v_t_statements q_t_steps q_t_spot q_t_then v_t_now v_t_gone q_t_sights q_t_darkAt q_t_can), (q_t_tape, .inl (cy 0, 250, .inl v_t_tape)), (q_t_ways, .inl (cy 0, 12, .inl v_t_ways)), (q_t_kind, .inl (cy 0, 8, .inl u98)), (q_t_by, .inl (cy 0, 8, .inl u99)), (q_t_home, .inl (cy 0, 8, .inl u100)), (q_t_aim, .inl (cy 0, 8, .inl u101)), (q_t_at0, .inl (cy 0, 8, .inl u102)), (q_t_told, .inl (cy 0, 4, .inl u103))] H := hP
                have hD : va_D A [(q_t, oX8 q_t_shelf q_t_rowSort q_t_rowSize q_t_rows q_t_moved q_t_shown q_t_tape v_t_tapeSize q_t_refused v_t_places q_t_ways u92 q_t_kind q_t_by q_t_home q_t_aim q_t_at0 v_t_hour v_t_chance v_t_seed w_t_kept w_t_tried u93 u94 u95 u96 u97 q_t_told v_t_statements q_t_steps q_t_spot q_t_then v_t_now v_t_gone q_t_sights q_t_darkAt q_t_can), (q_t_tape, .inl (cy 0, 250, .inl v_t_tape)), (q_t_ways, .inl (cy 0, 12, .inl v_t_ways)), (q_t_kind, .inl (cy 0, 8, .inl u98)), (q_t_by, .inl (cy 0, 8, .inl u99)), (q_t_home, .inl (cy 0, 8, .inl u100)), (q_t_aim, .inl (cy 0, 8, .inl u101)), (q_t_at0, .inl (cy 0, 8, .inl u102)), (q_t_told, .inl (cy 0, 4, .inl u103))] := hD
                obtain ⟨hz, hf⟩ := ckE hf
                have hg0 := Option.some.inj hf
                obtain ⟨ee0, hg1⟩ := Prod.mk.inj hg0
                obtain ⟨ee1, hg2⟩ := Prod.mk.inj hg1
                obtain ⟨ee2, hg3⟩ := Prod.mk.inj hg2
                obtain ⟨ee3, hg4⟩ := Prod.mk.inj hg3
                obtain ⟨ee4, hg5⟩ := Prod.mk.inj hg4
                obtain ⟨ee5, hg6⟩ := Prod.mk.inj hg5
                obtain ⟨ee6, hg7⟩ := Prod.mk.inj hg6
                obtain ⟨ee7, hg8⟩ := Prod.mk.inj hg7
                obtain ⟨ee8, hg9⟩ := Prod.mk.inj hg8
                obtain ⟨ee9, hg10⟩ := Prod.mk.inj hg9
                obtain ⟨ee10, hg11⟩ := Prod.mk.inj hg10
                obtain ⟨ee11, hg12⟩ := Prod.mk.inj hg11
                obtain ⟨ee12, hg13⟩ := Prod.mk.inj hg12
                obtain ⟨ee13, hg14⟩ := Prod.mk.inj hg13
                obtain ⟨ee14, hg15⟩ := Prod.mk.inj hg14
                obtain ⟨ee15, hg16⟩ := Prod.mk.inj hg15
                clear hf hg0 hg1 hg2 hg3 hg4 hg5 hg6 hg7 hg8 hg9 hg10 hg11 hg12 hg13 hg14 hg15
                subst ee0
                subst ee1
                subst ee2
                subst ee3
                subst ee4
                subst ee5
                subst ee6
                subst ee7
                subst ee8
                subst ee9
                subst ee10
                subst ee11
                subst ee12
                subst ee13
                subst ee14
                subst ee15
                subst hg16
                exact W.zret hx hb hr (by rcases Decidable.not_not.mp hz with h | h <;> rw [h] <;> rfl) (fun t ht hW => ⟨⟨_, (), rfl, rfl, xend ht hP⟩, hS.F ht⟩) hS.2.2 dX8_statement_113
        · have hf := ifF hf c107
          clear c107
          exact J63 _ _ ls ⟨hP, hD, hS, lv_sub hl [1, 0] rfl⟩ hf
  · have hf := ifF hf c120
    clear c120
    refine lv_aload_n hx hb dX8_statement_9 rfl (lv_at hl 0 rfl) ?_
    refine lv_aload_n hx hb dX8_statement_10 rfl (lv_at hl 0 rfl) ?_
    refine va_get (D := D) (ci := 8) (v := .int v_t_places) (C := RX8) (T := TX8) (N := 37) hx hb hts hinX8 hown hK.1 hP 0 rfl rfl 9 (by decide) hk37 (fun _ h9 => h9) rfl dX8_statement_11 ?_
    refine lv_bipush (v := 12) hx hb dX8_statement_14 (by decide) ?_
    obtain ⟨r109, u110, u111, u112, u113, u114, u115, hr116, hf⟩ := boE7 hf
    have hPc := hP.sub (ws' := [(q_t, oX8 q_t_shelf q_t_rowSort q_t_rowSize q_t_rows q_t_moved q_t_shown q_t_tape v_t_tapeSize q_t_refused v_t_places q_t_ways v_t_people q_t_kind q_t_by q_t_home q_t_aim q_t_at0 v_t_hour v_t_chance v_t_seed w_t_kept w_t_tried v_t_at v_t_token v_t_from v_t_figures v_t_fault q_t_told v_t_statements q_t_steps q_t_spot q_t_then v_t_now v_t_gone q_t_sights q_t_darkAt q_t_can), (q_t_tape, .inl (cy 0, 250, .inl v_t_tape)), (q_t_told, .inl (cy 0, 4, .inl v_t_told))]) [0, 1, 8] rfl
    have hDc := hD.sub (ws' := [(q_t, oX8 q_t_shelf q_t_rowSort q_t_rowSize q_t_rows q_t_moved q_t_shown q_t_tape v_t_tapeSize q_t_refused v_t_places q_t_ways v_t_people q_t_kind q_t_by q_t_home q_t_aim q_t_at0 v_t_hour v_t_chance v_t_seed w_t_kept w_t_tried v_t_at v_t_token v_t_from v_t_figures v_t_fault q_t_told v_t_statements q_t_steps q_t_spot q_t_then v_t_now v_t_gone q_t_sights q_t_darkAt q_t_can), (q_t_tape, .inl (cy 0, 250, .inl v_t_tape)), (q_t_told, .inl (cy 0, 4, .inl v_t_told))]) [0, 1, 8] (by decide) rfl
    refine xcQi (w1 := [(q_t, oX8 q_t_shelf q_t_rowSort q_t_rowSize q_t_rows q_t_moved q_t_shown q_t_tape v_t_tapeSize q_t_refused v_t_places q_t_ways v_t_people q_t_kind q_t_by q_t_home q_t_aim q_t_at0 v_t_hour v_t_chance v_t_seed w_t_kept w_t_tried u110 u111 u112 u113 u114 q_t_told v_t_statements q_t_steps q_t_spot q_t_then v_t_now v_t_gone q_t_sights q_t_darkAt q_t_can), (q_t_tape, .inl (cy 0, 250, .inl v_t_tape)), (q_t_told, .inl (cy 0, 4, .inl u115))]) (va_runV (As := [.int v_t_places, .int (12 : Int32)]) (rest := []) ⟨hx, hb, hml, hown, hts⟩ (mX8_tells l D cy q_t q_t_shelf q_t_rowSort q_t_rowSize q_t_rows q_t_moved q_t_shown q_t_tape q_t_refused q_t_ways q_t_kind q_t_by q_t_home q_t_aim q_t_at0 q_t_told q_t_steps q_t_spot q_t_then q_t_sights q_t_darkAt q_t_can v_t_tapeSize v_t_places v_t_people v_t_hour v_t_chance v_t_seed w_t_kept w_t_tried v_t_at v_t_token v_t_from v_t_figures v_t_fault v_t_statements v_t_now v_t_gone v_t_tape v_t_told _ v_t_places (12 : Int32) hr116) (cwV 2 hts gX8_statement_X8_tells rfl rfl rfl (by decide +kernel) ⟨Nat.le_of_ble_eq_true rfl, Nat.le_of_ble_eq_true rfl⟩) (xPVw hK hPc hDc (ci := 8) (q0 := 0) rfl rfl) rfl rfl hl.1 rfl (lv_room (Nat.le_of_ble_eq_true rfl)) dX8_statement_16 ⟨Nat.le_of_ble_eq_true rfl, Nat.le_of_ble_eq_true rfl⟩) hP hD hS hA [0, 1, 8] rfl rfl (fun H locs hP hD hS => ?_)
    have hP : va_P D vwCl [(q_t, oX8 q_t_shelf q_t_rowSort q_t_rowSize q_t_rows q_t_moved q_t_shown q_t_tape v_t_tapeSize q_t_refused v_t_places q_t_ways v_t_people q_t_kind q_t_by q_t_home q_t_aim q_t_at0 v_t_hour v_t_chance v_t_seed w_t_kept w_t_tried u110 u111 u112 u113 u114 q_t_told v_t_statements q_t_steps q_t_spot q_t_then v_t_now v_t_gone q_t_sights q_t_darkAt q_t_can), (q_t_tape, .inl (cy 0, 250, .inl v_t_tape)), (q_t_ways, .inl (cy 0, 12, .inl v_t_ways)), (q_t_kind, .inl (cy 0, 8, .inl v_t_kind)), (q_t_by, .inl (cy 0, 8, .inl v_t_by)), (q_t_home, .inl (cy 0, 8, .inl v_t_home)), (q_t_aim, .inl (cy 0, 8, .inl v_t_aim)), (q_t_at0, .inl (cy 0, 8, .inl v_t_at0)), (q_t_told, .inl (cy 0, 4, .inl u115))] H := hP
    have hD : va_D A [(q_t, oX8 q_t_shelf q_t_rowSort q_t_rowSize q_t_rows q_t_moved q_t_shown q_t_tape v_t_tapeSize q_t_refused v_t_places q_t_ways v_t_people q_t_kind q_t_by q_t_home q_t_aim q_t_at0 v_t_hour v_t_chance v_t_seed w_t_kept w_t_tried u110 u111 u112 u113 u114 q_t_told v_t_statements q_t_steps q_t_spot q_t_then v_t_now v_t_gone q_t_sights q_t_darkAt q_t_can), (q_t_tape, .inl (cy 0, 250, .inl v_t_tape)), (q_t_ways, .inl (cy 0, 12, .inl v_t_ways)), (q_t_kind, .inl (cy 0, 8, .inl v_t_kind)), (q_t_by, .inl (cy 0, 8, .inl v_t_by)), (q_t_home, .inl (cy 0, 8, .inl v_t_home)), (q_t_aim, .inl (cy 0, 8, .inl v_t_aim)), (q_t_at0, .inl (cy 0, 8, .inl v_t_at0)), (q_t_told, .inl (cy 0, 4, .inl u115))] := hD
    refine lv_istore_n (lv' := [(1, .int r109), (0, .ref q_t)]) hx hb dX8_statement_19 rfl hl (by decide) rfl (fun ls hl => ?_)
    refine lv_aload_n hx hb dX8_statement_20 rfl (lv_at hl 1 rfl) ?_
    refine lv_iload_n hx hb dX8_statement_21 rfl (lv_at hl 0 rfl) ?_
    refine jww1 38 (fun (y117 : Int32) => [.int y117, .ref q_t]) (fun (y117 : Int32) H locs ls => va_P D vwCl [(q_t, oX8 q_t_shelf q_t_rowSort q_t_rowSize q_t_rows q_t_moved q_t_shown q_t_tape v_t_tapeSize q_t_refused v_t_places q_t_ways v_t_people q_t_kind q_t_by q_t_home q_t_aim q_t_at0 v_t_hour v_t_chance v_t_seed w_t_kept w_t_tried u110 u111 u112 u113 u114 q_t_told v_t_statements q_t_steps q_t_spot q_t_then v_t_now v_t_gone q_t_sights q_t_darkAt q_t_can), (q_t_tape, .inl (cy 0, 250, .inl v_t_tape)), (q_t_ways, .inl (cy 0, 12, .inl v_t_ways)), (q_t_kind, .inl (cy 0, 8, .inl v_t_kind)), (q_t_by, .inl (cy 0, 8, .inl v_t_by)), (q_t_home, .inl (cy 0, 8, .inl v_t_home)), (q_t_aim, .inl (cy 0, 8, .inl v_t_aim)), (q_t_at0, .inl (cy 0, 8, .inl v_t_at0)), (q_t_told, .inl (cy 0, 4, .inl u115))] H ∧ va_D A [(q_t, oX8 q_t_shelf q_t_rowSort q_t_rowSize q_t_rows q_t_moved q_t_shown q_t_tape v_t_tapeSize q_t_refused v_t_places q_t_ways v_t_people q_t_kind q_t_by q_t_home q_t_aim q_t_at0 v_t_hour v_t_chance v_t_seed w_t_kept w_t_tried u110 u111 u112 u113 u114 q_t_told v_t_statements q_t_steps q_t_spot q_t_then v_t_now v_t_gone q_t_sights q_t_darkAt q_t_can), (q_t_tape, .inl (cy 0, 250, .inl v_t_tape)), (q_t_ways, .inl (cy 0, 12, .inl v_t_ways)), (q_t_kind, .inl (cy 0, 8, .inl v_t_kind)), (q_t_by, .inl (cy 0, 8, .inl v_t_by)), (q_t_home, .inl (cy 0, 8, .inl v_t_home)), (q_t_aim, .inl (cy 0, 8, .inl v_t_aim)), (q_t_at0, .inl (cy 0, 8, .inl v_t_at0)), (q_t_told, .inl (cy 0, 4, .inl u115))] ∧ va_S A s.heap H locs ∧ lv_has ls 3 [(1, .int r109)]) hf (fun y117 H locs ls hI hf => ?_) (fun k118 J38 hf => ?_)
    · obtain ⟨hP, hD, hS, hl⟩ := hI
      refine va_put (D := D) (ci := 8) (v := .int y117) (ty := .int) (C := RX8) (T := TX8) (N := 37) hx hb hts hinX8 tyX8 tyX8_ok nmX8 hown hK.1 hP hD hS 0 rfl rfl 9 (by decide) hk37 (fun _ h9 => h9) rfl (by decide +kernel) rfl rfl (Nat.le_of_ble_eq_true rfl) dX8_statement_38 (fun H locs hP hD hS => ?_)
      have hP : va_P D vwCl [(q_t, oX8 q_t_shelf q_t_rowSort q_t_rowSize q_t_rows q_t_moved q_t_shown q_t_tape v_t_tapeSize q_t_refused y117 q_t_ways v_t_people q_t_kind q_t_by q_t_home q_t_aim q_t_at0 v_t_hour v_t_chance v_t_seed w_t_kept w_t_tried u110 u111 u112 u113 u114 q_t_told v_t_statements q_t_steps q_t_spot q_t_then v_t_now v_t_gone q_t_sights q_t_darkAt q_t_can), (q_t_tape, .inl (cy 0, 250, .inl v_t_tape)), (q_t_ways, .inl (cy 0, 12, .inl v_t_ways)), (q_t_kind, .inl (cy 0, 8, .inl v_t_kind)), (q_t_by, .inl (cy 0, 8, .inl v_t_by)), (q_t_home, .inl (cy 0, 8, .inl v_t_home)), (q_t_aim, .inl (cy 0, 8, .inl v_t_aim)), (q_t_at0, .inl (cy 0, 8, .inl v_t_at0)), (q_t_told, .inl (cy 0, 4, .inl u115))] H := hP
      have hD : va_D A [(q_t, oX8 q_t_shelf q_t_rowSort q_t_rowSize q_t_rows q_t_moved q_t_shown q_t_tape v_t_tapeSize q_t_refused y117 q_t_ways v_t_people q_t_kind q_t_by q_t_home q_t_aim q_t_at0 v_t_hour v_t_chance v_t_seed w_t_kept w_t_tried u110 u111 u112 u113 u114 q_t_told v_t_statements q_t_steps q_t_spot q_t_then v_t_now v_t_gone q_t_sights q_t_darkAt q_t_can), (q_t_tape, .inl (cy 0, 250, .inl v_t_tape)), (q_t_ways, .inl (cy 0, 12, .inl v_t_ways)), (q_t_kind, .inl (cy 0, 8, .inl v_t_kind)), (q_t_by, .inl (cy 0, 8, .inl v_t_by)), (q_t_home, .inl (cy 0, 8, .inl v_t_home)), (q_t_aim, .inl (cy 0, 8, .inl v_t_aim)), (q_t_at0, .inl (cy 0, 8, .inl v_t_at0)), (q_t_told, .inl (cy 0, 4, .inl u115))] := hD
      refine lv_iload_n hx hb dX8_statement_41 rfl (lv_at hl 0 rfl) ?_
      obtain ⟨hz, hf⟩ := ckE hf
      have hg0 := Option.some.inj hf
      obtain ⟨ee0, hg1⟩ := Prod.mk.inj hg0
      obtain ⟨ee1, hg2⟩ := Prod.mk.inj hg1
      obtain ⟨ee2, hg3⟩ := Prod.mk.inj hg2
      obtain ⟨ee3, hg4⟩ := Prod.mk.inj hg3
      obtain ⟨ee4, hg5⟩ := Prod.mk.inj hg4
      obtain ⟨ee5, hg6⟩ := Prod.mk.inj hg5
      obtain ⟨ee6, hg7⟩ := Prod.mk.inj hg6
      obtain ⟨ee7, hg8⟩ := Prod.mk.inj hg7
      obtain ⟨ee8, hg9⟩ := Prod.mk.inj hg8
      obtain ⟨ee9, hg10⟩ := Prod.mk.inj hg9
      obtain ⟨ee10, hg11⟩ := Prod.mk.inj hg10
      obtain ⟨ee11, hg12⟩ := Prod.mk.inj hg11
      obtain ⟨ee12, hg13⟩ := Prod.mk.inj hg12
      obtain ⟨ee13, hg14⟩ := Prod.mk.inj hg13
      obtain ⟨ee14, hg15⟩ := Prod.mk.inj hg14
      obtain ⟨ee15, hg16⟩ := Prod.mk.inj hg15
      clear hf hg0 hg1 hg2 hg3 hg4 hg5 hg6 hg7 hg8 hg9 hg10 hg11 hg12 hg13 hg14 hg15
      subst ee0
      subst ee1
      subst ee2
      subst ee3
      subst ee4
      subst ee5
      subst ee6
      subst ee7
      subst ee8
      subst ee9
      subst ee10
      subst ee11
      subst ee12
      subst ee13
      subst ee14
      subst ee15
      subst hg16
      exact W.zret hx hb hr (by rcases Decidable.not_not.mp hz with h | h <;> rw [h] <;> rfl) (fun t ht hW => ⟨⟨_, (), rfl, rfl, xend ht hP⟩, hS.F ht⟩) hS.2.2 dX8_statement_42
    · refine lv_if_eq (tgt := 34) hx hb dX8_statement_22 (by decide) (fun c119 => ?_) (fun c119 => ?_)
      · have hf := ifT hf c119
        clear c119
        refine lv_aload_n hx hb dX8_statement_34 rfl (lv_at hl 1 rfl) ?_
        refine va_get (D := D) (ci := 8) (v := .int v_t_places) (C := RX8) (T := TX8) (N := 37) hx hb hts hinX8 hown hK.1 hP 0 rfl rfl 9 (by decide) hk37 (fun _ h9 => h9) rfl dX8_statement_35 ?_
        exact J38 v_t_places _ _ ls ⟨hP, hD, hS, lv_sub hl [0] rfl⟩ hf
      · have hf := ifF hf c119
        clear c119
        refine lv_aload_n hx hb dX8_statement_25 rfl (lv_at hl 1 rfl) ?_
        refine va_get (D := D) (ci := 8) (v := .ref q_t_told) (C := RX8) (T := TX8) (N := 37) hx hb hts hinX8 hown hK.1 hP 0 rfl rfl 27 (by decide) hk65 (fun _ h9 => h9) rfl dX8_statement_26 ?_
        refine lv_iconst (v := 0) hx hb dX8_statement_29 (by decide) ?_
        refine va_iald hx hb hK.1 hP 8 0 rfl rfl (show vp_in (0 : Int32) 4 from by unfold vp_in; decide) dX8_statement_30 ?_
        refine lv_goto (tgt := 38) hx hb dX8_statement_31 (by decide) ?_
        exact J38 (u115 (0 : Int32).toNatClampNeg) _ _ ls ⟨hP, hD, hS, lv_sub hl [0] rfl⟩ hf
