def fX5_removePerson (v_t_people : Int32) (v_t_kind : Nat → Int32) (v_t_a : Nat → Int32) (v_t_home : Nat → Int32) (v_t_aim : Nat → Int32) (v_t_at : Nat → Int32) (p0 : Int32) : Option (Int32 × (Nat → Int32) × (Nat → Int32) × (Nat → Int32) × (Nat → Int32) × (Nat → Int32)) :=
  lo6 (fun g7 (x1 : Int32) (u2 : Nat → Int32) (u3 : Nat → Int32) (u4 : Nat → Int32) (u5 : Nat → Int32) (u6 : Nat → Int32) =>
    if v_t_people ≤ (x1 + (1 : Int32)) then
      some (v_t_people - (1 : Int32), u2, u3, u4, u5, u6)
    else
      if (x1 + (1 : Int32)) < 0 ∨ 8 ≤ (x1 + (1 : Int32)).toNatClampNeg then none else
      if x1 < 0 ∨ 8 ≤ x1.toNatClampNeg then none else
      if (x1 + (1 : Int32)) < 0 ∨ 8 ≤ (x1 + (1 : Int32)).toNatClampNeg then none else
      if x1 < 0 ∨ 8 ≤ x1.toNatClampNeg then none else
      if (x1 + (1 : Int32)) < 0 ∨ 8 ≤ (x1 + (1 : Int32)).toNatClampNeg then none else
      if x1 < 0 ∨ 8 ≤ x1.toNatClampNeg then none else
      if (x1 + (1 : Int32)) < 0 ∨ 8 ≤ (x1 + (1 : Int32)).toNatClampNeg then none else
      if x1 < 0 ∨ 8 ≤ x1.toNatClampNeg then none else
      if (x1 + (1 : Int32)) < 0 ∨ 8 ≤ (x1 + (1 : Int32)).toNatClampNeg then none else
      if x1 < 0 ∨ 8 ≤ x1.toNatClampNeg then none else
      vlet (x1 + (1 : Int32)) fun x18 =>
      g7 x18 (upd u2 x1.toNatClampNeg (u2 (x1 + (1 : Int32)).toNatClampNeg)) (upd u3 x1.toNatClampNeg (u3 (x1 + (1 : Int32)).toNatClampNeg)) (upd u4 x1.toNatClampNeg (u4 (x1 + (1 : Int32)).toNatClampNeg)) (upd u5 x1.toNatClampNeg (u5 (x1 + (1 : Int32)).toNatClampNeg)) (upd u6 x1.toNatClampNeg (u6 (x1 + (1 : Int32)).toNatClampNeg))) 400 p0 v_t_kind v_t_a v_t_home v_t_aim v_t_at
set_option maxHeartbeats 4000000 in
set_option maxRecDepth 100000 in
theorem mX5_removePerson (l : Launch) (D : va_G) (cy : Nat → ClassId) (q_t q_t_ways q_t_distances q_t_kind q_t_a q_t_home q_t_aim q_t_at : Nat) (v_t_places : Int32) (v_t_people : Int32) (v_t_hour : Int32) (v_t_chance : Int32) (v_t_seed : Int32) (v_t_kind : Nat → Int32) (v_t_a : Nat → Int32) (v_t_home : Nat → Int32) (v_t_aim : Nat → Int32) (v_t_at : Nat → Int32) (sz : Nat) (p0 : Int32) {n_t_people : Int32} {n_t_kind : Nat → Int32} {n_t_a : Nat → Int32} {n_t_home : Nat → Int32} {n_t_aim : Nat → Int32} {n_t_at : Nat → Int32} (hf : fX5_removePerson v_t_people v_t_kind v_t_a v_t_home v_t_aim v_t_at p0 = some (n_t_people, n_t_kind, n_t_a, n_t_home, n_t_aim, n_t_at)) : Met l yX5_removePerson wsX5_removePerson ({ frames := 0, cells := 0, slots := 0, locals := 0 }) (va_Pc [.ref q_t, .int p0] (fun U => U.heap.size = sz ∧ va_P D vwCl [(q_t, oX5 v_t_places q_t_ways q_t_distances v_t_people q_t_kind q_t_a q_t_home q_t_aim q_t_at v_t_hour v_t_chance v_t_seed), (q_t_kind, .inl (cy 0, 8, .inl v_t_kind)), (q_t_a, .inl (cy 0, 8, .inl v_t_a)), (q_t_home, .inl (cy 0, 8, .inl v_t_home)), (q_t_aim, .inl (cy 0, 8, .inl v_t_aim)), (q_t_at, .inl (cy 0, 8, .inl v_t_at))] U.heap ∧ xK D cy U ∧ va_D (fun _ => True) [(q_t, oX5 v_t_places q_t_ways q_t_distances v_t_people q_t_kind q_t_a q_t_home q_t_aim q_t_at v_t_hour v_t_chance v_t_seed), (q_t_kind, .inl (cy 0, 8, .inl v_t_kind)), (q_t_a, .inl (cy 0, 8, .inl v_t_a)), (q_t_home, .inl (cy 0, 8, .inl v_t_home)), (q_t_aim, .inl (cy 0, 8, .inl v_t_aim)), (q_t_at, .inl (cy 0, 8, .inl v_t_at))])) (va_Qv (fun (_ : Unit) => True) (fun _ t => va_P D vwCl [(q_t, oX5 v_t_places q_t_ways q_t_distances n_t_people q_t_kind q_t_a q_t_home q_t_aim q_t_at v_t_hour v_t_chance v_t_seed), (q_t_kind, .inl (cy 0, 8, .inl n_t_kind)), (q_t_a, .inl (cy 0, 8, .inl n_t_a)), (q_t_home, .inl (cy 0, 8, .inl n_t_home)), (q_t_aim, .inl (cy 0, 8, .inl n_t_aim)), (q_t_at, .inl (cy 0, 8, .inl n_t_at))] t.heap) (va_A [(q_t, oX5 v_t_places q_t_ways q_t_distances v_t_people q_t_kind q_t_a q_t_home q_t_aim q_t_at v_t_hour v_t_chance v_t_seed), (q_t_kind, .inl (cy 0, 8, .inl v_t_kind)), (q_t_a, .inl (cy 0, 8, .inl v_t_a)), (q_t_home, .inl (cy 0, 8, .inl v_t_home)), (q_t_aim, .inl (cy 0, 8, .inl v_t_aim)), (q_t_at, .inl (cy 0, 8, .inl v_t_at))] sz)) 0 0 (va_A [(q_t, oX5 v_t_places q_t_ways q_t_distances v_t_people q_t_kind q_t_a q_t_home q_t_aim q_t_at v_t_hour v_t_chance v_t_seed), (q_t_kind, .inl (cy 0, 8, .inl v_t_kind)), (q_t_a, .inl (cy 0, 8, .inl v_t_a)), (q_t_home, .inl (cy 0, 8, .inl v_t_home)), (q_t_aim, .inl (cy 0, 8, .inl v_t_aim)), (q_t_at, .inl (cy 0, 8, .inl v_t_at))] sz) := by
  refine Met.ofW (cc := cX5_removePerson) (maxL := 3) (ret := none) (by decide) rfl ?_
  intro p e s m args below meth c s₁ B hml hv
  obtain ⟨rfl, hsz, hP, hK, hD0⟩ := hv
  have hx := B.exec
  have hb := B.bytes
  have hr := B.returns
  have hts := atoms_spec (ws := wsX5_removePerson) B.pre
  have hown : s.vm.findClass RX5 = some m.cls := findClass_of_methodNamed B.named
  have hlocks := B.notSynchronized
  subst hsz
  have hD := hD0.self (sz := s.heap.size)
  generalize hAe : va_A [(q_t, oX5 v_t_places q_t_ways q_t_distances v_t_people q_t_kind q_t_a q_t_home q_t_aim q_t_at v_t_hour v_t_chance v_t_seed), (q_t_kind, .inl (cy 0, 8, .inl v_t_kind)), (q_t_a, .inl (cy 0, 8, .inl v_t_a)), (q_t_home, .inl (cy 0, 8, .inl v_t_home)), (q_t_aim, .inl (cy 0, 8, .inl v_t_aim)), (q_t_at, .inl (cy 0, 8, .inl v_t_at))] s.heap.size = A at hD ⊢
  have hA : ∀ q : Nat, s.heap.size ≤ q → A q := fun q h => by rw [← hAe]; exact Or.inr h
  have hS : va_S A s.heap s.heap [] := va_S.rf
  have hP : va_P D vwCl [(q_t, oX5 v_t_places q_t_ways q_t_distances v_t_people q_t_kind q_t_a q_t_home q_t_aim q_t_at v_t_hour v_t_chance v_t_seed), (q_t_kind, .inl (cy 0, 8, .inl v_t_kind)), (q_t_a, .inl (cy 0, 8, .inl v_t_a)), (q_t_home, .inl (cy 0, 8, .inl v_t_home)), (q_t_aim, .inl (cy 0, 8, .inl v_t_aim)), (q_t_at, .inl (cy 0, 8, .inl v_t_at))] s.heap := hP
  have hinX5 : ∀ w ∈ u_ws RX5 TX5 12, w ∈ wsX5_removePerson := by decide +kernel
  have hk52 := hts (.fieldLink RX5 52 "ShowsWhereNobodyIs$Town" "people" "I") (by decide +kernel)
  have hk22 := hts (.fieldLink RX5 22 "ShowsWhereNobodyIs$Town" "kind" "[I") (by decide +kernel)
  have hk25 := hts (.fieldLink RX5 25 "ShowsWhereNobodyIs$Town" "a" "[I") (by decide +kernel)
  have hk28 := hts (.fieldLink RX5 28 "ShowsWhereNobodyIs$Town" "home" "[I") (by decide +kernel)
  have hk31 := hts (.fieldLink RX5 31 "ShowsWhereNobodyIs$Town" "aim" "[I") (by decide +kernel)
  have hk34 := hts (.fieldLink RX5 34 "ShowsWhereNobodyIs$Town" "at" "[I") (by decide +kernel)
  have hl := lv_entry ([.ref q_t, .int p0]) (n := 3) (Nat.le_of_ble_eq_true rfl)
  rw [lg_entry_eq]
  generalize (lg_sl ([.ref q_t, .int p0]) ++ List.replicate (3 - (lg_sl ([.ref q_t, .int p0])).length) Slot.unset).toArray = ls at hl ⊢
  have hl : lv_has ls 3 [(0, .ref q_t), (1, .int p0)] := hl
  unfold fX5_removePerson at hf
  refine lv_iload_n hx hb dX5_removePerson_0 rfl (lv_at hl 1 rfl) ?_
  refine lv_istore_n (lv' := [(2, .int p0), (0, .ref q_t), (1, .int p0)]) hx hb dX5_removePerson_1 rfl hl (by decide) rfl (fun ls hl => ?_)
  refine wlw6 2 (fun _ _ _ _ _ _ => []) (fun (x1 : Int32) (u2 : Nat → Int32) (u3 : Nat → Int32) (u4 : Nat → Int32) (u5 : Nat → Int32) (u6 : Nat → Int32) H locs ls => va_P D vwCl [(q_t, oX5 v_t_places q_t_ways q_t_distances v_t_people q_t_kind q_t_a q_t_home q_t_aim q_t_at v_t_hour v_t_chance v_t_seed), (q_t_kind, .inl (cy 0, 8, .inl u2)), (q_t_a, .inl (cy 0, 8, .inl u3)), (q_t_home, .inl (cy 0, 8, .inl u4)), (q_t_aim, .inl (cy 0, 8, .inl u5)), (q_t_at, .inl (cy 0, 8, .inl u6))] H ∧ va_D A [(q_t, oX5 v_t_places q_t_ways q_t_distances v_t_people q_t_kind q_t_a q_t_home q_t_aim q_t_at v_t_hour v_t_chance v_t_seed), (q_t_kind, .inl (cy 0, 8, .inl u2)), (q_t_a, .inl (cy 0, 8, .inl u3)), (q_t_home, .inl (cy 0, 8, .inl u4)), (q_t_aim, .inl (cy 0, 8, .inl u5)), (q_t_at, .inl (cy 0, 8, .inl u6))] ∧ va_S A s.heap H locs ∧ lv_has ls 3 [(2, .int x1), (0, .ref q_t)]) (fun g7 L2 x1 u2 u3 u4 u5 u6 H locs ls hI hf => ?_) 400 p0 v_t_kind v_t_a v_t_home v_t_aim v_t_at _ _ ls ⟨hP, hD, hS, lv_sub hl [0, 1] rfl⟩ hf
  obtain ⟨hP, hD, hS, hl⟩ := hI
  refine lv_iload_n hx hb dX5_removePerson_2 rfl (lv_at hl 0 rfl) ?_
  refine lv_iconst (v := 1) hx hb dX5_removePerson_3 (by decide) ?_
  refine lv_iadd hx hb dX5_removePerson_4 ?_
  refine lv_aload_n hx hb dX5_removePerson_5 rfl (lv_at hl 1 rfl) ?_
  refine va_get (D := D) (ci := 5) (v := .int v_t_people) (C := RX5) (T := TX5) (N := 12) hx hb hts hinX5 hown hK.1 hP 0 rfl rfl 3 (by decide) hk52 (fun _ h9 => h9) rfl dX5_removePerson_6 ?_
  refine lv_icmp_ge (tgt := 88) hx hb dX5_removePerson_9 (by decide) (fun c19 => ?_) (fun c19 => ?_)
  · have hf := ifT hf c19
    clear c19
    refine lv_aload_n hx hb dX5_removePerson_88 rfl (lv_at hl 1 rfl) ?_
    refine lv_dup hx hb dX5_removePerson_89 rfl ?_
    refine va_get (D := D) (ci := 5) (v := .int v_t_people) (C := RX5) (T := TX5) (N := 12) hx hb hts hinX5 hown hK.1 hP 0 rfl rfl 3 (by decide) hk52 (fun _ h9 => h9) rfl dX5_removePerson_90 ?_
    refine lv_iconst (v := 1) hx hb dX5_removePerson_93 (by decide) ?_
    refine lv_isub hx hb dX5_removePerson_94 ?_
    refine va_put (D := D) (ci := 5) (v := .int (v_t_people - (1 : Int32))) (ty := .int) (C := RX5) (T := TX5) (N := 12) hx hb hts hinX5 tyX5 tyX5_ok nmX5 hown hK.1 hP hD hS 0 rfl rfl 3 (by decide) hk52 (fun _ h9 => h9) rfl (by decide +kernel) rfl rfl (Nat.le_of_ble_eq_true rfl) dX5_removePerson_95 (fun H locs hP hD hS => ?_)
    have hP : va_P D vwCl [(q_t, oX5 v_t_places q_t_ways q_t_distances (v_t_people - (1 : Int32)) q_t_kind q_t_a q_t_home q_t_aim q_t_at v_t_hour v_t_chance v_t_seed), (q_t_kind, .inl (cy 0, 8, .inl u2)), (q_t_a, .inl (cy 0, 8, .inl u3)), (q_t_home, .inl (cy 0, 8, .inl u4)), (q_t_aim, .inl (cy 0, 8, .inl u5)), (q_t_at, .inl (cy 0, 8, .inl u6))] H := hP
    have hD : va_D A [(q_t, oX5 v_t_places q_t_ways q_t_distances (v_t_people - (1 : Int32)) q_t_kind q_t_a q_t_home q_t_aim q_t_at v_t_hour v_t_chance v_t_seed), (q_t_kind, .inl (cy 0, 8, .inl u2)), (q_t_a, .inl (cy 0, 8, .inl u3)), (q_t_home, .inl (cy 0, 8, .inl u4)), (q_t_aim, .inl (cy 0, 8, .inl u5)), (q_t_at, .inl (cy 0, 8, .inl u6))] := hD
    cases hf
    exact W.vret hx hb hr (fun t ht hW => ⟨⟨(), rfl, trivial, xend ht hP⟩, hS.F ht⟩) hS.2.2 dX5_removePerson_98
  · have hf := ifF hf c19
    clear c19
    refine lv_aload_n hx hb dX5_removePerson_12 rfl (lv_at hl 1 rfl) ?_
    refine va_get (D := D) (ci := 5) (v := .ref q_t_kind) (C := RX5) (T := TX5) (N := 12) hx hb hts hinX5 hown hK.1 hP 0 rfl rfl 4 (by decide) hk22 (fun _ h9 => h9) rfl dX5_removePerson_13 ?_
    refine lv_iload_n hx hb dX5_removePerson_16 rfl (lv_at hl 0 rfl) ?_
    refine lv_aload_n hx hb dX5_removePerson_17 rfl (lv_at hl 1 rfl) ?_
    refine va_get (D := D) (ci := 5) (v := .ref q_t_kind) (C := RX5) (T := TX5) (N := 12) hx hb hts hinX5 hown hK.1 hP 0 rfl rfl 4 (by decide) hk22 (fun _ h9 => h9) rfl dX5_removePerson_18 ?_
    refine lv_iload_n hx hb dX5_removePerson_21 rfl (lv_at hl 0 rfl) ?_
    refine lv_iconst (v := 1) hx hb dX5_removePerson_22 (by decide) ?_
    refine lv_iadd hx hb dX5_removePerson_23 ?_
    obtain ⟨hi8, hf⟩ := ckE hf
    refine va_iald hx hb hK.1 hP 1 0 rfl rfl hi8 dX5_removePerson_24 ?_
    obtain ⟨hi9, hf⟩ := ckE hf
    refine va_iast hx hb hK.1 hP hD hS 1 0 rfl rfl hi9 dX5_removePerson_25 (fun H locs hP hD hS => ?_)
    have hP : va_P D vwCl [(q_t, oX5 v_t_places q_t_ways q_t_distances v_t_people q_t_kind q_t_a q_t_home q_t_aim q_t_at v_t_hour v_t_chance v_t_seed), (q_t_kind, .inl (cy 0, 8, .inl (upd u2 x1.toNatClampNeg (u2 (x1 + (1 : Int32)).toNatClampNeg)))), (q_t_a, .inl (cy 0, 8, .inl u3)), (q_t_home, .inl (cy 0, 8, .inl u4)), (q_t_aim, .inl (cy 0, 8, .inl u5)), (q_t_at, .inl (cy 0, 8, .inl u6))] H := hP
    have hD : va_D A [(q_t, oX5 v_t_places q_t_ways q_t_distances v_t_people q_t_kind q_t_a q_t_home q_t_aim q_t_at v_t_hour v_t_chance v_t_seed), (q_t_kind, .inl (cy 0, 8, .inl (upd u2 x1.toNatClampNeg (u2 (x1 + (1 : Int32)).toNatClampNeg)))), (q_t_a, .inl (cy 0, 8, .inl u3)), (q_t_home, .inl (cy 0, 8, .inl u4)), (q_t_aim, .inl (cy 0, 8, .inl u5)), (q_t_at, .inl (cy 0, 8, .inl u6))] := hD
    refine lv_aload_n hx hb dX5_removePerson_26 rfl (lv_at hl 1 rfl) ?_
    refine va_get (D := D) (ci := 5) (v := .ref q_t_a) (C := RX5) (T := TX5) (N := 12) hx hb hts hinX5 hown hK.1 hP 0 rfl rfl 5 (by decide) hk25 (fun _ h9 => h9) rfl dX5_removePerson_27 ?_
    refine lv_iload_n hx hb dX5_removePerson_30 rfl (lv_at hl 0 rfl) ?_
    refine lv_aload_n hx hb dX5_removePerson_31 rfl (lv_at hl 1 rfl) ?_
    refine va_get (D := D) (ci := 5) (v := .ref q_t_a) (C := RX5) (T := TX5) (N := 12) hx hb hts hinX5 hown hK.1 hP 0 rfl rfl 5 (by decide) hk25 (fun _ h9 => h9) rfl dX5_removePerson_32 ?_
    refine lv_iload_n hx hb dX5_removePerson_35 rfl (lv_at hl 0 rfl) ?_
    refine lv_iconst (v := 1) hx hb dX5_removePerson_36 (by decide) ?_
    refine lv_iadd hx hb dX5_removePerson_37 ?_
    obtain ⟨hi10, hf⟩ := ckE hf
    refine va_iald hx hb hK.1 hP 2 0 rfl rfl hi10 dX5_removePerson_38 ?_
    obtain ⟨hi11, hf⟩ := ckE hf
    refine va_iast hx hb hK.1 hP hD hS 2 0 rfl rfl hi11 dX5_removePerson_39 (fun H locs hP hD hS => ?_)
    have hP : va_P D vwCl [(q_t, oX5 v_t_places q_t_ways q_t_distances v_t_people q_t_kind q_t_a q_t_home q_t_aim q_t_at v_t_hour v_t_chance v_t_seed), (q_t_kind, .inl (cy 0, 8, .inl (upd u2 x1.toNatClampNeg (u2 (x1 + (1 : Int32)).toNatClampNeg)))), (q_t_a, .inl (cy 0, 8, .inl (upd u3 x1.toNatClampNeg (u3 (x1 + (1 : Int32)).toNatClampNeg)))), (q_t_home, .inl (cy 0, 8, .inl u4)), (q_t_aim, .inl (cy 0, 8, .inl u5)), (q_t_at, .inl (cy 0, 8, .inl u6))] H := hP
    have hD : va_D A [(q_t, oX5 v_t_places q_t_ways q_t_distances v_t_people q_t_kind q_t_a q_t_home q_t_aim q_t_at v_t_hour v_t_chance v_t_seed), (q_t_kind, .inl (cy 0, 8, .inl (upd u2 x1.toNatClampNeg (u2 (x1 + (1 : Int32)).toNatClampNeg)))), (q_t_a, .inl (cy 0, 8, .inl (upd u3 x1.toNatClampNeg (u3 (x1 + (1 : Int32)).toNatClampNeg)))), (q_t_home, .inl (cy 0, 8, .inl u4)), (q_t_aim, .inl (cy 0, 8, .inl u5)), (q_t_at, .inl (cy 0, 8, .inl u6))] := hD
    refine lv_aload_n hx hb dX5_removePerson_40 rfl (lv_at hl 1 rfl) ?_
    refine va_get (D := D) (ci := 5) (v := .ref q_t_home) (C := RX5) (T := TX5) (N := 12) hx hb hts hinX5 hown hK.1 hP 0 rfl rfl 6 (by decide) hk28 (fun _ h9 => h9) rfl dX5_removePerson_41 ?_
    refine lv_iload_n hx hb dX5_removePerson_44 rfl (lv_at hl 0 rfl) ?_
    refine lv_aload_n hx hb dX5_removePerson_45 rfl (lv_at hl 1 rfl) ?_
    refine va_get (D := D) (ci := 5) (v := .ref q_t_home) (C := RX5) (T := TX5) (N := 12) hx hb hts hinX5 hown hK.1 hP 0 rfl rfl 6 (by decide) hk28 (fun _ h9 => h9) rfl dX5_removePerson_46 ?_
    refine lv_iload_n hx hb dX5_removePerson_49 rfl (lv_at hl 0 rfl) ?_
    refine lv_iconst (v := 1) hx hb dX5_removePerson_50 (by decide) ?_
    refine lv_iadd hx hb dX5_removePerson_51 ?_
    obtain ⟨hi12, hf⟩ := ckE hf
    refine va_iald hx hb hK.1 hP 3 0 rfl rfl hi12 dX5_removePerson_52 ?_
    obtain ⟨hi13, hf⟩ := ckE hf
    refine va_iast hx hb hK.1 hP hD hS 3 0 rfl rfl hi13 dX5_removePerson_53 (fun H locs hP hD hS => ?_)
    have hP : va_P D vwCl [(q_t, oX5 v_t_places q_t_ways q_t_distances v_t_people q_t_kind q_t_a q_t_home q_t_aim q_t_at v_t_hour v_t_chance v_t_seed), (q_t_kind, .inl (cy 0, 8, .inl (upd u2 x1.toNatClampNeg (u2 (x1 + (1 : Int32)).toNatClampNeg)))), (q_t_a, .inl (cy 0, 8, .inl (upd u3 x1.toNatClampNeg (u3 (x1 + (1 : Int32)).toNatClampNeg)))), (q_t_home, .inl (cy 0, 8, .inl (upd u4 x1.toNatClampNeg (u4 (x1 + (1 : Int32)).toNatClampNeg)))), (q_t_aim, .inl (cy 0, 8, .inl u5)), (q_t_at, .inl (cy 0, 8, .inl u6))] H := hP
    have hD : va_D A [(q_t, oX5 v_t_places q_t_ways q_t_distances v_t_people q_t_kind q_t_a q_t_home q_t_aim q_t_at v_t_hour v_t_chance v_t_seed), (q_t_kind, .inl (cy 0, 8, .inl (upd u2 x1.toNatClampNeg (u2 (x1 + (1 : Int32)).toNatClampNeg)))), (q_t_a, .inl (cy 0, 8, .inl (upd u3 x1.toNatClampNeg (u3 (x1 + (1 : Int32)).toNatClampNeg)))), (q_t_home, .inl (cy 0, 8, .inl (upd u4 x1.toNatClampNeg (u4 (x1 + (1 : Int32)).toNatClampNeg)))), (q_t_aim, .inl (cy 0, 8, .inl u5)), (q_t_at, .inl (cy 0, 8, .inl u6))] := hD
    refine lv_aload_n hx hb dX5_removePerson_54 rfl (lv_at hl 1 rfl) ?_
    refine va_get (D := D) (ci := 5) (v := .ref q_t_aim) (C := RX5) (T := TX5) (N := 12) hx hb hts hinX5 hown hK.1 hP 0 rfl rfl 7 (by decide) hk31 (fun _ h9 => h9) rfl dX5_removePerson_55 ?_
    refine lv_iload_n hx hb dX5_removePerson_58 rfl (lv_at hl 0 rfl) ?_
    refine lv_aload_n hx hb dX5_removePerson_59 rfl (lv_at hl 1 rfl) ?_
    refine va_get (D := D) (ci := 5) (v := .ref q_t_aim) (C := RX5) (T := TX5) (N := 12) hx hb hts hinX5 hown hK.1 hP 0 rfl rfl 7 (by decide) hk31 (fun _ h9 => h9) rfl dX5_removePerson_60 ?_
    refine lv_iload_n hx hb dX5_removePerson_63 rfl (lv_at hl 0 rfl) ?_
    refine lv_iconst (v := 1) hx hb dX5_removePerson_64 (by decide) ?_
    refine lv_iadd hx hb dX5_removePerson_65 ?_
    obtain ⟨hi14, hf⟩ := ckE hf
    refine va_iald hx hb hK.1 hP 4 0 rfl rfl hi14 dX5_removePerson_66 ?_
    obtain ⟨hi15, hf⟩ := ckE hf
    refine va_iast hx hb hK.1 hP hD hS 4 0 rfl rfl hi15 dX5_removePerson_67 (fun H locs hP hD hS => ?_)
    have hP : va_P D vwCl [(q_t, oX5 v_t_places q_t_ways q_t_distances v_t_people q_t_kind q_t_a q_t_home q_t_aim q_t_at v_t_hour v_t_chance v_t_seed), (q_t_kind, .inl (cy 0, 8, .inl (upd u2 x1.toNatClampNeg (u2 (x1 + (1 : Int32)).toNatClampNeg)))), (q_t_a, .inl (cy 0, 8, .inl (upd u3 x1.toNatClampNeg (u3 (x1 + (1 : Int32)).toNatClampNeg)))), (q_t_home, .inl (cy 0, 8, .inl (upd u4 x1.toNatClampNeg (u4 (x1 + (1 : Int32)).toNatClampNeg)))), (q_t_aim, .inl (cy 0, 8, .inl (upd u5 x1.toNatClampNeg (u5 (x1 + (1 : Int32)).toNatClampNeg)))), (q_t_at, .inl (cy 0, 8, .inl u6))] H := hP
    have hD : va_D A [(q_t, oX5 v_t_places q_t_ways q_t_distances v_t_people q_t_kind q_t_a q_t_home q_t_aim q_t_at v_t_hour v_t_chance v_t_seed), (q_t_kind, .inl (cy 0, 8, .inl (upd u2 x1.toNatClampNeg (u2 (x1 + (1 : Int32)).toNatClampNeg)))), (q_t_a, .inl (cy 0, 8, .inl (upd u3 x1.toNatClampNeg (u3 (x1 + (1 : Int32)).toNatClampNeg)))), (q_t_home, .inl (cy 0, 8, .inl (upd u4 x1.toNatClampNeg (u4 (x1 + (1 : Int32)).toNatClampNeg)))), (q_t_aim, .inl (cy 0, 8, .inl (upd u5 x1.toNatClampNeg (u5 (x1 + (1 : Int32)).toNatClampNeg)))), (q_t_at, .inl (cy 0, 8, .inl u6))] := hD
    refine lv_aload_n hx hb dX5_removePerson_68 rfl (lv_at hl 1 rfl) ?_
    refine va_get (D := D) (ci := 5) (v := .ref q_t_at) (C := RX5) (T := TX5) (N := 12) hx hb hts hinX5 hown hK.1 hP 0 rfl rfl 8 (by decide) hk34 (fun _ h9 => h9) rfl dX5_removePerson_69 ?_
    refine lv_iload_n hx hb dX5_removePerson_72 rfl (lv_at hl 0 rfl) ?_
    refine lv_aload_n hx hb dX5_removePerson_73 rfl (lv_at hl 1 rfl) ?_
    refine va_get (D := D) (ci := 5) (v := .ref q_t_at) (C := RX5) (T := TX5) (N := 12) hx hb hts hinX5 hown hK.1 hP 0 rfl rfl 8 (by decide) hk34 (fun _ h9 => h9) rfl dX5_removePerson_74 ?_
    refine lv_iload_n hx hb dX5_removePerson_77 rfl (lv_at hl 0 rfl) ?_
    refine lv_iconst (v := 1) hx hb dX5_removePerson_78 (by decide) ?_
    refine lv_iadd hx hb dX5_removePerson_79 ?_
    obtain ⟨hi16, hf⟩ := ckE hf
    refine va_iald hx hb hK.1 hP 5 0 rfl rfl hi16 dX5_removePerson_80 ?_
    obtain ⟨hi17, hf⟩ := ckE hf
    refine va_iast hx hb hK.1 hP hD hS 5 0 rfl rfl hi17 dX5_removePerson_81 (fun H locs hP hD hS => ?_)
    have hP : va_P D vwCl [(q_t, oX5 v_t_places q_t_ways q_t_distances v_t_people q_t_kind q_t_a q_t_home q_t_aim q_t_at v_t_hour v_t_chance v_t_seed), (q_t_kind, .inl (cy 0, 8, .inl (upd u2 x1.toNatClampNeg (u2 (x1 + (1 : Int32)).toNatClampNeg)))), (q_t_a, .inl (cy 0, 8, .inl (upd u3 x1.toNatClampNeg (u3 (x1 + (1 : Int32)).toNatClampNeg)))), (q_t_home, .inl (cy 0, 8, .inl (upd u4 x1.toNatClampNeg (u4 (x1 + (1 : Int32)).toNatClampNeg)))), (q_t_aim, .inl (cy 0, 8, .inl (upd u5 x1.toNatClampNeg (u5 (x1 + (1 : Int32)).toNatClampNeg)))), (q_t_at, .inl (cy 0, 8, .inl (upd u6 x1.toNatClampNeg (u6 (x1 + (1 : Int32)).toNatClampNeg))))] H := hP
    have hD : va_D A [(q_t, oX5 v_t_places q_t_ways q_t_distances v_t_people q_t_kind q_t_a q_t_home q_t_aim q_t_at v_t_hour v_t_chance v_t_seed), (q_t_kind, .inl (cy 0, 8, .inl (upd u2 x1.toNatClampNeg (u2 (x1 + (1 : Int32)).toNatClampNeg)))), (q_t_a, .inl (cy 0, 8, .inl (upd u3 x1.toNatClampNeg (u3 (x1 + (1 : Int32)).toNatClampNeg)))), (q_t_home, .inl (cy 0, 8, .inl (upd u4 x1.toNatClampNeg (u4 (x1 + (1 : Int32)).toNatClampNeg)))), (q_t_aim, .inl (cy 0, 8, .inl (upd u5 x1.toNatClampNeg (u5 (x1 + (1 : Int32)).toNatClampNeg)))), (q_t_at, .inl (cy 0, 8, .inl (upd u6 x1.toNatClampNeg (u6 (x1 + (1 : Int32)).toNatClampNeg))))] := hD
    obtain ⟨x18, ex18⟩ : ∃ y : Int32, y = x1 + (1 : Int32) := ⟨_, rfl⟩
    have hf := vlE hf ex18
    refine lv_iinc (v := x18) (lv' := [(2, .int x18), (0, .ref q_t)]) hx hb dX5_removePerson_82 hl (k := 0) rfl (by rw [ex18]; rfl) (by decide) rfl (fun ls hl => ?_)
    clear ex18
    refine lv_goto (tgt := 2) hx hb dX5_removePerson_85 (by decide) ?_
    exact L2 x18 (upd u2 x1.toNatClampNeg (u2 (x1 + (1 : Int32)).toNatClampNeg)) (upd u3 x1.toNatClampNeg (u3 (x1 + (1 : Int32)).toNatClampNeg)) (upd u4 x1.toNatClampNeg (u4 (x1 + (1 : Int32)).toNatClampNeg)) (upd u5 x1.toNatClampNeg (u5 (x1 + (1 : Int32)).toNatClampNeg)) (upd u6 x1.toNatClampNeg (u6 (x1 + (1 : Int32)).toNatClampNeg)) _ _ ls ⟨hP, hD, hS, lv_sub hl [0, 1] rfl⟩ hf
def fX5_peopleIn (v_t_people : Int32) (v_t_at : Nat → Int32) (p0 : Int32) : Option (Int32) :=
  lo2 (fun g3 (x1 : Int32) (x2 : Int32) =>
    if v_t_people ≤ x2 then
      some x1
    else
      if x2 < 0 ∨ 8 ≤ x2.toNatClampNeg then none else
      jo1 (fun (x5 : Int32) =>
        vlet (x2 + (1 : Int32)) fun x7 =>
        g3 x5 x7) fun k6 =>
      if (v_t_at x2.toNatClampNeg) = p0 then
        vlet (x1 ||| ((1 : Int32) <<< (x2 &&& 31))) fun x8 =>
        k6 x8
      else
        k6 x1) 400 (0 : Int32) (0 : Int32)
set_option maxHeartbeats 4000000 in
set_option maxRecDepth 100000 in
theorem mX5_peopleIn (l : Launch) (D : va_G) (cy : Nat → ClassId) (q_t q_t_ways q_t_distances q_t_kind q_t_a q_t_home q_t_aim q_t_at : Nat) (v_t_places : Int32) (v_t_people : Int32) (v_t_hour : Int32) (v_t_chance : Int32) (v_t_seed : Int32) (v_t_at : Nat → Int32) (p0 : Int32) {r_ : Int32} (hf : fX5_peopleIn v_t_people v_t_at p0 = some r_) : Met l yX5_peopleIn wsX5_peopleIn ({ frames := 0, cells := 0, slots := 0, locals := 0 }) (va_Pc [.ref q_t, .int p0] (fun U => va_P D vwCl [(q_t, oX5 v_t_places q_t_ways q_t_distances v_t_people q_t_kind q_t_a q_t_home q_t_aim q_t_at v_t_hour v_t_chance v_t_seed), (q_t_at, .inl (cy 0, 8, .inl v_t_at))] U.heap ∧ xK D cy U)) (vp_Si (fun x => x = r_)) 0 0 (fun _ => False) := by
  refine Met.ofW (cc := cX5_peopleIn) (maxL := 4) (ret := (some .int)) (by decide) rfl ?_
  intro p e s m args below meth c s₁ B hml hv
  obtain ⟨rfl, hP, hK⟩ := hv
  have hx := B.exec
  have hb := B.bytes
  have hr := B.returns
  have hts := atoms_spec (ws := wsX5_peopleIn) B.pre
  have hown : s.vm.findClass RX5 = some m.cls := findClass_of_methodNamed B.named
  have hlocks := B.notSynchronized
  have hP : va_P D vwCl [(q_t, oX5 v_t_places q_t_ways q_t_distances v_t_people q_t_kind q_t_a q_t_home q_t_aim q_t_at v_t_hour v_t_chance v_t_seed), (q_t_at, .inl (cy 0, 8, .inl v_t_at))] s.heap := hP
  have hinX5 : ∀ w ∈ u_ws RX5 TX5 12, w ∈ wsX5_peopleIn := by decide +kernel
  have hk52 := hts (.fieldLink RX5 52 "ShowsWhereNobodyIs$Town" "people" "I") (by decide +kernel)
  have hk34 := hts (.fieldLink RX5 34 "ShowsWhereNobodyIs$Town" "at" "[I") (by decide +kernel)
  have hl := lv_entry ([.ref q_t, .int p0]) (n := 4) (Nat.le_of_ble_eq_true rfl)
  rw [lg_entry_eq]
  generalize (lg_sl ([.ref q_t, .int p0]) ++ List.replicate (4 - (lg_sl ([.ref q_t, .int p0])).length) Slot.unset).toArray = ls at hl ⊢
  have hl : lv_has ls 4 [(0, .ref q_t), (1, .int p0)] := hl
  unfold fX5_peopleIn at hf
  refine lv_iconst (v := 0) hx hb dX5_peopleIn_0 (by decide) ?_
  refine lv_istore_n (lv' := [(2, .int (0 : Int32)), (0, .ref q_t), (1, .int p0)]) hx hb dX5_peopleIn_1 rfl hl (by decide) rfl (fun ls hl => ?_)
  refine lv_iconst (v := 0) hx hb dX5_peopleIn_2 (by decide) ?_
  refine lv_istore_n (lv' := [(3, .int (0 : Int32)), (2, .int (0 : Int32)), (0, .ref q_t), (1, .int p0)]) hx hb dX5_peopleIn_3 rfl hl (by decide) rfl (fun ls hl => ?_)
  refine wlr2 4 (fun _ _ => []) (fun (x1 : Int32) (x2 : Int32) ls => lv_has ls 4 [(2, .int x1), (3, .int x2), (0, .ref q_t), (1, .int p0)]) (fun g3 L4 x1 x2 ls hl hf => ?_) 400 (0 : Int32) (0 : Int32) ls (lv_sub hl [1, 0, 2, 3] rfl) hf
  refine lv_iload_n hx hb dX5_peopleIn_4 rfl (lv_at hl 1 rfl) ?_
  refine lv_aload_n hx hb dX5_peopleIn_5 rfl (lv_at hl 2 rfl) ?_
  refine va_get (D := D) (ci := 5) (v := .int v_t_people) (C := RX5) (T := TX5) (N := 12) hx hb hts hinX5 hown hK.1 hP 0 rfl rfl 3 (by decide) hk52 (fun _ h9 => h9) rfl dX5_peopleIn_6 ?_
  refine lv_icmp_ge (tgt := 34) hx hb dX5_peopleIn_9 (by decide) (fun c10 => ?_) (fun c10 => ?_)
  · have hf := ifT hf c10
    clear c10
    refine lv_iload_n hx hb dX5_peopleIn_34 rfl (lv_at hl 0 rfl) ?_
    exact W.iret (v := x1) hx hb hr (fun t ht hW => ⟨x1, rfl, Option.some.inj hf, ht⟩) (fun q h => nomatch h) dX5_peopleIn_35
  · have hf := ifF hf c10
    clear c10
    refine lv_aload_n hx hb dX5_peopleIn_12 rfl (lv_at hl 2 rfl) ?_
    refine va_get (D := D) (ci := 5) (v := .ref q_t_at) (C := RX5) (T := TX5) (N := 12) hx hb hts hinX5 hown hK.1 hP 0 rfl rfl 8 (by decide) hk34 (fun _ h9 => h9) rfl dX5_peopleIn_13 ?_
    refine lv_iload_n hx hb dX5_peopleIn_16 rfl (lv_at hl 1 rfl) ?_
    obtain ⟨hi4, hf⟩ := ckE hf
    refine va_iald hx hb hK.1 hP 1 0 rfl rfl hi4 dX5_peopleIn_17 ?_
    refine lv_iload_n hx hb dX5_peopleIn_18 rfl (lv_at hl 3 rfl) ?_
    refine jwr1 28 (fun (x5 : Int32) => []) (fun (x5 : Int32) ls => lv_has ls 4 [(2, .int x5), (0, .ref q_t), (1, .int p0), (3, .int x2)]) hf (fun x5 ls hl hf => ?_) (fun k6 J28 hf => ?_)
    · obtain ⟨x7, ex7⟩ : ∃ y : Int32, y = x2 + (1 : Int32) := ⟨_, rfl⟩
      have hf := vlE hf ex7
      refine lv_iinc (v := x7) (lv' := [(3, .int x7), (2, .int x5), (0, .ref q_t), (1, .int p0)]) hx hb dX5_peopleIn_28 hl (k := 3) rfl (by rw [ex7]; rfl) (by decide) rfl (fun ls hl => ?_)
      clear ex7
      refine lv_goto (tgt := 4) hx hb dX5_peopleIn_31 (by decide) ?_
      exact L4 x5 x7 ls (lv_sub hl [1, 0, 2, 3] rfl) hf
    · refine lv_icmp_ne (tgt := 28) hx hb dX5_peopleIn_19 (by decide) (fun c9 => ?_) (fun c9 => ?_)
      · have hf := ifF hf c9
        clear c9
        exact J28 x1 ls (lv_sub hl [0, 2, 3, 1] rfl) hf
      · have hf := ifT hf c9
        clear c9
        refine lv_iload_n hx hb dX5_peopleIn_22 rfl (lv_at hl 0 rfl) ?_
        refine lv_iconst (v := 1) hx hb dX5_peopleIn_23 (by decide) ?_
        refine lv_iload_n hx hb dX5_peopleIn_24 rfl (lv_at hl 1 rfl) ?_
        refine lv_ishl hx hb dX5_peopleIn_25 ?_
        refine lv_ior hx hb dX5_peopleIn_26 ?_
        refine lv_topi (fun x8 ex8 => ?_)
        have hf := vlE hf ex8
        clear ex8
        refine lv_istore_n (lv' := [(2, .int x8), (3, .int x2), (0, .ref q_t), (1, .int p0)]) hx hb dX5_peopleIn_27 rfl hl (by decide) rfl (fun ls hl => ?_)
        exact J28 x8 ls (lv_sub hl [0, 2, 3, 1] rfl) hf
def fX5_darkeningIn (v_t_people : Int32) (v_t_kind : Nat → Int32) (v_t_at : Nat → Int32) (p0 : Int32) : Option (Int32) :=
  lo2 (fun g3 (x1 : Int32) (x2 : Int32) =>
    if v_t_people ≤ x2 then
      some x1
    else
      if x2 < 0 ∨ 8 ≤ x2.toNatClampNeg then none else
      jo1 (fun (x5 : Int32) =>
        vlet (x2 + (1 : Int32)) fun x7 =>
        g3 x5 x7) fun k6 =>
      if (v_t_at x2.toNatClampNeg) = p0 then
        bo1 (fX5_darkens v_t_kind x2) fun r8 =>
        if r8 = 0 then
          k6 x1
        else
          vlet (x1 + (1 : Int32)) fun x10 =>
          k6 x10
      else
        k6 x1) 400 (0 : Int32) (0 : Int32)
set_option maxHeartbeats 4000000 in
set_option maxRecDepth 100000 in
theorem mX5_darkeningIn (l : Launch) (D : va_G) (cy : Nat → ClassId) (q_t q_t_ways q_t_distances q_t_kind q_t_a q_t_home q_t_aim q_t_at : Nat) (v_t_places : Int32) (v_t_people : Int32) (v_t_hour : Int32) (v_t_chance : Int32) (v_t_seed : Int32) (v_t_kind : Nat → Int32) (v_t_at : Nat → Int32) (p0 : Int32) {r_ : Int32} (hf : fX5_darkeningIn v_t_people v_t_kind v_t_at p0 = some r_) : Met l yX5_darkeningIn wsX5_darkeningIn ({ frames := 1, cells := 0, slots := 0, locals := 21 }) (va_Pc [.ref q_t, .int p0] (fun U => va_P D vwCl [(q_t, oX5 v_t_places q_t_ways q_t_distances v_t_people q_t_kind q_t_a q_t_home q_t_aim q_t_at v_t_hour v_t_chance v_t_seed), (q_t_kind, .inl (cy 0, 8, .inl v_t_kind)), (q_t_at, .inl (cy 0, 8, .inl v_t_at))] U.heap ∧ xK D cy U)) (vp_Si (fun x => x = r_)) 0 0 (fun _ => False) := by
  refine Met.ofW (cc := cX5_darkeningIn) (maxL := 4) (ret := (some .int)) (by decide) rfl ?_
  intro p e s m args below meth c s₁ B hml hv
  obtain ⟨rfl, hP, hK⟩ := hv
  have hx := B.exec
  have hb := B.bytes
  have hr := B.returns
  have hts := atoms_spec (ws := wsX5_darkeningIn) B.pre
  have hown : s.vm.findClass RX5 = some m.cls := findClass_of_methodNamed B.named
  have hlocks := B.notSynchronized
  have hP : va_P D vwCl [(q_t, oX5 v_t_places q_t_ways q_t_distances v_t_people q_t_kind q_t_a q_t_home q_t_aim q_t_at v_t_hour v_t_chance v_t_seed), (q_t_kind, .inl (cy 0, 8, .inl v_t_kind)), (q_t_at, .inl (cy 0, 8, .inl v_t_at))] s.heap := hP
  have hinX5 : ∀ w ∈ u_ws RX5 TX5 12, w ∈ wsX5_darkeningIn := by decide +kernel
  have hk52 := hts (.fieldLink RX5 52 "ShowsWhereNobodyIs$Town" "people" "I") (by decide +kernel)
  have hk34 := hts (.fieldLink RX5 34 "ShowsWhereNobodyIs$Town" "at" "[I") (by decide +kernel)
  have hl := lv_entry ([.ref q_t, .int p0]) (n := 4) (Nat.le_of_ble_eq_true rfl)
  rw [lg_entry_eq]
  generalize (lg_sl ([.ref q_t, .int p0]) ++ List.replicate (4 - (lg_sl ([.ref q_t, .int p0])).length) Slot.unset).toArray = ls at hl ⊢
  have hl : lv_has ls 4 [(0, .ref q_t), (1, .int p0)] := hl
  unfold fX5_darkeningIn at hf
  refine lv_iconst (v := 0) hx hb dX5_darkeningIn_0 (by decide) ?_
  refine lv_istore_n (lv' := [(2, .int (0 : Int32)), (0, .ref q_t), (1, .int p0)]) hx hb dX5_darkeningIn_1 rfl hl (by decide) rfl (fun ls hl => ?_)
  refine lv_iconst (v := 0) hx hb dX5_darkeningIn_2 (by decide) ?_
  refine lv_istore_n (lv' := [(3, .int (0 : Int32)), (2, .int (0 : Int32)), (0, .ref q_t), (1, .int p0)]) hx hb dX5_darkeningIn_3 rfl hl (by decide) rfl (fun ls hl => ?_)
  refine wlr2 4 (fun _ _ => []) (fun (x1 : Int32) (x2 : Int32) ls => lv_has ls 4 [(2, .int x1), (3, .int x2), (0, .ref q_t), (1, .int p0)]) (fun g3 L4 x1 x2 ls hl hf => ?_) 400 (0 : Int32) (0 : Int32) ls (lv_sub hl [1, 0, 2, 3] rfl) hf
  refine lv_iload_n hx hb dX5_darkeningIn_4 rfl (lv_at hl 1 rfl) ?_
  refine lv_aload_n hx hb dX5_darkeningIn_5 rfl (lv_at hl 2 rfl) ?_
  refine va_get (D := D) (ci := 5) (v := .int v_t_people) (C := RX5) (T := TX5) (N := 12) hx hb hts hinX5 hown hK.1 hP 0 rfl rfl 3 (by decide) hk52 (fun _ h9 => h9) rfl dX5_darkeningIn_6 ?_
  refine lv_icmp_ge (tgt := 39) hx hb dX5_darkeningIn_9 (by decide) (fun c13 => ?_) (fun c13 => ?_)
  · have hf := ifT hf c13
    clear c13
    refine lv_iload_n hx hb dX5_darkeningIn_39 rfl (lv_at hl 0 rfl) ?_
    exact W.iret (v := x1) hx hb hr (fun t ht hW => ⟨x1, rfl, Option.some.inj hf, ht⟩) (fun q h => nomatch h) dX5_darkeningIn_40
  · have hf := ifF hf c13
    clear c13
    refine lv_aload_n hx hb dX5_darkeningIn_12 rfl (lv_at hl 2 rfl) ?_
    refine va_get (D := D) (ci := 5) (v := .ref q_t_at) (C := RX5) (T := TX5) (N := 12) hx hb hts hinX5 hown hK.1 hP 0 rfl rfl 8 (by decide) hk34 (fun _ h9 => h9) rfl dX5_darkeningIn_13 ?_
    refine lv_iload_n hx hb dX5_darkeningIn_16 rfl (lv_at hl 1 rfl) ?_
    obtain ⟨hi4, hf⟩ := ckE hf
    refine va_iald hx hb hK.1 hP 2 0 rfl rfl hi4 dX5_darkeningIn_17 ?_
    refine lv_iload_n hx hb dX5_darkeningIn_18 rfl (lv_at hl 3 rfl) ?_
    refine jwr1 33 (fun (x5 : Int32) => []) (fun (x5 : Int32) ls => lv_has ls 4 [(2, .int x5), (0, .ref q_t), (1, .int p0), (3, .int x2)]) hf (fun x5 ls hl hf => ?_) (fun k6 J33 hf => ?_)
    · obtain ⟨x7, ex7⟩ : ∃ y : Int32, y = x2 + (1 : Int32) := ⟨_, rfl⟩
      have hf := vlE hf ex7
      refine lv_iinc (v := x7) (lv' := [(3, .int x7), (2, .int x5), (0, .ref q_t), (1, .int p0)]) hx hb dX5_darkeningIn_33 hl (k := 3) rfl (by rw [ex7]; rfl) (by decide) rfl (fun ls hl => ?_)
      clear ex7
      refine lv_goto (tgt := 4) hx hb dX5_darkeningIn_36 (by decide) ?_
      exact L4 x5 x7 ls (lv_sub hl [1, 0, 2, 3] rfl) hf
    · refine lv_icmp_ne (tgt := 33) hx hb dX5_darkeningIn_19 (by decide) (fun c12 => ?_) (fun c12 => ?_)
      · have hf := ifF hf c12
        clear c12
        exact J33 x1 ls (lv_sub hl [0, 2, 3, 1] rfl) hf
      · have hf := ifT hf c12
        clear c12
        refine lv_aload_n hx hb dX5_darkeningIn_22 rfl (lv_at hl 2 rfl) ?_
        refine lv_iload_n hx hb dX5_darkeningIn_23 rfl (lv_at hl 1 rfl) ?_
        obtain ⟨r8, hr9, hf⟩ := boE1 hf
        have hPc := hP.sub (ws' := [(q_t, oX5 v_t_places q_t_ways q_t_distances v_t_people q_t_kind q_t_a q_t_home q_t_aim q_t_at v_t_hour v_t_chance v_t_seed), (q_t_kind, .inl (cy 0, 8, .inl v_t_kind))]) [0, 1] rfl
        refine xcSi (va_runV (As := [.int x2]) (rest := []) ⟨hx, hb, hml, hown, hts⟩ (mX5_darkens l D cy q_t q_t_ways q_t_distances q_t_kind q_t_a q_t_home q_t_aim q_t_at v_t_places v_t_people v_t_hour v_t_chance v_t_seed v_t_kind  x2 hr9) (cwV 1 hts gX5_darkeningIn_X5_darkens rfl rfl rfl (by decide +kernel) ⟨Nat.le_of_ble_eq_true rfl, Nat.le_of_ble_eq_true rfl⟩) (xPV hK hPc (ci := 5) (q0 := 0) rfl rfl) rfl rfl hl.1 rfl (lv_room (Nat.le_of_ble_eq_true rfl)) dX5_darkeningIn_24 ⟨Nat.le_of_ble_eq_true rfl, Nat.le_of_ble_eq_true rfl⟩) ?_
        refine lv_if_eq (tgt := 33) hx hb dX5_darkeningIn_27 (by decide) (fun c11 => ?_) (fun c11 => ?_)
        · have hf := ifT hf c11
          clear c11
          exact J33 x1 ls (lv_sub hl [0, 2, 3, 1] rfl) hf
        · have hf := ifF hf c11
          clear c11
          obtain ⟨x10, ex10⟩ : ∃ y : Int32, y = x1 + (1 : Int32) := ⟨_, rfl⟩
          have hf := vlE hf ex10
          refine lv_iinc (v := x10) (lv' := [(2, .int x10), (3, .int x2), (0, .ref q_t), (1, .int p0)]) hx hb dX5_darkeningIn_30 hl (k := 0) rfl (by rw [ex10]; rfl) (by decide) rfl (fun ls hl => ?_)
          clear ex10
          exact J33 x10 ls (lv_sub hl [0, 2, 3, 1] rfl) hf
def fX5_isJoined (v_t_people : Int32) (v_t_kind : Nat → Int32) (v_t_at : Nat → Int32) (p0 : Int32) : Option (Int32) :=
  lo1 (fun g2 (x1 : Int32) =>
    if v_t_people ≤ x1 then
      some (0 : Int32)
    else
      jo0 (
        vlet (x1 + (1 : Int32)) fun x4 =>
        g2 x4) fun k3 =>
      if x1 = p0 then
        k3
      else
        if x1 < 0 ∨ 8 ≤ x1.toNatClampNeg then none else
        if p0 < 0 ∨ 8 ≤ p0.toNatClampNeg then none else
        if (v_t_at x1.toNatClampNeg) = (v_t_at p0.toNatClampNeg) then
          bo1 (fX5_darkens v_t_kind x1) fun r7 =>
          if r7 = 0 then
            k3
          else
            some (1 : Int32)
        else
          k3) 400 (0 : Int32)
set_option maxHeartbeats 4000000 in
set_option maxRecDepth 100000 in
theorem mX5_isJoined (l : Launch) (D : va_G) (cy : Nat → ClassId) (q_t q_t_ways q_t_distances q_t_kind q_t_a q_t_home q_t_aim q_t_at : Nat) (v_t_places : Int32) (v_t_people : Int32) (v_t_hour : Int32) (v_t_chance : Int32) (v_t_seed : Int32) (v_t_kind : Nat → Int32) (v_t_at : Nat → Int32) (p0 : Int32) {r_ : Int32} (hf : fX5_isJoined v_t_people v_t_kind v_t_at p0 = some r_) : Met l yX5_isJoined wsX5_isJoined ({ frames := 1, cells := 0, slots := 0, locals := 21 }) (va_Pc [.ref q_t, .int p0] (fun U => va_P D vwCl [(q_t, oX5 v_t_places q_t_ways q_t_distances v_t_people q_t_kind q_t_a q_t_home q_t_aim q_t_at v_t_hour v_t_chance v_t_seed), (q_t_kind, .inl (cy 0, 8, .inl v_t_kind)), (q_t_at, .inl (cy 0, 8, .inl v_t_at))] U.heap ∧ xK D cy U)) (vp_Si (fun x => x = r_)) 0 0 (fun _ => False) := by
  refine Met.ofW (cc := cX5_isJoined) (maxL := 3) (ret := (some .boolean)) (by decide) rfl ?_
  intro p e s m args below meth c s₁ B hml hv
  obtain ⟨rfl, hP, hK⟩ := hv
  have hx := B.exec
  have hb := B.bytes
  have hr := B.returns
  have hts := atoms_spec (ws := wsX5_isJoined) B.pre
  have hown : s.vm.findClass RX5 = some m.cls := findClass_of_methodNamed B.named
  have hlocks := B.notSynchronized
  have hP : va_P D vwCl [(q_t, oX5 v_t_places q_t_ways q_t_distances v_t_people q_t_kind q_t_a q_t_home q_t_aim q_t_at v_t_hour v_t_chance v_t_seed), (q_t_kind, .inl (cy 0, 8, .inl v_t_kind)), (q_t_at, .inl (cy 0, 8, .inl v_t_at))] s.heap := hP
  have hinX5 : ∀ w ∈ u_ws RX5 TX5 12, w ∈ wsX5_isJoined := by decide +kernel
  have hk52 := hts (.fieldLink RX5 52 "ShowsWhereNobodyIs$Town" "people" "I") (by decide +kernel)
  have hk34 := hts (.fieldLink RX5 34 "ShowsWhereNobodyIs$Town" "at" "[I") (by decide +kernel)
  have hl := lv_entry ([.ref q_t, .int p0]) (n := 3) (Nat.le_of_ble_eq_true rfl)
  rw [lg_entry_eq]
  generalize (lg_sl ([.ref q_t, .int p0]) ++ List.replicate (3 - (lg_sl ([.ref q_t, .int p0])).length) Slot.unset).toArray = ls at hl ⊢
  have hl : lv_has ls 3 [(0, .ref q_t), (1, .int p0)] := hl
  unfold fX5_isJoined at hf
  refine lv_iconst (v := 0) hx hb dX5_isJoined_0 (by decide) ?_
  refine lv_istore_n (lv' := [(2, .int (0 : Int32)), (0, .ref q_t), (1, .int p0)]) hx hb dX5_isJoined_1 rfl hl (by decide) rfl (fun ls hl => ?_)
  refine wlr1 2 (fun _ => []) (fun (x1 : Int32) ls => lv_has ls 3 [(2, .int x1), (0, .ref q_t), (1, .int p0)]) (fun g2 L2 x1 ls hl hf => ?_) 400 (0 : Int32) ls (lv_sub hl [0, 1, 2] rfl) hf
  refine lv_iload_n hx hb dX5_isJoined_2 rfl (lv_at hl 0 rfl) ?_
  refine lv_aload_n hx hb dX5_isJoined_3 rfl (lv_at hl 1 rfl) ?_
  refine va_get (D := D) (ci := 5) (v := .int v_t_people) (C := RX5) (T := TX5) (N := 12) hx hb hts hinX5 hown hK.1 hP 0 rfl rfl 3 (by decide) hk52 (fun _ h9 => h9) rfl dX5_isJoined_4 ?_
  refine lv_icmp_ge (tgt := 46) hx hb dX5_isJoined_7 (by decide) (fun c12 => ?_) (fun c12 => ?_)
  · have hf := ifT hf c12
    clear c12
    refine lv_iconst (v := 0) hx hb dX5_isJoined_46 (by decide) ?_
    exact W.zret (v := (0 : Int32)) hx hb hr rfl (fun t ht hW => ⟨(0 : Int32), rfl, Option.some.inj hf, ht⟩) (fun q h => nomatch h) dX5_isJoined_47
  · have hf := ifF hf c12
    clear c12
    refine lv_iload_n hx hb dX5_isJoined_10 rfl (lv_at hl 0 rfl) ?_
    refine lv_iload_n hx hb dX5_isJoined_11 rfl (lv_at hl 2 rfl) ?_
    refine jwr0 40 [] (fun  ls => lv_has ls 3 [(0, .ref q_t), (1, .int p0), (2, .int x1)]) hf (fun  ls hl hf => ?_) (fun k3 J40 hf => ?_)
    · obtain ⟨x4, ex4⟩ : ∃ y : Int32, y = x1 + (1 : Int32) := ⟨_, rfl⟩
      have hf := vlE hf ex4
      refine lv_iinc (v := x4) (lv' := [(2, .int x4), (0, .ref q_t), (1, .int p0)]) hx hb dX5_isJoined_40 hl (k := 2) rfl (by rw [ex4]; rfl) (by decide) rfl (fun ls hl => ?_)
      clear ex4
      refine lv_goto (tgt := 2) hx hb dX5_isJoined_43 (by decide) ?_
      exact L2 x4 ls (lv_sub hl [0, 1, 2] rfl) hf
    · refine lv_icmp_eq (tgt := 40) hx hb dX5_isJoined_12 (by decide) (fun c11 => ?_) (fun c11 => ?_)
      · have hf := ifT hf c11
        clear c11
        exact J40 ls (lv_sub hl [1, 2, 0] rfl) hf
      · have hf := ifF hf c11
        clear c11
        refine lv_aload_n hx hb dX5_isJoined_15 rfl (lv_at hl 1 rfl) ?_
        refine va_get (D := D) (ci := 5) (v := .ref q_t_at) (C := RX5) (T := TX5) (N := 12) hx hb hts hinX5 hown hK.1 hP 0 rfl rfl 8 (by decide) hk34 (fun _ h9 => h9) rfl dX5_isJoined_16 ?_
        refine lv_iload_n hx hb dX5_isJoined_19 rfl (lv_at hl 0 rfl) ?_
        obtain ⟨hi5, hf⟩ := ckE hf
        refine va_iald hx hb hK.1 hP 2 0 rfl rfl hi5 dX5_isJoined_20 ?_
        refine lv_aload_n hx hb dX5_isJoined_21 rfl (lv_at hl 1 rfl) ?_
        refine va_get (D := D) (ci := 5) (v := .ref q_t_at) (C := RX5) (T := TX5) (N := 12) hx hb hts hinX5 hown hK.1 hP 0 rfl rfl 8 (by decide) hk34 (fun _ h9 => h9) rfl dX5_isJoined_22 ?_
        refine lv_iload_n hx hb dX5_isJoined_25 rfl (lv_at hl 2 rfl) ?_
        obtain ⟨hi6, hf⟩ := ckE hf
        refine va_iald hx hb hK.1 hP 2 0 rfl rfl hi6 dX5_isJoined_26 ?_
        refine lv_icmp_ne (tgt := 40) hx hb dX5_isJoined_27 (by decide) (fun c10 => ?_) (fun c10 => ?_)
        · have hf := ifF hf c10
          clear c10
          exact J40 ls (lv_sub hl [1, 2, 0] rfl) hf
        · have hf := ifT hf c10
          clear c10
          refine lv_aload_n hx hb dX5_isJoined_30 rfl (lv_at hl 1 rfl) ?_
          refine lv_iload_n hx hb dX5_isJoined_31 rfl (lv_at hl 0 rfl) ?_
          obtain ⟨r7, hr8, hf⟩ := boE1 hf
          have hPc := hP.sub (ws' := [(q_t, oX5 v_t_places q_t_ways q_t_distances v_t_people q_t_kind q_t_a q_t_home q_t_aim q_t_at v_t_hour v_t_chance v_t_seed), (q_t_kind, .inl (cy 0, 8, .inl v_t_kind))]) [0, 1] rfl
          refine xcSi (va_runV (As := [.int x1]) (rest := []) ⟨hx, hb, hml, hown, hts⟩ (mX5_darkens l D cy q_t q_t_ways q_t_distances q_t_kind q_t_a q_t_home q_t_aim q_t_at v_t_places v_t_people v_t_hour v_t_chance v_t_seed v_t_kind  x1 hr8) (cwV 1 hts gX5_isJoined_X5_darkens rfl rfl rfl (by decide +kernel) ⟨Nat.le_of_ble_eq_true rfl, Nat.le_of_ble_eq_true rfl⟩) (xPV hK hPc (ci := 5) (q0 := 0) rfl rfl) rfl rfl hl.1 rfl (lv_room (Nat.le_of_ble_eq_true rfl)) dX5_isJoined_32 ⟨Nat.le_of_ble_eq_true rfl, Nat.le_of_ble_eq_true rfl⟩) ?_
          refine lv_if_eq (tgt := 40) hx hb dX5_isJoined_35 (by decide) (fun c9 => ?_) (fun c9 => ?_)
          · have hf := ifT hf c9
            clear c9
            exact J40 ls (lv_sub hl [1, 2, 0] rfl) hf
          · have hf := ifF hf c9
            clear c9
            refine lv_iconst (v := 1) hx hb dX5_isJoined_38 (by decide) ?_
            exact W.zret (v := (1 : Int32)) hx hb hr rfl (fun t ht hW => ⟨(1 : Int32), rfl, Option.some.inj hf, ht⟩) (fun q h => nomatch h) dX5_isJoined_39
def fX5_tellersFor (v_t_people : Int32) (v_t_kind : Nat → Int32) (v_t_at : Nat → Int32) (p0 : Int32) : Option (Int32) :=
  bo1 (fX5_darkPlaces v_t_people v_t_kind v_t_at) fun r1 =>
  if p0 < 0 ∨ 8 ≤ p0.toNatClampNeg then none else
  vlet (r1 &&& (((1 : Int32) <<< ((v_t_at p0.toNatClampNeg) &&& 31)) ^^^ (-1 : Int32))) fun x4 =>
  lo3 (fun g8 (x5 : Int32) (x6 : Int32) (x7 : Int32) =>
    if v_t_people ≤ x7 then
      some x6
    else
      if x7 < 0 ∨ 8 ≤ x7.toNatClampNeg then none else
      bo1 (fX7_hasBit x5 (v_t_at x7.toNatClampNeg)) fun r10 =>
      jo2 (fun (x12 : Int32) (x13 : Int32) =>
        vlet (x7 + (1 : Int32)) fun x15 =>
        g8 x12 x13 x15) fun k14 =>
      if r10 = 0 then
        k14 x5 x6
      else
        vlet (x6 ||| ((1 : Int32) <<< (x7 &&& 31))) fun x16 =>
        if x7 < 0 ∨ 8 ≤ x7.toNatClampNeg then none else
        vlet (x5 &&& (((1 : Int32) <<< ((v_t_at x7.toNatClampNeg) &&& 31)) ^^^ (-1 : Int32))) fun x18 =>
        k14 x18 x16) 400 x4 (0 : Int32) (0 : Int32)
set_option maxHeartbeats 4000000 in
set_option maxRecDepth 100000 in
theorem mX5_tellersFor (l : Launch) (D : va_G) (cy : Nat → ClassId) (q_t q_t_ways q_t_distances q_t_kind q_t_a q_t_home q_t_aim q_t_at : Nat) (v_t_places : Int32) (v_t_people : Int32) (v_t_hour : Int32) (v_t_chance : Int32) (v_t_seed : Int32) (v_t_kind : Nat → Int32) (v_t_at : Nat → Int32) (p0 : Int32) {r_ : Int32} (hf : fX5_tellersFor v_t_people v_t_kind v_t_at p0 = some r_) : Met l yX5_tellersFor wsX5_tellersFor ({ frames := 2, cells := 0, slots := 0, locals := 43 }) (va_Pc [.ref q_t, .int p0] (fun U => va_P D vwCl [(q_t, oX5 v_t_places q_t_ways q_t_distances v_t_people q_t_kind q_t_a q_t_home q_t_aim q_t_at v_t_hour v_t_chance v_t_seed), (q_t_kind, .inl (cy 0, 8, .inl v_t_kind)), (q_t_at, .inl (cy 0, 8, .inl v_t_at))] U.heap ∧ xK D cy U)) (vp_Si (fun x => x = r_)) 0 0 (fun _ => False) := by
  refine Met.ofW (cc := cX5_tellersFor) (maxL := 5) (ret := (some .int)) (by decide) rfl ?_
  intro p e s m args below meth c s₁ B hml hv
  obtain ⟨rfl, hP, hK⟩ := hv
  have hx := B.exec
  have hb := B.bytes
  have hr := B.returns
  have hts := atoms_spec (ws := wsX5_tellersFor) B.pre
  have hown : s.vm.findClass RX5 = some m.cls := findClass_of_methodNamed B.named
  have hlocks := B.notSynchronized
  have hP : va_P D vwCl [(q_t, oX5 v_t_places q_t_ways q_t_distances v_t_people q_t_kind q_t_a q_t_home q_t_aim q_t_at v_t_hour v_t_chance v_t_seed), (q_t_kind, .inl (cy 0, 8, .inl v_t_kind)), (q_t_at, .inl (cy 0, 8, .inl v_t_at))] s.heap := hP
  have hinX5 : ∀ w ∈ u_ws RX5 TX5 12, w ∈ wsX5_tellersFor := by decide +kernel
  have hk34 := hts (.fieldLink RX5 34 "ShowsWhereNobodyIs$Town" "at" "[I") (by decide +kernel)
  have hk52 := hts (.fieldLink RX5 52 "ShowsWhereNobodyIs$Town" "people" "I") (by decide +kernel)
  have hiniX7 := hts (.initialized RX7) (by decide +kernel)
  have hstX7_hasBit := hts (.static yX7_hasBit) (by decide +kernel)
  have hl := lv_entry ([.ref q_t, .int p0]) (n := 5) (Nat.le_of_ble_eq_true rfl)
  rw [lg_entry_eq]
  generalize (lg_sl ([.ref q_t, .int p0]) ++ List.replicate (5 - (lg_sl ([.ref q_t, .int p0])).length) Slot.unset).toArray = ls at hl ⊢
  have hl : lv_has ls 5 [(0, .ref q_t), (1, .int p0)] := hl
  unfold fX5_tellersFor at hf
  refine lv_aload_n hx hb dX5_tellersFor_0 rfl (lv_at hl 0 rfl) ?_
  obtain ⟨r1, hr2, hf⟩ := boE1 hf
  have hPc := hP.sub (ws' := [(q_t, oX5 v_t_places q_t_ways q_t_distances v_t_people q_t_kind q_t_a q_t_home q_t_aim q_t_at v_t_hour v_t_chance v_t_seed), (q_t_kind, .inl (cy 0, 8, .inl v_t_kind)), (q_t_at, .inl (cy 0, 8, .inl v_t_at))]) [0, 1, 2] rfl
  refine xcSi (va_runV (As := []) (rest := []) ⟨hx, hb, hml, hown, hts⟩ (mX5_darkPlaces l D cy q_t q_t_ways q_t_distances q_t_kind q_t_a q_t_home q_t_aim q_t_at v_t_places v_t_people v_t_hour v_t_chance v_t_seed v_t_kind v_t_at   hr2) (cwV 0 hts gX5_tellersFor_X5_darkPlaces rfl rfl rfl (by decide +kernel) ⟨Nat.le_of_ble_eq_true rfl, Nat.le_of_ble_eq_true rfl⟩) (xPV hK hPc (ci := 5) (q0 := 0) rfl rfl) rfl rfl hl.1 rfl (lv_room (Nat.le_of_ble_eq_true rfl)) dX5_tellersFor_1 ⟨Nat.le_of_ble_eq_true rfl, Nat.le_of_ble_eq_true rfl⟩) ?_
  refine lv_iconst (v := 1) hx hb dX5_tellersFor_4 (by decide) ?_
  refine lv_aload_n hx hb dX5_tellersFor_5 rfl (lv_at hl 0 rfl) ?_
  refine va_get (D := D) (ci := 5) (v := .ref q_t_at) (C := RX5) (T := TX5) (N := 12) hx hb hts hinX5 hown hK.1 hP 0 rfl rfl 8 (by decide) hk34 (fun _ h9 => h9) rfl dX5_tellersFor_6 ?_
  refine lv_iload_n hx hb dX5_tellersFor_9 rfl (lv_at hl 1 rfl) ?_
  obtain ⟨hi3, hf⟩ := ckE hf
  refine va_iald hx hb hK.1 hP 2 0 rfl rfl hi3 dX5_tellersFor_10 ?_
  refine lv_ishl hx hb dX5_tellersFor_11 ?_
  refine lv_iconst (v := (-1)) hx hb dX5_tellersFor_12 (by decide) ?_
  refine lv_ixor hx hb dX5_tellersFor_13 ?_
  refine lv_iand hx hb dX5_tellersFor_14 ?_
  refine lv_topi (fun x4 ex4 => ?_)
  have hf := vlE hf ex4
  clear ex4
  refine lv_istore_n (lv' := [(2, .int x4), (0, .ref q_t), (1, .int p0)]) hx hb dX5_tellersFor_15 rfl hl (by decide) rfl (fun ls hl => ?_)
  refine lv_iconst (v := 0) hx hb dX5_tellersFor_16 (by decide) ?_
  refine lv_istore_n (lv' := [(3, .int (0 : Int32)), (2, .int x4), (0, .ref q_t), (1, .int p0)]) hx hb dX5_tellersFor_17 rfl hl (by decide) rfl (fun ls hl => ?_)
  refine lv_iconst (v := 0) hx hb dX5_tellersFor_18 (by decide) ?_
  refine lv_istore (lv' := [(4, .int (0 : Int32)), (3, .int (0 : Int32)), (2, .int x4), (0, .ref q_t), (1, .int p0)]) hx hb dX5_tellersFor_19 hl (by decide) rfl (fun ls hl => ?_)
  refine wlr3 21 (fun _ _ _ => []) (fun (x5 : Int32) (x6 : Int32) (x7 : Int32) ls => lv_has ls 5 [(2, .int x5), (3, .int x6), (4, .int x7), (0, .ref q_t)]) (fun g8 L21 x5 x6 x7 ls hl hf => ?_) 400 x4 (0 : Int32) (0 : Int32) ls (lv_sub hl [2, 1, 0, 3] rfl) hf
  refine lv_iload hx hb dX5_tellersFor_21 (lv_at hl 2 rfl) ?_
  refine lv_aload_n hx hb dX5_tellersFor_23 rfl (lv_at hl 3 rfl) ?_
  refine va_get (D := D) (ci := 5) (v := .int v_t_people) (C := RX5) (T := TX5) (N := 12) hx hb hts hinX5 hown hK.1 hP 0 rfl rfl 3 (by decide) hk52 (fun _ h9 => h9) rfl dX5_tellersFor_24 ?_
  refine lv_icmp_ge (tgt := 71) hx hb dX5_tellersFor_27 (by decide) (fun c20 => ?_) (fun c20 => ?_)
  · have hf := ifT hf c20
    clear c20
    refine lv_iload_n hx hb dX5_tellersFor_71 rfl (lv_at hl 1 rfl) ?_
    exact W.iret (v := x6) hx hb hr (fun t ht hW => ⟨x6, rfl, Option.some.inj hf, ht⟩) (fun q h => nomatch h) dX5_tellersFor_72
  · have hf := ifF hf c20
    clear c20
    refine lv_iload_n hx hb dX5_tellersFor_30 rfl (lv_at hl 0 rfl) ?_
    refine lv_aload_n hx hb dX5_tellersFor_31 rfl (lv_at hl 3 rfl) ?_
    refine va_get (D := D) (ci := 5) (v := .ref q_t_at) (C := RX5) (T := TX5) (N := 12) hx hb hts hinX5 hown hK.1 hP 0 rfl rfl 8 (by decide) hk34 (fun _ h9 => h9) rfl dX5_tellersFor_32 ?_
    refine lv_iload hx hb dX5_tellersFor_35 (lv_at hl 2 rfl) ?_
    obtain ⟨hi9, hf⟩ := ckE hf
    refine va_iald hx hb hK.1 hP 2 0 rfl rfl hi9 dX5_tellersFor_37 ?_
    obtain ⟨r10, hr11, hf⟩ := boE1 hf
    have hPc := hP.sub (ws' := []) [] rfl
    refine xcSi (va_runSN (As := [.int x5, .int (v_t_at x7.toNatClampNeg)]) (rest := []) ⟨hx, hb, hml, hown, hts⟩ (mX7_hasBit l D cy    x5 (v_t_at x7.toNatClampNeg) hr11) ⟨va_cnB 2 hts gX5_tellersFor_X7_hasBit_n68 rfl rfl rfl hK.2.1 hiniX7 (by decide +kernel) ⟨Nat.le_of_ble_eq_true rfl, Nat.le_of_ble_eq_true rfl⟩, hstX7_hasBit, trivial⟩ (xPS hK hPc) rfl rfl hl.1 rfl (lv_room (Nat.le_of_ble_eq_true rfl)) dX5_tellersFor_38 ⟨Nat.le_of_ble_eq_true rfl, Nat.le_of_ble_eq_true rfl⟩) ?_
    refine jwr2 65 (fun (x12 : Int32) (x13 : Int32) => []) (fun (x12 : Int32) (x13 : Int32) ls => lv_has ls 5 [(2, .int x12), (3, .int x13), (0, .ref q_t), (4, .int x7)]) hf (fun x12 x13 ls hl hf => ?_) (fun k14 J65 hf => ?_)
    · obtain ⟨x15, ex15⟩ : ∃ y : Int32, y = x7 + (1 : Int32) := ⟨_, rfl⟩
      have hf := vlE hf ex15
      refine lv_iinc (v := x15) (lv' := [(4, .int x15), (2, .int x12), (3, .int x13), (0, .ref q_t)]) hx hb dX5_tellersFor_65 hl (k := 3) rfl (by rw [ex15]; rfl) (by decide) rfl (fun ls hl => ?_)
      clear ex15
      refine lv_goto (tgt := 21) hx hb dX5_tellersFor_68 (by decide) ?_
      exact L21 x12 x13 x15 ls (lv_sub hl [1, 2, 0, 3] rfl) hf
    · refine lv_if_eq (tgt := 65) hx hb dX5_tellersFor_41 (by decide) (fun c19 => ?_) (fun c19 => ?_)
      · have hf := ifT hf c19
        clear c19
        exact J65 x5 x6 ls (lv_sub hl [0, 1, 3, 2] rfl) hf
      · have hf := ifF hf c19
        clear c19
        refine lv_iload_n hx hb dX5_tellersFor_44 rfl (lv_at hl 1 rfl) ?_
        refine lv_iconst (v := 1) hx hb dX5_tellersFor_45 (by decide) ?_
        refine lv_iload hx hb dX5_tellersFor_46 (lv_at hl 2 rfl) ?_
        refine lv_ishl hx hb dX5_tellersFor_48 ?_
        refine lv_ior hx hb dX5_tellersFor_49 ?_
        refine lv_topi (fun x16 ex16 => ?_)
        have hf := vlE hf ex16
        clear ex16
        refine lv_istore_n (lv' := [(3, .int x16), (2, .int x5), (4, .int x7), (0, .ref q_t)]) hx hb dX5_tellersFor_50 rfl hl (by decide) rfl (fun ls hl => ?_)
        refine lv_iload_n hx hb dX5_tellersFor_51 rfl (lv_at hl 1 rfl) ?_
        refine lv_iconst (v := 1) hx hb dX5_tellersFor_52 (by decide) ?_
        refine lv_aload_n hx hb dX5_tellersFor_53 rfl (lv_at hl 3 rfl) ?_
        refine va_get (D := D) (ci := 5) (v := .ref q_t_at) (C := RX5) (T := TX5) (N := 12) hx hb hts hinX5 hown hK.1 hP 0 rfl rfl 8 (by decide) hk34 (fun _ h9 => h9) rfl dX5_tellersFor_54 ?_
        refine lv_iload hx hb dX5_tellersFor_57 (lv_at hl 2 rfl) ?_
        obtain ⟨hi17, hf⟩ := ckE hf
        refine va_iald hx hb hK.1 hP 2 0 rfl rfl hi17 dX5_tellersFor_59 ?_
        refine lv_ishl hx hb dX5_tellersFor_60 ?_
        refine lv_iconst (v := (-1)) hx hb dX5_tellersFor_61 (by decide) ?_
        refine lv_ixor hx hb dX5_tellersFor_62 ?_
        refine lv_iand hx hb dX5_tellersFor_63 ?_
        refine lv_topi (fun x18 ex18 => ?_)
        have hf := vlE hf ex18
        clear ex18
        refine lv_istore_n (lv' := [(2, .int x18), (3, .int x16), (4, .int x7), (0, .ref q_t)]) hx hb dX5_tellersFor_64 rfl hl (by decide) rfl (fun ls hl => ?_)
        exact J65 x18 x16 ls (lv_sub hl [0, 1, 3, 2] rfl) hf
def fX5_isDay (v_t_hour : Int32) : Option (Int32) :=
  vlet (v_t_hour - v_t_hour / (24 : Int32) * (24 : Int32)) fun x1 =>
  if x1 < (8 : Int32) then
    some (0 : Int32)
  else
    if (19 : Int32) < x1 then
      some (0 : Int32)
    else
      some (1 : Int32)
set_option maxHeartbeats 4000000 in
set_option maxRecDepth 100000 in
theorem mX5_isDay (l : Launch) (D : va_G) (cy : Nat → ClassId) (q_t q_t_ways q_t_distances q_t_kind q_t_a q_t_home q_t_aim q_t_at : Nat) (v_t_places : Int32) (v_t_people : Int32) (v_t_hour : Int32) (v_t_chance : Int32) (v_t_seed : Int32) {r_ : Int32} (hf : fX5_isDay v_t_hour = some r_) : Met l yX5_isDay wsX5_isDay ({ frames := 0, cells := 0, slots := 0, locals := 0 }) (va_Pc [.ref q_t] (fun U => va_P D vwCl [(q_t, oX5 v_t_places q_t_ways q_t_distances v_t_people q_t_kind q_t_a q_t_home q_t_aim q_t_at v_t_hour v_t_chance v_t_seed)] U.heap ∧ xK D cy U)) (vp_Si (fun x => x = r_)) 0 0 (fun _ => False) := by
  refine Met.ofW (cc := cX5_isDay) (maxL := 2) (ret := (some .boolean)) (by decide) rfl ?_
  intro p e s m args below meth c s₁ B hml hv
  obtain ⟨rfl, hP, hK⟩ := hv
  have hx := B.exec
  have hb := B.bytes
  have hr := B.returns
  have hts := atoms_spec (ws := wsX5_isDay) B.pre
  have hown : s.vm.findClass RX5 = some m.cls := findClass_of_methodNamed B.named
  have hlocks := B.notSynchronized
  have hP : va_P D vwCl [(q_t, oX5 v_t_places q_t_ways q_t_distances v_t_people q_t_kind q_t_a q_t_home q_t_aim q_t_at v_t_hour v_t_chance v_t_seed)] s.heap := hP
  have hinX5 : ∀ w ∈ u_ws RX5 TX5 12, w ∈ wsX5_isDay := by decide +kernel
  have hk55 := hts (.fieldLink RX5 55 "ShowsWhereNobodyIs$Town" "hour" "I") (by decide +kernel)
  have hl := lv_entry ([.ref q_t]) (n := 2) (Nat.le_of_ble_eq_true rfl)
  rw [lg_entry_eq]
  generalize (lg_sl ([.ref q_t]) ++ List.replicate (2 - (lg_sl ([.ref q_t])).length) Slot.unset).toArray = ls at hl ⊢
  have hl : lv_has ls 2 [(0, .ref q_t)] := hl
  unfold fX5_isDay at hf
  refine lv_aload_n hx hb dX5_isDay_0 rfl (lv_at hl 0 rfl) ?_
  refine va_get (D := D) (ci := 5) (v := .int v_t_hour) (C := RX5) (T := TX5) (N := 12) hx hb hts hinX5 hown hK.1 hP 0 rfl rfl 9 (by decide) hk55 (fun _ h9 => h9) rfl dX5_isDay_1 ?_
  refine lv_bipush (v := 24) hx hb dX5_isDay_4 (by decide) ?_
  refine lv_irem hx hb dX5_isDay_6 (by decide) ?_
  refine lv_topi (fun x1 ex1 => ?_)
  have hf := vlE hf ex1
  clear ex1
  refine lv_istore_n (lv' := [(1, .int x1), (0, .ref q_t)]) hx hb dX5_isDay_7 rfl hl (by decide) rfl (fun ls hl => ?_)
  refine lv_iload_n hx hb dX5_isDay_8 rfl (lv_at hl 0 rfl) ?_
  refine lv_bipush (v := 8) hx hb dX5_isDay_9 (by decide) ?_
  refine lv_icmp_lt (tgt := 24) hx hb dX5_isDay_11 (by decide) (fun c3 => ?_) (fun c3 => ?_)
  · have hf := ifT hf c3
    clear c3
    refine lv_iconst (v := 0) hx hb dX5_isDay_24 (by decide) ?_
    exact W.zret (v := (0 : Int32)) hx hb hr rfl (fun t ht hW => ⟨(0 : Int32), rfl, Option.some.inj hf, ht⟩) (fun q h => nomatch h) dX5_isDay_25
  · have hf := ifF hf c3
    clear c3
    refine lv_iload_n hx hb dX5_isDay_14 rfl (lv_at hl 0 rfl) ?_
    refine lv_bipush (v := 19) hx hb dX5_isDay_15 (by decide) ?_
    refine lv_icmp_gt (tgt := 24) hx hb dX5_isDay_17 (by decide) (fun c2 => ?_) (fun c2 => ?_)
    · have hf := ifT hf c2
      clear c2
      refine lv_iconst (v := 0) hx hb dX5_isDay_24 (by decide) ?_
      exact W.zret (v := (0 : Int32)) hx hb hr rfl (fun t ht hW => ⟨(0 : Int32), rfl, Option.some.inj hf, ht⟩) (fun q h => nomatch h) dX5_isDay_25
    · have hf := ifF hf c2
      clear c2
      refine lv_iconst (v := 1) hx hb dX5_isDay_20 (by decide) ?_
      refine lv_goto (tgt := 25) hx hb dX5_isDay_21 (by decide) ?_
      exact W.zret (v := (1 : Int32)) hx hb hr rfl (fun t ht hW => ⟨(1 : Int32), rfl, Option.some.inj hf, ht⟩) (fun q h => nomatch h) dX5_isDay_25
def fX5_stepToward (v_t_places : Int32) (v_t_ways : Nat → Int32) (v_t_distances : Nat → Int32) (p0 : Int32) (p1 : Int32) : Option (Int32) :=
  bo1 (fX5_distance v_t_distances p0 p1) fun r1 =>
  vlet (r1 - (1 : Int32)) fun x3 =>
  if 0 ≤ x3 then
    lo1 (fun g5 (x4 : Int32) =>
      if v_t_places ≤ x4 then
        some p0
      else
        bo1 (fX5_hasWay v_t_ways p0 x4) fun r6 =>
        jo0 (
          vlet (x4 + (1 : Int32)) fun x9 =>
          g5 x9) fun k8 =>
        if r6 = 0 then
          k8
        else
          bo1 (fX5_distance v_t_distances x4 p1) fun r10 =>
          if r10 = x3 then
            some x4
          else
            k8) 400 (0 : Int32)
  else
    some p0
set_option maxHeartbeats 4000000 in
set_option maxRecDepth 100000 in
theorem mX5_stepToward (l : Launch) (D : va_G) (cy : Nat → ClassId) (q_t q_t_ways q_t_distances q_t_kind q_t_a q_t_home q_t_aim q_t_at : Nat) (v_t_places : Int32) (v_t_people : Int32) (v_t_hour : Int32) (v_t_chance : Int32) (v_t_seed : Int32) (v_t_ways : Nat → Int32) (v_t_distances : Nat → Int32) (p0 : Int32) (p1 : Int32) {r_ : Int32} (hf : fX5_stepToward v_t_places v_t_ways v_t_distances p0 p1 = some r_) : Met l yX5_stepToward wsX5_stepToward ({ frames := 1, cells := 0, slots := 0, locals := 22 }) (va_Pc [.ref q_t, .int p0, .int p1] (fun U => va_P D vwCl [(q_t, oX5 v_t_places q_t_ways q_t_distances v_t_people q_t_kind q_t_a q_t_home q_t_aim q_t_at v_t_hour v_t_chance v_t_seed), (q_t_ways, .inl (cy 0, 12, .inl v_t_ways)), (q_t_distances, .inl (cy 0, 144, .inl v_t_distances))] U.heap ∧ xK D cy U)) (vp_Si (fun x => x = r_)) 0 0 (fun _ => False) := by
  refine Met.ofW (cc := cX5_stepToward) (maxL := 5) (ret := (some .int)) (by decide) rfl ?_
  intro p e s m args below meth c s₁ B hml hv
  obtain ⟨rfl, hP, hK⟩ := hv
  have hx := B.exec
  have hb := B.bytes
  have hr := B.returns
  have hts := atoms_spec (ws := wsX5_stepToward) B.pre
  have hown : s.vm.findClass RX5 = some m.cls := findClass_of_methodNamed B.named
  have hlocks := B.notSynchronized
  have hP : va_P D vwCl [(q_t, oX5 v_t_places q_t_ways q_t_distances v_t_people q_t_kind q_t_a q_t_home q_t_aim q_t_at v_t_hour v_t_chance v_t_seed), (q_t_ways, .inl (cy 0, 12, .inl v_t_ways)), (q_t_distances, .inl (cy 0, 144, .inl v_t_distances))] s.heap := hP
  have hinX5 : ∀ w ∈ u_ws RX5 TX5 12, w ∈ wsX5_stepToward := by decide +kernel
  have hk9 := hts (.fieldLink RX5 9 "ShowsWhereNobodyIs$Town" "places" "I") (by decide +kernel)
  have hl := lv_entry ([.ref q_t, .int p0, .int p1]) (n := 5) (Nat.le_of_ble_eq_true rfl)
  rw [lg_entry_eq]
  generalize (lg_sl ([.ref q_t, .int p0, .int p1]) ++ List.replicate (5 - (lg_sl ([.ref q_t, .int p0, .int p1])).length) Slot.unset).toArray = ls at hl ⊢
  have hl : lv_has ls 5 [(0, .ref q_t), (1, .int p0), (2, .int p1)] := hl
  unfold fX5_stepToward at hf
  refine lv_aload_n hx hb dX5_stepToward_0 rfl (lv_at hl 0 rfl) ?_
  refine lv_iload_n hx hb dX5_stepToward_1 rfl (lv_at hl 1 rfl) ?_
  refine lv_iload_n hx hb dX5_stepToward_2 rfl (lv_at hl 2 rfl) ?_
  obtain ⟨r1, hr2, hf⟩ := boE1 hf
  have hPc := hP.sub (ws' := [(q_t, oX5 v_t_places q_t_ways q_t_distances v_t_people q_t_kind q_t_a q_t_home q_t_aim q_t_at v_t_hour v_t_chance v_t_seed), (q_t_distances, .inl (cy 0, 144, .inl v_t_distances))]) [0, 2] rfl
  refine xcSi (va_runV (As := [.int p0, .int p1]) (rest := []) ⟨hx, hb, hml, hown, hts⟩ (mX5_distance l D cy q_t q_t_ways q_t_distances q_t_kind q_t_a q_t_home q_t_aim q_t_at v_t_places v_t_people v_t_hour v_t_chance v_t_seed v_t_distances  p0 p1 hr2) (cwV 2 hts gX5_stepToward_X5_distance rfl rfl rfl (by decide +kernel) ⟨Nat.le_of_ble_eq_true rfl, Nat.le_of_ble_eq_true rfl⟩) (xPV hK hPc (ci := 5) (q0 := 0) rfl rfl) rfl rfl hl.1 rfl (lv_room (Nat.le_of_ble_eq_true rfl)) dX5_stepToward_3 ⟨Nat.le_of_ble_eq_true rfl, Nat.le_of_ble_eq_true rfl⟩) ?_
  refine lv_iconst (v := 1) hx hb dX5_stepToward_6 (by decide) ?_
  refine lv_isub hx hb dX5_stepToward_7 ?_
  refine lv_topi (fun x3 ex3 => ?_)
  have hf := vlE hf ex3
  clear ex3
  refine lv_istore_n (lv' := [(3, .int x3), (0, .ref q_t), (1, .int p0), (2, .int p1)]) hx hb dX5_stepToward_8 rfl hl (by decide) rfl (fun ls hl => ?_)
  refine lv_iload_n hx hb dX5_stepToward_9 rfl (lv_at hl 0 rfl) ?_
  refine lv_if_ge (tgt := 15) hx hb dX5_stepToward_10 (by decide) (fun c15 => ?_) (fun c15 => ?_)
  · have hf := ifT hf c15
    clear c15
    refine lv_iconst (v := 0) hx hb dX5_stepToward_15 (by decide) ?_
    refine lv_istore (lv' := [(4, .int (0 : Int32)), (3, .int x3), (0, .ref q_t), (1, .int p0), (2, .int p1)]) hx hb dX5_stepToward_16 hl (by decide) rfl (fun ls hl => ?_)
    refine wlr1 18 (fun _ => []) (fun (x4 : Int32) ls => lv_has ls 5 [(4, .int x4), (3, .int x3), (0, .ref q_t), (1, .int p0), (2, .int p1)]) (fun g5 L18 x4 ls hl hf => ?_) 400 (0 : Int32) ls (lv_sub hl [0, 1, 2, 3, 4] rfl) hf
    refine lv_iload hx hb dX5_stepToward_18 (lv_at hl 0 rfl) ?_
    refine lv_aload_n hx hb dX5_stepToward_20 rfl (lv_at hl 2 rfl) ?_
    refine va_get (D := D) (ci := 5) (v := .int v_t_places) (C := RX5) (T := TX5) (N := 12) hx hb hts hinX5 hown hK.1 hP 0 rfl rfl 0 (by decide) hk9 (fun _ h9 => h9) rfl dX5_stepToward_21 ?_
    refine lv_icmp_ge (tgt := 57) hx hb dX5_stepToward_24 (by decide) (fun c14 => ?_) (fun c14 => ?_)
    · have hf := ifT hf c14
      clear c14
      refine lv_iload_n hx hb dX5_stepToward_57 rfl (lv_at hl 3 rfl) ?_
      exact W.iret (v := p0) hx hb hr (fun t ht hW => ⟨p0, rfl, Option.some.inj hf, ht⟩) (fun q h => nomatch h) dX5_stepToward_58
    · have hf := ifF hf c14
      clear c14
      refine lv_aload_n hx hb dX5_stepToward_27 rfl (lv_at hl 2 rfl) ?_
      refine lv_iload_n hx hb dX5_stepToward_28 rfl (lv_at hl 3 rfl) ?_
      refine lv_iload hx hb dX5_stepToward_29 (lv_at hl 0 rfl) ?_
      obtain ⟨r6, hr7, hf⟩ := boE1 hf
      have hPc := hP.sub (ws' := [(q_t, oX5 v_t_places q_t_ways q_t_distances v_t_people q_t_kind q_t_a q_t_home q_t_aim q_t_at v_t_hour v_t_chance v_t_seed), (q_t_ways, .inl (cy 0, 12, .inl v_t_ways))]) [0, 1] rfl
      refine xcSi (va_runV (As := [.int p0, .int x4]) (rest := []) ⟨hx, hb, hml, hown, hts⟩ (mX5_hasWay l D cy q_t q_t_ways q_t_distances q_t_kind q_t_a q_t_home q_t_aim q_t_at v_t_places v_t_people v_t_hour v_t_chance v_t_seed v_t_ways  p0 x4 hr7) (cwV 2 hts gX5_stepToward_X5_hasWay rfl rfl rfl (by decide +kernel) ⟨Nat.le_of_ble_eq_true rfl, Nat.le_of_ble_eq_true rfl⟩) (xPV hK hPc (ci := 5) (q0 := 0) rfl rfl) rfl rfl hl.1 rfl (lv_room (Nat.le_of_ble_eq_true rfl)) dX5_stepToward_31 ⟨Nat.le_of_ble_eq_true rfl, Nat.le_of_ble_eq_true rfl⟩) ?_
      refine jwr0 51 [] (fun  ls => lv_has ls 5 [(0, .ref q_t), (1, .int p0), (2, .int p1), (3, .int x3), (4, .int x4)]) hf (fun  ls hl hf => ?_) (fun k8 J51 hf => ?_)
      · obtain ⟨x9, ex9⟩ : ∃ y : Int32, y = x4 + (1 : Int32) := ⟨_, rfl⟩
        have hf := vlE hf ex9
        refine lv_iinc (v := x9) (lv' := [(4, .int x9), (0, .ref q_t), (1, .int p0), (2, .int p1), (3, .int x3)]) hx hb dX5_stepToward_51 hl (k := 4) rfl (by rw [ex9]; rfl) (by decide) rfl (fun ls hl => ?_)
        clear ex9
        refine lv_goto (tgt := 18) hx hb dX5_stepToward_54 (by decide) ?_
        exact L18 x9 ls (lv_sub hl [0, 4, 1, 2, 3] rfl) hf
      · refine lv_if_eq (tgt := 51) hx hb dX5_stepToward_34 (by decide) (fun c13 => ?_) (fun c13 => ?_)
        · have hf := ifT hf c13
          clear c13
          exact J51 ls (lv_sub hl [2, 3, 4, 1, 0] rfl) hf
        · have hf := ifF hf c13
          clear c13
          refine lv_aload_n hx hb dX5_stepToward_37 rfl (lv_at hl 2 rfl) ?_
          refine lv_iload hx hb dX5_stepToward_38 (lv_at hl 0 rfl) ?_
          refine lv_iload_n hx hb dX5_stepToward_40 rfl (lv_at hl 4 rfl) ?_
          obtain ⟨r10, hr11, hf⟩ := boE1 hf
          have hPc := hP.sub (ws' := [(q_t, oX5 v_t_places q_t_ways q_t_distances v_t_people q_t_kind q_t_a q_t_home q_t_aim q_t_at v_t_hour v_t_chance v_t_seed), (q_t_distances, .inl (cy 0, 144, .inl v_t_distances))]) [0, 2] rfl
          refine xcSi (va_runV (As := [.int x4, .int p1]) (rest := []) ⟨hx, hb, hml, hown, hts⟩ (mX5_distance l D cy q_t q_t_ways q_t_distances q_t_kind q_t_a q_t_home q_t_aim q_t_at v_t_places v_t_people v_t_hour v_t_chance v_t_seed v_t_distances  x4 p1 hr11) (cwV 2 hts gX5_stepToward_X5_distance rfl rfl rfl (by decide +kernel) ⟨Nat.le_of_ble_eq_true rfl, Nat.le_of_ble_eq_true rfl⟩) (xPV hK hPc (ci := 5) (q0 := 0) rfl rfl) rfl rfl hl.1 rfl (lv_room (Nat.le_of_ble_eq_true rfl)) dX5_stepToward_41 ⟨Nat.le_of_ble_eq_true rfl, Nat.le_of_ble_eq_true rfl⟩) ?_
          refine lv_iload_n hx hb dX5_stepToward_44 rfl (lv_at hl 1 rfl) ?_
          refine lv_icmp_ne (tgt := 51) hx hb dX5_stepToward_45 (by decide) (fun c12 => ?_) (fun c12 => ?_)
          · have hf := ifF hf c12
            clear c12
            exact J51 ls (lv_sub hl [2, 3, 4, 1, 0] rfl) hf
          · have hf := ifT hf c12
            clear c12
            refine lv_iload hx hb dX5_stepToward_48 (lv_at hl 0 rfl) ?_
            exact W.iret (v := x4) hx hb hr (fun t ht hW => ⟨x4, rfl, Option.some.inj hf, ht⟩) (fun q h => nomatch h) dX5_stepToward_50
  · have hf := ifF hf c15
    clear c15
    refine lv_iload_n hx hb dX5_stepToward_13 rfl (lv_at hl 2 rfl) ?_
    exact W.iret (v := p0) hx hb hr (fun t ht hW => ⟨p0, rfl, Option.some.inj hf, ht⟩) (fun q h => nomatch h) dX5_stepToward_14
def fX5_walkRound (v_t_places : Int32) (v_t_ways : Nat → Int32) (p0 : Int32) : Option (Int32) :=
  vlet (p0 + (1 : Int32)) fun x1 =>
  lo1 (fun g3 (x2 : Int32) =>
    if v_t_places ≤ x2 then
      lo1 (fun g5 (x4 : Int32) =>
        if p0 ≤ x4 then
          some p0
        else
          bo1 (fX5_hasWay v_t_ways p0 x4) fun r6 =>
          if r6 = 0 then
            vlet (x4 + (1 : Int32)) fun x8 =>
            g5 x8
          else
            some x4) 400 (0 : Int32)
    else
      bo1 (fX5_hasWay v_t_ways p0 x2) fun r11 =>
      if r11 = 0 then
        vlet (x2 + (1 : Int32)) fun x13 =>
        g3 x13
      else
        some x2) 400 x1
set_option maxHeartbeats 4000000 in
set_option maxRecDepth 100000 in
theorem mX5_walkRound (l : Launch) (D : va_G) (cy : Nat → ClassId) (q_t q_t_ways q_t_distances q_t_kind q_t_a q_t_home q_t_aim q_t_at : Nat) (v_t_places : Int32) (v_t_people : Int32) (v_t_hour : Int32) (v_t_chance : Int32) (v_t_seed : Int32) (v_t_ways : Nat → Int32) (p0 : Int32) {r_ : Int32} (hf : fX5_walkRound v_t_places v_t_ways p0 = some r_) : Met l yX5_walkRound wsX5_walkRound ({ frames := 1, cells := 0, slots := 0, locals := 22 }) (va_Pc [.ref q_t, .int p0] (fun U => va_P D vwCl [(q_t, oX5 v_t_places q_t_ways q_t_distances v_t_people q_t_kind q_t_a q_t_home q_t_aim q_t_at v_t_hour v_t_chance v_t_seed), (q_t_ways, .inl (cy 0, 12, .inl v_t_ways))] U.heap ∧ xK D cy U)) (vp_Si (fun x => x = r_)) 0 0 (fun _ => False) := by
  refine Met.ofW (cc := cX5_walkRound) (maxL := 3) (ret := (some .int)) (by decide) rfl ?_
  intro p e s m args below meth c s₁ B hml hv
  obtain ⟨rfl, hP, hK⟩ := hv
  have hx := B.exec
  have hb := B.bytes
  have hr := B.returns
  have hts := atoms_spec (ws := wsX5_walkRound) B.pre
  have hown : s.vm.findClass RX5 = some m.cls := findClass_of_methodNamed B.named
  have hlocks := B.notSynchronized
  have hP : va_P D vwCl [(q_t, oX5 v_t_places q_t_ways q_t_distances v_t_people q_t_kind q_t_a q_t_home q_t_aim q_t_at v_t_hour v_t_chance v_t_seed), (q_t_ways, .inl (cy 0, 12, .inl v_t_ways))] s.heap := hP
  have hinX5 : ∀ w ∈ u_ws RX5 TX5 12, w ∈ wsX5_walkRound := by decide +kernel
  have hk9 := hts (.fieldLink RX5 9 "ShowsWhereNobodyIs$Town" "places" "I") (by decide +kernel)
  have hl := lv_entry ([.ref q_t, .int p0]) (n := 3) (Nat.le_of_ble_eq_true rfl)
  rw [lg_entry_eq]
  generalize (lg_sl ([.ref q_t, .int p0]) ++ List.replicate (3 - (lg_sl ([.ref q_t, .int p0])).length) Slot.unset).toArray = ls at hl ⊢
  have hl : lv_has ls 3 [(0, .ref q_t), (1, .int p0)] := hl
  unfold fX5_walkRound at hf
  refine lv_iload_n hx hb dX5_walkRound_0 rfl (lv_at hl 1 rfl) ?_
  refine lv_iconst (v := 1) hx hb dX5_walkRound_1 (by decide) ?_
  refine lv_iadd hx hb dX5_walkRound_2 ?_
  refine lv_topi (fun x1 ex1 => ?_)
  have hf := vlE hf ex1
  clear ex1
  refine lv_istore_n (lv' := [(2, .int x1), (0, .ref q_t), (1, .int p0)]) hx hb dX5_walkRound_3 rfl hl (by decide) rfl (fun ls hl => ?_)
  refine wlr1 4 (fun _ => []) (fun (x2 : Int32) ls => lv_has ls 3 [(2, .int x2), (0, .ref q_t), (1, .int p0)]) (fun g3 L4 x2 ls hl hf => ?_) 400 x1 ls (lv_sub hl [0, 1, 2] rfl) hf
  refine lv_iload_n hx hb dX5_walkRound_4 rfl (lv_at hl 0 rfl) ?_
  refine lv_aload_n hx hb dX5_walkRound_5 rfl (lv_at hl 1 rfl) ?_
  refine va_get (D := D) (ci := 5) (v := .int v_t_places) (C := RX5) (T := TX5) (N := 12) hx hb hts hinX5 hown hK.1 hP 0 rfl rfl 0 (by decide) hk9 (fun _ h9 => h9) rfl dX5_walkRound_6 ?_
  refine lv_icmp_ge (tgt := 29) hx hb dX5_walkRound_9 (by decide) (fun c15 => ?_) (fun c15 => ?_)
  · have hf := ifT hf c15
    clear c15
    refine lv_iconst (v := 0) hx hb dX5_walkRound_29 (by decide) ?_
    refine lv_istore_n (lv' := [(2, .int (0 : Int32)), (0, .ref q_t), (1, .int p0)]) hx hb dX5_walkRound_30 rfl hl (by decide) rfl (fun ls hl => ?_)
    refine wlr1 31 (fun _ => []) (fun (x4 : Int32) ls => lv_has ls 3 [(2, .int x4), (0, .ref q_t), (1, .int p0)]) (fun g5 L31 x4 ls hl hf => ?_) 400 (0 : Int32) ls (lv_sub hl [0, 1, 2] rfl) hf
    refine lv_iload_n hx hb dX5_walkRound_31 rfl (lv_at hl 0 rfl) ?_
    refine lv_iload_n hx hb dX5_walkRound_32 rfl (lv_at hl 2 rfl) ?_
    refine lv_icmp_ge (tgt := 53) hx hb dX5_walkRound_33 (by decide) (fun c10 => ?_) (fun c10 => ?_)
    · have hf := ifT hf c10
      clear c10
      refine lv_iload_n hx hb dX5_walkRound_53 rfl (lv_at hl 2 rfl) ?_
      exact W.iret (v := p0) hx hb hr (fun t ht hW => ⟨p0, rfl, Option.some.inj hf, ht⟩) (fun q h => nomatch h) dX5_walkRound_54
    · have hf := ifF hf c10
      clear c10
      refine lv_aload_n hx hb dX5_walkRound_36 rfl (lv_at hl 1 rfl) ?_
      refine lv_iload_n hx hb dX5_walkRound_37 rfl (lv_at hl 2 rfl) ?_
      refine lv_iload_n hx hb dX5_walkRound_38 rfl (lv_at hl 0 rfl) ?_
      obtain ⟨r6, hr7, hf⟩ := boE1 hf
      have hPc := hP.sub (ws' := [(q_t, oX5 v_t_places q_t_ways q_t_distances v_t_people q_t_kind q_t_a q_t_home q_t_aim q_t_at v_t_hour v_t_chance v_t_seed), (q_t_ways, .inl (cy 0, 12, .inl v_t_ways))]) [0, 1] rfl
      refine xcSi (va_runV (As := [.int p0, .int x4]) (rest := []) ⟨hx, hb, hml, hown, hts⟩ (mX5_hasWay l D cy q_t q_t_ways q_t_distances q_t_kind q_t_a q_t_home q_t_aim q_t_at v_t_places v_t_people v_t_hour v_t_chance v_t_seed v_t_ways  p0 x4 hr7) (cwV 2 hts gX5_walkRound_X5_hasWay rfl rfl rfl (by decide +kernel) ⟨Nat.le_of_ble_eq_true rfl, Nat.le_of_ble_eq_true rfl⟩) (xPV hK hPc (ci := 5) (q0 := 0) rfl rfl) rfl rfl hl.1 rfl (lv_room (Nat.le_of_ble_eq_true rfl)) dX5_walkRound_39 ⟨Nat.le_of_ble_eq_true rfl, Nat.le_of_ble_eq_true rfl⟩) ?_
      refine lv_if_eq (tgt := 47) hx hb dX5_walkRound_42 (by decide) (fun c9 => ?_) (fun c9 => ?_)
      · have hf := ifT hf c9
        clear c9
        obtain ⟨x8, ex8⟩ : ∃ y : Int32, y = x4 + (1 : Int32) := ⟨_, rfl⟩
        have hf := vlE hf ex8
        refine lv_iinc (v := x8) (lv' := [(2, .int x8), (0, .ref q_t), (1, .int p0)]) hx hb dX5_walkRound_47 hl (k := 0) rfl (by rw [ex8]; rfl) (by decide) rfl (fun ls hl => ?_)
        clear ex8
        refine lv_goto (tgt := 31) hx hb dX5_walkRound_50 (by decide) ?_
        exact L31 x8 ls (lv_sub hl [0, 1, 2] rfl) hf
      · have hf := ifF hf c9
        clear c9
        refine lv_iload_n hx hb dX5_walkRound_45 rfl (lv_at hl 0 rfl) ?_
        exact W.iret (v := x4) hx hb hr (fun t ht hW => ⟨x4, rfl, Option.some.inj hf, ht⟩) (fun q h => nomatch h) dX5_walkRound_46
  · have hf := ifF hf c15
    clear c15
    refine lv_aload_n hx hb dX5_walkRound_12 rfl (lv_at hl 1 rfl) ?_
    refine lv_iload_n hx hb dX5_walkRound_13 rfl (lv_at hl 2 rfl) ?_
    refine lv_iload_n hx hb dX5_walkRound_14 rfl (lv_at hl 0 rfl) ?_
    obtain ⟨r11, hr12, hf⟩ := boE1 hf
    have hPc := hP.sub (ws' := [(q_t, oX5 v_t_places q_t_ways q_t_distances v_t_people q_t_kind q_t_a q_t_home q_t_aim q_t_at v_t_hour v_t_chance v_t_seed), (q_t_ways, .inl (cy 0, 12, .inl v_t_ways))]) [0, 1] rfl
    refine xcSi (va_runV (As := [.int p0, .int x2]) (rest := []) ⟨hx, hb, hml, hown, hts⟩ (mX5_hasWay l D cy q_t q_t_ways q_t_distances q_t_kind q_t_a q_t_home q_t_aim q_t_at v_t_places v_t_people v_t_hour v_t_chance v_t_seed v_t_ways  p0 x2 hr12) (cwV 2 hts gX5_walkRound_X5_hasWay rfl rfl rfl (by decide +kernel) ⟨Nat.le_of_ble_eq_true rfl, Nat.le_of_ble_eq_true rfl⟩) (xPV hK hPc (ci := 5) (q0 := 0) rfl rfl) rfl rfl hl.1 rfl (lv_room (Nat.le_of_ble_eq_true rfl)) dX5_walkRound_15 ⟨Nat.le_of_ble_eq_true rfl, Nat.le_of_ble_eq_true rfl⟩) ?_
    refine lv_if_eq (tgt := 23) hx hb dX5_walkRound_18 (by decide) (fun c14 => ?_) (fun c14 => ?_)
    · have hf := ifT hf c14
      clear c14
      obtain ⟨x13, ex13⟩ : ∃ y : Int32, y = x2 + (1 : Int32) := ⟨_, rfl⟩
      have hf := vlE hf ex13
      refine lv_iinc (v := x13) (lv' := [(2, .int x13), (0, .ref q_t), (1, .int p0)]) hx hb dX5_walkRound_23 hl (k := 0) rfl (by rw [ex13]; rfl) (by decide) rfl (fun ls hl => ?_)
      clear ex13
      refine lv_goto (tgt := 4) hx hb dX5_walkRound_26 (by decide) ?_
      exact L4 x13 ls (lv_sub hl [0, 1, 2] rfl) hf
    · have hf := ifF hf c14
      clear c14
      refine lv_iload_n hx hb dX5_walkRound_21 rfl (lv_at hl 0 rfl) ?_
      exact W.iret (v := x2) hx hb hr (fun t ht hW => ⟨x2, rfl, Option.some.inj hf, ht⟩) (fun q h => nomatch h) dX5_walkRound_22
def fX5_endHour (v_t_hour : Int32) : Option (Int32) :=
  some (if (9999 : Int32) < (v_t_hour + (1 : Int32)) then (9999 : Int32) else v_t_hour + (1 : Int32))
set_option maxHeartbeats 4000000 in
set_option maxRecDepth 100000 in
theorem mX5_endHour (l : Launch) (D : va_G) (cy : Nat → ClassId) (q_t q_t_ways q_t_distances q_t_kind q_t_a q_t_home q_t_aim q_t_at : Nat) (v_t_places : Int32) (v_t_people : Int32) (v_t_hour : Int32) (v_t_chance : Int32) (v_t_seed : Int32) (sz : Nat) {n_t_hour : Int32} (hf : fX5_endHour v_t_hour = some n_t_hour) : Met l yX5_endHour wsX5_endHour ({ frames := 1, cells := 0, slots := 0, locals := 21 }) (va_Pc [.ref q_t] (fun U => U.heap.size = sz ∧ va_P D vwCl [(q_t, oX5 v_t_places q_t_ways q_t_distances v_t_people q_t_kind q_t_a q_t_home q_t_aim q_t_at v_t_hour v_t_chance v_t_seed)] U.heap ∧ xK D cy U ∧ va_D (fun _ => True) [(q_t, oX5 v_t_places q_t_ways q_t_distances v_t_people q_t_kind q_t_a q_t_home q_t_aim q_t_at v_t_hour v_t_chance v_t_seed)])) (va_Qv (fun (_ : Unit) => True) (fun _ t => va_P D vwCl [(q_t, oX5 v_t_places q_t_ways q_t_distances v_t_people q_t_kind q_t_a q_t_home q_t_aim q_t_at n_t_hour v_t_chance v_t_seed)] t.heap) (va_A [(q_t, oX5 v_t_places q_t_ways q_t_distances v_t_people q_t_kind q_t_a q_t_home q_t_aim q_t_at v_t_hour v_t_chance v_t_seed)] sz)) 0 0 (va_A [(q_t, oX5 v_t_places q_t_ways q_t_distances v_t_people q_t_kind q_t_a q_t_home q_t_aim q_t_at v_t_hour v_t_chance v_t_seed)] sz) := by
  refine Met.ofW (cc := cX5_endHour) (maxL := 1) (ret := none) (by decide) rfl ?_
  intro p e s m args below meth c s₁ B hml hv
  obtain ⟨rfl, hsz, hP, hK, hD0⟩ := hv
  have hx := B.exec
  have hb := B.bytes
  have hr := B.returns
  have hts := atoms_spec (ws := wsX5_endHour) B.pre
  have hown : s.vm.findClass RX5 = some m.cls := findClass_of_methodNamed B.named
  have hlocks := B.notSynchronized
  subst hsz
  have hD := hD0.self (sz := s.heap.size)
  generalize hAe : va_A [(q_t, oX5 v_t_places q_t_ways q_t_distances v_t_people q_t_kind q_t_a q_t_home q_t_aim q_t_at v_t_hour v_t_chance v_t_seed)] s.heap.size = A at hD ⊢
  have hA : ∀ q : Nat, s.heap.size ≤ q → A q := fun q h => by rw [← hAe]; exact Or.inr h
  have hS : va_S A s.heap s.heap [] := va_S.rf
  have hP : va_P D vwCl [(q_t, oX5 v_t_places q_t_ways q_t_distances v_t_people q_t_kind q_t_a q_t_home q_t_aim q_t_at v_t_hour v_t_chance v_t_seed)] s.heap := hP
  have hinX5 : ∀ w ∈ u_ws RX5 TX5 12, w ∈ wsX5_endHour := by decide +kernel
  have hk55 := hts (.fieldLink RX5 55 "ShowsWhereNobodyIs$Town" "hour" "I") (by decide +kernel)
  have hm112 := hts (.methodLink RX5 112 Lib.Math.min.name) (by decide +kernel)
  have hmsmin := hts (.static Lib.Math.min.name) (by decide +kernel)
  have hmi := hts (.initialized "java/lang/Math") (by decide +kernel)
  have hmcmin := hts (.code Lib.Math.min.name Lib.Math.min.code 2 (some .int)) (by decide +kernel)
  have hl := lv_entry ([.ref q_t]) (n := 1) (Nat.le_of_ble_eq_true rfl)
  rw [lg_entry_eq]
  generalize (lg_sl ([.ref q_t]) ++ List.replicate (1 - (lg_sl ([.ref q_t])).length) Slot.unset).toArray = ls at hl ⊢
  have hl : lv_has ls 1 [(0, .ref q_t)] := hl
  unfold fX5_endHour at hf
  refine lv_aload_n hx hb dX5_endHour_0 rfl (lv_at hl 0 rfl) ?_
  refine lv_aload_n hx hb dX5_endHour_1 rfl (lv_at hl 0 rfl) ?_
  refine va_get (D := D) (ci := 5) (v := .int v_t_hour) (C := RX5) (T := TX5) (N := 12) hx hb hts hinX5 hown hK.1 hP 0 rfl rfl 9 (by decide) hk55 (fun _ h9 => h9) rfl dX5_endHour_2 ?_
  refine lv_iconst (v := 1) hx hb dX5_endHour_5 (by decide) ?_
  refine lv_iadd hx hb dX5_endHour_6 ?_
  refine lv_sipush (v := 9999) hx hb dX5_endHour_7 (by decide) ?_
  refine va_mmin hx hb (by rw [hml]; exact hl.1.symm) hown hm112 hmsmin hmi hmcmin (Nat.le_of_ble_eq_true rfl) (Nat.le_of_ble_eq_true rfl) (Nat.zero_le _) (Nat.zero_le _) dX5_endHour_10 ?_
  refine va_put (D := D) (ci := 5) (v := .int (if (9999 : Int32) < (v_t_hour + (1 : Int32)) then (9999 : Int32) else v_t_hour + (1 : Int32))) (ty := .int) (C := RX5) (T := TX5) (N := 12) hx hb hts hinX5 tyX5 tyX5_ok nmX5 hown hK.1 hP hD hS 0 rfl rfl 9 (by decide) hk55 (fun _ h9 => h9) rfl (by decide +kernel) rfl rfl (Nat.le_of_ble_eq_true rfl) dX5_endHour_13 (fun H locs hP hD hS => ?_)
  have hP : va_P D vwCl [(q_t, oX5 v_t_places q_t_ways q_t_distances v_t_people q_t_kind q_t_a q_t_home q_t_aim q_t_at (if (9999 : Int32) < (v_t_hour + (1 : Int32)) then (9999 : Int32) else v_t_hour + (1 : Int32)) v_t_chance v_t_seed)] H := hP
  have hD : va_D A [(q_t, oX5 v_t_places q_t_ways q_t_distances v_t_people q_t_kind q_t_a q_t_home q_t_aim q_t_at (if (9999 : Int32) < (v_t_hour + (1 : Int32)) then (9999 : Int32) else v_t_hour + (1 : Int32)) v_t_chance v_t_seed)] := hD
  cases hf
  exact W.vret hx hb hr (fun t ht hW => ⟨⟨(), rfl, trivial, xend ht hP⟩, hS.F ht⟩) hS.2.2 dX5_endHour_16
def fX5_goesTo (v_t_places : Int32) (v_t_hour : Int32) (v_t_ways : Nat → Int32) (v_t_distances : Nat → Int32) (v_t_kind : Nat → Int32) (v_t_home : Nat → Int32) (v_t_aim : Nat → Int32) (v_t_at : Nat → Int32) (p0 : Int32) (p1 : Int32) : Option (Int32) :=
  if p0 < 0 ∨ 8 ≤ p0.toNatClampNeg then none else
  vlet (v_t_at p0.toNatClampNeg) fun x2 =>
  if p0 < 0 ∨ 8 ≤ p0.toNatClampNeg then none else
  jo0 (
    bo1 (fX5_isDay v_t_hour) fun r5 =>
    jo1 (fun (y7 : Int32) =>
      bo1 (fX5_stepToward v_t_places v_t_ways v_t_distances x2 y7) fun r9 =>
      some r9) fun k8 =>
    if r5 = 0 then
      if p0 < 0 ∨ 8 ≤ p0.toNatClampNeg then none else
      k8 (v_t_home p0.toNatClampNeg)
    else
      if p0 < 0 ∨ 8 ≤ p0.toNatClampNeg then none else
      k8 (v_t_aim p0.toNatClampNeg)) fun k4 =>
  if (v_t_kind p0.toNatClampNeg) = (0 : Int32) then
    k4
  else
    if (v_t_kind p0.toNatClampNeg) = (1 : Int32) then
      some x2
    else
      if (v_t_kind p0.toNatClampNeg) = (2 : Int32) then
        bo1 (fX5_walkRound v_t_places v_t_ways x2) fun r27 =>
        some r27
      else
        if (v_t_kind p0.toNatClampNeg) = (3 : Int32) then
          some x2
        else
          if (v_t_kind p0.toNatClampNeg) = (4 : Int32) then
            bo1 (fX5_walkRound v_t_places v_t_ways x2) fun r20 =>
            bo1 (fX7_hasBit p1 r20) fun r22 =>
            if r22 = 0 then
              some x2
            else
              bo1 (fX5_walkRound v_t_places v_t_ways x2) fun r24 =>
              some r24
          else
            if (v_t_kind p0.toNatClampNeg) = (5 : Int32) then
              k4
            else
              some x2
set_option maxHeartbeats 4000000 in
set_option maxRecDepth 100000 in
theorem mX5_goesTo (l : Launch) (D : va_G) (cy : Nat → ClassId) (q_t q_t_ways q_t_distances q_t_kind q_t_a q_t_home q_t_aim q_t_at : Nat) (v_t_places : Int32) (v_t_people : Int32) (v_t_hour : Int32) (v_t_chance : Int32) (v_t_seed : Int32) (v_t_ways : Nat → Int32) (v_t_distances : Nat → Int32) (v_t_kind : Nat → Int32) (v_t_home : Nat → Int32) (v_t_aim : Nat → Int32) (v_t_at : Nat → Int32) (p0 : Int32) (p1 : Int32) {r_ : Int32} (hf : fX5_goesTo v_t_places v_t_hour v_t_ways v_t_distances v_t_kind v_t_home v_t_aim v_t_at p0 p1 = some r_) : Met l yX5_goesTo wsX5_goesTo ({ frames := 2, cells := 0, slots := 0, locals := 46 }) (va_Pc [.ref q_t, .int p0, .int p1] (fun U => va_P D vwCl [(q_t, oX5 v_t_places q_t_ways q_t_distances v_t_people q_t_kind q_t_a q_t_home q_t_aim q_t_at v_t_hour v_t_chance v_t_seed), (q_t_ways, .inl (cy 0, 12, .inl v_t_ways)), (q_t_distances, .inl (cy 0, 144, .inl v_t_distances)), (q_t_kind, .inl (cy 0, 8, .inl v_t_kind)), (q_t_home, .inl (cy 0, 8, .inl v_t_home)), (q_t_aim, .inl (cy 0, 8, .inl v_t_aim)), (q_t_at, .inl (cy 0, 8, .inl v_t_at))] U.heap ∧ xK D cy U)) (vp_Si (fun x => x = r_)) 0 0 (fun _ => False) := by
  refine Met.ofW (cc := cX5_goesTo) (maxL := 4) (ret := (some .int)) (by decide) rfl ?_
  intro p e s m args below meth c s₁ B hml hv
  obtain ⟨rfl, hP, hK⟩ := hv
  have hx := B.exec
  have hb := B.bytes
  have hr := B.returns
  have hts := atoms_spec (ws := wsX5_goesTo) B.pre
  have hown : s.vm.findClass RX5 = some m.cls := findClass_of_methodNamed B.named
  have hlocks := B.notSynchronized
  have hP : va_P D vwCl [(q_t, oX5 v_t_places q_t_ways q_t_distances v_t_people q_t_kind q_t_a q_t_home q_t_aim q_t_at v_t_hour v_t_chance v_t_seed), (q_t_ways, .inl (cy 0, 12, .inl v_t_ways)), (q_t_distances, .inl (cy 0, 144, .inl v_t_distances)), (q_t_kind, .inl (cy 0, 8, .inl v_t_kind)), (q_t_home, .inl (cy 0, 8, .inl v_t_home)), (q_t_aim, .inl (cy 0, 8, .inl v_t_aim)), (q_t_at, .inl (cy 0, 8, .inl v_t_at))] s.heap := hP
  have hinX5 : ∀ w ∈ u_ws RX5 TX5 12, w ∈ wsX5_goesTo := by decide +kernel
  have hk34 := hts (.fieldLink RX5 34 "ShowsWhereNobodyIs$Town" "at" "[I") (by decide +kernel)
  have hk22 := hts (.fieldLink RX5 22 "ShowsWhereNobodyIs$Town" "kind" "[I") (by decide +kernel)
  have hk28 := hts (.fieldLink RX5 28 "ShowsWhereNobodyIs$Town" "home" "[I") (by decide +kernel)
  have hk31 := hts (.fieldLink RX5 31 "ShowsWhereNobodyIs$Town" "aim" "[I") (by decide +kernel)
  have hiniX7 := hts (.initialized RX7) (by decide +kernel)
  have hstX7_hasBit := hts (.static yX7_hasBit) (by decide +kernel)
  have hl := lv_entry ([.ref q_t, .int p0, .int p1]) (n := 4) (Nat.le_of_ble_eq_true rfl)
  rw [lg_entry_eq]
  generalize (lg_sl ([.ref q_t, .int p0, .int p1]) ++ List.replicate (4 - (lg_sl ([.ref q_t, .int p0, .int p1])).length) Slot.unset).toArray = ls at hl ⊢
  have hl : lv_has ls 4 [(0, .ref q_t), (1, .int p0), (2, .int p1)] := hl
  unfold fX5_goesTo at hf
  refine lv_aload_n hx hb dX5_goesTo_0 rfl (lv_at hl 0 rfl) ?_
  refine va_get (D := D) (ci := 5) (v := .ref q_t_at) (C := RX5) (T := TX5) (N := 12) hx hb hts hinX5 hown hK.1 hP 0 rfl rfl 8 (by decide) hk34 (fun _ h9 => h9) rfl dX5_goesTo_1 ?_
  refine lv_iload_n hx hb dX5_goesTo_4 rfl (lv_at hl 1 rfl) ?_
  obtain ⟨hi1, hf⟩ := ckE hf
  refine va_iald hx hb hK.1 hP 6 0 rfl rfl hi1 dX5_goesTo_5 ?_
  refine lv_topi (fun x2 ex2 => ?_)
  have hf := vlE hf ex2
  clear ex2
  refine lv_istore_n (lv' := [(3, .int x2), (0, .ref q_t), (1, .int p0), (2, .int p1)]) hx hb dX5_goesTo_6 rfl hl (by decide) rfl (fun ls hl => ?_)
  refine lv_aload_n hx hb dX5_goesTo_7 rfl (lv_at hl 1 rfl) ?_
  refine va_get (D := D) (ci := 5) (v := .ref q_t_kind) (C := RX5) (T := TX5) (N := 12) hx hb hts hinX5 hown hK.1 hP 0 rfl rfl 4 (by decide) hk22 (fun _ h9 => h9) rfl dX5_goesTo_8 ?_
  refine lv_iload_n hx hb dX5_goesTo_11 rfl (lv_at hl 2 rfl) ?_
  obtain ⟨hi3, hf⟩ := ckE hf
  refine va_iald hx hb hK.1 hP 3 0 rfl rfl hi3 dX5_goesTo_12 ?_
  refine jwr0 52 [] (fun  ls => lv_has ls 4 [(0, .ref q_t), (1, .int p0), (3, .int x2)]) hf (fun  ls hl hf => ?_) (fun k4 J52 hf => ?_)
  · refine lv_aload_n hx hb dX5_goesTo_52 rfl (lv_at hl 0 rfl) ?_
    refine lv_iload_n hx hb dX5_goesTo_53 rfl (lv_at hl 2 rfl) ?_
    refine lv_aload_n hx hb dX5_goesTo_54 rfl (lv_at hl 0 rfl) ?_
    obtain ⟨r5, hr6, hf⟩ := boE1 hf
    have hPc := hP.sub (ws' := [(q_t, oX5 v_t_places q_t_ways q_t_distances v_t_people q_t_kind q_t_a q_t_home q_t_aim q_t_at v_t_hour v_t_chance v_t_seed)]) [0] rfl
    refine xcSi (va_runV (As := []) (rest := [.int x2, .ref q_t]) ⟨hx, hb, hml, hown, hts⟩ (mX5_isDay l D cy q_t q_t_ways q_t_distances q_t_kind q_t_a q_t_home q_t_aim q_t_at v_t_places v_t_people v_t_hour v_t_chance v_t_seed   hr6) (cwV 0 hts gX5_goesTo_X5_isDay rfl rfl rfl (by decide +kernel) ⟨Nat.le_of_ble_eq_true rfl, Nat.le_of_ble_eq_true rfl⟩) (xPV hK hPc (ci := 5) (q0 := 0) rfl rfl) rfl rfl hl.1 rfl (lv_room (Nat.le_of_ble_eq_true rfl)) dX5_goesTo_55 ⟨Nat.le_of_ble_eq_true rfl, Nat.le_of_ble_eq_true rfl⟩) ?_
    refine jwr1 76 (fun (y7 : Int32) => [.int y7, .int x2, .ref q_t]) (fun (y7 : Int32) ls => lv_has ls 4 []) hf (fun y7 ls hl hf => ?_) (fun k8 J76 hf => ?_)
    · obtain ⟨r9, hr10, hf⟩ := boE1 hf
      have hPc := hP.sub (ws' := [(q_t, oX5 v_t_places q_t_ways q_t_distances v_t_people q_t_kind q_t_a q_t_home q_t_aim q_t_at v_t_hour v_t_chance v_t_seed), (q_t_ways, .inl (cy 0, 12, .inl v_t_ways)), (q_t_distances, .inl (cy 0, 144, .inl v_t_distances))]) [0, 1, 2] rfl
      refine xcSi (va_runV (As := [.int x2, .int y7]) (rest := []) ⟨hx, hb, hml, hown, hts⟩ (mX5_stepToward l D cy q_t q_t_ways q_t_distances q_t_kind q_t_a q_t_home q_t_aim q_t_at v_t_places v_t_people v_t_hour v_t_chance v_t_seed v_t_ways v_t_distances  x2 y7 hr10) (cwV 2 hts gX5_goesTo_X5_stepToward rfl rfl rfl (by decide +kernel) ⟨Nat.le_of_ble_eq_true rfl, Nat.le_of_ble_eq_true rfl⟩) (xPV hK hPc (ci := 5) (q0 := 0) rfl rfl) rfl rfl hl.1 rfl (lv_room (Nat.le_of_ble_eq_true rfl)) dX5_goesTo_76 ⟨Nat.le_of_ble_eq_true rfl, Nat.le_of_ble_eq_true rfl⟩) ?_
      exact W.iret (v := r9) hx hb hr (fun t ht hW => ⟨r9, rfl, Option.some.inj hf, ht⟩) (fun q h => nomatch h) dX5_goesTo_79
    · refine lv_if_eq (tgt := 70) hx hb dX5_goesTo_58 (by decide) (fun c13 => ?_) (fun c13 => ?_)
      · have hf := ifT hf c13
        clear c13
        refine lv_aload_n hx hb dX5_goesTo_70 rfl (lv_at hl 0 rfl) ?_
        refine va_get (D := D) (ci := 5) (v := .ref q_t_home) (C := RX5) (T := TX5) (N := 12) hx hb hts hinX5 hown hK.1 hP 0 rfl rfl 6 (by decide) hk28 (fun _ h9 => h9) rfl dX5_goesTo_71 ?_
        refine lv_iload_n hx hb dX5_goesTo_74 rfl (lv_at hl 1 rfl) ?_
        obtain ⟨hi11, hf⟩ := ckE hf
        refine va_iald hx hb hK.1 hP 4 0 rfl rfl hi11 dX5_goesTo_75 ?_
        exact J76 (v_t_home p0.toNatClampNeg) ls (lv_sub hl [] rfl) hf
      · have hf := ifF hf c13
        clear c13
        refine lv_aload_n hx hb dX5_goesTo_61 rfl (lv_at hl 0 rfl) ?_
        refine va_get (D := D) (ci := 5) (v := .ref q_t_aim) (C := RX5) (T := TX5) (N := 12) hx hb hts hinX5 hown hK.1 hP 0 rfl rfl 7 (by decide) hk31 (fun _ h9 => h9) rfl dX5_goesTo_62 ?_
        refine lv_iload_n hx hb dX5_goesTo_65 rfl (lv_at hl 1 rfl) ?_
        obtain ⟨hi12, hf⟩ := ckE hf
        refine va_iald hx hb hK.1 hP 5 0 rfl rfl hi12 dX5_goesTo_66 ?_
        refine lv_goto (tgt := 76) hx hb dX5_goesTo_67 (by decide) ?_
        exact J76 (v_t_aim p0.toNatClampNeg) ls (lv_sub hl [] rfl) hf
  · by_cases c14 : (v_t_kind p0.toNatClampNeg) = (0 : Int32)
    · have hf := ifT hf c14
      refine lv_tableIn (tgt := 52) hx hb dX5_goesTo_13 (by rw [c14]; decide) (by rw [c14]; decide) (by rw [c14]; rfl) (by decide) ?_
      exact J52 ls (lv_sub hl [1, 2, 0] rfl) hf
    · have hf := ifF hf c14
      by_cases c15 : (v_t_kind p0.toNatClampNeg) = (1 : Int32)
      · have hf := ifT hf c15
        refine lv_tableIn (tgt := 108) hx hb dX5_goesTo_13 (by rw [c15]; decide) (by rw [c15]; decide) (by rw [c15]; rfl) (by decide) ?_
        refine lv_iload_n hx hb dX5_goesTo_108 rfl (lv_at hl 0 rfl) ?_
        exact W.iret (v := x2) hx hb hr (fun t ht hW => ⟨x2, rfl, Option.some.inj hf, ht⟩) (fun q h => nomatch h) dX5_goesTo_109
      · have hf := ifF hf c15
        by_cases c16 : (v_t_kind p0.toNatClampNeg) = (2 : Int32)
        · have hf := ifT hf c16
          refine lv_tableIn (tgt := 80) hx hb dX5_goesTo_13 (by rw [c16]; decide) (by rw [c16]; decide) (by rw [c16]; rfl) (by decide) ?_
          refine lv_aload_n hx hb dX5_goesTo_80 rfl (lv_at hl 1 rfl) ?_
          refine lv_iload_n hx hb dX5_goesTo_81 rfl (lv_at hl 0 rfl) ?_
          obtain ⟨r27, hr28, hf⟩ := boE1 hf
          have hPc := hP.sub (ws' := [(q_t, oX5 v_t_places q_t_ways q_t_distances v_t_people q_t_kind q_t_a q_t_home q_t_aim q_t_at v_t_hour v_t_chance v_t_seed), (q_t_ways, .inl (cy 0, 12, .inl v_t_ways))]) [0, 1] rfl
          refine xcSi (va_runV (As := [.int x2]) (rest := []) ⟨hx, hb, hml, hown, hts⟩ (mX5_walkRound l D cy q_t q_t_ways q_t_distances q_t_kind q_t_a q_t_home q_t_aim q_t_at v_t_places v_t_people v_t_hour v_t_chance v_t_seed v_t_ways  x2 hr28) (cwV 1 hts gX5_goesTo_X5_walkRound rfl rfl rfl (by decide +kernel) ⟨Nat.le_of_ble_eq_true rfl, Nat.le_of_ble_eq_true rfl⟩) (xPV hK hPc (ci := 5) (q0 := 0) rfl rfl) rfl rfl hl.1 rfl (lv_room (Nat.le_of_ble_eq_true rfl)) dX5_goesTo_82 ⟨Nat.le_of_ble_eq_true rfl, Nat.le_of_ble_eq_true rfl⟩) ?_
          exact W.iret (v := r27) hx hb hr (fun t ht hW => ⟨r27, rfl, Option.some.inj hf, ht⟩) (fun q h => nomatch h) dX5_goesTo_85
        · have hf := ifF hf c16
          by_cases c17 : (v_t_kind p0.toNatClampNeg) = (3 : Int32)
          · have hf := ifT hf c17
            refine lv_tableIn (tgt := 108) hx hb dX5_goesTo_13 (by rw [c17]; decide) (by rw [c17]; decide) (by rw [c17]; rfl) (by decide) ?_
            refine lv_iload_n hx hb dX5_goesTo_108 rfl (lv_at hl 0 rfl) ?_
            exact W.iret (v := x2) hx hb hr (fun t ht hW => ⟨x2, rfl, Option.some.inj hf, ht⟩) (fun q h => nomatch h) dX5_goesTo_109
          · have hf := ifF hf c17
            by_cases c18 : (v_t_kind p0.toNatClampNeg) = (4 : Int32)
            · have hf := ifT hf c18
              refine lv_tableIn (tgt := 86) hx hb dX5_goesTo_13 (by rw [c18]; decide) (by rw [c18]; decide) (by rw [c18]; rfl) (by decide) ?_
              refine lv_iload_n hx hb dX5_goesTo_86 rfl (lv_at hl 3 rfl) ?_
              refine lv_aload_n hx hb dX5_goesTo_87 rfl (lv_at hl 1 rfl) ?_
              refine lv_iload_n hx hb dX5_goesTo_88 rfl (lv_at hl 0 rfl) ?_
              obtain ⟨r20, hr21, hf⟩ := boE1 hf
              have hPc := hP.sub (ws' := [(q_t, oX5 v_t_places q_t_ways q_t_distances v_t_people q_t_kind q_t_a q_t_home q_t_aim q_t_at v_t_hour v_t_chance v_t_seed), (q_t_ways, .inl (cy 0, 12, .inl v_t_ways))]) [0, 1] rfl
              refine xcSi (va_runV (As := [.int x2]) (rest := [.int p1]) ⟨hx, hb, hml, hown, hts⟩ (mX5_walkRound l D cy q_t q_t_ways q_t_distances q_t_kind q_t_a q_t_home q_t_aim q_t_at v_t_places v_t_people v_t_hour v_t_chance v_t_seed v_t_ways  x2 hr21) (cwV 1 hts gX5_goesTo_X5_walkRound rfl rfl rfl (by decide +kernel) ⟨Nat.le_of_ble_eq_true rfl, Nat.le_of_ble_eq_true rfl⟩) (xPV hK hPc (ci := 5) (q0 := 0) rfl rfl) rfl rfl hl.1 rfl (lv_room (Nat.le_of_ble_eq_true rfl)) dX5_goesTo_89 ⟨Nat.le_of_ble_eq_true rfl, Nat.le_of_ble_eq_true rfl⟩) ?_
              obtain ⟨r22, hr23, hf⟩ := boE1 hf
              have hPc := hP.sub (ws' := []) [] rfl
              refine xcSi (va_runSN (As := [.int p1, .int r20]) (rest := []) ⟨hx, hb, hml, hown, hts⟩ (mX7_hasBit l D cy    p1 r20 hr23) ⟨va_cnB 2 hts gX5_goesTo_X7_hasBit_n68 rfl rfl rfl hK.2.1 hiniX7 (by decide +kernel) ⟨Nat.le_of_ble_eq_true rfl, Nat.le_of_ble_eq_true rfl⟩, hstX7_hasBit, trivial⟩ (xPS hK hPc) rfl rfl hl.1 rfl (lv_room (Nat.le_of_ble_eq_true rfl)) dX5_goesTo_92 ⟨Nat.le_of_ble_eq_true rfl, Nat.le_of_ble_eq_true rfl⟩) ?_
              refine lv_if_eq (tgt := 106) hx hb dX5_goesTo_95 (by decide) (fun c26 => ?_) (fun c26 => ?_)
              · have hf := ifT hf c26
                clear c26
                refine lv_iload_n hx hb dX5_goesTo_106 rfl (lv_at hl 0 rfl) ?_
                exact W.iret (v := x2) hx hb hr (fun t ht hW => ⟨x2, rfl, Option.some.inj hf, ht⟩) (fun q h => nomatch h) dX5_goesTo_107
              · have hf := ifF hf c26
                clear c26
                refine lv_aload_n hx hb dX5_goesTo_98 rfl (lv_at hl 1 rfl) ?_
                refine lv_iload_n hx hb dX5_goesTo_99 rfl (lv_at hl 0 rfl) ?_
                obtain ⟨r24, hr25, hf⟩ := boE1 hf
                have hPc := hP.sub (ws' := [(q_t, oX5 v_t_places q_t_ways q_t_distances v_t_people q_t_kind q_t_a q_t_home q_t_aim q_t_at v_t_hour v_t_chance v_t_seed), (q_t_ways, .inl (cy 0, 12, .inl v_t_ways))]) [0, 1] rfl
                refine xcSi (va_runV (As := [.int x2]) (rest := []) ⟨hx, hb, hml, hown, hts⟩ (mX5_walkRound l D cy q_t q_t_ways q_t_distances q_t_kind q_t_a q_t_home q_t_aim q_t_at v_t_places v_t_people v_t_hour v_t_chance v_t_seed v_t_ways  x2 hr25) (cwV 1 hts gX5_goesTo_X5_walkRound rfl rfl rfl (by decide +kernel) ⟨Nat.le_of_ble_eq_true rfl, Nat.le_of_ble_eq_true rfl⟩) (xPV hK hPc (ci := 5) (q0 := 0) rfl rfl) rfl rfl hl.1 rfl (lv_room (Nat.le_of_ble_eq_true rfl)) dX5_goesTo_100 ⟨Nat.le_of_ble_eq_true rfl, Nat.le_of_ble_eq_true rfl⟩) ?_
                refine lv_goto (tgt := 107) hx hb dX5_goesTo_103 (by decide) ?_
                exact W.iret (v := r24) hx hb hr (fun t ht hW => ⟨r24, rfl, Option.some.inj hf, ht⟩) (fun q h => nomatch h) dX5_goesTo_107
            · have hf := ifF hf c18
              by_cases c19 : (v_t_kind p0.toNatClampNeg) = (5 : Int32)
              · have hf := ifT hf c19
                refine lv_tableIn (tgt := 52) hx hb dX5_goesTo_13 (by rw [c19]; decide) (by rw [c19]; decide) (by rw [c19]; rfl) (by decide) ?_
                exact J52 ls (lv_sub hl [1, 2, 0] rfl) hf
              · have hf := ifF hf c19
                refine lv_tableOut (tgt := 108) hx hb dX5_goesTo_13 (by have n0 := lv_neT c14 (a := 0) (by decide); have n1 := lv_neT c15 (a := 1) (by decide); have n2 := lv_neT c16 (a := 2) (by decide); have n3 := lv_neT c17 (a := 3) (by decide); have n4 := lv_neT c18 (a := 4) (by decide); have n5 := lv_neT c19 (a := 5) (by decide); omega) (by decide) ?_
                refine lv_iload_n hx hb dX5_goesTo_108 rfl (lv_at hl 0 rfl) ?_
                exact W.iret (v := x2) hx hb hr (fun t ht hW => ⟨x2, rfl, Option.some.inj hf, ht⟩) (fun q h => nomatch h) dX5_goesTo_109
def fX5_passHour (v_t_places : Int32) (v_t_people : Int32) (v_t_hour : Int32) (v_t_ways : Nat → Int32) (v_t_distances : Nat → Int32) (v_t_kind : Nat → Int32) (v_t_home : Nat → Int32) (v_t_aim : Nat → Int32) (v_t_at : Nat → Int32) : Option (Int32 × Int32 × (Nat → Int32)) :=
  bo1 (fX5_darkPlaces v_t_people v_t_kind v_t_at) fun r1 =>
  lo3 (fun g6 (x3 : Int32) (x4 : Int32) (u5 : Nat → Int32) =>
    if v_t_people ≤ x4 then
      bo1 (fX5_endHour v_t_hour) fun u7 =>
      if ¬ (x3 = 0 ∨ x3 = 1) then none else
      some (x3, u7, u5)
    else
      if x4 < 0 ∨ 8 ≤ x4.toNatClampNeg then none else
      vlet (u5 x4.toNatClampNeg) fun x10 =>
      bo1 (fX5_goesTo v_t_places v_t_hour v_t_ways v_t_distances v_t_kind v_t_home v_t_aim u5 x4 r1) fun r11 =>
      if x4 < 0 ∨ 8 ≤ x4.toNatClampNeg then none else
      if x4 < 0 ∨ 8 ≤ x4.toNatClampNeg then none else
      jo1 (fun (y15 : Int32) =>
        vlet (x3 ||| y15) fun x17 =>
        vlet (x4 + (1 : Int32)) fun x18 =>
        g6 x17 x18 (upd u5 x4.toNatClampNeg r11)) fun k16 =>
      if ((upd u5 x4.toNatClampNeg r11) x4.toNatClampNeg) = x10 then
        k16 (0 : Int32)
      else
        k16 (1 : Int32)) 400 (0 : Int32) (0 : Int32) v_t_at
set_option maxHeartbeats 4000000 in
set_option maxRecDepth 100000 in
theorem mX5_passHour (l : Launch) (D : va_G) (cy : Nat → ClassId) (q_t q_t_ways q_t_distances q_t_kind q_t_a q_t_home q_t_aim q_t_at : Nat) (v_t_places : Int32) (v_t_people : Int32) (v_t_hour : Int32) (v_t_chance : Int32) (v_t_seed : Int32) (v_t_ways : Nat → Int32) (v_t_distances : Nat → Int32) (v_t_kind : Nat → Int32) (v_t_home : Nat → Int32) (v_t_aim : Nat → Int32) (v_t_at : Nat → Int32) (sz : Nat) {r_ : Int32} {n_t_hour : Int32} {n_t_at : Nat → Int32} (hf : fX5_passHour v_t_places v_t_people v_t_hour v_t_ways v_t_distances v_t_kind v_t_home v_t_aim v_t_at = some (r_, n_t_hour, n_t_at)) : Met l yX5_passHour wsX5_passHour ({ frames := 3, cells := 0, slots := 0, locals := 69 }) (va_Pc [.ref q_t] (fun U => U.heap.size = sz ∧ va_P D vwCl [(q_t, oX5 v_t_places q_t_ways q_t_distances v_t_people q_t_kind q_t_a q_t_home q_t_aim q_t_at v_t_hour v_t_chance v_t_seed), (q_t_ways, .inl (cy 0, 12, .inl v_t_ways)), (q_t_distances, .inl (cy 0, 144, .inl v_t_distances)), (q_t_kind, .inl (cy 0, 8, .inl v_t_kind)), (q_t_home, .inl (cy 0, 8, .inl v_t_home)), (q_t_aim, .inl (cy 0, 8, .inl v_t_aim)), (q_t_at, .inl (cy 0, 8, .inl v_t_at))] U.heap ∧ xK D cy U ∧ va_D (fun _ => True) [(q_t, oX5 v_t_places q_t_ways q_t_distances v_t_people q_t_kind q_t_a q_t_home q_t_aim q_t_at v_t_hour v_t_chance v_t_seed), (q_t_ways, .inl (cy 0, 12, .inl v_t_ways)), (q_t_distances, .inl (cy 0, 144, .inl v_t_distances)), (q_t_kind, .inl (cy 0, 8, .inl v_t_kind)), (q_t_home, .inl (cy 0, 8, .inl v_t_home)), (q_t_aim, .inl (cy 0, 8, .inl v_t_aim)), (q_t_at, .inl (cy 0, 8, .inl v_t_at))])) (va_Qi (fun (x : Int32) (_ : Unit) => x = r_) (fun _ t => va_P D vwCl [(q_t, oX5 v_t_places q_t_ways q_t_distances v_t_people q_t_kind q_t_a q_t_home q_t_aim q_t_at n_t_hour v_t_chance v_t_seed), (q_t_ways, .inl (cy 0, 12, .inl v_t_ways)), (q_t_distances, .inl (cy 0, 144, .inl v_t_distances)), (q_t_kind, .inl (cy 0, 8, .inl v_t_kind)), (q_t_home, .inl (cy 0, 8, .inl v_t_home)), (q_t_aim, .inl (cy 0, 8, .inl v_t_aim)), (q_t_at, .inl (cy 0, 8, .inl n_t_at))] t.heap) (va_A [(q_t, oX5 v_t_places q_t_ways q_t_distances v_t_people q_t_kind q_t_a q_t_home q_t_aim q_t_at v_t_hour v_t_chance v_t_seed), (q_t_ways, .inl (cy 0, 12, .inl v_t_ways)), (q_t_distances, .inl (cy 0, 144, .inl v_t_distances)), (q_t_kind, .inl (cy 0, 8, .inl v_t_kind)), (q_t_home, .inl (cy 0, 8, .inl v_t_home)), (q_t_aim, .inl (cy 0, 8, .inl v_t_aim)), (q_t_at, .inl (cy 0, 8, .inl v_t_at))] sz)) 0 0 (va_A [(q_t, oX5 v_t_places q_t_ways q_t_distances v_t_people q_t_kind q_t_a q_t_home q_t_aim q_t_at v_t_hour v_t_chance v_t_seed), (q_t_ways, .inl (cy 0, 12, .inl v_t_ways)), (q_t_distances, .inl (cy 0, 144, .inl v_t_distances)), (q_t_kind, .inl (cy 0, 8, .inl v_t_kind)), (q_t_home, .inl (cy 0, 8, .inl v_t_home)), (q_t_aim, .inl (cy 0, 8, .inl v_t_aim)), (q_t_at, .inl (cy 0, 8, .inl v_t_at))] sz) := by
  refine Met.ofW (cc := cX5_passHour) (maxL := 5) (ret := (some .boolean)) (by decide) rfl ?_
  intro p e s m args below meth c s₁ B hml hv
  obtain ⟨rfl, hsz, hP, hK, hD0⟩ := hv
  have hx := B.exec
  have hb := B.bytes
  have hr := B.returns
  have hts := atoms_spec (ws := wsX5_passHour) B.pre
  have hown : s.vm.findClass RX5 = some m.cls := findClass_of_methodNamed B.named
  have hlocks := B.notSynchronized
  subst hsz
  have hD := hD0.self (sz := s.heap.size)
  generalize hAe : va_A [(q_t, oX5 v_t_places q_t_ways q_t_distances v_t_people q_t_kind q_t_a q_t_home q_t_aim q_t_at v_t_hour v_t_chance v_t_seed), (q_t_ways, .inl (cy 0, 12, .inl v_t_ways)), (q_t_distances, .inl (cy 0, 144, .inl v_t_distances)), (q_t_kind, .inl (cy 0, 8, .inl v_t_kind)), (q_t_home, .inl (cy 0, 8, .inl v_t_home)), (q_t_aim, .inl (cy 0, 8, .inl v_t_aim)), (q_t_at, .inl (cy 0, 8, .inl v_t_at))] s.heap.size = A at hD ⊢
  have hA : ∀ q : Nat, s.heap.size ≤ q → A q := fun q h => by rw [← hAe]; exact Or.inr h
  have hS : va_S A s.heap s.heap [] := va_S.rf
  have hP : va_P D vwCl [(q_t, oX5 v_t_places q_t_ways q_t_distances v_t_people q_t_kind q_t_a q_t_home q_t_aim q_t_at v_t_hour v_t_chance v_t_seed), (q_t_ways, .inl (cy 0, 12, .inl v_t_ways)), (q_t_distances, .inl (cy 0, 144, .inl v_t_distances)), (q_t_kind, .inl (cy 0, 8, .inl v_t_kind)), (q_t_home, .inl (cy 0, 8, .inl v_t_home)), (q_t_aim, .inl (cy 0, 8, .inl v_t_aim)), (q_t_at, .inl (cy 0, 8, .inl v_t_at))] s.heap := hP
  have hinX5 : ∀ w ∈ u_ws RX5 TX5 12, w ∈ wsX5_passHour := by decide +kernel
  have hk52 := hts (.fieldLink RX5 52 "ShowsWhereNobodyIs$Town" "people" "I") (by decide +kernel)
  have hk34 := hts (.fieldLink RX5 34 "ShowsWhereNobodyIs$Town" "at" "[I") (by decide +kernel)
  have hl := lv_entry ([.ref q_t]) (n := 5) (Nat.le_of_ble_eq_true rfl)
  rw [lg_entry_eq]
  generalize (lg_sl ([.ref q_t]) ++ List.replicate (5 - (lg_sl ([.ref q_t])).length) Slot.unset).toArray = ls at hl ⊢
  have hl : lv_has ls 5 [(0, .ref q_t)] := hl
  unfold fX5_passHour at hf
  refine lv_aload_n hx hb dX5_passHour_0 rfl (lv_at hl 0 rfl) ?_
  obtain ⟨r1, hr2, hf⟩ := boE1 hf
  have hPc := hP.sub (ws' := [(q_t, oX5 v_t_places q_t_ways q_t_distances v_t_people q_t_kind q_t_a q_t_home q_t_aim q_t_at v_t_hour v_t_chance v_t_seed), (q_t_kind, .inl (cy 0, 8, .inl v_t_kind)), (q_t_at, .inl (cy 0, 8, .inl v_t_at))]) [0, 3, 6] rfl
  refine xcSi (va_runV (As := []) (rest := []) ⟨hx, hb, hml, hown, hts⟩ (mX5_darkPlaces l D cy q_t q_t_ways q_t_distances q_t_kind q_t_a q_t_home q_t_aim q_t_at v_t_places v_t_people v_t_hour v_t_chance v_t_seed v_t_kind v_t_at   hr2) (cwV 0 hts gX5_passHour_X5_darkPlaces rfl rfl rfl (by decide +kernel) ⟨Nat.le_of_ble_eq_true rfl, Nat.le_of_ble_eq_true rfl⟩) (xPV hK hPc (ci := 5) (q0 := 0) rfl rfl) rfl rfl hl.1 rfl (lv_room (Nat.le_of_ble_eq_true rfl)) dX5_passHour_1 ⟨Nat.le_of_ble_eq_true rfl, Nat.le_of_ble_eq_true rfl⟩) ?_
  refine lv_istore_n (lv' := [(1, .int r1), (0, .ref q_t)]) hx hb dX5_passHour_4 rfl hl (by decide) rfl (fun ls hl => ?_)
  refine lv_iconst (v := 0) hx hb dX5_passHour_5 (by decide) ?_
  refine lv_istore_n (lv' := [(2, .int (0 : Int32)), (1, .int r1), (0, .ref q_t)]) hx hb dX5_passHour_6 rfl hl (by decide) rfl (fun ls hl => ?_)
  refine lv_iconst (v := 0) hx hb dX5_passHour_7 (by decide) ?_
  refine lv_istore_n (lv' := [(3, .int (0 : Int32)), (2, .int (0 : Int32)), (1, .int r1), (0, .ref q_t)]) hx hb dX5_passHour_8 rfl hl (by decide) rfl (fun ls hl => ?_)
  refine wlw3 9 (fun _ _ _ => []) (fun (x3 : Int32) (x4 : Int32) (u5 : Nat → Int32) H locs ls => va_P D vwCl [(q_t, oX5 v_t_places q_t_ways q_t_distances v_t_people q_t_kind q_t_a q_t_home q_t_aim q_t_at v_t_hour v_t_chance v_t_seed), (q_t_ways, .inl (cy 0, 12, .inl v_t_ways)), (q_t_distances, .inl (cy 0, 144, .inl v_t_distances)), (q_t_kind, .inl (cy 0, 8, .inl v_t_kind)), (q_t_home, .inl (cy 0, 8, .inl v_t_home)), (q_t_aim, .inl (cy 0, 8, .inl v_t_aim)), (q_t_at, .inl (cy 0, 8, .inl u5))] H ∧ va_D A [(q_t, oX5 v_t_places q_t_ways q_t_distances v_t_people q_t_kind q_t_a q_t_home q_t_aim q_t_at v_t_hour v_t_chance v_t_seed), (q_t_ways, .inl (cy 0, 12, .inl v_t_ways)), (q_t_distances, .inl (cy 0, 144, .inl v_t_distances)), (q_t_kind, .inl (cy 0, 8, .inl v_t_kind)), (q_t_home, .inl (cy 0, 8, .inl v_t_home)), (q_t_aim, .inl (cy 0, 8, .inl v_t_aim)), (q_t_at, .inl (cy 0, 8, .inl u5))] ∧ va_S A s.heap H locs ∧ lv_has ls 5 [(2, .int x3), (3, .int x4), (1, .int r1), (0, .ref q_t)]) (fun g6 L9 x3 x4 u5 H locs ls hI hf => ?_) 400 (0 : Int32) (0 : Int32) v_t_at _ _ ls ⟨hP, hD, hS, lv_sub hl [1, 0, 2, 3] rfl⟩ hf
  obtain ⟨hP, hD, hS, hl⟩ := hI
  refine lv_iload_n hx hb dX5_passHour_9 rfl (lv_at hl 1 rfl) ?_
  refine lv_aload_n hx hb dX5_passHour_10 rfl (lv_at hl 3 rfl) ?_
  refine va_get (D := D) (ci := 5) (v := .int v_t_people) (C := RX5) (T := TX5) (N := 12) hx hb hts hinX5 hown hK.1 hP 0 rfl rfl 3 (by decide) hk52 (fun _ h9 => h9) rfl dX5_passHour_11 ?_
  refine lv_icmp_ge (tgt := 62) hx hb dX5_passHour_14 (by decide) (fun c20 => ?_) (fun c20 => ?_)
  · have hf := ifT hf c20
    clear c20
    refine lv_aload_n hx hb dX5_passHour_62 rfl (lv_at hl 3 rfl) ?_
    obtain ⟨u7, hr8, hf⟩ := boE1 hf
    have hPc := hP.sub (ws' := [(q_t, oX5 v_t_places q_t_ways q_t_distances v_t_people q_t_kind q_t_a q_t_home q_t_aim q_t_at v_t_hour v_t_chance v_t_seed)]) [0] rfl
    have hDc := hD.sub (ws' := [(q_t, oX5 v_t_places q_t_ways q_t_distances v_t_people q_t_kind q_t_a q_t_home q_t_aim q_t_at v_t_hour v_t_chance v_t_seed)]) [0] (by decide) rfl
    refine xcQv (w1 := [(q_t, oX5 v_t_places q_t_ways q_t_distances v_t_people q_t_kind q_t_a q_t_home q_t_aim q_t_at u7 v_t_chance v_t_seed)]) (va_runV (As := []) (rest := []) ⟨hx, hb, hml, hown, hts⟩ (mX5_endHour l D cy q_t q_t_ways q_t_distances q_t_kind q_t_a q_t_home q_t_aim q_t_at v_t_places v_t_people v_t_hour v_t_chance v_t_seed _  hr8) (cwV 0 hts gX5_passHour_X5_endHour rfl rfl rfl (by decide +kernel) ⟨Nat.le_of_ble_eq_true rfl, Nat.le_of_ble_eq_true rfl⟩) (xPVw hK hPc hDc (ci := 5) (q0 := 0) rfl rfl) rfl rfl hl.1 rfl (lv_room (Nat.le_of_ble_eq_true rfl)) dX5_passHour_63 ⟨Nat.le_of_ble_eq_true rfl, Nat.le_of_ble_eq_true rfl⟩) hP hD hS hA [0] rfl rfl (fun H locs hP hD hS => ?_)
    have hP : va_P D vwCl [(q_t, oX5 v_t_places q_t_ways q_t_distances v_t_people q_t_kind q_t_a q_t_home q_t_aim q_t_at u7 v_t_chance v_t_seed), (q_t_ways, .inl (cy 0, 12, .inl v_t_ways)), (q_t_distances, .inl (cy 0, 144, .inl v_t_distances)), (q_t_kind, .inl (cy 0, 8, .inl v_t_kind)), (q_t_home, .inl (cy 0, 8, .inl v_t_home)), (q_t_aim, .inl (cy 0, 8, .inl v_t_aim)), (q_t_at, .inl (cy 0, 8, .inl u5))] H := hP
    have hD : va_D A [(q_t, oX5 v_t_places q_t_ways q_t_distances v_t_people q_t_kind q_t_a q_t_home q_t_aim q_t_at u7 v_t_chance v_t_seed), (q_t_ways, .inl (cy 0, 12, .inl v_t_ways)), (q_t_distances, .inl (cy 0, 144, .inl v_t_distances)), (q_t_kind, .inl (cy 0, 8, .inl v_t_kind)), (q_t_home, .inl (cy 0, 8, .inl v_t_home)), (q_t_aim, .inl (cy 0, 8, .inl v_t_aim)), (q_t_at, .inl (cy 0, 8, .inl u5))] := hD
    refine lv_iload_n hx hb dX5_passHour_66 rfl (lv_at hl 0 rfl) ?_
    obtain ⟨hz, hf⟩ := ckE hf
    cases hf
    exact W.zret hx hb hr (by rcases Decidable.not_not.mp hz with h | h <;> rw [h] <;> rfl) (fun t ht hW => ⟨⟨_, (), rfl, rfl, xend ht hP⟩, hS.F ht⟩) hS.2.2 dX5_passHour_67
  · have hf := ifF hf c20
    clear c20
    refine lv_aload_n hx hb dX5_passHour_17 rfl (lv_at hl 3 rfl) ?_
    refine va_get (D := D) (ci := 5) (v := .ref q_t_at) (C := RX5) (T := TX5) (N := 12) hx hb hts hinX5 hown hK.1 hP 0 rfl rfl 8 (by decide) hk34 (fun _ h9 => h9) rfl dX5_passHour_18 ?_
    refine lv_iload_n hx hb dX5_passHour_21 rfl (lv_at hl 1 rfl) ?_
    obtain ⟨hi9, hf⟩ := ckE hf
    refine va_iald hx hb hK.1 hP 6 0 rfl rfl hi9 dX5_passHour_22 ?_
    refine lv_topi (fun x10 ex10 => ?_)
    have hf := vlE hf ex10
    clear ex10
    refine lv_istore (lv' := [(4, .int x10), (2, .int x3), (3, .int x4), (1, .int r1), (0, .ref q_t)]) hx hb dX5_passHour_23 hl (by decide) rfl (fun ls hl => ?_)
    refine lv_aload_n hx hb dX5_passHour_25 rfl (lv_at hl 4 rfl) ?_
    refine va_get (D := D) (ci := 5) (v := .ref q_t_at) (C := RX5) (T := TX5) (N := 12) hx hb hts hinX5 hown hK.1 hP 0 rfl rfl 8 (by decide) hk34 (fun _ h9 => h9) rfl dX5_passHour_26 ?_
    refine lv_iload_n hx hb dX5_passHour_29 rfl (lv_at hl 2 rfl) ?_
    refine lv_aload_n hx hb dX5_passHour_30 rfl (lv_at hl 4 rfl) ?_
    refine lv_iload_n hx hb dX5_passHour_31 rfl (lv_at hl 2 rfl) ?_
    refine lv_iload_n hx hb dX5_passHour_32 rfl (lv_at hl 3 rfl) ?_
    obtain ⟨r11, hr12, hf⟩ := boE1 hf
    have hPc := hP.sub (ws' := [(q_t, oX5 v_t_places q_t_ways q_t_distances v_t_people q_t_kind q_t_a q_t_home q_t_aim q_t_at v_t_hour v_t_chance v_t_seed), (q_t_ways, .inl (cy 0, 12, .inl v_t_ways)), (q_t_distances, .inl (cy 0, 144, .inl v_t_distances)), (q_t_kind, .inl (cy 0, 8, .inl v_t_kind)), (q_t_home, .inl (cy 0, 8, .inl v_t_home)), (q_t_aim, .inl (cy 0, 8, .inl v_t_aim)), (q_t_at, .inl (cy 0, 8, .inl u5))]) [0, 1, 2, 3, 4, 5, 6] rfl
    refine xcSi (va_runV (As := [.int x4, .int r1]) (rest := [.int x4, .ref q_t_at]) ⟨hx, hb, hml, hown, hts⟩ (mX5_goesTo l D cy q_t q_t_ways q_t_distances q_t_kind q_t_a q_t_home q_t_aim q_t_at v_t_places v_t_people v_t_hour v_t_chance v_t_seed v_t_ways v_t_distances v_t_kind v_t_home v_t_aim u5  x4 r1 hr12) (cwV 2 hts gX5_passHour_X5_goesTo rfl rfl rfl (by decide +kernel) ⟨Nat.le_of_ble_eq_true rfl, Nat.le_of_ble_eq_true rfl⟩) (xPV hK hPc (ci := 5) (q0 := 0) rfl rfl) rfl rfl hl.1 rfl (lv_room (Nat.le_of_ble_eq_true rfl)) dX5_passHour_33 ⟨Nat.le_of_ble_eq_true rfl, Nat.le_of_ble_eq_true rfl⟩) ?_
    obtain ⟨hi13, hf⟩ := ckE hf
    refine va_iast hx hb hK.1 hP hD hS 6 0 rfl rfl hi13 dX5_passHour_36 (fun H locs hP hD hS => ?_)
    have hP : va_P D vwCl [(q_t, oX5 v_t_places q_t_ways q_t_distances v_t_people q_t_kind q_t_a q_t_home q_t_aim q_t_at v_t_hour v_t_chance v_t_seed), (q_t_ways, .inl (cy 0, 12, .inl v_t_ways)), (q_t_distances, .inl (cy 0, 144, .inl v_t_distances)), (q_t_kind, .inl (cy 0, 8, .inl v_t_kind)), (q_t_home, .inl (cy 0, 8, .inl v_t_home)), (q_t_aim, .inl (cy 0, 8, .inl v_t_aim)), (q_t_at, .inl (cy 0, 8, .inl (upd u5 x4.toNatClampNeg r11)))] H := hP
    have hD : va_D A [(q_t, oX5 v_t_places q_t_ways q_t_distances v_t_people q_t_kind q_t_a q_t_home q_t_aim q_t_at v_t_hour v_t_chance v_t_seed), (q_t_ways, .inl (cy 0, 12, .inl v_t_ways)), (q_t_distances, .inl (cy 0, 144, .inl v_t_distances)), (q_t_kind, .inl (cy 0, 8, .inl v_t_kind)), (q_t_home, .inl (cy 0, 8, .inl v_t_home)), (q_t_aim, .inl (cy 0, 8, .inl v_t_aim)), (q_t_at, .inl (cy 0, 8, .inl (upd u5 x4.toNatClampNeg r11)))] := hD
    refine lv_iload_n hx hb dX5_passHour_37 rfl (lv_at hl 1 rfl) ?_
    refine lv_aload_n hx hb dX5_passHour_38 rfl (lv_at hl 4 rfl) ?_
    refine va_get (D := D) (ci := 5) (v := .ref q_t_at) (C := RX5) (T := TX5) (N := 12) hx hb hts hinX5 hown hK.1 hP 0 rfl rfl 8 (by decide) hk34 (fun _ h9 => h9) rfl dX5_passHour_39 ?_
    refine lv_iload_n hx hb dX5_passHour_42 rfl (lv_at hl 2 rfl) ?_
    obtain ⟨hi14, hf⟩ := ckE hf
    refine va_iald hx hb hK.1 hP 6 0 rfl rfl hi14 dX5_passHour_43 ?_
    refine lv_iload hx hb dX5_passHour_44 (lv_at hl 0 rfl) ?_
    refine jww1 54 (fun (y15 : Int32) => [.int y15, .int x3]) (fun (y15 : Int32) H locs ls => va_P D vwCl [(q_t, oX5 v_t_places q_t_ways q_t_distances v_t_people q_t_kind q_t_a q_t_home q_t_aim q_t_at v_t_hour v_t_chance v_t_seed), (q_t_ways, .inl (cy 0, 12, .inl v_t_ways)), (q_t_distances, .inl (cy 0, 144, .inl v_t_distances)), (q_t_kind, .inl (cy 0, 8, .inl v_t_kind)), (q_t_home, .inl (cy 0, 8, .inl v_t_home)), (q_t_aim, .inl (cy 0, 8, .inl v_t_aim)), (q_t_at, .inl (cy 0, 8, .inl (upd u5 x4.toNatClampNeg r11)))] H ∧ va_D A [(q_t, oX5 v_t_places q_t_ways q_t_distances v_t_people q_t_kind q_t_a q_t_home q_t_aim q_t_at v_t_hour v_t_chance v_t_seed), (q_t_ways, .inl (cy 0, 12, .inl v_t_ways)), (q_t_distances, .inl (cy 0, 144, .inl v_t_distances)), (q_t_kind, .inl (cy 0, 8, .inl v_t_kind)), (q_t_home, .inl (cy 0, 8, .inl v_t_home)), (q_t_aim, .inl (cy 0, 8, .inl v_t_aim)), (q_t_at, .inl (cy 0, 8, .inl (upd u5 x4.toNatClampNeg r11)))] ∧ va_S A s.heap H locs ∧ lv_has ls 5 [(0, .ref q_t), (1, .int r1), (3, .int x4)]) hf (fun y15 H locs ls hI hf => ?_) (fun k16 J54 hf => ?_)
    · obtain ⟨hP, hD, hS, hl⟩ := hI
      refine lv_ior hx hb dX5_passHour_54 ?_
      refine lv_topi (fun x17 ex17 => ?_)
      have hf := vlE hf ex17
      clear ex17
      refine lv_istore_n (lv' := [(2, .int x17), (0, .ref q_t), (1, .int r1), (3, .int x4)]) hx hb dX5_passHour_55 rfl hl (by decide) rfl (fun ls hl => ?_)
      obtain ⟨x18, ex18⟩ : ∃ y : Int32, y = x4 + (1 : Int32) := ⟨_, rfl⟩
      have hf := vlE hf ex18
      refine lv_iinc (v := x18) (lv' := [(3, .int x18), (2, .int x17), (0, .ref q_t), (1, .int r1)]) hx hb dX5_passHour_56 hl (k := 3) rfl (by rw [ex18]; rfl) (by decide) rfl (fun ls hl => ?_)
      clear ex18
      refine lv_goto (tgt := 9) hx hb dX5_passHour_59 (by decide) ?_
      exact L9 x17 x18 (upd u5 x4.toNatClampNeg r11) _ _ ls ⟨hP, hD, hS, lv_sub hl [1, 0, 3, 2] rfl⟩ hf
    · refine lv_icmp_eq (tgt := 53) hx hb dX5_passHour_46 (by decide) (fun c19 => ?_) (fun c19 => ?_)
      · have hf := ifT hf c19
        clear c19
        refine lv_iconst (v := 0) hx hb dX5_passHour_53 (by decide) ?_
        exact J54 (0 : Int32) _ _ ls ⟨hP, hD, hS, lv_sub hl [4, 3, 2] rfl⟩ hf
      · have hf := ifF hf c19
        clear c19
        refine lv_iconst (v := 1) hx hb dX5_passHour_49 (by decide) ?_
        refine lv_goto (tgt := 54) hx hb dX5_passHour_50 (by decide) ?_
        exact J54 (1 : Int32) _ _ ls ⟨hP, hD, hS, lv_sub hl [4, 3, 2] rfl⟩ hf
