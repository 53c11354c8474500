def fX5_passHours (v_t_places : Int32) (v_t_people : Int32) (v_t_hour : Int32) (v_t_ways : Nat → Int32) (v_t_distances : Nat → Int32) (v_t_kind : Nat → Int32) (v_t_home : Nat → Int32) (v_t_aim : Nat → Int32) (v_t_at : Nat → Int32) (p0 : Int32) : Option (Int32 × (Nat → Int32)) :=
  lo3 (fun g4 (x1 : Int32) (u2 : Int32) (u3 : Nat → Int32) =>
    if p0 ≤ x1 then
      some (u2, u3)
    else
      bo3 (fX5_passHour v_t_places v_t_people u2 v_t_ways v_t_distances v_t_kind v_t_home v_t_aim u3) fun r5 u6 u7 =>
      vlet (x1 + (1 : Int32)) fun x9 =>
      g4 x9 u6 u7) 400 (0 : Int32) v_t_hour v_t_at
set_option maxHeartbeats 4000000 in
set_option maxRecDepth 100000 in
theorem mX5_passHours (l : Launch) (D : va_G) (cy : Nat → ClassId) (q_t q_t_ways q_t_distances q_t_kind q_t_a q_t_home q_t_aim q_t_at : Nat) (v_t_places : Int32) (v_t_people : Int32) (v_t_hour : Int32) (v_t_chance : Int32) (v_t_seed : Int32) (v_t_ways : Nat → Int32) (v_t_distances : Nat → Int32) (v_t_kind : Nat → Int32) (v_t_home : Nat → Int32) (v_t_aim : Nat → Int32) (v_t_at : Nat → Int32) (sz : Nat) (p0 : Int32) {n_t_hour : Int32} {n_t_at : Nat → Int32} (hf : fX5_passHours v_t_places v_t_people v_t_hour v_t_ways v_t_distances v_t_kind v_t_home v_t_aim v_t_at p0 = some (n_t_hour, n_t_at)) : Met l yX5_passHours wsX5_passHours ({ frames := 4, cells := 0, slots := 0, locals := 93 }) (va_Pc [.ref q_t, .int p0] (fun U => U.heap.size = sz ∧ va_P D vwCl [(q_t, oX5 v_t_places q_t_ways q_t_distances v_t_people q_t_kind q_t_a q_t_home q_t_aim q_t_at v_t_hour v_t_chance v_t_seed), (q_t_ways, .inl (cy 0, 12, .inl v_t_ways)), (q_t_distances, .inl (cy 0, 144, .inl v_t_distances)), (q_t_kind, .inl (cy 0, 8, .inl v_t_kind)), (q_t_home, .inl (cy 0, 8, .inl v_t_home)), (q_t_aim, .inl (cy 0, 8, .inl v_t_aim)), (q_t_at, .inl (cy 0, 8, .inl v_t_at))] U.heap ∧ xK D cy U ∧ va_D (fun _ => True) [(q_t, oX5 v_t_places q_t_ways q_t_distances v_t_people q_t_kind q_t_a q_t_home q_t_aim q_t_at v_t_hour v_t_chance v_t_seed), (q_t_ways, .inl (cy 0, 12, .inl v_t_ways)), (q_t_distances, .inl (cy 0, 144, .inl v_t_distances)), (q_t_kind, .inl (cy 0, 8, .inl v_t_kind)), (q_t_home, .inl (cy 0, 8, .inl v_t_home)), (q_t_aim, .inl (cy 0, 8, .inl v_t_aim)), (q_t_at, .inl (cy 0, 8, .inl v_t_at))])) (va_Qv (fun (_ : Unit) => True) (fun _ t => va_P D vwCl [(q_t, oX5 v_t_places q_t_ways q_t_distances v_t_people q_t_kind q_t_a q_t_home q_t_aim q_t_at n_t_hour v_t_chance v_t_seed), (q_t_ways, .inl (cy 0, 12, .inl v_t_ways)), (q_t_distances, .inl (cy 0, 144, .inl v_t_distances)), (q_t_kind, .inl (cy 0, 8, .inl v_t_kind)), (q_t_home, .inl (cy 0, 8, .inl v_t_home)), (q_t_aim, .inl (cy 0, 8, .inl v_t_aim)), (q_t_at, .inl (cy 0, 8, .inl n_t_at))] t.heap) (va_A [(q_t, oX5 v_t_places q_t_ways q_t_distances v_t_people q_t_kind q_t_a q_t_home q_t_aim q_t_at v_t_hour v_t_chance v_t_seed), (q_t_ways, .inl (cy 0, 12, .inl v_t_ways)), (q_t_distances, .inl (cy 0, 144, .inl v_t_distances)), (q_t_kind, .inl (cy 0, 8, .inl v_t_kind)), (q_t_home, .inl (cy 0, 8, .inl v_t_home)), (q_t_aim, .inl (cy 0, 8, .inl v_t_aim)), (q_t_at, .inl (cy 0, 8, .inl v_t_at))] sz)) 0 0 (va_A [(q_t, oX5 v_t_places q_t_ways q_t_distances v_t_people q_t_kind q_t_a q_t_home q_t_aim q_t_at v_t_hour v_t_chance v_t_seed), (q_t_ways, .inl (cy 0, 12, .inl v_t_ways)), (q_t_distances, .inl (cy 0, 144, .inl v_t_distances)), (q_t_kind, .inl (cy 0, 8, .inl v_t_kind)), (q_t_home, .inl (cy 0, 8, .inl v_t_home)), (q_t_aim, .inl (cy 0, 8, .inl v_t_aim)), (q_t_at, .inl (cy 0, 8, .inl v_t_at))] sz) := by
  refine Met.ofW (cc := cX5_passHours) (maxL := 3) (ret := none) (by decide) rfl ?_
  intro p e s m args below meth c s₁ B hml hv
  obtain ⟨rfl, hsz, hP, hK, hD0⟩ := hv
  have hx := B.exec
  have hb := B.bytes
  have hr := B.returns
  have hts := atoms_spec (ws := wsX5_passHours) B.pre
  have hown : s.vm.findClass RX5 = some m.cls := findClass_of_methodNamed B.named
  have hlocks := B.notSynchronized
  subst hsz
  have hD := hD0.self (sz := s.heap.size)
  generalize hAe : va_A [(q_t, oX5 v_t_places q_t_ways q_t_distances v_t_people q_t_kind q_t_a q_t_home q_t_aim q_t_at v_t_hour v_t_chance v_t_seed), (q_t_ways, .inl (cy 0, 12, .inl v_t_ways)), (q_t_distances, .inl (cy 0, 144, .inl v_t_distances)), (q_t_kind, .inl (cy 0, 8, .inl v_t_kind)), (q_t_home, .inl (cy 0, 8, .inl v_t_home)), (q_t_aim, .inl (cy 0, 8, .inl v_t_aim)), (q_t_at, .inl (cy 0, 8, .inl v_t_at))] s.heap.size = A at hD ⊢
  have hA : ∀ q : Nat, s.heap.size ≤ q → A q := fun q h => by rw [← hAe]; exact Or.inr h
  have hS : va_S A s.heap s.heap [] := va_S.rf
  have hP : va_P D vwCl [(q_t, oX5 v_t_places q_t_ways q_t_distances v_t_people q_t_kind q_t_a q_t_home q_t_aim q_t_at v_t_hour v_t_chance v_t_seed), (q_t_ways, .inl (cy 0, 12, .inl v_t_ways)), (q_t_distances, .inl (cy 0, 144, .inl v_t_distances)), (q_t_kind, .inl (cy 0, 8, .inl v_t_kind)), (q_t_home, .inl (cy 0, 8, .inl v_t_home)), (q_t_aim, .inl (cy 0, 8, .inl v_t_aim)), (q_t_at, .inl (cy 0, 8, .inl v_t_at))] s.heap := hP
  have hl := lv_entry ([.ref q_t, .int p0]) (n := 3) (Nat.le_of_ble_eq_true rfl)
  rw [lg_entry_eq]
  generalize (lg_sl ([.ref q_t, .int p0]) ++ List.replicate (3 - (lg_sl ([.ref q_t, .int p0])).length) Slot.unset).toArray = ls at hl ⊢
  have hl : lv_has ls 3 [(0, .ref q_t), (1, .int p0)] := hl
  unfold fX5_passHours at hf
  refine lv_iconst (v := 0) hx hb dX5_passHours_0 (by decide) ?_
  refine lv_istore_n (lv' := [(2, .int (0 : Int32)), (0, .ref q_t), (1, .int p0)]) hx hb dX5_passHours_1 rfl hl (by decide) rfl (fun ls hl => ?_)
  refine wlw3 2 (fun _ _ _ => []) (fun (x1 : Int32) (u2 : Int32) (u3 : Nat → Int32) H locs ls => va_P D vwCl [(q_t, oX5 v_t_places q_t_ways q_t_distances v_t_people q_t_kind q_t_a q_t_home q_t_aim q_t_at u2 v_t_chance v_t_seed), (q_t_ways, .inl (cy 0, 12, .inl v_t_ways)), (q_t_distances, .inl (cy 0, 144, .inl v_t_distances)), (q_t_kind, .inl (cy 0, 8, .inl v_t_kind)), (q_t_home, .inl (cy 0, 8, .inl v_t_home)), (q_t_aim, .inl (cy 0, 8, .inl v_t_aim)), (q_t_at, .inl (cy 0, 8, .inl u3))] H ∧ va_D A [(q_t, oX5 v_t_places q_t_ways q_t_distances v_t_people q_t_kind q_t_a q_t_home q_t_aim q_t_at u2 v_t_chance v_t_seed), (q_t_ways, .inl (cy 0, 12, .inl v_t_ways)), (q_t_distances, .inl (cy 0, 144, .inl v_t_distances)), (q_t_kind, .inl (cy 0, 8, .inl v_t_kind)), (q_t_home, .inl (cy 0, 8, .inl v_t_home)), (q_t_aim, .inl (cy 0, 8, .inl v_t_aim)), (q_t_at, .inl (cy 0, 8, .inl u3))] ∧ va_S A s.heap H locs ∧ lv_has ls 3 [(2, .int x1), (0, .ref q_t), (1, .int p0)]) (fun g4 L2 x1 u2 u3 H locs ls hI hf => ?_) 400 (0 : Int32) v_t_hour v_t_at _ _ ls ⟨hP, hD, hS, lv_sub hl [0, 1, 2] rfl⟩ hf
  obtain ⟨hP, hD, hS, hl⟩ := hI
  refine lv_iload_n hx hb dX5_passHours_2 rfl (lv_at hl 0 rfl) ?_
  refine lv_iload_n hx hb dX5_passHours_3 rfl (lv_at hl 2 rfl) ?_
  refine lv_icmp_ge (tgt := 18) hx hb dX5_passHours_4 (by decide) (fun c10 => ?_) (fun c10 => ?_)
  · have hf := ifT hf c10
    clear c10
    cases hf
    exact W.vret hx hb hr (fun t ht hW => ⟨⟨(), rfl, trivial, xend ht hP⟩, hS.F ht⟩) hS.2.2 dX5_passHours_18
  · have hf := ifF hf c10
    clear c10
    refine lv_aload_n hx hb dX5_passHours_7 rfl (lv_at hl 1 rfl) ?_
    obtain ⟨r5, u6, u7, hr8, hf⟩ := boE3 hf
    have hPc := hP.sub (ws' := [(q_t, oX5 v_t_places q_t_ways q_t_distances v_t_people q_t_kind q_t_a q_t_home q_t_aim q_t_at u2 v_t_chance v_t_seed), (q_t_ways, .inl (cy 0, 12, .inl v_t_ways)), (q_t_distances, .inl (cy 0, 144, .inl v_t_distances)), (q_t_kind, .inl (cy 0, 8, .inl v_t_kind)), (q_t_home, .inl (cy 0, 8, .inl v_t_home)), (q_t_aim, .inl (cy 0, 8, .inl v_t_aim)), (q_t_at, .inl (cy 0, 8, .inl u3))]) [0, 1, 2, 3, 4, 5, 6] rfl
    have hDc := hD.sub (ws' := [(q_t, oX5 v_t_places q_t_ways q_t_distances v_t_people q_t_kind q_t_a q_t_home q_t_aim q_t_at u2 v_t_chance v_t_seed), (q_t_ways, .inl (cy 0, 12, .inl v_t_ways)), (q_t_distances, .inl (cy 0, 144, .inl v_t_distances)), (q_t_kind, .inl (cy 0, 8, .inl v_t_kind)), (q_t_home, .inl (cy 0, 8, .inl v_t_home)), (q_t_aim, .inl (cy 0, 8, .inl v_t_aim)), (q_t_at, .inl (cy 0, 8, .inl u3))]) [0, 1, 2, 3, 4, 5, 6] (by decide) rfl
    refine xcQi (w1 := [(q_t, oX5 v_t_places q_t_ways q_t_distances v_t_people q_t_kind q_t_a q_t_home q_t_aim q_t_at u6 v_t_chance v_t_seed), (q_t_ways, .inl (cy 0, 12, .inl v_t_ways)), (q_t_distances, .inl (cy 0, 144, .inl v_t_distances)), (q_t_kind, .inl (cy 0, 8, .inl v_t_kind)), (q_t_home, .inl (cy 0, 8, .inl v_t_home)), (q_t_aim, .inl (cy 0, 8, .inl v_t_aim)), (q_t_at, .inl (cy 0, 8, .inl u7))]) (va_runV (As := []) (rest := []) ⟨hx, hb, hml, hown, hts⟩ (mX5_passHour l D cy q_t q_t_ways q_t_distances q_t_kind q_t_a q_t_home q_t_aim q_t_at v_t_places v_t_people u2 v_t_chance v_t_seed v_t_ways v_t_distances v_t_kind v_t_home v_t_aim u3 _  hr8) (cwV 0 hts gX5_passHours_X5_passHour rfl rfl rfl (by decide +kernel) ⟨Nat.le_of_ble_eq_true rfl, Nat.le_of_ble_eq_true rfl⟩) (xPVw hK hPc hDc (ci := 5) (q0 := 0) rfl rfl) rfl rfl hl.1 rfl (lv_room (Nat.le_of_ble_eq_true rfl)) dX5_passHours_8 ⟨Nat.le_of_ble_eq_true rfl, Nat.le_of_ble_eq_true rfl⟩) hP hD hS hA [0, 1, 2, 3, 4, 5, 6] rfl rfl (fun H locs hP hD hS => ?_)
    have hP : va_P D vwCl [(q_t, oX5 v_t_places q_t_ways q_t_distances v_t_people q_t_kind q_t_a q_t_home q_t_aim q_t_at u6 v_t_chance v_t_seed), (q_t_ways, .inl (cy 0, 12, .inl v_t_ways)), (q_t_distances, .inl (cy 0, 144, .inl v_t_distances)), (q_t_kind, .inl (cy 0, 8, .inl v_t_kind)), (q_t_home, .inl (cy 0, 8, .inl v_t_home)), (q_t_aim, .inl (cy 0, 8, .inl v_t_aim)), (q_t_at, .inl (cy 0, 8, .inl u7))] H := hP
    have hD : va_D A [(q_t, oX5 v_t_places q_t_ways q_t_distances v_t_people q_t_kind q_t_a q_t_home q_t_aim q_t_at u6 v_t_chance v_t_seed), (q_t_ways, .inl (cy 0, 12, .inl v_t_ways)), (q_t_distances, .inl (cy 0, 144, .inl v_t_distances)), (q_t_kind, .inl (cy 0, 8, .inl v_t_kind)), (q_t_home, .inl (cy 0, 8, .inl v_t_home)), (q_t_aim, .inl (cy 0, 8, .inl v_t_aim)), (q_t_at, .inl (cy 0, 8, .inl u7))] := hD
    refine lv_pop hx hb dX5_passHours_11 rfl ?_
    obtain ⟨x9, ex9⟩ : ∃ y : Int32, y = x1 + (1 : Int32) := ⟨_, rfl⟩
    have hf := vlE hf ex9
    refine lv_iinc (v := x9) (lv' := [(2, .int x9), (0, .ref q_t), (1, .int p0)]) hx hb dX5_passHours_12 hl (k := 0) rfl (by rw [ex9]; rfl) (by decide) rfl (fun ls hl => ?_)
    clear ex9
    refine lv_goto (tgt := 2) hx hb dX5_passHours_15 (by decide) ?_
    exact L2 x9 u6 u7 _ _ ls ⟨hP, hD, hS, lv_sub hl [0, 1, 2] rfl⟩ hf
def fX5_draw (v_t_seed : Int32) (p0 : Int32) : Option (Int32 × Int32) :=
  if (1 : Int32) ≤ p0 then
    if p0 = 0 then none else
    some (((((v_t_seed * (1103515245 : Int32)) + (12345 : Int32)).toUInt32 >>> ((16 : Int32).toUInt32 &&& Int32.toUInt32 31)).toInt32) - ((((v_t_seed * (1103515245 : Int32)) + (12345 : Int32)).toUInt32 >>> ((16 : Int32).toUInt32 &&& Int32.toUInt32 31)).toInt32) / p0 * p0, (v_t_seed * (1103515245 : Int32)) + (12345 : Int32))
  else
    some ((0 : Int32), (v_t_seed * (1103515245 : Int32)) + (12345 : Int32))
set_option maxHeartbeats 4000000 in
set_option maxRecDepth 100000 in
theorem mX5_draw (l : Launch) (D : va_G) (cy : Nat → ClassId) (q_t q_t_ways q_t_distances q_t_kind q_t_a q_t_home q_t_aim q_t_at : Nat) (v_t_places : Int32) (v_t_people : Int32) (v_t_hour : Int32) (v_t_chance : Int32) (v_t_seed : Int32) (sz : Nat) (p0 : Int32) {r_ : Int32} {n_t_seed : Int32} (hf : fX5_draw v_t_seed p0 = some (r_, n_t_seed)) : Met l yX5_draw wsX5_draw ({ frames := 0, cells := 0, slots := 0, locals := 0 }) (va_Pc [.ref q_t, .int p0] (fun U => U.heap.size = sz ∧ va_P D vwCl [(q_t, oX5 v_t_places q_t_ways q_t_distances v_t_people q_t_kind q_t_a q_t_home q_t_aim q_t_at v_t_hour v_t_chance v_t_seed)] U.heap ∧ xK D cy U ∧ va_D (fun _ => True) [(q_t, oX5 v_t_places q_t_ways q_t_distances v_t_people q_t_kind q_t_a q_t_home q_t_aim q_t_at v_t_hour v_t_chance v_t_seed)])) (va_Qi (fun (x : Int32) (_ : Unit) => x = r_) (fun _ t => va_P D vwCl [(q_t, oX5 v_t_places q_t_ways q_t_distances v_t_people q_t_kind q_t_a q_t_home q_t_aim q_t_at v_t_hour v_t_chance n_t_seed)] t.heap) (va_A [(q_t, oX5 v_t_places q_t_ways q_t_distances v_t_people q_t_kind q_t_a q_t_home q_t_aim q_t_at v_t_hour v_t_chance v_t_seed)] sz)) 0 0 (va_A [(q_t, oX5 v_t_places q_t_ways q_t_distances v_t_people q_t_kind q_t_a q_t_home q_t_aim q_t_at v_t_hour v_t_chance v_t_seed)] sz) := by
  refine Met.ofW (cc := cX5_draw) (maxL := 2) (ret := (some .int)) (by decide) rfl ?_
  intro p e s m args below meth c s₁ B hml hv
  obtain ⟨rfl, hsz, hP, hK, hD0⟩ := hv
  have hx := B.exec
  have hb := B.bytes
  have hr := B.returns
  have hts := atoms_spec (ws := wsX5_draw) B.pre
  have hown : s.vm.findClass RX5 = some m.cls := findClass_of_methodNamed B.named
  have hlocks := B.notSynchronized
  subst hsz
  have hD := hD0.self (sz := s.heap.size)
  generalize hAe : va_A [(q_t, oX5 v_t_places q_t_ways q_t_distances v_t_people q_t_kind q_t_a q_t_home q_t_aim q_t_at v_t_hour v_t_chance v_t_seed)] s.heap.size = A at hD ⊢
  have hA : ∀ q : Nat, s.heap.size ≤ q → A q := fun q h => by rw [← hAe]; exact Or.inr h
  have hS : va_S A s.heap s.heap [] := va_S.rf
  have hP : va_P D vwCl [(q_t, oX5 v_t_places q_t_ways q_t_distances v_t_people q_t_kind q_t_a q_t_home q_t_aim q_t_at v_t_hour v_t_chance v_t_seed)] s.heap := hP
  have hinX5 : ∀ w ∈ u_ws RX5 TX5 12, w ∈ wsX5_draw := by decide +kernel
  have hk40 := hts (.fieldLink RX5 40 "ShowsWhereNobodyIs$Town" "seed" "I") (by decide +kernel)
  have hc123 := hts (.constant RX5 123 (1103515245)) (by decide +kernel)
  have hl := lv_entry ([.ref q_t, .int p0]) (n := 2) (Nat.le_of_ble_eq_true rfl)
  rw [lg_entry_eq]
  generalize (lg_sl ([.ref q_t, .int p0]) ++ List.replicate (2 - (lg_sl ([.ref q_t, .int p0])).length) Slot.unset).toArray = ls at hl ⊢
  have hl : lv_has ls 2 [(0, .ref q_t), (1, .int p0)] := hl
  unfold fX5_draw at hf
  refine lv_aload_n hx hb dX5_draw_0 rfl (lv_at hl 0 rfl) ?_
  refine lv_aload_n hx hb dX5_draw_1 rfl (lv_at hl 0 rfl) ?_
  refine va_get (D := D) (ci := 5) (v := .int v_t_seed) (C := RX5) (T := TX5) (N := 12) hx hb hts hinX5 hown hK.1 hP 0 rfl rfl 11 (by decide) hk40 (fun _ h9 => h9) rfl dX5_draw_2 ?_
  refine lv_ldc hx hb hown hc123 dX5_draw_5 ?_
  refine lv_imul hx hb dX5_draw_7 ?_
  refine lv_sipush (v := 12345) hx hb dX5_draw_8 (by decide) ?_
  refine lv_iadd hx hb dX5_draw_11 ?_
  refine va_put (D := D) (ci := 5) (v := .int ((v_t_seed * (1103515245 : Int32)) + (12345 : Int32))) (ty := .int) (C := RX5) (T := TX5) (N := 12) hx hb hts hinX5 tyX5 tyX5_ok nmX5 hown hK.1 hP hD hS 0 rfl rfl 11 (by decide) hk40 (fun _ h9 => h9) rfl (by decide +kernel) rfl rfl (Nat.le_of_ble_eq_true rfl) dX5_draw_12 (fun H locs hP hD hS => ?_)
  have hP : va_P D vwCl [(q_t, oX5 v_t_places q_t_ways q_t_distances v_t_people q_t_kind q_t_a q_t_home q_t_aim q_t_at v_t_hour v_t_chance ((v_t_seed * (1103515245 : Int32)) + (12345 : Int32)))] H := hP
  have hD : va_D A [(q_t, oX5 v_t_places q_t_ways q_t_distances v_t_people q_t_kind q_t_a q_t_home q_t_aim q_t_at v_t_hour v_t_chance ((v_t_seed * (1103515245 : Int32)) + (12345 : Int32)))] := hD
  refine lv_iload_n hx hb dX5_draw_15 rfl (lv_at hl 1 rfl) ?_
  refine lv_iconst (v := 1) hx hb dX5_draw_16 (by decide) ?_
  refine lv_icmp_ge (tgt := 24) hx hb dX5_draw_17 (by decide) (fun c2 => ?_) (fun c2 => ?_)
  · have hf := ifT hf c2
    clear c2
    refine lv_aload_n hx hb dX5_draw_24 rfl (lv_at hl 0 rfl) ?_
    refine va_get (D := D) (ci := 5) (v := .int ((v_t_seed * (1103515245 : Int32)) + (12345 : Int32))) (C := RX5) (T := TX5) (N := 12) hx hb hts hinX5 hown hK.1 hP 0 rfl rfl 11 (by decide) hk40 (fun _ h9 => h9) rfl dX5_draw_25 ?_
    refine lv_bipush (v := 16) hx hb dX5_draw_28 (by decide) ?_
    refine lv_iushr hx hb dX5_draw_30 rfl ?_
    refine lv_iload_n hx hb dX5_draw_31 rfl (lv_at hl 1 rfl) ?_
    obtain ⟨hn1, hf⟩ := ckE hf
    refine lv_irem hx hb dX5_draw_32 hn1 ?_
    cases hf
    exact W.iret hx hb hr (fun t ht hW => ⟨⟨_, (), rfl, rfl, xend ht hP⟩, hS.F ht⟩) hS.2.2 dX5_draw_33
  · have hf := ifF hf c2
    clear c2
    refine lv_iconst (v := 0) hx hb dX5_draw_20 (by decide) ?_
    refine lv_goto (tgt := 33) hx hb dX5_draw_21 (by decide) ?_
    cases hf
    exact W.iret (v := (0 : Int32)) hx hb hr (fun t ht hW => ⟨⟨(0 : Int32), (), rfl, rfl, xend ht hP⟩, hS.F ht⟩) hS.2.2 dX5_draw_33
def fX5_drawPlace (v_t_places : Int32) (v_t_chance : Int32) (v_t_seed : Int32) (v_t_ways : Nat → Int32) (v_t_at : Nat → Int32) (p0 : Int32) : Option (Int32 × (Nat → Int32)) :=
  if p0 < 0 ∨ 8 ≤ p0.toNatClampNeg then none else
  vlet (v_t_at p0.toNatClampNeg) fun x2 =>
  if x2 < 0 ∨ 12 ≤ x2.toNatClampNeg then none else
  bo1 (fJ6_bitCount_0f7a4 (v_t_ways x2.toNatClampNeg)) fun r4 =>
  bo2 (fX5_draw v_t_seed (12 : Int32)) fun r6 u7 =>
  if v_t_chance ≤ r6 then
    some (u7, v_t_at)
  else
    if r4 = 0 then
      some (u7, v_t_at)
    else
      bo2 (fX5_draw u7 r4) fun r9 u10 =>
      lo2 (fun g14 (x12 : Int32) (x13 : Int32) =>
        if v_t_places ≤ x13 then
          some (u10, v_t_at)
        else
          bo1 (fX5_hasWay v_t_ways x2 x13) fun r15 =>
          jo1 (fun (x17 : Int32) =>
            vlet (x13 + (1 : Int32)) fun x19 =>
            g14 x17 x19) fun k18 =>
          if r15 = 0 then
            k18 x12
          else
            if x12 = 0 then
              if p0 < 0 ∨ 8 ≤ p0.toNatClampNeg then none else
              some (u10, upd v_t_at p0.toNatClampNeg x13)
            else
              vlet (x12 + (-1 : Int32)) fun x20 =>
              k18 x20) 400 r9 (0 : Int32)
set_option maxHeartbeats 4000000 in
set_option maxRecDepth 100000 in
theorem mX5_drawPlace (l : Launch) (D : va_G) (cy : Nat → ClassId) (q_t q_t_ways q_t_distances q_t_kind q_t_a q_t_home q_t_aim q_t_at : Nat) (v_t_places : Int32) (v_t_people : Int32) (v_t_hour : Int32) (v_t_chance : Int32) (v_t_seed : Int32) (v_t_ways : Nat → Int32) (v_t_at : Nat → Int32) (sz : Nat) (p0 : Int32) {n_t_seed : Int32} {n_t_at : Nat → Int32} (hf : fX5_drawPlace v_t_places v_t_chance v_t_seed v_t_ways v_t_at p0 = some (n_t_seed, n_t_at)) : Met l yX5_drawPlace wsX5_drawPlace ({ frames := 1, cells := 0, slots := 0, locals := 22 }) (va_Pc [.ref q_t, .int p0] (fun U => U.heap.size = sz ∧ va_P D vwCl [(q_t, oX5 v_t_places q_t_ways q_t_distances v_t_people q_t_kind q_t_a q_t_home q_t_aim q_t_at v_t_hour v_t_chance v_t_seed), (q_t_ways, .inl (cy 0, 12, .inl v_t_ways)), (q_t_at, .inl (cy 0, 8, .inl v_t_at))] U.heap ∧ xK D cy U ∧ va_D (fun _ => True) [(q_t, oX5 v_t_places q_t_ways q_t_distances v_t_people q_t_kind q_t_a q_t_home q_t_aim q_t_at v_t_hour v_t_chance v_t_seed), (q_t_ways, .inl (cy 0, 12, .inl v_t_ways)), (q_t_at, .inl (cy 0, 8, .inl v_t_at))])) (va_Qv (fun (_ : Unit) => True) (fun _ t => va_P D vwCl [(q_t, oX5 v_t_places q_t_ways q_t_distances v_t_people q_t_kind q_t_a q_t_home q_t_aim q_t_at v_t_hour v_t_chance n_t_seed), (q_t_ways, .inl (cy 0, 12, .inl v_t_ways)), (q_t_at, .inl (cy 0, 8, .inl n_t_at))] t.heap) (va_A [(q_t, oX5 v_t_places q_t_ways q_t_distances v_t_people q_t_kind q_t_a q_t_home q_t_aim q_t_at v_t_hour v_t_chance v_t_seed), (q_t_ways, .inl (cy 0, 12, .inl v_t_ways)), (q_t_at, .inl (cy 0, 8, .inl v_t_at))] sz)) 0 0 (va_A [(q_t, oX5 v_t_places q_t_ways q_t_distances v_t_people q_t_kind q_t_a q_t_home q_t_aim q_t_at v_t_hour v_t_chance v_t_seed), (q_t_ways, .inl (cy 0, 12, .inl v_t_ways)), (q_t_at, .inl (cy 0, 8, .inl v_t_at))] sz) := by
  refine Met.ofW (cc := cX5_drawPlace) (maxL := 6) (ret := none) (by decide) rfl ?_
  intro p e s m args below meth c s₁ B hml hv
  obtain ⟨rfl, hsz, hP, hK, hD0⟩ := hv
  have hx := B.exec
  have hb := B.bytes
  have hr := B.returns
  have hts := atoms_spec (ws := wsX5_drawPlace) B.pre
  have hown : s.vm.findClass RX5 = some m.cls := findClass_of_methodNamed B.named
  have hlocks := B.notSynchronized
  subst hsz
  have hD := hD0.self (sz := s.heap.size)
  generalize hAe : va_A [(q_t, oX5 v_t_places q_t_ways q_t_distances v_t_people q_t_kind q_t_a q_t_home q_t_aim q_t_at v_t_hour v_t_chance v_t_seed), (q_t_ways, .inl (cy 0, 12, .inl v_t_ways)), (q_t_at, .inl (cy 0, 8, .inl v_t_at))] s.heap.size = A at hD ⊢
  have hA : ∀ q : Nat, s.heap.size ≤ q → A q := fun q h => by rw [← hAe]; exact Or.inr h
  have hS : va_S A s.heap s.heap [] := va_S.rf
  have hP : va_P D vwCl [(q_t, oX5 v_t_places q_t_ways q_t_distances v_t_people q_t_kind q_t_a q_t_home q_t_aim q_t_at v_t_hour v_t_chance v_t_seed), (q_t_ways, .inl (cy 0, 12, .inl v_t_ways)), (q_t_at, .inl (cy 0, 8, .inl v_t_at))] s.heap := hP
  have hinX5 : ∀ w ∈ u_ws RX5 TX5 12, w ∈ wsX5_drawPlace := by decide +kernel
  have hk34 := hts (.fieldLink RX5 34 "ShowsWhereNobodyIs$Town" "at" "[I") (by decide +kernel)
  have hk15 := hts (.fieldLink RX5 15 "ShowsWhereNobodyIs$Town" "ways" "[I") (by decide +kernel)
  have hk37 := hts (.fieldLink RX5 37 "ShowsWhereNobodyIs$Town" "chance" "I") (by decide +kernel)
  have hk9 := hts (.fieldLink RX5 9 "ShowsWhereNobodyIs$Town" "places" "I") (by decide +kernel)
  have hl := lv_entry ([.ref q_t, .int p0]) (n := 6) (Nat.le_of_ble_eq_true rfl)
  rw [lg_entry_eq]
  generalize (lg_sl ([.ref q_t, .int p0]) ++ List.replicate (6 - (lg_sl ([.ref q_t, .int p0])).length) Slot.unset).toArray = ls at hl ⊢
  have hl : lv_has ls 6 [(0, .ref q_t), (1, .int p0)] := hl
  unfold fX5_drawPlace at hf
  refine lv_aload_n hx hb dX5_drawPlace_0 rfl (lv_at hl 0 rfl) ?_
  refine va_get (D := D) (ci := 5) (v := .ref q_t_at) (C := RX5) (T := TX5) (N := 12) hx hb hts hinX5 hown hK.1 hP 0 rfl rfl 8 (by decide) hk34 (fun _ h9 => h9) rfl dX5_drawPlace_1 ?_
  refine lv_iload_n hx hb dX5_drawPlace_4 rfl (lv_at hl 1 rfl) ?_
  obtain ⟨hi1, hf⟩ := ckE hf
  refine va_iald hx hb hK.1 hP 2 0 rfl rfl hi1 dX5_drawPlace_5 ?_
  refine lv_topi (fun x2 ex2 => ?_)
  have hf := vlE hf ex2
  clear ex2
  refine lv_istore_n (lv' := [(2, .int x2), (0, .ref q_t), (1, .int p0)]) hx hb dX5_drawPlace_6 rfl hl (by decide) rfl (fun ls hl => ?_)
  refine lv_aload_n hx hb dX5_drawPlace_7 rfl (lv_at hl 1 rfl) ?_
  refine va_get (D := D) (ci := 5) (v := .ref q_t_ways) (C := RX5) (T := TX5) (N := 12) hx hb hts hinX5 hown hK.1 hP 0 rfl rfl 1 (by decide) hk15 (fun _ h9 => h9) rfl dX5_drawPlace_8 ?_
  refine lv_iload_n hx hb dX5_drawPlace_11 rfl (lv_at hl 0 rfl) ?_
  obtain ⟨hi3, hf⟩ := ckE hf
  refine va_iald hx hb hK.1 hP 1 0 rfl rfl hi3 dX5_drawPlace_12 ?_
  obtain ⟨r4, hr5, hf⟩ := boE1 hf
  have hPc := hP.sub (ws' := []) [] rfl
  refine xcSi (va_runS (As := [.int (v_t_ways x2.toNatClampNeg)]) (rest := []) ⟨hx, hb, hml, hown, hts⟩ (mJ6_bitCount_0f7a4 l D cy    (v_t_ways x2.toNatClampNeg) hr5) (va_cwS 1 hts gX5_drawPlace_J6_bitCount_0f7a4 rfl rfl rfl (by decide +kernel) ⟨Nat.le_of_ble_eq_true rfl, Nat.le_of_ble_eq_true rfl⟩) (xPS hK hPc) rfl rfl hl.1 rfl (lv_room (Nat.le_of_ble_eq_true rfl)) dX5_drawPlace_13 ⟨Nat.le_of_ble_eq_true rfl, Nat.le_of_ble_eq_true rfl⟩) ?_
  refine lv_istore_n (lv' := [(3, .int r4), (2, .int x2), (0, .ref q_t), (1, .int p0)]) hx hb dX5_drawPlace_16 rfl hl (by decide) rfl (fun ls hl => ?_)
  refine lv_aload_n hx hb dX5_drawPlace_17 rfl (lv_at hl 2 rfl) ?_
  refine lv_bipush (v := 12) hx hb dX5_drawPlace_18 (by decide) ?_
  obtain ⟨r6, u7, hr8, hf⟩ := boE2 hf
  have hPc := hP.sub (ws' := [(q_t, oX5 v_t_places q_t_ways q_t_distances v_t_people q_t_kind q_t_a q_t_home q_t_aim q_t_at v_t_hour v_t_chance v_t_seed)]) [0] rfl
  have hDc := hD.sub (ws' := [(q_t, oX5 v_t_places q_t_ways q_t_distances v_t_people q_t_kind q_t_a q_t_home q_t_aim q_t_at v_t_hour v_t_chance v_t_seed)]) [0] (by decide) rfl
  refine xcQi (w1 := [(q_t, oX5 v_t_places q_t_ways q_t_distances v_t_people q_t_kind q_t_a q_t_home q_t_aim q_t_at v_t_hour v_t_chance u7)]) (va_runV (As := [.int (12 : Int32)]) (rest := []) ⟨hx, hb, hml, hown, hts⟩ (mX5_draw l D cy q_t q_t_ways q_t_distances q_t_kind q_t_a q_t_home q_t_aim q_t_at v_t_places v_t_people v_t_hour v_t_chance v_t_seed _ (12 : Int32) hr8) (cwV 1 hts gX5_drawPlace_X5_draw rfl rfl rfl (by decide +kernel) ⟨Nat.le_of_ble_eq_true rfl, Nat.le_of_ble_eq_true rfl⟩) (xPVw hK hPc hDc (ci := 5) (q0 := 0) rfl rfl) rfl rfl hl.1 rfl (lv_room (Nat.le_of_ble_eq_true rfl)) dX5_drawPlace_20 ⟨Nat.le_of_ble_eq_true rfl, Nat.le_of_ble_eq_true rfl⟩) hP hD hS hA [0] rfl rfl (fun H locs hP hD hS => ?_)
  have hP : va_P D vwCl [(q_t, oX5 v_t_places q_t_ways q_t_distances v_t_people q_t_kind q_t_a q_t_home q_t_aim q_t_at v_t_hour v_t_chance u7), (q_t_ways, .inl (cy 0, 12, .inl v_t_ways)), (q_t_at, .inl (cy 0, 8, .inl v_t_at))] H := hP
  have hD : va_D A [(q_t, oX5 v_t_places q_t_ways q_t_distances v_t_people q_t_kind q_t_a q_t_home q_t_aim q_t_at v_t_hour v_t_chance u7), (q_t_ways, .inl (cy 0, 12, .inl v_t_ways)), (q_t_at, .inl (cy 0, 8, .inl v_t_at))] := hD
  refine lv_aload_n hx hb dX5_drawPlace_23 rfl (lv_at hl 2 rfl) ?_
  refine va_get (D := D) (ci := 5) (v := .int v_t_chance) (C := RX5) (T := TX5) (N := 12) hx hb hts hinX5 hown hK.1 hP 0 rfl rfl 10 (by decide) hk37 (fun _ h9 => h9) rfl dX5_drawPlace_24 ?_
  refine lv_icmp_ge (tgt := 34) hx hb dX5_drawPlace_27 (by decide) (fun c26 => ?_) (fun c26 => ?_)
  · have hf := ifT hf c26
    clear c26
    cases hf
    exact W.vret hx hb hr (fun t ht hW => ⟨⟨(), rfl, trivial, xend ht hP⟩, hS.F ht⟩) hS.2.2 dX5_drawPlace_34
  · have hf := ifF hf c26
    clear c26
    refine lv_iload_n hx hb dX5_drawPlace_30 rfl (lv_at hl 0 rfl) ?_
    refine lv_if_ne (tgt := 35) hx hb dX5_drawPlace_31 (by decide) (fun c25 => ?_) (fun c25 => ?_)
    · have hf := ifF hf c25
      clear c25
      refine lv_aload_n hx hb dX5_drawPlace_35 rfl (lv_at hl 2 rfl) ?_
      refine lv_iload_n hx hb dX5_drawPlace_36 rfl (lv_at hl 0 rfl) ?_
      obtain ⟨r9, u10, hr11, hf⟩ := boE2 hf
      have hPc := hP.sub (ws' := [(q_t, oX5 v_t_places q_t_ways q_t_distances v_t_people q_t_kind q_t_a q_t_home q_t_aim q_t_at v_t_hour v_t_chance u7)]) [0] rfl
      have hDc := hD.sub (ws' := [(q_t, oX5 v_t_places q_t_ways q_t_distances v_t_people q_t_kind q_t_a q_t_home q_t_aim q_t_at v_t_hour v_t_chance u7)]) [0] (by decide) rfl
      refine xcQi (w1 := [(q_t, oX5 v_t_places q_t_ways q_t_distances v_t_people q_t_kind q_t_a q_t_home q_t_aim q_t_at v_t_hour v_t_chance u10)]) (va_runV (As := [.int r4]) (rest := []) ⟨hx, hb, hml, hown, hts⟩ (mX5_draw l D cy q_t q_t_ways q_t_distances q_t_kind q_t_a q_t_home q_t_aim q_t_at v_t_places v_t_people v_t_hour v_t_chance u7 _ r4 hr11) (cwV 1 hts gX5_drawPlace_X5_draw rfl rfl rfl (by decide +kernel) ⟨Nat.le_of_ble_eq_true rfl, Nat.le_of_ble_eq_true rfl⟩) (xPVw hK hPc hDc (ci := 5) (q0 := 0) rfl rfl) rfl rfl hl.1 rfl (lv_room (Nat.le_of_ble_eq_true rfl)) dX5_drawPlace_37 ⟨Nat.le_of_ble_eq_true rfl, Nat.le_of_ble_eq_true rfl⟩) hP hD hS hA [0] rfl rfl (fun H locs hP hD hS => ?_)
      have hP : va_P D vwCl [(q_t, oX5 v_t_places q_t_ways q_t_distances v_t_people q_t_kind q_t_a q_t_home q_t_aim q_t_at v_t_hour v_t_chance u10), (q_t_ways, .inl (cy 0, 12, .inl v_t_ways)), (q_t_at, .inl (cy 0, 8, .inl v_t_at))] H := hP
      have hD : va_D A [(q_t, oX5 v_t_places q_t_ways q_t_distances v_t_people q_t_kind q_t_a q_t_home q_t_aim q_t_at v_t_hour v_t_chance u10), (q_t_ways, .inl (cy 0, 12, .inl v_t_ways)), (q_t_at, .inl (cy 0, 8, .inl v_t_at))] := hD
      refine lv_istore (lv' := [(4, .int r9), (3, .int r4), (2, .int x2), (0, .ref q_t), (1, .int p0)]) hx hb dX5_drawPlace_40 hl (by decide) rfl (fun ls hl => ?_)
      refine lv_iconst (v := 0) hx hb dX5_drawPlace_42 (by decide) ?_
      refine lv_istore (lv' := [(5, .int (0 : Int32)), (4, .int r9), (3, .int r4), (2, .int x2), (0, .ref q_t), (1, .int p0)]) hx hb dX5_drawPlace_43 hl (by decide) rfl (fun ls hl => ?_)
      refine wlw2 45 (fun _ _ => []) (fun (x12 : Int32) (x13 : Int32) H locs ls => va_P D vwCl [(q_t, oX5 v_t_places q_t_ways q_t_distances v_t_people q_t_kind q_t_a q_t_home q_t_aim q_t_at v_t_hour v_t_chance u10), (q_t_ways, .inl (cy 0, 12, .inl v_t_ways)), (q_t_at, .inl (cy 0, 8, .inl v_t_at))] H ∧ va_D A [(q_t, oX5 v_t_places q_t_ways q_t_distances v_t_people q_t_kind q_t_a q_t_home q_t_aim q_t_at v_t_hour v_t_chance u10), (q_t_ways, .inl (cy 0, 12, .inl v_t_ways)), (q_t_at, .inl (cy 0, 8, .inl v_t_at))] ∧ va_S A s.heap H locs ∧ lv_has ls 6 [(4, .int x12), (5, .int x13), (2, .int x2), (0, .ref q_t), (1, .int p0)]) (fun g14 L45 x12 x13 H locs ls hI hf => ?_) 400 r9 (0 : Int32) _ _ ls ⟨hP, hD, hS, lv_sub hl [1, 0, 3, 4, 5] rfl⟩ hf
      obtain ⟨hP, hD, hS, hl⟩ := hI
      refine lv_iload hx hb dX5_drawPlace_45 (lv_at hl 1 rfl) ?_
      refine lv_aload_n hx hb dX5_drawPlace_47 rfl (lv_at hl 3 rfl) ?_
      refine va_get (D := D) (ci := 5) (v := .int v_t_places) (C := RX5) (T := TX5) (N := 12) hx hb hts hinX5 hown hK.1 hP 0 rfl rfl 0 (by decide) hk9 (fun _ h9 => h9) rfl dX5_drawPlace_48 ?_
      refine lv_icmp_ge (tgt := 87) hx hb dX5_drawPlace_51 (by decide) (fun c24 => ?_) (fun c24 => ?_)
      · have hf := ifT hf c24
        clear c24
        cases hf
        exact W.vret hx hb hr (fun t ht hW => ⟨⟨(), rfl, trivial, xend ht hP⟩, hS.F ht⟩) hS.2.2 dX5_drawPlace_87
      · have hf := ifF hf c24
        clear c24
        refine lv_aload_n hx hb dX5_drawPlace_54 rfl (lv_at hl 3 rfl) ?_
        refine lv_iload_n hx hb dX5_drawPlace_55 rfl (lv_at hl 2 rfl) ?_
        refine lv_iload hx hb dX5_drawPlace_56 (lv_at hl 1 rfl) ?_
        obtain ⟨r15, hr16, hf⟩ := boE1 hf
        have hPc := hP.sub (ws' := [(q_t, oX5 v_t_places q_t_ways q_t_distances v_t_people q_t_kind q_t_a q_t_home q_t_aim q_t_at v_t_hour v_t_chance u10), (q_t_ways, .inl (cy 0, 12, .inl v_t_ways))]) [0, 1] rfl
        refine xcSi (va_runV (As := [.int x2, .int x13]) (rest := []) ⟨hx, hb, hml, hown, hts⟩ (mX5_hasWay l D cy q_t q_t_ways q_t_distances q_t_kind q_t_a q_t_home q_t_aim q_t_at v_t_places v_t_people v_t_hour v_t_chance u10 v_t_ways  x2 x13 hr16) (cwV 2 hts gX5_drawPlace_X5_hasWay rfl rfl rfl (by decide +kernel) ⟨Nat.le_of_ble_eq_true rfl, Nat.le_of_ble_eq_true rfl⟩) (xPV hK hPc (ci := 5) (q0 := 0) rfl rfl) rfl rfl hl.1 rfl (lv_room (Nat.le_of_ble_eq_true rfl)) dX5_drawPlace_58 ⟨Nat.le_of_ble_eq_true rfl, Nat.le_of_ble_eq_true rfl⟩) ?_
        refine jww1 81 (fun (x17 : Int32) => []) (fun (x17 : Int32) H locs ls => va_P D vwCl [(q_t, oX5 v_t_places q_t_ways q_t_distances v_t_people q_t_kind q_t_a q_t_home q_t_aim q_t_at v_t_hour v_t_chance u10), (q_t_ways, .inl (cy 0, 12, .inl v_t_ways)), (q_t_at, .inl (cy 0, 8, .inl v_t_at))] H ∧ va_D A [(q_t, oX5 v_t_places q_t_ways q_t_distances v_t_people q_t_kind q_t_a q_t_home q_t_aim q_t_at v_t_hour v_t_chance u10), (q_t_ways, .inl (cy 0, 12, .inl v_t_ways)), (q_t_at, .inl (cy 0, 8, .inl v_t_at))] ∧ va_S A s.heap H locs ∧ lv_has ls 6 [(4, .int x17), (0, .ref q_t), (1, .int p0), (2, .int x2), (5, .int x13)]) hf (fun x17 H locs ls hI hf => ?_) (fun k18 J81 hf => ?_)
        · obtain ⟨hP, hD, hS, hl⟩ := hI
          obtain ⟨x19, ex19⟩ : ∃ y : Int32, y = x13 + (1 : Int32) := ⟨_, rfl⟩
          have hf := vlE hf ex19
          refine lv_iinc (v := x19) (lv' := [(5, .int x19), (4, .int x17), (0, .ref q_t), (1, .int p0), (2, .int x2)]) hx hb dX5_drawPlace_81 hl (k := 4) rfl (by rw [ex19]; rfl) (by decide) rfl (fun ls hl => ?_)
          clear ex19
          refine lv_goto (tgt := 45) hx hb dX5_drawPlace_84 (by decide) ?_
          exact L45 x17 x19 _ _ ls ⟨hP, hD, hS, lv_sub hl [1, 0, 4, 2, 3] rfl⟩ hf
        · refine lv_if_eq (tgt := 81) hx hb dX5_drawPlace_61 (by decide) (fun c23 => ?_) (fun c23 => ?_)
          · have hf := ifT hf c23
            clear c23
            exact J81 x12 _ _ ls ⟨hP, hD, hS, lv_sub hl [0, 3, 4, 2, 1] rfl⟩ hf
          · have hf := ifF hf c23
            clear c23
            refine lv_iload hx hb dX5_drawPlace_64 (lv_at hl 0 rfl) ?_
            refine lv_if_ne (tgt := 78) hx hb dX5_drawPlace_66 (by decide) (fun c22 => ?_) (fun c22 => ?_)
            · have hf := ifF hf c22
              clear c22
              obtain ⟨x20, ex20⟩ : ∃ y : Int32, y = x12 + (-1 : Int32) := ⟨_, rfl⟩
              have hf := vlE hf ex20
              refine lv_iinc (v := x20) (lv' := [(4, .int x20), (5, .int x13), (2, .int x2), (0, .ref q_t), (1, .int p0)]) hx hb dX5_drawPlace_78 hl (k := 0) rfl (by rw [ex20]; rfl) (by decide) rfl (fun ls hl => ?_)
              clear ex20
              exact J81 x20 _ _ ls ⟨hP, hD, hS, lv_sub hl [0, 3, 4, 2, 1] rfl⟩ hf
            · have hf := ifT hf c22
              clear c22
              refine lv_aload_n hx hb dX5_drawPlace_69 rfl (lv_at hl 3 rfl) ?_
              refine va_get (D := D) (ci := 5) (v := .ref q_t_at) (C := RX5) (T := TX5) (N := 12) hx hb hts hinX5 hown hK.1 hP 0 rfl rfl 8 (by decide) hk34 (fun _ h9 => h9) rfl dX5_drawPlace_70 ?_
              refine lv_iload_n hx hb dX5_drawPlace_73 rfl (lv_at hl 4 rfl) ?_
              refine lv_iload hx hb dX5_drawPlace_74 (lv_at hl 1 rfl) ?_
              obtain ⟨hi21, hf⟩ := ckE hf
              refine va_iast hx hb hK.1 hP hD hS 2 0 rfl rfl hi21 dX5_drawPlace_76 (fun H locs hP hD hS => ?_)
              have hP : va_P D vwCl [(q_t, oX5 v_t_places q_t_ways q_t_distances v_t_people q_t_kind q_t_a q_t_home q_t_aim q_t_at v_t_hour v_t_chance u10), (q_t_ways, .inl (cy 0, 12, .inl v_t_ways)), (q_t_at, .inl (cy 0, 8, .inl (upd v_t_at p0.toNatClampNeg x13)))] H := hP
              have hD : va_D A [(q_t, oX5 v_t_places q_t_ways q_t_distances v_t_people q_t_kind q_t_a q_t_home q_t_aim q_t_at v_t_hour v_t_chance u10), (q_t_ways, .inl (cy 0, 12, .inl v_t_ways)), (q_t_at, .inl (cy 0, 8, .inl (upd v_t_at p0.toNatClampNeg x13)))] := hD
              cases hf
              exact W.vret hx hb hr (fun t ht hW => ⟨⟨(), rfl, trivial, xend ht hP⟩, hS.F ht⟩) hS.2.2 dX5_drawPlace_77
    · have hf := ifT hf c25
      clear c25
      cases hf
      exact W.vret hx hb hr (fun t ht hW => ⟨⟨(), rfl, trivial, xend ht hP⟩, hS.F ht⟩) hS.2.2 dX5_drawPlace_34
def fX5_passDrawnHour (v_t_places : Int32) (v_t_people : Int32) (v_t_hour : Int32) (v_t_chance : Int32) (v_t_seed : Int32) (v_t_ways : Nat → Int32) (v_t_kind : Nat → Int32) (v_t_at : Nat → Int32) : Option (Int32 × Int32 × (Nat → Int32)) :=
  lo3 (fun g4 (x1 : Int32) (u2 : Int32) (u3 : Nat → Int32) =>
    if v_t_people ≤ x1 then
      bo1 (fX5_endHour v_t_hour) fun u5 =>
      some (u5, u2, u3)
    else
      if x1 < 0 ∨ 8 ≤ x1.toNatClampNeg then none else
      jo2 (fun (u8 : Int32) (u9 : Nat → Int32) =>
        vlet (x1 + (1 : Int32)) fun x11 =>
        g4 x11 u8 u9) fun k10 =>
      if (v_t_kind x1.toNatClampNeg) = (1 : Int32) then
        k10 u2 u3
      else
        if x1 < 0 ∨ 8 ≤ x1.toNatClampNeg then none else
        if (v_t_kind x1.toNatClampNeg) = (3 : Int32) then
          k10 u2 u3
        else
          bo2 (fX5_drawPlace v_t_places v_t_chance u2 v_t_ways u3 x1) fun u13 u14 =>
          k10 u13 u14) 400 (0 : Int32) v_t_seed v_t_at
set_option maxHeartbeats 4000000 in
set_option maxRecDepth 100000 in
theorem mX5_passDrawnHour (l : Launch) (D : va_G) (cy : Nat → ClassId) (q_t q_t_ways q_t_distances q_t_kind q_t_a q_t_home q_t_aim q_t_at : Nat) (v_t_places : Int32) (v_t_people : Int32) (v_t_hour : Int32) (v_t_chance : Int32) (v_t_seed : Int32) (v_t_ways : Nat → Int32) (v_t_kind : Nat → Int32) (v_t_at : Nat → Int32) (sz : Nat) {n_t_hour : Int32} {n_t_seed : Int32} {n_t_at : Nat → Int32} (hf : fX5_passDrawnHour v_t_places v_t_people v_t_hour v_t_chance v_t_seed v_t_ways v_t_kind v_t_at = some (n_t_hour, n_t_seed, n_t_at)) : Met l yX5_passDrawnHour wsX5_passDrawnHour ({ frames := 2, cells := 0, slots := 0, locals := 47 }) (va_Pc [.ref q_t] (fun U => U.heap.size = sz ∧ va_P D vwCl [(q_t, oX5 v_t_places q_t_ways q_t_distances v_t_people q_t_kind q_t_a q_t_home q_t_aim q_t_at v_t_hour v_t_chance v_t_seed), (q_t_ways, .inl (cy 0, 12, .inl v_t_ways)), (q_t_kind, .inl (cy 0, 8, .inl v_t_kind)), (q_t_at, .inl (cy 0, 8, .inl v_t_at))] U.heap ∧ xK D cy U ∧ va_D (fun _ => True) [(q_t, oX5 v_t_places q_t_ways q_t_distances v_t_people q_t_kind q_t_a q_t_home q_t_aim q_t_at v_t_hour v_t_chance v_t_seed), (q_t_ways, .inl (cy 0, 12, .inl v_t_ways)), (q_t_kind, .inl (cy 0, 8, .inl v_t_kind)), (q_t_at, .inl (cy 0, 8, .inl v_t_at))])) (va_Qv (fun (_ : Unit) => True) (fun _ t => va_P D vwCl [(q_t, oX5 v_t_places q_t_ways q_t_distances v_t_people q_t_kind q_t_a q_t_home q_t_aim q_t_at n_t_hour v_t_chance n_t_seed), (q_t_ways, .inl (cy 0, 12, .inl v_t_ways)), (q_t_kind, .inl (cy 0, 8, .inl v_t_kind)), (q_t_at, .inl (cy 0, 8, .inl n_t_at))] t.heap) (va_A [(q_t, oX5 v_t_places q_t_ways q_t_distances v_t_people q_t_kind q_t_a q_t_home q_t_aim q_t_at v_t_hour v_t_chance v_t_seed), (q_t_ways, .inl (cy 0, 12, .inl v_t_ways)), (q_t_kind, .inl (cy 0, 8, .inl v_t_kind)), (q_t_at, .inl (cy 0, 8, .inl v_t_at))] sz)) 0 0 (va_A [(q_t, oX5 v_t_places q_t_ways q_t_distances v_t_people q_t_kind q_t_a q_t_home q_t_aim q_t_at v_t_hour v_t_chance v_t_seed), (q_t_ways, .inl (cy 0, 12, .inl v_t_ways)), (q_t_kind, .inl (cy 0, 8, .inl v_t_kind)), (q_t_at, .inl (cy 0, 8, .inl v_t_at))] sz) := by
  refine Met.ofW (cc := cX5_passDrawnHour) (maxL := 2) (ret := none) (by decide) rfl ?_
  intro p e s m args below meth c s₁ B hml hv
  obtain ⟨rfl, hsz, hP, hK, hD0⟩ := hv
  have hx := B.exec
  have hb := B.bytes
  have hr := B.returns
  have hts := atoms_spec (ws := wsX5_passDrawnHour) B.pre
  have hown : s.vm.findClass RX5 = some m.cls := findClass_of_methodNamed B.named
  have hlocks := B.notSynchronized
  subst hsz
  have hD := hD0.self (sz := s.heap.size)
  generalize hAe : va_A [(q_t, oX5 v_t_places q_t_ways q_t_distances v_t_people q_t_kind q_t_a q_t_home q_t_aim q_t_at v_t_hour v_t_chance v_t_seed), (q_t_ways, .inl (cy 0, 12, .inl v_t_ways)), (q_t_kind, .inl (cy 0, 8, .inl v_t_kind)), (q_t_at, .inl (cy 0, 8, .inl v_t_at))] s.heap.size = A at hD ⊢
  have hA : ∀ q : Nat, s.heap.size ≤ q → A q := fun q h => by rw [← hAe]; exact Or.inr h
  have hS : va_S A s.heap s.heap [] := va_S.rf
  have hP : va_P D vwCl [(q_t, oX5 v_t_places q_t_ways q_t_distances v_t_people q_t_kind q_t_a q_t_home q_t_aim q_t_at v_t_hour v_t_chance v_t_seed), (q_t_ways, .inl (cy 0, 12, .inl v_t_ways)), (q_t_kind, .inl (cy 0, 8, .inl v_t_kind)), (q_t_at, .inl (cy 0, 8, .inl v_t_at))] s.heap := hP
  have hinX5 : ∀ w ∈ u_ws RX5 TX5 12, w ∈ wsX5_passDrawnHour := by decide +kernel
  have hk52 := hts (.fieldLink RX5 52 "ShowsWhereNobodyIs$Town" "people" "I") (by decide +kernel)
  have hk22 := hts (.fieldLink RX5 22 "ShowsWhereNobodyIs$Town" "kind" "[I") (by decide +kernel)
  have hl := lv_entry ([.ref q_t]) (n := 2) (Nat.le_of_ble_eq_true rfl)
  rw [lg_entry_eq]
  generalize (lg_sl ([.ref q_t]) ++ List.replicate (2 - (lg_sl ([.ref q_t])).length) Slot.unset).toArray = ls at hl ⊢
  have hl : lv_has ls 2 [(0, .ref q_t)] := hl
  unfold fX5_passDrawnHour at hf
  refine lv_iconst (v := 0) hx hb dX5_passDrawnHour_0 (by decide) ?_
  refine lv_istore_n (lv' := [(1, .int (0 : Int32)), (0, .ref q_t)]) hx hb dX5_passDrawnHour_1 rfl hl (by decide) rfl (fun ls hl => ?_)
  refine wlw3 2 (fun _ _ _ => []) (fun (x1 : Int32) (u2 : Int32) (u3 : Nat → Int32) H locs ls => va_P D vwCl [(q_t, oX5 v_t_places q_t_ways q_t_distances v_t_people q_t_kind q_t_a q_t_home q_t_aim q_t_at v_t_hour v_t_chance u2), (q_t_ways, .inl (cy 0, 12, .inl v_t_ways)), (q_t_kind, .inl (cy 0, 8, .inl v_t_kind)), (q_t_at, .inl (cy 0, 8, .inl u3))] H ∧ va_D A [(q_t, oX5 v_t_places q_t_ways q_t_distances v_t_people q_t_kind q_t_a q_t_home q_t_aim q_t_at v_t_hour v_t_chance u2), (q_t_ways, .inl (cy 0, 12, .inl v_t_ways)), (q_t_kind, .inl (cy 0, 8, .inl v_t_kind)), (q_t_at, .inl (cy 0, 8, .inl u3))] ∧ va_S A s.heap H locs ∧ lv_has ls 2 [(1, .int x1), (0, .ref q_t)]) (fun g4 L2 x1 u2 u3 H locs ls hI hf => ?_) 400 (0 : Int32) v_t_seed v_t_at _ _ ls ⟨hP, hD, hS, lv_sub hl [0, 1] rfl⟩ hf
  obtain ⟨hP, hD, hS, hl⟩ := hI
  refine lv_iload_n hx hb dX5_passDrawnHour_2 rfl (lv_at hl 0 rfl) ?_
  refine lv_aload_n hx hb dX5_passDrawnHour_3 rfl (lv_at hl 1 rfl) ?_
  refine va_get (D := D) (ci := 5) (v := .int v_t_people) (C := RX5) (T := TX5) (N := 12) hx hb hts hinX5 hown hK.1 hP 0 rfl rfl 3 (by decide) hk52 (fun _ h9 => h9) rfl dX5_passDrawnHour_4 ?_
  refine lv_icmp_ge (tgt := 41) hx hb dX5_passDrawnHour_7 (by decide) (fun c18 => ?_) (fun c18 => ?_)
  · have hf := ifT hf c18
    clear c18
    refine lv_aload_n hx hb dX5_passDrawnHour_41 rfl (lv_at hl 1 rfl) ?_
    obtain ⟨u5, hr6, hf⟩ := boE1 hf
    have hPc := hP.sub (ws' := [(q_t, oX5 v_t_places q_t_ways q_t_distances v_t_people q_t_kind q_t_a q_t_home q_t_aim q_t_at v_t_hour v_t_chance u2)]) [0] rfl
    have hDc := hD.sub (ws' := [(q_t, oX5 v_t_places q_t_ways q_t_distances v_t_people q_t_kind q_t_a q_t_home q_t_aim q_t_at v_t_hour v_t_chance u2)]) [0] (by decide) rfl
    refine xcQv (w1 := [(q_t, oX5 v_t_places q_t_ways q_t_distances v_t_people q_t_kind q_t_a q_t_home q_t_aim q_t_at u5 v_t_chance u2)]) (va_runV (As := []) (rest := []) ⟨hx, hb, hml, hown, hts⟩ (mX5_endHour l D cy q_t q_t_ways q_t_distances q_t_kind q_t_a q_t_home q_t_aim q_t_at v_t_places v_t_people v_t_hour v_t_chance u2 _  hr6) (cwV 0 hts gX5_passDrawnHour_X5_endHour rfl rfl rfl (by decide +kernel) ⟨Nat.le_of_ble_eq_true rfl, Nat.le_of_ble_eq_true rfl⟩) (xPVw hK hPc hDc (ci := 5) (q0 := 0) rfl rfl) rfl rfl hl.1 rfl (lv_room (Nat.le_of_ble_eq_true rfl)) dX5_passDrawnHour_42 ⟨Nat.le_of_ble_eq_true rfl, Nat.le_of_ble_eq_true rfl⟩) hP hD hS hA [0] rfl rfl (fun H locs hP hD hS => ?_)
    have hP : va_P D vwCl [(q_t, oX5 v_t_places q_t_ways q_t_distances v_t_people q_t_kind q_t_a q_t_home q_t_aim q_t_at u5 v_t_chance u2), (q_t_ways, .inl (cy 0, 12, .inl v_t_ways)), (q_t_kind, .inl (cy 0, 8, .inl v_t_kind)), (q_t_at, .inl (cy 0, 8, .inl u3))] H := hP
    have hD : va_D A [(q_t, oX5 v_t_places q_t_ways q_t_distances v_t_people q_t_kind q_t_a q_t_home q_t_aim q_t_at u5 v_t_chance u2), (q_t_ways, .inl (cy 0, 12, .inl v_t_ways)), (q_t_kind, .inl (cy 0, 8, .inl v_t_kind)), (q_t_at, .inl (cy 0, 8, .inl u3))] := hD
    cases hf
    exact W.vret hx hb hr (fun t ht hW => ⟨⟨(), rfl, trivial, xend ht hP⟩, hS.F ht⟩) hS.2.2 dX5_passDrawnHour_45
  · have hf := ifF hf c18
    clear c18
    refine lv_aload_n hx hb dX5_passDrawnHour_10 rfl (lv_at hl 1 rfl) ?_
    refine va_get (D := D) (ci := 5) (v := .ref q_t_kind) (C := RX5) (T := TX5) (N := 12) hx hb hts hinX5 hown hK.1 hP 0 rfl rfl 4 (by decide) hk22 (fun _ h9 => h9) rfl dX5_passDrawnHour_11 ?_
    refine lv_iload_n hx hb dX5_passDrawnHour_14 rfl (lv_at hl 0 rfl) ?_
    obtain ⟨hi7, hf⟩ := ckE hf
    refine va_iald hx hb hK.1 hP 2 0 rfl rfl hi7 dX5_passDrawnHour_15 ?_
    refine lv_iconst (v := 1) hx hb dX5_passDrawnHour_16 (by decide) ?_
    refine jww2 35 (fun (u8 : Int32) (u9 : Nat → Int32) => []) (fun (u8 : Int32) (u9 : Nat → Int32) H locs ls => va_P D vwCl [(q_t, oX5 v_t_places q_t_ways q_t_distances v_t_people q_t_kind q_t_a q_t_home q_t_aim q_t_at v_t_hour v_t_chance u8), (q_t_ways, .inl (cy 0, 12, .inl v_t_ways)), (q_t_kind, .inl (cy 0, 8, .inl v_t_kind)), (q_t_at, .inl (cy 0, 8, .inl u9))] H ∧ va_D A [(q_t, oX5 v_t_places q_t_ways q_t_distances v_t_people q_t_kind q_t_a q_t_home q_t_aim q_t_at v_t_hour v_t_chance u8), (q_t_ways, .inl (cy 0, 12, .inl v_t_ways)), (q_t_kind, .inl (cy 0, 8, .inl v_t_kind)), (q_t_at, .inl (cy 0, 8, .inl u9))] ∧ va_S A s.heap H locs ∧ lv_has ls 2 [(0, .ref q_t), (1, .int x1)]) hf (fun u8 u9 H locs ls hI hf => ?_) (fun k10 J35 hf => ?_)
    · obtain ⟨hP, hD, hS, hl⟩ := hI
      obtain ⟨x11, ex11⟩ : ∃ y : Int32, y = x1 + (1 : Int32) := ⟨_, rfl⟩
      have hf := vlE hf ex11
      refine lv_iinc (v := x11) (lv' := [(1, .int x11), (0, .ref q_t)]) hx hb dX5_passDrawnHour_35 hl (k := 1) rfl (by rw [ex11]; rfl) (by decide) rfl (fun ls hl => ?_)
      clear ex11
      refine lv_goto (tgt := 2) hx hb dX5_passDrawnHour_38 (by decide) ?_
      exact L2 x11 u8 u9 _ _ ls ⟨hP, hD, hS, lv_sub hl [0, 1] rfl⟩ hf
    · refine lv_icmp_eq (tgt := 35) hx hb dX5_passDrawnHour_17 (by decide) (fun c17 => ?_) (fun c17 => ?_)
      · have hf := ifT hf c17
        clear c17
        exact J35 u2 u3 _ _ ls ⟨hP, hD, hS, lv_sub hl [1, 0] rfl⟩ hf
      · have hf := ifF hf c17
        clear c17
        refine lv_aload_n hx hb dX5_passDrawnHour_20 rfl (lv_at hl 1 rfl) ?_
        refine va_get (D := D) (ci := 5) (v := .ref q_t_kind) (C := RX5) (T := TX5) (N := 12) hx hb hts hinX5 hown hK.1 hP 0 rfl rfl 4 (by decide) hk22 (fun _ h9 => h9) rfl dX5_passDrawnHour_21 ?_
        refine lv_iload_n hx hb dX5_passDrawnHour_24 rfl (lv_at hl 0 rfl) ?_
        obtain ⟨hi12, hf⟩ := ckE hf
        refine va_iald hx hb hK.1 hP 2 0 rfl rfl hi12 dX5_passDrawnHour_25 ?_
        refine lv_iconst (v := 3) hx hb dX5_passDrawnHour_26 (by decide) ?_
        refine lv_icmp_eq (tgt := 35) hx hb dX5_passDrawnHour_27 (by decide) (fun c16 => ?_) (fun c16 => ?_)
        · have hf := ifT hf c16
          clear c16
          exact J35 u2 u3 _ _ ls ⟨hP, hD, hS, lv_sub hl [1, 0] rfl⟩ hf
        · have hf := ifF hf c16
          clear c16
          refine lv_aload_n hx hb dX5_passDrawnHour_30 rfl (lv_at hl 1 rfl) ?_
          refine lv_iload_n hx hb dX5_passDrawnHour_31 rfl (lv_at hl 0 rfl) ?_
          obtain ⟨u13, u14, hr15, hf⟩ := boE2 hf
          have hPc := hP.sub (ws' := [(q_t, oX5 v_t_places q_t_ways q_t_distances v_t_people q_t_kind q_t_a q_t_home q_t_aim q_t_at v_t_hour v_t_chance u2), (q_t_ways, .inl (cy 0, 12, .inl v_t_ways)), (q_t_at, .inl (cy 0, 8, .inl u3))]) [0, 1, 3] rfl
          have hDc := hD.sub (ws' := [(q_t, oX5 v_t_places q_t_ways q_t_distances v_t_people q_t_kind q_t_a q_t_home q_t_aim q_t_at v_t_hour v_t_chance u2), (q_t_ways, .inl (cy 0, 12, .inl v_t_ways)), (q_t_at, .inl (cy 0, 8, .inl u3))]) [0, 1, 3] (by decide) rfl
          refine xcQv (w1 := [(q_t, oX5 v_t_places q_t_ways q_t_distances v_t_people q_t_kind q_t_a q_t_home q_t_aim q_t_at v_t_hour v_t_chance u13), (q_t_ways, .inl (cy 0, 12, .inl v_t_ways)), (q_t_at, .inl (cy 0, 8, .inl u14))]) (va_runV (As := [.int x1]) (rest := []) ⟨hx, hb, hml, hown, hts⟩ (mX5_drawPlace l D cy q_t q_t_ways q_t_distances q_t_kind q_t_a q_t_home q_t_aim q_t_at v_t_places v_t_people v_t_hour v_t_chance u2 v_t_ways u3 _ x1 hr15) (cwV 1 hts gX5_passDrawnHour_X5_drawPlace rfl rfl rfl (by decide +kernel) ⟨Nat.le_of_ble_eq_true rfl, Nat.le_of_ble_eq_true rfl⟩) (xPVw hK hPc hDc (ci := 5) (q0 := 0) rfl rfl) rfl rfl hl.1 rfl (lv_room (Nat.le_of_ble_eq_true rfl)) dX5_passDrawnHour_32 ⟨Nat.le_of_ble_eq_true rfl, Nat.le_of_ble_eq_true rfl⟩) hP hD hS hA [0, 1, 3] rfl rfl (fun H locs hP hD hS => ?_)
          have hP : va_P D vwCl [(q_t, oX5 v_t_places q_t_ways q_t_distances v_t_people q_t_kind q_t_a q_t_home q_t_aim q_t_at v_t_hour v_t_chance u13), (q_t_ways, .inl (cy 0, 12, .inl v_t_ways)), (q_t_kind, .inl (cy 0, 8, .inl v_t_kind)), (q_t_at, .inl (cy 0, 8, .inl u14))] H := hP
          have hD : va_D A [(q_t, oX5 v_t_places q_t_ways q_t_distances v_t_people q_t_kind q_t_a q_t_home q_t_aim q_t_at v_t_hour v_t_chance u13), (q_t_ways, .inl (cy 0, 12, .inl v_t_ways)), (q_t_kind, .inl (cy 0, 8, .inl v_t_kind)), (q_t_at, .inl (cy 0, 8, .inl u14))] := hD
          exact J35 u13 u14 _ _ ls ⟨hP, hD, hS, lv_sub hl [1, 0] rfl⟩ hf
def fX5_countWays (v_t_places : Int32) (v_t_ways : Nat → Int32) : Option (Int32) :=
  lo2 (fun g3 (x1 : Int32) (x2 : Int32) =>
    if v_t_places ≤ x2 then
      some (x1 / (2 : Int32))
    else
      if x2 < 0 ∨ 12 ≤ x2.toNatClampNeg then none else
      bo1 (fJ6_bitCount_0f7a4 (v_t_ways x2.toNatClampNeg)) fun r5 =>
      vlet (x1 + r5) fun x7 =>
      vlet (x2 + (1 : Int32)) fun x8 =>
      g3 x7 x8) 400 (0 : Int32) (0 : Int32)
set_option maxHeartbeats 4000000 in
set_option maxRecDepth 100000 in
theorem mX5_countWays (l : Launch) (D : va_G) (cy : Nat → ClassId) (q_t q_t_ways q_t_distances q_t_kind q_t_a q_t_home q_t_aim q_t_at : Nat) (v_t_places : Int32) (v_t_people : Int32) (v_t_hour : Int32) (v_t_chance : Int32) (v_t_seed : Int32) (v_t_ways : Nat → Int32) {r_ : Int32} (hf : fX5_countWays v_t_places v_t_ways = some r_) : Met l yX5_countWays wsX5_countWays ({ frames := 1, cells := 0, slots := 0, locals := 20 }) (va_Pc [.ref q_t] (fun U => va_P D vwCl [(q_t, oX5 v_t_places q_t_ways q_t_distances v_t_people q_t_kind q_t_a q_t_home q_t_aim q_t_at v_t_hour v_t_chance v_t_seed), (q_t_ways, .inl (cy 0, 12, .inl v_t_ways))] U.heap ∧ xK D cy U)) (vp_Si (fun x => x = r_)) 0 0 (fun _ => False) := by
  refine Met.ofW (cc := cX5_countWays) (maxL := 3) (ret := (some .int)) (by decide) rfl ?_
  intro p e s m args below meth c s₁ B hml hv
  obtain ⟨rfl, hP, hK⟩ := hv
  have hx := B.exec
  have hb := B.bytes
  have hr := B.returns
  have hts := atoms_spec (ws := wsX5_countWays) B.pre
  have hown : s.vm.findClass RX5 = some m.cls := findClass_of_methodNamed B.named
  have hlocks := B.notSynchronized
  have hP : va_P D vwCl [(q_t, oX5 v_t_places q_t_ways q_t_distances v_t_people q_t_kind q_t_a q_t_home q_t_aim q_t_at v_t_hour v_t_chance v_t_seed), (q_t_ways, .inl (cy 0, 12, .inl v_t_ways))] s.heap := hP
  have hinX5 : ∀ w ∈ u_ws RX5 TX5 12, w ∈ wsX5_countWays := by decide +kernel
  have hk9 := hts (.fieldLink RX5 9 "ShowsWhereNobodyIs$Town" "places" "I") (by decide +kernel)
  have hk15 := hts (.fieldLink RX5 15 "ShowsWhereNobodyIs$Town" "ways" "[I") (by decide +kernel)
  have hl := lv_entry ([.ref q_t]) (n := 3) (Nat.le_of_ble_eq_true rfl)
  rw [lg_entry_eq]
  generalize (lg_sl ([.ref q_t]) ++ List.replicate (3 - (lg_sl ([.ref q_t])).length) Slot.unset).toArray = ls at hl ⊢
  have hl : lv_has ls 3 [(0, .ref q_t)] := hl
  unfold fX5_countWays at hf
  refine lv_iconst (v := 0) hx hb dX5_countWays_0 (by decide) ?_
  refine lv_istore_n (lv' := [(1, .int (0 : Int32)), (0, .ref q_t)]) hx hb dX5_countWays_1 rfl hl (by decide) rfl (fun ls hl => ?_)
  refine lv_iconst (v := 0) hx hb dX5_countWays_2 (by decide) ?_
  refine lv_istore_n (lv' := [(2, .int (0 : Int32)), (1, .int (0 : Int32)), (0, .ref q_t)]) hx hb dX5_countWays_3 rfl hl (by decide) rfl (fun ls hl => ?_)
  refine wlr2 4 (fun _ _ => []) (fun (x1 : Int32) (x2 : Int32) ls => lv_has ls 3 [(1, .int x1), (2, .int x2), (0, .ref q_t)]) (fun g3 L4 x1 x2 ls hl hf => ?_) 400 (0 : Int32) (0 : Int32) ls (lv_sub hl [1, 0, 2] rfl) hf
  refine lv_iload_n hx hb dX5_countWays_4 rfl (lv_at hl 1 rfl) ?_
  refine lv_aload_n hx hb dX5_countWays_5 rfl (lv_at hl 2 rfl) ?_
  refine va_get (D := D) (ci := 5) (v := .int v_t_places) (C := RX5) (T := TX5) (N := 12) hx hb hts hinX5 hown hK.1 hP 0 rfl rfl 0 (by decide) hk9 (fun _ h9 => h9) rfl dX5_countWays_6 ?_
  refine lv_icmp_ge (tgt := 30) hx hb dX5_countWays_9 (by decide) (fun c9 => ?_) (fun c9 => ?_)
  · have hf := ifT hf c9
    clear c9
    refine lv_iload_n hx hb dX5_countWays_30 rfl (lv_at hl 0 rfl) ?_
    refine lv_iconst (v := 2) hx hb dX5_countWays_31 (by decide) ?_
    refine lv_idiv hx hb dX5_countWays_32 (by decide) ?_
    exact W.iret (v := (x1 / (2 : Int32))) hx hb hr (fun t ht hW => ⟨(x1 / (2 : Int32)), rfl, Option.some.inj hf, ht⟩) (fun q h => nomatch h) dX5_countWays_33
  · have hf := ifF hf c9
    clear c9
    refine lv_iload_n hx hb dX5_countWays_12 rfl (lv_at hl 0 rfl) ?_
    refine lv_aload_n hx hb dX5_countWays_13 rfl (lv_at hl 2 rfl) ?_
    refine va_get (D := D) (ci := 5) (v := .ref q_t_ways) (C := RX5) (T := TX5) (N := 12) hx hb hts hinX5 hown hK.1 hP 0 rfl rfl 1 (by decide) hk15 (fun _ h9 => h9) rfl dX5_countWays_14 ?_
    refine lv_iload_n hx hb dX5_countWays_17 rfl (lv_at hl 1 rfl) ?_
    obtain ⟨hi4, hf⟩ := ckE hf
    refine va_iald hx hb hK.1 hP 1 0 rfl rfl hi4 dX5_countWays_18 ?_
    obtain ⟨r5, hr6, hf⟩ := boE1 hf
    have hPc := hP.sub (ws' := []) [] rfl
    refine xcSi (va_runS (As := [.int (v_t_ways x2.toNatClampNeg)]) (rest := [.int x1]) ⟨hx, hb, hml, hown, hts⟩ (mJ6_bitCount_0f7a4 l D cy    (v_t_ways x2.toNatClampNeg) hr6) (va_cwS 1 hts gX5_countWays_J6_bitCount_0f7a4 rfl rfl rfl (by decide +kernel) ⟨Nat.le_of_ble_eq_true rfl, Nat.le_of_ble_eq_true rfl⟩) (xPS hK hPc) rfl rfl hl.1 rfl (lv_room (Nat.le_of_ble_eq_true rfl)) dX5_countWays_19 ⟨Nat.le_of_ble_eq_true rfl, Nat.le_of_ble_eq_true rfl⟩) ?_
    refine lv_iadd hx hb dX5_countWays_22 ?_
    refine lv_topi (fun x7 ex7 => ?_)
    have hf := vlE hf ex7
    clear ex7
    refine lv_istore_n (lv' := [(1, .int x7), (2, .int x2), (0, .ref q_t)]) hx hb dX5_countWays_23 rfl hl (by decide) rfl (fun ls hl => ?_)
    obtain ⟨x8, ex8⟩ : ∃ y : Int32, y = x2 + (1 : Int32) := ⟨_, rfl⟩
    have hf := vlE hf ex8
    refine lv_iinc (v := x8) (lv' := [(2, .int x8), (1, .int x7), (0, .ref q_t)]) hx hb dX5_countWays_24 hl (k := 1) rfl (by rw [ex8]; rfl) (by decide) rfl (fun ls hl => ?_)
    clear ex8
    refine lv_goto (tgt := 4) hx hb dX5_countWays_27 (by decide) ?_
    exact L4 x7 x8 ls (lv_sub hl [1, 0, 2] rfl) hf
def fX5_shiningCount (v_t_places : Int32) (v_t_people : Int32) (v_t_kind : Nat → Int32) (v_t_at : Nat → Int32) : Option (Int32) :=
  bo1 (fX5_shiningPlaces v_t_places v_t_people v_t_kind v_t_at) fun r1 =>
  bo1 (fJ6_bitCount_0f7a4 r1) fun r3 =>
  some r3
set_option maxHeartbeats 4000000 in
set_option maxRecDepth 100000 in
theorem mX5_shiningCount (l : Launch) (D : va_G) (cy : Nat → ClassId) (q_t q_t_ways q_t_distances q_t_kind q_t_a q_t_home q_t_aim q_t_at : Nat) (v_t_places : Int32) (v_t_people : Int32) (v_t_hour : Int32) (v_t_chance : Int32) (v_t_seed : Int32) (v_t_kind : Nat → Int32) (v_t_at : Nat → Int32) {r_ : Int32} (hf : fX5_shiningCount v_t_places v_t_people v_t_kind v_t_at = some r_) : Met l yX5_shiningCount wsX5_shiningCount ({ frames := 3, cells := 0, slots := 0, locals := 63 }) (va_Pc [.ref q_t] (fun U => va_P D vwCl [(q_t, oX5 v_t_places q_t_ways q_t_distances v_t_people q_t_kind q_t_a q_t_home q_t_aim q_t_at v_t_hour v_t_chance v_t_seed), (q_t_kind, .inl (cy 0, 8, .inl v_t_kind)), (q_t_at, .inl (cy 0, 8, .inl v_t_at))] U.heap ∧ xK D cy U)) (vp_Si (fun x => x = r_)) 0 0 (fun _ => False) := by
  refine Met.ofW (cc := cX5_shiningCount) (maxL := 1) (ret := (some .int)) (by decide) rfl ?_
  intro p e s m args below meth c s₁ B hml hv
  obtain ⟨rfl, hP, hK⟩ := hv
  have hx := B.exec
  have hb := B.bytes
  have hr := B.returns
  have hts := atoms_spec (ws := wsX5_shiningCount) B.pre
  have hown : s.vm.findClass RX5 = some m.cls := findClass_of_methodNamed B.named
  have hlocks := B.notSynchronized
  have hP : va_P D vwCl [(q_t, oX5 v_t_places q_t_ways q_t_distances v_t_people q_t_kind q_t_a q_t_home q_t_aim q_t_at v_t_hour v_t_chance v_t_seed), (q_t_kind, .inl (cy 0, 8, .inl v_t_kind)), (q_t_at, .inl (cy 0, 8, .inl v_t_at))] s.heap := hP
  have hl := lv_entry ([.ref q_t]) (n := 1) (Nat.le_of_ble_eq_true rfl)
  rw [lg_entry_eq]
  generalize (lg_sl ([.ref q_t]) ++ List.replicate (1 - (lg_sl ([.ref q_t])).length) Slot.unset).toArray = ls at hl ⊢
  have hl : lv_has ls 1 [(0, .ref q_t)] := hl
  unfold fX5_shiningCount at hf
  refine lv_aload_n hx hb dX5_shiningCount_0 rfl (lv_at hl 0 rfl) ?_
  obtain ⟨r1, hr2, hf⟩ := boE1 hf
  have hPc := hP.sub (ws' := [(q_t, oX5 v_t_places q_t_ways q_t_distances v_t_people q_t_kind q_t_a q_t_home q_t_aim q_t_at v_t_hour v_t_chance v_t_seed), (q_t_kind, .inl (cy 0, 8, .inl v_t_kind)), (q_t_at, .inl (cy 0, 8, .inl v_t_at))]) [0, 1, 2] rfl
  refine xcSi (va_runV (As := []) (rest := []) ⟨hx, hb, hml, hown, hts⟩ (mX5_shiningPlaces l D cy q_t q_t_ways q_t_distances q_t_kind q_t_a q_t_home q_t_aim q_t_at v_t_places v_t_people v_t_hour v_t_chance v_t_seed v_t_kind v_t_at   hr2) (cwV 0 hts gX5_shiningCount_X5_shiningPlaces rfl rfl rfl (by decide +kernel) ⟨Nat.le_of_ble_eq_true rfl, Nat.le_of_ble_eq_true rfl⟩) (xPV hK hPc (ci := 5) (q0 := 0) rfl rfl) rfl rfl hl.1 rfl (lv_room (Nat.le_of_ble_eq_true rfl)) dX5_shiningCount_1 ⟨Nat.le_of_ble_eq_true rfl, Nat.le_of_ble_eq_true rfl⟩) ?_
  obtain ⟨r3, hr4, hf⟩ := boE1 hf
  have hPc := hP.sub (ws' := []) [] rfl
  refine xcSi (va_runS (As := [.int r1]) (rest := []) ⟨hx, hb, hml, hown, hts⟩ (mJ6_bitCount_0f7a4 l D cy    r1 hr4) (va_cwS 1 hts gX5_shiningCount_J6_bitCount_0f7a4 rfl rfl rfl (by decide +kernel) ⟨Nat.le_of_ble_eq_true rfl, Nat.le_of_ble_eq_true rfl⟩) (xPS hK hPc) rfl rfl hl.1 rfl (lv_room (Nat.le_of_ble_eq_true rfl)) dX5_shiningCount_4 ⟨Nat.le_of_ble_eq_true rfl, Nat.le_of_ble_eq_true rfl⟩) ?_
  exact W.iret (v := r3) hx hb hr (fun t ht hW => ⟨r3, rfl, Option.some.inj hf, ht⟩) (fun q h => nomatch h) dX5_shiningCount_7
def fX5_become (v_o0_places : Int32) (v_o0_people : Int32) (v_o0_hour : Int32) (v_o0_chance : Int32) (v_o0_seed : Int32) (v_o0_ways : Nat → Int32) (v_o0_distances : Nat → Int32) (v_o0_kind : Nat → Int32) (v_o0_a : Nat → Int32) (v_o0_home : Nat → Int32) (v_o0_aim : Nat → Int32) (v_o0_at : Nat → Int32) : Option (Int32 × Int32 × Int32 × Int32 × Int32 × (Nat → Int32) × (Nat → Int32) × (Nat → Int32) × (Nat → Int32) × (Nat → Int32) × (Nat → Int32) × (Nat → Int32)) :=
  some (v_o0_places, v_o0_people, v_o0_hour, v_o0_chance, v_o0_seed, v_o0_ways, v_o0_distances, v_o0_kind, v_o0_a, v_o0_home, v_o0_aim, v_o0_at)
set_option maxHeartbeats 4000000 in
set_option maxRecDepth 100000 in
theorem mX5_become (l : Launch) (D : va_G) (cy : Nat → ClassId) (q_t q_o0 q_t_ways q_t_distances q_t_kind q_t_a q_t_home q_t_aim q_t_at q_o0_ways q_o0_distances q_o0_kind q_o0_a q_o0_home q_o0_aim q_o0_at : Nat) (v_t_places : Int32) (v_t_people : Int32) (v_t_hour : Int32) (v_t_chance : Int32) (v_t_seed : Int32) (v_t_ways : Nat → Int32) (v_t_distances : Nat → Int32) (v_t_kind : Nat → Int32) (v_t_a : Nat → Int32) (v_t_home : Nat → Int32) (v_t_aim : Nat → Int32) (v_t_at : Nat → Int32) (v_o0_places : Int32) (v_o0_people : Int32) (v_o0_hour : Int32) (v_o0_chance : Int32) (v_o0_seed : Int32) (v_o0_ways : Nat → Int32) (v_o0_distances : Nat → Int32) (v_o0_kind : Nat → Int32) (v_o0_a : Nat → Int32) (v_o0_home : Nat → Int32) (v_o0_aim : Nat → Int32) (v_o0_at : Nat → Int32) (sz : Nat) {n_t_places : Int32} {n_t_people : Int32} {n_t_hour : Int32} {n_t_chance : Int32} {n_t_seed : Int32} {n_t_ways : Nat → Int32} {n_t_distances : Nat → Int32} {n_t_kind : Nat → Int32} {n_t_a : Nat → Int32} {n_t_home : Nat → Int32} {n_t_aim : Nat → Int32} {n_t_at : Nat → Int32} (hf : fX5_become v_o0_places v_o0_people v_o0_hour v_o0_chance v_o0_seed v_o0_ways v_o0_distances v_o0_kind v_o0_a v_o0_home v_o0_aim v_o0_at = some (n_t_places, n_t_people, n_t_hour, n_t_chance, n_t_seed, n_t_ways, n_t_distances, n_t_kind, n_t_a, n_t_home, n_t_aim, n_t_at)) : Met l yX5_become wsX5_become ({ frames := 1, cells := 0, slots := 0, locals := 40 }) (va_Pc [.ref q_t, .ref q_o0] (fun U => U.heap.size = sz ∧ va_P D vwCl [(q_t, oX5 v_t_places q_t_ways q_t_distances v_t_people q_t_kind q_t_a q_t_home q_t_aim q_t_at v_t_hour v_t_chance v_t_seed), (q_t_ways, .inl (cy 0, 12, .inl v_t_ways)), (q_t_distances, .inl (cy 0, 144, .inl v_t_distances)), (q_t_kind, .inl (cy 0, 8, .inl v_t_kind)), (q_t_a, .inl (cy 0, 8, .inl v_t_a)), (q_t_home, .inl (cy 0, 8, .inl v_t_home)), (q_t_aim, .inl (cy 0, 8, .inl v_t_aim)), (q_t_at, .inl (cy 0, 8, .inl v_t_at)), (q_o0, oX5 v_o0_places q_o0_ways q_o0_distances v_o0_people q_o0_kind q_o0_a q_o0_home q_o0_aim q_o0_at v_o0_hour v_o0_chance v_o0_seed), (q_o0_ways, .inl (cy 0, 12, .inl v_o0_ways)), (q_o0_distances, .inl (cy 0, 144, .inl v_o0_distances)), (q_o0_kind, .inl (cy 0, 8, .inl v_o0_kind)), (q_o0_a, .inl (cy 0, 8, .inl v_o0_a)), (q_o0_home, .inl (cy 0, 8, .inl v_o0_home)), (q_o0_aim, .inl (cy 0, 8, .inl v_o0_aim)), (q_o0_at, .inl (cy 0, 8, .inl v_o0_at))] U.heap ∧ xK D cy U ∧ va_D (fun _ => True) [(q_t, oX5 v_t_places q_t_ways q_t_distances v_t_people q_t_kind q_t_a q_t_home q_t_aim q_t_at v_t_hour v_t_chance v_t_seed), (q_t_ways, .inl (cy 0, 12, .inl v_t_ways)), (q_t_distances, .inl (cy 0, 144, .inl v_t_distances)), (q_t_kind, .inl (cy 0, 8, .inl v_t_kind)), (q_t_a, .inl (cy 0, 8, .inl v_t_a)), (q_t_home, .inl (cy 0, 8, .inl v_t_home)), (q_t_aim, .inl (cy 0, 8, .inl v_t_aim)), (q_t_at, .inl (cy 0, 8, .inl v_t_at)), (q_o0, oX5 v_o0_places q_o0_ways q_o0_distances v_o0_people q_o0_kind q_o0_a q_o0_home q_o0_aim q_o0_at v_o0_hour v_o0_chance v_o0_seed), (q_o0_ways, .inl (cy 0, 12, .inl v_o0_ways)), (q_o0_distances, .inl (cy 0, 144, .inl v_o0_distances)), (q_o0_kind, .inl (cy 0, 8, .inl v_o0_kind)), (q_o0_a, .inl (cy 0, 8, .inl v_o0_a)), (q_o0_home, .inl (cy 0, 8, .inl v_o0_home)), (q_o0_aim, .inl (cy 0, 8, .inl v_o0_aim)), (q_o0_at, .inl (cy 0, 8, .inl v_o0_at))])) (va_Qv (fun (_ : Unit) => True) (fun _ t => va_P D vwCl [(q_t, oX5 n_t_places q_t_ways q_t_distances n_t_people q_t_kind q_t_a q_t_home q_t_aim q_t_at n_t_hour n_t_chance n_t_seed), (q_t_ways, .inl (cy 0, 12, .inl n_t_ways)), (q_t_distances, .inl (cy 0, 144, .inl n_t_distances)), (q_t_kind, .inl (cy 0, 8, .inl n_t_kind)), (q_t_a, .inl (cy 0, 8, .inl n_t_a)), (q_t_home, .inl (cy 0, 8, .inl n_t_home)), (q_t_aim, .inl (cy 0, 8, .inl n_t_aim)), (q_t_at, .inl (cy 0, 8, .inl n_t_at)), (q_o0, oX5 v_o0_places q_o0_ways q_o0_distances v_o0_people q_o0_kind q_o0_a q_o0_home q_o0_aim q_o0_at v_o0_hour v_o0_chance v_o0_seed), (q_o0_ways, .inl (cy 0, 12, .inl v_o0_ways)), (q_o0_distances, .inl (cy 0, 144, .inl v_o0_distances)), (q_o0_kind, .inl (cy 0, 8, .inl v_o0_kind)), (q_o0_a, .inl (cy 0, 8, .inl v_o0_a)), (q_o0_home, .inl (cy 0, 8, .inl v_o0_home)), (q_o0_aim, .inl (cy 0, 8, .inl v_o0_aim)), (q_o0_at, .inl (cy 0, 8, .inl v_o0_at))] t.heap) (va_A [(q_t, oX5 v_t_places q_t_ways q_t_distances v_t_people q_t_kind q_t_a q_t_home q_t_aim q_t_at v_t_hour v_t_chance v_t_seed), (q_t_ways, .inl (cy 0, 12, .inl v_t_ways)), (q_t_distances, .inl (cy 0, 144, .inl v_t_distances)), (q_t_kind, .inl (cy 0, 8, .inl v_t_kind)), (q_t_a, .inl (cy 0, 8, .inl v_t_a)), (q_t_home, .inl (cy 0, 8, .inl v_t_home)), (q_t_aim, .inl (cy 0, 8, .inl v_t_aim)), (q_t_at, .inl (cy 0, 8, .inl v_t_at)), (q_o0, oX5 v_o0_places q_o0_ways q_o0_distances v_o0_people q_o0_kind q_o0_a q_o0_home q_o0_aim q_o0_at v_o0_hour v_o0_chance v_o0_seed), (q_o0_ways, .inl (cy 0, 12, .inl v_o0_ways)), (q_o0_distances, .inl (cy 0, 144, .inl v_o0_distances)), (q_o0_kind, .inl (cy 0, 8, .inl v_o0_kind)), (q_o0_a, .inl (cy 0, 8, .inl v_o0_a)), (q_o0_home, .inl (cy 0, 8, .inl v_o0_home)), (q_o0_aim, .inl (cy 0, 8, .inl v_o0_aim)), (q_o0_at, .inl (cy 0, 8, .inl v_o0_at))] sz)) 0 0 (va_A [(q_t, oX5 v_t_places q_t_ways q_t_distances v_t_people q_t_kind q_t_a q_t_home q_t_aim q_t_at v_t_hour v_t_chance v_t_seed), (q_t_ways, .inl (cy 0, 12, .inl v_t_ways)), (q_t_distances, .inl (cy 0, 144, .inl v_t_distances)), (q_t_kind, .inl (cy 0, 8, .inl v_t_kind)), (q_t_a, .inl (cy 0, 8, .inl v_t_a)), (q_t_home, .inl (cy 0, 8, .inl v_t_home)), (q_t_aim, .inl (cy 0, 8, .inl v_t_aim)), (q_t_at, .inl (cy 0, 8, .inl v_t_at)), (q_o0, oX5 v_o0_places q_o0_ways q_o0_distances v_o0_people q_o0_kind q_o0_a q_o0_home q_o0_aim q_o0_at v_o0_hour v_o0_chance v_o0_seed), (q_o0_ways, .inl (cy 0, 12, .inl v_o0_ways)), (q_o0_distances, .inl (cy 0, 144, .inl v_o0_distances)), (q_o0_kind, .inl (cy 0, 8, .inl v_o0_kind)), (q_o0_a, .inl (cy 0, 8, .inl v_o0_a)), (q_o0_home, .inl (cy 0, 8, .inl v_o0_home)), (q_o0_aim, .inl (cy 0, 8, .inl v_o0_aim)), (q_o0_at, .inl (cy 0, 8, .inl v_o0_at))] sz) := by
  refine Met.ofW (cc := cX5_become) (maxL := 2) (ret := none) (by decide) rfl ?_
  intro p e s m args below meth c s₁ B hml hv
  obtain ⟨rfl, hsz, hP, hK, hD0⟩ := hv
  have hx := B.exec
  have hb := B.bytes
  have hr := B.returns
  have hts := atoms_spec (ws := wsX5_become) B.pre
  have hown : s.vm.findClass RX5 = some m.cls := findClass_of_methodNamed B.named
  have hlocks := B.notSynchronized
  subst hsz
  have hD := hD0.self (sz := s.heap.size)
  generalize hAe : va_A [(q_t, oX5 v_t_places q_t_ways q_t_distances v_t_people q_t_kind q_t_a q_t_home q_t_aim q_t_at v_t_hour v_t_chance v_t_seed), (q_t_ways, .inl (cy 0, 12, .inl v_t_ways)), (q_t_distances, .inl (cy 0, 144, .inl v_t_distances)), (q_t_kind, .inl (cy 0, 8, .inl v_t_kind)), (q_t_a, .inl (cy 0, 8, .inl v_t_a)), (q_t_home, .inl (cy 0, 8, .inl v_t_home)), (q_t_aim, .inl (cy 0, 8, .inl v_t_aim)), (q_t_at, .inl (cy 0, 8, .inl v_t_at)), (q_o0, oX5 v_o0_places q_o0_ways q_o0_distances v_o0_people q_o0_kind q_o0_a q_o0_home q_o0_aim q_o0_at v_o0_hour v_o0_chance v_o0_seed), (q_o0_ways, .inl (cy 0, 12, .inl v_o0_ways)), (q_o0_distances, .inl (cy 0, 144, .inl v_o0_distances)), (q_o0_kind, .inl (cy 0, 8, .inl v_o0_kind)), (q_o0_a, .inl (cy 0, 8, .inl v_o0_a)), (q_o0_home, .inl (cy 0, 8, .inl v_o0_home)), (q_o0_aim, .inl (cy 0, 8, .inl v_o0_aim)), (q_o0_at, .inl (cy 0, 8, .inl v_o0_at))] s.heap.size = A at hD ⊢
  have hA : ∀ q : Nat, s.heap.size ≤ q → A q := fun q h => by rw [← hAe]; exact Or.inr h
  have hS : va_S A s.heap s.heap [] := va_S.rf
  have hP : va_P D vwCl [(q_t, oX5 v_t_places q_t_ways q_t_distances v_t_people q_t_kind q_t_a q_t_home q_t_aim q_t_at v_t_hour v_t_chance v_t_seed), (q_t_ways, .inl (cy 0, 12, .inl v_t_ways)), (q_t_distances, .inl (cy 0, 144, .inl v_t_distances)), (q_t_kind, .inl (cy 0, 8, .inl v_t_kind)), (q_t_a, .inl (cy 0, 8, .inl v_t_a)), (q_t_home, .inl (cy 0, 8, .inl v_t_home)), (q_t_aim, .inl (cy 0, 8, .inl v_t_aim)), (q_t_at, .inl (cy 0, 8, .inl v_t_at)), (q_o0, oX5 v_o0_places q_o0_ways q_o0_distances v_o0_people q_o0_kind q_o0_a q_o0_home q_o0_aim q_o0_at v_o0_hour v_o0_chance v_o0_seed), (q_o0_ways, .inl (cy 0, 12, .inl v_o0_ways)), (q_o0_distances, .inl (cy 0, 144, .inl v_o0_distances)), (q_o0_kind, .inl (cy 0, 8, .inl v_o0_kind)), (q_o0_a, .inl (cy 0, 8, .inl v_o0_a)), (q_o0_home, .inl (cy 0, 8, .inl v_o0_home)), (q_o0_aim, .inl (cy 0, 8, .inl v_o0_aim)), (q_o0_at, .inl (cy 0, 8, .inl v_o0_at))] s.heap := hP
  have hinX5 : ∀ w ∈ u_ws RX5 TX5 12, w ∈ wsX5_become := by decide +kernel
  have hk9 := hts (.fieldLink RX5 9 "ShowsWhereNobodyIs$Town" "places" "I") (by decide +kernel)
  have hk15 := hts (.fieldLink RX5 15 "ShowsWhereNobodyIs$Town" "ways" "[I") (by decide +kernel)
  have hm46 := hts (.methodLink RX5 46 arraycopyName) (by decide +kernel)
  have hmn := hts (.native arraycopyName) (by decide +kernel)
  have hmst := hts (.static arraycopyName) (by decide +kernel)
  have hmi := hts (.initialized "java/lang/System") (by decide +kernel)
  have hk19 := hts (.fieldLink RX5 19 "ShowsWhereNobodyIs$Town" "distances" "[I") (by decide +kernel)
  have hk52 := hts (.fieldLink RX5 52 "ShowsWhereNobodyIs$Town" "people" "I") (by decide +kernel)
  have hk22 := hts (.fieldLink RX5 22 "ShowsWhereNobodyIs$Town" "kind" "[I") (by decide +kernel)
  have hk25 := hts (.fieldLink RX5 25 "ShowsWhereNobodyIs$Town" "a" "[I") (by decide +kernel)
  have hk28 := hts (.fieldLink RX5 28 "ShowsWhereNobodyIs$Town" "home" "[I") (by decide +kernel)
  have hk31 := hts (.fieldLink RX5 31 "ShowsWhereNobodyIs$Town" "aim" "[I") (by decide +kernel)
  have hk34 := hts (.fieldLink RX5 34 "ShowsWhereNobodyIs$Town" "at" "[I") (by decide +kernel)
  have hk55 := hts (.fieldLink RX5 55 "ShowsWhereNobodyIs$Town" "hour" "I") (by decide +kernel)
  have hk37 := hts (.fieldLink RX5 37 "ShowsWhereNobodyIs$Town" "chance" "I") (by decide +kernel)
  have hk40 := hts (.fieldLink RX5 40 "ShowsWhereNobodyIs$Town" "seed" "I") (by decide +kernel)
  have hl := lv_entry ([.ref q_t, .ref q_o0]) (n := 2) (Nat.le_of_ble_eq_true rfl)
  rw [lg_entry_eq]
  generalize (lg_sl ([.ref q_t, .ref q_o0]) ++ List.replicate (2 - (lg_sl ([.ref q_t, .ref q_o0])).length) Slot.unset).toArray = ls at hl ⊢
  have hl : lv_has ls 2 [(0, .ref q_t), (1, .ref q_o0)] := hl
  unfold fX5_become at hf
  refine lv_aload_n hx hb dX5_become_0 rfl (lv_at hl 0 rfl) ?_
  refine lv_aload_n hx hb dX5_become_1 rfl (lv_at hl 1 rfl) ?_
  refine va_get (D := D) (ci := 5) (v := .int v_o0_places) (C := RX5) (T := TX5) (N := 12) hx hb hts hinX5 hown hK.1 hP 8 rfl rfl 0 (by decide) hk9 (fun _ h9 => h9) rfl dX5_become_2 ?_
  refine va_put (D := D) (ci := 5) (v := .int v_o0_places) (ty := .int) (C := RX5) (T := TX5) (N := 12) hx hb hts hinX5 tyX5 tyX5_ok nmX5 hown hK.1 hP hD hS 0 rfl rfl 0 (by decide) hk9 (fun _ h9 => h9) rfl (by decide +kernel) rfl rfl (Nat.le_of_ble_eq_true rfl) dX5_become_5 (fun H locs hP hD hS => ?_)
  have hP : va_P D vwCl [(q_t, oX5 v_o0_places q_t_ways q_t_distances v_t_people q_t_kind q_t_a q_t_home q_t_aim q_t_at v_t_hour v_t_chance v_t_seed), (q_t_ways, .inl (cy 0, 12, .inl v_t_ways)), (q_t_distances, .inl (cy 0, 144, .inl v_t_distances)), (q_t_kind, .inl (cy 0, 8, .inl v_t_kind)), (q_t_a, .inl (cy 0, 8, .inl v_t_a)), (q_t_home, .inl (cy 0, 8, .inl v_t_home)), (q_t_aim, .inl (cy 0, 8, .inl v_t_aim)), (q_t_at, .inl (cy 0, 8, .inl v_t_at)), (q_o0, oX5 v_o0_places q_o0_ways q_o0_distances v_o0_people q_o0_kind q_o0_a q_o0_home q_o0_aim q_o0_at v_o0_hour v_o0_chance v_o0_seed), (q_o0_ways, .inl (cy 0, 12, .inl v_o0_ways)), (q_o0_distances, .inl (cy 0, 144, .inl v_o0_distances)), (q_o0_kind, .inl (cy 0, 8, .inl v_o0_kind)), (q_o0_a, .inl (cy 0, 8, .inl v_o0_a)), (q_o0_home, .inl (cy 0, 8, .inl v_o0_home)), (q_o0_aim, .inl (cy 0, 8, .inl v_o0_aim)), (q_o0_at, .inl (cy 0, 8, .inl v_o0_at))] H := hP
  have hD : va_D A [(q_t, oX5 v_o0_places q_t_ways q_t_distances v_t_people q_t_kind q_t_a q_t_home q_t_aim q_t_at v_t_hour v_t_chance v_t_seed), (q_t_ways, .inl (cy 0, 12, .inl v_t_ways)), (q_t_distances, .inl (cy 0, 144, .inl v_t_distances)), (q_t_kind, .inl (cy 0, 8, .inl v_t_kind)), (q_t_a, .inl (cy 0, 8, .inl v_t_a)), (q_t_home, .inl (cy 0, 8, .inl v_t_home)), (q_t_aim, .inl (cy 0, 8, .inl v_t_aim)), (q_t_at, .inl (cy 0, 8, .inl v_t_at)), (q_o0, oX5 v_o0_places q_o0_ways q_o0_distances v_o0_people q_o0_kind q_o0_a q_o0_home q_o0_aim q_o0_at v_o0_hour v_o0_chance v_o0_seed), (q_o0_ways, .inl (cy 0, 12, .inl v_o0_ways)), (q_o0_distances, .inl (cy 0, 144, .inl v_o0_distances)), (q_o0_kind, .inl (cy 0, 8, .inl v_o0_kind)), (q_o0_a, .inl (cy 0, 8, .inl v_o0_a)), (q_o0_home, .inl (cy 0, 8, .inl v_o0_home)), (q_o0_aim, .inl (cy 0, 8, .inl v_o0_aim)), (q_o0_at, .inl (cy 0, 8, .inl v_o0_at))] := hD
  refine lv_aload_n hx hb dX5_become_8 rfl (lv_at hl 1 rfl) ?_
  refine va_get (D := D) (ci := 5) (v := .ref q_o0_ways) (C := RX5) (T := TX5) (N := 12) hx hb hts hinX5 hown hK.1 hP 8 rfl rfl 1 (by decide) hk15 (fun _ h9 => h9) rfl dX5_become_9 ?_
  refine lv_iconst (v := 0) hx hb dX5_become_12 (by decide) ?_
  refine lv_aload_n hx hb dX5_become_13 rfl (lv_at hl 0 rfl) ?_
  refine va_get (D := D) (ci := 5) (v := .ref q_t_ways) (C := RX5) (T := TX5) (N := 12) hx hb hts hinX5 hown hK.1 hP 0 rfl rfl 1 (by decide) hk15 (fun _ h9 => h9) rfl dX5_become_14 ?_
  refine lv_iconst (v := 0) hx hb dX5_become_17 (by decide) ?_
  refine lv_bipush (v := 12) hx hb dX5_become_18 (by decide) ?_
  refine va_copyi hx hb (by rw [hml]; exact hl.1.symm) hown hm46 hmn hmst hmi hK.1 hP hD hS 9 1 0 0 rfl rfl rfl rfl rfl (by decide) (by decide) (by decide) (by decide) (by decide) (fun _ _ => rfl) (Nat.le_of_ble_eq_true rfl) (by decide) dX5_become_20 (fun H locs hP hD hS => ?_)
  have hP := xcpP hP 1 rfl (by decide) (by decide) (by decide)
  have hD := xcpD hD 1 rfl
  have hP : va_P D vwCl [(q_t, oX5 v_o0_places q_t_ways q_t_distances v_t_people q_t_kind q_t_a q_t_home q_t_aim q_t_at v_t_hour v_t_chance v_t_seed), (q_t_ways, .inl (cy 0, 12, .inl v_o0_ways)), (q_t_distances, .inl (cy 0, 144, .inl v_t_distances)), (q_t_kind, .inl (cy 0, 8, .inl v_t_kind)), (q_t_a, .inl (cy 0, 8, .inl v_t_a)), (q_t_home, .inl (cy 0, 8, .inl v_t_home)), (q_t_aim, .inl (cy 0, 8, .inl v_t_aim)), (q_t_at, .inl (cy 0, 8, .inl v_t_at)), (q_o0, oX5 v_o0_places q_o0_ways q_o0_distances v_o0_people q_o0_kind q_o0_a q_o0_home q_o0_aim q_o0_at v_o0_hour v_o0_chance v_o0_seed), (q_o0_ways, .inl (cy 0, 12, .inl v_o0_ways)), (q_o0_distances, .inl (cy 0, 144, .inl v_o0_distances)), (q_o0_kind, .inl (cy 0, 8, .inl v_o0_kind)), (q_o0_a, .inl (cy 0, 8, .inl v_o0_a)), (q_o0_home, .inl (cy 0, 8, .inl v_o0_home)), (q_o0_aim, .inl (cy 0, 8, .inl v_o0_aim)), (q_o0_at, .inl (cy 0, 8, .inl v_o0_at))] H := hP
  have hD : va_D A [(q_t, oX5 v_o0_places q_t_ways q_t_distances v_t_people q_t_kind q_t_a q_t_home q_t_aim q_t_at v_t_hour v_t_chance v_t_seed), (q_t_ways, .inl (cy 0, 12, .inl v_o0_ways)), (q_t_distances, .inl (cy 0, 144, .inl v_t_distances)), (q_t_kind, .inl (cy 0, 8, .inl v_t_kind)), (q_t_a, .inl (cy 0, 8, .inl v_t_a)), (q_t_home, .inl (cy 0, 8, .inl v_t_home)), (q_t_aim, .inl (cy 0, 8, .inl v_t_aim)), (q_t_at, .inl (cy 0, 8, .inl v_t_at)), (q_o0, oX5 v_o0_places q_o0_ways q_o0_distances v_o0_people q_o0_kind q_o0_a q_o0_home q_o0_aim q_o0_at v_o0_hour v_o0_chance v_o0_seed), (q_o0_ways, .inl (cy 0, 12, .inl v_o0_ways)), (q_o0_distances, .inl (cy 0, 144, .inl v_o0_distances)), (q_o0_kind, .inl (cy 0, 8, .inl v_o0_kind)), (q_o0_a, .inl (cy 0, 8, .inl v_o0_a)), (q_o0_home, .inl (cy 0, 8, .inl v_o0_home)), (q_o0_aim, .inl (cy 0, 8, .inl v_o0_aim)), (q_o0_at, .inl (cy 0, 8, .inl v_o0_at))] := hD
  refine lv_aload_n hx hb dX5_become_23 rfl (lv_at hl 1 rfl) ?_
  refine va_get (D := D) (ci := 5) (v := .ref q_o0_distances) (C := RX5) (T := TX5) (N := 12) hx hb hts hinX5 hown hK.1 hP 8 rfl rfl 2 (by decide) hk19 (fun _ h9 => h9) rfl dX5_become_24 ?_
  refine lv_iconst (v := 0) hx hb dX5_become_27 (by decide) ?_
  refine lv_aload_n hx hb dX5_become_28 rfl (lv_at hl 0 rfl) ?_
  refine va_get (D := D) (ci := 5) (v := .ref q_t_distances) (C := RX5) (T := TX5) (N := 12) hx hb hts hinX5 hown hK.1 hP 0 rfl rfl 2 (by decide) hk19 (fun _ h9 => h9) rfl dX5_become_29 ?_
  refine lv_iconst (v := 0) hx hb dX5_become_32 (by decide) ?_
  refine lv_sipush (v := 144) hx hb dX5_become_33 (by decide) ?_
  refine va_copyi hx hb (by rw [hml]; exact hl.1.symm) hown hm46 hmn hmst hmi hK.1 hP hD hS 10 2 0 0 rfl rfl rfl rfl rfl (by decide) (by decide) (by decide) (by decide) (by decide) (fun _ _ => rfl) (Nat.le_of_ble_eq_true rfl) (by decide) dX5_become_36 (fun H locs hP hD hS => ?_)
  have hP := xcpP hP 2 rfl (by decide) (by decide) (by decide)
  have hD := xcpD hD 2 rfl
  have hP : va_P D vwCl [(q_t, oX5 v_o0_places q_t_ways q_t_distances v_t_people q_t_kind q_t_a q_t_home q_t_aim q_t_at v_t_hour v_t_chance v_t_seed), (q_t_ways, .inl (cy 0, 12, .inl v_o0_ways)), (q_t_distances, .inl (cy 0, 144, .inl v_o0_distances)), (q_t_kind, .inl (cy 0, 8, .inl v_t_kind)), (q_t_a, .inl (cy 0, 8, .inl v_t_a)), (q_t_home, .inl (cy 0, 8, .inl v_t_home)), (q_t_aim, .inl (cy 0, 8, .inl v_t_aim)), (q_t_at, .inl (cy 0, 8, .inl v_t_at)), (q_o0, oX5 v_o0_places q_o0_ways q_o0_distances v_o0_people q_o0_kind q_o0_a q_o0_home q_o0_aim q_o0_at v_o0_hour v_o0_chance v_o0_seed), (q_o0_ways, .inl (cy 0, 12, .inl v_o0_ways)), (q_o0_distances, .inl (cy 0, 144, .inl v_o0_distances)), (q_o0_kind, .inl (cy 0, 8, .inl v_o0_kind)), (q_o0_a, .inl (cy 0, 8, .inl v_o0_a)), (q_o0_home, .inl (cy 0, 8, .inl v_o0_home)), (q_o0_aim, .inl (cy 0, 8, .inl v_o0_aim)), (q_o0_at, .inl (cy 0, 8, .inl v_o0_at))] H := hP
  have hD : va_D A [(q_t, oX5 v_o0_places q_t_ways q_t_distances v_t_people q_t_kind q_t_a q_t_home q_t_aim q_t_at v_t_hour v_t_chance v_t_seed), (q_t_ways, .inl (cy 0, 12, .inl v_o0_ways)), (q_t_distances, .inl (cy 0, 144, .inl v_o0_distances)), (q_t_kind, .inl (cy 0, 8, .inl v_t_kind)), (q_t_a, .inl (cy 0, 8, .inl v_t_a)), (q_t_home, .inl (cy 0, 8, .inl v_t_home)), (q_t_aim, .inl (cy 0, 8, .inl v_t_aim)), (q_t_at, .inl (cy 0, 8, .inl v_t_at)), (q_o0, oX5 v_o0_places q_o0_ways q_o0_distances v_o0_people q_o0_kind q_o0_a q_o0_home q_o0_aim q_o0_at v_o0_hour v_o0_chance v_o0_seed), (q_o0_ways, .inl (cy 0, 12, .inl v_o0_ways)), (q_o0_distances, .inl (cy 0, 144, .inl v_o0_distances)), (q_o0_kind, .inl (cy 0, 8, .inl v_o0_kind)), (q_o0_a, .inl (cy 0, 8, .inl v_o0_a)), (q_o0_home, .inl (cy 0, 8, .inl v_o0_home)), (q_o0_aim, .inl (cy 0, 8, .inl v_o0_aim)), (q_o0_at, .inl (cy 0, 8, .inl v_o0_at))] := hD
  refine lv_aload_n hx hb dX5_become_39 rfl (lv_at hl 0 rfl) ?_
  refine lv_aload_n hx hb dX5_become_40 rfl (lv_at hl 1 rfl) ?_
  refine va_get (D := D) (ci := 5) (v := .int v_o0_people) (C := RX5) (T := TX5) (N := 12) hx hb hts hinX5 hown hK.1 hP 8 rfl rfl 3 (by decide) hk52 (fun _ h9 => h9) rfl dX5_become_41 ?_
  refine va_put (D := D) (ci := 5) (v := .int v_o0_people) (ty := .int) (C := RX5) (T := TX5) (N := 12) hx hb hts hinX5 tyX5 tyX5_ok nmX5 hown hK.1 hP hD hS 0 rfl rfl 3 (by decide) hk52 (fun _ h9 => h9) rfl (by decide +kernel) rfl rfl (Nat.le_of_ble_eq_true rfl) dX5_become_44 (fun H locs hP hD hS => ?_)
  have hP : va_P D vwCl [(q_t, oX5 v_o0_places q_t_ways q_t_distances v_o0_people q_t_kind q_t_a q_t_home q_t_aim q_t_at v_t_hour v_t_chance v_t_seed), (q_t_ways, .inl (cy 0, 12, .inl v_o0_ways)), (q_t_distances, .inl (cy 0, 144, .inl v_o0_distances)), (q_t_kind, .inl (cy 0, 8, .inl v_t_kind)), (q_t_a, .inl (cy 0, 8, .inl v_t_a)), (q_t_home, .inl (cy 0, 8, .inl v_t_home)), (q_t_aim, .inl (cy 0, 8, .inl v_t_aim)), (q_t_at, .inl (cy 0, 8, .inl v_t_at)), (q_o0, oX5 v_o0_places q_o0_ways q_o0_distances v_o0_people q_o0_kind q_o0_a q_o0_home q_o0_aim q_o0_at v_o0_hour v_o0_chance v_o0_seed), (q_o0_ways, .inl (cy 0, 12, .inl v_o0_ways)), (q_o0_distances, .inl (cy 0, 144, .inl v_o0_distances)), (q_o0_kind, .inl (cy 0, 8, .inl v_o0_kind)), (q_o0_a, .inl (cy 0, 8, .inl v_o0_a)), (q_o0_home, .inl (cy 0, 8, .inl v_o0_home)), (q_o0_aim, .inl (cy 0, 8, .inl v_o0_aim)), (q_o0_at, .inl (cy 0, 8, .inl v_o0_at))] H := hP
  have hD : va_D A [(q_t, oX5 v_o0_places q_t_ways q_t_distances v_o0_people q_t_kind q_t_a q_t_home q_t_aim q_t_at v_t_hour v_t_chance v_t_seed), (q_t_ways, .inl (cy 0, 12, .inl v_o0_ways)), (q_t_distances, .inl (cy 0, 144, .inl v_o0_distances)), (q_t_kind, .inl (cy 0, 8, .inl v_t_kind)), (q_t_a, .inl (cy 0, 8, .inl v_t_a)), (q_t_home, .inl (cy 0, 8, .inl v_t_home)), (q_t_aim, .inl (cy 0, 8, .inl v_t_aim)), (q_t_at, .inl (cy 0, 8, .inl v_t_at)), (q_o0, oX5 v_o0_places q_o0_ways q_o0_distances v_o0_people q_o0_kind q_o0_a q_o0_home q_o0_aim q_o0_at v_o0_hour v_o0_chance v_o0_seed), (q_o0_ways, .inl (cy 0, 12, .inl v_o0_ways)), (q_o0_distances, .inl (cy 0, 144, .inl v_o0_distances)), (q_o0_kind, .inl (cy 0, 8, .inl v_o0_kind)), (q_o0_a, .inl (cy 0, 8, .inl v_o0_a)), (q_o0_home, .inl (cy 0, 8, .inl v_o0_home)), (q_o0_aim, .inl (cy 0, 8, .inl v_o0_aim)), (q_o0_at, .inl (cy 0, 8, .inl v_o0_at))] := hD
  refine lv_aload_n hx hb dX5_become_47 rfl (lv_at hl 1 rfl) ?_
  refine va_get (D := D) (ci := 5) (v := .ref q_o0_kind) (C := RX5) (T := TX5) (N := 12) hx hb hts hinX5 hown hK.1 hP 8 rfl rfl 4 (by decide) hk22 (fun _ h9 => h9) rfl dX5_become_48 ?_
  refine lv_iconst (v := 0) hx hb dX5_become_51 (by decide) ?_
  refine lv_aload_n hx hb dX5_become_52 rfl (lv_at hl 0 rfl) ?_
  refine va_get (D := D) (ci := 5) (v := .ref q_t_kind) (C := RX5) (T := TX5) (N := 12) hx hb hts hinX5 hown hK.1 hP 0 rfl rfl 4 (by decide) hk22 (fun _ h9 => h9) rfl dX5_become_53 ?_
  refine lv_iconst (v := 0) hx hb dX5_become_56 (by decide) ?_
  refine lv_bipush (v := 8) hx hb dX5_become_57 (by decide) ?_
  refine va_copyi hx hb (by rw [hml]; exact hl.1.symm) hown hm46 hmn hmst hmi hK.1 hP hD hS 11 3 0 0 rfl rfl rfl rfl rfl (by decide) (by decide) (by decide) (by decide) (by decide) (fun _ _ => rfl) (Nat.le_of_ble_eq_true rfl) (by decide) dX5_become_59 (fun H locs hP hD hS => ?_)
  have hP := xcpP hP 3 rfl (by decide) (by decide) (by decide)
  have hD := xcpD hD 3 rfl
  have hP : va_P D vwCl [(q_t, oX5 v_o0_places q_t_ways q_t_distances v_o0_people q_t_kind q_t_a q_t_home q_t_aim q_t_at v_t_hour v_t_chance v_t_seed), (q_t_ways, .inl (cy 0, 12, .inl v_o0_ways)), (q_t_distances, .inl (cy 0, 144, .inl v_o0_distances)), (q_t_kind, .inl (cy 0, 8, .inl v_o0_kind)), (q_t_a, .inl (cy 0, 8, .inl v_t_a)), (q_t_home, .inl (cy 0, 8, .inl v_t_home)), (q_t_aim, .inl (cy 0, 8, .inl v_t_aim)), (q_t_at, .inl (cy 0, 8, .inl v_t_at)), (q_o0, oX5 v_o0_places q_o0_ways q_o0_distances v_o0_people q_o0_kind q_o0_a q_o0_home q_o0_aim q_o0_at v_o0_hour v_o0_chance v_o0_seed), (q_o0_ways, .inl (cy 0, 12, .inl v_o0_ways)), (q_o0_distances, .inl (cy 0, 144, .inl v_o0_distances)), (q_o0_kind, .inl (cy 0, 8, .inl v_o0_kind)), (q_o0_a, .inl (cy 0, 8, .inl v_o0_a)), (q_o0_home, .inl (cy 0, 8, .inl v_o0_home)), (q_o0_aim, .inl (cy 0, 8, .inl v_o0_aim)), (q_o0_at, .inl (cy 0, 8, .inl v_o0_at))] H := hP
  have hD : va_D A [(q_t, oX5 v_o0_places q_t_ways q_t_distances v_o0_people q_t_kind q_t_a q_t_home q_t_aim q_t_at v_t_hour v_t_chance v_t_seed), (q_t_ways, .inl (cy 0, 12, .inl v_o0_ways)), (q_t_distances, .inl (cy 0, 144, .inl v_o0_distances)), (q_t_kind, .inl (cy 0, 8, .inl v_o0_kind)), (q_t_a, .inl (cy 0, 8, .inl v_t_a)), (q_t_home, .inl (cy 0, 8, .inl v_t_home)), (q_t_aim, .inl (cy 0, 8, .inl v_t_aim)), (q_t_at, .inl (cy 0, 8, .inl v_t_at)), (q_o0, oX5 v_o0_places q_o0_ways q_o0_distances v_o0_people q_o0_kind q_o0_a q_o0_home q_o0_aim q_o0_at v_o0_hour v_o0_chance v_o0_seed), (q_o0_ways, .inl (cy 0, 12, .inl v_o0_ways)), (q_o0_distances, .inl (cy 0, 144, .inl v_o0_distances)), (q_o0_kind, .inl (cy 0, 8, .inl v_o0_kind)), (q_o0_a, .inl (cy 0, 8, .inl v_o0_a)), (q_o0_home, .inl (cy 0, 8, .inl v_o0_home)), (q_o0_aim, .inl (cy 0, 8, .inl v_o0_aim)), (q_o0_at, .inl (cy 0, 8, .inl v_o0_at))] := hD
  refine lv_aload_n hx hb dX5_become_62 rfl (lv_at hl 1 rfl) ?_
  refine va_get (D := D) (ci := 5) (v := .ref q_o0_a) (C := RX5) (T := TX5) (N := 12) hx hb hts hinX5 hown hK.1 hP 8 rfl rfl 5 (by decide) hk25 (fun _ h9 => h9) rfl dX5_become_63 ?_
  refine lv_iconst (v := 0) hx hb dX5_become_66 (by decide) ?_
  refine lv_aload_n hx hb dX5_become_67 rfl (lv_at hl 0 rfl) ?_
  refine va_get (D := D) (ci := 5) (v := .ref q_t_a) (C := RX5) (T := TX5) (N := 12) hx hb hts hinX5 hown hK.1 hP 0 rfl rfl 5 (by decide) hk25 (fun _ h9 => h9) rfl dX5_become_68 ?_
  refine lv_iconst (v := 0) hx hb dX5_become_71 (by decide) ?_
  refine lv_bipush (v := 8) hx hb dX5_become_72 (by decide) ?_
  refine va_copyi hx hb (by rw [hml]; exact hl.1.symm) hown hm46 hmn hmst hmi hK.1 hP hD hS 12 4 0 0 rfl rfl rfl rfl rfl (by decide) (by decide) (by decide) (by decide) (by decide) (fun _ _ => rfl) (Nat.le_of_ble_eq_true rfl) (by decide) dX5_become_74 (fun H locs hP hD hS => ?_)
  have hP := xcpP hP 4 rfl (by decide) (by decide) (by decide)
  have hD := xcpD hD 4 rfl
  have hP : va_P D vwCl [(q_t, oX5 v_o0_places q_t_ways q_t_distances v_o0_people q_t_kind q_t_a q_t_home q_t_aim q_t_at v_t_hour v_t_chance v_t_seed), (q_t_ways, .inl (cy 0, 12, .inl v_o0_ways)), (q_t_distances, .inl (cy 0, 144, .inl v_o0_distances)), (q_t_kind, .inl (cy 0, 8, .inl v_o0_kind)), (q_t_a, .inl (cy 0, 8, .inl v_o0_a)), (q_t_home, .inl (cy 0, 8, .inl v_t_home)), (q_t_aim, .inl (cy 0, 8, .inl v_t_aim)), (q_t_at, .inl (cy 0, 8, .inl v_t_at)), (q_o0, oX5 v_o0_places q_o0_ways q_o0_distances v_o0_people q_o0_kind q_o0_a q_o0_home q_o0_aim q_o0_at v_o0_hour v_o0_chance v_o0_seed), (q_o0_ways, .inl (cy 0, 12, .inl v_o0_ways)), (q_o0_distances, .inl (cy 0, 144, .inl v_o0_distances)), (q_o0_kind, .inl (cy 0, 8, .inl v_o0_kind)), (q_o0_a, .inl (cy 0, 8, .inl v_o0_a)), (q_o0_home, .inl (cy 0, 8, .inl v_o0_home)), (q_o0_aim, .inl (cy 0, 8, .inl v_o0_aim)), (q_o0_at, .inl (cy 0, 8, .inl v_o0_at))] H := hP
  have hD : va_D A [(q_t, oX5 v_o0_places q_t_ways q_t_distances v_o0_people q_t_kind q_t_a q_t_home q_t_aim q_t_at v_t_hour v_t_chance v_t_seed), (q_t_ways, .inl (cy 0, 12, .inl v_o0_ways)), (q_t_distances, .inl (cy 0, 144, .inl v_o0_distances)), (q_t_kind, .inl (cy 0, 8, .inl v_o0_kind)), (q_t_a, .inl (cy 0, 8, .inl v_o0_a)), (q_t_home, .inl (cy 0, 8, .inl v_t_home)), (q_t_aim, .inl (cy 0, 8, .inl v_t_aim)), (q_t_at, .inl (cy 0, 8, .inl v_t_at)), (q_o0, oX5 v_o0_places q_o0_ways q_o0_distances v_o0_people q_o0_kind q_o0_a q_o0_home q_o0_aim q_o0_at v_o0_hour v_o0_chance v_o0_seed), (q_o0_ways, .inl (cy 0, 12, .inl v_o0_ways)), (q_o0_distances, .inl (cy 0, 144, .inl v_o0_distances)), (q_o0_kind, .inl (cy 0, 8, .inl v_o0_kind)), (q_o0_a, .inl (cy 0, 8, .inl v_o0_a)), (q_o0_home, .inl (cy 0, 8, .inl v_o0_home)), (q_o0_aim, .inl (cy 0, 8, .inl v_o0_aim)), (q_o0_at, .inl (cy 0, 8, .inl v_o0_at))] := hD
  refine lv_aload_n hx hb dX5_become_77 rfl (lv_at hl 1 rfl) ?_
  refine va_get (D := D) (ci := 5) (v := .ref q_o0_home) (C := RX5) (T := TX5) (N := 12) hx hb hts hinX5 hown hK.1 hP 8 rfl rfl 6 (by decide) hk28 (fun _ h9 => h9) rfl dX5_become_78 ?_
  refine lv_iconst (v := 0) hx hb dX5_become_81 (by decide) ?_
  refine lv_aload_n hx hb dX5_become_82 rfl (lv_at hl 0 rfl) ?_
  refine va_get (D := D) (ci := 5) (v := .ref q_t_home) (C := RX5) (T := TX5) (N := 12) hx hb hts hinX5 hown hK.1 hP 0 rfl rfl 6 (by decide) hk28 (fun _ h9 => h9) rfl dX5_become_83 ?_
  refine lv_iconst (v := 0) hx hb dX5_become_86 (by decide) ?_
  refine lv_bipush (v := 8) hx hb dX5_become_87 (by decide) ?_
  refine va_copyi hx hb (by rw [hml]; exact hl.1.symm) hown hm46 hmn hmst hmi hK.1 hP hD hS 13 5 0 0 rfl rfl rfl rfl rfl (by decide) (by decide) (by decide) (by decide) (by decide) (fun _ _ => rfl) (Nat.le_of_ble_eq_true rfl) (by decide) dX5_become_89 (fun H locs hP hD hS => ?_)
  have hP := xcpP hP 5 rfl (by decide) (by decide) (by decide)
  have hD := xcpD hD 5 rfl
  have hP : va_P D vwCl [(q_t, oX5 v_o0_places q_t_ways q_t_distances v_o0_people q_t_kind q_t_a q_t_home q_t_aim q_t_at v_t_hour v_t_chance v_t_seed), (q_t_ways, .inl (cy 0, 12, .inl v_o0_ways)), (q_t_distances, .inl (cy 0, 144, .inl v_o0_distances)), (q_t_kind, .inl (cy 0, 8, .inl v_o0_kind)), (q_t_a, .inl (cy 0, 8, .inl v_o0_a)), (q_t_home, .inl (cy 0, 8, .inl v_o0_home)), (q_t_aim, .inl (cy 0, 8, .inl v_t_aim)), (q_t_at, .inl (cy 0, 8, .inl v_t_at)), (q_o0, oX5 v_o0_places q_o0_ways q_o0_distances v_o0_people q_o0_kind q_o0_a q_o0_home q_o0_aim q_o0_at v_o0_hour v_o0_chance v_o0_seed), (q_o0_ways, .inl (cy 0, 12, .inl v_o0_ways)), (q_o0_distances, .inl (cy 0, 144, .inl v_o0_distances)), (q_o0_kind, .inl (cy 0, 8, .inl v_o0_kind)), (q_o0_a, .inl (cy 0, 8, .inl v_o0_a)), (q_o0_home, .inl (cy 0, 8, .inl v_o0_home)), (q_o0_aim, .inl (cy 0, 8, .inl v_o0_aim)), (q_o0_at, .inl (cy 0, 8, .inl v_o0_at))] H := hP
  have hD : va_D A [(q_t, oX5 v_o0_places q_t_ways q_t_distances v_o0_people q_t_kind q_t_a q_t_home q_t_aim q_t_at v_t_hour v_t_chance v_t_seed), (q_t_ways, .inl (cy 0, 12, .inl v_o0_ways)), (q_t_distances, .inl (cy 0, 144, .inl v_o0_distances)), (q_t_kind, .inl (cy 0, 8, .inl v_o0_kind)), (q_t_a, .inl (cy 0, 8, .inl v_o0_a)), (q_t_home, .inl (cy 0, 8, .inl v_o0_home)), (q_t_aim, .inl (cy 0, 8, .inl v_t_aim)), (q_t_at, .inl (cy 0, 8, .inl v_t_at)), (q_o0, oX5 v_o0_places q_o0_ways q_o0_distances v_o0_people q_o0_kind q_o0_a q_o0_home q_o0_aim q_o0_at v_o0_hour v_o0_chance v_o0_seed), (q_o0_ways, .inl (cy 0, 12, .inl v_o0_ways)), (q_o0_distances, .inl (cy 0, 144, .inl v_o0_distances)), (q_o0_kind, .inl (cy 0, 8, .inl v_o0_kind)), (q_o0_a, .inl (cy 0, 8, .inl v_o0_a)), (q_o0_home, .inl (cy 0, 8, .inl v_o0_home)), (q_o0_aim, .inl (cy 0, 8, .inl v_o0_aim)), (q_o0_at, .inl (cy 0, 8, .inl v_o0_at))] := hD
  refine lv_aload_n hx hb dX5_become_92 rfl (lv_at hl 1 rfl) ?_
  refine va_get (D := D) (ci := 5) (v := .ref q_o0_aim) (C := RX5) (T := TX5) (N := 12) hx hb hts hinX5 hown hK.1 hP 8 rfl rfl 7 (by decide) hk31 (fun _ h9 => h9) rfl dX5_become_93 ?_
  refine lv_iconst (v := 0) hx hb dX5_become_96 (by decide) ?_
  refine lv_aload_n hx hb dX5_become_97 rfl (lv_at hl 0 rfl) ?_
  refine va_get (D := D) (ci := 5) (v := .ref q_t_aim) (C := RX5) (T := TX5) (N := 12) hx hb hts hinX5 hown hK.1 hP 0 rfl rfl 7 (by decide) hk31 (fun _ h9 => h9) rfl dX5_become_98 ?_
  refine lv_iconst (v := 0) hx hb dX5_become_101 (by decide) ?_
  refine lv_bipush (v := 8) hx hb dX5_become_102 (by decide) ?_
  refine va_copyi hx hb (by rw [hml]; exact hl.1.symm) hown hm46 hmn hmst hmi hK.1 hP hD hS 14 6 0 0 rfl rfl rfl rfl rfl (by decide) (by decide) (by decide) (by decide) (by decide) (fun _ _ => rfl) (Nat.le_of_ble_eq_true rfl) (by decide) dX5_become_104 (fun H locs hP hD hS => ?_)
  have hP := xcpP hP 6 rfl (by decide) (by decide) (by decide)
  have hD := xcpD hD 6 rfl
  have hP : va_P D vwCl [(q_t, oX5 v_o0_places q_t_ways q_t_distances v_o0_people q_t_kind q_t_a q_t_home q_t_aim q_t_at v_t_hour v_t_chance v_t_seed), (q_t_ways, .inl (cy 0, 12, .inl v_o0_ways)), (q_t_distances, .inl (cy 0, 144, .inl v_o0_distances)), (q_t_kind, .inl (cy 0, 8, .inl v_o0_kind)), (q_t_a, .inl (cy 0, 8, .inl v_o0_a)), (q_t_home, .inl (cy 0, 8, .inl v_o0_home)), (q_t_aim, .inl (cy 0, 8, .inl v_o0_aim)), (q_t_at, .inl (cy 0, 8, .inl v_t_at)), (q_o0, oX5 v_o0_places q_o0_ways q_o0_distances v_o0_people q_o0_kind q_o0_a q_o0_home q_o0_aim q_o0_at v_o0_hour v_o0_chance v_o0_seed), (q_o0_ways, .inl (cy 0, 12, .inl v_o0_ways)), (q_o0_distances, .inl (cy 0, 144, .inl v_o0_distances)), (q_o0_kind, .inl (cy 0, 8, .inl v_o0_kind)), (q_o0_a, .inl (cy 0, 8, .inl v_o0_a)), (q_o0_home, .inl (cy 0, 8, .inl v_o0_home)), (q_o0_aim, .inl (cy 0, 8, .inl v_o0_aim)), (q_o0_at, .inl (cy 0, 8, .inl v_o0_at))] H := hP
  have hD : va_D A [(q_t, oX5 v_o0_places q_t_ways q_t_distances v_o0_people q_t_kind q_t_a q_t_home q_t_aim q_t_at v_t_hour v_t_chance v_t_seed), (q_t_ways, .inl (cy 0, 12, .inl v_o0_ways)), (q_t_distances, .inl (cy 0, 144, .inl v_o0_distances)), (q_t_kind, .inl (cy 0, 8, .inl v_o0_kind)), (q_t_a, .inl (cy 0, 8, .inl v_o0_a)), (q_t_home, .inl (cy 0, 8, .inl v_o0_home)), (q_t_aim, .inl (cy 0, 8, .inl v_o0_aim)), (q_t_at, .inl (cy 0, 8, .inl v_t_at)), (q_o0, oX5 v_o0_places q_o0_ways q_o0_distances v_o0_people q_o0_kind q_o0_a q_o0_home q_o0_aim q_o0_at v_o0_hour v_o0_chance v_o0_seed), (q_o0_ways, .inl (cy 0, 12, .inl v_o0_ways)), (q_o0_distances, .inl (cy 0, 144, .inl v_o0_distances)), (q_o0_kind, .inl (cy 0, 8, .inl v_o0_kind)), (q_o0_a, .inl (cy 0, 8, .inl v_o0_a)), (q_o0_home, .inl (cy 0, 8, .inl v_o0_home)), (q_o0_aim, .inl (cy 0, 8, .inl v_o0_aim)), (q_o0_at, .inl (cy 0, 8, .inl v_o0_at))] := hD
  refine lv_aload_n hx hb dX5_become_107 rfl (lv_at hl 1 rfl) ?_
  refine va_get (D := D) (ci := 5) (v := .ref q_o0_at) (C := RX5) (T := TX5) (N := 12) hx hb hts hinX5 hown hK.1 hP 8 rfl rfl 8 (by decide) hk34 (fun _ h9 => h9) rfl dX5_become_108 ?_
  refine lv_iconst (v := 0) hx hb dX5_become_111 (by decide) ?_
  refine lv_aload_n hx hb dX5_become_112 rfl (lv_at hl 0 rfl) ?_
  refine va_get (D := D) (ci := 5) (v := .ref q_t_at) (C := RX5) (T := TX5) (N := 12) hx hb hts hinX5 hown hK.1 hP 0 rfl rfl 8 (by decide) hk34 (fun _ h9 => h9) rfl dX5_become_113 ?_
  refine lv_iconst (v := 0) hx hb dX5_become_116 (by decide) ?_
  refine lv_bipush (v := 8) hx hb dX5_become_117 (by decide) ?_
  refine va_copyi hx hb (by rw [hml]; exact hl.1.symm) hown hm46 hmn hmst hmi hK.1 hP hD hS 15 7 0 0 rfl rfl rfl rfl rfl (by decide) (by decide) (by decide) (by decide) (by decide) (fun _ _ => rfl) (Nat.le_of_ble_eq_true rfl) (by decide) dX5_become_119 (fun H locs hP hD hS => ?_)
  have hP := xcpP hP 7 rfl (by decide) (by decide) (by decide)
  have hD := xcpD hD 7 rfl
  have hP : va_P D vwCl [(q_t, oX5 v_o0_places q_t_ways q_t_distances v_o0_people q_t_kind q_t_a q_t_home q_t_aim q_t_at v_t_hour v_t_chance v_t_seed), (q_t_ways, .inl (cy 0, 12, .inl v_o0_ways)), (q_t_distances, .inl (cy 0, 144, .inl v_o0_distances)), (q_t_kind, .inl (cy 0, 8, .inl v_o0_kind)), (q_t_a, .inl (cy 0, 8, .inl v_o0_a)), (q_t_home, .inl (cy 0, 8, .inl v_o0_home)), (q_t_aim, .inl (cy 0, 8, .inl v_o0_aim)), (q_t_at, .inl (cy 0, 8, .inl v_o0_at)), (q_o0, oX5 v_o0_places q_o0_ways q_o0_distances v_o0_people q_o0_kind q_o0_a q_o0_home q_o0_aim q_o0_at v_o0_hour v_o0_chance v_o0_seed), (q_o0_ways, .inl (cy 0, 12, .inl v_o0_ways)), (q_o0_distances, .inl (cy 0, 144, .inl v_o0_distances)), (q_o0_kind, .inl (cy 0, 8, .inl v_o0_kind)), (q_o0_a, .inl (cy 0, 8, .inl v_o0_a)), (q_o0_home, .inl (cy 0, 8, .inl v_o0_home)), (q_o0_aim, .inl (cy 0, 8, .inl v_o0_aim)), (q_o0_at, .inl (cy 0, 8, .inl v_o0_at))] H := hP
  have hD : va_D A [(q_t, oX5 v_o0_places q_t_ways q_t_distances v_o0_people q_t_kind q_t_a q_t_home q_t_aim q_t_at v_t_hour v_t_chance v_t_seed), (q_t_ways, .inl (cy 0, 12, .inl v_o0_ways)), (q_t_distances, .inl (cy 0, 144, .inl v_o0_distances)), (q_t_kind, .inl (cy 0, 8, .inl v_o0_kind)), (q_t_a, .inl (cy 0, 8, .inl v_o0_a)), (q_t_home, .inl (cy 0, 8, .inl v_o0_home)), (q_t_aim, .inl (cy 0, 8, .inl v_o0_aim)), (q_t_at, .inl (cy 0, 8, .inl v_o0_at)), (q_o0, oX5 v_o0_places q_o0_ways q_o0_distances v_o0_people q_o0_kind q_o0_a q_o0_home q_o0_aim q_o0_at v_o0_hour v_o0_chance v_o0_seed), (q_o0_ways, .inl (cy 0, 12, .inl v_o0_ways)), (q_o0_distances, .inl (cy 0, 144, .inl v_o0_distances)), (q_o0_kind, .inl (cy 0, 8, .inl v_o0_kind)), (q_o0_a, .inl (cy 0, 8, .inl v_o0_a)), (q_o0_home, .inl (cy 0, 8, .inl v_o0_home)), (q_o0_aim, .inl (cy 0, 8, .inl v_o0_aim)), (q_o0_at, .inl (cy 0, 8, .inl v_o0_at))] := hD
  refine lv_aload_n hx hb dX5_become_122 rfl (lv_at hl 0 rfl) ?_
  refine lv_aload_n hx hb dX5_become_123 rfl (lv_at hl 1 rfl) ?_
  refine va_get (D := D) (ci := 5) (v := .int v_o0_hour) (C := RX5) (T := TX5) (N := 12) hx hb hts hinX5 hown hK.1 hP 8 rfl rfl 9 (by decide) hk55 (fun _ h9 => h9) rfl dX5_become_124 ?_
  refine va_put (D := D) (ci := 5) (v := .int v_o0_hour) (ty := .int) (C := RX5) (T := TX5) (N := 12) hx hb hts hinX5 tyX5 tyX5_ok nmX5 hown hK.1 hP hD hS 0 rfl rfl 9 (by decide) hk55 (fun _ h9 => h9) rfl (by decide +kernel) rfl rfl (Nat.le_of_ble_eq_true rfl) dX5_become_127 (fun H locs hP hD hS => ?_)
  have hP : va_P D vwCl [(q_t, oX5 v_o0_places q_t_ways q_t_distances v_o0_people q_t_kind q_t_a q_t_home q_t_aim q_t_at v_o0_hour v_t_chance v_t_seed), (q_t_ways, .inl (cy 0, 12, .inl v_o0_ways)), (q_t_distances, .inl (cy 0, 144, .inl v_o0_distances)), (q_t_kind, .inl (cy 0, 8, .inl v_o0_kind)), (q_t_a, .inl (cy 0, 8, .inl v_o0_a)), (q_t_home, .inl (cy 0, 8, .inl v_o0_home)), (q_t_aim, .inl (cy 0, 8, .inl v_o0_aim)), (q_t_at, .inl (cy 0, 8, .inl v_o0_at)), (q_o0, oX5 v_o0_places q_o0_ways q_o0_distances v_o0_people q_o0_kind q_o0_a q_o0_home q_o0_aim q_o0_at v_o0_hour v_o0_chance v_o0_seed), (q_o0_ways, .inl (cy 0, 12, .inl v_o0_ways)), (q_o0_distances, .inl (cy 0, 144, .inl v_o0_distances)), (q_o0_kind, .inl (cy 0, 8, .inl v_o0_kind)), (q_o0_a, .inl (cy 0, 8, .inl v_o0_a)), (q_o0_home, .inl (cy 0, 8, .inl v_o0_home)), (q_o0_aim, .inl (cy 0, 8, .inl v_o0_aim)), (q_o0_at, .inl (cy 0, 8, .inl v_o0_at))] H := hP
  have hD : va_D A [(q_t, oX5 v_o0_places q_t_ways q_t_distances v_o0_people q_t_kind q_t_a q_t_home q_t_aim q_t_at v_o0_hour v_t_chance v_t_seed), (q_t_ways, .inl (cy 0, 12, .inl v_o0_ways)), (q_t_distances, .inl (cy 0, 144, .inl v_o0_distances)), (q_t_kind, .inl (cy 0, 8, .inl v_o0_kind)), (q_t_a, .inl (cy 0, 8, .inl v_o0_a)), (q_t_home, .inl (cy 0, 8, .inl v_o0_home)), (q_t_aim, .inl (cy 0, 8, .inl v_o0_aim)), (q_t_at, .inl (cy 0, 8, .inl v_o0_at)), (q_o0, oX5 v_o0_places q_o0_ways q_o0_distances v_o0_people q_o0_kind q_o0_a q_o0_home q_o0_aim q_o0_at v_o0_hour v_o0_chance v_o0_seed), (q_o0_ways, .inl (cy 0, 12, .inl v_o0_ways)), (q_o0_distances, .inl (cy 0, 144, .inl v_o0_distances)), (q_o0_kind, .inl (cy 0, 8, .inl v_o0_kind)), (q_o0_a, .inl (cy 0, 8, .inl v_o0_a)), (q_o0_home, .inl (cy 0, 8, .inl v_o0_home)), (q_o0_aim, .inl (cy 0, 8, .inl v_o0_aim)), (q_o0_at, .inl (cy 0, 8, .inl v_o0_at))] := hD
  refine lv_aload_n hx hb dX5_become_130 rfl (lv_at hl 0 rfl) ?_
  refine lv_aload_n hx hb dX5_become_131 rfl (lv_at hl 1 rfl) ?_
  refine va_get (D := D) (ci := 5) (v := .int v_o0_chance) (C := RX5) (T := TX5) (N := 12) hx hb hts hinX5 hown hK.1 hP 8 rfl rfl 10 (by decide) hk37 (fun _ h9 => h9) rfl dX5_become_132 ?_
  refine va_put (D := D) (ci := 5) (v := .int v_o0_chance) (ty := .int) (C := RX5) (T := TX5) (N := 12) hx hb hts hinX5 tyX5 tyX5_ok nmX5 hown hK.1 hP hD hS 0 rfl rfl 10 (by decide) hk37 (fun _ h9 => h9) rfl (by decide +kernel) rfl rfl (Nat.le_of_ble_eq_true rfl) dX5_become_135 (fun H locs hP hD hS => ?_)
  have hP : va_P D vwCl [(q_t, oX5 v_o0_places q_t_ways q_t_distances v_o0_people q_t_kind q_t_a q_t_home q_t_aim q_t_at v_o0_hour v_o0_chance v_t_seed), (q_t_ways, .inl (cy 0, 12, .inl v_o0_ways)), (q_t_distances, .inl (cy 0, 144, .inl v_o0_distances)), (q_t_kind, .inl (cy 0, 8, .inl v_o0_kind)), (q_t_a, .inl (cy 0, 8, .inl v_o0_a)), (q_t_home, .inl (cy 0, 8, .inl v_o0_home)), (q_t_aim, .inl (cy 0, 8, .inl v_o0_aim)), (q_t_at, .inl (cy 0, 8, .inl v_o0_at)), (q_o0, oX5 v_o0_places q_o0_ways q_o0_distances v_o0_people q_o0_kind q_o0_a q_o0_home q_o0_aim q_o0_at v_o0_hour v_o0_chance v_o0_seed), (q_o0_ways, .inl (cy 0, 12, .inl v_o0_ways)), (q_o0_distances, .inl (cy 0, 144, .inl v_o0_distances)), (q_o0_kind, .inl (cy 0, 8, .inl v_o0_kind)), (q_o0_a, .inl (cy 0, 8, .inl v_o0_a)), (q_o0_home, .inl (cy 0, 8, .inl v_o0_home)), (q_o0_aim, .inl (cy 0, 8, .inl v_o0_aim)), (q_o0_at, .inl (cy 0, 8, .inl v_o0_at))] H := hP
  have hD : va_D A [(q_t, oX5 v_o0_places q_t_ways q_t_distances v_o0_people q_t_kind q_t_a q_t_home q_t_aim q_t_at v_o0_hour v_o0_chance v_t_seed), (q_t_ways, .inl (cy 0, 12, .inl v_o0_ways)), (q_t_distances, .inl (cy 0, 144, .inl v_o0_distances)), (q_t_kind, .inl (cy 0, 8, .inl v_o0_kind)), (q_t_a, .inl (cy 0, 8, .inl v_o0_a)), (q_t_home, .inl (cy 0, 8, .inl v_o0_home)), (q_t_aim, .inl (cy 0, 8, .inl v_o0_aim)), (q_t_at, .inl (cy 0, 8, .inl v_o0_at)), (q_o0, oX5 v_o0_places q_o0_ways q_o0_distances v_o0_people q_o0_kind q_o0_a q_o0_home q_o0_aim q_o0_at v_o0_hour v_o0_chance v_o0_seed), (q_o0_ways, .inl (cy 0, 12, .inl v_o0_ways)), (q_o0_distances, .inl (cy 0, 144, .inl v_o0_distances)), (q_o0_kind, .inl (cy 0, 8, .inl v_o0_kind)), (q_o0_a, .inl (cy 0, 8, .inl v_o0_a)), (q_o0_home, .inl (cy 0, 8, .inl v_o0_home)), (q_o0_aim, .inl (cy 0, 8, .inl v_o0_aim)), (q_o0_at, .inl (cy 0, 8, .inl v_o0_at))] := hD
  refine lv_aload_n hx hb dX5_become_138 rfl (lv_at hl 0 rfl) ?_
  refine lv_aload_n hx hb dX5_become_139 rfl (lv_at hl 1 rfl) ?_
  refine va_get (D := D) (ci := 5) (v := .int v_o0_seed) (C := RX5) (T := TX5) (N := 12) hx hb hts hinX5 hown hK.1 hP 8 rfl rfl 11 (by decide) hk40 (fun _ h9 => h9) rfl dX5_become_140 ?_
  refine va_put (D := D) (ci := 5) (v := .int v_o0_seed) (ty := .int) (C := RX5) (T := TX5) (N := 12) hx hb hts hinX5 tyX5 tyX5_ok nmX5 hown hK.1 hP hD hS 0 rfl rfl 11 (by decide) hk40 (fun _ h9 => h9) rfl (by decide +kernel) rfl rfl (Nat.le_of_ble_eq_true rfl) dX5_become_143 (fun H locs hP hD hS => ?_)
  have hP : va_P D vwCl [(q_t, oX5 v_o0_places q_t_ways q_t_distances v_o0_people q_t_kind q_t_a q_t_home q_t_aim q_t_at v_o0_hour v_o0_chance v_o0_seed), (q_t_ways, .inl (cy 0, 12, .inl v_o0_ways)), (q_t_distances, .inl (cy 0, 144, .inl v_o0_distances)), (q_t_kind, .inl (cy 0, 8, .inl v_o0_kind)), (q_t_a, .inl (cy 0, 8, .inl v_o0_a)), (q_t_home, .inl (cy 0, 8, .inl v_o0_home)), (q_t_aim, .inl (cy 0, 8, .inl v_o0_aim)), (q_t_at, .inl (cy 0, 8, .inl v_o0_at)), (q_o0, oX5 v_o0_places q_o0_ways q_o0_distances v_o0_people q_o0_kind q_o0_a q_o0_home q_o0_aim q_o0_at v_o0_hour v_o0_chance v_o0_seed), (q_o0_ways, .inl (cy 0, 12, .inl v_o0_ways)), (q_o0_distances, .inl (cy 0, 144, .inl v_o0_distances)), (q_o0_kind, .inl (cy 0, 8, .inl v_o0_kind)), (q_o0_a, .inl (cy 0, 8, .inl v_o0_a)), (q_o0_home, .inl (cy 0, 8, .inl v_o0_home)), (q_o0_aim, .inl (cy 0, 8, .inl v_o0_aim)), (q_o0_at, .inl (cy 0, 8, .inl v_o0_at))] H := hP
  have hD : va_D A [(q_t, oX5 v_o0_places q_t_ways q_t_distances v_o0_people q_t_kind q_t_a q_t_home q_t_aim q_t_at v_o0_hour v_o0_chance v_o0_seed), (q_t_ways, .inl (cy 0, 12, .inl v_o0_ways)), (q_t_distances, .inl (cy 0, 144, .inl v_o0_distances)), (q_t_kind, .inl (cy 0, 8, .inl v_o0_kind)), (q_t_a, .inl (cy 0, 8, .inl v_o0_a)), (q_t_home, .inl (cy 0, 8, .inl v_o0_home)), (q_t_aim, .inl (cy 0, 8, .inl v_o0_aim)), (q_t_at, .inl (cy 0, 8, .inl v_o0_at)), (q_o0, oX5 v_o0_places q_o0_ways q_o0_distances v_o0_people q_o0_kind q_o0_a q_o0_home q_o0_aim q_o0_at v_o0_hour v_o0_chance v_o0_seed), (q_o0_ways, .inl (cy 0, 12, .inl v_o0_ways)), (q_o0_distances, .inl (cy 0, 144, .inl v_o0_distances)), (q_o0_kind, .inl (cy 0, 8, .inl v_o0_kind)), (q_o0_a, .inl (cy 0, 8, .inl v_o0_a)), (q_o0_home, .inl (cy 0, 8, .inl v_o0_home)), (q_o0_aim, .inl (cy 0, 8, .inl v_o0_aim)), (q_o0_at, .inl (cy 0, 8, .inl v_o0_at))] := hD
  cases hf
  exact W.vret hx hb hr (fun t ht hW => ⟨⟨(), rfl, trivial, xend ht hP⟩, hS.F ht⟩) hS.2.2 dX5_become_146
def fX3_watch (v_t_shone : Nat → Int32) (v_o0_places : Int32) (v_o0_people : Int32) (v_o0_hour : Int32) (v_o0_ways : Nat → Int32) (v_o0_distances : Nat → Int32) (v_o0_kind : Nat → Int32) (v_o0_home : Nat → Int32) (v_o0_aim : Nat → Int32) (v_o0_at : Nat → Int32) (p1 : Int32) : Option ((Nat → Int32) × Int32 × (Nat → Int32)) :=
  lo4 (fun g5 (x1 : Int32) (u2 : Nat → Int32) (u3 : Int32) (u4 : Nat → Int32) =>
    if (24 : Int32) < x1 then
      some (u2, u3, u4)
    else
      bo1 (fX5_shiningPlaces v_o0_places v_o0_people v_o0_kind u4) fun r6 =>
      if ((x1 * (12 : Int32)) + p1) < 0 ∨ 300 ≤ ((x1 * (12 : Int32)) + p1).toNatClampNeg then none else
      bo3 (fX5_passHour v_o0_places v_o0_people u3 v_o0_ways v_o0_distances v_o0_kind v_o0_home v_o0_aim u4) fun r9 u10 u11 =>
      vlet (x1 + (1 : Int32)) fun x13 =>
      g5 x13 (upd u2 ((x1 * (12 : Int32)) + p1).toNatClampNeg r6) u10 u11) 400 (0 : Int32) v_t_shone v_o0_hour v_o0_at
set_option maxHeartbeats 4000000 in
set_option maxRecDepth 100000 in
theorem mX3_watch (l : Launch) (D : va_G) (cy : Nat → ClassId) (q_t q_o0 q_t_shone q_o0_ways q_o0_distances q_o0_kind q_o0_a q_o0_home q_o0_aim q_o0_at : Nat) (v_t_shone : Nat → Int32) (v_o0_places : Int32) (v_o0_people : Int32) (v_o0_hour : Int32) (v_o0_chance : Int32) (v_o0_seed : Int32) (v_o0_ways : Nat → Int32) (v_o0_distances : Nat → Int32) (v_o0_kind : Nat → Int32) (v_o0_home : Nat → Int32) (v_o0_aim : Nat → Int32) (v_o0_at : Nat → Int32) (sz : Nat) (p1 : Int32) {n_t_shone : Nat → Int32} {n_o0_hour : Int32} {n_o0_at : Nat → Int32} (hf : fX3_watch v_t_shone v_o0_places v_o0_people v_o0_hour v_o0_ways v_o0_distances v_o0_kind v_o0_home v_o0_aim v_o0_at p1 = some (n_t_shone, n_o0_hour, n_o0_at)) : Met l yX3_watch wsX3_watch ({ frames := 4, cells := 0, slots := 0, locals := 93 }) (va_Pc [.ref q_t, .ref q_o0, .int p1] (fun U => U.heap.size = sz ∧ va_P D vwCl [(q_t, oX3 q_t_shone), (q_t_shone, .inl (cy 0, 300, .inl v_t_shone)), (q_o0, oX5 v_o0_places q_o0_ways q_o0_distances v_o0_people q_o0_kind q_o0_a q_o0_home q_o0_aim q_o0_at v_o0_hour v_o0_chance v_o0_seed), (q_o0_ways, .inl (cy 0, 12, .inl v_o0_ways)), (q_o0_distances, .inl (cy 0, 144, .inl v_o0_distances)), (q_o0_kind, .inl (cy 0, 8, .inl v_o0_kind)), (q_o0_home, .inl (cy 0, 8, .inl v_o0_home)), (q_o0_aim, .inl (cy 0, 8, .inl v_o0_aim)), (q_o0_at, .inl (cy 0, 8, .inl v_o0_at))] U.heap ∧ xK D cy U ∧ va_D (fun _ => True) [(q_t, oX3 q_t_shone), (q_t_shone, .inl (cy 0, 300, .inl v_t_shone)), (q_o0, oX5 v_o0_places q_o0_ways q_o0_distances v_o0_people q_o0_kind q_o0_a q_o0_home q_o0_aim q_o0_at v_o0_hour v_o0_chance v_o0_seed), (q_o0_ways, .inl (cy 0, 12, .inl v_o0_ways)), (q_o0_distances, .inl (cy 0, 144, .inl v_o0_distances)), (q_o0_kind, .inl (cy 0, 8, .inl v_o0_kind)), (q_o0_home, .inl (cy 0, 8, .inl v_o0_home)), (q_o0_aim, .inl (cy 0, 8, .inl v_o0_aim)), (q_o0_at, .inl (cy 0, 8, .inl v_o0_at))])) (va_Qv (fun (_ : Unit) => True) (fun _ t => va_P D vwCl [(q_t, oX3 q_t_shone), (q_t_shone, .inl (cy 0, 300, .inl n_t_shone)), (q_o0, oX5 v_o0_places q_o0_ways q_o0_distances v_o0_people q_o0_kind q_o0_a q_o0_home q_o0_aim q_o0_at n_o0_hour v_o0_chance v_o0_seed), (q_o0_ways, .inl (cy 0, 12, .inl v_o0_ways)), (q_o0_distances, .inl (cy 0, 144, .inl v_o0_distances)), (q_o0_kind, .inl (cy 0, 8, .inl v_o0_kind)), (q_o0_home, .inl (cy 0, 8, .inl v_o0_home)), (q_o0_aim, .inl (cy 0, 8, .inl v_o0_aim)), (q_o0_at, .inl (cy 0, 8, .inl n_o0_at))] t.heap) (va_A [(q_t, oX3 q_t_shone), (q_t_shone, .inl (cy 0, 300, .inl v_t_shone)), (q_o0, oX5 v_o0_places q_o0_ways q_o0_distances v_o0_people q_o0_kind q_o0_a q_o0_home q_o0_aim q_o0_at v_o0_hour v_o0_chance v_o0_seed), (q_o0_ways, .inl (cy 0, 12, .inl v_o0_ways)), (q_o0_distances, .inl (cy 0, 144, .inl v_o0_distances)), (q_o0_kind, .inl (cy 0, 8, .inl v_o0_kind)), (q_o0_home, .inl (cy 0, 8, .inl v_o0_home)), (q_o0_aim, .inl (cy 0, 8, .inl v_o0_aim)), (q_o0_at, .inl (cy 0, 8, .inl v_o0_at))] sz)) 0 0 (va_A [(q_t, oX3 q_t_shone), (q_t_shone, .inl (cy 0, 300, .inl v_t_shone)), (q_o0, oX5 v_o0_places q_o0_ways q_o0_distances v_o0_people q_o0_kind q_o0_a q_o0_home q_o0_aim q_o0_at v_o0_hour v_o0_chance v_o0_seed), (q_o0_ways, .inl (cy 0, 12, .inl v_o0_ways)), (q_o0_distances, .inl (cy 0, 144, .inl v_o0_distances)), (q_o0_kind, .inl (cy 0, 8, .inl v_o0_kind)), (q_o0_home, .inl (cy 0, 8, .inl v_o0_home)), (q_o0_aim, .inl (cy 0, 8, .inl v_o0_aim)), (q_o0_at, .inl (cy 0, 8, .inl v_o0_at))] sz) := by
  refine Met.ofW (cc := cX3_watch) (maxL := 4) (ret := none) (by decide) rfl ?_
  intro p e s m args below meth c s₁ B hml hv
  obtain ⟨rfl, hsz, hP, hK, hD0⟩ := hv
  have hx := B.exec
  have hb := B.bytes
  have hr := B.returns
  have hts := atoms_spec (ws := wsX3_watch) B.pre
  have hown : s.vm.findClass RX3 = some m.cls := findClass_of_methodNamed B.named
  have hlocks := B.notSynchronized
  subst hsz
  have hD := hD0.self (sz := s.heap.size)
  generalize hAe : va_A [(q_t, oX3 q_t_shone), (q_t_shone, .inl (cy 0, 300, .inl v_t_shone)), (q_o0, oX5 v_o0_places q_o0_ways q_o0_distances v_o0_people q_o0_kind q_o0_a q_o0_home q_o0_aim q_o0_at v_o0_hour v_o0_chance v_o0_seed), (q_o0_ways, .inl (cy 0, 12, .inl v_o0_ways)), (q_o0_distances, .inl (cy 0, 144, .inl v_o0_distances)), (q_o0_kind, .inl (cy 0, 8, .inl v_o0_kind)), (q_o0_home, .inl (cy 0, 8, .inl v_o0_home)), (q_o0_aim, .inl (cy 0, 8, .inl v_o0_aim)), (q_o0_at, .inl (cy 0, 8, .inl v_o0_at))] s.heap.size = A at hD ⊢
  have hA : ∀ q : Nat, s.heap.size ≤ q → A q := fun q h => by rw [← hAe]; exact Or.inr h
  have hS : va_S A s.heap s.heap [] := va_S.rf
  have hP : va_P D vwCl [(q_t, oX3 q_t_shone), (q_t_shone, .inl (cy 0, 300, .inl v_t_shone)), (q_o0, oX5 v_o0_places q_o0_ways q_o0_distances v_o0_people q_o0_kind q_o0_a q_o0_home q_o0_aim q_o0_at v_o0_hour v_o0_chance v_o0_seed), (q_o0_ways, .inl (cy 0, 12, .inl v_o0_ways)), (q_o0_distances, .inl (cy 0, 144, .inl v_o0_distances)), (q_o0_kind, .inl (cy 0, 8, .inl v_o0_kind)), (q_o0_home, .inl (cy 0, 8, .inl v_o0_home)), (q_o0_aim, .inl (cy 0, 8, .inl v_o0_aim)), (q_o0_at, .inl (cy 0, 8, .inl v_o0_at))] s.heap := hP
  have hinX3 : ∀ w ∈ u_ws RX3 TX3 1, w ∈ wsX3_watch := by decide +kernel
  have hk9 := hts (.fieldLink RX3 9 "ShowsWhereNobodyIs$Sights" "shone" "[I") (by decide +kernel)
  have hl := lv_entry ([.ref q_t, .ref q_o0, .int p1]) (n := 4) (Nat.le_of_ble_eq_true rfl)
  rw [lg_entry_eq]
  generalize (lg_sl ([.ref q_t, .ref q_o0, .int p1]) ++ List.replicate (4 - (lg_sl ([.ref q_t, .ref q_o0, .int p1])).length) Slot.unset).toArray = ls at hl ⊢
  have hl : lv_has ls 4 [(0, .ref q_t), (1, .ref q_o0), (2, .int p1)] := hl
  unfold fX3_watch at hf
  refine lv_iconst (v := 0) hx hb dX3_watch_0 (by decide) ?_
  refine lv_istore_n (lv' := [(3, .int (0 : Int32)), (0, .ref q_t), (1, .ref q_o0), (2, .int p1)]) hx hb dX3_watch_1 rfl hl (by decide) rfl (fun ls hl => ?_)
  refine wlw4 2 (fun _ _ _ _ => []) (fun (x1 : Int32) (u2 : Nat → Int32) (u3 : Int32) (u4 : Nat → Int32) H locs ls => va_P D vwCl [(q_t, oX3 q_t_shone), (q_t_shone, .inl (cy 0, 300, .inl u2)), (q_o0, oX5 v_o0_places q_o0_ways q_o0_distances v_o0_people q_o0_kind q_o0_a q_o0_home q_o0_aim q_o0_at u3 v_o0_chance v_o0_seed), (q_o0_ways, .inl (cy 0, 12, .inl v_o0_ways)), (q_o0_distances, .inl (cy 0, 144, .inl v_o0_distances)), (q_o0_kind, .inl (cy 0, 8, .inl v_o0_kind)), (q_o0_home, .inl (cy 0, 8, .inl v_o0_home)), (q_o0_aim, .inl (cy 0, 8, .inl v_o0_aim)), (q_o0_at, .inl (cy 0, 8, .inl u4))] H ∧ va_D A [(q_t, oX3 q_t_shone), (q_t_shone, .inl (cy 0, 300, .inl u2)), (q_o0, oX5 v_o0_places q_o0_ways q_o0_distances v_o0_people q_o0_kind q_o0_a q_o0_home q_o0_aim q_o0_at u3 v_o0_chance v_o0_seed), (q_o0_ways, .inl (cy 0, 12, .inl v_o0_ways)), (q_o0_distances, .inl (cy 0, 144, .inl v_o0_distances)), (q_o0_kind, .inl (cy 0, 8, .inl v_o0_kind)), (q_o0_home, .inl (cy 0, 8, .inl v_o0_home)), (q_o0_aim, .inl (cy 0, 8, .inl v_o0_aim)), (q_o0_at, .inl (cy 0, 8, .inl u4))] ∧ va_S A s.heap H locs ∧ lv_has ls 4 [(3, .int x1), (0, .ref q_t), (1, .ref q_o0), (2, .int p1)]) (fun g5 L2 x1 u2 u3 u4 H locs ls hI hf => ?_) 400 (0 : Int32) v_t_shone v_o0_hour v_o0_at _ _ ls ⟨hP, hD, hS, lv_sub hl [0, 1, 2, 3] rfl⟩ hf
  obtain ⟨hP, hD, hS, hl⟩ := hI
  refine lv_iload_n hx hb dX3_watch_2 rfl (lv_at hl 0 rfl) ?_
  refine lv_bipush (v := 24) hx hb dX3_watch_3 (by decide) ?_
  refine lv_icmp_gt (tgt := 34) hx hb dX3_watch_5 (by decide) (fun c14 => ?_) (fun c14 => ?_)
  · have hf := ifT hf c14
    clear c14
    cases hf
    exact W.vret hx hb hr (fun t ht hW => ⟨⟨(), rfl, trivial, xend ht hP⟩, hS.F ht⟩) hS.2.2 dX3_watch_34
  · have hf := ifF hf c14
    clear c14
    refine lv_aload_n hx hb dX3_watch_8 rfl (lv_at hl 1 rfl) ?_
    refine va_get (D := D) (ci := 3) (v := .ref q_t_shone) (C := RX3) (T := TX3) (N := 1) hx hb hts hinX3 hown hK.1 hP 0 rfl rfl 0 (by decide) hk9 (fun _ h9 => h9) rfl dX3_watch_9 ?_
    refine lv_iload_n hx hb dX3_watch_12 rfl (lv_at hl 0 rfl) ?_
    refine lv_bipush (v := 12) hx hb dX3_watch_13 (by decide) ?_
    refine lv_imul hx hb dX3_watch_15 ?_
    refine lv_iload_n hx hb dX3_watch_16 rfl (lv_at hl 3 rfl) ?_
    refine lv_iadd hx hb dX3_watch_17 ?_
    refine lv_aload_n hx hb dX3_watch_18 rfl (lv_at hl 2 rfl) ?_
    obtain ⟨r6, hr7, hf⟩ := boE1 hf
    have hPc := hP.sub (ws' := [(q_o0, oX5 v_o0_places q_o0_ways q_o0_distances v_o0_people q_o0_kind q_o0_a q_o0_home q_o0_aim q_o0_at u3 v_o0_chance v_o0_seed), (q_o0_kind, .inl (cy 0, 8, .inl v_o0_kind)), (q_o0_at, .inl (cy 0, 8, .inl u4))]) [2, 5, 8] rfl
    refine xcSi (va_runV (As := []) (rest := [.int ((x1 * (12 : Int32)) + p1), .ref q_t_shone]) ⟨hx, hb, hml, hown, hts⟩ (mX5_shiningPlaces l D cy q_o0 q_o0_ways q_o0_distances q_o0_kind q_o0_a q_o0_home q_o0_aim q_o0_at v_o0_places v_o0_people u3 v_o0_chance v_o0_seed v_o0_kind u4   hr7) (cwV 0 hts gX3_watch_X5_shiningPlaces rfl rfl rfl (by decide +kernel) ⟨Nat.le_of_ble_eq_true rfl, Nat.le_of_ble_eq_true rfl⟩) (xPV hK hPc (ci := 5) (q0 := 0) rfl rfl) rfl rfl hl.1 rfl (lv_room (Nat.le_of_ble_eq_true rfl)) dX3_watch_19 ⟨Nat.le_of_ble_eq_true rfl, Nat.le_of_ble_eq_true rfl⟩) ?_
    obtain ⟨hi8, hf⟩ := ckE hf
    refine va_iast hx hb hK.1 hP hD hS 1 0 rfl rfl hi8 dX3_watch_22 (fun H locs hP hD hS => ?_)
    have hP : va_P D vwCl [(q_t, oX3 q_t_shone), (q_t_shone, .inl (cy 0, 300, .inl (upd u2 ((x1 * (12 : Int32)) + p1).toNatClampNeg r6))), (q_o0, oX5 v_o0_places q_o0_ways q_o0_distances v_o0_people q_o0_kind q_o0_a q_o0_home q_o0_aim q_o0_at u3 v_o0_chance v_o0_seed), (q_o0_ways, .inl (cy 0, 12, .inl v_o0_ways)), (q_o0_distances, .inl (cy 0, 144, .inl v_o0_distances)), (q_o0_kind, .inl (cy 0, 8, .inl v_o0_kind)), (q_o0_home, .inl (cy 0, 8, .inl v_o0_home)), (q_o0_aim, .inl (cy 0, 8, .inl v_o0_aim)), (q_o0_at, .inl (cy 0, 8, .inl u4))] H := hP
    have hD : va_D A [(q_t, oX3 q_t_shone), (q_t_shone, .inl (cy 0, 300, .inl (upd u2 ((x1 * (12 : Int32)) + p1).toNatClampNeg r6))), (q_o0, oX5 v_o0_places q_o0_ways q_o0_distances v_o0_people q_o0_kind q_o0_a q_o0_home q_o0_aim q_o0_at u3 v_o0_chance v_o0_seed), (q_o0_ways, .inl (cy 0, 12, .inl v_o0_ways)), (q_o0_distances, .inl (cy 0, 144, .inl v_o0_distances)), (q_o0_kind, .inl (cy 0, 8, .inl v_o0_kind)), (q_o0_home, .inl (cy 0, 8, .inl v_o0_home)), (q_o0_aim, .inl (cy 0, 8, .inl v_o0_aim)), (q_o0_at, .inl (cy 0, 8, .inl u4))] := hD
    refine lv_aload_n hx hb dX3_watch_23 rfl (lv_at hl 2 rfl) ?_
    obtain ⟨r9, u10, u11, hr12, hf⟩ := boE3 hf
    have hPc := hP.sub (ws' := [(q_o0, oX5 v_o0_places q_o0_ways q_o0_distances v_o0_people q_o0_kind q_o0_a q_o0_home q_o0_aim q_o0_at u3 v_o0_chance v_o0_seed), (q_o0_ways, .inl (cy 0, 12, .inl v_o0_ways)), (q_o0_distances, .inl (cy 0, 144, .inl v_o0_distances)), (q_o0_kind, .inl (cy 0, 8, .inl v_o0_kind)), (q_o0_home, .inl (cy 0, 8, .inl v_o0_home)), (q_o0_aim, .inl (cy 0, 8, .inl v_o0_aim)), (q_o0_at, .inl (cy 0, 8, .inl u4))]) [2, 3, 4, 5, 6, 7, 8] rfl
    have hDc := hD.sub (ws' := [(q_o0, oX5 v_o0_places q_o0_ways q_o0_distances v_o0_people q_o0_kind q_o0_a q_o0_home q_o0_aim q_o0_at u3 v_o0_chance v_o0_seed), (q_o0_ways, .inl (cy 0, 12, .inl v_o0_ways)), (q_o0_distances, .inl (cy 0, 144, .inl v_o0_distances)), (q_o0_kind, .inl (cy 0, 8, .inl v_o0_kind)), (q_o0_home, .inl (cy 0, 8, .inl v_o0_home)), (q_o0_aim, .inl (cy 0, 8, .inl v_o0_aim)), (q_o0_at, .inl (cy 0, 8, .inl u4))]) [2, 3, 4, 5, 6, 7, 8] (by decide) rfl
    refine xcQi (w1 := [(q_o0, oX5 v_o0_places q_o0_ways q_o0_distances v_o0_people q_o0_kind q_o0_a q_o0_home q_o0_aim q_o0_at u10 v_o0_chance v_o0_seed), (q_o0_ways, .inl (cy 0, 12, .inl v_o0_ways)), (q_o0_distances, .inl (cy 0, 144, .inl v_o0_distances)), (q_o0_kind, .inl (cy 0, 8, .inl v_o0_kind)), (q_o0_home, .inl (cy 0, 8, .inl v_o0_home)), (q_o0_aim, .inl (cy 0, 8, .inl v_o0_aim)), (q_o0_at, .inl (cy 0, 8, .inl u11))]) (va_runV (As := []) (rest := []) ⟨hx, hb, hml, hown, hts⟩ (mX5_passHour l D cy q_o0 q_o0_ways q_o0_distances q_o0_kind q_o0_a q_o0_home q_o0_aim q_o0_at v_o0_places v_o0_people u3 v_o0_chance v_o0_seed v_o0_ways v_o0_distances v_o0_kind v_o0_home v_o0_aim u4 _  hr12) (cwV 0 hts gX3_watch_X5_passHour rfl rfl rfl (by decide +kernel) ⟨Nat.le_of_ble_eq_true rfl, Nat.le_of_ble_eq_true rfl⟩) (xPVw hK hPc hDc (ci := 5) (q0 := 0) rfl rfl) rfl rfl hl.1 rfl (lv_room (Nat.le_of_ble_eq_true rfl)) dX3_watch_24 ⟨Nat.le_of_ble_eq_true rfl, Nat.le_of_ble_eq_true rfl⟩) hP hD hS hA [2, 3, 4, 5, 6, 7, 8] rfl rfl (fun H locs hP hD hS => ?_)
    have hP : va_P D vwCl [(q_t, oX3 q_t_shone), (q_t_shone, .inl (cy 0, 300, .inl (upd u2 ((x1 * (12 : Int32)) + p1).toNatClampNeg r6))), (q_o0, oX5 v_o0_places q_o0_ways q_o0_distances v_o0_people q_o0_kind q_o0_a q_o0_home q_o0_aim q_o0_at u10 v_o0_chance v_o0_seed), (q_o0_ways, .inl (cy 0, 12, .inl v_o0_ways)), (q_o0_distances, .inl (cy 0, 144, .inl v_o0_distances)), (q_o0_kind, .inl (cy 0, 8, .inl v_o0_kind)), (q_o0_home, .inl (cy 0, 8, .inl v_o0_home)), (q_o0_aim, .inl (cy 0, 8, .inl v_o0_aim)), (q_o0_at, .inl (cy 0, 8, .inl u11))] H := hP
    have hD : va_D A [(q_t, oX3 q_t_shone), (q_t_shone, .inl (cy 0, 300, .inl (upd u2 ((x1 * (12 : Int32)) + p1).toNatClampNeg r6))), (q_o0, oX5 v_o0_places q_o0_ways q_o0_distances v_o0_people q_o0_kind q_o0_a q_o0_home q_o0_aim q_o0_at u10 v_o0_chance v_o0_seed), (q_o0_ways, .inl (cy 0, 12, .inl v_o0_ways)), (q_o0_distances, .inl (cy 0, 144, .inl v_o0_distances)), (q_o0_kind, .inl (cy 0, 8, .inl v_o0_kind)), (q_o0_home, .inl (cy 0, 8, .inl v_o0_home)), (q_o0_aim, .inl (cy 0, 8, .inl v_o0_aim)), (q_o0_at, .inl (cy 0, 8, .inl u11))] := hD
    refine lv_pop hx hb dX3_watch_27 rfl ?_
    obtain ⟨x13, ex13⟩ : ∃ y : Int32, y = x1 + (1 : Int32) := ⟨_, rfl⟩
    have hf := vlE hf ex13
    refine lv_iinc (v := x13) (lv' := [(3, .int x13), (0, .ref q_t), (1, .ref q_o0), (2, .int p1)]) hx hb dX3_watch_28 hl (k := 0) rfl (by rw [ex13]; rfl) (by decide) rfl (fun ls hl => ?_)
    clear ex13
    refine lv_goto (tgt := 2) hx hb dX3_watch_31 (by decide) ?_
    exact L2 x13 (upd u2 ((x1 * (12 : Int32)) + p1).toNatClampNeg r6) u10 u11 _ _ ls ⟨hP, hD, hS, lv_sub hl [0, 1, 2, 3] rfl⟩ hf
