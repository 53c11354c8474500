def fX2_takeNothing : Option (Int32 × Int32) :=
  some ((-1 : Int32), (0 : Int32))
set_option maxHeartbeats 4000000 in
set_option maxRecDepth 100000 in
theorem mX2_takeNothing (l : Launch) (D : va_G) (cy : Nat → ClassId) (q_t q_t_elements : Nat) (v_t_content : Int32) (v_t_size : Int32) (v_t_elements : Nat → Int64) (sz : Nat) {n_t_content : Int32} {n_t_size : Int32} (hf : fX2_takeNothing = some (n_t_content, n_t_size)) : Met l yX2_takeNothing wsX2_takeNothing ({ frames := 0, cells := 0, slots := 0, locals := 0 }) (va_Pc [.ref q_t] (fun U => U.heap.size = sz ∧ va_P D vwCl [(q_t, oX2 v_t_content v_t_size q_t_elements), (q_t_elements, .inl (cy 1, 40, .inr (.inl v_t_elements)))] U.heap ∧ xK D cy U ∧ va_D (fun _ => True) [(q_t, oX2 v_t_content v_t_size q_t_elements), (q_t_elements, .inl (cy 1, 40, .inr (.inl v_t_elements)))])) (va_Qv (fun (_ : Unit) => True) (fun _ t => va_P D vwCl [(q_t, oX2 n_t_content n_t_size q_t_elements), (q_t_elements, .inl (cy 1, 40, .inr (.inl v_t_elements)))] t.heap) (va_A [(q_t, oX2 v_t_content v_t_size q_t_elements), (q_t_elements, .inl (cy 1, 40, .inr (.inl v_t_elements)))] sz)) 0 0 (va_A [(q_t, oX2 v_t_content v_t_size q_t_elements), (q_t_elements, .inl (cy 1, 40, .inr (.inl v_t_elements)))] sz) := by
  refine Met.ofW (cc := cX2_takeNothing) (maxL := 1) (ret := none) (by decide) rfl ?_
  intro p e s m args below meth c s₁ B hml hv
  obtain ⟨rfl, hsz, hP, hK, hD0⟩ := hv
  have hx := B.exec
  have hb := B.bytes
  have hr := B.returns
  have hts := atoms_spec (ws := wsX2_takeNothing) B.pre
  have hown : s.vm.findClass RX2 = some m.cls := findClass_of_methodNamed B.named
  have hlocks := B.notSynchronized
  subst hsz
  have hD := hD0.self (sz := s.heap.size)
  generalize hAe : va_A [(q_t, oX2 v_t_content v_t_size q_t_elements), (q_t_elements, .inl (cy 1, 40, .inr (.inl v_t_elements)))] s.heap.size = A at hD ⊢
  have hA : ∀ q : Nat, s.heap.size ≤ q → A q := fun q h => by rw [← hAe]; exact Or.inr h
  have hS : va_S A s.heap s.heap [] := va_S.rf
  have hP : va_P D vwCl [(q_t, oX2 v_t_content v_t_size q_t_elements), (q_t_elements, .inl (cy 1, 40, .inr (.inl v_t_elements)))] s.heap := hP
  have hinX2 : ∀ w ∈ u_ws RX2 TX2 3, w ∈ wsX2_takeNothing := by decide +kernel
  have hk9 := hts (.fieldLink RX2 9 "ShowsWhereNobodyIs$Shelf" "content" "I") (by decide +kernel)
  have hk19 := hts (.fieldLink RX2 19 "ShowsWhereNobodyIs$Shelf" "size" "I") (by decide +kernel)
  have hl := lv_entry ([.ref q_t]) (n := 1) (Nat.le_of_ble_eq_true rfl)
  rw [lg_entry_eq]
  generalize (lg_sl ([.ref q_t]) ++ List.replicate (1 - (lg_sl ([.ref q_t])).length) Slot.unset).toArray = ls at hl ⊢
  have hl : lv_has ls 1 [(0, .ref q_t)] := hl
  unfold fX2_takeNothing at hf
  refine lv_aload_n hx hb dX2_takeNothing_0 rfl (lv_at hl 0 rfl) ?_
  refine lv_iconst (v := (-1)) hx hb dX2_takeNothing_1 (by decide) ?_
  refine va_put (D := D) (ci := 2) (v := .int (-1 : Int32)) (ty := .int) (C := RX2) (T := TX2) (N := 3) hx hb hts hinX2 tyX2 tyX2_ok nmX2 hown hK.1 hP hD hS 0 rfl rfl 0 (by decide) hk9 (fun _ h9 => h9) rfl (by decide +kernel) rfl rfl (Nat.le_of_ble_eq_true rfl) dX2_takeNothing_2 (fun H locs hP hD hS => ?_)
  have hP : va_P D vwCl [(q_t, oX2 (-1 : Int32) v_t_size q_t_elements), (q_t_elements, .inl (cy 1, 40, .inr (.inl v_t_elements)))] H := hP
  have hD : va_D A [(q_t, oX2 (-1 : Int32) v_t_size q_t_elements), (q_t_elements, .inl (cy 1, 40, .inr (.inl v_t_elements)))] := hD
  refine lv_aload_n hx hb dX2_takeNothing_5 rfl (lv_at hl 0 rfl) ?_
  refine lv_iconst (v := 0) hx hb dX2_takeNothing_6 (by decide) ?_
  refine va_put (D := D) (ci := 2) (v := .int (0 : Int32)) (ty := .int) (C := RX2) (T := TX2) (N := 3) hx hb hts hinX2 tyX2 tyX2_ok nmX2 hown hK.1 hP hD hS 0 rfl rfl 1 (by decide) hk19 (fun _ h9 => h9) rfl (by decide +kernel) rfl rfl (Nat.le_of_ble_eq_true rfl) dX2_takeNothing_7 (fun H locs hP hD hS => ?_)
  have hP : va_P D vwCl [(q_t, oX2 (-1 : Int32) (0 : Int32) q_t_elements), (q_t_elements, .inl (cy 1, 40, .inr (.inl v_t_elements)))] H := hP
  have hD : va_D A [(q_t, oX2 (-1 : Int32) (0 : Int32) q_t_elements), (q_t_elements, .inl (cy 1, 40, .inr (.inl v_t_elements)))] := hD
  cases hf
  exact W.vret hx hb hr (fun t ht hW => ⟨⟨(), rfl, trivial, xend ht hP⟩, hS.F ht⟩) hS.2.2 dX2_takeNothing_10
def fX2_takePerson (p0 : Int32) : Option (Int32 × Int32) :=
  some ((10 : Int32) + p0, (0 : Int32))
set_option maxHeartbeats 4000000 in
set_option maxRecDepth 100000 in
theorem mX2_takePerson (l : Launch) (D : va_G) (cy : Nat → ClassId) (q_t q_t_elements : Nat) (v_t_content : Int32) (v_t_size : Int32) (v_t_elements : Nat → Int64) (sz : Nat) (p0 : Int32) {n_t_content : Int32} {n_t_size : Int32} (hf : fX2_takePerson p0 = some (n_t_content, n_t_size)) : Met l yX2_takePerson wsX2_takePerson ({ frames := 0, cells := 0, slots := 0, locals := 0 }) (va_Pc [.ref q_t, .int p0] (fun U => U.heap.size = sz ∧ va_P D vwCl [(q_t, oX2 v_t_content v_t_size q_t_elements), (q_t_elements, .inl (cy 1, 40, .inr (.inl v_t_elements)))] U.heap ∧ xK D cy U ∧ va_D (fun _ => True) [(q_t, oX2 v_t_content v_t_size q_t_elements), (q_t_elements, .inl (cy 1, 40, .inr (.inl v_t_elements)))])) (va_Qv (fun (_ : Unit) => True) (fun _ t => va_P D vwCl [(q_t, oX2 n_t_content n_t_size q_t_elements), (q_t_elements, .inl (cy 1, 40, .inr (.inl v_t_elements)))] t.heap) (va_A [(q_t, oX2 v_t_content v_t_size q_t_elements), (q_t_elements, .inl (cy 1, 40, .inr (.inl v_t_elements)))] sz)) 0 0 (va_A [(q_t, oX2 v_t_content v_t_size q_t_elements), (q_t_elements, .inl (cy 1, 40, .inr (.inl v_t_elements)))] sz) := by
  refine Met.ofW (cc := cX2_takePerson) (maxL := 2) (ret := none) (by decide) rfl ?_
  intro p e s m args below meth c s₁ B hml hv
  obtain ⟨rfl, hsz, hP, hK, hD0⟩ := hv
  have hx := B.exec
  have hb := B.bytes
  have hr := B.returns
  have hts := atoms_spec (ws := wsX2_takePerson) B.pre
  have hown : s.vm.findClass RX2 = some m.cls := findClass_of_methodNamed B.named
  have hlocks := B.notSynchronized
  subst hsz
  have hD := hD0.self (sz := s.heap.size)
  generalize hAe : va_A [(q_t, oX2 v_t_content v_t_size q_t_elements), (q_t_elements, .inl (cy 1, 40, .inr (.inl v_t_elements)))] s.heap.size = A at hD ⊢
  have hA : ∀ q : Nat, s.heap.size ≤ q → A q := fun q h => by rw [← hAe]; exact Or.inr h
  have hS : va_S A s.heap s.heap [] := va_S.rf
  have hP : va_P D vwCl [(q_t, oX2 v_t_content v_t_size q_t_elements), (q_t_elements, .inl (cy 1, 40, .inr (.inl v_t_elements)))] s.heap := hP
  have hinX2 : ∀ w ∈ u_ws RX2 TX2 3, w ∈ wsX2_takePerson := by decide +kernel
  have hk9 := hts (.fieldLink RX2 9 "ShowsWhereNobodyIs$Shelf" "content" "I") (by decide +kernel)
  have hk19 := hts (.fieldLink RX2 19 "ShowsWhereNobodyIs$Shelf" "size" "I") (by decide +kernel)
  have hl := lv_entry ([.ref q_t, .int p0]) (n := 2) (Nat.le_of_ble_eq_true rfl)
  rw [lg_entry_eq]
  generalize (lg_sl ([.ref q_t, .int p0]) ++ List.replicate (2 - (lg_sl ([.ref q_t, .int p0])).length) Slot.unset).toArray = ls at hl ⊢
  have hl : lv_has ls 2 [(0, .ref q_t), (1, .int p0)] := hl
  unfold fX2_takePerson at hf
  refine lv_aload_n hx hb dX2_takePerson_0 rfl (lv_at hl 0 rfl) ?_
  refine lv_bipush (v := 10) hx hb dX2_takePerson_1 (by decide) ?_
  refine lv_iload_n hx hb dX2_takePerson_3 rfl (lv_at hl 1 rfl) ?_
  refine lv_iadd hx hb dX2_takePerson_4 ?_
  refine va_put (D := D) (ci := 2) (v := .int ((10 : Int32) + p0)) (ty := .int) (C := RX2) (T := TX2) (N := 3) hx hb hts hinX2 tyX2 tyX2_ok nmX2 hown hK.1 hP hD hS 0 rfl rfl 0 (by decide) hk9 (fun _ h9 => h9) rfl (by decide +kernel) rfl rfl (Nat.le_of_ble_eq_true rfl) dX2_takePerson_5 (fun H locs hP hD hS => ?_)
  have hP : va_P D vwCl [(q_t, oX2 ((10 : Int32) + p0) v_t_size q_t_elements), (q_t_elements, .inl (cy 1, 40, .inr (.inl v_t_elements)))] H := hP
  have hD : va_D A [(q_t, oX2 ((10 : Int32) + p0) v_t_size q_t_elements), (q_t_elements, .inl (cy 1, 40, .inr (.inl v_t_elements)))] := hD
  refine lv_aload_n hx hb dX2_takePerson_8 rfl (lv_at hl 0 rfl) ?_
  refine lv_iconst (v := 0) hx hb dX2_takePerson_9 (by decide) ?_
  refine va_put (D := D) (ci := 2) (v := .int (0 : Int32)) (ty := .int) (C := RX2) (T := TX2) (N := 3) hx hb hts hinX2 tyX2 tyX2_ok nmX2 hown hK.1 hP hD hS 0 rfl rfl 1 (by decide) hk19 (fun _ h9 => h9) rfl (by decide +kernel) rfl rfl (Nat.le_of_ble_eq_true rfl) dX2_takePerson_10 (fun H locs hP hD hS => ?_)
  have hP : va_P D vwCl [(q_t, oX2 ((10 : Int32) + p0) (0 : Int32) q_t_elements), (q_t_elements, .inl (cy 1, 40, .inr (.inl v_t_elements)))] H := hP
  have hD : va_D A [(q_t, oX2 ((10 : Int32) + p0) (0 : Int32) q_t_elements), (q_t_elements, .inl (cy 1, 40, .inr (.inl v_t_elements)))] := hD
  cases hf
  exact W.vret hx hb hr (fun t ht hW => ⟨⟨(), rfl, trivial, xend ht hP⟩, hS.F ht⟩) hS.2.2 dX2_takePerson_13
def fX2_takeRow (v_t_elements : Nat → Int64) (p0 : Int32) (p1 : Int32) : Option (Int32 × Int32 × (Nat → Int64)) :=
  lo2 (fun g3 (x1 : Int32) (u2 : Nat → Int64) =>
    if (40 : Int32) ≤ x1 then
      some (p0, p1, u2)
    else
      if x1 < 0 ∨ 40 ≤ x1.toNatClampNeg then none else
      vlet (x1 + (1 : Int32)) fun x5 =>
      g3 x5 (vp_updL u2 x1.toNatClampNeg (0 : Int64))) 400 (0 : Int32) v_t_elements
set_option maxHeartbeats 4000000 in
set_option maxRecDepth 100000 in
theorem mX2_takeRow (l : Launch) (D : va_G) (cy : Nat → ClassId) (q_t q_t_elements : Nat) (v_t_content : Int32) (v_t_size : Int32) (v_t_elements : Nat → Int64) (sz : Nat) (p0 : Int32) (p1 : Int32) {n_t_content : Int32} {n_t_size : Int32} {n_t_elements : Nat → Int64} (hf : fX2_takeRow v_t_elements p0 p1 = some (n_t_content, n_t_size, n_t_elements)) : Met l yX2_takeRow wsX2_takeRow ({ frames := 0, cells := 0, slots := 0, locals := 0 }) (va_Pc [.ref q_t, .int p0, .int p1] (fun U => U.heap.size = sz ∧ va_P D vwCl [(q_t, oX2 v_t_content v_t_size q_t_elements), (q_t_elements, .inl (cy 1, 40, .inr (.inl v_t_elements)))] U.heap ∧ xK D cy U ∧ va_D (fun _ => True) [(q_t, oX2 v_t_content v_t_size q_t_elements), (q_t_elements, .inl (cy 1, 40, .inr (.inl v_t_elements)))])) (va_Qv (fun (_ : Unit) => True) (fun _ t => va_P D vwCl [(q_t, oX2 n_t_content n_t_size q_t_elements), (q_t_elements, .inl (cy 1, 40, .inr (.inl n_t_elements)))] t.heap) (va_A [(q_t, oX2 v_t_content v_t_size q_t_elements), (q_t_elements, .inl (cy 1, 40, .inr (.inl v_t_elements)))] sz)) 0 0 (va_A [(q_t, oX2 v_t_content v_t_size q_t_elements), (q_t_elements, .inl (cy 1, 40, .inr (.inl v_t_elements)))] sz) := by
  refine Met.ofW (cc := cX2_takeRow) (maxL := 4) (ret := none) (by decide) rfl ?_
  intro p e s m args below meth c s₁ B hml hv
  obtain ⟨rfl, hsz, hP, hK, hD0⟩ := hv
  have hx := B.exec
  have hb := B.bytes
  have hr := B.returns
  have hts := atoms_spec (ws := wsX2_takeRow) B.pre
  have hown : s.vm.findClass RX2 = some m.cls := findClass_of_methodNamed B.named
  have hlocks := B.notSynchronized
  subst hsz
  have hD := hD0.self (sz := s.heap.size)
  generalize hAe : va_A [(q_t, oX2 v_t_content v_t_size q_t_elements), (q_t_elements, .inl (cy 1, 40, .inr (.inl v_t_elements)))] s.heap.size = A at hD ⊢
  have hA : ∀ q : Nat, s.heap.size ≤ q → A q := fun q h => by rw [← hAe]; exact Or.inr h
  have hS : va_S A s.heap s.heap [] := va_S.rf
  have hP : va_P D vwCl [(q_t, oX2 v_t_content v_t_size q_t_elements), (q_t_elements, .inl (cy 1, 40, .inr (.inl v_t_elements)))] s.heap := hP
  have hinX2 : ∀ w ∈ u_ws RX2 TX2 3, w ∈ wsX2_takeRow := by decide +kernel
  have hk9 := hts (.fieldLink RX2 9 "ShowsWhereNobodyIs$Shelf" "content" "I") (by decide +kernel)
  have hk19 := hts (.fieldLink RX2 19 "ShowsWhereNobodyIs$Shelf" "size" "I") (by decide +kernel)
  have hk15 := hts (.fieldLink RX2 15 "ShowsWhereNobodyIs$Shelf" "elements" "[J") (by decide +kernel)
  have hl := lv_entry ([.ref q_t, .int p0, .int p1]) (n := 4) (Nat.le_of_ble_eq_true rfl)
  rw [lg_entry_eq]
  generalize (lg_sl ([.ref q_t, .int p0, .int p1]) ++ List.replicate (4 - (lg_sl ([.ref q_t, .int p0, .int p1])).length) Slot.unset).toArray = ls at hl ⊢
  have hl : lv_has ls 4 [(0, .ref q_t), (1, .int p0), (2, .int p1)] := hl
  unfold fX2_takeRow at hf
  refine lv_aload_n hx hb dX2_takeRow_0 rfl (lv_at hl 0 rfl) ?_
  refine lv_iload_n hx hb dX2_takeRow_1 rfl (lv_at hl 1 rfl) ?_
  refine va_put (D := D) (ci := 2) (v := .int p0) (ty := .int) (C := RX2) (T := TX2) (N := 3) hx hb hts hinX2 tyX2 tyX2_ok nmX2 hown hK.1 hP hD hS 0 rfl rfl 0 (by decide) hk9 (fun _ h9 => h9) rfl (by decide +kernel) rfl rfl (Nat.le_of_ble_eq_true rfl) dX2_takeRow_2 (fun H locs hP hD hS => ?_)
  have hP : va_P D vwCl [(q_t, oX2 p0 v_t_size q_t_elements), (q_t_elements, .inl (cy 1, 40, .inr (.inl v_t_elements)))] H := hP
  have hD : va_D A [(q_t, oX2 p0 v_t_size q_t_elements), (q_t_elements, .inl (cy 1, 40, .inr (.inl v_t_elements)))] := hD
  refine lv_aload_n hx hb dX2_takeRow_5 rfl (lv_at hl 0 rfl) ?_
  refine lv_iload_n hx hb dX2_takeRow_6 rfl (lv_at hl 2 rfl) ?_
  refine va_put (D := D) (ci := 2) (v := .int p1) (ty := .int) (C := RX2) (T := TX2) (N := 3) hx hb hts hinX2 tyX2 tyX2_ok nmX2 hown hK.1 hP hD hS 0 rfl rfl 1 (by decide) hk19 (fun _ h9 => h9) rfl (by decide +kernel) rfl rfl (Nat.le_of_ble_eq_true rfl) dX2_takeRow_7 (fun H locs hP hD hS => ?_)
  have hP : va_P D vwCl [(q_t, oX2 p0 p1 q_t_elements), (q_t_elements, .inl (cy 1, 40, .inr (.inl v_t_elements)))] H := hP
  have hD : va_D A [(q_t, oX2 p0 p1 q_t_elements), (q_t_elements, .inl (cy 1, 40, .inr (.inl v_t_elements)))] := hD
  refine lv_iconst (v := 0) hx hb dX2_takeRow_10 (by decide) ?_
  refine lv_istore_n (lv' := [(3, .int (0 : Int32)), (0, .ref q_t), (1, .int p0), (2, .int p1)]) hx hb dX2_takeRow_11 rfl hl (by decide) rfl (fun ls hl => ?_)
  refine wlw2 12 (fun _ _ => []) (fun (x1 : Int32) (u2 : Nat → Int64) H locs ls => va_P D vwCl [(q_t, oX2 p0 p1 q_t_elements), (q_t_elements, .inl (cy 1, 40, .inr (.inl u2)))] H ∧ va_D A [(q_t, oX2 p0 p1 q_t_elements), (q_t_elements, .inl (cy 1, 40, .inr (.inl u2)))] ∧ va_S A s.heap H locs ∧ lv_has ls 4 [(3, .int x1), (0, .ref q_t)]) (fun g3 L12 x1 u2 H locs ls hI hf => ?_) 400 (0 : Int32) v_t_elements _ _ ls ⟨hP, hD, hS, lv_sub hl [0, 1] rfl⟩ hf
  obtain ⟨hP, hD, hS, hl⟩ := hI
  refine lv_iload_n hx hb dX2_takeRow_12 rfl (lv_at hl 0 rfl) ?_
  refine lv_bipush (v := 40) hx hb dX2_takeRow_13 (by decide) ?_
  refine lv_icmp_ge (tgt := 31) hx hb dX2_takeRow_15 (by decide) (fun c6 => ?_) (fun c6 => ?_)
  · have hf := ifT hf c6
    clear c6
    cases hf
    exact W.vret hx hb hr (fun t ht hW => ⟨⟨(), rfl, trivial, xend ht hP⟩, hS.F ht⟩) hS.2.2 dX2_takeRow_31
  · have hf := ifF hf c6
    clear c6
    refine lv_aload_n hx hb dX2_takeRow_18 rfl (lv_at hl 1 rfl) ?_
    refine va_get (D := D) (ci := 2) (v := .ref q_t_elements) (C := RX2) (T := TX2) (N := 3) hx hb hts hinX2 hown hK.1 hP 0 rfl rfl 2 (by decide) hk15 (fun _ h9 => h9) rfl dX2_takeRow_19 ?_
    refine lv_iload_n hx hb dX2_takeRow_22 rfl (lv_at hl 0 rfl) ?_
    refine lv_lconst (v := 0) hx hb dX2_takeRow_23 (by decide) ?_
    obtain ⟨hi4, hf⟩ := ckE hf
    refine va_last hx hb hK.1 hP hD hS 1 1 rfl rfl hi4 dX2_takeRow_24 (fun H locs hP hD hS => ?_)
    have hP : va_P D vwCl [(q_t, oX2 p0 p1 q_t_elements), (q_t_elements, .inl (cy 1, 40, .inr (.inl (vp_updL u2 x1.toNatClampNeg (0 : Int64)))))] H := hP
    have hD : va_D A [(q_t, oX2 p0 p1 q_t_elements), (q_t_elements, .inl (cy 1, 40, .inr (.inl (vp_updL u2 x1.toNatClampNeg (0 : Int64)))))] := hD
    obtain ⟨x5, ex5⟩ : ∃ y : Int32, y = x1 + (1 : Int32) := ⟨_, rfl⟩
    have hf := vlE hf ex5
    refine lv_iinc (v := x5) (lv' := [(3, .int x5), (0, .ref q_t)]) hx hb dX2_takeRow_25 hl (k := 0) rfl (by rw [ex5]; rfl) (by decide) rfl (fun ls hl => ?_)
    clear ex5
    refine lv_goto (tgt := 12) hx hb dX2_takeRow_28 (by decide) ?_
    exact L12 x5 (vp_updL u2 x1.toNatClampNeg (0 : Int64)) _ _ ls ⟨hP, hD, hS, lv_sub hl [0, 1] rfl⟩ hf
def fX2_holdsNothing (v_t_content : Int32) : Option (Int32) :=
  if v_t_content = (-1 : Int32) then
    some (1 : Int32)
  else
    some (0 : Int32)
set_option maxHeartbeats 4000000 in
set_option maxRecDepth 100000 in
theorem mX2_holdsNothing (l : Launch) (D : va_G) (cy : Nat → ClassId) (q_t q_t_elements : Nat) (v_t_content : Int32) (v_t_size : Int32) (v_t_elements : Nat → Int64) {r_ : Int32} (hf : fX2_holdsNothing v_t_content = some r_) : Met l yX2_holdsNothing wsX2_holdsNothing ({ frames := 0, cells := 0, slots := 0, locals := 0 }) (va_Pc [.ref q_t] (fun U => va_P D vwCl [(q_t, oX2 v_t_content v_t_size q_t_elements), (q_t_elements, .inl (cy 1, 40, .inr (.inl v_t_elements)))] U.heap ∧ xK D cy U)) (vp_Si (fun x => x = r_)) 0 0 (fun _ => False) := by
  refine Met.ofW (cc := cX2_holdsNothing) (maxL := 1) (ret := (some .boolean)) (by decide) rfl ?_
  intro p e s m args below meth c s₁ B hml hv
  obtain ⟨rfl, hP, hK⟩ := hv
  have hx := B.exec
  have hb := B.bytes
  have hr := B.returns
  have hts := atoms_spec (ws := wsX2_holdsNothing) B.pre
  have hown : s.vm.findClass RX2 = some m.cls := findClass_of_methodNamed B.named
  have hlocks := B.notSynchronized
  have hP : va_P D vwCl [(q_t, oX2 v_t_content v_t_size q_t_elements), (q_t_elements, .inl (cy 1, 40, .inr (.inl v_t_elements)))] s.heap := hP
  have hinX2 : ∀ w ∈ u_ws RX2 TX2 3, w ∈ wsX2_holdsNothing := by decide +kernel
  have hk9 := hts (.fieldLink RX2 9 "ShowsWhereNobodyIs$Shelf" "content" "I") (by decide +kernel)
  have hl := lv_entry ([.ref q_t]) (n := 1) (Nat.le_of_ble_eq_true rfl)
  rw [lg_entry_eq]
  generalize (lg_sl ([.ref q_t]) ++ List.replicate (1 - (lg_sl ([.ref q_t])).length) Slot.unset).toArray = ls at hl ⊢
  have hl : lv_has ls 1 [(0, .ref q_t)] := hl
  unfold fX2_holdsNothing at hf
  refine lv_aload_n hx hb dX2_holdsNothing_0 rfl (lv_at hl 0 rfl) ?_
  refine va_get (D := D) (ci := 2) (v := .int v_t_content) (C := RX2) (T := TX2) (N := 3) hx hb hts hinX2 hown hK.1 hP 0 rfl rfl 0 (by decide) hk9 (fun _ h9 => h9) rfl dX2_holdsNothing_1 ?_
  refine lv_iconst (v := (-1)) hx hb dX2_holdsNothing_4 (by decide) ?_
  refine lv_icmp_ne (tgt := 12) hx hb dX2_holdsNothing_5 (by decide) (fun c1 => ?_) (fun c1 => ?_)
  · have hf := ifF hf c1
    clear c1
    refine lv_iconst (v := 0) hx hb dX2_holdsNothing_12 (by decide) ?_
    exact W.zret (v := (0 : Int32)) hx hb hr rfl (fun t ht hW => ⟨(0 : Int32), rfl, Option.some.inj hf, ht⟩) (fun q h => nomatch h) dX2_holdsNothing_13
  · have hf := ifT hf c1
    clear c1
    refine lv_iconst (v := 1) hx hb dX2_holdsNothing_8 (by decide) ?_
    refine lv_goto (tgt := 13) hx hb dX2_holdsNothing_9 (by decide) ?_
    exact W.zret (v := (1 : Int32)) hx hb hr rfl (fun t ht hW => ⟨(1 : Int32), rfl, Option.some.inj hf, ht⟩) (fun q h => nomatch h) dX2_holdsNothing_13
def fX2_holdsPerson (v_t_content : Int32) : Option (Int32) :=
  if v_t_content < (10 : Int32) then
    some (0 : Int32)
  else
    some (1 : Int32)
set_option maxHeartbeats 4000000 in
set_option maxRecDepth 100000 in
theorem mX2_holdsPerson (l : Launch) (D : va_G) (cy : Nat → ClassId) (q_t q_t_elements : Nat) (v_t_content : Int32) (v_t_size : Int32) (v_t_elements : Nat → Int64) {r_ : Int32} (hf : fX2_holdsPerson v_t_content = some r_) : Met l yX2_holdsPerson wsX2_holdsPerson ({ frames := 0, cells := 0, slots := 0, locals := 0 }) (va_Pc [.ref q_t] (fun U => va_P D vwCl [(q_t, oX2 v_t_content v_t_size q_t_elements), (q_t_elements, .inl (cy 1, 40, .inr (.inl v_t_elements)))] U.heap ∧ xK D cy U)) (vp_Si (fun x => x = r_)) 0 0 (fun _ => False) := by
  refine Met.ofW (cc := cX2_holdsPerson) (maxL := 1) (ret := (some .boolean)) (by decide) rfl ?_
  intro p e s m args below meth c s₁ B hml hv
  obtain ⟨rfl, hP, hK⟩ := hv
  have hx := B.exec
  have hb := B.bytes
  have hr := B.returns
  have hts := atoms_spec (ws := wsX2_holdsPerson) B.pre
  have hown : s.vm.findClass RX2 = some m.cls := findClass_of_methodNamed B.named
  have hlocks := B.notSynchronized
  have hP : va_P D vwCl [(q_t, oX2 v_t_content v_t_size q_t_elements), (q_t_elements, .inl (cy 1, 40, .inr (.inl v_t_elements)))] s.heap := hP
  have hinX2 : ∀ w ∈ u_ws RX2 TX2 3, w ∈ wsX2_holdsPerson := by decide +kernel
  have hk9 := hts (.fieldLink RX2 9 "ShowsWhereNobodyIs$Shelf" "content" "I") (by decide +kernel)
  have hl := lv_entry ([.ref q_t]) (n := 1) (Nat.le_of_ble_eq_true rfl)
  rw [lg_entry_eq]
  generalize (lg_sl ([.ref q_t]) ++ List.replicate (1 - (lg_sl ([.ref q_t])).length) Slot.unset).toArray = ls at hl ⊢
  have hl : lv_has ls 1 [(0, .ref q_t)] := hl
  unfold fX2_holdsPerson at hf
  refine lv_aload_n hx hb dX2_holdsPerson_0 rfl (lv_at hl 0 rfl) ?_
  refine va_get (D := D) (ci := 2) (v := .int v_t_content) (C := RX2) (T := TX2) (N := 3) hx hb hts hinX2 hown hK.1 hP 0 rfl rfl 0 (by decide) hk9 (fun _ h9 => h9) rfl dX2_holdsPerson_1 ?_
  refine lv_bipush (v := 10) hx hb dX2_holdsPerson_4 (by decide) ?_
  refine lv_icmp_lt (tgt := 13) hx hb dX2_holdsPerson_6 (by decide) (fun c1 => ?_) (fun c1 => ?_)
  · have hf := ifT hf c1
    clear c1
    refine lv_iconst (v := 0) hx hb dX2_holdsPerson_13 (by decide) ?_
    exact W.zret (v := (0 : Int32)) hx hb hr rfl (fun t ht hW => ⟨(0 : Int32), rfl, Option.some.inj hf, ht⟩) (fun q h => nomatch h) dX2_holdsPerson_14
  · have hf := ifF hf c1
    clear c1
    refine lv_iconst (v := 1) hx hb dX2_holdsPerson_9 (by decide) ?_
    refine lv_goto (tgt := 14) hx hb dX2_holdsPerson_10 (by decide) ?_
    exact W.zret (v := (1 : Int32)) hx hb hr rfl (fun t ht hW => ⟨(1 : Int32), rfl, Option.some.inj hf, ht⟩) (fun q h => nomatch h) dX2_holdsPerson_14
def fX2_holdsRow (v_t_content : Int32) : Option (Int32) :=
  if v_t_content < 0 then
    some (0 : Int32)
  else
    if (4 : Int32) < v_t_content then
      some (0 : Int32)
    else
      some (1 : Int32)
set_option maxHeartbeats 4000000 in
set_option maxRecDepth 100000 in
theorem mX2_holdsRow (l : Launch) (D : va_G) (cy : Nat → ClassId) (q_t q_t_elements : Nat) (v_t_content : Int32) (v_t_size : Int32) (v_t_elements : Nat → Int64) {r_ : Int32} (hf : fX2_holdsRow v_t_content = some r_) : Met l yX2_holdsRow wsX2_holdsRow ({ frames := 0, cells := 0, slots := 0, locals := 0 }) (va_Pc [.ref q_t] (fun U => va_P D vwCl [(q_t, oX2 v_t_content v_t_size q_t_elements), (q_t_elements, .inl (cy 1, 40, .inr (.inl v_t_elements)))] U.heap ∧ xK D cy U)) (vp_Si (fun x => x = r_)) 0 0 (fun _ => False) := by
  refine Met.ofW (cc := cX2_holdsRow) (maxL := 1) (ret := (some .boolean)) (by decide) rfl ?_
  intro p e s m args below meth c s₁ B hml hv
  obtain ⟨rfl, hP, hK⟩ := hv
  have hx := B.exec
  have hb := B.bytes
  have hr := B.returns
  have hts := atoms_spec (ws := wsX2_holdsRow) B.pre
  have hown : s.vm.findClass RX2 = some m.cls := findClass_of_methodNamed B.named
  have hlocks := B.notSynchronized
  have hP : va_P D vwCl [(q_t, oX2 v_t_content v_t_size q_t_elements), (q_t_elements, .inl (cy 1, 40, .inr (.inl v_t_elements)))] s.heap := hP
  have hinX2 : ∀ w ∈ u_ws RX2 TX2 3, w ∈ wsX2_holdsRow := by decide +kernel
  have hk9 := hts (.fieldLink RX2 9 "ShowsWhereNobodyIs$Shelf" "content" "I") (by decide +kernel)
  have hl := lv_entry ([.ref q_t]) (n := 1) (Nat.le_of_ble_eq_true rfl)
  rw [lg_entry_eq]
  generalize (lg_sl ([.ref q_t]) ++ List.replicate (1 - (lg_sl ([.ref q_t])).length) Slot.unset).toArray = ls at hl ⊢
  have hl : lv_has ls 1 [(0, .ref q_t)] := hl
  unfold fX2_holdsRow at hf
  refine lv_aload_n hx hb dX2_holdsRow_0 rfl (lv_at hl 0 rfl) ?_
  refine va_get (D := D) (ci := 2) (v := .int v_t_content) (C := RX2) (T := TX2) (N := 3) hx hb hts hinX2 hown hK.1 hP 0 rfl rfl 0 (by decide) hk9 (fun _ h9 => h9) rfl dX2_holdsRow_1 ?_
  refine lv_if_lt (tgt := 19) hx hb dX2_holdsRow_4 (by decide) (fun c2 => ?_) (fun c2 => ?_)
  · have hf := ifT hf c2
    clear c2
    refine lv_iconst (v := 0) hx hb dX2_holdsRow_19 (by decide) ?_
    exact W.zret (v := (0 : Int32)) hx hb hr rfl (fun t ht hW => ⟨(0 : Int32), rfl, Option.some.inj hf, ht⟩) (fun q h => nomatch h) dX2_holdsRow_20
  · have hf := ifF hf c2
    clear c2
    refine lv_aload_n hx hb dX2_holdsRow_7 rfl (lv_at hl 0 rfl) ?_
    refine va_get (D := D) (ci := 2) (v := .int v_t_content) (C := RX2) (T := TX2) (N := 3) hx hb hts hinX2 hown hK.1 hP 0 rfl rfl 0 (by decide) hk9 (fun _ h9 => h9) rfl dX2_holdsRow_8 ?_
    refine lv_iconst (v := 4) hx hb dX2_holdsRow_11 (by decide) ?_
    refine lv_icmp_gt (tgt := 19) hx hb dX2_holdsRow_12 (by decide) (fun c1 => ?_) (fun c1 => ?_)
    · have hf := ifT hf c1
      clear c1
      refine lv_iconst (v := 0) hx hb dX2_holdsRow_19 (by decide) ?_
      exact W.zret (v := (0 : Int32)) hx hb hr rfl (fun t ht hW => ⟨(0 : Int32), rfl, Option.some.inj hf, ht⟩) (fun q h => nomatch h) dX2_holdsRow_20
    · have hf := ifF hf c1
      clear c1
      refine lv_iconst (v := 1) hx hb dX2_holdsRow_15 (by decide) ?_
      refine lv_goto (tgt := 20) hx hb dX2_holdsRow_16 (by decide) ?_
      exact W.zret (v := (1 : Int32)) hx hb hr rfl (fun t ht hW => ⟨(1 : Int32), rfl, Option.some.inj hf, ht⟩) (fun q h => nomatch h) dX2_holdsRow_20
def fX2_personNumber (v_t_content : Int32) : Option (Int32) :=
  some (v_t_content - (10 : Int32))
set_option maxHeartbeats 4000000 in
set_option maxRecDepth 100000 in
theorem mX2_personNumber (l : Launch) (D : va_G) (cy : Nat → ClassId) (q_t q_t_elements : Nat) (v_t_content : Int32) (v_t_size : Int32) (v_t_elements : Nat → Int64) {r_ : Int32} (hf : fX2_personNumber v_t_content = some r_) : Met l yX2_personNumber wsX2_personNumber ({ frames := 0, cells := 0, slots := 0, locals := 0 }) (va_Pc [.ref q_t] (fun U => va_P D vwCl [(q_t, oX2 v_t_content v_t_size q_t_elements), (q_t_elements, .inl (cy 1, 40, .inr (.inl v_t_elements)))] U.heap ∧ xK D cy U)) (vp_Si (fun x => x = r_)) 0 0 (fun _ => False) := by
  refine Met.ofW (cc := cX2_personNumber) (maxL := 1) (ret := (some .int)) (by decide) rfl ?_
  intro p e s m args below meth c s₁ B hml hv
  obtain ⟨rfl, hP, hK⟩ := hv
  have hx := B.exec
  have hb := B.bytes
  have hr := B.returns
  have hts := atoms_spec (ws := wsX2_personNumber) B.pre
  have hown : s.vm.findClass RX2 = some m.cls := findClass_of_methodNamed B.named
  have hlocks := B.notSynchronized
  have hP : va_P D vwCl [(q_t, oX2 v_t_content v_t_size q_t_elements), (q_t_elements, .inl (cy 1, 40, .inr (.inl v_t_elements)))] s.heap := hP
  have hinX2 : ∀ w ∈ u_ws RX2 TX2 3, w ∈ wsX2_personNumber := by decide +kernel
  have hk9 := hts (.fieldLink RX2 9 "ShowsWhereNobodyIs$Shelf" "content" "I") (by decide +kernel)
  have hl := lv_entry ([.ref q_t]) (n := 1) (Nat.le_of_ble_eq_true rfl)
  rw [lg_entry_eq]
  generalize (lg_sl ([.ref q_t]) ++ List.replicate (1 - (lg_sl ([.ref q_t])).length) Slot.unset).toArray = ls at hl ⊢
  have hl : lv_has ls 1 [(0, .ref q_t)] := hl
  unfold fX2_personNumber at hf
  refine lv_aload_n hx hb dX2_personNumber_0 rfl (lv_at hl 0 rfl) ?_
  refine va_get (D := D) (ci := 2) (v := .int v_t_content) (C := RX2) (T := TX2) (N := 3) hx hb hts hinX2 hown hK.1 hP 0 rfl rfl 0 (by decide) hk9 (fun _ h9 => h9) rfl dX2_personNumber_1 ?_
  refine lv_bipush (v := 10) hx hb dX2_personNumber_4 (by decide) ?_
  refine lv_isub hx hb dX2_personNumber_6 ?_
  exact W.iret (v := (v_t_content - (10 : Int32))) hx hb hr (fun t ht hW => ⟨(v_t_content - (10 : Int32)), rfl, Option.some.inj hf, ht⟩) (fun q h => nomatch h) dX2_personNumber_7
def fX2_hasElement (v_t_size : Int32) (p0 : Int32) : Option (Int32) :=
  if p0 < 0 then
    some (0 : Int32)
  else
    if v_t_size ≤ p0 then
      some (0 : Int32)
    else
      some (1 : Int32)
set_option maxHeartbeats 4000000 in
set_option maxRecDepth 100000 in
theorem mX2_hasElement (l : Launch) (D : va_G) (cy : Nat → ClassId) (q_t q_t_elements : Nat) (v_t_content : Int32) (v_t_size : Int32) (v_t_elements : Nat → Int64) (p0 : Int32) {r_ : Int32} (hf : fX2_hasElement v_t_size p0 = some r_) : Met l yX2_hasElement wsX2_hasElement ({ frames := 0, cells := 0, slots := 0, locals := 0 }) (va_Pc [.ref q_t, .int p0] (fun U => va_P D vwCl [(q_t, oX2 v_t_content v_t_size q_t_elements), (q_t_elements, .inl (cy 1, 40, .inr (.inl v_t_elements)))] U.heap ∧ xK D cy U)) (vp_Si (fun x => x = r_)) 0 0 (fun _ => False) := by
  refine Met.ofW (cc := cX2_hasElement) (maxL := 2) (ret := (some .boolean)) (by decide) rfl ?_
  intro p e s m args below meth c s₁ B hml hv
  obtain ⟨rfl, hP, hK⟩ := hv
  have hx := B.exec
  have hb := B.bytes
  have hr := B.returns
  have hts := atoms_spec (ws := wsX2_hasElement) B.pre
  have hown : s.vm.findClass RX2 = some m.cls := findClass_of_methodNamed B.named
  have hlocks := B.notSynchronized
  have hP : va_P D vwCl [(q_t, oX2 v_t_content v_t_size q_t_elements), (q_t_elements, .inl (cy 1, 40, .inr (.inl v_t_elements)))] s.heap := hP
  have hinX2 : ∀ w ∈ u_ws RX2 TX2 3, w ∈ wsX2_hasElement := by decide +kernel
  have hk19 := hts (.fieldLink RX2 19 "ShowsWhereNobodyIs$Shelf" "size" "I") (by decide +kernel)
  have hl := lv_entry ([.ref q_t, .int p0]) (n := 2) (Nat.le_of_ble_eq_true rfl)
  rw [lg_entry_eq]
  generalize (lg_sl ([.ref q_t, .int p0]) ++ List.replicate (2 - (lg_sl ([.ref q_t, .int p0])).length) Slot.unset).toArray = ls at hl ⊢
  have hl : lv_has ls 2 [(0, .ref q_t), (1, .int p0)] := hl
  unfold fX2_hasElement at hf
  refine lv_iload_n hx hb dX2_hasElement_0 rfl (lv_at hl 1 rfl) ?_
  refine lv_if_lt (tgt := 16) hx hb dX2_hasElement_1 (by decide) (fun c2 => ?_) (fun c2 => ?_)
  · have hf := ifT hf c2
    clear c2
    refine lv_iconst (v := 0) hx hb dX2_hasElement_16 (by decide) ?_
    exact W.zret (v := (0 : Int32)) hx hb hr rfl (fun t ht hW => ⟨(0 : Int32), rfl, Option.some.inj hf, ht⟩) (fun q h => nomatch h) dX2_hasElement_17
  · have hf := ifF hf c2
    clear c2
    refine lv_iload_n hx hb dX2_hasElement_4 rfl (lv_at hl 1 rfl) ?_
    refine lv_aload_n hx hb dX2_hasElement_5 rfl (lv_at hl 0 rfl) ?_
    refine va_get (D := D) (ci := 2) (v := .int v_t_size) (C := RX2) (T := TX2) (N := 3) hx hb hts hinX2 hown hK.1 hP 0 rfl rfl 1 (by decide) hk19 (fun _ h9 => h9) rfl dX2_hasElement_6 ?_
    refine lv_icmp_ge (tgt := 16) hx hb dX2_hasElement_9 (by decide) (fun c1 => ?_) (fun c1 => ?_)
    · have hf := ifT hf c1
      clear c1
      refine lv_iconst (v := 0) hx hb dX2_hasElement_16 (by decide) ?_
      exact W.zret (v := (0 : Int32)) hx hb hr rfl (fun t ht hW => ⟨(0 : Int32), rfl, Option.some.inj hf, ht⟩) (fun q h => nomatch h) dX2_hasElement_17
    · have hf := ifF hf c1
      clear c1
      refine lv_iconst (v := 1) hx hb dX2_hasElement_12 (by decide) ?_
      refine lv_goto (tgt := 17) hx hb dX2_hasElement_13 (by decide) ?_
      exact W.zret (v := (1 : Int32)) hx hb hr rfl (fun t ht hW => ⟨(1 : Int32), rfl, Option.some.inj hf, ht⟩) (fun q h => nomatch h) dX2_hasElement_17
def fX2_hasElements (v_t_size : Int32) (p0 : Int32) (p1 : Int32) : Option (Int32) :=
  if p0 < 0 then
    some (0 : Int32)
  else
    if p1 < 0 then
      some (0 : Int32)
    else
      if v_t_size < p1 then
        some (0 : Int32)
      else
        if (v_t_size - p1) < p0 then
          some (0 : Int32)
        else
          some (1 : Int32)
set_option maxHeartbeats 4000000 in
set_option maxRecDepth 100000 in
theorem mX2_hasElements (l : Launch) (D : va_G) (cy : Nat → ClassId) (q_t q_t_elements : Nat) (v_t_content : Int32) (v_t_size : Int32) (v_t_elements : Nat → Int64) (p0 : Int32) (p1 : Int32) {r_ : Int32} (hf : fX2_hasElements v_t_size p0 p1 = some r_) : Met l yX2_hasElements wsX2_hasElements ({ frames := 0, cells := 0, slots := 0, locals := 0 }) (va_Pc [.ref q_t, .int p0, .int p1] (fun U => va_P D vwCl [(q_t, oX2 v_t_content v_t_size q_t_elements), (q_t_elements, .inl (cy 1, 40, .inr (.inl v_t_elements)))] U.heap ∧ xK D cy U)) (vp_Si (fun x => x = r_)) 0 0 (fun _ => False) := by
  refine Met.ofW (cc := cX2_hasElements) (maxL := 3) (ret := (some .boolean)) (by decide) rfl ?_
  intro p e s m args below meth c s₁ B hml hv
  obtain ⟨rfl, hP, hK⟩ := hv
  have hx := B.exec
  have hb := B.bytes
  have hr := B.returns
  have hts := atoms_spec (ws := wsX2_hasElements) B.pre
  have hown : s.vm.findClass RX2 = some m.cls := findClass_of_methodNamed B.named
  have hlocks := B.notSynchronized
  have hP : va_P D vwCl [(q_t, oX2 v_t_content v_t_size q_t_elements), (q_t_elements, .inl (cy 1, 40, .inr (.inl v_t_elements)))] s.heap := hP
  have hinX2 : ∀ w ∈ u_ws RX2 TX2 3, w ∈ wsX2_hasElements := by decide +kernel
  have hk19 := hts (.fieldLink RX2 19 "ShowsWhereNobodyIs$Shelf" "size" "I") (by decide +kernel)
  have hl := lv_entry ([.ref q_t, .int p0, .int p1]) (n := 3) (Nat.le_of_ble_eq_true rfl)
  rw [lg_entry_eq]
  generalize (lg_sl ([.ref q_t, .int p0, .int p1]) ++ List.replicate (3 - (lg_sl ([.ref q_t, .int p0, .int p1])).length) Slot.unset).toArray = ls at hl ⊢
  have hl : lv_has ls 3 [(0, .ref q_t), (1, .int p0), (2, .int p1)] := hl
  unfold fX2_hasElements at hf
  refine lv_iload_n hx hb dX2_hasElements_0 rfl (lv_at hl 1 rfl) ?_
  refine lv_if_lt (tgt := 30) hx hb dX2_hasElements_1 (by decide) (fun c4 => ?_) (fun c4 => ?_)
  · have hf := ifT hf c4
    clear c4
    refine lv_iconst (v := 0) hx hb dX2_hasElements_30 (by decide) ?_
    exact W.zret (v := (0 : Int32)) hx hb hr rfl (fun t ht hW => ⟨(0 : Int32), rfl, Option.some.inj hf, ht⟩) (fun q h => nomatch h) dX2_hasElements_31
  · have hf := ifF hf c4
    clear c4
    refine lv_iload_n hx hb dX2_hasElements_4 rfl (lv_at hl 2 rfl) ?_
    refine lv_if_lt (tgt := 30) hx hb dX2_hasElements_5 (by decide) (fun c3 => ?_) (fun c3 => ?_)
    · have hf := ifT hf c3
      clear c3
      refine lv_iconst (v := 0) hx hb dX2_hasElements_30 (by decide) ?_
      exact W.zret (v := (0 : Int32)) hx hb hr rfl (fun t ht hW => ⟨(0 : Int32), rfl, Option.some.inj hf, ht⟩) (fun q h => nomatch h) dX2_hasElements_31
    · have hf := ifF hf c3
      clear c3
      refine lv_iload_n hx hb dX2_hasElements_8 rfl (lv_at hl 2 rfl) ?_
      refine lv_aload_n hx hb dX2_hasElements_9 rfl (lv_at hl 0 rfl) ?_
      refine va_get (D := D) (ci := 2) (v := .int v_t_size) (C := RX2) (T := TX2) (N := 3) hx hb hts hinX2 hown hK.1 hP 0 rfl rfl 1 (by decide) hk19 (fun _ h9 => h9) rfl dX2_hasElements_10 ?_
      refine lv_icmp_gt (tgt := 30) hx hb dX2_hasElements_13 (by decide) (fun c2 => ?_) (fun c2 => ?_)
      · have hf := ifT hf c2
        clear c2
        refine lv_iconst (v := 0) hx hb dX2_hasElements_30 (by decide) ?_
        exact W.zret (v := (0 : Int32)) hx hb hr rfl (fun t ht hW => ⟨(0 : Int32), rfl, Option.some.inj hf, ht⟩) (fun q h => nomatch h) dX2_hasElements_31
      · have hf := ifF hf c2
        clear c2
        refine lv_iload_n hx hb dX2_hasElements_16 rfl (lv_at hl 1 rfl) ?_
        refine lv_aload_n hx hb dX2_hasElements_17 rfl (lv_at hl 0 rfl) ?_
        refine va_get (D := D) (ci := 2) (v := .int v_t_size) (C := RX2) (T := TX2) (N := 3) hx hb hts hinX2 hown hK.1 hP 0 rfl rfl 1 (by decide) hk19 (fun _ h9 => h9) rfl dX2_hasElements_18 ?_
        refine lv_iload_n hx hb dX2_hasElements_21 rfl (lv_at hl 2 rfl) ?_
        refine lv_isub hx hb dX2_hasElements_22 ?_
        refine lv_icmp_gt (tgt := 30) hx hb dX2_hasElements_23 (by decide) (fun c1 => ?_) (fun c1 => ?_)
        · have hf := ifT hf c1
          clear c1
          refine lv_iconst (v := 0) hx hb dX2_hasElements_30 (by decide) ?_
          exact W.zret (v := (0 : Int32)) hx hb hr rfl (fun t ht hW => ⟨(0 : Int32), rfl, Option.some.inj hf, ht⟩) (fun q h => nomatch h) dX2_hasElements_31
        · have hf := ifF hf c1
          clear c1
          refine lv_iconst (v := 1) hx hb dX2_hasElements_26 (by decide) ?_
          refine lv_goto (tgt := 31) hx hb dX2_hasElements_27 (by decide) ?_
          exact W.zret (v := (1 : Int32)) hx hb hr rfl (fun t ht hW => ⟨(1 : Int32), rfl, Option.some.inj hf, ht⟩) (fun q h => nomatch h) dX2_hasElements_31
def fX2_store (v_t_content : Int32) (v_t_elements : Nat → Int64) (p0 : Int32) (p1 : Int64) : Option ((Nat → Int64)) :=
  jo0 (
    if p0 < 0 ∨ 40 ≤ p0.toNatClampNeg then none else
    some (vp_updL v_t_elements p0.toNatClampNeg p1)) fun k1 =>
  if v_t_content = (0 : Int32) then
    if p0 < 0 ∨ 40 ≤ p0.toNatClampNeg then none else
    some (vp_updL v_t_elements p0.toNatClampNeg p1.toInt32.toInt8.toInt32.toInt64)
  else
    if v_t_content = (1 : Int32) then
      if p0 < 0 ∨ 40 ≤ p0.toNatClampNeg then none else
      some (vp_updL v_t_elements p0.toNatClampNeg p1.toInt32.toInt16.toInt32.toInt64)
    else
      if v_t_content = (2 : Int32) then
        if p0 < 0 ∨ 40 ≤ p0.toNatClampNeg then none else
        some (vp_updL v_t_elements p0.toNatClampNeg p1.toInt32.toInt64)
      else
        if v_t_content = (3 : Int32) then
          k1
        else
          if v_t_content = (4 : Int32) then
            jo1 (fun (y8 : Int64) =>
              if p0 < 0 ∨ 40 ≤ p0.toNatClampNeg then none else
              some (vp_updL v_t_elements p0.toNatClampNeg y8)) fun k9 =>
            if (lg_cmp p1 (0 : Int64)) = 0 then
              k9 (0 : Int64)
            else
              k9 (1 : Int64)
          else
            k1
set_option maxHeartbeats 4000000 in
set_option maxRecDepth 100000 in
theorem mX2_store (l : Launch) (D : va_G) (cy : Nat → ClassId) (q_t q_t_elements : Nat) (v_t_content : Int32) (v_t_size : Int32) (v_t_elements : Nat → Int64) (sz : Nat) (p0 : Int32) (p1 : Int64) {n_t_elements : Nat → Int64} (hf : fX2_store v_t_content v_t_elements p0 p1 = some n_t_elements) : Met l yX2_store wsX2_store ({ frames := 0, cells := 0, slots := 0, locals := 0 }) (va_Pc [.ref q_t, .int p0, .long p1] (fun U => U.heap.size = sz ∧ va_P D vwCl [(q_t, oX2 v_t_content v_t_size q_t_elements), (q_t_elements, .inl (cy 1, 40, .inr (.inl v_t_elements)))] U.heap ∧ xK D cy U ∧ va_D (fun _ => True) [(q_t, oX2 v_t_content v_t_size q_t_elements), (q_t_elements, .inl (cy 1, 40, .inr (.inl v_t_elements)))])) (va_Qv (fun (_ : Unit) => True) (fun _ t => va_P D vwCl [(q_t, oX2 v_t_content v_t_size q_t_elements), (q_t_elements, .inl (cy 1, 40, .inr (.inl n_t_elements)))] t.heap) (va_A [(q_t, oX2 v_t_content v_t_size q_t_elements), (q_t_elements, .inl (cy 1, 40, .inr (.inl v_t_elements)))] sz)) 0 0 (va_A [(q_t, oX2 v_t_content v_t_size q_t_elements), (q_t_elements, .inl (cy 1, 40, .inr (.inl v_t_elements)))] sz) := by
  refine Met.ofW (cc := cX2_store) (maxL := 4) (ret := none) (by decide) rfl ?_
  intro p e s m args below meth c s₁ B hml hv
  obtain ⟨rfl, hsz, hP, hK, hD0⟩ := hv
  have hx := B.exec
  have hb := B.bytes
  have hr := B.returns
  have hts := atoms_spec (ws := wsX2_store) B.pre
  have hown : s.vm.findClass RX2 = some m.cls := findClass_of_methodNamed B.named
  have hlocks := B.notSynchronized
  subst hsz
  have hD := hD0.self (sz := s.heap.size)
  generalize hAe : va_A [(q_t, oX2 v_t_content v_t_size q_t_elements), (q_t_elements, .inl (cy 1, 40, .inr (.inl v_t_elements)))] s.heap.size = A at hD ⊢
  have hA : ∀ q : Nat, s.heap.size ≤ q → A q := fun q h => by rw [← hAe]; exact Or.inr h
  have hS : va_S A s.heap s.heap [] := va_S.rf
  have hP : va_P D vwCl [(q_t, oX2 v_t_content v_t_size q_t_elements), (q_t_elements, .inl (cy 1, 40, .inr (.inl v_t_elements)))] s.heap := hP
  have hinX2 : ∀ w ∈ u_ws RX2 TX2 3, w ∈ wsX2_store := by decide +kernel
  have hk9 := hts (.fieldLink RX2 9 "ShowsWhereNobodyIs$Shelf" "content" "I") (by decide +kernel)
  have hk15 := hts (.fieldLink RX2 15 "ShowsWhereNobodyIs$Shelf" "elements" "[J") (by decide +kernel)
  have hl := lv_entry ([.ref q_t, .int p0, .long p1]) (n := 4) (Nat.le_of_ble_eq_true rfl)
  rw [lg_entry_eq]
  generalize (lg_sl ([.ref q_t, .int p0, .long p1]) ++ List.replicate (4 - (lg_sl ([.ref q_t, .int p0, .long p1])).length) Slot.unset).toArray = ls at hl ⊢
  have hl : lv_has ls 4 [(0, .ref q_t), (1, .int p0), (2, .long p1)] := hl
  unfold fX2_store at hf
  refine lv_aload_n hx hb dX2_store_0 rfl (lv_at hl 0 rfl) ?_
  refine va_get (D := D) (ci := 2) (v := .int v_t_content) (C := RX2) (T := TX2) (N := 3) hx hb hts hinX2 hown hK.1 hP 0 rfl rfl 0 (by decide) hk9 (fun _ h9 => h9) rfl dX2_store_1 ?_
  refine jww0 98 [] (fun  H locs ls => va_P D vwCl [(q_t, oX2 v_t_content v_t_size q_t_elements), (q_t_elements, .inl (cy 1, 40, .inr (.inl v_t_elements)))] H ∧ va_D A [(q_t, oX2 v_t_content v_t_size q_t_elements), (q_t_elements, .inl (cy 1, 40, .inr (.inl v_t_elements)))] ∧ va_S A s.heap H locs ∧ lv_has ls 4 [(0, .ref q_t), (1, .int p0), (2, .long p1)]) hf (fun  H locs ls hI hf => ?_) (fun k1 J98 hf => ?_)
  · obtain ⟨hP, hD, hS, hl⟩ := hI
    refine lv_aload_n hx hb dX2_store_98 rfl (lv_at hl 0 rfl) ?_
    refine va_get (D := D) (ci := 2) (v := .ref q_t_elements) (C := RX2) (T := TX2) (N := 3) hx hb hts hinX2 hown hK.1 hP 0 rfl rfl 2 (by decide) hk15 (fun _ h9 => h9) rfl dX2_store_99 ?_
    refine lv_iload_n hx hb dX2_store_102 rfl (lv_at hl 1 rfl) ?_
    refine lv_lload_n hx hb dX2_store_103 rfl (lv_at hl 2 rfl) ?_
    obtain ⟨hi2, hf⟩ := ckE hf
    refine va_last hx hb hK.1 hP hD hS 1 1 rfl rfl hi2 dX2_store_104 (fun H locs hP hD hS => ?_)
    have hP : va_P D vwCl [(q_t, oX2 v_t_content v_t_size q_t_elements), (q_t_elements, .inl (cy 1, 40, .inr (.inl (vp_updL v_t_elements p0.toNatClampNeg p1))))] H := hP
    have hD : va_D A [(q_t, oX2 v_t_content v_t_size q_t_elements), (q_t_elements, .inl (cy 1, 40, .inr (.inl (vp_updL v_t_elements p0.toNatClampNeg p1))))] := hD
    cases hf
    exact W.vret hx hb hr (fun t ht hW => ⟨⟨(), rfl, trivial, xend ht hP⟩, hS.F ht⟩) hS.2.2 dX2_store_105
  · by_cases c3 : v_t_content = (0 : Int32)
    · have hf := ifT hf c3
      refine lv_tableIn (tgt := 40) hx hb dX2_store_4 (by rw [c3]; decide) (by rw [c3]; decide) (by rw [c3]; rfl) (by decide) ?_
      refine lv_aload_n hx hb dX2_store_40 rfl (lv_at hl 0 rfl) ?_
      refine va_get (D := D) (ci := 2) (v := .ref q_t_elements) (C := RX2) (T := TX2) (N := 3) hx hb hts hinX2 hown hK.1 hP 0 rfl rfl 2 (by decide) hk15 (fun _ h9 => h9) rfl dX2_store_41 ?_
      refine lv_iload_n hx hb dX2_store_44 rfl (lv_at hl 1 rfl) ?_
      refine lv_lload_n hx hb dX2_store_45 rfl (lv_at hl 2 rfl) ?_
      refine lv_l2i hx hb dX2_store_46 rfl ?_
      refine lv_i2b hx hb dX2_store_47 rfl ?_
      refine lv_i2l hx hb dX2_store_48 rfl ?_
      obtain ⟨hi14, hf⟩ := ckE hf
      refine va_last hx hb hK.1 hP hD hS 1 1 rfl rfl hi14 dX2_store_49 (fun H locs hP hD hS => ?_)
      have hP : va_P D vwCl [(q_t, oX2 v_t_content v_t_size q_t_elements), (q_t_elements, .inl (cy 1, 40, .inr (.inl (vp_updL v_t_elements p0.toNatClampNeg p1.toInt32.toInt8.toInt32.toInt64))))] H := hP
      have hD : va_D A [(q_t, oX2 v_t_content v_t_size q_t_elements), (q_t_elements, .inl (cy 1, 40, .inr (.inl (vp_updL v_t_elements p0.toNatClampNeg p1.toInt32.toInt8.toInt32.toInt64))))] := hD
      refine lv_goto (tgt := 105) hx hb dX2_store_50 (by decide) ?_
      cases hf
      exact W.vret hx hb hr (fun t ht hW => ⟨⟨(), rfl, trivial, xend ht hP⟩, hS.F ht⟩) hS.2.2 dX2_store_105
    · have hf := ifF hf c3
      by_cases c4 : v_t_content = (1 : Int32)
      · have hf := ifT hf c4
        refine lv_tableIn (tgt := 53) hx hb dX2_store_4 (by rw [c4]; decide) (by rw [c4]; decide) (by rw [c4]; rfl) (by decide) ?_
        refine lv_aload_n hx hb dX2_store_53 rfl (lv_at hl 0 rfl) ?_
        refine va_get (D := D) (ci := 2) (v := .ref q_t_elements) (C := RX2) (T := TX2) (N := 3) hx hb hts hinX2 hown hK.1 hP 0 rfl rfl 2 (by decide) hk15 (fun _ h9 => h9) rfl dX2_store_54 ?_
        refine lv_iload_n hx hb dX2_store_57 rfl (lv_at hl 1 rfl) ?_
        refine lv_lload_n hx hb dX2_store_58 rfl (lv_at hl 2 rfl) ?_
        refine lv_l2i hx hb dX2_store_59 rfl ?_
        refine lv_i2s hx hb dX2_store_60 rfl ?_
        refine lv_i2l hx hb dX2_store_61 rfl ?_
        obtain ⟨hi13, hf⟩ := ckE hf
        refine va_last hx hb hK.1 hP hD hS 1 1 rfl rfl hi13 dX2_store_62 (fun H locs hP hD hS => ?_)
        have hP : va_P D vwCl [(q_t, oX2 v_t_content v_t_size q_t_elements), (q_t_elements, .inl (cy 1, 40, .inr (.inl (vp_updL v_t_elements p0.toNatClampNeg p1.toInt32.toInt16.toInt32.toInt64))))] H := hP
        have hD : va_D A [(q_t, oX2 v_t_content v_t_size q_t_elements), (q_t_elements, .inl (cy 1, 40, .inr (.inl (vp_updL v_t_elements p0.toNatClampNeg p1.toInt32.toInt16.toInt32.toInt64))))] := hD
        refine lv_goto (tgt := 105) hx hb dX2_store_63 (by decide) ?_
        cases hf
        exact W.vret hx hb hr (fun t ht hW => ⟨⟨(), rfl, trivial, xend ht hP⟩, hS.F ht⟩) hS.2.2 dX2_store_105
      · have hf := ifF hf c4
        by_cases c5 : v_t_content = (2 : Int32)
        · have hf := ifT hf c5
          refine lv_tableIn (tgt := 66) hx hb dX2_store_4 (by rw [c5]; decide) (by rw [c5]; decide) (by rw [c5]; rfl) (by decide) ?_
          refine lv_aload_n hx hb dX2_store_66 rfl (lv_at hl 0 rfl) ?_
          refine va_get (D := D) (ci := 2) (v := .ref q_t_elements) (C := RX2) (T := TX2) (N := 3) hx hb hts hinX2 hown hK.1 hP 0 rfl rfl 2 (by decide) hk15 (fun _ h9 => h9) rfl dX2_store_67 ?_
          refine lv_iload_n hx hb dX2_store_70 rfl (lv_at hl 1 rfl) ?_
          refine lv_lload_n hx hb dX2_store_71 rfl (lv_at hl 2 rfl) ?_
          refine lv_l2i hx hb dX2_store_72 rfl ?_
          refine lv_i2l hx hb dX2_store_73 rfl ?_
          obtain ⟨hi12, hf⟩ := ckE hf
          refine va_last hx hb hK.1 hP hD hS 1 1 rfl rfl hi12 dX2_store_74 (fun H locs hP hD hS => ?_)
          have hP : va_P D vwCl [(q_t, oX2 v_t_content v_t_size q_t_elements), (q_t_elements, .inl (cy 1, 40, .inr (.inl (vp_updL v_t_elements p0.toNatClampNeg p1.toInt32.toInt64))))] H := hP
          have hD : va_D A [(q_t, oX2 v_t_content v_t_size q_t_elements), (q_t_elements, .inl (cy 1, 40, .inr (.inl (vp_updL v_t_elements p0.toNatClampNeg p1.toInt32.toInt64))))] := hD
          refine lv_goto (tgt := 105) hx hb dX2_store_75 (by decide) ?_
          cases hf
          exact W.vret hx hb hr (fun t ht hW => ⟨⟨(), rfl, trivial, xend ht hP⟩, hS.F ht⟩) hS.2.2 dX2_store_105
        · have hf := ifF hf c5
          by_cases c6 : v_t_content = (3 : Int32)
          · have hf := ifT hf c6
            refine lv_tableIn (tgt := 98) hx hb dX2_store_4 (by rw [c6]; decide) (by rw [c6]; decide) (by rw [c6]; rfl) (by decide) ?_
            exact J98 _ _ ls ⟨hP, hD, hS, lv_sub hl [0, 1, 2] rfl⟩ hf
          · have hf := ifF hf c6
            by_cases c7 : v_t_content = (4 : Int32)
            · have hf := ifT hf c7
              refine lv_tableIn (tgt := 78) hx hb dX2_store_4 (by rw [c7]; decide) (by rw [c7]; decide) (by rw [c7]; rfl) (by decide) ?_
              refine lv_aload_n hx hb dX2_store_78 rfl (lv_at hl 0 rfl) ?_
              refine va_get (D := D) (ci := 2) (v := .ref q_t_elements) (C := RX2) (T := TX2) (N := 3) hx hb hts hinX2 hown hK.1 hP 0 rfl rfl 2 (by decide) hk15 (fun _ h9 => h9) rfl dX2_store_79 ?_
              refine lv_iload_n hx hb dX2_store_82 rfl (lv_at hl 1 rfl) ?_
              refine lv_lload_n hx hb dX2_store_83 rfl (lv_at hl 2 rfl) ?_
              refine lv_lconst (v := 0) hx hb dX2_store_84 (by decide) ?_
              refine W.lcmp hx hb dX2_store_85 ?_
              refine jww1 94 (fun (y8 : Int64) => [.long y8, .int p0, .ref q_t_elements]) (fun (y8 : Int64) H locs ls => va_P D vwCl [(q_t, oX2 v_t_content v_t_size q_t_elements), (q_t_elements, .inl (cy 1, 40, .inr (.inl v_t_elements)))] H ∧ va_D A [(q_t, oX2 v_t_content v_t_size q_t_elements), (q_t_elements, .inl (cy 1, 40, .inr (.inl v_t_elements)))] ∧ va_S A s.heap H locs ∧ lv_has ls 4 []) hf (fun y8 H locs ls hI hf => ?_) (fun k9 J94 hf => ?_)
              · obtain ⟨hP, hD, hS, hl⟩ := hI
                obtain ⟨hi10, hf⟩ := ckE hf
                refine va_last hx hb hK.1 hP hD hS 1 1 rfl rfl hi10 dX2_store_94 (fun H locs hP hD hS => ?_)
                have hP : va_P D vwCl [(q_t, oX2 v_t_content v_t_size q_t_elements), (q_t_elements, .inl (cy 1, 40, .inr (.inl (vp_updL v_t_elements p0.toNatClampNeg y8))))] H := hP
                have hD : va_D A [(q_t, oX2 v_t_content v_t_size q_t_elements), (q_t_elements, .inl (cy 1, 40, .inr (.inl (vp_updL v_t_elements p0.toNatClampNeg y8))))] := hD
                refine lv_goto (tgt := 105) hx hb dX2_store_95 (by decide) ?_
                cases hf
                exact W.vret hx hb hr (fun t ht hW => ⟨⟨(), rfl, trivial, xend ht hP⟩, hS.F ht⟩) hS.2.2 dX2_store_105
              · refine lv_if_eq (tgt := 93) hx hb dX2_store_86 (by decide) (fun c11 => ?_) (fun c11 => ?_)
                · have hf := ifT hf c11
                  clear c11
                  refine lv_lconst (v := 0) hx hb dX2_store_93 (by decide) ?_
                  exact J94 (0 : Int64) _ _ ls ⟨hP, hD, hS, lv_sub hl [] rfl⟩ hf
                · have hf := ifF hf c11
                  clear c11
                  refine lv_lconst (v := 1) hx hb dX2_store_89 (by decide) ?_
                  refine lv_goto (tgt := 94) hx hb dX2_store_90 (by decide) ?_
                  exact J94 (1 : Int64) _ _ ls ⟨hP, hD, hS, lv_sub hl [] rfl⟩ hf
            · have hf := ifF hf c7
              refine lv_tableOut (tgt := 98) hx hb dX2_store_4 (by have n0 := lv_neT c3 (a := 0) (by decide); have n1 := lv_neT c4 (a := 1) (by decide); have n2 := lv_neT c5 (a := 2) (by decide); have n3 := lv_neT c6 (a := 3) (by decide); have n4 := lv_neT c7 (a := 4) (by decide); omega) (by decide) ?_
              exact J98 _ _ ls ⟨hP, hD, hS, lv_sub hl [0, 1, 2] rfl⟩ hf
