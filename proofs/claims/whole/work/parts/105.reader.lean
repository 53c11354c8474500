def fX6_letterAt (v_t_tape_size : Int32) (v_t_tape_bytes : Nat → Int32) (p0 : Int32) : Option (Int32) :=
  if p0 < 0 then
    some (-1 : Int32)
  else
    if v_t_tape_size ≤ p0 then
      some (-1 : Int32)
    else
      if p0 < 0 ∨ 250 ≤ p0.toNatClampNeg then none else
      some (v_t_tape_bytes p0.toNatClampNeg)
set_option maxHeartbeats 4000000 in
set_option maxRecDepth 100000 in
theorem mX6_letterAt (l : Launch) (D : va_G) (cy : Nat → ClassId) (q_t q_t_tape q_t_tape_bytes : Nat) (v_t_fault : Int32) (v_t_position : Int32) (v_t_token : Int32) (v_t_start : Int32) (v_t_value : Int32) (v_t_tape_size : Int32) (v_t_tape_bytes : Nat → Int32) (p0 : Int32) {r_ : Int32} (hf : fX6_letterAt v_t_tape_size v_t_tape_bytes p0 = some r_) : Met l yX6_letterAt wsX6_letterAt ({ frames := 0, cells := 0, slots := 0, locals := 0 }) (va_Pc [.ref q_t, .int p0] (fun U => va_P D vwCl [(q_t, oX6 q_t_tape v_t_fault v_t_position v_t_token v_t_start v_t_value), (q_t_tape, oX4 q_t_tape_bytes v_t_tape_size), (q_t_tape_bytes, .inl (cy 0, 250, .inl v_t_tape_bytes))] U.heap ∧ xK D cy U)) (vp_Si (fun x => x = r_)) 0 0 (fun _ => False) := by
  refine Met.ofW (cc := cX6_letterAt) (maxL := 2) (ret := (some .int)) (by decide) rfl ?_
  intro p e s m args below meth c s₁ B hml hv
  obtain ⟨rfl, hP, hK⟩ := hv
  have hx := B.exec
  have hb := B.bytes
  have hr := B.returns
  have hts := atoms_spec (ws := wsX6_letterAt) B.pre
  have hown : s.vm.findClass RX6 = some m.cls := findClass_of_methodNamed B.named
  have hlocks := B.notSynchronized
  have hP : va_P D vwCl [(q_t, oX6 q_t_tape v_t_fault v_t_position v_t_token v_t_start v_t_value), (q_t_tape, oX4 q_t_tape_bytes v_t_tape_size), (q_t_tape_bytes, .inl (cy 0, 250, .inl v_t_tape_bytes))] s.heap := hP
  have hinX6 : ∀ w ∈ u_ws RX6 TX6 6, w ∈ wsX6_letterAt := by decide +kernel
  have hk12 := hts (.fieldLink RX6 12 "ShowsWhereNobodyIs$TownReader" "tape" "LShowsWhereNobodyIs$Tape;") (by decide +kernel)
  have hinX4 : ∀ w ∈ u_ws RX4 TX4 2, w ∈ wsX6_letterAt := by decide +kernel
  have hk124 := hts (.fieldLink RX6 124 "ShowsWhereNobodyIs$Tape" "size" "I") (by decide +kernel)
  have hk137 := hts (.fieldLink RX6 137 "ShowsWhereNobodyIs$Tape" "bytes" "[I") (by decide +kernel)
  have hl := lv_entry ([.ref q_t, .int p0]) (n := 2) (Nat.le_of_ble_eq_true rfl)
  rw [lg_entry_eq]
  generalize (lg_sl ([.ref q_t, .int p0]) ++ List.replicate (2 - (lg_sl ([.ref q_t, .int p0])).length) Slot.unset).toArray = ls at hl ⊢
  have hl : lv_has ls 2 [(0, .ref q_t), (1, .int p0)] := hl
  unfold fX6_letterAt at hf
  refine lv_iload_n hx hb dX6_letterAt_0 rfl (lv_at hl 1 rfl) ?_
  refine lv_if_lt (tgt := 27) hx hb dX6_letterAt_1 (by decide) (fun c3 => ?_) (fun c3 => ?_)
  · have hf := ifT hf c3
    clear c3
    refine lv_iconst (v := (-1)) hx hb dX6_letterAt_27 (by decide) ?_
    exact W.iret (v := (-1 : Int32)) hx hb hr (fun t ht hW => ⟨(-1 : Int32), rfl, Option.some.inj hf, ht⟩) (fun q h => nomatch h) dX6_letterAt_28
  · have hf := ifF hf c3
    clear c3
    refine lv_iload_n hx hb dX6_letterAt_4 rfl (lv_at hl 1 rfl) ?_
    refine lv_aload_n hx hb dX6_letterAt_5 rfl (lv_at hl 0 rfl) ?_
    refine va_get (D := D) (ci := 6) (v := .ref q_t_tape) (C := RX6) (T := TX6) (N := 6) hx hb hts hinX6 hown hK.1 hP 0 rfl rfl 0 (by decide) hk12 (fun _ h9 => h9) rfl dX6_letterAt_6 ?_
    refine va_get (D := D) (ci := 4) (v := .int v_t_tape_size) (C := RX4) (T := TX4) (N := 2) hx hb hts hinX4 hown hK.1 hP 1 rfl rfl 1 (by decide) hk124 (fun _ h9 => h9) rfl dX6_letterAt_9 ?_
    refine lv_icmp_ge (tgt := 27) hx hb dX6_letterAt_12 (by decide) (fun c2 => ?_) (fun c2 => ?_)
    · have hf := ifT hf c2
      clear c2
      refine lv_iconst (v := (-1)) hx hb dX6_letterAt_27 (by decide) ?_
      exact W.iret (v := (-1 : Int32)) hx hb hr (fun t ht hW => ⟨(-1 : Int32), rfl, Option.some.inj hf, ht⟩) (fun q h => nomatch h) dX6_letterAt_28
    · have hf := ifF hf c2
      clear c2
      refine lv_aload_n hx hb dX6_letterAt_15 rfl (lv_at hl 0 rfl) ?_
      refine va_get (D := D) (ci := 6) (v := .ref q_t_tape) (C := RX6) (T := TX6) (N := 6) hx hb hts hinX6 hown hK.1 hP 0 rfl rfl 0 (by decide) hk12 (fun _ h9 => h9) rfl dX6_letterAt_16 ?_
      refine va_get (D := D) (ci := 4) (v := .ref q_t_tape_bytes) (C := RX4) (T := TX4) (N := 2) hx hb hts hinX4 hown hK.1 hP 1 rfl rfl 0 (by decide) hk137 (fun _ h9 => h9) rfl dX6_letterAt_19 ?_
      refine lv_iload_n hx hb dX6_letterAt_22 rfl (lv_at hl 1 rfl) ?_
      obtain ⟨hi1, hf⟩ := ckE hf
      refine va_iald hx hb hK.1 hP 2 0 rfl rfl hi1 dX6_letterAt_23 ?_
      refine lv_goto (tgt := 28) hx hb dX6_letterAt_24 (by decide) ?_
      exact W.iret (v := (v_t_tape_bytes p0.toNatClampNeg)) hx hb hr (fun t ht hW => ⟨(v_t_tape_bytes p0.toNatClampNeg), rfl, Option.some.inj hf, ht⟩) (fun q h => nomatch h) dX6_letterAt_28
def fX6_skipBlanks (v_t_position : Int32) (v_t_tape_size : Int32) (v_t_tape_bytes : Nat → Int32) : Option (Int32) :=
  lo1 (fun g2 (u1 : Int32) =>
    if v_t_tape_size ≤ u1 then
      some u1
    else
      bo1 (fX6_letterAt v_t_tape_size v_t_tape_bytes u1) fun r3 =>
      if r3 = (32 : Int32) then
        g2 (u1 + (1 : Int32))
      else
        some u1) 400 v_t_position
set_option maxHeartbeats 4000000 in
set_option maxRecDepth 100000 in
theorem mX6_skipBlanks (l : Launch) (D : va_G) (cy : Nat → ClassId) (q_t q_t_tape q_t_tape_bytes : Nat) (v_t_fault : Int32) (v_t_position : Int32) (v_t_token : Int32) (v_t_start : Int32) (v_t_value : Int32) (v_t_tape_size : Int32) (v_t_tape_bytes : Nat → Int32) (sz : Nat) {n_t_position : Int32} (hf : fX6_skipBlanks v_t_position v_t_tape_size v_t_tape_bytes = some n_t_position) : Met l yX6_skipBlanks wsX6_skipBlanks ({ frames := 1, cells := 0, slots := 0, locals := 21 }) (va_Pc [.ref q_t] (fun U => U.heap.size = sz ∧ va_P D vwCl [(q_t, oX6 q_t_tape v_t_fault v_t_position v_t_token v_t_start v_t_value), (q_t_tape, oX4 q_t_tape_bytes v_t_tape_size), (q_t_tape_bytes, .inl (cy 0, 250, .inl v_t_tape_bytes))] U.heap ∧ xK D cy U ∧ va_D (fun _ => True) [(q_t, oX6 q_t_tape v_t_fault v_t_position v_t_token v_t_start v_t_value), (q_t_tape, oX4 q_t_tape_bytes v_t_tape_size), (q_t_tape_bytes, .inl (cy 0, 250, .inl v_t_tape_bytes))])) (va_Qv (fun (_ : Unit) => True) (fun _ t => va_P D vwCl [(q_t, oX6 q_t_tape v_t_fault n_t_position v_t_token v_t_start v_t_value), (q_t_tape, oX4 q_t_tape_bytes v_t_tape_size), (q_t_tape_bytes, .inl (cy 0, 250, .inl v_t_tape_bytes))] t.heap) (va_A [(q_t, oX6 q_t_tape v_t_fault v_t_position v_t_token v_t_start v_t_value), (q_t_tape, oX4 q_t_tape_bytes v_t_tape_size), (q_t_tape_bytes, .inl (cy 0, 250, .inl v_t_tape_bytes))] sz)) 0 0 (va_A [(q_t, oX6 q_t_tape v_t_fault v_t_position v_t_token v_t_start v_t_value), (q_t_tape, oX4 q_t_tape_bytes v_t_tape_size), (q_t_tape_bytes, .inl (cy 0, 250, .inl v_t_tape_bytes))] sz) := by
  refine Met.ofW (cc := cX6_skipBlanks) (maxL := 1) (ret := none) (by decide) rfl ?_
  intro p e s m args below meth c s₁ B hml hv
  obtain ⟨rfl, hsz, hP, hK, hD0⟩ := hv
  have hx := B.exec
  have hb := B.bytes
  have hr := B.returns
  have hts := atoms_spec (ws := wsX6_skipBlanks) B.pre
  have hown : s.vm.findClass RX6 = some m.cls := findClass_of_methodNamed B.named
  have hlocks := B.notSynchronized
  subst hsz
  have hD := hD0.self (sz := s.heap.size)
  generalize hAe : va_A [(q_t, oX6 q_t_tape v_t_fault v_t_position v_t_token v_t_start v_t_value), (q_t_tape, oX4 q_t_tape_bytes v_t_tape_size), (q_t_tape_bytes, .inl (cy 0, 250, .inl v_t_tape_bytes))] s.heap.size = A at hD ⊢
  have hA : ∀ q : Nat, s.heap.size ≤ q → A q := fun q h => by rw [← hAe]; exact Or.inr h
  have hS : va_S A s.heap s.heap [] := va_S.rf
  have hP : va_P D vwCl [(q_t, oX6 q_t_tape v_t_fault v_t_position v_t_token v_t_start v_t_value), (q_t_tape, oX4 q_t_tape_bytes v_t_tape_size), (q_t_tape_bytes, .inl (cy 0, 250, .inl v_t_tape_bytes))] s.heap := hP
  have hinX6 : ∀ w ∈ u_ws RX6 TX6 6, w ∈ wsX6_skipBlanks := by decide +kernel
  have hk22 := hts (.fieldLink RX6 22 "ShowsWhereNobodyIs$TownReader" "position" "I") (by decide +kernel)
  have hk12 := hts (.fieldLink RX6 12 "ShowsWhereNobodyIs$TownReader" "tape" "LShowsWhereNobodyIs$Tape;") (by decide +kernel)
  have hinX4 : ∀ w ∈ u_ws RX4 TX4 2, w ∈ wsX6_skipBlanks := by decide +kernel
  have hk124 := hts (.fieldLink RX6 124 "ShowsWhereNobodyIs$Tape" "size" "I") (by decide +kernel)
  have hl := lv_entry ([.ref q_t]) (n := 1) (Nat.le_of_ble_eq_true rfl)
  rw [lg_entry_eq]
  generalize (lg_sl ([.ref q_t]) ++ List.replicate (1 - (lg_sl ([.ref q_t])).length) Slot.unset).toArray = ls at hl ⊢
  have hl : lv_has ls 1 [(0, .ref q_t)] := hl
  unfold fX6_skipBlanks at hf
  refine wlw1 0 (fun _ => []) (fun (u1 : Int32) H locs ls => va_P D vwCl [(q_t, oX6 q_t_tape v_t_fault u1 v_t_token v_t_start v_t_value), (q_t_tape, oX4 q_t_tape_bytes v_t_tape_size), (q_t_tape_bytes, .inl (cy 0, 250, .inl v_t_tape_bytes))] H ∧ va_D A [(q_t, oX6 q_t_tape v_t_fault u1 v_t_token v_t_start v_t_value), (q_t_tape, oX4 q_t_tape_bytes v_t_tape_size), (q_t_tape_bytes, .inl (cy 0, 250, .inl v_t_tape_bytes))] ∧ va_S A s.heap H locs ∧ lv_has ls 1 [(0, .ref q_t)]) (fun g2 L0 u1 H locs ls hI hf => ?_) 400 v_t_position _ _ ls ⟨hP, hD, hS, lv_sub hl [0] rfl⟩ hf
  obtain ⟨hP, hD, hS, hl⟩ := hI
  refine lv_aload_n hx hb dX6_skipBlanks_0 rfl (lv_at hl 0 rfl) ?_
  refine va_get (D := D) (ci := 6) (v := .int u1) (C := RX6) (T := TX6) (N := 6) hx hb hts hinX6 hown hK.1 hP 0 rfl rfl 2 (by decide) hk22 (fun _ h9 => h9) rfl dX6_skipBlanks_1 ?_
  refine lv_aload_n hx hb dX6_skipBlanks_4 rfl (lv_at hl 0 rfl) ?_
  refine va_get (D := D) (ci := 6) (v := .ref q_t_tape) (C := RX6) (T := TX6) (N := 6) hx hb hts hinX6 hown hK.1 hP 0 rfl rfl 0 (by decide) hk12 (fun _ h9 => h9) rfl dX6_skipBlanks_5 ?_
  refine va_get (D := D) (ci := 4) (v := .int v_t_tape_size) (C := RX4) (T := TX4) (N := 2) hx hb hts hinX4 hown hK.1 hP 1 rfl rfl 1 (by decide) hk124 (fun _ h9 => h9) rfl dX6_skipBlanks_8 ?_
  refine lv_icmp_ge (tgt := 40) hx hb dX6_skipBlanks_11 (by decide) (fun c6 => ?_) (fun c6 => ?_)
  · have hf := ifT hf c6
    clear c6
    cases hf
    exact W.vret hx hb hr (fun t ht hW => ⟨⟨(), rfl, trivial, xend ht hP⟩, hS.F ht⟩) hS.2.2 dX6_skipBlanks_40
  · have hf := ifF hf c6
    clear c6
    refine lv_aload_n hx hb dX6_skipBlanks_14 rfl (lv_at hl 0 rfl) ?_
    refine lv_aload_n hx hb dX6_skipBlanks_15 rfl (lv_at hl 0 rfl) ?_
    refine va_get (D := D) (ci := 6) (v := .int u1) (C := RX6) (T := TX6) (N := 6) hx hb hts hinX6 hown hK.1 hP 0 rfl rfl 2 (by decide) hk22 (fun _ h9 => h9) rfl dX6_skipBlanks_16 ?_
    obtain ⟨r3, hr4, hf⟩ := boE1 hf
    have hPc := hP.sub (ws' := [(q_t, oX6 q_t_tape v_t_fault u1 v_t_token v_t_start v_t_value), (q_t_tape, oX4 q_t_tape_bytes v_t_tape_size), (q_t_tape_bytes, .inl (cy 0, 250, .inl v_t_tape_bytes))]) [0, 1, 2] rfl
    refine xcSi (va_runV (As := [.int u1]) (rest := []) ⟨hx, hb, hml, hown, hts⟩ (mX6_letterAt l D cy q_t q_t_tape q_t_tape_bytes v_t_fault u1 v_t_token v_t_start v_t_value v_t_tape_size v_t_tape_bytes  u1 hr4) (cwV 1 hts gX6_skipBlanks_X6_letterAt rfl rfl rfl (by decide +kernel) ⟨Nat.le_of_ble_eq_true rfl, Nat.le_of_ble_eq_true rfl⟩) (xPV hK hPc (ci := 6) (q0 := 0) rfl rfl) rfl rfl hl.1 rfl (lv_room (Nat.le_of_ble_eq_true rfl)) dX6_skipBlanks_19 ⟨Nat.le_of_ble_eq_true rfl, Nat.le_of_ble_eq_true rfl⟩) ?_
    refine lv_bipush (v := 32) hx hb dX6_skipBlanks_22 (by decide) ?_
    refine lv_icmp_ne (tgt := 40) hx hb dX6_skipBlanks_24 (by decide) (fun c5 => ?_) (fun c5 => ?_)
    · have hf := ifF hf c5
      clear c5
      cases hf
      exact W.vret hx hb hr (fun t ht hW => ⟨⟨(), rfl, trivial, xend ht hP⟩, hS.F ht⟩) hS.2.2 dX6_skipBlanks_40
    · have hf := ifT hf c5
      clear c5
      refine lv_aload_n hx hb dX6_skipBlanks_27 rfl (lv_at hl 0 rfl) ?_
      refine lv_dup hx hb dX6_skipBlanks_28 rfl ?_
      refine va_get (D := D) (ci := 6) (v := .int u1) (C := RX6) (T := TX6) (N := 6) hx hb hts hinX6 hown hK.1 hP 0 rfl rfl 2 (by decide) hk22 (fun _ h9 => h9) rfl dX6_skipBlanks_29 ?_
      refine lv_iconst (v := 1) hx hb dX6_skipBlanks_32 (by decide) ?_
      refine lv_iadd hx hb dX6_skipBlanks_33 ?_
      refine va_put (D := D) (ci := 6) (v := .int (u1 + (1 : Int32))) (ty := .int) (C := RX6) (T := TX6) (N := 6) hx hb hts hinX6 tyX6 tyX6_ok nmX6 hown hK.1 hP hD hS 0 rfl rfl 2 (by decide) hk22 (fun _ h9 => h9) rfl (by decide +kernel) rfl rfl (Nat.le_of_ble_eq_true rfl) dX6_skipBlanks_34 (fun H locs hP hD hS => ?_)
      have hP : va_P D vwCl [(q_t, oX6 q_t_tape v_t_fault (u1 + (1 : Int32)) v_t_token v_t_start v_t_value), (q_t_tape, oX4 q_t_tape_bytes v_t_tape_size), (q_t_tape_bytes, .inl (cy 0, 250, .inl v_t_tape_bytes))] H := hP
      have hD : va_D A [(q_t, oX6 q_t_tape v_t_fault (u1 + (1 : Int32)) v_t_token v_t_start v_t_value), (q_t_tape, oX4 q_t_tape_bytes v_t_tape_size), (q_t_tape_bytes, .inl (cy 0, 250, .inl v_t_tape_bytes))] := hD
      refine lv_goto (tgt := 0) hx hb dX6_skipBlanks_37 (by decide) ?_
      exact L0 (u1 + (1 : Int32)) _ _ ls ⟨hP, hD, hS, lv_sub hl [0] rfl⟩ hf
def fX6_isLetter (p0 : Int32) : Option (Int32) :=
  if p0 < (97 : Int32) then
    some (0 : Int32)
  else
    if (122 : Int32) < p0 then
      some (0 : Int32)
    else
      some (1 : Int32)
set_option maxHeartbeats 4000000 in
set_option maxRecDepth 100000 in
theorem mX6_isLetter (l : Launch) (D : va_G) (cy : Nat → ClassId) (p0 : Int32) {r_ : Int32} (hf : fX6_isLetter p0 = some r_) : Met l yX6_isLetter wsX6_isLetter ({ frames := 0, cells := 0, slots := 0, locals := 0 }) (va_Pc [.int p0] (fun U => va_P D vwCl [] U.heap ∧ xK D cy U)) (vp_Si (fun x => x = r_)) 0 0 (fun _ => False) := by
  refine Met.ofW (cc := cX6_isLetter) (maxL := 1) (ret := (some .boolean)) (by decide) rfl ?_
  intro p e s m args below meth c s₁ B hml hv
  obtain ⟨rfl, hP, hK⟩ := hv
  have hx := B.exec
  have hb := B.bytes
  have hr := B.returns
  have hts := atoms_spec (ws := wsX6_isLetter) B.pre
  have hown : s.vm.findClass RX6 = some m.cls := findClass_of_methodNamed B.named
  have hlocks := B.notSynchronized
  have hP : va_P D vwCl [] s.heap := hP
  have hl := lv_entry ([.int p0]) (n := 1) (Nat.le_of_ble_eq_true rfl)
  rw [lg_entry_eq]
  generalize (lg_sl ([.int p0]) ++ List.replicate (1 - (lg_sl ([.int p0])).length) Slot.unset).toArray = ls at hl ⊢
  have hl : lv_has ls 1 [(0, .int p0)] := hl
  unfold fX6_isLetter at hf
  refine lv_iload_n hx hb dX6_isLetter_0 rfl (lv_at hl 0 rfl) ?_
  refine lv_bipush (v := 97) hx hb dX6_isLetter_1 (by decide) ?_
  refine lv_icmp_lt (tgt := 16) hx hb dX6_isLetter_3 (by decide) (fun c2 => ?_) (fun c2 => ?_)
  · have hf := ifT hf c2
    clear c2
    refine lv_iconst (v := 0) hx hb dX6_isLetter_16 (by decide) ?_
    exact W.zret (v := (0 : Int32)) hx hb hr rfl (fun t ht hW => ⟨(0 : Int32), rfl, Option.some.inj hf, ht⟩) (fun q h => nomatch h) dX6_isLetter_17
  · have hf := ifF hf c2
    clear c2
    refine lv_iload_n hx hb dX6_isLetter_6 rfl (lv_at hl 0 rfl) ?_
    refine lv_bipush (v := 122) hx hb dX6_isLetter_7 (by decide) ?_
    refine lv_icmp_gt (tgt := 16) hx hb dX6_isLetter_9 (by decide) (fun c1 => ?_) (fun c1 => ?_)
    · have hf := ifT hf c1
      clear c1
      refine lv_iconst (v := 0) hx hb dX6_isLetter_16 (by decide) ?_
      exact W.zret (v := (0 : Int32)) hx hb hr rfl (fun t ht hW => ⟨(0 : Int32), rfl, Option.some.inj hf, ht⟩) (fun q h => nomatch h) dX6_isLetter_17
    · have hf := ifF hf c1
      clear c1
      refine lv_iconst (v := 1) hx hb dX6_isLetter_12 (by decide) ?_
      refine lv_goto (tgt := 17) hx hb dX6_isLetter_13 (by decide) ?_
      exact W.zret (v := (1 : Int32)) hx hb hr rfl (fun t ht hW => ⟨(1 : Int32), rfl, Option.some.inj hf, ht⟩) (fun q h => nomatch h) dX6_isLetter_17
def fX6_passWord (v_t_position : Int32) (v_t_tape_size : Int32) (v_t_tape_bytes : Nat → Int32) : Option (Int32) :=
  lo1 (fun g2 (u1 : Int32) =>
    if v_t_tape_size ≤ u1 then
      some u1
    else
      bo1 (fX6_letterAt v_t_tape_size v_t_tape_bytes u1) fun r3 =>
      bo1 (fX6_isLetter r3) fun r5 =>
      if r5 = 0 then
        some u1
      else
        g2 (u1 + (1 : Int32))) 400 v_t_position
set_option maxHeartbeats 4000000 in
set_option maxRecDepth 100000 in
theorem mX6_passWord (l : Launch) (D : va_G) (cy : Nat → ClassId) (q_t q_t_tape q_t_tape_bytes : Nat) (v_t_fault : Int32) (v_t_position : Int32) (v_t_token : Int32) (v_t_start : Int32) (v_t_value : Int32) (v_t_tape_size : Int32) (v_t_tape_bytes : Nat → Int32) (sz : Nat) {n_t_position : Int32} (hf : fX6_passWord v_t_position v_t_tape_size v_t_tape_bytes = some n_t_position) : Met l yX6_passWord wsX6_passWord ({ frames := 1, cells := 0, slots := 0, locals := 21 }) (va_Pc [.ref q_t] (fun U => U.heap.size = sz ∧ va_P D vwCl [(q_t, oX6 q_t_tape v_t_fault v_t_position v_t_token v_t_start v_t_value), (q_t_tape, oX4 q_t_tape_bytes v_t_tape_size), (q_t_tape_bytes, .inl (cy 0, 250, .inl v_t_tape_bytes))] U.heap ∧ xK D cy U ∧ va_D (fun _ => True) [(q_t, oX6 q_t_tape v_t_fault v_t_position v_t_token v_t_start v_t_value), (q_t_tape, oX4 q_t_tape_bytes v_t_tape_size), (q_t_tape_bytes, .inl (cy 0, 250, .inl v_t_tape_bytes))])) (va_Qv (fun (_ : Unit) => True) (fun _ t => va_P D vwCl [(q_t, oX6 q_t_tape v_t_fault n_t_position v_t_token v_t_start v_t_value), (q_t_tape, oX4 q_t_tape_bytes v_t_tape_size), (q_t_tape_bytes, .inl (cy 0, 250, .inl v_t_tape_bytes))] t.heap) (va_A [(q_t, oX6 q_t_tape v_t_fault v_t_position v_t_token v_t_start v_t_value), (q_t_tape, oX4 q_t_tape_bytes v_t_tape_size), (q_t_tape_bytes, .inl (cy 0, 250, .inl v_t_tape_bytes))] sz)) 0 0 (va_A [(q_t, oX6 q_t_tape v_t_fault v_t_position v_t_token v_t_start v_t_value), (q_t_tape, oX4 q_t_tape_bytes v_t_tape_size), (q_t_tape_bytes, .inl (cy 0, 250, .inl v_t_tape_bytes))] sz) := by
  refine Met.ofW (cc := cX6_passWord) (maxL := 1) (ret := none) (by decide) rfl ?_
  intro p e s m args below meth c s₁ B hml hv
  obtain ⟨rfl, hsz, hP, hK, hD0⟩ := hv
  have hx := B.exec
  have hb := B.bytes
  have hr := B.returns
  have hts := atoms_spec (ws := wsX6_passWord) B.pre
  have hown : s.vm.findClass RX6 = some m.cls := findClass_of_methodNamed B.named
  have hlocks := B.notSynchronized
  subst hsz
  have hD := hD0.self (sz := s.heap.size)
  generalize hAe : va_A [(q_t, oX6 q_t_tape v_t_fault v_t_position v_t_token v_t_start v_t_value), (q_t_tape, oX4 q_t_tape_bytes v_t_tape_size), (q_t_tape_bytes, .inl (cy 0, 250, .inl v_t_tape_bytes))] s.heap.size = A at hD ⊢
  have hA : ∀ q : Nat, s.heap.size ≤ q → A q := fun q h => by rw [← hAe]; exact Or.inr h
  have hS : va_S A s.heap s.heap [] := va_S.rf
  have hP : va_P D vwCl [(q_t, oX6 q_t_tape v_t_fault v_t_position v_t_token v_t_start v_t_value), (q_t_tape, oX4 q_t_tape_bytes v_t_tape_size), (q_t_tape_bytes, .inl (cy 0, 250, .inl v_t_tape_bytes))] s.heap := hP
  have hinX6 : ∀ w ∈ u_ws RX6 TX6 6, w ∈ wsX6_passWord := by decide +kernel
  have hk22 := hts (.fieldLink RX6 22 "ShowsWhereNobodyIs$TownReader" "position" "I") (by decide +kernel)
  have hk12 := hts (.fieldLink RX6 12 "ShowsWhereNobodyIs$TownReader" "tape" "LShowsWhereNobodyIs$Tape;") (by decide +kernel)
  have hinX4 : ∀ w ∈ u_ws RX4 TX4 2, w ∈ wsX6_passWord := by decide +kernel
  have hk124 := hts (.fieldLink RX6 124 "ShowsWhereNobodyIs$Tape" "size" "I") (by decide +kernel)
  have hl := lv_entry ([.ref q_t]) (n := 1) (Nat.le_of_ble_eq_true rfl)
  rw [lg_entry_eq]
  generalize (lg_sl ([.ref q_t]) ++ List.replicate (1 - (lg_sl ([.ref q_t])).length) Slot.unset).toArray = ls at hl ⊢
  have hl : lv_has ls 1 [(0, .ref q_t)] := hl
  unfold fX6_passWord at hf
  refine wlw1 0 (fun _ => []) (fun (u1 : Int32) H locs ls => va_P D vwCl [(q_t, oX6 q_t_tape v_t_fault u1 v_t_token v_t_start v_t_value), (q_t_tape, oX4 q_t_tape_bytes v_t_tape_size), (q_t_tape_bytes, .inl (cy 0, 250, .inl v_t_tape_bytes))] H ∧ va_D A [(q_t, oX6 q_t_tape v_t_fault u1 v_t_token v_t_start v_t_value), (q_t_tape, oX4 q_t_tape_bytes v_t_tape_size), (q_t_tape_bytes, .inl (cy 0, 250, .inl v_t_tape_bytes))] ∧ va_S A s.heap H locs ∧ lv_has ls 1 [(0, .ref q_t)]) (fun g2 L0 u1 H locs ls hI hf => ?_) 400 v_t_position _ _ ls ⟨hP, hD, hS, lv_sub hl [0] rfl⟩ hf
  obtain ⟨hP, hD, hS, hl⟩ := hI
  refine lv_aload_n hx hb dX6_passWord_0 rfl (lv_at hl 0 rfl) ?_
  refine va_get (D := D) (ci := 6) (v := .int u1) (C := RX6) (T := TX6) (N := 6) hx hb hts hinX6 hown hK.1 hP 0 rfl rfl 2 (by decide) hk22 (fun _ h9 => h9) rfl dX6_passWord_1 ?_
  refine lv_aload_n hx hb dX6_passWord_4 rfl (lv_at hl 0 rfl) ?_
  refine va_get (D := D) (ci := 6) (v := .ref q_t_tape) (C := RX6) (T := TX6) (N := 6) hx hb hts hinX6 hown hK.1 hP 0 rfl rfl 0 (by decide) hk12 (fun _ h9 => h9) rfl dX6_passWord_5 ?_
  refine va_get (D := D) (ci := 4) (v := .int v_t_tape_size) (C := RX4) (T := TX4) (N := 2) hx hb hts hinX4 hown hK.1 hP 1 rfl rfl 1 (by decide) hk124 (fun _ h9 => h9) rfl dX6_passWord_8 ?_
  refine lv_icmp_ge (tgt := 41) hx hb dX6_passWord_11 (by decide) (fun c8 => ?_) (fun c8 => ?_)
  · have hf := ifT hf c8
    clear c8
    cases hf
    exact W.vret hx hb hr (fun t ht hW => ⟨⟨(), rfl, trivial, xend ht hP⟩, hS.F ht⟩) hS.2.2 dX6_passWord_41
  · have hf := ifF hf c8
    clear c8
    refine lv_aload_n hx hb dX6_passWord_14 rfl (lv_at hl 0 rfl) ?_
    refine lv_aload_n hx hb dX6_passWord_15 rfl (lv_at hl 0 rfl) ?_
    refine va_get (D := D) (ci := 6) (v := .int u1) (C := RX6) (T := TX6) (N := 6) hx hb hts hinX6 hown hK.1 hP 0 rfl rfl 2 (by decide) hk22 (fun _ h9 => h9) rfl dX6_passWord_16 ?_
    obtain ⟨r3, hr4, hf⟩ := boE1 hf
    have hPc := hP.sub (ws' := [(q_t, oX6 q_t_tape v_t_fault u1 v_t_token v_t_start v_t_value), (q_t_tape, oX4 q_t_tape_bytes v_t_tape_size), (q_t_tape_bytes, .inl (cy 0, 250, .inl v_t_tape_bytes))]) [0, 1, 2] rfl
    refine xcSi (va_runV (As := [.int u1]) (rest := []) ⟨hx, hb, hml, hown, hts⟩ (mX6_letterAt l D cy q_t q_t_tape q_t_tape_bytes v_t_fault u1 v_t_token v_t_start v_t_value v_t_tape_size v_t_tape_bytes  u1 hr4) (cwV 1 hts gX6_passWord_X6_letterAt rfl rfl rfl (by decide +kernel) ⟨Nat.le_of_ble_eq_true rfl, Nat.le_of_ble_eq_true rfl⟩) (xPV hK hPc (ci := 6) (q0 := 0) rfl rfl) rfl rfl hl.1 rfl (lv_room (Nat.le_of_ble_eq_true rfl)) dX6_passWord_19 ⟨Nat.le_of_ble_eq_true rfl, Nat.le_of_ble_eq_true rfl⟩) ?_
    obtain ⟨r5, hr6, hf⟩ := boE1 hf
    have hPc := hP.sub (ws' := []) [] rfl
    refine xcSi (va_runS (As := [.int r3]) (rest := []) ⟨hx, hb, hml, hown, hts⟩ (mX6_isLetter l D cy    r3 hr6) (va_cwS 1 hts gX6_passWord_X6_isLetter rfl rfl rfl (by decide +kernel) ⟨Nat.le_of_ble_eq_true rfl, Nat.le_of_ble_eq_true rfl⟩) (xPS hK hPc) rfl rfl hl.1 rfl (lv_room (Nat.le_of_ble_eq_true rfl)) dX6_passWord_22 ⟨Nat.le_of_ble_eq_true rfl, Nat.le_of_ble_eq_true rfl⟩) ?_
    refine lv_if_eq (tgt := 41) hx hb dX6_passWord_25 (by decide) (fun c7 => ?_) (fun c7 => ?_)
    · have hf := ifT hf c7
      clear c7
      cases hf
      exact W.vret hx hb hr (fun t ht hW => ⟨⟨(), rfl, trivial, xend ht hP⟩, hS.F ht⟩) hS.2.2 dX6_passWord_41
    · have hf := ifF hf c7
      clear c7
      refine lv_aload_n hx hb dX6_passWord_28 rfl (lv_at hl 0 rfl) ?_
      refine lv_dup hx hb dX6_passWord_29 rfl ?_
      refine va_get (D := D) (ci := 6) (v := .int u1) (C := RX6) (T := TX6) (N := 6) hx hb hts hinX6 hown hK.1 hP 0 rfl rfl 2 (by decide) hk22 (fun _ h9 => h9) rfl dX6_passWord_30 ?_
      refine lv_iconst (v := 1) hx hb dX6_passWord_33 (by decide) ?_
      refine lv_iadd hx hb dX6_passWord_34 ?_
      refine va_put (D := D) (ci := 6) (v := .int (u1 + (1 : Int32))) (ty := .int) (C := RX6) (T := TX6) (N := 6) hx hb hts hinX6 tyX6 tyX6_ok nmX6 hown hK.1 hP hD hS 0 rfl rfl 2 (by decide) hk22 (fun _ h9 => h9) rfl (by decide +kernel) rfl rfl (Nat.le_of_ble_eq_true rfl) dX6_passWord_35 (fun H locs hP hD hS => ?_)
      have hP : va_P D vwCl [(q_t, oX6 q_t_tape v_t_fault (u1 + (1 : Int32)) v_t_token v_t_start v_t_value), (q_t_tape, oX4 q_t_tape_bytes v_t_tape_size), (q_t_tape_bytes, .inl (cy 0, 250, .inl v_t_tape_bytes))] H := hP
      have hD : va_D A [(q_t, oX6 q_t_tape v_t_fault (u1 + (1 : Int32)) v_t_token v_t_start v_t_value), (q_t_tape, oX4 q_t_tape_bytes v_t_tape_size), (q_t_tape_bytes, .inl (cy 0, 250, .inl v_t_tape_bytes))] := hD
      refine lv_goto (tgt := 0) hx hb dX6_passWord_38 (by decide) ?_
      exact L0 (u1 + (1 : Int32)) _ _ ls ⟨hP, hD, hS, lv_sub hl [0] rfl⟩ hf
def fX6_isDigit (p0 : Int32) : Option (Int32) :=
  if p0 < (48 : Int32) then
    some (0 : Int32)
  else
    if (57 : Int32) < p0 then
      some (0 : Int32)
    else
      some (1 : Int32)
set_option maxHeartbeats 4000000 in
set_option maxRecDepth 100000 in
theorem mX6_isDigit (l : Launch) (D : va_G) (cy : Nat → ClassId) (p0 : Int32) {r_ : Int32} (hf : fX6_isDigit p0 = some r_) : Met l yX6_isDigit wsX6_isDigit ({ frames := 0, cells := 0, slots := 0, locals := 0 }) (va_Pc [.int p0] (fun U => va_P D vwCl [] U.heap ∧ xK D cy U)) (vp_Si (fun x => x = r_)) 0 0 (fun _ => False) := by
  refine Met.ofW (cc := cX6_isDigit) (maxL := 1) (ret := (some .boolean)) (by decide) rfl ?_
  intro p e s m args below meth c s₁ B hml hv
  obtain ⟨rfl, hP, hK⟩ := hv
  have hx := B.exec
  have hb := B.bytes
  have hr := B.returns
  have hts := atoms_spec (ws := wsX6_isDigit) B.pre
  have hown : s.vm.findClass RX6 = some m.cls := findClass_of_methodNamed B.named
  have hlocks := B.notSynchronized
  have hP : va_P D vwCl [] s.heap := hP
  have hl := lv_entry ([.int p0]) (n := 1) (Nat.le_of_ble_eq_true rfl)
  rw [lg_entry_eq]
  generalize (lg_sl ([.int p0]) ++ List.replicate (1 - (lg_sl ([.int p0])).length) Slot.unset).toArray = ls at hl ⊢
  have hl : lv_has ls 1 [(0, .int p0)] := hl
  unfold fX6_isDigit at hf
  refine lv_iload_n hx hb dX6_isDigit_0 rfl (lv_at hl 0 rfl) ?_
  refine lv_bipush (v := 48) hx hb dX6_isDigit_1 (by decide) ?_
  refine lv_icmp_lt (tgt := 16) hx hb dX6_isDigit_3 (by decide) (fun c2 => ?_) (fun c2 => ?_)
  · have hf := ifT hf c2
    clear c2
    refine lv_iconst (v := 0) hx hb dX6_isDigit_16 (by decide) ?_
    exact W.zret (v := (0 : Int32)) hx hb hr rfl (fun t ht hW => ⟨(0 : Int32), rfl, Option.some.inj hf, ht⟩) (fun q h => nomatch h) dX6_isDigit_17
  · have hf := ifF hf c2
    clear c2
    refine lv_iload_n hx hb dX6_isDigit_6 rfl (lv_at hl 0 rfl) ?_
    refine lv_bipush (v := 57) hx hb dX6_isDigit_7 (by decide) ?_
    refine lv_icmp_gt (tgt := 16) hx hb dX6_isDigit_9 (by decide) (fun c1 => ?_) (fun c1 => ?_)
    · have hf := ifT hf c1
      clear c1
      refine lv_iconst (v := 0) hx hb dX6_isDigit_16 (by decide) ?_
      exact W.zret (v := (0 : Int32)) hx hb hr rfl (fun t ht hW => ⟨(0 : Int32), rfl, Option.some.inj hf, ht⟩) (fun q h => nomatch h) dX6_isDigit_17
    · have hf := ifF hf c1
      clear c1
      refine lv_iconst (v := 1) hx hb dX6_isDigit_12 (by decide) ?_
      refine lv_goto (tgt := 17) hx hb dX6_isDigit_13 (by decide) ?_
      exact W.zret (v := (1 : Int32)) hx hb hr rfl (fun t ht hW => ⟨(1 : Int32), rfl, Option.some.inj hf, ht⟩) (fun q h => nomatch h) dX6_isDigit_17
def fX6_passNumber (v_t_position : Int32) (v_t_start : Int32) (v_t_tape_size : Int32) (v_t_tape_bytes : Nat → Int32) : Option (Int32 × Int32) :=
  lo2 (fun g3 (u1 : Int32) (u2 : Int32) =>
    if v_t_tape_size ≤ u1 then
      some (u1, u2)
    else
      bo1 (fX6_letterAt v_t_tape_size v_t_tape_bytes u1) fun r4 =>
      bo1 (fX6_isDigit r4) fun r6 =>
      if r6 = 0 then
        some (u1, u2)
      else
        jo1 (fun (u8 : Int32) =>
          g3 (u1 + (1 : Int32)) u8) fun k9 =>
        if (3 : Int32) ≤ (u1 - v_t_start) then
          k9 u2
        else
          bo1 (fX6_letterAt v_t_tape_size v_t_tape_bytes u1) fun r10 =>
          k9 (((u2 * (10 : Int32)) + r10) - (48 : Int32))) 400 v_t_position (0 : Int32)
set_option maxHeartbeats 4000000 in
set_option maxRecDepth 100000 in
theorem mX6_passNumber (l : Launch) (D : va_G) (cy : Nat → ClassId) (q_t q_t_tape q_t_tape_bytes : Nat) (v_t_fault : Int32) (v_t_position : Int32) (v_t_token : Int32) (v_t_start : Int32) (v_t_value : Int32) (v_t_tape_size : Int32) (v_t_tape_bytes : Nat → Int32) (sz : Nat) {n_t_position : Int32} {n_t_value : Int32} (hf : fX6_passNumber v_t_position v_t_start v_t_tape_size v_t_tape_bytes = some (n_t_position, n_t_value)) : Met l yX6_passNumber wsX6_passNumber ({ frames := 1, cells := 0, slots := 0, locals := 21 }) (va_Pc [.ref q_t] (fun U => U.heap.size = sz ∧ va_P D vwCl [(q_t, oX6 q_t_tape v_t_fault v_t_position v_t_token v_t_start v_t_value), (q_t_tape, oX4 q_t_tape_bytes v_t_tape_size), (q_t_tape_bytes, .inl (cy 0, 250, .inl v_t_tape_bytes))] U.heap ∧ xK D cy U ∧ va_D (fun _ => True) [(q_t, oX6 q_t_tape v_t_fault v_t_position v_t_token v_t_start v_t_value), (q_t_tape, oX4 q_t_tape_bytes v_t_tape_size), (q_t_tape_bytes, .inl (cy 0, 250, .inl v_t_tape_bytes))])) (va_Qv (fun (_ : Unit) => True) (fun _ t => va_P D vwCl [(q_t, oX6 q_t_tape v_t_fault n_t_position v_t_token v_t_start n_t_value), (q_t_tape, oX4 q_t_tape_bytes v_t_tape_size), (q_t_tape_bytes, .inl (cy 0, 250, .inl v_t_tape_bytes))] t.heap) (va_A [(q_t, oX6 q_t_tape v_t_fault v_t_position v_t_token v_t_start v_t_value), (q_t_tape, oX4 q_t_tape_bytes v_t_tape_size), (q_t_tape_bytes, .inl (cy 0, 250, .inl v_t_tape_bytes))] sz)) 0 0 (va_A [(q_t, oX6 q_t_tape v_t_fault v_t_position v_t_token v_t_start v_t_value), (q_t_tape, oX4 q_t_tape_bytes v_t_tape_size), (q_t_tape_bytes, .inl (cy 0, 250, .inl v_t_tape_bytes))] sz) := by
  refine Met.ofW (cc := cX6_passNumber) (maxL := 1) (ret := none) (by decide) rfl ?_
  intro p e s m args below meth c s₁ B hml hv
  obtain ⟨rfl, hsz, hP, hK, hD0⟩ := hv
  have hx := B.exec
  have hb := B.bytes
  have hr := B.returns
  have hts := atoms_spec (ws := wsX6_passNumber) B.pre
  have hown : s.vm.findClass RX6 = some m.cls := findClass_of_methodNamed B.named
  have hlocks := B.notSynchronized
  subst hsz
  have hD := hD0.self (sz := s.heap.size)
  generalize hAe : va_A [(q_t, oX6 q_t_tape v_t_fault v_t_position v_t_token v_t_start v_t_value), (q_t_tape, oX4 q_t_tape_bytes v_t_tape_size), (q_t_tape_bytes, .inl (cy 0, 250, .inl v_t_tape_bytes))] s.heap.size = A at hD ⊢
  have hA : ∀ q : Nat, s.heap.size ≤ q → A q := fun q h => by rw [← hAe]; exact Or.inr h
  have hS : va_S A s.heap s.heap [] := va_S.rf
  have hP : va_P D vwCl [(q_t, oX6 q_t_tape v_t_fault v_t_position v_t_token v_t_start v_t_value), (q_t_tape, oX4 q_t_tape_bytes v_t_tape_size), (q_t_tape_bytes, .inl (cy 0, 250, .inl v_t_tape_bytes))] s.heap := hP
  have hinX6 : ∀ w ∈ u_ws RX6 TX6 6, w ∈ wsX6_passNumber := by decide +kernel
  have hk101 := hts (.fieldLink RX6 101 "ShowsWhereNobodyIs$TownReader" "value" "I") (by decide +kernel)
  have hk22 := hts (.fieldLink RX6 22 "ShowsWhereNobodyIs$TownReader" "position" "I") (by decide +kernel)
  have hk12 := hts (.fieldLink RX6 12 "ShowsWhereNobodyIs$TownReader" "tape" "LShowsWhereNobodyIs$Tape;") (by decide +kernel)
  have hinX4 : ∀ w ∈ u_ws RX4 TX4 2, w ∈ wsX6_passNumber := by decide +kernel
  have hk124 := hts (.fieldLink RX6 124 "ShowsWhereNobodyIs$Tape" "size" "I") (by decide +kernel)
  have hk35 := hts (.fieldLink RX6 35 "ShowsWhereNobodyIs$TownReader" "start" "I") (by decide +kernel)
  have hl := lv_entry ([.ref q_t]) (n := 1) (Nat.le_of_ble_eq_true rfl)
  rw [lg_entry_eq]
  generalize (lg_sl ([.ref q_t]) ++ List.replicate (1 - (lg_sl ([.ref q_t])).length) Slot.unset).toArray = ls at hl ⊢
  have hl : lv_has ls 1 [(0, .ref q_t)] := hl
  unfold fX6_passNumber at hf
  refine lv_aload_n hx hb dX6_passNumber_0 rfl (lv_at hl 0 rfl) ?_
  refine lv_iconst (v := 0) hx hb dX6_passNumber_1 (by decide) ?_
  refine va_put (D := D) (ci := 6) (v := .int (0 : Int32)) (ty := .int) (C := RX6) (T := TX6) (N := 6) hx hb hts hinX6 tyX6 tyX6_ok nmX6 hown hK.1 hP hD hS 0 rfl rfl 5 (by decide) hk101 (fun _ h9 => h9) rfl (by decide +kernel) rfl rfl (Nat.le_of_ble_eq_true rfl) dX6_passNumber_2 (fun H locs hP hD hS => ?_)
  have hP : va_P D vwCl [(q_t, oX6 q_t_tape v_t_fault v_t_position v_t_token v_t_start (0 : Int32)), (q_t_tape, oX4 q_t_tape_bytes v_t_tape_size), (q_t_tape_bytes, .inl (cy 0, 250, .inl v_t_tape_bytes))] H := hP
  have hD : va_D A [(q_t, oX6 q_t_tape v_t_fault v_t_position v_t_token v_t_start (0 : Int32)), (q_t_tape, oX4 q_t_tape_bytes v_t_tape_size), (q_t_tape_bytes, .inl (cy 0, 250, .inl v_t_tape_bytes))] := hD
  refine wlw2 5 (fun _ _ => []) (fun (u1 : Int32) (u2 : Int32) H locs ls => va_P D vwCl [(q_t, oX6 q_t_tape v_t_fault u1 v_t_token v_t_start u2), (q_t_tape, oX4 q_t_tape_bytes v_t_tape_size), (q_t_tape_bytes, .inl (cy 0, 250, .inl v_t_tape_bytes))] H ∧ va_D A [(q_t, oX6 q_t_tape v_t_fault u1 v_t_token v_t_start u2), (q_t_tape, oX4 q_t_tape_bytes v_t_tape_size), (q_t_tape_bytes, .inl (cy 0, 250, .inl v_t_tape_bytes))] ∧ va_S A s.heap H locs ∧ lv_has ls 1 [(0, .ref q_t)]) (fun g3 L5 u1 u2 H locs ls hI hf => ?_) 400 v_t_position (0 : Int32) _ _ ls ⟨hP, hD, hS, lv_sub hl [0] rfl⟩ hf
  obtain ⟨hP, hD, hS, hl⟩ := hI
  refine lv_aload_n hx hb dX6_passNumber_5 rfl (lv_at hl 0 rfl) ?_
  refine va_get (D := D) (ci := 6) (v := .int u1) (C := RX6) (T := TX6) (N := 6) hx hb hts hinX6 hown hK.1 hP 0 rfl rfl 2 (by decide) hk22 (fun _ h9 => h9) rfl dX6_passNumber_6 ?_
  refine lv_aload_n hx hb dX6_passNumber_9 rfl (lv_at hl 0 rfl) ?_
  refine va_get (D := D) (ci := 6) (v := .ref q_t_tape) (C := RX6) (T := TX6) (N := 6) hx hb hts hinX6 hown hK.1 hP 0 rfl rfl 0 (by decide) hk12 (fun _ h9 => h9) rfl dX6_passNumber_10 ?_
  refine va_get (D := D) (ci := 4) (v := .int v_t_tape_size) (C := RX4) (T := TX4) (N := 2) hx hb hts hinX4 hown hK.1 hP 1 rfl rfl 1 (by decide) hk124 (fun _ h9 => h9) rfl dX6_passNumber_13 ?_
  refine lv_icmp_ge (tgt := 82) hx hb dX6_passNumber_16 (by decide) (fun c14 => ?_) (fun c14 => ?_)
  · have hf := ifT hf c14
    clear c14
    cases hf
    exact W.vret hx hb hr (fun t ht hW => ⟨⟨(), rfl, trivial, xend ht hP⟩, hS.F ht⟩) hS.2.2 dX6_passNumber_82
  · have hf := ifF hf c14
    clear c14
    refine lv_aload_n hx hb dX6_passNumber_19 rfl (lv_at hl 0 rfl) ?_
    refine lv_aload_n hx hb dX6_passNumber_20 rfl (lv_at hl 0 rfl) ?_
    refine va_get (D := D) (ci := 6) (v := .int u1) (C := RX6) (T := TX6) (N := 6) hx hb hts hinX6 hown hK.1 hP 0 rfl rfl 2 (by decide) hk22 (fun _ h9 => h9) rfl dX6_passNumber_21 ?_
    obtain ⟨r4, hr5, hf⟩ := boE1 hf
    have hPc := hP.sub (ws' := [(q_t, oX6 q_t_tape v_t_fault u1 v_t_token v_t_start u2), (q_t_tape, oX4 q_t_tape_bytes v_t_tape_size), (q_t_tape_bytes, .inl (cy 0, 250, .inl v_t_tape_bytes))]) [0, 1, 2] rfl
    refine xcSi (va_runV (As := [.int u1]) (rest := []) ⟨hx, hb, hml, hown, hts⟩ (mX6_letterAt l D cy q_t q_t_tape q_t_tape_bytes v_t_fault u1 v_t_token v_t_start u2 v_t_tape_size v_t_tape_bytes  u1 hr5) (cwV 1 hts gX6_passNumber_X6_letterAt rfl rfl rfl (by decide +kernel) ⟨Nat.le_of_ble_eq_true rfl, Nat.le_of_ble_eq_true rfl⟩) (xPV hK hPc (ci := 6) (q0 := 0) rfl rfl) rfl rfl hl.1 rfl (lv_room (Nat.le_of_ble_eq_true rfl)) dX6_passNumber_24 ⟨Nat.le_of_ble_eq_true rfl, Nat.le_of_ble_eq_true rfl⟩) ?_
    obtain ⟨r6, hr7, hf⟩ := boE1 hf
    have hPc := hP.sub (ws' := []) [] rfl
    refine xcSi (va_runS (As := [.int r4]) (rest := []) ⟨hx, hb, hml, hown, hts⟩ (mX6_isDigit l D cy    r4 hr7) (va_cwS 1 hts gX6_passNumber_X6_isDigit rfl rfl rfl (by decide +kernel) ⟨Nat.le_of_ble_eq_true rfl, Nat.le_of_ble_eq_true rfl⟩) (xPS hK hPc) rfl rfl hl.1 rfl (lv_room (Nat.le_of_ble_eq_true rfl)) dX6_passNumber_27 ⟨Nat.le_of_ble_eq_true rfl, Nat.le_of_ble_eq_true rfl⟩) ?_
    refine lv_if_eq (tgt := 82) hx hb dX6_passNumber_30 (by decide) (fun c13 => ?_) (fun c13 => ?_)
    · have hf := ifT hf c13
      clear c13
      cases hf
      exact W.vret hx hb hr (fun t ht hW => ⟨⟨(), rfl, trivial, xend ht hP⟩, hS.F ht⟩) hS.2.2 dX6_passNumber_82
    · have hf := ifF hf c13
      clear c13
      refine lv_aload_n hx hb dX6_passNumber_33 rfl (lv_at hl 0 rfl) ?_
      refine va_get (D := D) (ci := 6) (v := .int u1) (C := RX6) (T := TX6) (N := 6) hx hb hts hinX6 hown hK.1 hP 0 rfl rfl 2 (by decide) hk22 (fun _ h9 => h9) rfl dX6_passNumber_34 ?_
      refine lv_aload_n hx hb dX6_passNumber_37 rfl (lv_at hl 0 rfl) ?_
      refine va_get (D := D) (ci := 6) (v := .int v_t_start) (C := RX6) (T := TX6) (N := 6) hx hb hts hinX6 hown hK.1 hP 0 rfl rfl 4 (by decide) hk35 (fun _ h9 => h9) rfl dX6_passNumber_38 ?_
      refine lv_isub hx hb dX6_passNumber_41 ?_
      refine lv_iconst (v := 3) hx hb dX6_passNumber_42 (by decide) ?_
      refine jww1 69 (fun (u8 : Int32) => []) (fun (u8 : Int32) H locs ls => va_P D vwCl [(q_t, oX6 q_t_tape v_t_fault u1 v_t_token v_t_start u8), (q_t_tape, oX4 q_t_tape_bytes v_t_tape_size), (q_t_tape_bytes, .inl (cy 0, 250, .inl v_t_tape_bytes))] H ∧ va_D A [(q_t, oX6 q_t_tape v_t_fault u1 v_t_token v_t_start u8), (q_t_tape, oX4 q_t_tape_bytes v_t_tape_size), (q_t_tape_bytes, .inl (cy 0, 250, .inl v_t_tape_bytes))] ∧ va_S A s.heap H locs ∧ lv_has ls 1 [(0, .ref q_t)]) hf (fun u8 H locs ls hI hf => ?_) (fun k9 J69 hf => ?_)
      · obtain ⟨hP, hD, hS, hl⟩ := hI
        refine lv_aload_n hx hb dX6_passNumber_69 rfl (lv_at hl 0 rfl) ?_
        refine lv_dup hx hb dX6_passNumber_70 rfl ?_
        refine va_get (D := D) (ci := 6) (v := .int u1) (C := RX6) (T := TX6) (N := 6) hx hb hts hinX6 hown hK.1 hP 0 rfl rfl 2 (by decide) hk22 (fun _ h9 => h9) rfl dX6_passNumber_71 ?_
        refine lv_iconst (v := 1) hx hb dX6_passNumber_74 (by decide) ?_
        refine lv_iadd hx hb dX6_passNumber_75 ?_
        refine va_put (D := D) (ci := 6) (v := .int (u1 + (1 : Int32))) (ty := .int) (C := RX6) (T := TX6) (N := 6) hx hb hts hinX6 tyX6 tyX6_ok nmX6 hown hK.1 hP hD hS 0 rfl rfl 2 (by decide) hk22 (fun _ h9 => h9) rfl (by decide +kernel) rfl rfl (Nat.le_of_ble_eq_true rfl) dX6_passNumber_76 (fun H locs hP hD hS => ?_)
        have hP : va_P D vwCl [(q_t, oX6 q_t_tape v_t_fault (u1 + (1 : Int32)) v_t_token v_t_start u8), (q_t_tape, oX4 q_t_tape_bytes v_t_tape_size), (q_t_tape_bytes, .inl (cy 0, 250, .inl v_t_tape_bytes))] H := hP
        have hD : va_D A [(q_t, oX6 q_t_tape v_t_fault (u1 + (1 : Int32)) v_t_token v_t_start u8), (q_t_tape, oX4 q_t_tape_bytes v_t_tape_size), (q_t_tape_bytes, .inl (cy 0, 250, .inl v_t_tape_bytes))] := hD
        refine lv_goto (tgt := 5) hx hb dX6_passNumber_79 (by decide) ?_
        exact L5 (u1 + (1 : Int32)) u8 _ _ ls ⟨hP, hD, hS, lv_sub hl [0] rfl⟩ hf
      · refine lv_icmp_ge (tgt := 69) hx hb dX6_passNumber_43 (by decide) (fun c12 => ?_) (fun c12 => ?_)
        · have hf := ifT hf c12
          clear c12
          exact J69 u2 _ _ ls ⟨hP, hD, hS, lv_sub hl [0] rfl⟩ hf
        · have hf := ifF hf c12
          clear c12
          refine lv_aload_n hx hb dX6_passNumber_46 rfl (lv_at hl 0 rfl) ?_
          refine lv_aload_n hx hb dX6_passNumber_47 rfl (lv_at hl 0 rfl) ?_
          refine va_get (D := D) (ci := 6) (v := .int u2) (C := RX6) (T := TX6) (N := 6) hx hb hts hinX6 hown hK.1 hP 0 rfl rfl 5 (by decide) hk101 (fun _ h9 => h9) rfl dX6_passNumber_48 ?_
          refine lv_bipush (v := 10) hx hb dX6_passNumber_51 (by decide) ?_
          refine lv_imul hx hb dX6_passNumber_53 ?_
          refine lv_aload_n hx hb dX6_passNumber_54 rfl (lv_at hl 0 rfl) ?_
          refine lv_aload_n hx hb dX6_passNumber_55 rfl (lv_at hl 0 rfl) ?_
          refine va_get (D := D) (ci := 6) (v := .int u1) (C := RX6) (T := TX6) (N := 6) hx hb hts hinX6 hown hK.1 hP 0 rfl rfl 2 (by decide) hk22 (fun _ h9 => h9) rfl dX6_passNumber_56 ?_
          obtain ⟨r10, hr11, hf⟩ := boE1 hf
          have hPc := hP.sub (ws' := [(q_t, oX6 q_t_tape v_t_fault u1 v_t_token v_t_start u2), (q_t_tape, oX4 q_t_tape_bytes v_t_tape_size), (q_t_tape_bytes, .inl (cy 0, 250, .inl v_t_tape_bytes))]) [0, 1, 2] rfl
          refine xcSi (va_runV (As := [.int u1]) (rest := [.int (u2 * (10 : Int32)), .ref q_t]) ⟨hx, hb, hml, hown, hts⟩ (mX6_letterAt l D cy q_t q_t_tape q_t_tape_bytes v_t_fault u1 v_t_token v_t_start u2 v_t_tape_size v_t_tape_bytes  u1 hr11) (cwV 1 hts gX6_passNumber_X6_letterAt rfl rfl rfl (by decide +kernel) ⟨Nat.le_of_ble_eq_true rfl, Nat.le_of_ble_eq_true rfl⟩) (xPV hK hPc (ci := 6) (q0 := 0) rfl rfl) rfl rfl hl.1 rfl (lv_room (Nat.le_of_ble_eq_true rfl)) dX6_passNumber_59 ⟨Nat.le_of_ble_eq_true rfl, Nat.le_of_ble_eq_true rfl⟩) ?_
          refine lv_iadd hx hb dX6_passNumber_62 ?_
          refine lv_bipush (v := 48) hx hb dX6_passNumber_63 (by decide) ?_
          refine lv_isub hx hb dX6_passNumber_65 ?_
          refine va_put (D := D) (ci := 6) (v := .int (((u2 * (10 : Int32)) + r10) - (48 : Int32))) (ty := .int) (C := RX6) (T := TX6) (N := 6) hx hb hts hinX6 tyX6 tyX6_ok nmX6 hown hK.1 hP hD hS 0 rfl rfl 5 (by decide) hk101 (fun _ h9 => h9) rfl (by decide +kernel) rfl rfl (Nat.le_of_ble_eq_true rfl) dX6_passNumber_66 (fun H locs hP hD hS => ?_)
          have hP : va_P D vwCl [(q_t, oX6 q_t_tape v_t_fault u1 v_t_token v_t_start (((u2 * (10 : Int32)) + r10) - (48 : Int32))), (q_t_tape, oX4 q_t_tape_bytes v_t_tape_size), (q_t_tape_bytes, .inl (cy 0, 250, .inl v_t_tape_bytes))] H := hP
          have hD : va_D A [(q_t, oX6 q_t_tape v_t_fault u1 v_t_token v_t_start (((u2 * (10 : Int32)) + r10) - (48 : Int32))), (q_t_tape, oX4 q_t_tape_bytes v_t_tape_size), (q_t_tape_bytes, .inl (cy 0, 250, .inl v_t_tape_bytes))] := hD
          exact J69 (((u2 * (10 : Int32)) + r10) - (48 : Int32)) _ _ ls ⟨hP, hD, hS, lv_sub hl [0] rfl⟩ hf
def fX6_takeToken (v_t_position : Int32) (v_t_value : Int32) (v_t_tape_size : Int32) (v_t_tape_bytes : Nat → Int32) : Option (Int32 × Int32 × Int32 × Int32) :=
  bo1 (fX6_skipBlanks v_t_position v_t_tape_size v_t_tape_bytes) fun u1 =>
  bo1 (fX6_letterAt v_t_tape_size v_t_tape_bytes u1) fun r3 =>
  if r3 = (-1 : Int32) then
    some (u1, (0 : Int32), u1, v_t_value)
  else
    bo1 (fX6_isLetter r3) fun r5 =>
    if r5 = 0 then
      bo1 (fX6_isDigit r3) fun r7 =>
      if r7 = 0 then
        jo1 (fun (y9 : Int32) =>
          some (u1 + (1 : Int32), y9, u1, v_t_value)) fun k10 =>
        if r3 = (59 : Int32) then
          k10 (3 : Int32)
        else
          k10 (4 : Int32)
      else
        bo2 (fX6_passNumber u1 u1 v_t_tape_size v_t_tape_bytes) fun u12 u13 =>
        jo1 (fun (y15 : Int32) =>
          some (u12, y15, u1, u13)) fun k16 =>
        if (u12 - u1) ≤ (3 : Int32) then
          k16 (2 : Int32)
        else
          k16 (4 : Int32)
    else
      bo1 (fX6_passWord u1 v_t_tape_size v_t_tape_bytes) fun u19 =>
      some (u19, (1 : Int32), u1, v_t_value)
set_option maxHeartbeats 4000000 in
set_option maxRecDepth 100000 in
theorem mX6_takeToken (l : Launch) (D : va_G) (cy : Nat → ClassId) (q_t q_t_tape q_t_tape_bytes : Nat) (v_t_fault : Int32) (v_t_position : Int32) (v_t_token : Int32) (v_t_start : Int32) (v_t_value : Int32) (v_t_tape_size : Int32) (v_t_tape_bytes : Nat → Int32) (sz : Nat) {n_t_position : Int32} {n_t_token : Int32} {n_t_start : Int32} {n_t_value : Int32} (hf : fX6_takeToken v_t_position v_t_value v_t_tape_size v_t_tape_bytes = some (n_t_position, n_t_token, n_t_start, n_t_value)) : Met l yX6_takeToken wsX6_takeToken ({ frames := 2, cells := 0, slots := 0, locals := 41 }) (va_Pc [.ref q_t] (fun U => U.heap.size = sz ∧ va_P D vwCl [(q_t, oX6 q_t_tape v_t_fault v_t_position v_t_token v_t_start v_t_value), (q_t_tape, oX4 q_t_tape_bytes v_t_tape_size), (q_t_tape_bytes, .inl (cy 0, 250, .inl v_t_tape_bytes))] U.heap ∧ xK D cy U ∧ va_D (fun _ => True) [(q_t, oX6 q_t_tape v_t_fault v_t_position v_t_token v_t_start v_t_value), (q_t_tape, oX4 q_t_tape_bytes v_t_tape_size), (q_t_tape_bytes, .inl (cy 0, 250, .inl v_t_tape_bytes))])) (va_Qv (fun (_ : Unit) => True) (fun _ t => va_P D vwCl [(q_t, oX6 q_t_tape v_t_fault n_t_position n_t_token n_t_start n_t_value), (q_t_tape, oX4 q_t_tape_bytes v_t_tape_size), (q_t_tape_bytes, .inl (cy 0, 250, .inl v_t_tape_bytes))] t.heap) (va_A [(q_t, oX6 q_t_tape v_t_fault v_t_position v_t_token v_t_start v_t_value), (q_t_tape, oX4 q_t_tape_bytes v_t_tape_size), (q_t_tape_bytes, .inl (cy 0, 250, .inl v_t_tape_bytes))] sz)) 0 0 (va_A [(q_t, oX6 q_t_tape v_t_fault v_t_position v_t_token v_t_start v_t_value), (q_t_tape, oX4 q_t_tape_bytes v_t_tape_size), (q_t_tape_bytes, .inl (cy 0, 250, .inl v_t_tape_bytes))] sz) := by
  refine Met.ofW (cc := cX6_takeToken) (maxL := 2) (ret := none) (by decide) rfl ?_
  intro p e s m args below meth c s₁ B hml hv
  obtain ⟨rfl, hsz, hP, hK, hD0⟩ := hv
  have hx := B.exec
  have hb := B.bytes
  have hr := B.returns
  have hts := atoms_spec (ws := wsX6_takeToken) B.pre
  have hown : s.vm.findClass RX6 = some m.cls := findClass_of_methodNamed B.named
  have hlocks := B.notSynchronized
  subst hsz
  have hD := hD0.self (sz := s.heap.size)
  generalize hAe : va_A [(q_t, oX6 q_t_tape v_t_fault v_t_position v_t_token v_t_start v_t_value), (q_t_tape, oX4 q_t_tape_bytes v_t_tape_size), (q_t_tape_bytes, .inl (cy 0, 250, .inl v_t_tape_bytes))] s.heap.size = A at hD ⊢
  have hA : ∀ q : Nat, s.heap.size ≤ q → A q := fun q h => by rw [← hAe]; exact Or.inr h
  have hS : va_S A s.heap s.heap [] := va_S.rf
  have hP : va_P D vwCl [(q_t, oX6 q_t_tape v_t_fault v_t_position v_t_token v_t_start v_t_value), (q_t_tape, oX4 q_t_tape_bytes v_t_tape_size), (q_t_tape_bytes, .inl (cy 0, 250, .inl v_t_tape_bytes))] s.heap := hP
  have hinX6 : ∀ w ∈ u_ws RX6 TX6 6, w ∈ wsX6_takeToken := by decide +kernel
  have hk22 := hts (.fieldLink RX6 22 "ShowsWhereNobodyIs$TownReader" "position" "I") (by decide +kernel)
  have hk35 := hts (.fieldLink RX6 35 "ShowsWhereNobodyIs$TownReader" "start" "I") (by decide +kernel)
  have hk32 := hts (.fieldLink RX6 32 "ShowsWhereNobodyIs$TownReader" "token" "I") (by decide +kernel)
  have hl := lv_entry ([.ref q_t]) (n := 2) (Nat.le_of_ble_eq_true rfl)
  rw [lg_entry_eq]
  generalize (lg_sl ([.ref q_t]) ++ List.replicate (2 - (lg_sl ([.ref q_t])).length) Slot.unset).toArray = ls at hl ⊢
  have hl : lv_has ls 2 [(0, .ref q_t)] := hl
  unfold fX6_takeToken at hf
  refine lv_aload_n hx hb dX6_takeToken_0 rfl (lv_at hl 0 rfl) ?_
  obtain ⟨u1, hr2, hf⟩ := boE1 hf
  have hPc := hP.sub (ws' := [(q_t, oX6 q_t_tape v_t_fault v_t_position v_t_token v_t_start v_t_value), (q_t_tape, oX4 q_t_tape_bytes v_t_tape_size), (q_t_tape_bytes, .inl (cy 0, 250, .inl v_t_tape_bytes))]) [0, 1, 2] rfl
  have hDc := hD.sub (ws' := [(q_t, oX6 q_t_tape v_t_fault v_t_position v_t_token v_t_start v_t_value), (q_t_tape, oX4 q_t_tape_bytes v_t_tape_size), (q_t_tape_bytes, .inl (cy 0, 250, .inl v_t_tape_bytes))]) [0, 1, 2] (by decide) rfl
  refine xcQv (w1 := [(q_t, oX6 q_t_tape v_t_fault u1 v_t_token v_t_start v_t_value), (q_t_tape, oX4 q_t_tape_bytes v_t_tape_size), (q_t_tape_bytes, .inl (cy 0, 250, .inl v_t_tape_bytes))]) (va_runV (As := []) (rest := []) ⟨hx, hb, hml, hown, hts⟩ (mX6_skipBlanks l D cy q_t q_t_tape q_t_tape_bytes v_t_fault v_t_position v_t_token v_t_start v_t_value v_t_tape_size v_t_tape_bytes _  hr2) (cwV 0 hts gX6_takeToken_X6_skipBlanks rfl rfl rfl (by decide +kernel) ⟨Nat.le_of_ble_eq_true rfl, Nat.le_of_ble_eq_true rfl⟩) (xPVw hK hPc hDc (ci := 6) (q0 := 0) rfl rfl) rfl rfl hl.1 rfl (lv_room (Nat.le_of_ble_eq_true rfl)) dX6_takeToken_1 ⟨Nat.le_of_ble_eq_true rfl, Nat.le_of_ble_eq_true rfl⟩) hP hD hS hA [0, 1, 2] rfl rfl (fun H locs hP hD hS => ?_)
  have hP : va_P D vwCl [(q_t, oX6 q_t_tape v_t_fault u1 v_t_token v_t_start v_t_value), (q_t_tape, oX4 q_t_tape_bytes v_t_tape_size), (q_t_tape_bytes, .inl (cy 0, 250, .inl v_t_tape_bytes))] H := hP
  have hD : va_D A [(q_t, oX6 q_t_tape v_t_fault u1 v_t_token v_t_start v_t_value), (q_t_tape, oX4 q_t_tape_bytes v_t_tape_size), (q_t_tape_bytes, .inl (cy 0, 250, .inl v_t_tape_bytes))] := hD
  refine lv_aload_n hx hb dX6_takeToken_4 rfl (lv_at hl 0 rfl) ?_
  refine lv_aload_n hx hb dX6_takeToken_5 rfl (lv_at hl 0 rfl) ?_
  refine va_get (D := D) (ci := 6) (v := .int u1) (C := RX6) (T := TX6) (N := 6) hx hb hts hinX6 hown hK.1 hP 0 rfl rfl 2 (by decide) hk22 (fun _ h9 => h9) rfl dX6_takeToken_6 ?_
  refine va_put (D := D) (ci := 6) (v := .int u1) (ty := .int) (C := RX6) (T := TX6) (N := 6) hx hb hts hinX6 tyX6 tyX6_ok nmX6 hown hK.1 hP hD hS 0 rfl rfl 4 (by decide) hk35 (fun _ h9 => h9) rfl (by decide +kernel) rfl rfl (Nat.le_of_ble_eq_true rfl) dX6_takeToken_9 (fun H locs hP hD hS => ?_)
  have hP : va_P D vwCl [(q_t, oX6 q_t_tape v_t_fault u1 v_t_token u1 v_t_value), (q_t_tape, oX4 q_t_tape_bytes v_t_tape_size), (q_t_tape_bytes, .inl (cy 0, 250, .inl v_t_tape_bytes))] H := hP
  have hD : va_D A [(q_t, oX6 q_t_tape v_t_fault u1 v_t_token u1 v_t_value), (q_t_tape, oX4 q_t_tape_bytes v_t_tape_size), (q_t_tape_bytes, .inl (cy 0, 250, .inl v_t_tape_bytes))] := hD
  refine lv_aload_n hx hb dX6_takeToken_12 rfl (lv_at hl 0 rfl) ?_
  refine lv_aload_n hx hb dX6_takeToken_13 rfl (lv_at hl 0 rfl) ?_
  refine va_get (D := D) (ci := 6) (v := .int u1) (C := RX6) (T := TX6) (N := 6) hx hb hts hinX6 hown hK.1 hP 0 rfl rfl 2 (by decide) hk22 (fun _ h9 => h9) rfl dX6_takeToken_14 ?_
  obtain ⟨r3, hr4, hf⟩ := boE1 hf
  have hPc := hP.sub (ws' := [(q_t, oX6 q_t_tape v_t_fault u1 v_t_token u1 v_t_value), (q_t_tape, oX4 q_t_tape_bytes v_t_tape_size), (q_t_tape_bytes, .inl (cy 0, 250, .inl v_t_tape_bytes))]) [0, 1, 2] rfl
  refine xcSi (va_runV (As := [.int u1]) (rest := []) ⟨hx, hb, hml, hown, hts⟩ (mX6_letterAt l D cy q_t q_t_tape q_t_tape_bytes v_t_fault u1 v_t_token u1 v_t_value v_t_tape_size v_t_tape_bytes  u1 hr4) (cwV 1 hts gX6_takeToken_X6_letterAt rfl rfl rfl (by decide +kernel) ⟨Nat.le_of_ble_eq_true rfl, Nat.le_of_ble_eq_true rfl⟩) (xPV hK hPc (ci := 6) (q0 := 0) rfl rfl) rfl rfl hl.1 rfl (lv_room (Nat.le_of_ble_eq_true rfl)) dX6_takeToken_17 ⟨Nat.le_of_ble_eq_true rfl, Nat.le_of_ble_eq_true rfl⟩) ?_
  refine lv_istore_n (lv' := [(1, .int r3), (0, .ref q_t)]) hx hb dX6_takeToken_20 rfl hl (by decide) rfl (fun ls hl => ?_)
  refine lv_iload_n hx hb dX6_takeToken_21 rfl (lv_at hl 0 rfl) ?_
  refine lv_iconst (v := (-1)) hx hb dX6_takeToken_22 (by decide) ?_
  refine lv_icmp_ne (tgt := 34) hx hb dX6_takeToken_23 (by decide) (fun c22 => ?_) (fun c22 => ?_)
  · have hf := ifF hf c22
    clear c22
    refine lv_iload_n hx hb dX6_takeToken_34 rfl (lv_at hl 0 rfl) ?_
    obtain ⟨r5, hr6, hf⟩ := boE1 hf
    have hPc := hP.sub (ws' := []) [] rfl
    refine xcSi (va_runS (As := [.int r3]) (rest := []) ⟨hx, hb, hml, hown, hts⟩ (mX6_isLetter l D cy    r3 hr6) (va_cwS 1 hts gX6_takeToken_X6_isLetter rfl rfl rfl (by decide +kernel) ⟨Nat.le_of_ble_eq_true rfl, Nat.le_of_ble_eq_true rfl⟩) (xPS hK hPc) rfl rfl hl.1 rfl (lv_room (Nat.le_of_ble_eq_true rfl)) dX6_takeToken_35 ⟨Nat.le_of_ble_eq_true rfl, Nat.le_of_ble_eq_true rfl⟩) ?_
    refine lv_if_eq (tgt := 53) hx hb dX6_takeToken_38 (by decide) (fun c21 => ?_) (fun c21 => ?_)
    · have hf := ifT hf c21
      clear c21
      refine lv_iload_n hx hb dX6_takeToken_53 rfl (lv_at hl 0 rfl) ?_
      obtain ⟨r7, hr8, hf⟩ := boE1 hf
      have hPc := hP.sub (ws' := []) [] rfl
      refine xcSi (va_runS (As := [.int r3]) (rest := []) ⟨hx, hb, hml, hown, hts⟩ (mX6_isDigit l D cy    r3 hr8) (va_cwS 1 hts gX6_takeToken_X6_isDigit rfl rfl rfl (by decide +kernel) ⟨Nat.le_of_ble_eq_true rfl, Nat.le_of_ble_eq_true rfl⟩) (xPS hK hPc) rfl rfl hl.1 rfl (lv_room (Nat.le_of_ble_eq_true rfl)) dX6_takeToken_54 ⟨Nat.le_of_ble_eq_true rfl, Nat.le_of_ble_eq_true rfl⟩) ?_
      refine lv_if_eq (tgt := 89) hx hb dX6_takeToken_57 (by decide) (fun c18 => ?_) (fun c18 => ?_)
      · have hf := ifT hf c18
        clear c18
        refine lv_aload_n hx hb dX6_takeToken_89 rfl (lv_at hl 1 rfl) ?_
        refine lv_iload_n hx hb dX6_takeToken_90 rfl (lv_at hl 0 rfl) ?_
        refine lv_bipush (v := 59) hx hb dX6_takeToken_91 (by decide) ?_
        refine jww1 101 (fun (y9 : Int32) => [.int y9, .ref q_t]) (fun (y9 : Int32) H locs ls => va_P D vwCl [(q_t, oX6 q_t_tape v_t_fault u1 v_t_token u1 v_t_value), (q_t_tape, oX4 q_t_tape_bytes v_t_tape_size), (q_t_tape_bytes, .inl (cy 0, 250, .inl v_t_tape_bytes))] H ∧ va_D A [(q_t, oX6 q_t_tape v_t_fault u1 v_t_token u1 v_t_value), (q_t_tape, oX4 q_t_tape_bytes v_t_tape_size), (q_t_tape_bytes, .inl (cy 0, 250, .inl v_t_tape_bytes))] ∧ va_S A s.heap H locs ∧ lv_has ls 2 [(0, .ref q_t)]) hf (fun y9 H locs ls hI hf => ?_) (fun k10 J101 hf => ?_)
        · obtain ⟨hP, hD, hS, hl⟩ := hI
          refine va_put (D := D) (ci := 6) (v := .int y9) (ty := .int) (C := RX6) (T := TX6) (N := 6) hx hb hts hinX6 tyX6 tyX6_ok nmX6 hown hK.1 hP hD hS 0 rfl rfl 3 (by decide) hk32 (fun _ h9 => h9) rfl (by decide +kernel) rfl rfl (Nat.le_of_ble_eq_true rfl) dX6_takeToken_101 (fun H locs hP hD hS => ?_)
          have hP : va_P D vwCl [(q_t, oX6 q_t_tape v_t_fault u1 y9 u1 v_t_value), (q_t_tape, oX4 q_t_tape_bytes v_t_tape_size), (q_t_tape_bytes, .inl (cy 0, 250, .inl v_t_tape_bytes))] H := hP
          have hD : va_D A [(q_t, oX6 q_t_tape v_t_fault u1 y9 u1 v_t_value), (q_t_tape, oX4 q_t_tape_bytes v_t_tape_size), (q_t_tape_bytes, .inl (cy 0, 250, .inl v_t_tape_bytes))] := hD
          refine lv_aload_n hx hb dX6_takeToken_104 rfl (lv_at hl 0 rfl) ?_
          refine lv_dup hx hb dX6_takeToken_105 rfl ?_
          refine va_get (D := D) (ci := 6) (v := .int u1) (C := RX6) (T := TX6) (N := 6) hx hb hts hinX6 hown hK.1 hP 0 rfl rfl 2 (by decide) hk22 (fun _ h9 => h9) rfl dX6_takeToken_106 ?_
          refine lv_iconst (v := 1) hx hb dX6_takeToken_109 (by decide) ?_
          refine lv_iadd hx hb dX6_takeToken_110 ?_
          refine va_put (D := D) (ci := 6) (v := .int (u1 + (1 : Int32))) (ty := .int) (C := RX6) (T := TX6) (N := 6) hx hb hts hinX6 tyX6 tyX6_ok nmX6 hown hK.1 hP hD hS 0 rfl rfl 2 (by decide) hk22 (fun _ h9 => h9) rfl (by decide +kernel) rfl rfl (Nat.le_of_ble_eq_true rfl) dX6_takeToken_111 (fun H locs hP hD hS => ?_)
          have hP : va_P D vwCl [(q_t, oX6 q_t_tape v_t_fault (u1 + (1 : Int32)) y9 u1 v_t_value), (q_t_tape, oX4 q_t_tape_bytes v_t_tape_size), (q_t_tape_bytes, .inl (cy 0, 250, .inl v_t_tape_bytes))] H := hP
          have hD : va_D A [(q_t, oX6 q_t_tape v_t_fault (u1 + (1 : Int32)) y9 u1 v_t_value), (q_t_tape, oX4 q_t_tape_bytes v_t_tape_size), (q_t_tape_bytes, .inl (cy 0, 250, .inl v_t_tape_bytes))] := hD
          cases hf
          exact W.vret hx hb hr (fun t ht hW => ⟨⟨(), rfl, trivial, xend ht hP⟩, hS.F ht⟩) hS.2.2 dX6_takeToken_114
        · refine lv_icmp_ne (tgt := 100) hx hb dX6_takeToken_93 (by decide) (fun c11 => ?_) (fun c11 => ?_)
          · have hf := ifF hf c11
            clear c11
            refine lv_iconst (v := 4) hx hb dX6_takeToken_100 (by decide) ?_
            exact J101 (4 : Int32) _ _ ls ⟨hP, hD, hS, lv_sub hl [1] rfl⟩ hf
          · have hf := ifT hf c11
            clear c11
            refine lv_iconst (v := 3) hx hb dX6_takeToken_96 (by decide) ?_
            refine lv_goto (tgt := 101) hx hb dX6_takeToken_97 (by decide) ?_
            exact J101 (3 : Int32) _ _ ls ⟨hP, hD, hS, lv_sub hl [1] rfl⟩ hf
      · have hf := ifF hf c18
        clear c18
        refine lv_aload_n hx hb dX6_takeToken_60 rfl (lv_at hl 1 rfl) ?_
        obtain ⟨u12, u13, hr14, hf⟩ := boE2 hf
        have hPc := hP.sub (ws' := [(q_t, oX6 q_t_tape v_t_fault u1 v_t_token u1 v_t_value), (q_t_tape, oX4 q_t_tape_bytes v_t_tape_size), (q_t_tape_bytes, .inl (cy 0, 250, .inl v_t_tape_bytes))]) [0, 1, 2] rfl
        have hDc := hD.sub (ws' := [(q_t, oX6 q_t_tape v_t_fault u1 v_t_token u1 v_t_value), (q_t_tape, oX4 q_t_tape_bytes v_t_tape_size), (q_t_tape_bytes, .inl (cy 0, 250, .inl v_t_tape_bytes))]) [0, 1, 2] (by decide) rfl
        refine xcQv (w1 := [(q_t, oX6 q_t_tape v_t_fault u12 v_t_token u1 u13), (q_t_tape, oX4 q_t_tape_bytes v_t_tape_size), (q_t_tape_bytes, .inl (cy 0, 250, .inl v_t_tape_bytes))]) (va_runV (As := []) (rest := []) ⟨hx, hb, hml, hown, hts⟩ (mX6_passNumber l D cy q_t q_t_tape q_t_tape_bytes v_t_fault u1 v_t_token u1 v_t_value v_t_tape_size v_t_tape_bytes _  hr14) (cwV 0 hts gX6_takeToken_X6_passNumber rfl rfl rfl (by decide +kernel) ⟨Nat.le_of_ble_eq_true rfl, Nat.le_of_ble_eq_true rfl⟩) (xPVw hK hPc hDc (ci := 6) (q0 := 0) rfl rfl) rfl rfl hl.1 rfl (lv_room (Nat.le_of_ble_eq_true rfl)) dX6_takeToken_61 ⟨Nat.le_of_ble_eq_true rfl, Nat.le_of_ble_eq_true rfl⟩) hP hD hS hA [0, 1, 2] rfl rfl (fun H locs hP hD hS => ?_)
        have hP : va_P D vwCl [(q_t, oX6 q_t_tape v_t_fault u12 v_t_token u1 u13), (q_t_tape, oX4 q_t_tape_bytes v_t_tape_size), (q_t_tape_bytes, .inl (cy 0, 250, .inl v_t_tape_bytes))] H := hP
        have hD : va_D A [(q_t, oX6 q_t_tape v_t_fault u12 v_t_token u1 u13), (q_t_tape, oX4 q_t_tape_bytes v_t_tape_size), (q_t_tape_bytes, .inl (cy 0, 250, .inl v_t_tape_bytes))] := hD
        refine lv_aload_n hx hb dX6_takeToken_64 rfl (lv_at hl 1 rfl) ?_
        refine lv_aload_n hx hb dX6_takeToken_65 rfl (lv_at hl 1 rfl) ?_
        refine va_get (D := D) (ci := 6) (v := .int u12) (C := RX6) (T := TX6) (N := 6) hx hb hts hinX6 hown hK.1 hP 0 rfl rfl 2 (by decide) hk22 (fun _ h9 => h9) rfl dX6_takeToken_66 ?_
        refine lv_aload_n hx hb dX6_takeToken_69 rfl (lv_at hl 1 rfl) ?_
        refine va_get (D := D) (ci := 6) (v := .int u1) (C := RX6) (T := TX6) (N := 6) hx hb hts hinX6 hown hK.1 hP 0 rfl rfl 4 (by decide) hk35 (fun _ h9 => h9) rfl dX6_takeToken_70 ?_
        refine lv_isub hx hb dX6_takeToken_73 ?_
        refine lv_iconst (v := 3) hx hb dX6_takeToken_74 (by decide) ?_
        refine jww1 83 (fun (y15 : Int32) => [.int y15, .ref q_t]) (fun (y15 : Int32) H locs ls => va_P D vwCl [(q_t, oX6 q_t_tape v_t_fault u12 v_t_token u1 u13), (q_t_tape, oX4 q_t_tape_bytes v_t_tape_size), (q_t_tape_bytes, .inl (cy 0, 250, .inl v_t_tape_bytes))] H ∧ va_D A [(q_t, oX6 q_t_tape v_t_fault u12 v_t_token u1 u13), (q_t_tape, oX4 q_t_tape_bytes v_t_tape_size), (q_t_tape_bytes, .inl (cy 0, 250, .inl v_t_tape_bytes))] ∧ va_S A s.heap H locs ∧ lv_has ls 2 []) hf (fun y15 H locs ls hI hf => ?_) (fun k16 J83 hf => ?_)
        · obtain ⟨hP, hD, hS, hl⟩ := hI
          refine va_put (D := D) (ci := 6) (v := .int y15) (ty := .int) (C := RX6) (T := TX6) (N := 6) hx hb hts hinX6 tyX6 tyX6_ok nmX6 hown hK.1 hP hD hS 0 rfl rfl 3 (by decide) hk32 (fun _ h9 => h9) rfl (by decide +kernel) rfl rfl (Nat.le_of_ble_eq_true rfl) dX6_takeToken_83 (fun H locs hP hD hS => ?_)
          have hP : va_P D vwCl [(q_t, oX6 q_t_tape v_t_fault u12 y15 u1 u13), (q_t_tape, oX4 q_t_tape_bytes v_t_tape_size), (q_t_tape_bytes, .inl (cy 0, 250, .inl v_t_tape_bytes))] H := hP
          have hD : va_D A [(q_t, oX6 q_t_tape v_t_fault u12 y15 u1 u13), (q_t_tape, oX4 q_t_tape_bytes v_t_tape_size), (q_t_tape_bytes, .inl (cy 0, 250, .inl v_t_tape_bytes))] := hD
          refine lv_goto (tgt := 114) hx hb dX6_takeToken_86 (by decide) ?_
          cases hf
          exact W.vret hx hb hr (fun t ht hW => ⟨⟨(), rfl, trivial, xend ht hP⟩, hS.F ht⟩) hS.2.2 dX6_takeToken_114
        · refine lv_icmp_le (tgt := 82) hx hb dX6_takeToken_75 (by decide) (fun c17 => ?_) (fun c17 => ?_)
          · have hf := ifT hf c17
            clear c17
            refine lv_iconst (v := 2) hx hb dX6_takeToken_82 (by decide) ?_
            exact J83 (2 : Int32) _ _ ls ⟨hP, hD, hS, lv_sub hl [] rfl⟩ hf
          · have hf := ifF hf c17
            clear c17
            refine lv_iconst (v := 4) hx hb dX6_takeToken_78 (by decide) ?_
            refine lv_goto (tgt := 83) hx hb dX6_takeToken_79 (by decide) ?_
            exact J83 (4 : Int32) _ _ ls ⟨hP, hD, hS, lv_sub hl [] rfl⟩ hf
    · have hf := ifF hf c21
      clear c21
      refine lv_aload_n hx hb dX6_takeToken_41 rfl (lv_at hl 1 rfl) ?_
      refine lv_iconst (v := 1) hx hb dX6_takeToken_42 (by decide) ?_
      refine va_put (D := D) (ci := 6) (v := .int (1 : Int32)) (ty := .int) (C := RX6) (T := TX6) (N := 6) hx hb hts hinX6 tyX6 tyX6_ok nmX6 hown hK.1 hP hD hS 0 rfl rfl 3 (by decide) hk32 (fun _ h9 => h9) rfl (by decide +kernel) rfl rfl (Nat.le_of_ble_eq_true rfl) dX6_takeToken_43 (fun H locs hP hD hS => ?_)
      have hP : va_P D vwCl [(q_t, oX6 q_t_tape v_t_fault u1 (1 : Int32) u1 v_t_value), (q_t_tape, oX4 q_t_tape_bytes v_t_tape_size), (q_t_tape_bytes, .inl (cy 0, 250, .inl v_t_tape_bytes))] H := hP
      have hD : va_D A [(q_t, oX6 q_t_tape v_t_fault u1 (1 : Int32) u1 v_t_value), (q_t_tape, oX4 q_t_tape_bytes v_t_tape_size), (q_t_tape_bytes, .inl (cy 0, 250, .inl v_t_tape_bytes))] := hD
      refine lv_aload_n hx hb dX6_takeToken_46 rfl (lv_at hl 1 rfl) ?_
      obtain ⟨u19, hr20, hf⟩ := boE1 hf
      have hPc := hP.sub (ws' := [(q_t, oX6 q_t_tape v_t_fault u1 (1 : Int32) u1 v_t_value), (q_t_tape, oX4 q_t_tape_bytes v_t_tape_size), (q_t_tape_bytes, .inl (cy 0, 250, .inl v_t_tape_bytes))]) [0, 1, 2] rfl
      have hDc := hD.sub (ws' := [(q_t, oX6 q_t_tape v_t_fault u1 (1 : Int32) u1 v_t_value), (q_t_tape, oX4 q_t_tape_bytes v_t_tape_size), (q_t_tape_bytes, .inl (cy 0, 250, .inl v_t_tape_bytes))]) [0, 1, 2] (by decide) rfl
      refine xcQv (w1 := [(q_t, oX6 q_t_tape v_t_fault u19 (1 : Int32) u1 v_t_value), (q_t_tape, oX4 q_t_tape_bytes v_t_tape_size), (q_t_tape_bytes, .inl (cy 0, 250, .inl v_t_tape_bytes))]) (va_runV (As := []) (rest := []) ⟨hx, hb, hml, hown, hts⟩ (mX6_passWord l D cy q_t q_t_tape q_t_tape_bytes v_t_fault u1 (1 : Int32) u1 v_t_value v_t_tape_size v_t_tape_bytes _  hr20) (cwV 0 hts gX6_takeToken_X6_passWord rfl rfl rfl (by decide +kernel) ⟨Nat.le_of_ble_eq_true rfl, Nat.le_of_ble_eq_true rfl⟩) (xPVw hK hPc hDc (ci := 6) (q0 := 0) rfl rfl) rfl rfl hl.1 rfl (lv_room (Nat.le_of_ble_eq_true rfl)) dX6_takeToken_47 ⟨Nat.le_of_ble_eq_true rfl, Nat.le_of_ble_eq_true rfl⟩) hP hD hS hA [0, 1, 2] rfl rfl (fun H locs hP hD hS => ?_)
      have hP : va_P D vwCl [(q_t, oX6 q_t_tape v_t_fault u19 (1 : Int32) u1 v_t_value), (q_t_tape, oX4 q_t_tape_bytes v_t_tape_size), (q_t_tape_bytes, .inl (cy 0, 250, .inl v_t_tape_bytes))] H := hP
      have hD : va_D A [(q_t, oX6 q_t_tape v_t_fault u19 (1 : Int32) u1 v_t_value), (q_t_tape, oX4 q_t_tape_bytes v_t_tape_size), (q_t_tape_bytes, .inl (cy 0, 250, .inl v_t_tape_bytes))] := hD
      refine lv_goto (tgt := 114) hx hb dX6_takeToken_50 (by decide) ?_
      cases hf
      exact W.vret hx hb hr (fun t ht hW => ⟨⟨(), rfl, trivial, xend ht hP⟩, hS.F ht⟩) hS.2.2 dX6_takeToken_114
  · have hf := ifT hf c22
    clear c22
    refine lv_aload_n hx hb dX6_takeToken_26 rfl (lv_at hl 1 rfl) ?_
    refine lv_iconst (v := 0) hx hb dX6_takeToken_27 (by decide) ?_
    refine va_put (D := D) (ci := 6) (v := .int (0 : Int32)) (ty := .int) (C := RX6) (T := TX6) (N := 6) hx hb hts hinX6 tyX6 tyX6_ok nmX6 hown hK.1 hP hD hS 0 rfl rfl 3 (by decide) hk32 (fun _ h9 => h9) rfl (by decide +kernel) rfl rfl (Nat.le_of_ble_eq_true rfl) dX6_takeToken_28 (fun H locs hP hD hS => ?_)
    have hP : va_P D vwCl [(q_t, oX6 q_t_tape v_t_fault u1 (0 : Int32) u1 v_t_value), (q_t_tape, oX4 q_t_tape_bytes v_t_tape_size), (q_t_tape_bytes, .inl (cy 0, 250, .inl v_t_tape_bytes))] H := hP
    have hD : va_D A [(q_t, oX6 q_t_tape v_t_fault u1 (0 : Int32) u1 v_t_value), (q_t_tape, oX4 q_t_tape_bytes v_t_tape_size), (q_t_tape_bytes, .inl (cy 0, 250, .inl v_t_tape_bytes))] := hD
    refine lv_goto (tgt := 114) hx hb dX6_takeToken_31 (by decide) ?_
    cases hf
    exact W.vret hx hb hr (fun t ht hW => ⟨⟨(), rfl, trivial, xend ht hP⟩, hS.F ht⟩) hS.2.2 dX6_takeToken_114
def fX6_isWord (v_t_position : Int32) (v_t_token : Int32) (v_t_start : Int32) (v_t_tape_size : Int32) (v_t_tape_bytes : Nat → Int32) (w0 : Nat) : Option (Int32) :=
  if v_t_token = (1 : Int32) then
    if (v_t_position - v_t_start) = (Int32.ofNat (xSl w0)) then
      lo1 (fun g2 (x1 : Int32) =>
        if (Int32.ofNat (xSl w0)) ≤ x1 then
          some (1 : Int32)
        else
          bo1 (fX6_letterAt v_t_tape_size v_t_tape_bytes (v_t_start + x1)) fun r3 =>
          if x1 < 0 ∨ xSl w0 ≤ x1.toNatClampNeg then none else
          if r3 = (xSc w0 x1.toNatClampNeg) then
            vlet (x1 + (1 : Int32)) fun x6 =>
            g2 x6
          else
            some (0 : Int32)) 400 (0 : Int32)
    else
      some (0 : Int32)
  else
    some (0 : Int32)
set_option maxHeartbeats 4000000 in
set_option maxRecDepth 100000 in
theorem mX6_isWord (l : Launch) (D : va_G) (cy : Nat → ClassId) (q_t q_t_tape q_t_tape_bytes : Nat) (adK adV : Nat → Nat) (v_t_fault : Int32) (v_t_position : Int32) (v_t_token : Int32) (v_t_start : Int32) (v_t_value : Int32) (v_t_tape_size : Int32) (v_t_tape_bytes : Nat → Int32) (w0 : Nat) (hw0 : w0 < 7) {r_ : Int32} (hf : fX6_isWord v_t_position v_t_token v_t_start v_t_tape_size v_t_tape_bytes w0 = some r_) : Met l yX6_isWord wsX6_isWord ({ frames := 4, cells := 0, slots := 0, locals := 85 }) (va_Pc [.ref q_t, .ref (adK w0)] (fun U => va_P D vwCl [(q_t, oX6 q_t_tape v_t_fault v_t_position v_t_token v_t_start v_t_value), (q_t_tape, oX4 q_t_tape_bytes v_t_tape_size), (q_t_tape_bytes, .inl (cy 0, 250, .inl v_t_tape_bytes))] U.heap ∧ xK D cy U ∧ xStr adK adV xNo U U.heap ∧ xRef adK U)) (vp_Si (fun x => x = r_)) 0 0 (fun _ => False) := by
  refine Met.ofW (cc := cX6_isWord) (maxL := 3) (ret := (some .boolean)) (by decide) rfl ?_
  intro p e s m args below meth c s₁ B hml hv
  obtain ⟨rfl, hP, hK, hE, hR⟩ := hv
  have hx := B.exec
  have hb := B.bytes
  have hr := B.returns
  have hts := atoms_spec (ws := wsX6_isWord) B.pre
  have hown : s.vm.findClass RX6 = some m.cls := findClass_of_methodNamed B.named
  have hlocks := B.notSynchronized
  have hP : va_P D vwCl [(q_t, oX6 q_t_tape v_t_fault v_t_position v_t_token v_t_start v_t_value), (q_t_tape, oX4 q_t_tape_bytes v_t_tape_size), (q_t_tape_bytes, .inl (cy 0, 250, .inl v_t_tape_bytes))] s.heap := hP
  have hS : va_S xNo s.heap s.heap [] := va_S.rf
  have hinX6 : ∀ w ∈ u_ws RX6 TX6 6, w ∈ wsX6_isWord := by decide +kernel
  have hk32 := hts (.fieldLink RX6 32 "ShowsWhereNobodyIs$TownReader" "token" "I") (by decide +kernel)
  have hk22 := hts (.fieldLink RX6 22 "ShowsWhereNobodyIs$TownReader" "position" "I") (by decide +kernel)
  have hk35 := hts (.fieldLink RX6 35 "ShowsWhereNobodyIs$TownReader" "start" "I") (by decide +kernel)
  have hl := lv_entry ([.ref q_t, .ref (adK w0)]) (n := 3) (Nat.le_of_ble_eq_true rfl)
  rw [lg_entry_eq]
  generalize (lg_sl ([.ref q_t, .ref (adK w0)]) ++ List.replicate (3 - (lg_sl ([.ref q_t, .ref (adK w0)])).length) Slot.unset).toArray = ls at hl ⊢
  have hl : lv_has ls 3 [(0, .ref q_t), (1, .ref (adK w0))] := hl
  unfold fX6_isWord at hf
  refine lv_aload_n hx hb dX6_isWord_0 rfl (lv_at hl 0 rfl) ?_
  refine va_get (D := D) (ci := 6) (v := .int v_t_token) (C := RX6) (T := TX6) (N := 6) hx hb hts hinX6 hown hK.1 hP 0 rfl rfl 3 (by decide) hk32 (fun _ h9 => h9) rfl dX6_isWord_1 ?_
  refine lv_iconst (v := 1) hx hb dX6_isWord_4 (by decide) ?_
  refine lv_icmp_ne (tgt := 24) hx hb dX6_isWord_5 (by decide) (fun c10 => ?_) (fun c10 => ?_)
  · have hf := ifF hf c10
    clear c10
    refine lv_iconst (v := 0) hx hb dX6_isWord_24 (by decide) ?_
    exact W.zret (v := (0 : Int32)) hx hb hr rfl (fun t ht hW => ⟨(0 : Int32), rfl, Option.some.inj hf, ht⟩) (fun q h => nomatch h) dX6_isWord_25
  · have hf := ifT hf c10
    clear c10
    refine lv_aload_n hx hb dX6_isWord_8 rfl (lv_at hl 0 rfl) ?_
    refine va_get (D := D) (ci := 6) (v := .int v_t_position) (C := RX6) (T := TX6) (N := 6) hx hb hts hinX6 hown hK.1 hP 0 rfl rfl 2 (by decide) hk22 (fun _ h9 => h9) rfl dX6_isWord_9 ?_
    refine lv_aload_n hx hb dX6_isWord_12 rfl (lv_at hl 0 rfl) ?_
    refine va_get (D := D) (ci := 6) (v := .int v_t_start) (C := RX6) (T := TX6) (N := 6) hx hb hts hinX6 hown hK.1 hP 0 rfl rfl 4 (by decide) hk35 (fun _ h9 => h9) rfl dX6_isWord_13 ?_
    refine lv_isub hx hb dX6_isWord_16 ?_
    refine lv_aload_n hx hb dX6_isWord_17 rfl (lv_at hl 1 rfl) ?_
    refine xcSi (va_runV (As := []) (rest := [.int (v_t_position - v_t_start)]) ⟨hx, hb, hml, hown, hts⟩ (mJ0_length l adK adV w0 hw0) (cwV 0 hts gX6_isWord_J0_length_8abf5 rfl rfl rfl (by decide +kernel) ⟨Nat.le_of_ble_eq_true rfl, Nat.le_of_ble_eq_true rfl⟩) (xStrV hw0 hE) rfl rfl hl.1 rfl (lv_room (Nat.le_of_ble_eq_true rfl)) dX6_isWord_18 ⟨Nat.le_of_ble_eq_true rfl, Nat.le_of_ble_eq_true rfl⟩) ?_
    refine lv_icmp_eq (tgt := 26) hx hb dX6_isWord_21 (by decide) (fun c9 => ?_) (fun c9 => ?_)
    · have hf := ifT hf c9
      clear c9
      refine lv_iconst (v := 0) hx hb dX6_isWord_26 (by decide) ?_
      refine lv_istore_n (lv' := [(2, .int (0 : Int32)), (0, .ref q_t), (1, .ref (adK w0))]) hx hb dX6_isWord_27 rfl hl (by decide) rfl (fun ls hl => ?_)
      refine wlr1 28 (fun _ => []) (fun (x1 : Int32) ls => lv_has ls 3 [(2, .int x1), (0, .ref q_t), (1, .ref (adK w0))]) (fun g2 L28 x1 ls hl hf => ?_) 400 (0 : Int32) ls (lv_sub hl [0, 1, 2] rfl) hf
      refine lv_iload_n hx hb dX6_isWord_28 rfl (lv_at hl 0 rfl) ?_
      refine lv_aload_n hx hb dX6_isWord_29 rfl (lv_at hl 2 rfl) ?_
      refine xcSi (va_runV (As := []) (rest := [.int x1]) ⟨hx, hb, hml, hown, hts⟩ (mJ0_length l adK adV w0 hw0) (cwV 0 hts gX6_isWord_J0_length_8abf5 rfl rfl rfl (by decide +kernel) ⟨Nat.le_of_ble_eq_true rfl, Nat.le_of_ble_eq_true rfl⟩) (xStrV hw0 hE) rfl rfl hl.1 rfl (lv_room (Nat.le_of_ble_eq_true rfl)) dX6_isWord_30 ⟨Nat.le_of_ble_eq_true rfl, Nat.le_of_ble_eq_true rfl⟩) ?_
      refine lv_icmp_ge (tgt := 62) hx hb dX6_isWord_33 (by decide) (fun c8 => ?_) (fun c8 => ?_)
      · have hf := ifT hf c8
        clear c8
        refine lv_iconst (v := 1) hx hb dX6_isWord_62 (by decide) ?_
        exact W.zret (v := (1 : Int32)) hx hb hr rfl (fun t ht hW => ⟨(1 : Int32), rfl, Option.some.inj hf, ht⟩) (fun q h => nomatch h) dX6_isWord_63
      · have hf := ifF hf c8
        clear c8
        refine lv_aload_n hx hb dX6_isWord_36 rfl (lv_at hl 1 rfl) ?_
        refine lv_aload_n hx hb dX6_isWord_37 rfl (lv_at hl 1 rfl) ?_
        refine va_get (D := D) (ci := 6) (v := .int v_t_start) (C := RX6) (T := TX6) (N := 6) hx hb hts hinX6 hown hK.1 hP 0 rfl rfl 4 (by decide) hk35 (fun _ h9 => h9) rfl dX6_isWord_38 ?_
        refine lv_iload_n hx hb dX6_isWord_41 rfl (lv_at hl 0 rfl) ?_
        refine lv_iadd hx hb dX6_isWord_42 ?_
        obtain ⟨r3, hr4, hf⟩ := boE1 hf
        have hPc := hP.sub (ws' := [(q_t, oX6 q_t_tape v_t_fault v_t_position v_t_token v_t_start v_t_value), (q_t_tape, oX4 q_t_tape_bytes v_t_tape_size), (q_t_tape_bytes, .inl (cy 0, 250, .inl v_t_tape_bytes))]) [0, 1, 2] rfl
        refine xcSi (va_runV (As := [.int (v_t_start + x1)]) (rest := []) ⟨hx, hb, hml, hown, hts⟩ (mX6_letterAt l D cy q_t q_t_tape q_t_tape_bytes v_t_fault v_t_position v_t_token v_t_start v_t_value v_t_tape_size v_t_tape_bytes  (v_t_start + x1) hr4) (cwV 1 hts gX6_isWord_X6_letterAt rfl rfl rfl (by decide +kernel) ⟨Nat.le_of_ble_eq_true rfl, Nat.le_of_ble_eq_true rfl⟩) (xPV hK hPc (ci := 6) (q0 := 0) rfl rfl) rfl rfl hl.1 rfl (lv_room (Nat.le_of_ble_eq_true rfl)) dX6_isWord_43 ⟨Nat.le_of_ble_eq_true rfl, Nat.le_of_ble_eq_true rfl⟩) ?_
        refine lv_aload_n hx hb dX6_isWord_46 rfl (lv_at hl 2 rfl) ?_
        refine lv_iload_n hx hb dX6_isWord_47 rfl (lv_at hl 0 rfl) ?_
        obtain ⟨hi5, hf⟩ := ckE hf
        refine xcSi (va_runV (As := [.int x1]) (rest := [.int r3]) ⟨hx, hb, hml, hown, hts⟩ (mJ0_charAt l adK adV w0 hw0 x1 hi5) (cwV 1 hts gX6_isWord_J0_charAt_5068e rfl rfl rfl (by decide +kernel) ⟨Nat.le_of_ble_eq_true rfl, Nat.le_of_ble_eq_true rfl⟩) (xStrV hw0 hE) rfl rfl hl.1 rfl (lv_room (Nat.le_of_ble_eq_true rfl)) dX6_isWord_48 ⟨Nat.le_of_ble_eq_true rfl, Nat.le_of_ble_eq_true rfl⟩) ?_
        refine lv_icmp_eq (tgt := 56) hx hb dX6_isWord_51 (by decide) (fun c7 => ?_) (fun c7 => ?_)
        · have hf := ifT hf c7
          clear c7
          obtain ⟨x6, ex6⟩ : ∃ y : Int32, y = x1 + (1 : Int32) := ⟨_, rfl⟩
          have hf := vlE hf ex6
          refine lv_iinc (v := x6) (lv' := [(2, .int x6), (0, .ref q_t), (1, .ref (adK w0))]) hx hb dX6_isWord_56 hl (k := 0) rfl (by rw [ex6]; rfl) (by decide) rfl (fun ls hl => ?_)
          clear ex6
          refine lv_goto (tgt := 28) hx hb dX6_isWord_59 (by decide) ?_
          exact L28 x6 ls (lv_sub hl [0, 1, 2] rfl) hf
        · have hf := ifF hf c7
          clear c7
          refine lv_iconst (v := 0) hx hb dX6_isWord_54 (by decide) ?_
          exact W.zret (v := (0 : Int32)) hx hb hr rfl (fun t ht hW => ⟨(0 : Int32), rfl, Option.some.inj hf, ht⟩) (fun q h => nomatch h) dX6_isWord_55
    · have hf := ifF hf c9
      clear c9
      refine lv_iconst (v := 0) hx hb dX6_isWord_24 (by decide) ?_
      exact W.zret (v := (0 : Int32)) hx hb hr rfl (fun t ht hW => ⟨(0 : Int32), rfl, Option.some.inj hf, ht⟩) (fun q h => nomatch h) dX6_isWord_25
def fX6_takeNumber (v_t_fault : Int32) (v_t_position : Int32) (v_t_token : Int32) (v_t_start : Int32) (v_t_value : Int32) (v_t_tape_size : Int32) (v_t_tape_bytes : Nat → Int32) (p0 : Int32) (p1 : Int32) : Option (Int32 × Int32 × Int32 × Int32 × Int32 × Int32) :=
  if v_t_fault = (-1 : Int32) then
    bo4 (fX6_takeToken v_t_position v_t_value v_t_tape_size v_t_tape_bytes) fun u1 u2 u3 u4 =>
    jo0 (
      some ((-1 : Int32), u3, u1, u2, u3, u4)) fun k6 =>
    if u2 = (2 : Int32) then
      if u4 < p0 then
        k6
      else
        if u4 ≤ p1 then
          some (u4, v_t_fault, u1, u2, u3, u4)
        else
          k6
    else
      k6
  else
    some ((-1 : Int32), v_t_fault, v_t_position, v_t_token, v_t_start, v_t_value)
set_option maxHeartbeats 4000000 in
set_option maxRecDepth 100000 in
theorem mX6_takeNumber (l : Launch) (D : va_G) (cy : Nat → ClassId) (q_t q_t_tape q_t_tape_bytes : Nat) (v_t_fault : Int32) (v_t_position : Int32) (v_t_token : Int32) (v_t_start : Int32) (v_t_value : Int32) (v_t_tape_size : Int32) (v_t_tape_bytes : Nat → Int32) (sz : Nat) (p0 : Int32) (p1 : Int32) {r_ : Int32} {n_t_fault : Int32} {n_t_position : Int32} {n_t_token : Int32} {n_t_start : Int32} {n_t_value : Int32} (hf : fX6_takeNumber v_t_fault v_t_position v_t_token v_t_start v_t_value v_t_tape_size v_t_tape_bytes p0 p1 = some (r_, n_t_fault, n_t_position, n_t_token, n_t_start, n_t_value)) : Met l yX6_takeNumber wsX6_takeNumber ({ frames := 3, cells := 0, slots := 0, locals := 62 }) (va_Pc [.ref q_t, .int p0, .int p1] (fun U => U.heap.size = sz ∧ va_P D vwCl [(q_t, oX6 q_t_tape v_t_fault v_t_position v_t_token v_t_start v_t_value), (q_t_tape, oX4 q_t_tape_bytes v_t_tape_size), (q_t_tape_bytes, .inl (cy 0, 250, .inl v_t_tape_bytes))] U.heap ∧ xK D cy U ∧ va_D (fun _ => True) [(q_t, oX6 q_t_tape v_t_fault v_t_position v_t_token v_t_start v_t_value), (q_t_tape, oX4 q_t_tape_bytes v_t_tape_size), (q_t_tape_bytes, .inl (cy 0, 250, .inl v_t_tape_bytes))])) (va_Qi (fun (x : Int32) (_ : Unit) => x = r_) (fun _ t => va_P D vwCl [(q_t, oX6 q_t_tape n_t_fault n_t_position n_t_token n_t_start n_t_value), (q_t_tape, oX4 q_t_tape_bytes v_t_tape_size), (q_t_tape_bytes, .inl (cy 0, 250, .inl v_t_tape_bytes))] t.heap) (va_A [(q_t, oX6 q_t_tape v_t_fault v_t_position v_t_token v_t_start v_t_value), (q_t_tape, oX4 q_t_tape_bytes v_t_tape_size), (q_t_tape_bytes, .inl (cy 0, 250, .inl v_t_tape_bytes))] sz)) 0 0 (va_A [(q_t, oX6 q_t_tape v_t_fault v_t_position v_t_token v_t_start v_t_value), (q_t_tape, oX4 q_t_tape_bytes v_t_tape_size), (q_t_tape_bytes, .inl (cy 0, 250, .inl v_t_tape_bytes))] sz) := by
  refine Met.ofW (cc := cX6_takeNumber) (maxL := 3) (ret := (some .int)) (by decide) rfl ?_
  intro p e s m args below meth c s₁ B hml hv
  obtain ⟨rfl, hsz, hP, hK, hD0⟩ := hv
  have hx := B.exec
  have hb := B.bytes
  have hr := B.returns
  have hts := atoms_spec (ws := wsX6_takeNumber) B.pre
  have hown : s.vm.findClass RX6 = some m.cls := findClass_of_methodNamed B.named
  have hlocks := B.notSynchronized
  subst hsz
  have hD := hD0.self (sz := s.heap.size)
  generalize hAe : va_A [(q_t, oX6 q_t_tape v_t_fault v_t_position v_t_token v_t_start v_t_value), (q_t_tape, oX4 q_t_tape_bytes v_t_tape_size), (q_t_tape_bytes, .inl (cy 0, 250, .inl v_t_tape_bytes))] s.heap.size = A at hD ⊢
  have hA : ∀ q : Nat, s.heap.size ≤ q → A q := fun q h => by rw [← hAe]; exact Or.inr h
  have hS : va_S A s.heap s.heap [] := va_S.rf
  have hP : va_P D vwCl [(q_t, oX6 q_t_tape v_t_fault v_t_position v_t_token v_t_start v_t_value), (q_t_tape, oX4 q_t_tape_bytes v_t_tape_size), (q_t_tape_bytes, .inl (cy 0, 250, .inl v_t_tape_bytes))] s.heap := hP
  have hinX6 : ∀ w ∈ u_ws RX6 TX6 6, w ∈ wsX6_takeNumber := by decide +kernel
  have hk18 := hts (.fieldLink RX6 18 "ShowsWhereNobodyIs$TownReader" "fault" "I") (by decide +kernel)
  have hk32 := hts (.fieldLink RX6 32 "ShowsWhereNobodyIs$TownReader" "token" "I") (by decide +kernel)
  have hk35 := hts (.fieldLink RX6 35 "ShowsWhereNobodyIs$TownReader" "start" "I") (by decide +kernel)
  have hk101 := hts (.fieldLink RX6 101 "ShowsWhereNobodyIs$TownReader" "value" "I") (by decide +kernel)
  have hl := lv_entry ([.ref q_t, .int p0, .int p1]) (n := 3) (Nat.le_of_ble_eq_true rfl)
  rw [lg_entry_eq]
  generalize (lg_sl ([.ref q_t, .int p0, .int p1]) ++ List.replicate (3 - (lg_sl ([.ref q_t, .int p0, .int p1])).length) Slot.unset).toArray = ls at hl ⊢
  have hl : lv_has ls 3 [(0, .ref q_t), (1, .int p0), (2, .int p1)] := hl
  unfold fX6_takeNumber at hf
  refine lv_aload_n hx hb dX6_takeNumber_0 rfl (lv_at hl 0 rfl) ?_
  refine va_get (D := D) (ci := 6) (v := .int v_t_fault) (C := RX6) (T := TX6) (N := 6) hx hb hts hinX6 hown hK.1 hP 0 rfl rfl 1 (by decide) hk18 (fun _ h9 => h9) rfl dX6_takeNumber_1 ?_
  refine lv_iconst (v := (-1)) hx hb dX6_takeNumber_4 (by decide) ?_
  refine lv_icmp_eq (tgt := 10) hx hb dX6_takeNumber_5 (by decide) (fun c10 => ?_) (fun c10 => ?_)
  · have hf := ifT hf c10
    clear c10
    refine lv_aload_n hx hb dX6_takeNumber_10 rfl (lv_at hl 0 rfl) ?_
    obtain ⟨u1, u2, u3, u4, hr5, hf⟩ := boE4 hf
    have hPc := hP.sub (ws' := [(q_t, oX6 q_t_tape v_t_fault v_t_position v_t_token v_t_start v_t_value), (q_t_tape, oX4 q_t_tape_bytes v_t_tape_size), (q_t_tape_bytes, .inl (cy 0, 250, .inl v_t_tape_bytes))]) [0, 1, 2] rfl
    have hDc := hD.sub (ws' := [(q_t, oX6 q_t_tape v_t_fault v_t_position v_t_token v_t_start v_t_value), (q_t_tape, oX4 q_t_tape_bytes v_t_tape_size), (q_t_tape_bytes, .inl (cy 0, 250, .inl v_t_tape_bytes))]) [0, 1, 2] (by decide) rfl
    refine xcQv (w1 := [(q_t, oX6 q_t_tape v_t_fault u1 u2 u3 u4), (q_t_tape, oX4 q_t_tape_bytes v_t_tape_size), (q_t_tape_bytes, .inl (cy 0, 250, .inl v_t_tape_bytes))]) (va_runV (As := []) (rest := []) ⟨hx, hb, hml, hown, hts⟩ (mX6_takeToken l D cy q_t q_t_tape q_t_tape_bytes v_t_fault v_t_position v_t_token v_t_start v_t_value v_t_tape_size v_t_tape_bytes _  hr5) (cwV 0 hts gX6_takeNumber_X6_takeToken rfl rfl rfl (by decide +kernel) ⟨Nat.le_of_ble_eq_true rfl, Nat.le_of_ble_eq_true rfl⟩) (xPVw hK hPc hDc (ci := 6) (q0 := 0) rfl rfl) rfl rfl hl.1 rfl (lv_room (Nat.le_of_ble_eq_true rfl)) dX6_takeNumber_11 ⟨Nat.le_of_ble_eq_true rfl, Nat.le_of_ble_eq_true rfl⟩) hP hD hS hA [0, 1, 2] rfl rfl (fun H locs hP hD hS => ?_)
    have hP : va_P D vwCl [(q_t, oX6 q_t_tape v_t_fault u1 u2 u3 u4), (q_t_tape, oX4 q_t_tape_bytes v_t_tape_size), (q_t_tape_bytes, .inl (cy 0, 250, .inl v_t_tape_bytes))] H := hP
    have hD : va_D A [(q_t, oX6 q_t_tape v_t_fault u1 u2 u3 u4), (q_t_tape, oX4 q_t_tape_bytes v_t_tape_size), (q_t_tape_bytes, .inl (cy 0, 250, .inl v_t_tape_bytes))] := hD
    refine lv_aload_n hx hb dX6_takeNumber_14 rfl (lv_at hl 0 rfl) ?_
    refine va_get (D := D) (ci := 6) (v := .int u2) (C := RX6) (T := TX6) (N := 6) hx hb hts hinX6 hown hK.1 hP 0 rfl rfl 3 (by decide) hk32 (fun _ h9 => h9) rfl dX6_takeNumber_15 ?_
    refine lv_iconst (v := 2) hx hb dX6_takeNumber_18 (by decide) ?_
    refine jww0 38 [] (fun  H locs ls => va_P D vwCl [(q_t, oX6 q_t_tape v_t_fault u1 u2 u3 u4), (q_t_tape, oX4 q_t_tape_bytes v_t_tape_size), (q_t_tape_bytes, .inl (cy 0, 250, .inl v_t_tape_bytes))] H ∧ va_D A [(q_t, oX6 q_t_tape v_t_fault u1 u2 u3 u4), (q_t_tape, oX4 q_t_tape_bytes v_t_tape_size), (q_t_tape_bytes, .inl (cy 0, 250, .inl v_t_tape_bytes))] ∧ va_S A s.heap H locs ∧ lv_has ls 3 [(0, .ref q_t)]) hf (fun  H locs ls hI hf => ?_) (fun k6 J38 hf => ?_)
    · obtain ⟨hP, hD, hS, hl⟩ := hI
      refine lv_aload_n hx hb dX6_takeNumber_38 rfl (lv_at hl 0 rfl) ?_
      refine lv_aload_n hx hb dX6_takeNumber_39 rfl (lv_at hl 0 rfl) ?_
      refine va_get (D := D) (ci := 6) (v := .int u3) (C := RX6) (T := TX6) (N := 6) hx hb hts hinX6 hown hK.1 hP 0 rfl rfl 4 (by decide) hk35 (fun _ h9 => h9) rfl dX6_takeNumber_40 ?_
      refine va_put (D := D) (ci := 6) (v := .int u3) (ty := .int) (C := RX6) (T := TX6) (N := 6) hx hb hts hinX6 tyX6 tyX6_ok nmX6 hown hK.1 hP hD hS 0 rfl rfl 1 (by decide) hk18 (fun _ h9 => h9) rfl (by decide +kernel) rfl rfl (Nat.le_of_ble_eq_true rfl) dX6_takeNumber_43 (fun H locs hP hD hS => ?_)
      have hP : va_P D vwCl [(q_t, oX6 q_t_tape u3 u1 u2 u3 u4), (q_t_tape, oX4 q_t_tape_bytes v_t_tape_size), (q_t_tape_bytes, .inl (cy 0, 250, .inl v_t_tape_bytes))] H := hP
      have hD : va_D A [(q_t, oX6 q_t_tape u3 u1 u2 u3 u4), (q_t_tape, oX4 q_t_tape_bytes v_t_tape_size), (q_t_tape_bytes, .inl (cy 0, 250, .inl v_t_tape_bytes))] := hD
      refine lv_iconst (v := (-1)) hx hb dX6_takeNumber_46 (by decide) ?_
      cases hf
      exact W.iret (v := (-1 : Int32)) hx hb hr (fun t ht hW => ⟨⟨(-1 : Int32), (), rfl, rfl, xend ht hP⟩, hS.F ht⟩) hS.2.2 dX6_takeNumber_47
    · refine lv_icmp_ne (tgt := 38) hx hb dX6_takeNumber_19 (by decide) (fun c9 => ?_) (fun c9 => ?_)
      · have hf := ifF hf c9
        clear c9
        exact J38 _ _ ls ⟨hP, hD, hS, lv_sub hl [0] rfl⟩ hf
      · have hf := ifT hf c9
        clear c9
        refine lv_aload_n hx hb dX6_takeNumber_22 rfl (lv_at hl 0 rfl) ?_
        refine va_get (D := D) (ci := 6) (v := .int u4) (C := RX6) (T := TX6) (N := 6) hx hb hts hinX6 hown hK.1 hP 0 rfl rfl 5 (by decide) hk101 (fun _ h9 => h9) rfl dX6_takeNumber_23 ?_
        refine lv_iload_n hx hb dX6_takeNumber_26 rfl (lv_at hl 1 rfl) ?_
        refine lv_icmp_lt (tgt := 38) hx hb dX6_takeNumber_27 (by decide) (fun c8 => ?_) (fun c8 => ?_)
        · have hf := ifT hf c8
          clear c8
          exact J38 _ _ ls ⟨hP, hD, hS, lv_sub hl [0] rfl⟩ hf
        · have hf := ifF hf c8
          clear c8
          refine lv_aload_n hx hb dX6_takeNumber_30 rfl (lv_at hl 0 rfl) ?_
          refine va_get (D := D) (ci := 6) (v := .int u4) (C := RX6) (T := TX6) (N := 6) hx hb hts hinX6 hown hK.1 hP 0 rfl rfl 5 (by decide) hk101 (fun _ h9 => h9) rfl dX6_takeNumber_31 ?_
          refine lv_iload_n hx hb dX6_takeNumber_34 rfl (lv_at hl 2 rfl) ?_
          refine lv_icmp_le (tgt := 48) hx hb dX6_takeNumber_35 (by decide) (fun c7 => ?_) (fun c7 => ?_)
          · have hf := ifT hf c7
            clear c7
            refine lv_aload_n hx hb dX6_takeNumber_48 rfl (lv_at hl 0 rfl) ?_
            refine va_get (D := D) (ci := 6) (v := .int u4) (C := RX6) (T := TX6) (N := 6) hx hb hts hinX6 hown hK.1 hP 0 rfl rfl 5 (by decide) hk101 (fun _ h9 => h9) rfl dX6_takeNumber_49 ?_
            cases hf
            exact W.iret hx hb hr (fun t ht hW => ⟨⟨_, (), rfl, rfl, xend ht hP⟩, hS.F ht⟩) hS.2.2 dX6_takeNumber_52
          · have hf := ifF hf c7
            clear c7
            exact J38 _ _ ls ⟨hP, hD, hS, lv_sub hl [0] rfl⟩ hf
  · have hf := ifF hf c10
    clear c10
    refine lv_iconst (v := (-1)) hx hb dX6_takeNumber_8 (by decide) ?_
    cases hf
    exact W.iret (v := (-1 : Int32)) hx hb hr (fun t ht hW => ⟨⟨(-1 : Int32), (), rfl, rfl, xend ht hP⟩, hS.F ht⟩) hS.2.2 dX6_takeNumber_9
def fX6_readPlaces (v_t_fault : Int32) (v_t_position : Int32) (v_t_token : Int32) (v_t_start : Int32) (v_t_value : Int32) (v_t_tape_size : Int32) (v_t_tape_bytes : Nat → Int32) (v_o0_places : Int32) : Option (Int32 × Int32 × Int32 × Int32 × Int32 × Int32) :=
  bo6 (fX6_takeNumber v_t_fault v_t_position v_t_token v_t_start v_t_value v_t_tape_size v_t_tape_bytes v_o0_places (12 : Int32)) fun r1 u2 u3 u4 u5 u6 =>
  if u2 = (-1 : Int32) then
    some (u2, u3, u4, u5, u6, r1)
  else
    some (u2, u3, u4, u5, u6, v_o0_places)
set_option maxHeartbeats 4000000 in
set_option maxRecDepth 100000 in
theorem mX6_readPlaces (l : Launch) (D : va_G) (cy : Nat → ClassId) (q_t q_o0 q_t_tape q_t_tape_bytes q_o0_ways q_o0_distances q_o0_kind q_o0_a q_o0_home q_o0_aim q_o0_at : Nat) (v_t_fault : Int32) (v_t_position : Int32) (v_t_token : Int32) (v_t_start : Int32) (v_t_value : Int32) (v_t_tape_size : Int32) (v_t_tape_bytes : Nat → Int32) (v_o0_places : Int32) (v_o0_people : Int32) (v_o0_hour : Int32) (v_o0_chance : Int32) (v_o0_seed : Int32) (sz : Nat) {n_t_fault : Int32} {n_t_position : Int32} {n_t_token : Int32} {n_t_start : Int32} {n_t_value : Int32} {n_o0_places : Int32} (hf : fX6_readPlaces v_t_fault v_t_position v_t_token v_t_start v_t_value v_t_tape_size v_t_tape_bytes v_o0_places = some (n_t_fault, n_t_position, n_t_token, n_t_start, n_t_value, n_o0_places)) : Met l yX6_readPlaces wsX6_readPlaces ({ frames := 4, cells := 0, slots := 0, locals := 84 }) (va_Pc [.ref q_t, .ref q_o0] (fun U => U.heap.size = sz ∧ va_P D vwCl [(q_t, oX6 q_t_tape v_t_fault v_t_position v_t_token v_t_start v_t_value), (q_t_tape, oX4 q_t_tape_bytes v_t_tape_size), (q_t_tape_bytes, .inl (cy 0, 250, .inl v_t_tape_bytes)), (q_o0, oX5 v_o0_places q_o0_ways q_o0_distances v_o0_people q_o0_kind q_o0_a q_o0_home q_o0_aim q_o0_at v_o0_hour v_o0_chance v_o0_seed)] U.heap ∧ xK D cy U ∧ va_D (fun _ => True) [(q_t, oX6 q_t_tape v_t_fault v_t_position v_t_token v_t_start v_t_value), (q_t_tape, oX4 q_t_tape_bytes v_t_tape_size), (q_t_tape_bytes, .inl (cy 0, 250, .inl v_t_tape_bytes)), (q_o0, oX5 v_o0_places q_o0_ways q_o0_distances v_o0_people q_o0_kind q_o0_a q_o0_home q_o0_aim q_o0_at v_o0_hour v_o0_chance v_o0_seed)])) (va_Qv (fun (_ : Unit) => True) (fun _ t => va_P D vwCl [(q_t, oX6 q_t_tape n_t_fault n_t_position n_t_token n_t_start n_t_value), (q_t_tape, oX4 q_t_tape_bytes v_t_tape_size), (q_t_tape_bytes, .inl (cy 0, 250, .inl v_t_tape_bytes)), (q_o0, oX5 n_o0_places q_o0_ways q_o0_distances v_o0_people q_o0_kind q_o0_a q_o0_home q_o0_aim q_o0_at v_o0_hour v_o0_chance v_o0_seed)] t.heap) (va_A [(q_t, oX6 q_t_tape v_t_fault v_t_position v_t_token v_t_start v_t_value), (q_t_tape, oX4 q_t_tape_bytes v_t_tape_size), (q_t_tape_bytes, .inl (cy 0, 250, .inl v_t_tape_bytes)), (q_o0, oX5 v_o0_places q_o0_ways q_o0_distances v_o0_people q_o0_kind q_o0_a q_o0_home q_o0_aim q_o0_at v_o0_hour v_o0_chance v_o0_seed)] sz)) 0 0 (va_A [(q_t, oX6 q_t_tape v_t_fault v_t_position v_t_token v_t_start v_t_value), (q_t_tape, oX4 q_t_tape_bytes v_t_tape_size), (q_t_tape_bytes, .inl (cy 0, 250, .inl v_t_tape_bytes)), (q_o0, oX5 v_o0_places q_o0_ways q_o0_distances v_o0_people q_o0_kind q_o0_a q_o0_home q_o0_aim q_o0_at v_o0_hour v_o0_chance v_o0_seed)] sz) := by
  refine Met.ofW (cc := cX6_readPlaces) (maxL := 3) (ret := none) (by decide) rfl ?_
  intro p e s m args below meth c s₁ B hml hv
  obtain ⟨rfl, hsz, hP, hK, hD0⟩ := hv
  have hx := B.exec
  have hb := B.bytes
  have hr := B.returns
  have hts := atoms_spec (ws := wsX6_readPlaces) B.pre
  have hown : s.vm.findClass RX6 = some m.cls := findClass_of_methodNamed B.named
  have hlocks := B.notSynchronized
  subst hsz
  have hD := hD0.self (sz := s.heap.size)
  generalize hAe : va_A [(q_t, oX6 q_t_tape v_t_fault v_t_position v_t_token v_t_start v_t_value), (q_t_tape, oX4 q_t_tape_bytes v_t_tape_size), (q_t_tape_bytes, .inl (cy 0, 250, .inl v_t_tape_bytes)), (q_o0, oX5 v_o0_places q_o0_ways q_o0_distances v_o0_people q_o0_kind q_o0_a q_o0_home q_o0_aim q_o0_at v_o0_hour v_o0_chance v_o0_seed)] s.heap.size = A at hD ⊢
  have hA : ∀ q : Nat, s.heap.size ≤ q → A q := fun q h => by rw [← hAe]; exact Or.inr h
  have hS : va_S A s.heap s.heap [] := va_S.rf
  have hP : va_P D vwCl [(q_t, oX6 q_t_tape v_t_fault v_t_position v_t_token v_t_start v_t_value), (q_t_tape, oX4 q_t_tape_bytes v_t_tape_size), (q_t_tape_bytes, .inl (cy 0, 250, .inl v_t_tape_bytes)), (q_o0, oX5 v_o0_places q_o0_ways q_o0_distances v_o0_people q_o0_kind q_o0_a q_o0_home q_o0_aim q_o0_at v_o0_hour v_o0_chance v_o0_seed)] s.heap := hP
  have hinX5 : ∀ w ∈ u_ws RX5 TX5 12, w ∈ wsX6_readPlaces := by decide +kernel
  have hk80 := hts (.fieldLink RX6 80 "ShowsWhereNobodyIs$Town" "places" "I") (by decide +kernel)
  have hinX6 : ∀ w ∈ u_ws RX6 TX6 6, w ∈ wsX6_readPlaces := by decide +kernel
  have hk18 := hts (.fieldLink RX6 18 "ShowsWhereNobodyIs$TownReader" "fault" "I") (by decide +kernel)
  have hl := lv_entry ([.ref q_t, .ref q_o0]) (n := 3) (Nat.le_of_ble_eq_true rfl)
  rw [lg_entry_eq]
  generalize (lg_sl ([.ref q_t, .ref q_o0]) ++ List.replicate (3 - (lg_sl ([.ref q_t, .ref q_o0])).length) Slot.unset).toArray = ls at hl ⊢
  have hl : lv_has ls 3 [(0, .ref q_t), (1, .ref q_o0)] := hl
  unfold fX6_readPlaces at hf
  refine lv_aload_n hx hb dX6_readPlaces_0 rfl (lv_at hl 0 rfl) ?_
  refine lv_aload_n hx hb dX6_readPlaces_1 rfl (lv_at hl 1 rfl) ?_
  refine va_get (D := D) (ci := 5) (v := .int v_o0_places) (C := RX5) (T := TX5) (N := 12) hx hb hts hinX5 hown hK.1 hP 3 rfl rfl 0 (by decide) hk80 (fun _ h9 => h9) rfl dX6_readPlaces_2 ?_
  refine lv_bipush (v := 12) hx hb dX6_readPlaces_5 (by decide) ?_
  obtain ⟨r1, u2, u3, u4, u5, u6, hr7, hf⟩ := boE6 hf
  have hPc := hP.sub (ws' := [(q_t, oX6 q_t_tape v_t_fault v_t_position v_t_token v_t_start v_t_value), (q_t_tape, oX4 q_t_tape_bytes v_t_tape_size), (q_t_tape_bytes, .inl (cy 0, 250, .inl v_t_tape_bytes))]) [0, 1, 2] rfl
  have hDc := hD.sub (ws' := [(q_t, oX6 q_t_tape v_t_fault v_t_position v_t_token v_t_start v_t_value), (q_t_tape, oX4 q_t_tape_bytes v_t_tape_size), (q_t_tape_bytes, .inl (cy 0, 250, .inl v_t_tape_bytes))]) [0, 1, 2] (by decide) rfl
  refine xcQi (w1 := [(q_t, oX6 q_t_tape u2 u3 u4 u5 u6), (q_t_tape, oX4 q_t_tape_bytes v_t_tape_size), (q_t_tape_bytes, .inl (cy 0, 250, .inl v_t_tape_bytes))]) (va_runV (As := [.int v_o0_places, .int (12 : Int32)]) (rest := []) ⟨hx, hb, hml, hown, hts⟩ (mX6_takeNumber l D cy q_t q_t_tape q_t_tape_bytes v_t_fault v_t_position v_t_token v_t_start v_t_value v_t_tape_size v_t_tape_bytes _ v_o0_places (12 : Int32) hr7) (cwV 2 hts gX6_readPlaces_X6_takeNumber rfl rfl rfl (by decide +kernel) ⟨Nat.le_of_ble_eq_true rfl, Nat.le_of_ble_eq_true rfl⟩) (xPVw hK hPc hDc (ci := 6) (q0 := 0) rfl rfl) rfl rfl hl.1 rfl (lv_room (Nat.le_of_ble_eq_true rfl)) dX6_readPlaces_7 ⟨Nat.le_of_ble_eq_true rfl, Nat.le_of_ble_eq_true rfl⟩) hP hD hS hA [0, 1, 2] rfl rfl (fun H locs hP hD hS => ?_)
  have hP : va_P D vwCl [(q_t, oX6 q_t_tape u2 u3 u4 u5 u6), (q_t_tape, oX4 q_t_tape_bytes v_t_tape_size), (q_t_tape_bytes, .inl (cy 0, 250, .inl v_t_tape_bytes)), (q_o0, oX5 v_o0_places q_o0_ways q_o0_distances v_o0_people q_o0_kind q_o0_a q_o0_home q_o0_aim q_o0_at v_o0_hour v_o0_chance v_o0_seed)] H := hP
  have hD : va_D A [(q_t, oX6 q_t_tape u2 u3 u4 u5 u6), (q_t_tape, oX4 q_t_tape_bytes v_t_tape_size), (q_t_tape_bytes, .inl (cy 0, 250, .inl v_t_tape_bytes)), (q_o0, oX5 v_o0_places q_o0_ways q_o0_distances v_o0_people q_o0_kind q_o0_a q_o0_home q_o0_aim q_o0_at v_o0_hour v_o0_chance v_o0_seed)] := hD
  refine lv_istore_n (lv' := [(2, .int r1), (0, .ref q_t), (1, .ref q_o0)]) hx hb dX6_readPlaces_10 rfl hl (by decide) rfl (fun ls hl => ?_)
  refine lv_aload_n hx hb dX6_readPlaces_11 rfl (lv_at hl 1 rfl) ?_
  refine va_get (D := D) (ci := 6) (v := .int u2) (C := RX6) (T := TX6) (N := 6) hx hb hts hinX6 hown hK.1 hP 0 rfl rfl 1 (by decide) hk18 (fun _ h9 => h9) rfl dX6_readPlaces_12 ?_
  refine lv_iconst (v := (-1)) hx hb dX6_readPlaces_15 (by decide) ?_
  refine lv_icmp_ne (tgt := 24) hx hb dX6_readPlaces_16 (by decide) (fun c8 => ?_) (fun c8 => ?_)
  · have hf := ifF hf c8
    clear c8
    cases hf
    exact W.vret hx hb hr (fun t ht hW => ⟨⟨(), rfl, trivial, xend ht hP⟩, hS.F ht⟩) hS.2.2 dX6_readPlaces_24
  · have hf := ifT hf c8
    clear c8
    refine lv_aload_n hx hb dX6_readPlaces_19 rfl (lv_at hl 2 rfl) ?_
    refine lv_iload_n hx hb dX6_readPlaces_20 rfl (lv_at hl 0 rfl) ?_
    refine va_put (D := D) (ci := 5) (v := .int r1) (ty := .int) (C := RX5) (T := TX5) (N := 12) hx hb hts hinX5 tyX5 tyX5_ok nmX5 hown hK.1 hP hD hS 3 rfl rfl 0 (by decide) hk80 (fun _ h9 => h9) rfl (by decide +kernel) rfl rfl (Nat.le_of_ble_eq_true rfl) dX6_readPlaces_21 (fun H locs hP hD hS => ?_)
    have hP : va_P D vwCl [(q_t, oX6 q_t_tape u2 u3 u4 u5 u6), (q_t_tape, oX4 q_t_tape_bytes v_t_tape_size), (q_t_tape_bytes, .inl (cy 0, 250, .inl v_t_tape_bytes)), (q_o0, oX5 r1 q_o0_ways q_o0_distances v_o0_people q_o0_kind q_o0_a q_o0_home q_o0_aim q_o0_at v_o0_hour v_o0_chance v_o0_seed)] H := hP
    have hD : va_D A [(q_t, oX6 q_t_tape u2 u3 u4 u5 u6), (q_t_tape, oX4 q_t_tape_bytes v_t_tape_size), (q_t_tape_bytes, .inl (cy 0, 250, .inl v_t_tape_bytes)), (q_o0, oX5 r1 q_o0_ways q_o0_distances v_o0_people q_o0_kind q_o0_a q_o0_home q_o0_aim q_o0_at v_o0_hour v_o0_chance v_o0_seed)] := hD
    cases hf
    exact W.vret hx hb hr (fun t ht hW => ⟨⟨(), rfl, trivial, xend ht hP⟩, hS.F ht⟩) hS.2.2 dX6_readPlaces_24
def fX6_readWay (v_t_fault : Int32) (v_t_position : Int32) (v_t_token : Int32) (v_t_start : Int32) (v_t_value : Int32) (v_t_tape_size : Int32) (v_t_tape_bytes : Nat → Int32) (v_o0_places : Int32) (v_o0_ways : Nat → Int32) (p1 : Int32) : Option (Int32 × Int32 × Int32 × Int32 × Int32 × (Nat → Int32)) :=
  bo6 (fX6_takeNumber v_t_fault v_t_position v_t_token v_t_start v_t_value v_t_tape_size v_t_tape_bytes (0 : Int32) (v_o0_places - (1 : Int32))) fun r1 u2 u3 u4 u5 u6 =>
  bo6 (fX6_takeNumber u2 u3 u4 u5 u6 v_t_tape_size v_t_tape_bytes (0 : Int32) (v_o0_places - (1 : Int32))) fun r8 u9 u10 u11 u12 u13 =>
  jo1 (fun (u15 : Int32) =>
    if u15 = (-1 : Int32) then
      bo1 (fX5_setWay v_o0_ways r1 r8 p1) fun u17 =>
      some (u15, u10, u11, u12, u13, u17)
    else
      some (u15, u10, u11, u12, u13, v_o0_ways)) fun k16 =>
  if u9 = (-1 : Int32) then
    if r1 = r8 then
      k16 u12
    else
      k16 u9
  else
    k16 u9
set_option maxHeartbeats 4000000 in
set_option maxRecDepth 100000 in
theorem mX6_readWay (l : Launch) (D : va_G) (cy : Nat → ClassId) (q_t q_o0 q_t_tape q_t_tape_bytes q_o0_ways q_o0_distances q_o0_kind q_o0_a q_o0_home q_o0_aim q_o0_at : Nat) (v_t_fault : Int32) (v_t_position : Int32) (v_t_token : Int32) (v_t_start : Int32) (v_t_value : Int32) (v_t_tape_size : Int32) (v_t_tape_bytes : Nat → Int32) (v_o0_places : Int32) (v_o0_people : Int32) (v_o0_hour : Int32) (v_o0_chance : Int32) (v_o0_seed : Int32) (v_o0_ways : Nat → Int32) (sz : Nat) (p1 : Int32) {n_t_fault : Int32} {n_t_position : Int32} {n_t_token : Int32} {n_t_start : Int32} {n_t_value : Int32} {n_o0_ways : Nat → Int32} (hf : fX6_readWay v_t_fault v_t_position v_t_token v_t_start v_t_value v_t_tape_size v_t_tape_bytes v_o0_places v_o0_ways p1 = some (n_t_fault, n_t_position, n_t_token, n_t_start, n_t_value, n_o0_ways)) : Met l yX6_readWay wsX6_readWay ({ frames := 4, cells := 0, slots := 0, locals := 84 }) (va_Pc [.ref q_t, .ref q_o0, .int p1] (fun U => U.heap.size = sz ∧ va_P D vwCl [(q_t, oX6 q_t_tape v_t_fault v_t_position v_t_token v_t_start v_t_value), (q_t_tape, oX4 q_t_tape_bytes v_t_tape_size), (q_t_tape_bytes, .inl (cy 0, 250, .inl v_t_tape_bytes)), (q_o0, oX5 v_o0_places q_o0_ways q_o0_distances v_o0_people q_o0_kind q_o0_a q_o0_home q_o0_aim q_o0_at v_o0_hour v_o0_chance v_o0_seed), (q_o0_ways, .inl (cy 0, 12, .inl v_o0_ways))] U.heap ∧ xK D cy U ∧ va_D (fun _ => True) [(q_t, oX6 q_t_tape v_t_fault v_t_position v_t_token v_t_start v_t_value), (q_t_tape, oX4 q_t_tape_bytes v_t_tape_size), (q_t_tape_bytes, .inl (cy 0, 250, .inl v_t_tape_bytes)), (q_o0, oX5 v_o0_places q_o0_ways q_o0_distances v_o0_people q_o0_kind q_o0_a q_o0_home q_o0_aim q_o0_at v_o0_hour v_o0_chance v_o0_seed), (q_o0_ways, .inl (cy 0, 12, .inl v_o0_ways))])) (va_Qv (fun (_ : Unit) => True) (fun _ t => va_P D vwCl [(q_t, oX6 q_t_tape n_t_fault n_t_position n_t_token n_t_start n_t_value), (q_t_tape, oX4 q_t_tape_bytes v_t_tape_size), (q_t_tape_bytes, .inl (cy 0, 250, .inl v_t_tape_bytes)), (q_o0, oX5 v_o0_places q_o0_ways q_o0_distances v_o0_people q_o0_kind q_o0_a q_o0_home q_o0_aim q_o0_at v_o0_hour v_o0_chance v_o0_seed), (q_o0_ways, .inl (cy 0, 12, .inl n_o0_ways))] t.heap) (va_A [(q_t, oX6 q_t_tape v_t_fault v_t_position v_t_token v_t_start v_t_value), (q_t_tape, oX4 q_t_tape_bytes v_t_tape_size), (q_t_tape_bytes, .inl (cy 0, 250, .inl v_t_tape_bytes)), (q_o0, oX5 v_o0_places q_o0_ways q_o0_distances v_o0_people q_o0_kind q_o0_a q_o0_home q_o0_aim q_o0_at v_o0_hour v_o0_chance v_o0_seed), (q_o0_ways, .inl (cy 0, 12, .inl v_o0_ways))] sz)) 0 0 (va_A [(q_t, oX6 q_t_tape v_t_fault v_t_position v_t_token v_t_start v_t_value), (q_t_tape, oX4 q_t_tape_bytes v_t_tape_size), (q_t_tape_bytes, .inl (cy 0, 250, .inl v_t_tape_bytes)), (q_o0, oX5 v_o0_places q_o0_ways q_o0_distances v_o0_people q_o0_kind q_o0_a q_o0_home q_o0_aim q_o0_at v_o0_hour v_o0_chance v_o0_seed), (q_o0_ways, .inl (cy 0, 12, .inl v_o0_ways))] sz) := by
  refine Met.ofW (cc := cX6_readWay) (maxL := 5) (ret := none) (by decide) rfl ?_
  intro p e s m args below meth c s₁ B hml hv
  obtain ⟨rfl, hsz, hP, hK, hD0⟩ := hv
  have hx := B.exec
  have hb := B.bytes
  have hr := B.returns
  have hts := atoms_spec (ws := wsX6_readWay) B.pre
  have hown : s.vm.findClass RX6 = some m.cls := findClass_of_methodNamed B.named
  have hlocks := B.notSynchronized
  subst hsz
  have hD := hD0.self (sz := s.heap.size)
  generalize hAe : va_A [(q_t, oX6 q_t_tape v_t_fault v_t_position v_t_token v_t_start v_t_value), (q_t_tape, oX4 q_t_tape_bytes v_t_tape_size), (q_t_tape_bytes, .inl (cy 0, 250, .inl v_t_tape_bytes)), (q_o0, oX5 v_o0_places q_o0_ways q_o0_distances v_o0_people q_o0_kind q_o0_a q_o0_home q_o0_aim q_o0_at v_o0_hour v_o0_chance v_o0_seed), (q_o0_ways, .inl (cy 0, 12, .inl v_o0_ways))] s.heap.size = A at hD ⊢
  have hA : ∀ q : Nat, s.heap.size ≤ q → A q := fun q h => by rw [← hAe]; exact Or.inr h
  have hS : va_S A s.heap s.heap [] := va_S.rf
  have hP : va_P D vwCl [(q_t, oX6 q_t_tape v_t_fault v_t_position v_t_token v_t_start v_t_value), (q_t_tape, oX4 q_t_tape_bytes v_t_tape_size), (q_t_tape_bytes, .inl (cy 0, 250, .inl v_t_tape_bytes)), (q_o0, oX5 v_o0_places q_o0_ways q_o0_distances v_o0_people q_o0_kind q_o0_a q_o0_home q_o0_aim q_o0_at v_o0_hour v_o0_chance v_o0_seed), (q_o0_ways, .inl (cy 0, 12, .inl v_o0_ways))] s.heap := hP
  have hinX5 : ∀ w ∈ u_ws RX5 TX5 12, w ∈ wsX6_readWay := by decide +kernel
  have hk80 := hts (.fieldLink RX6 80 "ShowsWhereNobodyIs$Town" "places" "I") (by decide +kernel)
  have hinX6 : ∀ w ∈ u_ws RX6 TX6 6, w ∈ wsX6_readWay := by decide +kernel
  have hk18 := hts (.fieldLink RX6 18 "ShowsWhereNobodyIs$TownReader" "fault" "I") (by decide +kernel)
  have hk35 := hts (.fieldLink RX6 35 "ShowsWhereNobodyIs$TownReader" "start" "I") (by decide +kernel)
  have hl := lv_entry ([.ref q_t, .ref q_o0, .int p1]) (n := 5) (Nat.le_of_ble_eq_true rfl)
  rw [lg_entry_eq]
  generalize (lg_sl ([.ref q_t, .ref q_o0, .int p1]) ++ List.replicate (5 - (lg_sl ([.ref q_t, .ref q_o0, .int p1])).length) Slot.unset).toArray = ls at hl ⊢
  have hl : lv_has ls 5 [(0, .ref q_t), (1, .ref q_o0), (2, .int p1)] := hl
  unfold fX6_readWay at hf
  refine lv_aload_n hx hb dX6_readWay_0 rfl (lv_at hl 0 rfl) ?_
  refine lv_iconst (v := 0) hx hb dX6_readWay_1 (by decide) ?_
  refine lv_aload_n hx hb dX6_readWay_2 rfl (lv_at hl 1 rfl) ?_
  refine va_get (D := D) (ci := 5) (v := .int v_o0_places) (C := RX5) (T := TX5) (N := 12) hx hb hts hinX5 hown hK.1 hP 3 rfl rfl 0 (by decide) hk80 (fun _ h9 => h9) rfl dX6_readWay_3 ?_
  refine lv_iconst (v := 1) hx hb dX6_readWay_6 (by decide) ?_
  refine lv_isub hx hb dX6_readWay_7 ?_
  obtain ⟨r1, u2, u3, u4, u5, u6, hr7, hf⟩ := boE6 hf
  have hPc := hP.sub (ws' := [(q_t, oX6 q_t_tape v_t_fault v_t_position v_t_token v_t_start v_t_value), (q_t_tape, oX4 q_t_tape_bytes v_t_tape_size), (q_t_tape_bytes, .inl (cy 0, 250, .inl v_t_tape_bytes))]) [0, 1, 2] rfl
  have hDc := hD.sub (ws' := [(q_t, oX6 q_t_tape v_t_fault v_t_position v_t_token v_t_start v_t_value), (q_t_tape, oX4 q_t_tape_bytes v_t_tape_size), (q_t_tape_bytes, .inl (cy 0, 250, .inl v_t_tape_bytes))]) [0, 1, 2] (by decide) rfl
  refine xcQi (w1 := [(q_t, oX6 q_t_tape u2 u3 u4 u5 u6), (q_t_tape, oX4 q_t_tape_bytes v_t_tape_size), (q_t_tape_bytes, .inl (cy 0, 250, .inl v_t_tape_bytes))]) (va_runV (As := [.int (0 : Int32), .int (v_o0_places - (1 : Int32))]) (rest := []) ⟨hx, hb, hml, hown, hts⟩ (mX6_takeNumber l D cy q_t q_t_tape q_t_tape_bytes v_t_fault v_t_position v_t_token v_t_start v_t_value v_t_tape_size v_t_tape_bytes _ (0 : Int32) (v_o0_places - (1 : Int32)) hr7) (cwV 2 hts gX6_readWay_X6_takeNumber rfl rfl rfl (by decide +kernel) ⟨Nat.le_of_ble_eq_true rfl, Nat.le_of_ble_eq_true rfl⟩) (xPVw hK hPc hDc (ci := 6) (q0 := 0) rfl rfl) rfl rfl hl.1 rfl (lv_room (Nat.le_of_ble_eq_true rfl)) dX6_readWay_8 ⟨Nat.le_of_ble_eq_true rfl, Nat.le_of_ble_eq_true rfl⟩) hP hD hS hA [0, 1, 2] rfl rfl (fun H locs hP hD hS => ?_)
  have hP : va_P D vwCl [(q_t, oX6 q_t_tape u2 u3 u4 u5 u6), (q_t_tape, oX4 q_t_tape_bytes v_t_tape_size), (q_t_tape_bytes, .inl (cy 0, 250, .inl v_t_tape_bytes)), (q_o0, oX5 v_o0_places q_o0_ways q_o0_distances v_o0_people q_o0_kind q_o0_a q_o0_home q_o0_aim q_o0_at v_o0_hour v_o0_chance v_o0_seed), (q_o0_ways, .inl (cy 0, 12, .inl v_o0_ways))] H := hP
  have hD : va_D A [(q_t, oX6 q_t_tape u2 u3 u4 u5 u6), (q_t_tape, oX4 q_t_tape_bytes v_t_tape_size), (q_t_tape_bytes, .inl (cy 0, 250, .inl v_t_tape_bytes)), (q_o0, oX5 v_o0_places q_o0_ways q_o0_distances v_o0_people q_o0_kind q_o0_a q_o0_home q_o0_aim q_o0_at v_o0_hour v_o0_chance v_o0_seed), (q_o0_ways, .inl (cy 0, 12, .inl v_o0_ways))] := hD
  refine lv_istore_n (lv' := [(3, .int r1), (0, .ref q_t), (1, .ref q_o0), (2, .int p1)]) hx hb dX6_readWay_11 rfl hl (by decide) rfl (fun ls hl => ?_)
  refine lv_aload_n hx hb dX6_readWay_12 rfl (lv_at hl 1 rfl) ?_
  refine lv_iconst (v := 0) hx hb dX6_readWay_13 (by decide) ?_
  refine lv_aload_n hx hb dX6_readWay_14 rfl (lv_at hl 2 rfl) ?_
  refine va_get (D := D) (ci := 5) (v := .int v_o0_places) (C := RX5) (T := TX5) (N := 12) hx hb hts hinX5 hown hK.1 hP 3 rfl rfl 0 (by decide) hk80 (fun _ h9 => h9) rfl dX6_readWay_15 ?_
  refine lv_iconst (v := 1) hx hb dX6_readWay_18 (by decide) ?_
  refine lv_isub hx hb dX6_readWay_19 ?_
  obtain ⟨r8, u9, u10, u11, u12, u13, hr14, hf⟩ := boE6 hf
  have hPc := hP.sub (ws' := [(q_t, oX6 q_t_tape u2 u3 u4 u5 u6), (q_t_tape, oX4 q_t_tape_bytes v_t_tape_size), (q_t_tape_bytes, .inl (cy 0, 250, .inl v_t_tape_bytes))]) [0, 1, 2] rfl
  have hDc := hD.sub (ws' := [(q_t, oX6 q_t_tape u2 u3 u4 u5 u6), (q_t_tape, oX4 q_t_tape_bytes v_t_tape_size), (q_t_tape_bytes, .inl (cy 0, 250, .inl v_t_tape_bytes))]) [0, 1, 2] (by decide) rfl
  refine xcQi (w1 := [(q_t, oX6 q_t_tape u9 u10 u11 u12 u13), (q_t_tape, oX4 q_t_tape_bytes v_t_tape_size), (q_t_tape_bytes, .inl (cy 0, 250, .inl v_t_tape_bytes))]) (va_runV (As := [.int (0 : Int32), .int (v_o0_places - (1 : Int32))]) (rest := []) ⟨hx, hb, hml, hown, hts⟩ (mX6_takeNumber l D cy q_t q_t_tape q_t_tape_bytes u2 u3 u4 u5 u6 v_t_tape_size v_t_tape_bytes _ (0 : Int32) (v_o0_places - (1 : Int32)) hr14) (cwV 2 hts gX6_readWay_X6_takeNumber rfl rfl rfl (by decide +kernel) ⟨Nat.le_of_ble_eq_true rfl, Nat.le_of_ble_eq_true rfl⟩) (xPVw hK hPc hDc (ci := 6) (q0 := 0) rfl rfl) rfl rfl hl.1 rfl (lv_room (Nat.le_of_ble_eq_true rfl)) dX6_readWay_20 ⟨Nat.le_of_ble_eq_true rfl, Nat.le_of_ble_eq_true rfl⟩) hP hD hS hA [0, 1, 2] rfl rfl (fun H locs hP hD hS => ?_)
  have hP : va_P D vwCl [(q_t, oX6 q_t_tape u9 u10 u11 u12 u13), (q_t_tape, oX4 q_t_tape_bytes v_t_tape_size), (q_t_tape_bytes, .inl (cy 0, 250, .inl v_t_tape_bytes)), (q_o0, oX5 v_o0_places q_o0_ways q_o0_distances v_o0_people q_o0_kind q_o0_a q_o0_home q_o0_aim q_o0_at v_o0_hour v_o0_chance v_o0_seed), (q_o0_ways, .inl (cy 0, 12, .inl v_o0_ways))] H := hP
  have hD : va_D A [(q_t, oX6 q_t_tape u9 u10 u11 u12 u13), (q_t_tape, oX4 q_t_tape_bytes v_t_tape_size), (q_t_tape_bytes, .inl (cy 0, 250, .inl v_t_tape_bytes)), (q_o0, oX5 v_o0_places q_o0_ways q_o0_distances v_o0_people q_o0_kind q_o0_a q_o0_home q_o0_aim q_o0_at v_o0_hour v_o0_chance v_o0_seed), (q_o0_ways, .inl (cy 0, 12, .inl v_o0_ways))] := hD
  refine lv_istore (lv' := [(4, .int r8), (3, .int r1), (0, .ref q_t), (1, .ref q_o0), (2, .int p1)]) hx hb dX6_readWay_23 hl (by decide) rfl (fun ls hl => ?_)
  refine lv_aload_n hx hb dX6_readWay_25 rfl (lv_at hl 2 rfl) ?_
  refine va_get (D := D) (ci := 6) (v := .int u9) (C := RX6) (T := TX6) (N := 6) hx hb hts hinX6 hown hK.1 hP 0 rfl rfl 1 (by decide) hk18 (fun _ h9 => h9) rfl dX6_readWay_26 ?_
  refine lv_iconst (v := (-1)) hx hb dX6_readWay_29 (by decide) ?_
  refine jww1 47 (fun (u15 : Int32) => []) (fun (u15 : Int32) H locs ls => va_P D vwCl [(q_t, oX6 q_t_tape u15 u10 u11 u12 u13), (q_t_tape, oX4 q_t_tape_bytes v_t_tape_size), (q_t_tape_bytes, .inl (cy 0, 250, .inl v_t_tape_bytes)), (q_o0, oX5 v_o0_places q_o0_ways q_o0_distances v_o0_people q_o0_kind q_o0_a q_o0_home q_o0_aim q_o0_at v_o0_hour v_o0_chance v_o0_seed), (q_o0_ways, .inl (cy 0, 12, .inl v_o0_ways))] H ∧ va_D A [(q_t, oX6 q_t_tape u15 u10 u11 u12 u13), (q_t_tape, oX4 q_t_tape_bytes v_t_tape_size), (q_t_tape_bytes, .inl (cy 0, 250, .inl v_t_tape_bytes)), (q_o0, oX5 v_o0_places q_o0_ways q_o0_distances v_o0_people q_o0_kind q_o0_a q_o0_home q_o0_aim q_o0_at v_o0_hour v_o0_chance v_o0_seed), (q_o0_ways, .inl (cy 0, 12, .inl v_o0_ways))] ∧ va_S A s.heap H locs ∧ lv_has ls 5 [(0, .ref q_t), (1, .ref q_o0), (2, .int p1), (3, .int r1), (4, .int r8)]) hf (fun u15 H locs ls hI hf => ?_) (fun k16 J47 hf => ?_)
  · obtain ⟨hP, hD, hS, hl⟩ := hI
    refine lv_aload_n hx hb dX6_readWay_47 rfl (lv_at hl 0 rfl) ?_
    refine va_get (D := D) (ci := 6) (v := .int u15) (C := RX6) (T := TX6) (N := 6) hx hb hts hinX6 hown hK.1 hP 0 rfl rfl 1 (by decide) hk18 (fun _ h9 => h9) rfl dX6_readWay_48 ?_
    refine lv_iconst (v := (-1)) hx hb dX6_readWay_51 (by decide) ?_
    refine lv_icmp_ne (tgt := 63) hx hb dX6_readWay_52 (by decide) (fun c19 => ?_) (fun c19 => ?_)
    · have hf := ifF hf c19
      clear c19
      cases hf
      exact W.vret hx hb hr (fun t ht hW => ⟨⟨(), rfl, trivial, xend ht hP⟩, hS.F ht⟩) hS.2.2 dX6_readWay_63
    · have hf := ifT hf c19
      clear c19
      refine lv_aload_n hx hb dX6_readWay_55 rfl (lv_at hl 1 rfl) ?_
      refine lv_iload_n hx hb dX6_readWay_56 rfl (lv_at hl 3 rfl) ?_
      refine lv_iload hx hb dX6_readWay_57 (lv_at hl 4 rfl) ?_
      refine lv_iload_n hx hb dX6_readWay_59 rfl (lv_at hl 2 rfl) ?_
      obtain ⟨u17, hr18, hf⟩ := boE1 hf
      have hPc := hP.sub (ws' := [(q_o0, oX5 v_o0_places q_o0_ways q_o0_distances v_o0_people q_o0_kind q_o0_a q_o0_home q_o0_aim q_o0_at v_o0_hour v_o0_chance v_o0_seed), (q_o0_ways, .inl (cy 0, 12, .inl v_o0_ways))]) [3, 4] rfl
      have hDc := hD.sub (ws' := [(q_o0, oX5 v_o0_places q_o0_ways q_o0_distances v_o0_people q_o0_kind q_o0_a q_o0_home q_o0_aim q_o0_at v_o0_hour v_o0_chance v_o0_seed), (q_o0_ways, .inl (cy 0, 12, .inl v_o0_ways))]) [3, 4] (by decide) rfl
      refine xcQv (w1 := [(q_o0, oX5 v_o0_places q_o0_ways q_o0_distances v_o0_people q_o0_kind q_o0_a q_o0_home q_o0_aim q_o0_at v_o0_hour v_o0_chance v_o0_seed), (q_o0_ways, .inl (cy 0, 12, .inl u17))]) (va_runV (As := [.int r1, .int r8, .int p1]) (rest := []) ⟨hx, hb, hml, hown, hts⟩ (mX5_setWay l D cy q_o0 q_o0_ways q_o0_distances q_o0_kind q_o0_a q_o0_home q_o0_aim q_o0_at v_o0_places v_o0_people v_o0_hour v_o0_chance v_o0_seed v_o0_ways _ r1 r8 p1 hr18) (cwV 3 hts gX6_readWay_X5_setWay rfl rfl rfl (by decide +kernel) ⟨Nat.le_of_ble_eq_true rfl, Nat.le_of_ble_eq_true rfl⟩) (xPVw hK hPc hDc (ci := 5) (q0 := 0) rfl rfl) rfl rfl hl.1 rfl (lv_room (Nat.le_of_ble_eq_true rfl)) dX6_readWay_60 ⟨Nat.le_of_ble_eq_true rfl, Nat.le_of_ble_eq_true rfl⟩) hP hD hS hA [3, 4] rfl rfl (fun H locs hP hD hS => ?_)
      have hP : va_P D vwCl [(q_t, oX6 q_t_tape u15 u10 u11 u12 u13), (q_t_tape, oX4 q_t_tape_bytes v_t_tape_size), (q_t_tape_bytes, .inl (cy 0, 250, .inl v_t_tape_bytes)), (q_o0, oX5 v_o0_places q_o0_ways q_o0_distances v_o0_people q_o0_kind q_o0_a q_o0_home q_o0_aim q_o0_at v_o0_hour v_o0_chance v_o0_seed), (q_o0_ways, .inl (cy 0, 12, .inl u17))] H := hP
      have hD : va_D A [(q_t, oX6 q_t_tape u15 u10 u11 u12 u13), (q_t_tape, oX4 q_t_tape_bytes v_t_tape_size), (q_t_tape_bytes, .inl (cy 0, 250, .inl v_t_tape_bytes)), (q_o0, oX5 v_o0_places q_o0_ways q_o0_distances v_o0_people q_o0_kind q_o0_a q_o0_home q_o0_aim q_o0_at v_o0_hour v_o0_chance v_o0_seed), (q_o0_ways, .inl (cy 0, 12, .inl u17))] := hD
      cases hf
      exact W.vret hx hb hr (fun t ht hW => ⟨⟨(), rfl, trivial, xend ht hP⟩, hS.F ht⟩) hS.2.2 dX6_readWay_63
  · refine lv_icmp_ne (tgt := 47) hx hb dX6_readWay_30 (by decide) (fun c21 => ?_) (fun c21 => ?_)
    · have hf := ifF hf c21
      clear c21
      exact J47 u9 _ _ ls ⟨hP, hD, hS, lv_sub hl [2, 3, 4, 1, 0] rfl⟩ hf
    · have hf := ifT hf c21
      clear c21
      refine lv_iload_n hx hb dX6_readWay_33 rfl (lv_at hl 1 rfl) ?_
      refine lv_iload hx hb dX6_readWay_34 (lv_at hl 0 rfl) ?_
      refine lv_icmp_ne (tgt := 47) hx hb dX6_readWay_36 (by decide) (fun c20 => ?_) (fun c20 => ?_)
      · have hf := ifF hf c20
        clear c20
        exact J47 u9 _ _ ls ⟨hP, hD, hS, lv_sub hl [2, 3, 4, 1, 0] rfl⟩ hf
      · have hf := ifT hf c20
        clear c20
        refine lv_aload_n hx hb dX6_readWay_39 rfl (lv_at hl 2 rfl) ?_
        refine lv_aload_n hx hb dX6_readWay_40 rfl (lv_at hl 2 rfl) ?_
        refine va_get (D := D) (ci := 6) (v := .int u12) (C := RX6) (T := TX6) (N := 6) hx hb hts hinX6 hown hK.1 hP 0 rfl rfl 4 (by decide) hk35 (fun _ h9 => h9) rfl dX6_readWay_41 ?_
        refine va_put (D := D) (ci := 6) (v := .int u12) (ty := .int) (C := RX6) (T := TX6) (N := 6) hx hb hts hinX6 tyX6 tyX6_ok nmX6 hown hK.1 hP hD hS 0 rfl rfl 1 (by decide) hk18 (fun _ h9 => h9) rfl (by decide +kernel) rfl rfl (Nat.le_of_ble_eq_true rfl) dX6_readWay_44 (fun H locs hP hD hS => ?_)
        have hP : va_P D vwCl [(q_t, oX6 q_t_tape u12 u10 u11 u12 u13), (q_t_tape, oX4 q_t_tape_bytes v_t_tape_size), (q_t_tape_bytes, .inl (cy 0, 250, .inl v_t_tape_bytes)), (q_o0, oX5 v_o0_places q_o0_ways q_o0_distances v_o0_people q_o0_kind q_o0_a q_o0_home q_o0_aim q_o0_at v_o0_hour v_o0_chance v_o0_seed), (q_o0_ways, .inl (cy 0, 12, .inl v_o0_ways))] H := hP
        have hD : va_D A [(q_t, oX6 q_t_tape u12 u10 u11 u12 u13), (q_t_tape, oX4 q_t_tape_bytes v_t_tape_size), (q_t_tape_bytes, .inl (cy 0, 250, .inl v_t_tape_bytes)), (q_o0, oX5 v_o0_places q_o0_ways q_o0_distances v_o0_people q_o0_kind q_o0_a q_o0_home q_o0_aim q_o0_at v_o0_hour v_o0_chance v_o0_seed), (q_o0_ways, .inl (cy 0, 12, .inl v_o0_ways))] := hD
        exact J47 u12 _ _ ls ⟨hP, hD, hS, lv_sub hl [2, 3, 4, 1, 0] rfl⟩ hf
