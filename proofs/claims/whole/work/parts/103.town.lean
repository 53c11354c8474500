def fX3_countAlike (v_t_shone : Nat → Int32) (p0 : Int32) (p1 : Int32) (p2 : Int32) : Option (Int32) :=
  lo2 (fun g3 (x1 : Int32) (x2 : Int32) =>
    if p1 ≤ x2 then
      some x1
    else
      if ((p0 * (12 : Int32)) + x2) < 0 ∨ 300 ≤ ((p0 * (12 : Int32)) + x2).toNatClampNeg then none else
      jo1 (fun (x5 : Int32) =>
        vlet (x2 + (1 : Int32)) fun x7 =>
        g3 x5 x7) fun k6 =>
      if (v_t_shone ((p0 * (12 : Int32)) + x2).toNatClampNeg) = p2 then
        vlet (x1 + (1 : Int32)) fun x8 =>
        k6 x8
      else
        k6 x1) 400 (0 : Int32) (0 : Int32)
set_option maxHeartbeats 4000000 in
set_option maxRecDepth 100000 in
theorem mX3_countAlike (l : Launch) (D : va_G) (cy : Nat → ClassId) (q_t q_t_shone : Nat) (v_t_shone : Nat → Int32) (p0 : Int32) (p1 : Int32) (p2 : Int32) {r_ : Int32} (hf : fX3_countAlike v_t_shone p0 p1 p2 = some r_) : Met l yX3_countAlike wsX3_countAlike ({ frames := 0, cells := 0, slots := 0, locals := 0 }) (va_Pc [.ref q_t, .int p0, .int p1, .int p2] (fun U => va_P D vwCl [(q_t, oX3 q_t_shone), (q_t_shone, .inl (cy 0, 300, .inl v_t_shone))] U.heap ∧ xK D cy U)) (vp_Si (fun x => x = r_)) 0 0 (fun _ => False) := by
  refine Met.ofW (cc := cX3_countAlike) (maxL := 6) (ret := (some .int)) (by decide) rfl ?_
  intro p e s m args below meth c s₁ B hml hv
  obtain ⟨rfl, hP, hK⟩ := hv
  have hx := B.exec
  have hb := B.bytes
  have hr := B.returns
  have hts := atoms_spec (ws := wsX3_countAlike) B.pre
  have hown : s.vm.findClass RX3 = some m.cls := findClass_of_methodNamed B.named
  have hlocks := B.notSynchronized
  have hP : va_P D vwCl [(q_t, oX3 q_t_shone), (q_t_shone, .inl (cy 0, 300, .inl v_t_shone))] s.heap := hP
  have hinX3 : ∀ w ∈ u_ws RX3 TX3 1, w ∈ wsX3_countAlike := by decide +kernel
  have hk9 := hts (.fieldLink RX3 9 "ShowsWhereNobodyIs$Sights" "shone" "[I") (by decide +kernel)
  have hl := lv_entry ([.ref q_t, .int p0, .int p1, .int p2]) (n := 6) (Nat.le_of_ble_eq_true rfl)
  rw [lg_entry_eq]
  generalize (lg_sl ([.ref q_t, .int p0, .int p1, .int p2]) ++ List.replicate (6 - (lg_sl ([.ref q_t, .int p0, .int p1, .int p2])).length) Slot.unset).toArray = ls at hl ⊢
  have hl : lv_has ls 6 [(0, .ref q_t), (1, .int p0), (2, .int p1), (3, .int p2)] := hl
  unfold fX3_countAlike at hf
  refine lv_iconst (v := 0) hx hb dX3_countAlike_0 (by decide) ?_
  refine lv_istore (lv' := [(4, .int (0 : Int32)), (0, .ref q_t), (1, .int p0), (2, .int p1), (3, .int p2)]) hx hb dX3_countAlike_1 hl (by decide) rfl (fun ls hl => ?_)
  refine lv_iconst (v := 0) hx hb dX3_countAlike_3 (by decide) ?_
  refine lv_istore (lv' := [(5, .int (0 : Int32)), (4, .int (0 : Int32)), (0, .ref q_t), (1, .int p0), (2, .int p1), (3, .int p2)]) hx hb dX3_countAlike_4 hl (by decide) rfl (fun ls hl => ?_)
  refine wlr2 6 (fun _ _ => []) (fun (x1 : Int32) (x2 : Int32) ls => lv_has ls 6 [(4, .int x1), (5, .int x2), (0, .ref q_t), (1, .int p0), (2, .int p1), (3, .int p2)]) (fun g3 L6 x1 x2 ls hl hf => ?_) 400 (0 : Int32) (0 : Int32) ls (lv_sub hl [1, 0, 2, 3, 4, 5] rfl) hf
  refine lv_iload hx hb dX3_countAlike_6 (lv_at hl 1 rfl) ?_
  refine lv_iload_n hx hb dX3_countAlike_8 rfl (lv_at hl 4 rfl) ?_
  refine lv_icmp_ge (tgt := 37) hx hb dX3_countAlike_9 (by decide) (fun c10 => ?_) (fun c10 => ?_)
  · have hf := ifT hf c10
    clear c10
    refine lv_iload hx hb dX3_countAlike_37 (lv_at hl 0 rfl) ?_
    exact W.iret (v := x1) hx hb hr (fun t ht hW => ⟨x1, rfl, Option.some.inj hf, ht⟩) (fun q h => nomatch h) dX3_countAlike_39
  · have hf := ifF hf c10
    clear c10
    refine lv_aload_n hx hb dX3_countAlike_12 rfl (lv_at hl 2 rfl) ?_
    refine va_get (D := D) (ci := 3) (v := .ref q_t_shone) (C := RX3) (T := TX3) (N := 1) hx hb hts hinX3 hown hK.1 hP 0 rfl rfl 0 (by decide) hk9 (fun _ h9 => h9) rfl dX3_countAlike_13 ?_
    refine lv_iload_n hx hb dX3_countAlike_16 rfl (lv_at hl 3 rfl) ?_
    refine lv_bipush (v := 12) hx hb dX3_countAlike_17 (by decide) ?_
    refine lv_imul hx hb dX3_countAlike_19 ?_
    refine lv_iload hx hb dX3_countAlike_20 (lv_at hl 1 rfl) ?_
    refine lv_iadd hx hb dX3_countAlike_22 ?_
    obtain ⟨hi4, hf⟩ := ckE hf
    refine va_iald hx hb hK.1 hP 1 0 rfl rfl hi4 dX3_countAlike_23 ?_
    refine lv_iload_n hx hb dX3_countAlike_24 rfl (lv_at hl 5 rfl) ?_
    refine jwr1 31 (fun (x5 : Int32) => []) (fun (x5 : Int32) ls => lv_has ls 6 [(4, .int x5), (0, .ref q_t), (1, .int p0), (2, .int p1), (3, .int p2), (5, .int x2)]) hf (fun x5 ls hl hf => ?_) (fun k6 J31 hf => ?_)
    · obtain ⟨x7, ex7⟩ : ∃ y : Int32, y = x2 + (1 : Int32) := ⟨_, rfl⟩
      have hf := vlE hf ex7
      refine lv_iinc (v := x7) (lv' := [(5, .int x7), (4, .int x5), (0, .ref q_t), (1, .int p0), (2, .int p1), (3, .int p2)]) hx hb dX3_countAlike_31 hl (k := 5) rfl (by rw [ex7]; rfl) (by decide) rfl (fun ls hl => ?_)
      clear ex7
      refine lv_goto (tgt := 6) hx hb dX3_countAlike_34 (by decide) ?_
      exact L6 x5 x7 ls (lv_sub hl [1, 0, 2, 3, 4, 5] rfl) hf
    · refine lv_icmp_ne (tgt := 31) hx hb dX3_countAlike_25 (by decide) (fun c9 => ?_) (fun c9 => ?_)
      · have hf := ifF hf c9
        clear c9
        exact J31 x1 ls (lv_sub hl [0, 2, 3, 4, 5, 1] rfl) hf
      · have hf := ifT hf c9
        clear c9
        obtain ⟨x8, ex8⟩ : ∃ y : Int32, y = x1 + (1 : Int32) := ⟨_, rfl⟩
        have hf := vlE hf ex8
        refine lv_iinc (v := x8) (lv' := [(4, .int x8), (5, .int x2), (0, .ref q_t), (1, .int p0), (2, .int p1), (3, .int p2)]) hx hb dX3_countAlike_28 hl (k := 0) rfl (by rw [ex8]; rfl) (by decide) rfl (fun ls hl => ?_)
        clear ex8
        exact J31 x8 ls (lv_sub hl [0, 2, 3, 4, 5, 1] rfl) hf
def fX3_mostAlike (v_t_shone : Nat → Int32) (p0 : Int32) (p1 : Int32) : Option (Int32) :=
  lo2 (fun g3 (x1 : Int32) (x2 : Int32) =>
    if p1 ≤ x2 then
      some x1
    else
      if ((p0 * (12 : Int32)) + x2) < 0 ∨ 300 ≤ ((p0 * (12 : Int32)) + x2).toNatClampNeg then none else
      bo1 (fX3_countAlike v_t_shone p0 p1 (v_t_shone ((p0 * (12 : Int32)) + x2).toNatClampNeg)) fun r5 =>
      vlet (if x1 < r5 then r5 else x1) fun x7 =>
      vlet (x2 + (1 : Int32)) fun x8 =>
      g3 x7 x8) 400 (0 : Int32) (0 : Int32)
set_option maxHeartbeats 4000000 in
set_option maxRecDepth 100000 in
theorem mX3_mostAlike (l : Launch) (D : va_G) (cy : Nat → ClassId) (q_t q_t_shone : Nat) (v_t_shone : Nat → Int32) (p0 : Int32) (p1 : Int32) {r_ : Int32} (hf : fX3_mostAlike v_t_shone p0 p1 = some r_) : Met l yX3_mostAlike wsX3_mostAlike ({ frames := 1, cells := 0, slots := 0, locals := 25 }) (va_Pc [.ref q_t, .int p0, .int p1] (fun U => va_P D vwCl [(q_t, oX3 q_t_shone), (q_t_shone, .inl (cy 0, 300, .inl v_t_shone))] U.heap ∧ xK D cy U)) (vp_Si (fun x => x = r_)) 0 0 (fun _ => False) := by
  refine Met.ofW (cc := cX3_mostAlike) (maxL := 5) (ret := (some .int)) (by decide) rfl ?_
  intro p e s m args below meth c s₁ B hml hv
  obtain ⟨rfl, hP, hK⟩ := hv
  have hx := B.exec
  have hb := B.bytes
  have hr := B.returns
  have hts := atoms_spec (ws := wsX3_mostAlike) B.pre
  have hown : s.vm.findClass RX3 = some m.cls := findClass_of_methodNamed B.named
  have hlocks := B.notSynchronized
  have hP : va_P D vwCl [(q_t, oX3 q_t_shone), (q_t_shone, .inl (cy 0, 300, .inl v_t_shone))] s.heap := hP
  have hinX3 : ∀ w ∈ u_ws RX3 TX3 1, w ∈ wsX3_mostAlike := by decide +kernel
  have hk9 := hts (.fieldLink RX3 9 "ShowsWhereNobodyIs$Sights" "shone" "[I") (by decide +kernel)
  have hm29 := hts (.methodLink RX3 29 Lib.Math.max.name) (by decide +kernel)
  have hmsmax := hts (.static Lib.Math.max.name) (by decide +kernel)
  have hmi := hts (.initialized "java/lang/Math") (by decide +kernel)
  have hmcmax := hts (.code Lib.Math.max.name Lib.Math.max.code 2 (some .int)) (by decide +kernel)
  have hl := lv_entry ([.ref q_t, .int p0, .int p1]) (n := 5) (Nat.le_of_ble_eq_true rfl)
  rw [lg_entry_eq]
  generalize (lg_sl ([.ref q_t, .int p0, .int p1]) ++ List.replicate (5 - (lg_sl ([.ref q_t, .int p0, .int p1])).length) Slot.unset).toArray = ls at hl ⊢
  have hl : lv_has ls 5 [(0, .ref q_t), (1, .int p0), (2, .int p1)] := hl
  unfold fX3_mostAlike at hf
  refine lv_iconst (v := 0) hx hb dX3_mostAlike_0 (by decide) ?_
  refine lv_istore_n (lv' := [(3, .int (0 : Int32)), (0, .ref q_t), (1, .int p0), (2, .int p1)]) hx hb dX3_mostAlike_1 rfl hl (by decide) rfl (fun ls hl => ?_)
  refine lv_iconst (v := 0) hx hb dX3_mostAlike_2 (by decide) ?_
  refine lv_istore (lv' := [(4, .int (0 : Int32)), (3, .int (0 : Int32)), (0, .ref q_t), (1, .int p0), (2, .int p1)]) hx hb dX3_mostAlike_3 hl (by decide) rfl (fun ls hl => ?_)
  refine wlr2 5 (fun _ _ => []) (fun (x1 : Int32) (x2 : Int32) ls => lv_has ls 5 [(3, .int x1), (4, .int x2), (0, .ref q_t), (1, .int p0), (2, .int p1)]) (fun g3 L5 x1 x2 ls hl hf => ?_) 400 (0 : Int32) (0 : Int32) ls (lv_sub hl [1, 0, 2, 3, 4] rfl) hf
  refine lv_iload hx hb dX3_mostAlike_5 (lv_at hl 1 rfl) ?_
  refine lv_iload_n hx hb dX3_mostAlike_7 rfl (lv_at hl 4 rfl) ?_
  refine lv_icmp_ge (tgt := 40) hx hb dX3_mostAlike_8 (by decide) (fun c9 => ?_) (fun c9 => ?_)
  · have hf := ifT hf c9
    clear c9
    refine lv_iload_n hx hb dX3_mostAlike_40 rfl (lv_at hl 0 rfl) ?_
    exact W.iret (v := x1) hx hb hr (fun t ht hW => ⟨x1, rfl, Option.some.inj hf, ht⟩) (fun q h => nomatch h) dX3_mostAlike_41
  · have hf := ifF hf c9
    clear c9
    refine lv_iload_n hx hb dX3_mostAlike_11 rfl (lv_at hl 0 rfl) ?_
    refine lv_aload_n hx hb dX3_mostAlike_12 rfl (lv_at hl 2 rfl) ?_
    refine lv_iload_n hx hb dX3_mostAlike_13 rfl (lv_at hl 3 rfl) ?_
    refine lv_iload_n hx hb dX3_mostAlike_14 rfl (lv_at hl 4 rfl) ?_
    refine lv_aload_n hx hb dX3_mostAlike_15 rfl (lv_at hl 2 rfl) ?_
    refine va_get (D := D) (ci := 3) (v := .ref q_t_shone) (C := RX3) (T := TX3) (N := 1) hx hb hts hinX3 hown hK.1 hP 0 rfl rfl 0 (by decide) hk9 (fun _ h9 => h9) rfl dX3_mostAlike_16 ?_
    refine lv_iload_n hx hb dX3_mostAlike_19 rfl (lv_at hl 3 rfl) ?_
    refine lv_bipush (v := 12) hx hb dX3_mostAlike_20 (by decide) ?_
    refine lv_imul hx hb dX3_mostAlike_22 ?_
    refine lv_iload hx hb dX3_mostAlike_23 (lv_at hl 1 rfl) ?_
    refine lv_iadd hx hb dX3_mostAlike_25 ?_
    obtain ⟨hi4, hf⟩ := ckE hf
    refine va_iald hx hb hK.1 hP 1 0 rfl rfl hi4 dX3_mostAlike_26 ?_
    obtain ⟨r5, hr6, hf⟩ := boE1 hf
    have hPc := hP.sub (ws' := [(q_t, oX3 q_t_shone), (q_t_shone, .inl (cy 0, 300, .inl v_t_shone))]) [0, 1] rfl
    refine xcSi (va_runV (As := [.int p0, .int p1, .int (v_t_shone ((p0 * (12 : Int32)) + x2).toNatClampNeg)]) (rest := [.int x1]) ⟨hx, hb, hml, hown, hts⟩ (mX3_countAlike l D cy q_t q_t_shone v_t_shone  p0 p1 (v_t_shone ((p0 * (12 : Int32)) + x2).toNatClampNeg) hr6) (cwV 3 hts gX3_mostAlike_X3_countAlike rfl rfl rfl (by decide +kernel) ⟨Nat.le_of_ble_eq_true rfl, Nat.le_of_ble_eq_true rfl⟩) (xPV hK hPc (ci := 3) (q0 := 0) rfl rfl) rfl rfl hl.1 rfl (lv_room (Nat.le_of_ble_eq_true rfl)) dX3_mostAlike_27 ⟨Nat.le_of_ble_eq_true rfl, Nat.le_of_ble_eq_true rfl⟩) ?_
    refine va_mmax hx hb (by rw [hml]; exact hl.1.symm) hown hm29 hmsmax hmi hmcmax (Nat.le_of_ble_eq_true rfl) (Nat.le_of_ble_eq_true rfl) (Nat.zero_le _) (Nat.zero_le _) dX3_mostAlike_30 ?_
    refine lv_topi (fun x7 ex7 => ?_)
    have hf := vlE hf ex7
    clear ex7
    refine lv_istore_n (lv' := [(3, .int x7), (4, .int x2), (0, .ref q_t), (1, .int p0), (2, .int p1)]) hx hb dX3_mostAlike_33 rfl hl (by decide) rfl (fun ls hl => ?_)
    obtain ⟨x8, ex8⟩ : ∃ y : Int32, y = x2 + (1 : Int32) := ⟨_, rfl⟩
    have hf := vlE hf ex8
    refine lv_iinc (v := x8) (lv' := [(4, .int x8), (3, .int x7), (0, .ref q_t), (1, .int p0), (2, .int p1)]) hx hb dX3_mostAlike_34 hl (k := 1) rfl (by rw [ex8]; rfl) (by decide) rfl (fun ls hl => ?_)
    clear ex8
    refine lv_goto (tgt := 5) hx hb dX3_mostAlike_37 (by decide) ?_
    exact L5 x7 x8 ls (lv_sub hl [1, 0, 2, 3, 4] rfl) hf
def fX1_leastOf (p0 : Int32) (p1 : Int32) : Option (Int32) :=
  lo1 (fun g2 (x1 : Int32) =>
    if (12 : Int32) ≤ x1 then
      some p1
    else
      bo1 (fX7_hasBit p0 x1) fun r3 =>
      if r3 = 0 then
        vlet (x1 + (1 : Int32)) fun x5 =>
        g2 x5
      else
        some x1) 400 (0 : Int32)
set_option maxHeartbeats 4000000 in
set_option maxRecDepth 100000 in
theorem mX1_leastOf (l : Launch) (D : va_G) (cy : Nat → ClassId) (p0 : Int32) (p1 : Int32) {r_ : Int32} (hf : fX1_leastOf p0 p1 = some r_) : Met l yX1_leastOf wsX1_leastOf ({ frames := 1, cells := 0, slots := 0, locals := 21 }) (va_Pc [.int p0, .int p1] (fun U => va_P D vwCl [] U.heap ∧ xK D cy U)) (vp_Si (fun x => x = r_)) 0 0 (fun _ => False) := by
  refine Met.ofW (cc := cX1_leastOf) (maxL := 3) (ret := (some .int)) (by decide) rfl ?_
  intro p e s m args below meth c s₁ B hml hv
  obtain ⟨rfl, hP, hK⟩ := hv
  have hx := B.exec
  have hb := B.bytes
  have hr := B.returns
  have hts := atoms_spec (ws := wsX1_leastOf) B.pre
  have hown : s.vm.findClass RX1 = some m.cls := findClass_of_methodNamed B.named
  have hlocks := B.notSynchronized
  have hP : va_P D vwCl [] s.heap := hP
  have hiniX7 := hts (.initialized RX7) (by decide +kernel)
  have hstX7_hasBit := hts (.static yX7_hasBit) (by decide +kernel)
  have hl := lv_entry ([.int p0, .int p1]) (n := 3) (Nat.le_of_ble_eq_true rfl)
  rw [lg_entry_eq]
  generalize (lg_sl ([.int p0, .int p1]) ++ List.replicate (3 - (lg_sl ([.int p0, .int p1])).length) Slot.unset).toArray = ls at hl ⊢
  have hl : lv_has ls 3 [(0, .int p0), (1, .int p1)] := hl
  unfold fX1_leastOf at hf
  refine lv_iconst (v := 0) hx hb dX1_leastOf_0 (by decide) ?_
  refine lv_istore_n (lv' := [(2, .int (0 : Int32)), (0, .int p0), (1, .int p1)]) hx hb dX1_leastOf_1 rfl hl (by decide) rfl (fun ls hl => ?_)
  refine wlr1 2 (fun _ => []) (fun (x1 : Int32) ls => lv_has ls 3 [(2, .int x1), (0, .int p0), (1, .int p1)]) (fun g2 L2 x1 ls hl hf => ?_) 400 (0 : Int32) ls (lv_sub hl [0, 1, 2] rfl) hf
  refine lv_iload_n hx hb dX1_leastOf_2 rfl (lv_at hl 0 rfl) ?_
  refine lv_bipush (v := 12) hx hb dX1_leastOf_3 (by decide) ?_
  refine lv_icmp_ge (tgt := 24) hx hb dX1_leastOf_5 (by decide) (fun c7 => ?_) (fun c7 => ?_)
  · have hf := ifT hf c7
    clear c7
    refine lv_iload_n hx hb dX1_leastOf_24 rfl (lv_at hl 2 rfl) ?_
    exact W.iret (v := p1) hx hb hr (fun t ht hW => ⟨p1, rfl, Option.some.inj hf, ht⟩) (fun q h => nomatch h) dX1_leastOf_25
  · have hf := ifF hf c7
    clear c7
    refine lv_iload_n hx hb dX1_leastOf_8 rfl (lv_at hl 1 rfl) ?_
    refine lv_iload_n hx hb dX1_leastOf_9 rfl (lv_at hl 0 rfl) ?_
    obtain ⟨r3, hr4, hf⟩ := boE1 hf
    have hPc := hP.sub (ws' := []) [] rfl
    refine xcSi (va_runSN (As := [.int p0, .int x1]) (rest := []) ⟨hx, hb, hml, hown, hts⟩ (mX7_hasBit l D cy    p0 x1 hr4) ⟨va_cnB 2 hts gX1_leastOf_X7_hasBit_n25 rfl rfl rfl hK.2.2.1 hiniX7 (by decide +kernel) ⟨Nat.le_of_ble_eq_true rfl, Nat.le_of_ble_eq_true rfl⟩, hstX7_hasBit, trivial⟩ (xPS hK hPc) rfl rfl hl.1 rfl (lv_room (Nat.le_of_ble_eq_true rfl)) dX1_leastOf_10 ⟨Nat.le_of_ble_eq_true rfl, Nat.le_of_ble_eq_true rfl⟩) ?_
    refine lv_if_eq (tgt := 18) hx hb dX1_leastOf_13 (by decide) (fun c6 => ?_) (fun c6 => ?_)
    · have hf := ifT hf c6
      clear c6
      obtain ⟨x5, ex5⟩ : ∃ y : Int32, y = x1 + (1 : Int32) := ⟨_, rfl⟩
      have hf := vlE hf ex5
      refine lv_iinc (v := x5) (lv' := [(2, .int x5), (0, .int p0), (1, .int p1)]) hx hb dX1_leastOf_18 hl (k := 0) rfl (by rw [ex5]; rfl) (by decide) rfl (fun ls hl => ?_)
      clear ex5
      refine lv_goto (tgt := 2) hx hb dX1_leastOf_21 (by decide) ?_
      exact L2 x5 ls (lv_sub hl [0, 1, 2] rfl) hf
    · have hf := ifF hf c6
      clear c6
      refine lv_iload_n hx hb dX1_leastOf_16 rfl (lv_at hl 0 rfl) ?_
      exact W.iret (v := x1) hx hb hr (fun t ht hW => ⟨x1, rfl, Option.some.inj hf, ht⟩) (fun q h => nomatch h) dX1_leastOf_17
def fX1_keepOnlyWaysTo (v_t_length : Int32) (v_t_steps : Nat → Int32) (v_o0_ways : Nat → Int32) (p1 : Int32) : Option ((Nat → Int32)) :=
  if v_t_length < 0 ∨ 25 ≤ v_t_length.toNatClampNeg then none else
  vlet (v_t_length - (1 : Int32)) fun x2 =>
  lo2 (fun g5 (x3 : Int32) (u4 : Nat → Int32) =>
    if x3 < 0 then
      some u4
    else
      if x3 < 0 ∨ 25 ≤ x3.toNatClampNeg then none else
      if (x3 + (1 : Int32)) < 0 ∨ 25 ≤ (x3 + (1 : Int32)).toNatClampNeg then none else
      bo1 (fX5_spread v_o0_ways (u4 (x3 + (1 : Int32)).toNatClampNeg)) fun r8 =>
      if x3 < 0 ∨ 25 ≤ x3.toNatClampNeg then none else
      vlet (x3 + (-1 : Int32)) fun x11 =>
      g5 x11 (upd u4 x3.toNatClampNeg ((u4 x3.toNatClampNeg) &&& r8))) 400 x2 (upd v_t_steps v_t_length.toNatClampNeg ((1 : Int32) <<< (p1 &&& 31)))
set_option maxHeartbeats 4000000 in
set_option maxRecDepth 100000 in
theorem mX1_keepOnlyWaysTo (l : Launch) (D : va_G) (cy : Nat → ClassId) (q_t q_o0 q_t_steps q_o0_ways q_o0_distances q_o0_kind q_o0_a q_o0_home q_o0_aim q_o0_at : Nat) (v_t_length : Int32) (v_t_steps : Nat → Int32) (v_o0_places : Int32) (v_o0_people : Int32) (v_o0_hour : Int32) (v_o0_chance : Int32) (v_o0_seed : Int32) (v_o0_ways : Nat → Int32) (sz : Nat) (p1 : Int32) {n_t_steps : Nat → Int32} (hf : fX1_keepOnlyWaysTo v_t_length v_t_steps v_o0_ways p1 = some n_t_steps) : Met l yX1_keepOnlyWaysTo wsX1_keepOnlyWaysTo ({ frames := 2, cells := 0, slots := 0, locals := 44 }) (va_Pc [.ref q_t, .ref q_o0, .int p1] (fun U => U.heap.size = sz ∧ va_P D vwCl [(q_t, oX1 v_t_length q_t_steps), (q_t_steps, .inl (cy 0, 25, .inl v_t_steps)), (q_o0, oX5 v_o0_places q_o0_ways q_o0_distances v_o0_people q_o0_kind q_o0_a q_o0_home q_o0_aim q_o0_at v_o0_hour v_o0_chance v_o0_seed), (q_o0_ways, .inl (cy 0, 12, .inl v_o0_ways))] U.heap ∧ xK D cy U ∧ va_D (fun _ => True) [(q_t, oX1 v_t_length q_t_steps), (q_t_steps, .inl (cy 0, 25, .inl v_t_steps)), (q_o0, oX5 v_o0_places q_o0_ways q_o0_distances v_o0_people q_o0_kind q_o0_a q_o0_home q_o0_aim q_o0_at v_o0_hour v_o0_chance v_o0_seed), (q_o0_ways, .inl (cy 0, 12, .inl v_o0_ways))])) (va_Qv (fun (_ : Unit) => True) (fun _ t => va_P D vwCl [(q_t, oX1 v_t_length q_t_steps), (q_t_steps, .inl (cy 0, 25, .inl n_t_steps)), (q_o0, oX5 v_o0_places q_o0_ways q_o0_distances v_o0_people q_o0_kind q_o0_a q_o0_home q_o0_aim q_o0_at v_o0_hour v_o0_chance v_o0_seed), (q_o0_ways, .inl (cy 0, 12, .inl v_o0_ways))] t.heap) (va_A [(q_t, oX1 v_t_length q_t_steps), (q_t_steps, .inl (cy 0, 25, .inl v_t_steps)), (q_o0, oX5 v_o0_places q_o0_ways q_o0_distances v_o0_people q_o0_kind q_o0_a q_o0_home q_o0_aim q_o0_at v_o0_hour v_o0_chance v_o0_seed), (q_o0_ways, .inl (cy 0, 12, .inl v_o0_ways))] sz)) 0 0 (va_A [(q_t, oX1 v_t_length q_t_steps), (q_t_steps, .inl (cy 0, 25, .inl v_t_steps)), (q_o0, oX5 v_o0_places q_o0_ways q_o0_distances v_o0_people q_o0_kind q_o0_a q_o0_home q_o0_aim q_o0_at v_o0_hour v_o0_chance v_o0_seed), (q_o0_ways, .inl (cy 0, 12, .inl v_o0_ways))] sz) := by
  refine Met.ofW (cc := cX1_keepOnlyWaysTo) (maxL := 4) (ret := none) (by decide) rfl ?_
  intro p e s m args below meth c s₁ B hml hv
  obtain ⟨rfl, hsz, hP, hK, hD0⟩ := hv
  have hx := B.exec
  have hb := B.bytes
  have hr := B.returns
  have hts := atoms_spec (ws := wsX1_keepOnlyWaysTo) B.pre
  have hown : s.vm.findClass RX1 = some m.cls := findClass_of_methodNamed B.named
  have hlocks := B.notSynchronized
  subst hsz
  have hD := hD0.self (sz := s.heap.size)
  generalize hAe : va_A [(q_t, oX1 v_t_length q_t_steps), (q_t_steps, .inl (cy 0, 25, .inl v_t_steps)), (q_o0, oX5 v_o0_places q_o0_ways q_o0_distances v_o0_people q_o0_kind q_o0_a q_o0_home q_o0_aim q_o0_at v_o0_hour v_o0_chance v_o0_seed), (q_o0_ways, .inl (cy 0, 12, .inl v_o0_ways))] s.heap.size = A at hD ⊢
  have hA : ∀ q : Nat, s.heap.size ≤ q → A q := fun q h => by rw [← hAe]; exact Or.inr h
  have hS : va_S A s.heap s.heap [] := va_S.rf
  have hP : va_P D vwCl [(q_t, oX1 v_t_length q_t_steps), (q_t_steps, .inl (cy 0, 25, .inl v_t_steps)), (q_o0, oX5 v_o0_places q_o0_ways q_o0_distances v_o0_people q_o0_kind q_o0_a q_o0_home q_o0_aim q_o0_at v_o0_hour v_o0_chance v_o0_seed), (q_o0_ways, .inl (cy 0, 12, .inl v_o0_ways))] s.heap := hP
  have hinX1 : ∀ w ∈ u_ws RX1 TX1 2, w ∈ wsX1_keepOnlyWaysTo := by decide +kernel
  have hk15 := hts (.fieldLink RX1 15 "ShowsWhereNobodyIs$HiddenWay" "steps" "[I") (by decide +kernel)
  have hk9 := hts (.fieldLink RX1 9 "ShowsWhereNobodyIs$HiddenWay" "length" "I") (by decide +kernel)
  have hl := lv_entry ([.ref q_t, .ref q_o0, .int p1]) (n := 4) (Nat.le_of_ble_eq_true rfl)
  rw [lg_entry_eq]
  generalize (lg_sl ([.ref q_t, .ref q_o0, .int p1]) ++ List.replicate (4 - (lg_sl ([.ref q_t, .ref q_o0, .int p1])).length) Slot.unset).toArray = ls at hl ⊢
  have hl : lv_has ls 4 [(0, .ref q_t), (1, .ref q_o0), (2, .int p1)] := hl
  unfold fX1_keepOnlyWaysTo at hf
  refine lv_aload_n hx hb dX1_keepOnlyWaysTo_0 rfl (lv_at hl 0 rfl) ?_
  refine va_get (D := D) (ci := 1) (v := .ref q_t_steps) (C := RX1) (T := TX1) (N := 2) hx hb hts hinX1 hown hK.1 hP 0 rfl rfl 1 (by decide) hk15 (fun _ h9 => h9) rfl dX1_keepOnlyWaysTo_1 ?_
  refine lv_aload_n hx hb dX1_keepOnlyWaysTo_4 rfl (lv_at hl 0 rfl) ?_
  refine va_get (D := D) (ci := 1) (v := .int v_t_length) (C := RX1) (T := TX1) (N := 2) hx hb hts hinX1 hown hK.1 hP 0 rfl rfl 0 (by decide) hk9 (fun _ h9 => h9) rfl dX1_keepOnlyWaysTo_5 ?_
  refine lv_iconst (v := 1) hx hb dX1_keepOnlyWaysTo_8 (by decide) ?_
  refine lv_iload_n hx hb dX1_keepOnlyWaysTo_9 rfl (lv_at hl 2 rfl) ?_
  refine lv_ishl hx hb dX1_keepOnlyWaysTo_10 ?_
  obtain ⟨hi1, hf⟩ := ckE hf
  refine va_iast hx hb hK.1 hP hD hS 1 0 rfl rfl hi1 dX1_keepOnlyWaysTo_11 (fun H locs hP hD hS => ?_)
  have hP : va_P D vwCl [(q_t, oX1 v_t_length q_t_steps), (q_t_steps, .inl (cy 0, 25, .inl (upd v_t_steps v_t_length.toNatClampNeg ((1 : Int32) <<< (p1 &&& 31))))), (q_o0, oX5 v_o0_places q_o0_ways q_o0_distances v_o0_people q_o0_kind q_o0_a q_o0_home q_o0_aim q_o0_at v_o0_hour v_o0_chance v_o0_seed), (q_o0_ways, .inl (cy 0, 12, .inl v_o0_ways))] H := hP
  have hD : va_D A [(q_t, oX1 v_t_length q_t_steps), (q_t_steps, .inl (cy 0, 25, .inl (upd v_t_steps v_t_length.toNatClampNeg ((1 : Int32) <<< (p1 &&& 31))))), (q_o0, oX5 v_o0_places q_o0_ways q_o0_distances v_o0_people q_o0_kind q_o0_a q_o0_home q_o0_aim q_o0_at v_o0_hour v_o0_chance v_o0_seed), (q_o0_ways, .inl (cy 0, 12, .inl v_o0_ways))] := hD
  refine lv_aload_n hx hb dX1_keepOnlyWaysTo_12 rfl (lv_at hl 0 rfl) ?_
  refine va_get (D := D) (ci := 1) (v := .int v_t_length) (C := RX1) (T := TX1) (N := 2) hx hb hts hinX1 hown hK.1 hP 0 rfl rfl 0 (by decide) hk9 (fun _ h9 => h9) rfl dX1_keepOnlyWaysTo_13 ?_
  refine lv_iconst (v := 1) hx hb dX1_keepOnlyWaysTo_16 (by decide) ?_
  refine lv_isub hx hb dX1_keepOnlyWaysTo_17 ?_
  refine lv_topi (fun x2 ex2 => ?_)
  have hf := vlE hf ex2
  clear ex2
  refine lv_istore_n (lv' := [(3, .int x2), (0, .ref q_t), (1, .ref q_o0), (2, .int p1)]) hx hb dX1_keepOnlyWaysTo_18 rfl hl (by decide) rfl (fun ls hl => ?_)
  refine wlw2 19 (fun _ _ => []) (fun (x3 : Int32) (u4 : Nat → Int32) H locs ls => va_P D vwCl [(q_t, oX1 v_t_length q_t_steps), (q_t_steps, .inl (cy 0, 25, .inl u4)), (q_o0, oX5 v_o0_places q_o0_ways q_o0_distances v_o0_people q_o0_kind q_o0_a q_o0_home q_o0_aim q_o0_at v_o0_hour v_o0_chance v_o0_seed), (q_o0_ways, .inl (cy 0, 12, .inl v_o0_ways))] H ∧ va_D A [(q_t, oX1 v_t_length q_t_steps), (q_t_steps, .inl (cy 0, 25, .inl u4)), (q_o0, oX5 v_o0_places q_o0_ways q_o0_distances v_o0_people q_o0_kind q_o0_a q_o0_home q_o0_aim q_o0_at v_o0_hour v_o0_chance v_o0_seed), (q_o0_ways, .inl (cy 0, 12, .inl v_o0_ways))] ∧ va_S A s.heap H locs ∧ lv_has ls 4 [(3, .int x3), (0, .ref q_t), (1, .ref q_o0)]) (fun g5 L19 x3 u4 H locs ls hI hf => ?_) 400 x2 (upd v_t_steps v_t_length.toNatClampNeg ((1 : Int32) <<< (p1 &&& 31))) _ _ ls ⟨hP, hD, hS, lv_sub hl [0, 1, 2] rfl⟩ hf
  obtain ⟨hP, hD, hS, hl⟩ := hI
  refine lv_iload_n hx hb dX1_keepOnlyWaysTo_19 rfl (lv_at hl 0 rfl) ?_
  refine lv_if_lt (tgt := 50) hx hb dX1_keepOnlyWaysTo_20 (by decide) (fun c12 => ?_) (fun c12 => ?_)
  · have hf := ifT hf c12
    clear c12
    cases hf
    exact W.vret hx hb hr (fun t ht hW => ⟨⟨(), rfl, trivial, xend ht hP⟩, hS.F ht⟩) hS.2.2 dX1_keepOnlyWaysTo_50
  · have hf := ifF hf c12
    clear c12
    refine lv_aload_n hx hb dX1_keepOnlyWaysTo_23 rfl (lv_at hl 1 rfl) ?_
    refine va_get (D := D) (ci := 1) (v := .ref q_t_steps) (C := RX1) (T := TX1) (N := 2) hx hb hts hinX1 hown hK.1 hP 0 rfl rfl 1 (by decide) hk15 (fun _ h9 => h9) rfl dX1_keepOnlyWaysTo_24 ?_
    refine lv_iload_n hx hb dX1_keepOnlyWaysTo_27 rfl (lv_at hl 0 rfl) ?_
    refine lv_dup2_11 hx hb dX1_keepOnlyWaysTo_28 rfl rfl ?_
    obtain ⟨hi6, hf⟩ := ckE hf
    refine va_iald hx hb hK.1 hP 1 0 rfl rfl hi6 dX1_keepOnlyWaysTo_29 ?_
    refine lv_aload_n hx hb dX1_keepOnlyWaysTo_30 rfl (lv_at hl 2 rfl) ?_
    refine lv_aload_n hx hb dX1_keepOnlyWaysTo_31 rfl (lv_at hl 1 rfl) ?_
    refine va_get (D := D) (ci := 1) (v := .ref q_t_steps) (C := RX1) (T := TX1) (N := 2) hx hb hts hinX1 hown hK.1 hP 0 rfl rfl 1 (by decide) hk15 (fun _ h9 => h9) rfl dX1_keepOnlyWaysTo_32 ?_
    refine lv_iload_n hx hb dX1_keepOnlyWaysTo_35 rfl (lv_at hl 0 rfl) ?_
    refine lv_iconst (v := 1) hx hb dX1_keepOnlyWaysTo_36 (by decide) ?_
    refine lv_iadd hx hb dX1_keepOnlyWaysTo_37 ?_
    obtain ⟨hi7, hf⟩ := ckE hf
    refine va_iald hx hb hK.1 hP 1 0 rfl rfl hi7 dX1_keepOnlyWaysTo_38 ?_
    obtain ⟨r8, hr9, hf⟩ := boE1 hf
    have hPc := hP.sub (ws' := [(q_o0, oX5 v_o0_places q_o0_ways q_o0_distances v_o0_people q_o0_kind q_o0_a q_o0_home q_o0_aim q_o0_at v_o0_hour v_o0_chance v_o0_seed), (q_o0_ways, .inl (cy 0, 12, .inl v_o0_ways))]) [2, 3] rfl
    refine xcSi (va_runV (As := [.int (u4 (x3 + (1 : Int32)).toNatClampNeg)]) (rest := [.int (u4 x3.toNatClampNeg), .int x3, .ref q_t_steps]) ⟨hx, hb, hml, hown, hts⟩ (mX5_spread l D cy q_o0 q_o0_ways q_o0_distances q_o0_kind q_o0_a q_o0_home q_o0_aim q_o0_at v_o0_places v_o0_people v_o0_hour v_o0_chance v_o0_seed v_o0_ways  (u4 (x3 + (1 : Int32)).toNatClampNeg) hr9) (cwV 1 hts gX1_keepOnlyWaysTo_X5_spread rfl rfl rfl (by decide +kernel) ⟨Nat.le_of_ble_eq_true rfl, Nat.le_of_ble_eq_true rfl⟩) (xPV hK hPc (ci := 5) (q0 := 0) rfl rfl) rfl rfl hl.1 rfl (lv_room (Nat.le_of_ble_eq_true rfl)) dX1_keepOnlyWaysTo_39 ⟨Nat.le_of_ble_eq_true rfl, Nat.le_of_ble_eq_true rfl⟩) ?_
    refine lv_iand hx hb dX1_keepOnlyWaysTo_42 ?_
    obtain ⟨hi10, hf⟩ := ckE hf
    refine va_iast hx hb hK.1 hP hD hS 1 0 rfl rfl hi10 dX1_keepOnlyWaysTo_43 (fun H locs hP hD hS => ?_)
    have hP : va_P D vwCl [(q_t, oX1 v_t_length q_t_steps), (q_t_steps, .inl (cy 0, 25, .inl (upd u4 x3.toNatClampNeg ((u4 x3.toNatClampNeg) &&& r8)))), (q_o0, oX5 v_o0_places q_o0_ways q_o0_distances v_o0_people q_o0_kind q_o0_a q_o0_home q_o0_aim q_o0_at v_o0_hour v_o0_chance v_o0_seed), (q_o0_ways, .inl (cy 0, 12, .inl v_o0_ways))] H := hP
    have hD : va_D A [(q_t, oX1 v_t_length q_t_steps), (q_t_steps, .inl (cy 0, 25, .inl (upd u4 x3.toNatClampNeg ((u4 x3.toNatClampNeg) &&& r8)))), (q_o0, oX5 v_o0_places q_o0_ways q_o0_distances v_o0_people q_o0_kind q_o0_a q_o0_home q_o0_aim q_o0_at v_o0_hour v_o0_chance v_o0_seed), (q_o0_ways, .inl (cy 0, 12, .inl v_o0_ways))] := hD
    obtain ⟨x11, ex11⟩ : ∃ y : Int32, y = x3 + (-1 : Int32) := ⟨_, rfl⟩
    have hf := vlE hf ex11
    refine lv_iinc (v := x11) (lv' := [(3, .int x11), (0, .ref q_t), (1, .ref q_o0)]) hx hb dX1_keepOnlyWaysTo_44 hl (k := 0) rfl (by rw [ex11]; rfl) (by decide) rfl (fun ls hl => ?_)
    clear ex11
    refine lv_goto (tgt := 19) hx hb dX1_keepOnlyWaysTo_47 (by decide) ?_
    exact L19 x11 (upd u4 x3.toNatClampNeg ((u4 x3.toNatClampNeg) &&& r8)) _ _ ls ⟨hP, hD, hS, lv_sub hl [0, 1, 2] rfl⟩ hf
def fX1_seek (v_t_steps : Nat → Int32) (v_o0_places : Int32) (v_o0_people : Int32) (v_o0_hour : Int32) (v_o0_ways : Nat → Int32) (v_o0_distances : Nat → Int32) (v_o0_kind : Nat → Int32) (v_o0_home : Nat → Int32) (v_o0_aim : Nat → Int32) (v_o0_at : Nat → Int32) (p1 : Int32) (p2 : Int32) : Option (Int32 × (Nat → Int32) × Int32 × (Nat → Int32)) :=
  bo1 (fX5_darkPlaces v_o0_people v_o0_kind v_o0_at) fun r1 =>
  vlet (((1 : Int32) <<< (p1 &&& 31)) &&& r1) fun x3 =>
  lo5 (fun g9 (x4 : Int32) (x5 : Int32) (u6 : Nat → Int32) (u7 : Int32) (u8 : Nat → Int32) =>
    if (24 : Int32) < x5 then
      some ((-1 : Int32), u6, u7, u8)
    else
      if x4 = 0 then
        some ((-1 : Int32), u6, u7, u8)
      else
        if x5 < 0 ∨ 25 ≤ x5.toNatClampNeg then none else
        bo1 (fX7_hasBit x4 p2) fun r11 =>
        if r11 = 0 then
          bo3 (fX5_passHour v_o0_places v_o0_people u7 v_o0_ways v_o0_distances v_o0_kind v_o0_home v_o0_aim u8) fun r13 u14 u15 =>
          bo1 (fX5_spread v_o0_ways x4) fun r17 =>
          bo1 (fX5_darkPlaces v_o0_people v_o0_kind u15) fun r19 =>
          vlet (r17 &&& r19) fun x21 =>
          vlet (x5 + (1 : Int32)) fun x22 =>
          g9 x21 x22 (upd u6 x5.toNatClampNeg x4) u14 u15
        else
          bo1 (fX1_keepOnlyWaysTo x5 (upd u6 x5.toNatClampNeg x4) v_o0_ways p2) fun u23 =>
          some (x5, u23, u7, u8)) 400 x3 (0 : Int32) v_t_steps v_o0_hour v_o0_at
set_option maxHeartbeats 4000000 in
set_option maxRecDepth 100000 in
theorem mX1_seek (l : Launch) (D : va_G) (cy : Nat → ClassId) (q_t q_o0 q_t_steps q_o0_ways q_o0_distances q_o0_kind q_o0_a q_o0_home q_o0_aim q_o0_at : Nat) (v_t_length : Int32) (v_t_steps : Nat → Int32) (v_o0_places : Int32) (v_o0_people : Int32) (v_o0_hour : Int32) (v_o0_chance : Int32) (v_o0_seed : Int32) (v_o0_ways : Nat → Int32) (v_o0_distances : Nat → Int32) (v_o0_kind : Nat → Int32) (v_o0_home : Nat → Int32) (v_o0_aim : Nat → Int32) (v_o0_at : Nat → Int32) (sz : Nat) (p1 : Int32) (p2 : Int32) {n_t_length : Int32} {n_t_steps : Nat → Int32} {n_o0_hour : Int32} {n_o0_at : Nat → Int32} (hf : fX1_seek v_t_steps v_o0_places v_o0_people v_o0_hour v_o0_ways v_o0_distances v_o0_kind v_o0_home v_o0_aim v_o0_at p1 p2 = some (n_t_length, n_t_steps, n_o0_hour, n_o0_at)) : Met l yX1_seek wsX1_seek ({ frames := 4, cells := 0, slots := 0, locals := 93 }) (va_Pc [.ref q_t, .ref q_o0, .int p1, .int p2] (fun U => U.heap.size = sz ∧ va_P D vwCl [(q_t, oX1 v_t_length q_t_steps), (q_t_steps, .inl (cy 0, 25, .inl v_t_steps)), (q_o0, oX5 v_o0_places q_o0_ways q_o0_distances v_o0_people q_o0_kind q_o0_a q_o0_home q_o0_aim q_o0_at v_o0_hour v_o0_chance v_o0_seed), (q_o0_ways, .inl (cy 0, 12, .inl v_o0_ways)), (q_o0_distances, .inl (cy 0, 144, .inl v_o0_distances)), (q_o0_kind, .inl (cy 0, 8, .inl v_o0_kind)), (q_o0_home, .inl (cy 0, 8, .inl v_o0_home)), (q_o0_aim, .inl (cy 0, 8, .inl v_o0_aim)), (q_o0_at, .inl (cy 0, 8, .inl v_o0_at))] U.heap ∧ xK D cy U ∧ va_D (fun _ => True) [(q_t, oX1 v_t_length q_t_steps), (q_t_steps, .inl (cy 0, 25, .inl v_t_steps)), (q_o0, oX5 v_o0_places q_o0_ways q_o0_distances v_o0_people q_o0_kind q_o0_a q_o0_home q_o0_aim q_o0_at v_o0_hour v_o0_chance v_o0_seed), (q_o0_ways, .inl (cy 0, 12, .inl v_o0_ways)), (q_o0_distances, .inl (cy 0, 144, .inl v_o0_distances)), (q_o0_kind, .inl (cy 0, 8, .inl v_o0_kind)), (q_o0_home, .inl (cy 0, 8, .inl v_o0_home)), (q_o0_aim, .inl (cy 0, 8, .inl v_o0_aim)), (q_o0_at, .inl (cy 0, 8, .inl v_o0_at))])) (va_Qv (fun (_ : Unit) => True) (fun _ t => va_P D vwCl [(q_t, oX1 n_t_length q_t_steps), (q_t_steps, .inl (cy 0, 25, .inl n_t_steps)), (q_o0, oX5 v_o0_places q_o0_ways q_o0_distances v_o0_people q_o0_kind q_o0_a q_o0_home q_o0_aim q_o0_at n_o0_hour v_o0_chance v_o0_seed), (q_o0_ways, .inl (cy 0, 12, .inl v_o0_ways)), (q_o0_distances, .inl (cy 0, 144, .inl v_o0_distances)), (q_o0_kind, .inl (cy 0, 8, .inl v_o0_kind)), (q_o0_home, .inl (cy 0, 8, .inl v_o0_home)), (q_o0_aim, .inl (cy 0, 8, .inl v_o0_aim)), (q_o0_at, .inl (cy 0, 8, .inl n_o0_at))] t.heap) (va_A [(q_t, oX1 v_t_length q_t_steps), (q_t_steps, .inl (cy 0, 25, .inl v_t_steps)), (q_o0, oX5 v_o0_places q_o0_ways q_o0_distances v_o0_people q_o0_kind q_o0_a q_o0_home q_o0_aim q_o0_at v_o0_hour v_o0_chance v_o0_seed), (q_o0_ways, .inl (cy 0, 12, .inl v_o0_ways)), (q_o0_distances, .inl (cy 0, 144, .inl v_o0_distances)), (q_o0_kind, .inl (cy 0, 8, .inl v_o0_kind)), (q_o0_home, .inl (cy 0, 8, .inl v_o0_home)), (q_o0_aim, .inl (cy 0, 8, .inl v_o0_aim)), (q_o0_at, .inl (cy 0, 8, .inl v_o0_at))] sz)) 0 0 (va_A [(q_t, oX1 v_t_length q_t_steps), (q_t_steps, .inl (cy 0, 25, .inl v_t_steps)), (q_o0, oX5 v_o0_places q_o0_ways q_o0_distances v_o0_people q_o0_kind q_o0_a q_o0_home q_o0_aim q_o0_at v_o0_hour v_o0_chance v_o0_seed), (q_o0_ways, .inl (cy 0, 12, .inl v_o0_ways)), (q_o0_distances, .inl (cy 0, 144, .inl v_o0_distances)), (q_o0_kind, .inl (cy 0, 8, .inl v_o0_kind)), (q_o0_home, .inl (cy 0, 8, .inl v_o0_home)), (q_o0_aim, .inl (cy 0, 8, .inl v_o0_aim)), (q_o0_at, .inl (cy 0, 8, .inl v_o0_at))] sz) := by
  refine Met.ofW (cc := cX1_seek) (maxL := 6) (ret := none) (by decide) rfl ?_
  intro p e s m args below meth c s₁ B hml hv
  obtain ⟨rfl, hsz, hP, hK, hD0⟩ := hv
  have hx := B.exec
  have hb := B.bytes
  have hr := B.returns
  have hts := atoms_spec (ws := wsX1_seek) B.pre
  have hown : s.vm.findClass RX1 = some m.cls := findClass_of_methodNamed B.named
  have hlocks := B.notSynchronized
  subst hsz
  have hD := hD0.self (sz := s.heap.size)
  generalize hAe : va_A [(q_t, oX1 v_t_length q_t_steps), (q_t_steps, .inl (cy 0, 25, .inl v_t_steps)), (q_o0, oX5 v_o0_places q_o0_ways q_o0_distances v_o0_people q_o0_kind q_o0_a q_o0_home q_o0_aim q_o0_at v_o0_hour v_o0_chance v_o0_seed), (q_o0_ways, .inl (cy 0, 12, .inl v_o0_ways)), (q_o0_distances, .inl (cy 0, 144, .inl v_o0_distances)), (q_o0_kind, .inl (cy 0, 8, .inl v_o0_kind)), (q_o0_home, .inl (cy 0, 8, .inl v_o0_home)), (q_o0_aim, .inl (cy 0, 8, .inl v_o0_aim)), (q_o0_at, .inl (cy 0, 8, .inl v_o0_at))] s.heap.size = A at hD ⊢
  have hA : ∀ q : Nat, s.heap.size ≤ q → A q := fun q h => by rw [← hAe]; exact Or.inr h
  have hS : va_S A s.heap s.heap [] := va_S.rf
  have hP : va_P D vwCl [(q_t, oX1 v_t_length q_t_steps), (q_t_steps, .inl (cy 0, 25, .inl v_t_steps)), (q_o0, oX5 v_o0_places q_o0_ways q_o0_distances v_o0_people q_o0_kind q_o0_a q_o0_home q_o0_aim q_o0_at v_o0_hour v_o0_chance v_o0_seed), (q_o0_ways, .inl (cy 0, 12, .inl v_o0_ways)), (q_o0_distances, .inl (cy 0, 144, .inl v_o0_distances)), (q_o0_kind, .inl (cy 0, 8, .inl v_o0_kind)), (q_o0_home, .inl (cy 0, 8, .inl v_o0_home)), (q_o0_aim, .inl (cy 0, 8, .inl v_o0_aim)), (q_o0_at, .inl (cy 0, 8, .inl v_o0_at))] s.heap := hP
  have hinX1 : ∀ w ∈ u_ws RX1 TX1 2, w ∈ wsX1_seek := by decide +kernel
  have hk9 := hts (.fieldLink RX1 9 "ShowsWhereNobodyIs$HiddenWay" "length" "I") (by decide +kernel)
  have hk15 := hts (.fieldLink RX1 15 "ShowsWhereNobodyIs$HiddenWay" "steps" "[I") (by decide +kernel)
  have hiniX7 := hts (.initialized RX7) (by decide +kernel)
  have hstX7_hasBit := hts (.static yX7_hasBit) (by decide +kernel)
  have hl := lv_entry ([.ref q_t, .ref q_o0, .int p1, .int p2]) (n := 6) (Nat.le_of_ble_eq_true rfl)
  rw [lg_entry_eq]
  generalize (lg_sl ([.ref q_t, .ref q_o0, .int p1, .int p2]) ++ List.replicate (6 - (lg_sl ([.ref q_t, .ref q_o0, .int p1, .int p2])).length) Slot.unset).toArray = ls at hl ⊢
  have hl : lv_has ls 6 [(0, .ref q_t), (1, .ref q_o0), (2, .int p1), (3, .int p2)] := hl
  unfold fX1_seek at hf
  refine lv_aload_n hx hb dX1_seek_0 rfl (lv_at hl 0 rfl) ?_
  refine lv_iconst (v := (-1)) hx hb dX1_seek_1 (by decide) ?_
  refine va_put (D := D) (ci := 1) (v := .int (-1 : Int32)) (ty := .int) (C := RX1) (T := TX1) (N := 2) hx hb hts hinX1 tyX1 tyX1_ok nmX1 hown hK.1 hP hD hS 0 rfl rfl 0 (by decide) hk9 (fun _ h9 => h9) rfl (by decide +kernel) rfl rfl (Nat.le_of_ble_eq_true rfl) dX1_seek_2 (fun H locs hP hD hS => ?_)
  have hP : va_P D vwCl [(q_t, oX1 (-1 : Int32) q_t_steps), (q_t_steps, .inl (cy 0, 25, .inl v_t_steps)), (q_o0, oX5 v_o0_places q_o0_ways q_o0_distances v_o0_people q_o0_kind q_o0_a q_o0_home q_o0_aim q_o0_at v_o0_hour v_o0_chance v_o0_seed), (q_o0_ways, .inl (cy 0, 12, .inl v_o0_ways)), (q_o0_distances, .inl (cy 0, 144, .inl v_o0_distances)), (q_o0_kind, .inl (cy 0, 8, .inl v_o0_kind)), (q_o0_home, .inl (cy 0, 8, .inl v_o0_home)), (q_o0_aim, .inl (cy 0, 8, .inl v_o0_aim)), (q_o0_at, .inl (cy 0, 8, .inl v_o0_at))] H := hP
  have hD : va_D A [(q_t, oX1 (-1 : Int32) q_t_steps), (q_t_steps, .inl (cy 0, 25, .inl v_t_steps)), (q_o0, oX5 v_o0_places q_o0_ways q_o0_distances v_o0_people q_o0_kind q_o0_a q_o0_home q_o0_aim q_o0_at v_o0_hour v_o0_chance v_o0_seed), (q_o0_ways, .inl (cy 0, 12, .inl v_o0_ways)), (q_o0_distances, .inl (cy 0, 144, .inl v_o0_distances)), (q_o0_kind, .inl (cy 0, 8, .inl v_o0_kind)), (q_o0_home, .inl (cy 0, 8, .inl v_o0_home)), (q_o0_aim, .inl (cy 0, 8, .inl v_o0_aim)), (q_o0_at, .inl (cy 0, 8, .inl v_o0_at))] := hD
  refine lv_iconst (v := 1) hx hb dX1_seek_5 (by decide) ?_
  refine lv_iload_n hx hb dX1_seek_6 rfl (lv_at hl 2 rfl) ?_
  refine lv_ishl hx hb dX1_seek_7 ?_
  refine lv_aload_n hx hb dX1_seek_8 rfl (lv_at hl 1 rfl) ?_
  obtain ⟨r1, hr2, hf⟩ := boE1 hf
  have hPc := hP.sub (ws' := [(q_o0, oX5 v_o0_places q_o0_ways q_o0_distances v_o0_people q_o0_kind q_o0_a q_o0_home q_o0_aim q_o0_at v_o0_hour v_o0_chance v_o0_seed), (q_o0_kind, .inl (cy 0, 8, .inl v_o0_kind)), (q_o0_at, .inl (cy 0, 8, .inl v_o0_at))]) [2, 5, 8] rfl
  refine xcSi (va_runV (As := []) (rest := [.int ((1 : Int32) <<< (p1 &&& 31))]) ⟨hx, hb, hml, hown, hts⟩ (mX5_darkPlaces l D cy q_o0 q_o0_ways q_o0_distances q_o0_kind q_o0_a q_o0_home q_o0_aim q_o0_at v_o0_places v_o0_people v_o0_hour v_o0_chance v_o0_seed v_o0_kind v_o0_at   hr2) (cwV 0 hts gX1_seek_X5_darkPlaces rfl rfl rfl (by decide +kernel) ⟨Nat.le_of_ble_eq_true rfl, Nat.le_of_ble_eq_true rfl⟩) (xPV hK hPc (ci := 5) (q0 := 0) rfl rfl) rfl rfl hl.1 rfl (lv_room (Nat.le_of_ble_eq_true rfl)) dX1_seek_9 ⟨Nat.le_of_ble_eq_true rfl, Nat.le_of_ble_eq_true rfl⟩) ?_
  refine lv_iand hx hb dX1_seek_12 ?_
  refine lv_topi (fun x3 ex3 => ?_)
  have hf := vlE hf ex3
  clear ex3
  refine lv_istore (lv' := [(4, .int x3), (0, .ref q_t), (1, .ref q_o0), (2, .int p1), (3, .int p2)]) hx hb dX1_seek_13 hl (by decide) rfl (fun ls hl => ?_)
  refine lv_iconst (v := 0) hx hb dX1_seek_15 (by decide) ?_
  refine lv_istore (lv' := [(5, .int (0 : Int32)), (4, .int x3), (0, .ref q_t), (1, .ref q_o0), (2, .int p1), (3, .int p2)]) hx hb dX1_seek_16 hl (by decide) rfl (fun ls hl => ?_)
  refine wlw5 18 (fun _ _ _ _ _ => []) (fun (x4 : Int32) (x5 : Int32) (u6 : Nat → Int32) (u7 : Int32) (u8 : Nat → Int32) H locs ls => va_P D vwCl [(q_t, oX1 (-1 : Int32) q_t_steps), (q_t_steps, .inl (cy 0, 25, .inl u6)), (q_o0, oX5 v_o0_places q_o0_ways q_o0_distances v_o0_people q_o0_kind q_o0_a q_o0_home q_o0_aim q_o0_at u7 v_o0_chance v_o0_seed), (q_o0_ways, .inl (cy 0, 12, .inl v_o0_ways)), (q_o0_distances, .inl (cy 0, 144, .inl v_o0_distances)), (q_o0_kind, .inl (cy 0, 8, .inl v_o0_kind)), (q_o0_home, .inl (cy 0, 8, .inl v_o0_home)), (q_o0_aim, .inl (cy 0, 8, .inl v_o0_aim)), (q_o0_at, .inl (cy 0, 8, .inl u8))] H ∧ va_D A [(q_t, oX1 (-1 : Int32) q_t_steps), (q_t_steps, .inl (cy 0, 25, .inl u6)), (q_o0, oX5 v_o0_places q_o0_ways q_o0_distances v_o0_people q_o0_kind q_o0_a q_o0_home q_o0_aim q_o0_at u7 v_o0_chance v_o0_seed), (q_o0_ways, .inl (cy 0, 12, .inl v_o0_ways)), (q_o0_distances, .inl (cy 0, 144, .inl v_o0_distances)), (q_o0_kind, .inl (cy 0, 8, .inl v_o0_kind)), (q_o0_home, .inl (cy 0, 8, .inl v_o0_home)), (q_o0_aim, .inl (cy 0, 8, .inl v_o0_aim)), (q_o0_at, .inl (cy 0, 8, .inl u8))] ∧ va_S A s.heap H locs ∧ lv_has ls 6 [(4, .int x4), (5, .int x5), (0, .ref q_t), (1, .ref q_o0), (3, .int p2)]) (fun g9 L18 x4 x5 u6 u7 u8 H locs ls hI hf => ?_) 400 x3 (0 : Int32) v_t_steps v_o0_hour v_o0_at _ _ ls ⟨hP, hD, hS, lv_sub hl [1, 0, 2, 3, 5] rfl⟩ hf
  obtain ⟨hP, hD, hS, hl⟩ := hI
  refine lv_iload hx hb dX1_seek_18 (lv_at hl 1 rfl) ?_
  refine lv_bipush (v := 24) hx hb dX1_seek_20 (by decide) ?_
  refine lv_icmp_gt (tgt := 85) hx hb dX1_seek_22 (by decide) (fun c27 => ?_) (fun c27 => ?_)
  · have hf := ifT hf c27
    clear c27
    cases hf
    exact W.vret hx hb hr (fun t ht hW => ⟨⟨(), rfl, trivial, xend ht hP⟩, hS.F ht⟩) hS.2.2 dX1_seek_85
  · have hf := ifF hf c27
    clear c27
    refine lv_iload hx hb dX1_seek_25 (lv_at hl 0 rfl) ?_
    refine lv_if_eq (tgt := 85) hx hb dX1_seek_27 (by decide) (fun c26 => ?_) (fun c26 => ?_)
    · have hf := ifT hf c26
      clear c26
      cases hf
      exact W.vret hx hb hr (fun t ht hW => ⟨⟨(), rfl, trivial, xend ht hP⟩, hS.F ht⟩) hS.2.2 dX1_seek_85
    · have hf := ifF hf c26
      clear c26
      refine lv_aload_n hx hb dX1_seek_30 rfl (lv_at hl 2 rfl) ?_
      refine va_get (D := D) (ci := 1) (v := .ref q_t_steps) (C := RX1) (T := TX1) (N := 2) hx hb hts hinX1 hown hK.1 hP 0 rfl rfl 1 (by decide) hk15 (fun _ h9 => h9) rfl dX1_seek_31 ?_
      refine lv_iload hx hb dX1_seek_34 (lv_at hl 1 rfl) ?_
      refine lv_iload hx hb dX1_seek_36 (lv_at hl 0 rfl) ?_
      obtain ⟨hi10, hf⟩ := ckE hf
      refine va_iast hx hb hK.1 hP hD hS 1 0 rfl rfl hi10 dX1_seek_38 (fun H locs hP hD hS => ?_)
      have hP : va_P D vwCl [(q_t, oX1 (-1 : Int32) q_t_steps), (q_t_steps, .inl (cy 0, 25, .inl (upd u6 x5.toNatClampNeg x4))), (q_o0, oX5 v_o0_places q_o0_ways q_o0_distances v_o0_people q_o0_kind q_o0_a q_o0_home q_o0_aim q_o0_at u7 v_o0_chance v_o0_seed), (q_o0_ways, .inl (cy 0, 12, .inl v_o0_ways)), (q_o0_distances, .inl (cy 0, 144, .inl v_o0_distances)), (q_o0_kind, .inl (cy 0, 8, .inl v_o0_kind)), (q_o0_home, .inl (cy 0, 8, .inl v_o0_home)), (q_o0_aim, .inl (cy 0, 8, .inl v_o0_aim)), (q_o0_at, .inl (cy 0, 8, .inl u8))] H := hP
      have hD : va_D A [(q_t, oX1 (-1 : Int32) q_t_steps), (q_t_steps, .inl (cy 0, 25, .inl (upd u6 x5.toNatClampNeg x4))), (q_o0, oX5 v_o0_places q_o0_ways q_o0_distances v_o0_people q_o0_kind q_o0_a q_o0_home q_o0_aim q_o0_at u7 v_o0_chance v_o0_seed), (q_o0_ways, .inl (cy 0, 12, .inl v_o0_ways)), (q_o0_distances, .inl (cy 0, 144, .inl v_o0_distances)), (q_o0_kind, .inl (cy 0, 8, .inl v_o0_kind)), (q_o0_home, .inl (cy 0, 8, .inl v_o0_home)), (q_o0_aim, .inl (cy 0, 8, .inl v_o0_aim)), (q_o0_at, .inl (cy 0, 8, .inl u8))] := hD
      refine lv_iload hx hb dX1_seek_39 (lv_at hl 0 rfl) ?_
      refine lv_iload_n hx hb dX1_seek_41 rfl (lv_at hl 4 rfl) ?_
      obtain ⟨r11, hr12, hf⟩ := boE1 hf
      have hPc := hP.sub (ws' := []) [] rfl
      refine xcSi (va_runSN (As := [.int x4, .int p2]) (rest := []) ⟨hx, hb, hml, hown, hts⟩ (mX7_hasBit l D cy    x4 p2 hr12) ⟨va_cnB 2 hts gX1_seek_X7_hasBit_n25 rfl rfl rfl hK.2.2.1 hiniX7 (by decide +kernel) ⟨Nat.le_of_ble_eq_true rfl, Nat.le_of_ble_eq_true rfl⟩, hstX7_hasBit, trivial⟩ (xPS hK hPc) rfl rfl hl.1 rfl (lv_room (Nat.le_of_ble_eq_true rfl)) dX1_seek_42 ⟨Nat.le_of_ble_eq_true rfl, Nat.le_of_ble_eq_true rfl⟩) ?_
      refine lv_if_eq (tgt := 61) hx hb dX1_seek_45 (by decide) (fun c25 => ?_) (fun c25 => ?_)
      · have hf := ifT hf c25
        clear c25
        refine lv_aload_n hx hb dX1_seek_61 rfl (lv_at hl 3 rfl) ?_
        obtain ⟨r13, u14, u15, hr16, hf⟩ := boE3 hf
        have hPc := hP.sub (ws' := [(q_o0, oX5 v_o0_places q_o0_ways q_o0_distances v_o0_people q_o0_kind q_o0_a q_o0_home q_o0_aim q_o0_at u7 v_o0_chance v_o0_seed), (q_o0_ways, .inl (cy 0, 12, .inl v_o0_ways)), (q_o0_distances, .inl (cy 0, 144, .inl v_o0_distances)), (q_o0_kind, .inl (cy 0, 8, .inl v_o0_kind)), (q_o0_home, .inl (cy 0, 8, .inl v_o0_home)), (q_o0_aim, .inl (cy 0, 8, .inl v_o0_aim)), (q_o0_at, .inl (cy 0, 8, .inl u8))]) [2, 3, 4, 5, 6, 7, 8] rfl
        have hDc := hD.sub (ws' := [(q_o0, oX5 v_o0_places q_o0_ways q_o0_distances v_o0_people q_o0_kind q_o0_a q_o0_home q_o0_aim q_o0_at u7 v_o0_chance v_o0_seed), (q_o0_ways, .inl (cy 0, 12, .inl v_o0_ways)), (q_o0_distances, .inl (cy 0, 144, .inl v_o0_distances)), (q_o0_kind, .inl (cy 0, 8, .inl v_o0_kind)), (q_o0_home, .inl (cy 0, 8, .inl v_o0_home)), (q_o0_aim, .inl (cy 0, 8, .inl v_o0_aim)), (q_o0_at, .inl (cy 0, 8, .inl u8))]) [2, 3, 4, 5, 6, 7, 8] (by decide) rfl
        refine xcQi (w1 := [(q_o0, oX5 v_o0_places q_o0_ways q_o0_distances v_o0_people q_o0_kind q_o0_a q_o0_home q_o0_aim q_o0_at u14 v_o0_chance v_o0_seed), (q_o0_ways, .inl (cy 0, 12, .inl v_o0_ways)), (q_o0_distances, .inl (cy 0, 144, .inl v_o0_distances)), (q_o0_kind, .inl (cy 0, 8, .inl v_o0_kind)), (q_o0_home, .inl (cy 0, 8, .inl v_o0_home)), (q_o0_aim, .inl (cy 0, 8, .inl v_o0_aim)), (q_o0_at, .inl (cy 0, 8, .inl u15))]) (va_runV (As := []) (rest := []) ⟨hx, hb, hml, hown, hts⟩ (mX5_passHour l D cy q_o0 q_o0_ways q_o0_distances q_o0_kind q_o0_a q_o0_home q_o0_aim q_o0_at v_o0_places v_o0_people u7 v_o0_chance v_o0_seed v_o0_ways v_o0_distances v_o0_kind v_o0_home v_o0_aim u8 _  hr16) (cwV 0 hts gX1_seek_X5_passHour rfl rfl rfl (by decide +kernel) ⟨Nat.le_of_ble_eq_true rfl, Nat.le_of_ble_eq_true rfl⟩) (xPVw hK hPc hDc (ci := 5) (q0 := 0) rfl rfl) rfl rfl hl.1 rfl (lv_room (Nat.le_of_ble_eq_true rfl)) dX1_seek_62 ⟨Nat.le_of_ble_eq_true rfl, Nat.le_of_ble_eq_true rfl⟩) hP hD hS hA [2, 3, 4, 5, 6, 7, 8] rfl rfl (fun H locs hP hD hS => ?_)
        have hP : va_P D vwCl [(q_t, oX1 (-1 : Int32) q_t_steps), (q_t_steps, .inl (cy 0, 25, .inl (upd u6 x5.toNatClampNeg x4))), (q_o0, oX5 v_o0_places q_o0_ways q_o0_distances v_o0_people q_o0_kind q_o0_a q_o0_home q_o0_aim q_o0_at u14 v_o0_chance v_o0_seed), (q_o0_ways, .inl (cy 0, 12, .inl v_o0_ways)), (q_o0_distances, .inl (cy 0, 144, .inl v_o0_distances)), (q_o0_kind, .inl (cy 0, 8, .inl v_o0_kind)), (q_o0_home, .inl (cy 0, 8, .inl v_o0_home)), (q_o0_aim, .inl (cy 0, 8, .inl v_o0_aim)), (q_o0_at, .inl (cy 0, 8, .inl u15))] H := hP
        have hD : va_D A [(q_t, oX1 (-1 : Int32) q_t_steps), (q_t_steps, .inl (cy 0, 25, .inl (upd u6 x5.toNatClampNeg x4))), (q_o0, oX5 v_o0_places q_o0_ways q_o0_distances v_o0_people q_o0_kind q_o0_a q_o0_home q_o0_aim q_o0_at u14 v_o0_chance v_o0_seed), (q_o0_ways, .inl (cy 0, 12, .inl v_o0_ways)), (q_o0_distances, .inl (cy 0, 144, .inl v_o0_distances)), (q_o0_kind, .inl (cy 0, 8, .inl v_o0_kind)), (q_o0_home, .inl (cy 0, 8, .inl v_o0_home)), (q_o0_aim, .inl (cy 0, 8, .inl v_o0_aim)), (q_o0_at, .inl (cy 0, 8, .inl u15))] := hD
        refine lv_pop hx hb dX1_seek_65 rfl ?_
        refine lv_aload_n hx hb dX1_seek_66 rfl (lv_at hl 3 rfl) ?_
        refine lv_iload hx hb dX1_seek_67 (lv_at hl 0 rfl) ?_
        obtain ⟨r17, hr18, hf⟩ := boE1 hf
        have hPc := hP.sub (ws' := [(q_o0, oX5 v_o0_places q_o0_ways q_o0_distances v_o0_people q_o0_kind q_o0_a q_o0_home q_o0_aim q_o0_at u14 v_o0_chance v_o0_seed), (q_o0_ways, .inl (cy 0, 12, .inl v_o0_ways))]) [2, 3] rfl
        refine xcSi (va_runV (As := [.int x4]) (rest := []) ⟨hx, hb, hml, hown, hts⟩ (mX5_spread l D cy q_o0 q_o0_ways q_o0_distances q_o0_kind q_o0_a q_o0_home q_o0_aim q_o0_at v_o0_places v_o0_people u14 v_o0_chance v_o0_seed v_o0_ways  x4 hr18) (cwV 1 hts gX1_seek_X5_spread rfl rfl rfl (by decide +kernel) ⟨Nat.le_of_ble_eq_true rfl, Nat.le_of_ble_eq_true rfl⟩) (xPV hK hPc (ci := 5) (q0 := 0) rfl rfl) rfl rfl hl.1 rfl (lv_room (Nat.le_of_ble_eq_true rfl)) dX1_seek_69 ⟨Nat.le_of_ble_eq_true rfl, Nat.le_of_ble_eq_true rfl⟩) ?_
        refine lv_aload_n hx hb dX1_seek_72 rfl (lv_at hl 3 rfl) ?_
        obtain ⟨r19, hr20, hf⟩ := boE1 hf
        have hPc := hP.sub (ws' := [(q_o0, oX5 v_o0_places q_o0_ways q_o0_distances v_o0_people q_o0_kind q_o0_a q_o0_home q_o0_aim q_o0_at u14 v_o0_chance v_o0_seed), (q_o0_kind, .inl (cy 0, 8, .inl v_o0_kind)), (q_o0_at, .inl (cy 0, 8, .inl u15))]) [2, 5, 8] rfl
        refine xcSi (va_runV (As := []) (rest := [.int r17]) ⟨hx, hb, hml, hown, hts⟩ (mX5_darkPlaces l D cy q_o0 q_o0_ways q_o0_distances q_o0_kind q_o0_a q_o0_home q_o0_aim q_o0_at v_o0_places v_o0_people u14 v_o0_chance v_o0_seed v_o0_kind u15   hr20) (cwV 0 hts gX1_seek_X5_darkPlaces rfl rfl rfl (by decide +kernel) ⟨Nat.le_of_ble_eq_true rfl, Nat.le_of_ble_eq_true rfl⟩) (xPV hK hPc (ci := 5) (q0 := 0) rfl rfl) rfl rfl hl.1 rfl (lv_room (Nat.le_of_ble_eq_true rfl)) dX1_seek_73 ⟨Nat.le_of_ble_eq_true rfl, Nat.le_of_ble_eq_true rfl⟩) ?_
        refine lv_iand hx hb dX1_seek_76 ?_
        refine lv_topi (fun x21 ex21 => ?_)
        have hf := vlE hf ex21
        clear ex21
        refine lv_istore (lv' := [(4, .int x21), (5, .int x5), (0, .ref q_t), (1, .ref q_o0), (3, .int p2)]) hx hb dX1_seek_77 hl (by decide) rfl (fun ls hl => ?_)
        obtain ⟨x22, ex22⟩ : ∃ y : Int32, y = x5 + (1 : Int32) := ⟨_, rfl⟩
        have hf := vlE hf ex22
        refine lv_iinc (v := x22) (lv' := [(5, .int x22), (4, .int x21), (0, .ref q_t), (1, .ref q_o0), (3, .int p2)]) hx hb dX1_seek_79 hl (k := 1) rfl (by rw [ex22]; rfl) (by decide) rfl (fun ls hl => ?_)
        clear ex22
        refine lv_goto (tgt := 18) hx hb dX1_seek_82 (by decide) ?_
        exact L18 x21 x22 (upd u6 x5.toNatClampNeg x4) u14 u15 _ _ ls ⟨hP, hD, hS, lv_sub hl [1, 0, 2, 3, 4] rfl⟩ hf
      · have hf := ifF hf c25
        clear c25
        refine lv_aload_n hx hb dX1_seek_48 rfl (lv_at hl 2 rfl) ?_
        refine lv_iload hx hb dX1_seek_49 (lv_at hl 1 rfl) ?_
        refine va_put (D := D) (ci := 1) (v := .int x5) (ty := .int) (C := RX1) (T := TX1) (N := 2) hx hb hts hinX1 tyX1 tyX1_ok nmX1 hown hK.1 hP hD hS 0 rfl rfl 0 (by decide) hk9 (fun _ h9 => h9) rfl (by decide +kernel) rfl rfl (Nat.le_of_ble_eq_true rfl) dX1_seek_51 (fun H locs hP hD hS => ?_)
        have hP : va_P D vwCl [(q_t, oX1 x5 q_t_steps), (q_t_steps, .inl (cy 0, 25, .inl (upd u6 x5.toNatClampNeg x4))), (q_o0, oX5 v_o0_places q_o0_ways q_o0_distances v_o0_people q_o0_kind q_o0_a q_o0_home q_o0_aim q_o0_at u7 v_o0_chance v_o0_seed), (q_o0_ways, .inl (cy 0, 12, .inl v_o0_ways)), (q_o0_distances, .inl (cy 0, 144, .inl v_o0_distances)), (q_o0_kind, .inl (cy 0, 8, .inl v_o0_kind)), (q_o0_home, .inl (cy 0, 8, .inl v_o0_home)), (q_o0_aim, .inl (cy 0, 8, .inl v_o0_aim)), (q_o0_at, .inl (cy 0, 8, .inl u8))] H := hP
        have hD : va_D A [(q_t, oX1 x5 q_t_steps), (q_t_steps, .inl (cy 0, 25, .inl (upd u6 x5.toNatClampNeg x4))), (q_o0, oX5 v_o0_places q_o0_ways q_o0_distances v_o0_people q_o0_kind q_o0_a q_o0_home q_o0_aim q_o0_at u7 v_o0_chance v_o0_seed), (q_o0_ways, .inl (cy 0, 12, .inl v_o0_ways)), (q_o0_distances, .inl (cy 0, 144, .inl v_o0_distances)), (q_o0_kind, .inl (cy 0, 8, .inl v_o0_kind)), (q_o0_home, .inl (cy 0, 8, .inl v_o0_home)), (q_o0_aim, .inl (cy 0, 8, .inl v_o0_aim)), (q_o0_at, .inl (cy 0, 8, .inl u8))] := hD
        refine lv_aload_n hx hb dX1_seek_54 rfl (lv_at hl 2 rfl) ?_
        refine lv_aload_n hx hb dX1_seek_55 rfl (lv_at hl 3 rfl) ?_
        refine lv_iload_n hx hb dX1_seek_56 rfl (lv_at hl 4 rfl) ?_
        obtain ⟨u23, hr24, hf⟩ := boE1 hf
        have hPc := hP.sub (ws' := [(q_t, oX1 x5 q_t_steps), (q_t_steps, .inl (cy 0, 25, .inl (upd u6 x5.toNatClampNeg x4))), (q_o0, oX5 v_o0_places q_o0_ways q_o0_distances v_o0_people q_o0_kind q_o0_a q_o0_home q_o0_aim q_o0_at u7 v_o0_chance v_o0_seed), (q_o0_ways, .inl (cy 0, 12, .inl v_o0_ways))]) [0, 1, 2, 3] rfl
        have hDc := hD.sub (ws' := [(q_t, oX1 x5 q_t_steps), (q_t_steps, .inl (cy 0, 25, .inl (upd u6 x5.toNatClampNeg x4))), (q_o0, oX5 v_o0_places q_o0_ways q_o0_distances v_o0_people q_o0_kind q_o0_a q_o0_home q_o0_aim q_o0_at u7 v_o0_chance v_o0_seed), (q_o0_ways, .inl (cy 0, 12, .inl v_o0_ways))]) [0, 1, 2, 3] (by decide) rfl
        refine xcQv (w1 := [(q_t, oX1 x5 q_t_steps), (q_t_steps, .inl (cy 0, 25, .inl u23)), (q_o0, oX5 v_o0_places q_o0_ways q_o0_distances v_o0_people q_o0_kind q_o0_a q_o0_home q_o0_aim q_o0_at u7 v_o0_chance v_o0_seed), (q_o0_ways, .inl (cy 0, 12, .inl v_o0_ways))]) (va_runV (As := [.ref q_o0, .int p2]) (rest := []) ⟨hx, hb, hml, hown, hts⟩ (mX1_keepOnlyWaysTo l D cy q_t q_o0 q_t_steps q_o0_ways q_o0_distances q_o0_kind q_o0_a q_o0_home q_o0_aim q_o0_at x5 (upd u6 x5.toNatClampNeg x4) v_o0_places v_o0_people u7 v_o0_chance v_o0_seed v_o0_ways _ p2 hr24) (cwV 2 hts gX1_seek_X1_keepOnlyWaysTo rfl rfl rfl (by decide +kernel) ⟨Nat.le_of_ble_eq_true rfl, Nat.le_of_ble_eq_true rfl⟩) (xPVw hK hPc hDc (ci := 1) (q0 := 0) rfl rfl) rfl rfl hl.1 rfl (lv_room (Nat.le_of_ble_eq_true rfl)) dX1_seek_57 ⟨Nat.le_of_ble_eq_true rfl, Nat.le_of_ble_eq_true rfl⟩) hP hD hS hA [0, 1, 2, 3] rfl rfl (fun H locs hP hD hS => ?_)
        have hP : va_P D vwCl [(q_t, oX1 x5 q_t_steps), (q_t_steps, .inl (cy 0, 25, .inl u23)), (q_o0, oX5 v_o0_places q_o0_ways q_o0_distances v_o0_people q_o0_kind q_o0_a q_o0_home q_o0_aim q_o0_at u7 v_o0_chance v_o0_seed), (q_o0_ways, .inl (cy 0, 12, .inl v_o0_ways)), (q_o0_distances, .inl (cy 0, 144, .inl v_o0_distances)), (q_o0_kind, .inl (cy 0, 8, .inl v_o0_kind)), (q_o0_home, .inl (cy 0, 8, .inl v_o0_home)), (q_o0_aim, .inl (cy 0, 8, .inl v_o0_aim)), (q_o0_at, .inl (cy 0, 8, .inl u8))] H := hP
        have hD : va_D A [(q_t, oX1 x5 q_t_steps), (q_t_steps, .inl (cy 0, 25, .inl u23)), (q_o0, oX5 v_o0_places q_o0_ways q_o0_distances v_o0_people q_o0_kind q_o0_a q_o0_home q_o0_aim q_o0_at u7 v_o0_chance v_o0_seed), (q_o0_ways, .inl (cy 0, 12, .inl v_o0_ways)), (q_o0_distances, .inl (cy 0, 144, .inl v_o0_distances)), (q_o0_kind, .inl (cy 0, 8, .inl v_o0_kind)), (q_o0_home, .inl (cy 0, 8, .inl v_o0_home)), (q_o0_aim, .inl (cy 0, 8, .inl v_o0_aim)), (q_o0_at, .inl (cy 0, 8, .inl u8))] := hD
        cases hf
        exact W.vret hx hb hr (fun t ht hW => ⟨⟨(), rfl, trivial, xend ht hP⟩, hS.F ht⟩) hS.2.2 dX1_seek_60
def fX1_placeAt (v_t_length : Int32) (v_t_steps : Nat → Int32) (v_o0_ways : Nat → Int32) (p1 : Int32) (p2 : Int32) : Option (Int32) :=
  lo2 (fun g3 (x1 : Int32) (x2 : Int32) =>
    if p2 < x2 then
      some x1
    else
      if v_t_length < x2 then
        some x1
      else
        bo1 (fX5_spread v_o0_ways ((1 : Int32) <<< (x1 &&& 31))) fun r4 =>
        if x2 < 0 ∨ 25 ≤ x2.toNatClampNeg then none else
        bo1 (fX1_leastOf (r4 &&& (v_t_steps x2.toNatClampNeg)) x1) fun r7 =>
        vlet (x2 + (1 : Int32)) fun x9 =>
        g3 r7 x9) 400 p1 (1 : Int32)
set_option maxHeartbeats 4000000 in
set_option maxRecDepth 100000 in
theorem mX1_placeAt (l : Launch) (D : va_G) (cy : Nat → ClassId) (q_t q_o0 q_t_steps q_o0_ways q_o0_distances q_o0_kind q_o0_a q_o0_home q_o0_aim q_o0_at : Nat) (v_t_length : Int32) (v_t_steps : Nat → Int32) (v_o0_places : Int32) (v_o0_people : Int32) (v_o0_hour : Int32) (v_o0_chance : Int32) (v_o0_seed : Int32) (v_o0_ways : Nat → Int32) (p1 : Int32) (p2 : Int32) {r_ : Int32} (hf : fX1_placeAt v_t_length v_t_steps v_o0_ways p1 p2 = some r_) : Met l yX1_placeAt wsX1_placeAt ({ frames := 2, cells := 0, slots := 0, locals := 44 }) (va_Pc [.ref q_t, .ref q_o0, .int p1, .int p2] (fun U => va_P D vwCl [(q_t, oX1 v_t_length q_t_steps), (q_t_steps, .inl (cy 0, 25, .inl v_t_steps)), (q_o0, oX5 v_o0_places q_o0_ways q_o0_distances v_o0_people q_o0_kind q_o0_a q_o0_home q_o0_aim q_o0_at v_o0_hour v_o0_chance v_o0_seed), (q_o0_ways, .inl (cy 0, 12, .inl v_o0_ways))] U.heap ∧ xK D cy U)) (vp_Si (fun x => x = r_)) 0 0 (fun _ => False) := by
  refine Met.ofW (cc := cX1_placeAt) (maxL := 6) (ret := (some .int)) (by decide) rfl ?_
  intro p e s m args below meth c s₁ B hml hv
  obtain ⟨rfl, hP, hK⟩ := hv
  have hx := B.exec
  have hb := B.bytes
  have hr := B.returns
  have hts := atoms_spec (ws := wsX1_placeAt) B.pre
  have hown : s.vm.findClass RX1 = some m.cls := findClass_of_methodNamed B.named
  have hlocks := B.notSynchronized
  have hP : va_P D vwCl [(q_t, oX1 v_t_length q_t_steps), (q_t_steps, .inl (cy 0, 25, .inl v_t_steps)), (q_o0, oX5 v_o0_places q_o0_ways q_o0_distances v_o0_people q_o0_kind q_o0_a q_o0_home q_o0_aim q_o0_at v_o0_hour v_o0_chance v_o0_seed), (q_o0_ways, .inl (cy 0, 12, .inl v_o0_ways))] s.heap := hP
  have hinX1 : ∀ w ∈ u_ws RX1 TX1 2, w ∈ wsX1_placeAt := by decide +kernel
  have hk9 := hts (.fieldLink RX1 9 "ShowsWhereNobodyIs$HiddenWay" "length" "I") (by decide +kernel)
  have hk15 := hts (.fieldLink RX1 15 "ShowsWhereNobodyIs$HiddenWay" "steps" "[I") (by decide +kernel)
  have hl := lv_entry ([.ref q_t, .ref q_o0, .int p1, .int p2]) (n := 6) (Nat.le_of_ble_eq_true rfl)
  rw [lg_entry_eq]
  generalize (lg_sl ([.ref q_t, .ref q_o0, .int p1, .int p2]) ++ List.replicate (6 - (lg_sl ([.ref q_t, .ref q_o0, .int p1, .int p2])).length) Slot.unset).toArray = ls at hl ⊢
  have hl : lv_has ls 6 [(0, .ref q_t), (1, .ref q_o0), (2, .int p1), (3, .int p2)] := hl
  unfold fX1_placeAt at hf
  refine lv_iload_n hx hb dX1_placeAt_0 rfl (lv_at hl 2 rfl) ?_
  refine lv_istore (lv' := [(4, .int p1), (0, .ref q_t), (1, .ref q_o0), (2, .int p1), (3, .int p2)]) hx hb dX1_placeAt_1 hl (by decide) rfl (fun ls hl => ?_)
  refine lv_iconst (v := 1) hx hb dX1_placeAt_3 (by decide) ?_
  refine lv_istore (lv' := [(5, .int (1 : Int32)), (4, .int p1), (0, .ref q_t), (1, .ref q_o0), (2, .int p1), (3, .int p2)]) hx hb dX1_placeAt_4 hl (by decide) rfl (fun ls hl => ?_)
  refine wlr2 6 (fun _ _ => []) (fun (x1 : Int32) (x2 : Int32) ls => lv_has ls 6 [(4, .int x1), (5, .int x2), (0, .ref q_t), (1, .ref q_o0), (3, .int p2)]) (fun g3 L6 x1 x2 ls hl hf => ?_) 400 p1 (1 : Int32) ls (lv_sub hl [1, 0, 2, 3, 5] rfl) hf
  refine lv_iload hx hb dX1_placeAt_6 (lv_at hl 1 rfl) ?_
  refine lv_iload_n hx hb dX1_placeAt_8 rfl (lv_at hl 4 rfl) ?_
  refine lv_icmp_gt (tgt := 50) hx hb dX1_placeAt_9 (by decide) (fun c11 => ?_) (fun c11 => ?_)
  · have hf := ifT hf c11
    clear c11
    refine lv_iload hx hb dX1_placeAt_50 (lv_at hl 0 rfl) ?_
    exact W.iret (v := x1) hx hb hr (fun t ht hW => ⟨x1, rfl, Option.some.inj hf, ht⟩) (fun q h => nomatch h) dX1_placeAt_52
  · have hf := ifF hf c11
    clear c11
    refine lv_iload hx hb dX1_placeAt_12 (lv_at hl 1 rfl) ?_
    refine lv_aload_n hx hb dX1_placeAt_14 rfl (lv_at hl 2 rfl) ?_
    refine va_get (D := D) (ci := 1) (v := .int v_t_length) (C := RX1) (T := TX1) (N := 2) hx hb hts hinX1 hown hK.1 hP 0 rfl rfl 0 (by decide) hk9 (fun _ h9 => h9) rfl dX1_placeAt_15 ?_
    refine lv_icmp_gt (tgt := 50) hx hb dX1_placeAt_18 (by decide) (fun c10 => ?_) (fun c10 => ?_)
    · have hf := ifT hf c10
      clear c10
      refine lv_iload hx hb dX1_placeAt_50 (lv_at hl 0 rfl) ?_
      exact W.iret (v := x1) hx hb hr (fun t ht hW => ⟨x1, rfl, Option.some.inj hf, ht⟩) (fun q h => nomatch h) dX1_placeAt_52
    · have hf := ifF hf c10
      clear c10
      refine lv_aload_n hx hb dX1_placeAt_21 rfl (lv_at hl 3 rfl) ?_
      refine lv_iconst (v := 1) hx hb dX1_placeAt_22 (by decide) ?_
      refine lv_iload hx hb dX1_placeAt_23 (lv_at hl 0 rfl) ?_
      refine lv_ishl hx hb dX1_placeAt_25 ?_
      obtain ⟨r4, hr5, hf⟩ := boE1 hf
      have hPc := hP.sub (ws' := [(q_o0, oX5 v_o0_places q_o0_ways q_o0_distances v_o0_people q_o0_kind q_o0_a q_o0_home q_o0_aim q_o0_at v_o0_hour v_o0_chance v_o0_seed), (q_o0_ways, .inl (cy 0, 12, .inl v_o0_ways))]) [2, 3] rfl
      refine xcSi (va_runV (As := [.int ((1 : Int32) <<< (x1 &&& 31))]) (rest := []) ⟨hx, hb, hml, hown, hts⟩ (mX5_spread l D cy q_o0 q_o0_ways q_o0_distances q_o0_kind q_o0_a q_o0_home q_o0_aim q_o0_at v_o0_places v_o0_people v_o0_hour v_o0_chance v_o0_seed v_o0_ways  ((1 : Int32) <<< (x1 &&& 31)) hr5) (cwV 1 hts gX1_placeAt_X5_spread rfl rfl rfl (by decide +kernel) ⟨Nat.le_of_ble_eq_true rfl, Nat.le_of_ble_eq_true rfl⟩) (xPV hK hPc (ci := 5) (q0 := 0) rfl rfl) rfl rfl hl.1 rfl (lv_room (Nat.le_of_ble_eq_true rfl)) dX1_placeAt_26 ⟨Nat.le_of_ble_eq_true rfl, Nat.le_of_ble_eq_true rfl⟩) ?_
      refine lv_aload_n hx hb dX1_placeAt_29 rfl (lv_at hl 2 rfl) ?_
      refine va_get (D := D) (ci := 1) (v := .ref q_t_steps) (C := RX1) (T := TX1) (N := 2) hx hb hts hinX1 hown hK.1 hP 0 rfl rfl 1 (by decide) hk15 (fun _ h9 => h9) rfl dX1_placeAt_30 ?_
      refine lv_iload hx hb dX1_placeAt_33 (lv_at hl 1 rfl) ?_
      obtain ⟨hi6, hf⟩ := ckE hf
      refine va_iald hx hb hK.1 hP 1 0 rfl rfl hi6 dX1_placeAt_35 ?_
      refine lv_iand hx hb dX1_placeAt_36 ?_
      refine lv_iload hx hb dX1_placeAt_37 (lv_at hl 0 rfl) ?_
      obtain ⟨r7, hr8, hf⟩ := boE1 hf
      have hPc := hP.sub (ws' := []) [] rfl
      refine xcSi (va_runS (As := [.int (r4 &&& (v_t_steps x2.toNatClampNeg)), .int x1]) (rest := []) ⟨hx, hb, hml, hown, hts⟩ (mX1_leastOf l D cy    (r4 &&& (v_t_steps x2.toNatClampNeg)) x1 hr8) (va_cwS 2 hts gX1_placeAt_X1_leastOf rfl rfl rfl (by decide +kernel) ⟨Nat.le_of_ble_eq_true rfl, Nat.le_of_ble_eq_true rfl⟩) (xPS hK hPc) rfl rfl hl.1 rfl (lv_room (Nat.le_of_ble_eq_true rfl)) dX1_placeAt_39 ⟨Nat.le_of_ble_eq_true rfl, Nat.le_of_ble_eq_true rfl⟩) ?_
      refine lv_istore (lv' := [(4, .int r7), (5, .int x2), (0, .ref q_t), (1, .ref q_o0), (3, .int p2)]) hx hb dX1_placeAt_42 hl (by decide) rfl (fun ls hl => ?_)
      obtain ⟨x9, ex9⟩ : ∃ y : Int32, y = x2 + (1 : Int32) := ⟨_, rfl⟩
      have hf := vlE hf ex9
      refine lv_iinc (v := x9) (lv' := [(5, .int x9), (4, .int r7), (0, .ref q_t), (1, .ref q_o0), (3, .int p2)]) hx hb dX1_placeAt_44 hl (k := 1) rfl (by rw [ex9]; rfl) (by decide) rfl (fun ls hl => ?_)
      clear ex9
      refine lv_goto (tgt := 6) hx hb dX1_placeAt_47 (by decide) ?_
      exact L6 r7 x9 ls (lv_sub hl [1, 0, 2, 3, 4] rfl) hf
