def fJ6_bitCount_0f7a4 (p0 : Int32) : Option (Int32) :=
  vlet (p0 - (((p0.toUInt32 >>> ((1 : Int32).toUInt32 &&& Int32.toUInt32 31)).toInt32) &&& (1431655765 : Int32))) fun x1 =>
  vlet ((x1 &&& (858993459 : Int32)) + (((x1.toUInt32 >>> ((2 : Int32).toUInt32 &&& Int32.toUInt32 31)).toInt32) &&& (858993459 : Int32))) fun x2 =>
  vlet ((x2 + ((x2.toUInt32 >>> ((4 : Int32).toUInt32 &&& Int32.toUInt32 31)).toInt32)) &&& (252645135 : Int32)) fun x3 =>
  vlet (x3 + ((x3.toUInt32 >>> ((8 : Int32).toUInt32 &&& Int32.toUInt32 31)).toInt32)) fun x4 =>
  vlet (x4 + ((x4.toUInt32 >>> ((16 : Int32).toUInt32 &&& Int32.toUInt32 31)).toInt32)) fun x5 =>
  some (x5 &&& (63 : Int32))
set_option maxHeartbeats 4000000 in
set_option maxRecDepth 100000 in
theorem mJ6_bitCount_0f7a4 (l : Launch) (D : va_G) (cy : Nat → ClassId) (p0 : Int32) {r_ : Int32} (hf : fJ6_bitCount_0f7a4 p0 = some r_) : Met l yJ6_bitCount_0f7a4 wsJ6_bitCount_0f7a4 ({ frames := 0, cells := 0, slots := 0, locals := 0 }) (va_Pc [.int p0] (fun U => va_P D vwCl [] U.heap ∧ xK D cy U)) (vp_Si (fun x => x = r_)) 0 0 (fun _ => False) := by
  refine Met.ofW (cc := cJ6_bitCount_0f7a4) (maxL := 1) (ret := (some .int)) (by decide) rfl ?_
  intro p e s m args below meth c s₁ B hml hv
  obtain ⟨rfl, hP, hK⟩ := hv
  have hx := B.exec
  have hb := B.bytes
  have hr := B.returns
  have hts := atoms_spec (ws := wsJ6_bitCount_0f7a4) B.pre
  have hown : s.vm.findClass RJ6 = some m.cls := findClass_of_methodNamed B.named
  have hlocks := B.notSynchronized
  have hP : va_P D vwCl [] s.heap := hP
  have hc265 := hts (.constant RJ6 265 (1431655765)) (by decide +kernel)
  have hc266 := hts (.constant RJ6 266 (858993459)) (by decide +kernel)
  have hc267 := hts (.constant RJ6 267 (252645135)) (by decide +kernel)
  have hl := lv_entry ([.int p0]) (n := 1) (Nat.le_of_ble_eq_true rfl)
  rw [lg_entry_eq]
  generalize (lg_sl ([.int p0]) ++ List.replicate (1 - (lg_sl ([.int p0])).length) Slot.unset).toArray = ls at hl ⊢
  have hl : lv_has ls 1 [(0, .int p0)] := hl
  unfold fJ6_bitCount_0f7a4 at hf
  refine lv_iload_n hx hb dJ6_bitCount_0f7a4_0 rfl (lv_at hl 0 rfl) ?_
  refine lv_iload_n hx hb dJ6_bitCount_0f7a4_1 rfl (lv_at hl 0 rfl) ?_
  refine lv_iconst (v := 1) hx hb dJ6_bitCount_0f7a4_2 (by decide) ?_
  refine lv_iushr hx hb dJ6_bitCount_0f7a4_3 rfl ?_
  refine lv_ldcw hx hb hown hc265 dJ6_bitCount_0f7a4_4 ?_
  refine lv_iand hx hb dJ6_bitCount_0f7a4_7 ?_
  refine lv_isub hx hb dJ6_bitCount_0f7a4_8 ?_
  refine lv_topi (fun x1 ex1 => ?_)
  have hf := vlE hf ex1
  clear ex1
  refine lv_istore_n (lv' := [(0, .int x1)]) hx hb dJ6_bitCount_0f7a4_9 rfl hl (by decide) rfl (fun ls hl => ?_)
  refine lv_iload_n hx hb dJ6_bitCount_0f7a4_10 rfl (lv_at hl 0 rfl) ?_
  refine lv_ldcw hx hb hown hc266 dJ6_bitCount_0f7a4_11 ?_
  refine lv_iand hx hb dJ6_bitCount_0f7a4_14 ?_
  refine lv_iload_n hx hb dJ6_bitCount_0f7a4_15 rfl (lv_at hl 0 rfl) ?_
  refine lv_iconst (v := 2) hx hb dJ6_bitCount_0f7a4_16 (by decide) ?_
  refine lv_iushr hx hb dJ6_bitCount_0f7a4_17 rfl ?_
  refine lv_ldcw hx hb hown hc266 dJ6_bitCount_0f7a4_18 ?_
  refine lv_iand hx hb dJ6_bitCount_0f7a4_21 ?_
  refine lv_iadd hx hb dJ6_bitCount_0f7a4_22 ?_
  refine lv_topi (fun x2 ex2 => ?_)
  have hf := vlE hf ex2
  clear ex2
  refine lv_istore_n (lv' := [(0, .int x2)]) hx hb dJ6_bitCount_0f7a4_23 rfl hl (by decide) rfl (fun ls hl => ?_)
  refine lv_iload_n hx hb dJ6_bitCount_0f7a4_24 rfl (lv_at hl 0 rfl) ?_
  refine lv_iload_n hx hb dJ6_bitCount_0f7a4_25 rfl (lv_at hl 0 rfl) ?_
  refine lv_iconst (v := 4) hx hb dJ6_bitCount_0f7a4_26 (by decide) ?_
  refine lv_iushr hx hb dJ6_bitCount_0f7a4_27 rfl ?_
  refine lv_iadd hx hb dJ6_bitCount_0f7a4_28 ?_
  refine lv_ldcw hx hb hown hc267 dJ6_bitCount_0f7a4_29 ?_
  refine lv_iand hx hb dJ6_bitCount_0f7a4_32 ?_
  refine lv_topi (fun x3 ex3 => ?_)
  have hf := vlE hf ex3
  clear ex3
  refine lv_istore_n (lv' := [(0, .int x3)]) hx hb dJ6_bitCount_0f7a4_33 rfl hl (by decide) rfl (fun ls hl => ?_)
  refine lv_iload_n hx hb dJ6_bitCount_0f7a4_34 rfl (lv_at hl 0 rfl) ?_
  refine lv_iload_n hx hb dJ6_bitCount_0f7a4_35 rfl (lv_at hl 0 rfl) ?_
  refine lv_bipush (v := 8) hx hb dJ6_bitCount_0f7a4_36 (by decide) ?_
  refine lv_iushr hx hb dJ6_bitCount_0f7a4_38 rfl ?_
  refine lv_iadd hx hb dJ6_bitCount_0f7a4_39 ?_
  refine lv_topi (fun x4 ex4 => ?_)
  have hf := vlE hf ex4
  clear ex4
  refine lv_istore_n (lv' := [(0, .int x4)]) hx hb dJ6_bitCount_0f7a4_40 rfl hl (by decide) rfl (fun ls hl => ?_)
  refine lv_iload_n hx hb dJ6_bitCount_0f7a4_41 rfl (lv_at hl 0 rfl) ?_
  refine lv_iload_n hx hb dJ6_bitCount_0f7a4_42 rfl (lv_at hl 0 rfl) ?_
  refine lv_bipush (v := 16) hx hb dJ6_bitCount_0f7a4_43 (by decide) ?_
  refine lv_iushr hx hb dJ6_bitCount_0f7a4_45 rfl ?_
  refine lv_iadd hx hb dJ6_bitCount_0f7a4_46 ?_
  refine lv_topi (fun x5 ex5 => ?_)
  have hf := vlE hf ex5
  clear ex5
  refine lv_istore_n (lv' := [(0, .int x5)]) hx hb dJ6_bitCount_0f7a4_47 rfl hl (by decide) rfl (fun ls hl => ?_)
  refine lv_iload_n hx hb dJ6_bitCount_0f7a4_48 rfl (lv_at hl 0 rfl) ?_
  refine lv_bipush (v := 63) hx hb dJ6_bitCount_0f7a4_49 (by decide) ?_
  refine lv_iand hx hb dJ6_bitCount_0f7a4_51 ?_
  exact W.iret (v := (x5 &&& (63 : Int32))) hx hb hr (fun t ht hW => ⟨(x5 &&& (63 : Int32)), rfl, Option.some.inj hf, ht⟩) (fun q h => nomatch h) dJ6_bitCount_0f7a4_52
def fX7_hasBit (p0 : Int32) (p1 : Int32) : Option (Int32) :=
  if ((p0 >>> (p1 &&& 31)) &&& (1 : Int32)) = 0 then
    some (0 : Int32)
  else
    some (1 : Int32)
set_option maxHeartbeats 4000000 in
set_option maxRecDepth 100000 in
theorem mX7_hasBit (l : Launch) (D : va_G) (cy : Nat → ClassId) (p0 : Int32) (p1 : Int32) {r_ : Int32} (hf : fX7_hasBit p0 p1 = some r_) : Met l yX7_hasBit wsX7_hasBit ({ frames := 0, cells := 0, slots := 0, locals := 0 }) (va_Pc [.int p0, .int p1] (fun U => va_P D vwCl [] U.heap ∧ xK D cy U)) (vp_Si (fun x => x = r_)) 0 0 (fun _ => False) := by
  refine Met.ofW (cc := cX7_hasBit) (maxL := 2) (ret := (some .boolean)) (by decide) rfl ?_
  intro p e s m args below meth c s₁ B hml hv
  obtain ⟨rfl, hP, hK⟩ := hv
  have hx := B.exec
  have hb := B.bytes
  have hr := B.returns
  have hts := atoms_spec (ws := wsX7_hasBit) B.pre
  have hown : s.vm.findClass RX7 = some m.cls := findClass_of_methodNamed B.named
  have hlocks := B.notSynchronized
  have hP : va_P D vwCl [] s.heap := hP
  have hl := lv_entry ([.int p0, .int p1]) (n := 2) (Nat.le_of_ble_eq_true rfl)
  rw [lg_entry_eq]
  generalize (lg_sl ([.int p0, .int p1]) ++ List.replicate (2 - (lg_sl ([.int p0, .int p1])).length) Slot.unset).toArray = ls at hl ⊢
  have hl : lv_has ls 2 [(0, .int p0), (1, .int p1)] := hl
  unfold fX7_hasBit at hf
  refine lv_iload_n hx hb dX7_hasBit_0 rfl (lv_at hl 0 rfl) ?_
  refine lv_iload_n hx hb dX7_hasBit_1 rfl (lv_at hl 1 rfl) ?_
  refine lv_ishr hx hb dX7_hasBit_2 ?_
  refine lv_iconst (v := 1) hx hb dX7_hasBit_3 (by decide) ?_
  refine lv_iand hx hb dX7_hasBit_4 ?_
  refine lv_if_eq (tgt := 12) hx hb dX7_hasBit_5 (by decide) (fun c1 => ?_) (fun c1 => ?_)
  · have hf := ifT hf c1
    clear c1
    refine lv_iconst (v := 0) hx hb dX7_hasBit_12 (by decide) ?_
    exact W.zret (v := (0 : Int32)) hx hb hr rfl (fun t ht hW => ⟨(0 : Int32), rfl, Option.some.inj hf, ht⟩) (fun q h => nomatch h) dX7_hasBit_13
  · have hf := ifF hf c1
    clear c1
    refine lv_iconst (v := 1) hx hb dX7_hasBit_8 (by decide) ?_
    refine lv_goto (tgt := 13) hx hb dX7_hasBit_9 (by decide) ?_
    exact W.zret (v := (1 : Int32)) hx hb hr rfl (fun t ht hW => ⟨(1 : Int32), rfl, Option.some.inj hf, ht⟩) (fun q h => nomatch h) dX7_hasBit_13
def fX0_begin (p0 : Int32) (p1 : Int32) : Option (Int32 × Int32) :=
  some (p0, p1)
set_option maxHeartbeats 4000000 in
set_option maxRecDepth 100000 in
theorem mX0_begin (l : Launch) (D : va_G) (cy : Nat → ClassId) (q_t : Nat) (v_t_found : Int32) (v_t_worth : Int32) (sz : Nat) (p0 : Int32) (p1 : Int32) {n_t_found : Int32} {n_t_worth : Int32} (hf : fX0_begin p0 p1 = some (n_t_found, n_t_worth)) : Met l yX0_begin wsX0_begin ({ frames := 0, cells := 0, slots := 0, locals := 0 }) (va_Pc [.ref q_t, .int p0, .int p1] (fun U => U.heap.size = sz ∧ va_P D vwCl [(q_t, oX0 v_t_found v_t_worth)] U.heap ∧ xK D cy U ∧ va_D (fun _ => True) [(q_t, oX0 v_t_found v_t_worth)])) (va_Qv (fun (_ : Unit) => True) (fun _ t => va_P D vwCl [(q_t, oX0 n_t_found n_t_worth)] t.heap) (va_A [(q_t, oX0 v_t_found v_t_worth)] sz)) 0 0 (va_A [(q_t, oX0 v_t_found v_t_worth)] sz) := by
  refine Met.ofW (cc := cX0_begin) (maxL := 3) (ret := none) (by decide) rfl ?_
  intro p e s m args below meth c s₁ B hml hv
  obtain ⟨rfl, hsz, hP, hK, hD0⟩ := hv
  have hx := B.exec
  have hb := B.bytes
  have hr := B.returns
  have hts := atoms_spec (ws := wsX0_begin) B.pre
  have hown : s.vm.findClass RX0 = some m.cls := findClass_of_methodNamed B.named
  have hlocks := B.notSynchronized
  subst hsz
  have hD := hD0.self (sz := s.heap.size)
  generalize hAe : va_A [(q_t, oX0 v_t_found v_t_worth)] s.heap.size = A at hD ⊢
  have hA : ∀ q : Nat, s.heap.size ≤ q → A q := fun q h => by rw [← hAe]; exact Or.inr h
  have hS : va_S A s.heap s.heap [] := va_S.rf
  have hP : va_P D vwCl [(q_t, oX0 v_t_found v_t_worth)] s.heap := hP
  have hinX0 : ∀ w ∈ u_ws RX0 TX0 2, w ∈ wsX0_begin := by decide +kernel
  have hk7 := hts (.fieldLink RX0 7 "ShowsWhereNobodyIs$Choice" "found" "I") (by decide +kernel)
  have hk13 := hts (.fieldLink RX0 13 "ShowsWhereNobodyIs$Choice" "worth" "I") (by decide +kernel)
  have hl := lv_entry ([.ref q_t, .int p0, .int p1]) (n := 3) (Nat.le_of_ble_eq_true rfl)
  rw [lg_entry_eq]
  generalize (lg_sl ([.ref q_t, .int p0, .int p1]) ++ List.replicate (3 - (lg_sl ([.ref q_t, .int p0, .int p1])).length) Slot.unset).toArray = ls at hl ⊢
  have hl : lv_has ls 3 [(0, .ref q_t), (1, .int p0), (2, .int p1)] := hl
  unfold fX0_begin at hf
  refine lv_aload_n hx hb dX0_begin_0 rfl (lv_at hl 0 rfl) ?_
  refine lv_iload_n hx hb dX0_begin_1 rfl (lv_at hl 1 rfl) ?_
  refine va_put (D := D) (ci := 0) (v := .int p0) (ty := .int) (C := RX0) (T := TX0) (N := 2) hx hb hts hinX0 tyX0 tyX0_ok nmX0 hown hK.1 hP hD hS 0 rfl rfl 0 (by decide) hk7 (fun _ h9 => h9) rfl (by decide +kernel) rfl rfl (Nat.le_of_ble_eq_true rfl) dX0_begin_2 (fun H locs hP hD hS => ?_)
  have hP : va_P D vwCl [(q_t, oX0 p0 v_t_worth)] H := hP
  have hD : va_D A [(q_t, oX0 p0 v_t_worth)] := hD
  refine lv_aload_n hx hb dX0_begin_5 rfl (lv_at hl 0 rfl) ?_
  refine lv_iload_n hx hb dX0_begin_6 rfl (lv_at hl 2 rfl) ?_
  refine va_put (D := D) (ci := 0) (v := .int p1) (ty := .int) (C := RX0) (T := TX0) (N := 2) hx hb hts hinX0 tyX0 tyX0_ok nmX0 hown hK.1 hP hD hS 0 rfl rfl 1 (by decide) hk13 (fun _ h9 => h9) rfl (by decide +kernel) rfl rfl (Nat.le_of_ble_eq_true rfl) dX0_begin_7 (fun H locs hP hD hS => ?_)
  have hP : va_P D vwCl [(q_t, oX0 p0 p1)] H := hP
  have hD : va_D A [(q_t, oX0 p0 p1)] := hD
  cases hf
  exact W.vret hx hb hr (fun t ht hW => ⟨⟨(), rfl, trivial, xend ht hP⟩, hS.F ht⟩) hS.2.2 dX0_begin_10
def fX0_offer (v_t_found : Int32) (v_t_worth : Int32) (p0 : Int32) (p1 : Int32) : Option (Int32 × Int32) :=
  if p1 ≤ v_t_worth then
    some (v_t_found, v_t_worth)
  else
    some (p0, p1)
set_option maxHeartbeats 4000000 in
set_option maxRecDepth 100000 in
theorem mX0_offer (l : Launch) (D : va_G) (cy : Nat → ClassId) (q_t : Nat) (v_t_found : Int32) (v_t_worth : Int32) (sz : Nat) (p0 : Int32) (p1 : Int32) {n_t_found : Int32} {n_t_worth : Int32} (hf : fX0_offer v_t_found v_t_worth p0 p1 = some (n_t_found, n_t_worth)) : Met l yX0_offer wsX0_offer ({ frames := 0, cells := 0, slots := 0, locals := 0 }) (va_Pc [.ref q_t, .int p0, .int p1] (fun U => U.heap.size = sz ∧ va_P D vwCl [(q_t, oX0 v_t_found v_t_worth)] U.heap ∧ xK D cy U ∧ va_D (fun _ => True) [(q_t, oX0 v_t_found v_t_worth)])) (va_Qv (fun (_ : Unit) => True) (fun _ t => va_P D vwCl [(q_t, oX0 n_t_found n_t_worth)] t.heap) (va_A [(q_t, oX0 v_t_found v_t_worth)] sz)) 0 0 (va_A [(q_t, oX0 v_t_found v_t_worth)] sz) := by
  refine Met.ofW (cc := cX0_offer) (maxL := 3) (ret := none) (by decide) rfl ?_
  intro p e s m args below meth c s₁ B hml hv
  obtain ⟨rfl, hsz, hP, hK, hD0⟩ := hv
  have hx := B.exec
  have hb := B.bytes
  have hr := B.returns
  have hts := atoms_spec (ws := wsX0_offer) B.pre
  have hown : s.vm.findClass RX0 = some m.cls := findClass_of_methodNamed B.named
  have hlocks := B.notSynchronized
  subst hsz
  have hD := hD0.self (sz := s.heap.size)
  generalize hAe : va_A [(q_t, oX0 v_t_found v_t_worth)] s.heap.size = A at hD ⊢
  have hA : ∀ q : Nat, s.heap.size ≤ q → A q := fun q h => by rw [← hAe]; exact Or.inr h
  have hS : va_S A s.heap s.heap [] := va_S.rf
  have hP : va_P D vwCl [(q_t, oX0 v_t_found v_t_worth)] s.heap := hP
  have hinX0 : ∀ w ∈ u_ws RX0 TX0 2, w ∈ wsX0_offer := by decide +kernel
  have hk13 := hts (.fieldLink RX0 13 "ShowsWhereNobodyIs$Choice" "worth" "I") (by decide +kernel)
  have hk7 := hts (.fieldLink RX0 7 "ShowsWhereNobodyIs$Choice" "found" "I") (by decide +kernel)
  have hl := lv_entry ([.ref q_t, .int p0, .int p1]) (n := 3) (Nat.le_of_ble_eq_true rfl)
  rw [lg_entry_eq]
  generalize (lg_sl ([.ref q_t, .int p0, .int p1]) ++ List.replicate (3 - (lg_sl ([.ref q_t, .int p0, .int p1])).length) Slot.unset).toArray = ls at hl ⊢
  have hl : lv_has ls 3 [(0, .ref q_t), (1, .int p0), (2, .int p1)] := hl
  unfold fX0_offer at hf
  refine lv_iload_n hx hb dX0_offer_0 rfl (lv_at hl 2 rfl) ?_
  refine lv_aload_n hx hb dX0_offer_1 rfl (lv_at hl 0 rfl) ?_
  refine va_get (D := D) (ci := 0) (v := .int v_t_worth) (C := RX0) (T := TX0) (N := 2) hx hb hts hinX0 hown hK.1 hP 0 rfl rfl 1 (by decide) hk13 (fun _ h9 => h9) rfl dX0_offer_2 ?_
  refine lv_icmp_le (tgt := 18) hx hb dX0_offer_5 (by decide) (fun c1 => ?_) (fun c1 => ?_)
  · have hf := ifT hf c1
    clear c1
    cases hf
    exact W.vret hx hb hr (fun t ht hW => ⟨⟨(), rfl, trivial, xend ht hP⟩, hS.F ht⟩) hS.2.2 dX0_offer_18
  · have hf := ifF hf c1
    clear c1
    refine lv_aload_n hx hb dX0_offer_8 rfl (lv_at hl 0 rfl) ?_
    refine lv_iload_n hx hb dX0_offer_9 rfl (lv_at hl 1 rfl) ?_
    refine va_put (D := D) (ci := 0) (v := .int p0) (ty := .int) (C := RX0) (T := TX0) (N := 2) hx hb hts hinX0 tyX0 tyX0_ok nmX0 hown hK.1 hP hD hS 0 rfl rfl 0 (by decide) hk7 (fun _ h9 => h9) rfl (by decide +kernel) rfl rfl (Nat.le_of_ble_eq_true rfl) dX0_offer_10 (fun H locs hP hD hS => ?_)
    have hP : va_P D vwCl [(q_t, oX0 p0 v_t_worth)] H := hP
    have hD : va_D A [(q_t, oX0 p0 v_t_worth)] := hD
    refine lv_aload_n hx hb dX0_offer_13 rfl (lv_at hl 0 rfl) ?_
    refine lv_iload_n hx hb dX0_offer_14 rfl (lv_at hl 2 rfl) ?_
    refine va_put (D := D) (ci := 0) (v := .int p1) (ty := .int) (C := RX0) (T := TX0) (N := 2) hx hb hts hinX0 tyX0 tyX0_ok nmX0 hown hK.1 hP hD hS 0 rfl rfl 1 (by decide) hk13 (fun _ h9 => h9) rfl (by decide +kernel) rfl rfl (Nat.le_of_ble_eq_true rfl) dX0_offer_15 (fun H locs hP hD hS => ?_)
    have hP : va_P D vwCl [(q_t, oX0 p0 p1)] H := hP
    have hD : va_D A [(q_t, oX0 p0 p1)] := hD
    cases hf
    exact W.vret hx hb hr (fun t ht hW => ⟨⟨(), rfl, trivial, xend ht hP⟩, hS.F ht⟩) hS.2.2 dX0_offer_18
def fX4_append (v_t_size : Int32) (v_t_bytes : Nat → Int32) (p0 : Int32) : Option (Int32 × (Nat → Int32)) :=
  if (250 : Int32) ≤ v_t_size then
    some (v_t_size, v_t_bytes)
  else
    if v_t_size < 0 ∨ 250 ≤ v_t_size.toNatClampNeg then none else
    some (v_t_size + (1 : Int32), upd v_t_bytes v_t_size.toNatClampNeg p0)
set_option maxHeartbeats 4000000 in
set_option maxRecDepth 100000 in
theorem mX4_append (l : Launch) (D : va_G) (cy : Nat → ClassId) (q_t q_t_bytes : Nat) (v_t_size : Int32) (v_t_bytes : Nat → Int32) (sz : Nat) (p0 : Int32) {n_t_size : Int32} {n_t_bytes : Nat → Int32} (hf : fX4_append v_t_size v_t_bytes p0 = some (n_t_size, n_t_bytes)) : Met l yX4_append wsX4_append ({ frames := 0, cells := 0, slots := 0, locals := 0 }) (va_Pc [.ref q_t, .int p0] (fun U => U.heap.size = sz ∧ va_P D vwCl [(q_t, oX4 q_t_bytes v_t_size), (q_t_bytes, .inl (cy 0, 250, .inl v_t_bytes))] U.heap ∧ xK D cy U ∧ va_D (fun _ => True) [(q_t, oX4 q_t_bytes v_t_size), (q_t_bytes, .inl (cy 0, 250, .inl v_t_bytes))])) (va_Qv (fun (_ : Unit) => True) (fun _ t => va_P D vwCl [(q_t, oX4 q_t_bytes n_t_size), (q_t_bytes, .inl (cy 0, 250, .inl n_t_bytes))] t.heap) (va_A [(q_t, oX4 q_t_bytes v_t_size), (q_t_bytes, .inl (cy 0, 250, .inl v_t_bytes))] sz)) 0 0 (va_A [(q_t, oX4 q_t_bytes v_t_size), (q_t_bytes, .inl (cy 0, 250, .inl v_t_bytes))] sz) := by
  refine Met.ofW (cc := cX4_append) (maxL := 2) (ret := none) (by decide) rfl ?_
  intro p e s m args below meth c s₁ B hml hv
  obtain ⟨rfl, hsz, hP, hK, hD0⟩ := hv
  have hx := B.exec
  have hb := B.bytes
  have hr := B.returns
  have hts := atoms_spec (ws := wsX4_append) B.pre
  have hown : s.vm.findClass RX4 = some m.cls := findClass_of_methodNamed B.named
  have hlocks := B.notSynchronized
  subst hsz
  have hD := hD0.self (sz := s.heap.size)
  generalize hAe : va_A [(q_t, oX4 q_t_bytes v_t_size), (q_t_bytes, .inl (cy 0, 250, .inl v_t_bytes))] s.heap.size = A at hD ⊢
  have hA : ∀ q : Nat, s.heap.size ≤ q → A q := fun q h => by rw [← hAe]; exact Or.inr h
  have hS : va_S A s.heap s.heap [] := va_S.rf
  have hP : va_P D vwCl [(q_t, oX4 q_t_bytes v_t_size), (q_t_bytes, .inl (cy 0, 250, .inl v_t_bytes))] s.heap := hP
  have hinX4 : ∀ w ∈ u_ws RX4 TX4 2, w ∈ wsX4_append := by decide +kernel
  have hk15 := hts (.fieldLink RX4 15 "ShowsWhereNobodyIs$Tape" "size" "I") (by decide +kernel)
  have hk9 := hts (.fieldLink RX4 9 "ShowsWhereNobodyIs$Tape" "bytes" "[I") (by decide +kernel)
  have hl := lv_entry ([.ref q_t, .int p0]) (n := 2) (Nat.le_of_ble_eq_true rfl)
  rw [lg_entry_eq]
  generalize (lg_sl ([.ref q_t, .int p0]) ++ List.replicate (2 - (lg_sl ([.ref q_t, .int p0])).length) Slot.unset).toArray = ls at hl ⊢
  have hl : lv_has ls 2 [(0, .ref q_t), (1, .int p0)] := hl
  unfold fX4_append at hf
  refine lv_aload_n hx hb dX4_append_0 rfl (lv_at hl 0 rfl) ?_
  refine va_get (D := D) (ci := 4) (v := .int v_t_size) (C := RX4) (T := TX4) (N := 2) hx hb hts hinX4 hown hK.1 hP 0 rfl rfl 1 (by decide) hk15 (fun _ h9 => h9) rfl dX4_append_1 ?_
  refine lv_sipush (v := 250) hx hb dX4_append_4 (by decide) ?_
  refine lv_icmp_ge (tgt := 30) hx hb dX4_append_7 (by decide) (fun c2 => ?_) (fun c2 => ?_)
  · have hf := ifT hf c2
    clear c2
    cases hf
    exact W.vret hx hb hr (fun t ht hW => ⟨⟨(), rfl, trivial, xend ht hP⟩, hS.F ht⟩) hS.2.2 dX4_append_30
  · have hf := ifF hf c2
    clear c2
    refine lv_aload_n hx hb dX4_append_10 rfl (lv_at hl 0 rfl) ?_
    refine va_get (D := D) (ci := 4) (v := .ref q_t_bytes) (C := RX4) (T := TX4) (N := 2) hx hb hts hinX4 hown hK.1 hP 0 rfl rfl 0 (by decide) hk9 (fun _ h9 => h9) rfl dX4_append_11 ?_
    refine lv_aload_n hx hb dX4_append_14 rfl (lv_at hl 0 rfl) ?_
    refine va_get (D := D) (ci := 4) (v := .int v_t_size) (C := RX4) (T := TX4) (N := 2) hx hb hts hinX4 hown hK.1 hP 0 rfl rfl 1 (by decide) hk15 (fun _ h9 => h9) rfl dX4_append_15 ?_
    refine lv_iload_n hx hb dX4_append_18 rfl (lv_at hl 1 rfl) ?_
    obtain ⟨hi1, hf⟩ := ckE hf
    refine va_iast hx hb hK.1 hP hD hS 1 0 rfl rfl hi1 dX4_append_19 (fun H locs hP hD hS => ?_)
    have hP : va_P D vwCl [(q_t, oX4 q_t_bytes v_t_size), (q_t_bytes, .inl (cy 0, 250, .inl (upd v_t_bytes v_t_size.toNatClampNeg p0)))] H := hP
    have hD : va_D A [(q_t, oX4 q_t_bytes v_t_size), (q_t_bytes, .inl (cy 0, 250, .inl (upd v_t_bytes v_t_size.toNatClampNeg p0)))] := hD
    refine lv_aload_n hx hb dX4_append_20 rfl (lv_at hl 0 rfl) ?_
    refine lv_dup hx hb dX4_append_21 rfl ?_
    refine va_get (D := D) (ci := 4) (v := .int v_t_size) (C := RX4) (T := TX4) (N := 2) hx hb hts hinX4 hown hK.1 hP 0 rfl rfl 1 (by decide) hk15 (fun _ h9 => h9) rfl dX4_append_22 ?_
    refine lv_iconst (v := 1) hx hb dX4_append_25 (by decide) ?_
    refine lv_iadd hx hb dX4_append_26 ?_
    refine va_put (D := D) (ci := 4) (v := .int (v_t_size + (1 : Int32))) (ty := .int) (C := RX4) (T := TX4) (N := 2) hx hb hts hinX4 tyX4 tyX4_ok nmX4 hown hK.1 hP hD hS 0 rfl rfl 1 (by decide) hk15 (fun _ h9 => h9) rfl (by decide +kernel) rfl rfl (Nat.le_of_ble_eq_true rfl) dX4_append_27 (fun H locs hP hD hS => ?_)
    have hP : va_P D vwCl [(q_t, oX4 q_t_bytes (v_t_size + (1 : Int32))), (q_t_bytes, .inl (cy 0, 250, .inl (upd v_t_bytes v_t_size.toNatClampNeg p0)))] H := hP
    have hD : va_D A [(q_t, oX4 q_t_bytes (v_t_size + (1 : Int32))), (q_t_bytes, .inl (cy 0, 250, .inl (upd v_t_bytes v_t_size.toNatClampNeg p0)))] := hD
    cases hf
    exact W.vret hx hb hr (fun t ht hW => ⟨⟨(), rfl, trivial, xend ht hP⟩, hS.F ht⟩) hS.2.2 dX4_append_30
def fX5_darkens (v_t_kind : Nat → Int32) (p0 : Int32) : Option (Int32) :=
  if p0 < 0 ∨ 8 ≤ p0.toNatClampNeg then none else
  if (v_t_kind p0.toNatClampNeg) = (3 : Int32) then
    some (0 : Int32)
  else
    if p0 < 0 ∨ 8 ≤ p0.toNatClampNeg then none else
    if (v_t_kind p0.toNatClampNeg) = (5 : Int32) then
      some (0 : Int32)
    else
      some (1 : Int32)
set_option maxHeartbeats 4000000 in
set_option maxRecDepth 100000 in
theorem mX5_darkens (l : Launch) (D : va_G) (cy : Nat → ClassId) (q_t q_t_ways q_t_distances q_t_kind q_t_a q_t_home q_t_aim q_t_at : Nat) (v_t_places : Int32) (v_t_people : Int32) (v_t_hour : Int32) (v_t_chance : Int32) (v_t_seed : Int32) (v_t_kind : Nat → Int32) (p0 : Int32) {r_ : Int32} (hf : fX5_darkens v_t_kind p0 = some r_) : Met l yX5_darkens wsX5_darkens ({ frames := 0, cells := 0, slots := 0, locals := 0 }) (va_Pc [.ref q_t, .int p0] (fun U => va_P D vwCl [(q_t, oX5 v_t_places q_t_ways q_t_distances v_t_people q_t_kind q_t_a q_t_home q_t_aim q_t_at v_t_hour v_t_chance v_t_seed), (q_t_kind, .inl (cy 0, 8, .inl v_t_kind))] U.heap ∧ xK D cy U)) (vp_Si (fun x => x = r_)) 0 0 (fun _ => False) := by
  refine Met.ofW (cc := cX5_darkens) (maxL := 2) (ret := (some .boolean)) (by decide) rfl ?_
  intro p e s m args below meth c s₁ B hml hv
  obtain ⟨rfl, hP, hK⟩ := hv
  have hx := B.exec
  have hb := B.bytes
  have hr := B.returns
  have hts := atoms_spec (ws := wsX5_darkens) B.pre
  have hown : s.vm.findClass RX5 = some m.cls := findClass_of_methodNamed B.named
  have hlocks := B.notSynchronized
  have hP : va_P D vwCl [(q_t, oX5 v_t_places q_t_ways q_t_distances v_t_people q_t_kind q_t_a q_t_home q_t_aim q_t_at v_t_hour v_t_chance v_t_seed), (q_t_kind, .inl (cy 0, 8, .inl v_t_kind))] s.heap := hP
  have hinX5 : ∀ w ∈ u_ws RX5 TX5 12, w ∈ wsX5_darkens := by decide +kernel
  have hk22 := hts (.fieldLink RX5 22 "ShowsWhereNobodyIs$Town" "kind" "[I") (by decide +kernel)
  have hl := lv_entry ([.ref q_t, .int p0]) (n := 2) (Nat.le_of_ble_eq_true rfl)
  rw [lg_entry_eq]
  generalize (lg_sl ([.ref q_t, .int p0]) ++ List.replicate (2 - (lg_sl ([.ref q_t, .int p0])).length) Slot.unset).toArray = ls at hl ⊢
  have hl : lv_has ls 2 [(0, .ref q_t), (1, .int p0)] := hl
  unfold fX5_darkens at hf
  refine lv_aload_n hx hb dX5_darkens_0 rfl (lv_at hl 0 rfl) ?_
  refine va_get (D := D) (ci := 5) (v := .ref q_t_kind) (C := RX5) (T := TX5) (N := 12) hx hb hts hinX5 hown hK.1 hP 0 rfl rfl 4 (by decide) hk22 (fun _ h9 => h9) rfl dX5_darkens_1 ?_
  refine lv_iload_n hx hb dX5_darkens_4 rfl (lv_at hl 1 rfl) ?_
  obtain ⟨hi1, hf⟩ := ckE hf
  refine va_iald hx hb hK.1 hP 1 0 rfl rfl hi1 dX5_darkens_5 ?_
  refine lv_iconst (v := 3) hx hb dX5_darkens_6 (by decide) ?_
  refine lv_icmp_eq (tgt := 24) hx hb dX5_darkens_7 (by decide) (fun c4 => ?_) (fun c4 => ?_)
  · have hf := ifT hf c4
    clear c4
    refine lv_iconst (v := 0) hx hb dX5_darkens_24 (by decide) ?_
    exact W.zret (v := (0 : Int32)) hx hb hr rfl (fun t ht hW => ⟨(0 : Int32), rfl, Option.some.inj hf, ht⟩) (fun q h => nomatch h) dX5_darkens_25
  · have hf := ifF hf c4
    clear c4
    refine lv_aload_n hx hb dX5_darkens_10 rfl (lv_at hl 0 rfl) ?_
    refine va_get (D := D) (ci := 5) (v := .ref q_t_kind) (C := RX5) (T := TX5) (N := 12) hx hb hts hinX5 hown hK.1 hP 0 rfl rfl 4 (by decide) hk22 (fun _ h9 => h9) rfl dX5_darkens_11 ?_
    refine lv_iload_n hx hb dX5_darkens_14 rfl (lv_at hl 1 rfl) ?_
    obtain ⟨hi2, hf⟩ := ckE hf
    refine va_iald hx hb hK.1 hP 1 0 rfl rfl hi2 dX5_darkens_15 ?_
    refine lv_iconst (v := 5) hx hb dX5_darkens_16 (by decide) ?_
    refine lv_icmp_eq (tgt := 24) hx hb dX5_darkens_17 (by decide) (fun c3 => ?_) (fun c3 => ?_)
    · have hf := ifT hf c3
      clear c3
      refine lv_iconst (v := 0) hx hb dX5_darkens_24 (by decide) ?_
      exact W.zret (v := (0 : Int32)) hx hb hr rfl (fun t ht hW => ⟨(0 : Int32), rfl, Option.some.inj hf, ht⟩) (fun q h => nomatch h) dX5_darkens_25
    · have hf := ifF hf c3
      clear c3
      refine lv_iconst (v := 1) hx hb dX5_darkens_20 (by decide) ?_
      refine lv_goto (tgt := 25) hx hb dX5_darkens_21 (by decide) ?_
      exact W.zret (v := (1 : Int32)) hx hb hr rfl (fun t ht hW => ⟨(1 : Int32), rfl, Option.some.inj hf, ht⟩) (fun q h => nomatch h) dX5_darkens_25
def fX5_darkPlaces (v_t_people : Int32) (v_t_kind : Nat → Int32) (v_t_at : Nat → Int32) : Option (Int32) :=
  lo2 (fun g3 (x1 : Int32) (x2 : Int32) =>
    if v_t_people ≤ x2 then
      some x1
    else
      bo1 (fX5_darkens v_t_kind x2) fun r4 =>
      jo1 (fun (x6 : Int32) =>
        vlet (x2 + (1 : Int32)) fun x8 =>
        g3 x6 x8) fun k7 =>
      if r4 = 0 then
        k7 x1
      else
        if x2 < 0 ∨ 8 ≤ x2.toNatClampNeg then none else
        vlet (x1 ||| ((1 : Int32) <<< ((v_t_at x2.toNatClampNeg) &&& 31))) fun x10 =>
        k7 x10) 400 (0 : Int32) (0 : Int32)
set_option maxHeartbeats 4000000 in
set_option maxRecDepth 100000 in
theorem mX5_darkPlaces (l : Launch) (D : va_G) (cy : Nat → ClassId) (q_t q_t_ways q_t_distances q_t_kind q_t_a q_t_home q_t_aim q_t_at : Nat) (v_t_places : Int32) (v_t_people : Int32) (v_t_hour : Int32) (v_t_chance : Int32) (v_t_seed : Int32) (v_t_kind : Nat → Int32) (v_t_at : Nat → Int32) {r_ : Int32} (hf : fX5_darkPlaces v_t_people v_t_kind v_t_at = some r_) : Met l yX5_darkPlaces wsX5_darkPlaces ({ frames := 1, cells := 0, slots := 0, locals := 21 }) (va_Pc [.ref q_t] (fun U => va_P D vwCl [(q_t, oX5 v_t_places q_t_ways q_t_distances v_t_people q_t_kind q_t_a q_t_home q_t_aim q_t_at v_t_hour v_t_chance v_t_seed), (q_t_kind, .inl (cy 0, 8, .inl v_t_kind)), (q_t_at, .inl (cy 0, 8, .inl v_t_at))] U.heap ∧ xK D cy U)) (vp_Si (fun x => x = r_)) 0 0 (fun _ => False) := by
  refine Met.ofW (cc := cX5_darkPlaces) (maxL := 3) (ret := (some .int)) (by decide) rfl ?_
  intro p e s m args below meth c s₁ B hml hv
  obtain ⟨rfl, hP, hK⟩ := hv
  have hx := B.exec
  have hb := B.bytes
  have hr := B.returns
  have hts := atoms_spec (ws := wsX5_darkPlaces) B.pre
  have hown : s.vm.findClass RX5 = some m.cls := findClass_of_methodNamed B.named
  have hlocks := B.notSynchronized
  have hP : va_P D vwCl [(q_t, oX5 v_t_places q_t_ways q_t_distances v_t_people q_t_kind q_t_a q_t_home q_t_aim q_t_at v_t_hour v_t_chance v_t_seed), (q_t_kind, .inl (cy 0, 8, .inl v_t_kind)), (q_t_at, .inl (cy 0, 8, .inl v_t_at))] s.heap := hP
  have hinX5 : ∀ w ∈ u_ws RX5 TX5 12, w ∈ wsX5_darkPlaces := by decide +kernel
  have hk52 := hts (.fieldLink RX5 52 "ShowsWhereNobodyIs$Town" "people" "I") (by decide +kernel)
  have hk34 := hts (.fieldLink RX5 34 "ShowsWhereNobodyIs$Town" "at" "[I") (by decide +kernel)
  have hl := lv_entry ([.ref q_t]) (n := 3) (Nat.le_of_ble_eq_true rfl)
  rw [lg_entry_eq]
  generalize (lg_sl ([.ref q_t]) ++ List.replicate (3 - (lg_sl ([.ref q_t])).length) Slot.unset).toArray = ls at hl ⊢
  have hl : lv_has ls 3 [(0, .ref q_t)] := hl
  unfold fX5_darkPlaces at hf
  refine lv_iconst (v := 0) hx hb dX5_darkPlaces_0 (by decide) ?_
  refine lv_istore_n (lv' := [(1, .int (0 : Int32)), (0, .ref q_t)]) hx hb dX5_darkPlaces_1 rfl hl (by decide) rfl (fun ls hl => ?_)
  refine lv_iconst (v := 0) hx hb dX5_darkPlaces_2 (by decide) ?_
  refine lv_istore_n (lv' := [(2, .int (0 : Int32)), (1, .int (0 : Int32)), (0, .ref q_t)]) hx hb dX5_darkPlaces_3 rfl hl (by decide) rfl (fun ls hl => ?_)
  refine wlr2 4 (fun _ _ => []) (fun (x1 : Int32) (x2 : Int32) ls => lv_has ls 3 [(1, .int x1), (2, .int x2), (0, .ref q_t)]) (fun g3 L4 x1 x2 ls hl hf => ?_) 400 (0 : Int32) (0 : Int32) ls (lv_sub hl [1, 0, 2] rfl) hf
  refine lv_iload_n hx hb dX5_darkPlaces_4 rfl (lv_at hl 1 rfl) ?_
  refine lv_aload_n hx hb dX5_darkPlaces_5 rfl (lv_at hl 2 rfl) ?_
  refine va_get (D := D) (ci := 5) (v := .int v_t_people) (C := RX5) (T := TX5) (N := 12) hx hb hts hinX5 hown hK.1 hP 0 rfl rfl 3 (by decide) hk52 (fun _ h9 => h9) rfl dX5_darkPlaces_6 ?_
  refine lv_icmp_ge (tgt := 37) hx hb dX5_darkPlaces_9 (by decide) (fun c12 => ?_) (fun c12 => ?_)
  · have hf := ifT hf c12
    clear c12
    refine lv_iload_n hx hb dX5_darkPlaces_37 rfl (lv_at hl 0 rfl) ?_
    exact W.iret (v := x1) hx hb hr (fun t ht hW => ⟨x1, rfl, Option.some.inj hf, ht⟩) (fun q h => nomatch h) dX5_darkPlaces_38
  · have hf := ifF hf c12
    clear c12
    refine lv_aload_n hx hb dX5_darkPlaces_12 rfl (lv_at hl 2 rfl) ?_
    refine lv_iload_n hx hb dX5_darkPlaces_13 rfl (lv_at hl 1 rfl) ?_
    obtain ⟨r4, hr5, hf⟩ := boE1 hf
    have hPc := hP.sub (ws' := [(q_t, oX5 v_t_places q_t_ways q_t_distances v_t_people q_t_kind q_t_a q_t_home q_t_aim q_t_at v_t_hour v_t_chance v_t_seed), (q_t_kind, .inl (cy 0, 8, .inl v_t_kind))]) [0, 1] rfl
    refine xcSi (va_runV (As := [.int x2]) (rest := []) ⟨hx, hb, hml, hown, hts⟩ (mX5_darkens l D cy q_t q_t_ways q_t_distances q_t_kind q_t_a q_t_home q_t_aim q_t_at v_t_places v_t_people v_t_hour v_t_chance v_t_seed v_t_kind  x2 hr5) (cwV 1 hts gX5_darkPlaces_X5_darkens rfl rfl rfl (by decide +kernel) ⟨Nat.le_of_ble_eq_true rfl, Nat.le_of_ble_eq_true rfl⟩) (xPV hK hPc (ci := 5) (q0 := 0) rfl rfl) rfl rfl hl.1 rfl (lv_room (Nat.le_of_ble_eq_true rfl)) dX5_darkPlaces_14 ⟨Nat.le_of_ble_eq_true rfl, Nat.le_of_ble_eq_true rfl⟩) ?_
    refine jwr1 31 (fun (x6 : Int32) => []) (fun (x6 : Int32) ls => lv_has ls 3 [(1, .int x6), (0, .ref q_t), (2, .int x2)]) hf (fun x6 ls hl hf => ?_) (fun k7 J31 hf => ?_)
    · obtain ⟨x8, ex8⟩ : ∃ y : Int32, y = x2 + (1 : Int32) := ⟨_, rfl⟩
      have hf := vlE hf ex8
      refine lv_iinc (v := x8) (lv' := [(2, .int x8), (1, .int x6), (0, .ref q_t)]) hx hb dX5_darkPlaces_31 hl (k := 2) rfl (by rw [ex8]; rfl) (by decide) rfl (fun ls hl => ?_)
      clear ex8
      refine lv_goto (tgt := 4) hx hb dX5_darkPlaces_34 (by decide) ?_
      exact L4 x6 x8 ls (lv_sub hl [1, 0, 2] rfl) hf
    · refine lv_if_eq (tgt := 31) hx hb dX5_darkPlaces_17 (by decide) (fun c11 => ?_) (fun c11 => ?_)
      · have hf := ifT hf c11
        clear c11
        exact J31 x1 ls (lv_sub hl [0, 2, 1] rfl) hf
      · have hf := ifF hf c11
        clear c11
        refine lv_iload_n hx hb dX5_darkPlaces_20 rfl (lv_at hl 0 rfl) ?_
        refine lv_iconst (v := 1) hx hb dX5_darkPlaces_21 (by decide) ?_
        refine lv_aload_n hx hb dX5_darkPlaces_22 rfl (lv_at hl 2 rfl) ?_
        refine va_get (D := D) (ci := 5) (v := .ref q_t_at) (C := RX5) (T := TX5) (N := 12) hx hb hts hinX5 hown hK.1 hP 0 rfl rfl 8 (by decide) hk34 (fun _ h9 => h9) rfl dX5_darkPlaces_23 ?_
        refine lv_iload_n hx hb dX5_darkPlaces_26 rfl (lv_at hl 1 rfl) ?_
        obtain ⟨hi9, hf⟩ := ckE hf
        refine va_iald hx hb hK.1 hP 2 0 rfl rfl hi9 dX5_darkPlaces_27 ?_
        refine lv_ishl hx hb dX5_darkPlaces_28 ?_
        refine lv_ior hx hb dX5_darkPlaces_29 ?_
        refine lv_topi (fun x10 ex10 => ?_)
        have hf := vlE hf ex10
        clear ex10
        refine lv_istore_n (lv' := [(1, .int x10), (2, .int x2), (0, .ref q_t)]) hx hb dX5_darkPlaces_30 rfl hl (by decide) rfl (fun ls hl => ?_)
        exact J31 x10 ls (lv_sub hl [0, 2, 1] rfl) hf
def fX5_shiningPlaces (v_t_places : Int32) (v_t_people : Int32) (v_t_kind : Nat → Int32) (v_t_at : Nat → Int32) : Option (Int32) :=
  bo1 (fX5_darkPlaces v_t_people v_t_kind v_t_at) fun r1 =>
  some ((((1 : Int32) <<< (v_t_places &&& 31)) - (1 : Int32)) &&& (r1 ^^^ (-1 : Int32)))
set_option maxHeartbeats 4000000 in
set_option maxRecDepth 100000 in
theorem mX5_shiningPlaces (l : Launch) (D : va_G) (cy : Nat → ClassId) (q_t q_t_ways q_t_distances q_t_kind q_t_a q_t_home q_t_aim q_t_at : Nat) (v_t_places : Int32) (v_t_people : Int32) (v_t_hour : Int32) (v_t_chance : Int32) (v_t_seed : Int32) (v_t_kind : Nat → Int32) (v_t_at : Nat → Int32) {r_ : Int32} (hf : fX5_shiningPlaces v_t_places v_t_people v_t_kind v_t_at = some r_) : Met l yX5_shiningPlaces wsX5_shiningPlaces ({ frames := 2, cells := 0, slots := 0, locals := 43 }) (va_Pc [.ref q_t] (fun U => va_P D vwCl [(q_t, oX5 v_t_places q_t_ways q_t_distances v_t_people q_t_kind q_t_a q_t_home q_t_aim q_t_at v_t_hour v_t_chance v_t_seed), (q_t_kind, .inl (cy 0, 8, .inl v_t_kind)), (q_t_at, .inl (cy 0, 8, .inl v_t_at))] U.heap ∧ xK D cy U)) (vp_Si (fun x => x = r_)) 0 0 (fun _ => False) := by
  refine Met.ofW (cc := cX5_shiningPlaces) (maxL := 1) (ret := (some .int)) (by decide) rfl ?_
  intro p e s m args below meth c s₁ B hml hv
  obtain ⟨rfl, hP, hK⟩ := hv
  have hx := B.exec
  have hb := B.bytes
  have hr := B.returns
  have hts := atoms_spec (ws := wsX5_shiningPlaces) B.pre
  have hown : s.vm.findClass RX5 = some m.cls := findClass_of_methodNamed B.named
  have hlocks := B.notSynchronized
  have hP : va_P D vwCl [(q_t, oX5 v_t_places q_t_ways q_t_distances v_t_people q_t_kind q_t_a q_t_home q_t_aim q_t_at v_t_hour v_t_chance v_t_seed), (q_t_kind, .inl (cy 0, 8, .inl v_t_kind)), (q_t_at, .inl (cy 0, 8, .inl v_t_at))] s.heap := hP
  have hinX5 : ∀ w ∈ u_ws RX5 TX5 12, w ∈ wsX5_shiningPlaces := by decide +kernel
  have hk9 := hts (.fieldLink RX5 9 "ShowsWhereNobodyIs$Town" "places" "I") (by decide +kernel)
  have hl := lv_entry ([.ref q_t]) (n := 1) (Nat.le_of_ble_eq_true rfl)
  rw [lg_entry_eq]
  generalize (lg_sl ([.ref q_t]) ++ List.replicate (1 - (lg_sl ([.ref q_t])).length) Slot.unset).toArray = ls at hl ⊢
  have hl : lv_has ls 1 [(0, .ref q_t)] := hl
  unfold fX5_shiningPlaces at hf
  refine lv_iconst (v := 1) hx hb dX5_shiningPlaces_0 (by decide) ?_
  refine lv_aload_n hx hb dX5_shiningPlaces_1 rfl (lv_at hl 0 rfl) ?_
  refine va_get (D := D) (ci := 5) (v := .int v_t_places) (C := RX5) (T := TX5) (N := 12) hx hb hts hinX5 hown hK.1 hP 0 rfl rfl 0 (by decide) hk9 (fun _ h9 => h9) rfl dX5_shiningPlaces_2 ?_
  refine lv_ishl hx hb dX5_shiningPlaces_5 ?_
  refine lv_iconst (v := 1) hx hb dX5_shiningPlaces_6 (by decide) ?_
  refine lv_isub hx hb dX5_shiningPlaces_7 ?_
  refine lv_aload_n hx hb dX5_shiningPlaces_8 rfl (lv_at hl 0 rfl) ?_
  obtain ⟨r1, hr2, hf⟩ := boE1 hf
  have hPc := hP.sub (ws' := [(q_t, oX5 v_t_places q_t_ways q_t_distances v_t_people q_t_kind q_t_a q_t_home q_t_aim q_t_at v_t_hour v_t_chance v_t_seed), (q_t_kind, .inl (cy 0, 8, .inl v_t_kind)), (q_t_at, .inl (cy 0, 8, .inl v_t_at))]) [0, 1, 2] rfl
  refine xcSi (va_runV (As := []) (rest := [.int (((1 : Int32) <<< (v_t_places &&& 31)) - (1 : Int32))]) ⟨hx, hb, hml, hown, hts⟩ (mX5_darkPlaces l D cy q_t q_t_ways q_t_distances q_t_kind q_t_a q_t_home q_t_aim q_t_at v_t_places v_t_people v_t_hour v_t_chance v_t_seed v_t_kind v_t_at   hr2) (cwV 0 hts gX5_shiningPlaces_X5_darkPlaces rfl rfl rfl (by decide +kernel) ⟨Nat.le_of_ble_eq_true rfl, Nat.le_of_ble_eq_true rfl⟩) (xPV hK hPc (ci := 5) (q0 := 0) rfl rfl) rfl rfl hl.1 rfl (lv_room (Nat.le_of_ble_eq_true rfl)) dX5_shiningPlaces_9 ⟨Nat.le_of_ble_eq_true rfl, Nat.le_of_ble_eq_true rfl⟩) ?_
  refine lv_iconst (v := (-1)) hx hb dX5_shiningPlaces_12 (by decide) ?_
  refine lv_ixor hx hb dX5_shiningPlaces_13 ?_
  refine lv_iand hx hb dX5_shiningPlaces_14 ?_
  exact W.iret (v := ((((1 : Int32) <<< (v_t_places &&& 31)) - (1 : Int32)) &&& (r1 ^^^ (-1 : Int32)))) hx hb hr (fun t ht hW => ⟨((((1 : Int32) <<< (v_t_places &&& 31)) - (1 : Int32)) &&& (r1 ^^^ (-1 : Int32))), rfl, Option.some.inj hf, ht⟩) (fun q h => nomatch h) dX5_shiningPlaces_15
def fX5_hasWay (v_t_ways : Nat → Int32) (p0 : Int32) (p1 : Int32) : Option (Int32) :=
  if p0 < 0 ∨ 12 ≤ p0.toNatClampNeg then none else
  if (((v_t_ways p0.toNatClampNeg) >>> (p1 &&& 31)) &&& (1 : Int32)) = 0 then
    some (0 : Int32)
  else
    some (1 : Int32)
set_option maxHeartbeats 4000000 in
set_option maxRecDepth 100000 in
theorem mX5_hasWay (l : Launch) (D : va_G) (cy : Nat → ClassId) (q_t q_t_ways q_t_distances q_t_kind q_t_a q_t_home q_t_aim q_t_at : Nat) (v_t_places : Int32) (v_t_people : Int32) (v_t_hour : Int32) (v_t_chance : Int32) (v_t_seed : Int32) (v_t_ways : Nat → Int32) (p0 : Int32) (p1 : Int32) {r_ : Int32} (hf : fX5_hasWay v_t_ways p0 p1 = some r_) : Met l yX5_hasWay wsX5_hasWay ({ frames := 0, cells := 0, slots := 0, locals := 0 }) (va_Pc [.ref q_t, .int p0, .int p1] (fun U => va_P D vwCl [(q_t, oX5 v_t_places q_t_ways q_t_distances v_t_people q_t_kind q_t_a q_t_home q_t_aim q_t_at v_t_hour v_t_chance v_t_seed), (q_t_ways, .inl (cy 0, 12, .inl v_t_ways))] U.heap ∧ xK D cy U)) (vp_Si (fun x => x = r_)) 0 0 (fun _ => False) := by
  refine Met.ofW (cc := cX5_hasWay) (maxL := 3) (ret := (some .boolean)) (by decide) rfl ?_
  intro p e s m args below meth c s₁ B hml hv
  obtain ⟨rfl, hP, hK⟩ := hv
  have hx := B.exec
  have hb := B.bytes
  have hr := B.returns
  have hts := atoms_spec (ws := wsX5_hasWay) B.pre
  have hown : s.vm.findClass RX5 = some m.cls := findClass_of_methodNamed B.named
  have hlocks := B.notSynchronized
  have hP : va_P D vwCl [(q_t, oX5 v_t_places q_t_ways q_t_distances v_t_people q_t_kind q_t_a q_t_home q_t_aim q_t_at v_t_hour v_t_chance v_t_seed), (q_t_ways, .inl (cy 0, 12, .inl v_t_ways))] s.heap := hP
  have hinX5 : ∀ w ∈ u_ws RX5 TX5 12, w ∈ wsX5_hasWay := by decide +kernel
  have hk15 := hts (.fieldLink RX5 15 "ShowsWhereNobodyIs$Town" "ways" "[I") (by decide +kernel)
  have hl := lv_entry ([.ref q_t, .int p0, .int p1]) (n := 3) (Nat.le_of_ble_eq_true rfl)
  rw [lg_entry_eq]
  generalize (lg_sl ([.ref q_t, .int p0, .int p1]) ++ List.replicate (3 - (lg_sl ([.ref q_t, .int p0, .int p1])).length) Slot.unset).toArray = ls at hl ⊢
  have hl : lv_has ls 3 [(0, .ref q_t), (1, .int p0), (2, .int p1)] := hl
  unfold fX5_hasWay at hf
  refine lv_aload_n hx hb dX5_hasWay_0 rfl (lv_at hl 0 rfl) ?_
  refine va_get (D := D) (ci := 5) (v := .ref q_t_ways) (C := RX5) (T := TX5) (N := 12) hx hb hts hinX5 hown hK.1 hP 0 rfl rfl 1 (by decide) hk15 (fun _ h9 => h9) rfl dX5_hasWay_1 ?_
  refine lv_iload_n hx hb dX5_hasWay_4 rfl (lv_at hl 1 rfl) ?_
  obtain ⟨hi1, hf⟩ := ckE hf
  refine va_iald hx hb hK.1 hP 1 0 rfl rfl hi1 dX5_hasWay_5 ?_
  refine lv_iload_n hx hb dX5_hasWay_6 rfl (lv_at hl 2 rfl) ?_
  refine lv_ishr hx hb dX5_hasWay_7 ?_
  refine lv_iconst (v := 1) hx hb dX5_hasWay_8 (by decide) ?_
  refine lv_iand hx hb dX5_hasWay_9 ?_
  refine lv_if_eq (tgt := 17) hx hb dX5_hasWay_10 (by decide) (fun c2 => ?_) (fun c2 => ?_)
  · have hf := ifT hf c2
    clear c2
    refine lv_iconst (v := 0) hx hb dX5_hasWay_17 (by decide) ?_
    exact W.zret (v := (0 : Int32)) hx hb hr rfl (fun t ht hW => ⟨(0 : Int32), rfl, Option.some.inj hf, ht⟩) (fun q h => nomatch h) dX5_hasWay_18
  · have hf := ifF hf c2
    clear c2
    refine lv_iconst (v := 1) hx hb dX5_hasWay_13 (by decide) ?_
    refine lv_goto (tgt := 18) hx hb dX5_hasWay_14 (by decide) ?_
    exact W.zret (v := (1 : Int32)) hx hb hr rfl (fun t ht hW => ⟨(1 : Int32), rfl, Option.some.inj hf, ht⟩) (fun q h => nomatch h) dX5_hasWay_18
def fX5_distance (v_t_distances : Nat → Int32) (p0 : Int32) (p1 : Int32) : Option (Int32) :=
  if ((p0 * (12 : Int32)) + p1) < 0 ∨ 144 ≤ ((p0 * (12 : Int32)) + p1).toNatClampNeg then none else
  some (v_t_distances ((p0 * (12 : Int32)) + p1).toNatClampNeg)
set_option maxHeartbeats 4000000 in
set_option maxRecDepth 100000 in
theorem mX5_distance (l : Launch) (D : va_G) (cy : Nat → ClassId) (q_t q_t_ways q_t_distances q_t_kind q_t_a q_t_home q_t_aim q_t_at : Nat) (v_t_places : Int32) (v_t_people : Int32) (v_t_hour : Int32) (v_t_chance : Int32) (v_t_seed : Int32) (v_t_distances : Nat → Int32) (p0 : Int32) (p1 : Int32) {r_ : Int32} (hf : fX5_distance v_t_distances p0 p1 = some r_) : Met l yX5_distance wsX5_distance ({ frames := 0, cells := 0, slots := 0, locals := 0 }) (va_Pc [.ref q_t, .int p0, .int p1] (fun U => va_P D vwCl [(q_t, oX5 v_t_places q_t_ways q_t_distances v_t_people q_t_kind q_t_a q_t_home q_t_aim q_t_at v_t_hour v_t_chance v_t_seed), (q_t_distances, .inl (cy 0, 144, .inl v_t_distances))] U.heap ∧ xK D cy U)) (vp_Si (fun x => x = r_)) 0 0 (fun _ => False) := by
  refine Met.ofW (cc := cX5_distance) (maxL := 3) (ret := (some .int)) (by decide) rfl ?_
  intro p e s m args below meth c s₁ B hml hv
  obtain ⟨rfl, hP, hK⟩ := hv
  have hx := B.exec
  have hb := B.bytes
  have hr := B.returns
  have hts := atoms_spec (ws := wsX5_distance) B.pre
  have hown : s.vm.findClass RX5 = some m.cls := findClass_of_methodNamed B.named
  have hlocks := B.notSynchronized
  have hP : va_P D vwCl [(q_t, oX5 v_t_places q_t_ways q_t_distances v_t_people q_t_kind q_t_a q_t_home q_t_aim q_t_at v_t_hour v_t_chance v_t_seed), (q_t_distances, .inl (cy 0, 144, .inl v_t_distances))] s.heap := hP
  have hinX5 : ∀ w ∈ u_ws RX5 TX5 12, w ∈ wsX5_distance := by decide +kernel
  have hk19 := hts (.fieldLink RX5 19 "ShowsWhereNobodyIs$Town" "distances" "[I") (by decide +kernel)
  have hl := lv_entry ([.ref q_t, .int p0, .int p1]) (n := 3) (Nat.le_of_ble_eq_true rfl)
  rw [lg_entry_eq]
  generalize (lg_sl ([.ref q_t, .int p0, .int p1]) ++ List.replicate (3 - (lg_sl ([.ref q_t, .int p0, .int p1])).length) Slot.unset).toArray = ls at hl ⊢
  have hl : lv_has ls 3 [(0, .ref q_t), (1, .int p0), (2, .int p1)] := hl
  unfold fX5_distance at hf
  refine lv_aload_n hx hb dX5_distance_0 rfl (lv_at hl 0 rfl) ?_
  refine va_get (D := D) (ci := 5) (v := .ref q_t_distances) (C := RX5) (T := TX5) (N := 12) hx hb hts hinX5 hown hK.1 hP 0 rfl rfl 2 (by decide) hk19 (fun _ h9 => h9) rfl dX5_distance_1 ?_
  refine lv_iload_n hx hb dX5_distance_4 rfl (lv_at hl 1 rfl) ?_
  refine lv_bipush (v := 12) hx hb dX5_distance_5 (by decide) ?_
  refine lv_imul hx hb dX5_distance_7 ?_
  refine lv_iload_n hx hb dX5_distance_8 rfl (lv_at hl 2 rfl) ?_
  refine lv_iadd hx hb dX5_distance_9 ?_
  obtain ⟨hi1, hf⟩ := ckE hf
  refine va_iald hx hb hK.1 hP 1 0 rfl rfl hi1 dX5_distance_10 ?_
  exact W.iret (v := (v_t_distances ((p0 * (12 : Int32)) + p1).toNatClampNeg)) hx hb hr (fun t ht hW => ⟨(v_t_distances ((p0 * (12 : Int32)) + p1).toNatClampNeg), rfl, Option.some.inj hf, ht⟩) (fun q h => nomatch h) dX5_distance_11
def fX5_setWay (v_t_ways : Nat → Int32) (p0 : Int32) (p1 : Int32) (p2 : Int32) : Option ((Nat → Int32)) :=
  if p2 = 0 then
    if p0 < 0 ∨ 12 ≤ p0.toNatClampNeg then none else
    if p0 < 0 ∨ 12 ≤ p0.toNatClampNeg then none else
    if p1 < 0 ∨ 12 ≤ p1.toNatClampNeg then none else
    if p1 < 0 ∨ 12 ≤ p1.toNatClampNeg then none else
    some (upd (upd v_t_ways p0.toNatClampNeg ((v_t_ways p0.toNatClampNeg) &&& (((1 : Int32) <<< (p1 &&& 31)) ^^^ (-1 : Int32)))) p1.toNatClampNeg (((upd v_t_ways p0.toNatClampNeg ((v_t_ways p0.toNatClampNeg) &&& (((1 : Int32) <<< (p1 &&& 31)) ^^^ (-1 : Int32)))) p1.toNatClampNeg) &&& (((1 : Int32) <<< (p0 &&& 31)) ^^^ (-1 : Int32))))
  else
    if p0 < 0 ∨ 12 ≤ p0.toNatClampNeg then none else
    if p0 < 0 ∨ 12 ≤ p0.toNatClampNeg then none else
    if p1 < 0 ∨ 12 ≤ p1.toNatClampNeg then none else
    if p1 < 0 ∨ 12 ≤ p1.toNatClampNeg then none else
    some (upd (upd v_t_ways p0.toNatClampNeg ((v_t_ways p0.toNatClampNeg) ||| ((1 : Int32) <<< (p1 &&& 31)))) p1.toNatClampNeg (((upd v_t_ways p0.toNatClampNeg ((v_t_ways p0.toNatClampNeg) ||| ((1 : Int32) <<< (p1 &&& 31)))) p1.toNatClampNeg) ||| ((1 : Int32) <<< (p0 &&& 31))))
set_option maxHeartbeats 4000000 in
set_option maxRecDepth 100000 in
theorem mX5_setWay (l : Launch) (D : va_G) (cy : Nat → ClassId) (q_t q_t_ways q_t_distances q_t_kind q_t_a q_t_home q_t_aim q_t_at : Nat) (v_t_places : Int32) (v_t_people : Int32) (v_t_hour : Int32) (v_t_chance : Int32) (v_t_seed : Int32) (v_t_ways : Nat → Int32) (sz : Nat) (p0 : Int32) (p1 : Int32) (p2 : Int32) {n_t_ways : Nat → Int32} (hf : fX5_setWay v_t_ways p0 p1 p2 = some n_t_ways) : Met l yX5_setWay wsX5_setWay ({ frames := 0, cells := 0, slots := 0, locals := 0 }) (va_Pc [.ref q_t, .int p0, .int p1, .int p2] (fun U => U.heap.size = sz ∧ va_P D vwCl [(q_t, oX5 v_t_places q_t_ways q_t_distances v_t_people q_t_kind q_t_a q_t_home q_t_aim q_t_at v_t_hour v_t_chance v_t_seed), (q_t_ways, .inl (cy 0, 12, .inl v_t_ways))] U.heap ∧ xK D cy U ∧ va_D (fun _ => True) [(q_t, oX5 v_t_places q_t_ways q_t_distances v_t_people q_t_kind q_t_a q_t_home q_t_aim q_t_at v_t_hour v_t_chance v_t_seed), (q_t_ways, .inl (cy 0, 12, .inl v_t_ways))])) (va_Qv (fun (_ : Unit) => True) (fun _ t => va_P D vwCl [(q_t, oX5 v_t_places q_t_ways q_t_distances v_t_people q_t_kind q_t_a q_t_home q_t_aim q_t_at v_t_hour v_t_chance v_t_seed), (q_t_ways, .inl (cy 0, 12, .inl n_t_ways))] t.heap) (va_A [(q_t, oX5 v_t_places q_t_ways q_t_distances v_t_people q_t_kind q_t_a q_t_home q_t_aim q_t_at v_t_hour v_t_chance v_t_seed), (q_t_ways, .inl (cy 0, 12, .inl v_t_ways))] sz)) 0 0 (va_A [(q_t, oX5 v_t_places q_t_ways q_t_distances v_t_people q_t_kind q_t_a q_t_home q_t_aim q_t_at v_t_hour v_t_chance v_t_seed), (q_t_ways, .inl (cy 0, 12, .inl v_t_ways))] sz) := by
  refine Met.ofW (cc := cX5_setWay) (maxL := 4) (ret := none) (by decide) rfl ?_
  intro p e s m args below meth c s₁ B hml hv
  obtain ⟨rfl, hsz, hP, hK, hD0⟩ := hv
  have hx := B.exec
  have hb := B.bytes
  have hr := B.returns
  have hts := atoms_spec (ws := wsX5_setWay) B.pre
  have hown : s.vm.findClass RX5 = some m.cls := findClass_of_methodNamed B.named
  have hlocks := B.notSynchronized
  subst hsz
  have hD := hD0.self (sz := s.heap.size)
  generalize hAe : va_A [(q_t, oX5 v_t_places q_t_ways q_t_distances v_t_people q_t_kind q_t_a q_t_home q_t_aim q_t_at v_t_hour v_t_chance v_t_seed), (q_t_ways, .inl (cy 0, 12, .inl v_t_ways))] s.heap.size = A at hD ⊢
  have hA : ∀ q : Nat, s.heap.size ≤ q → A q := fun q h => by rw [← hAe]; exact Or.inr h
  have hS : va_S A s.heap s.heap [] := va_S.rf
  have hP : va_P D vwCl [(q_t, oX5 v_t_places q_t_ways q_t_distances v_t_people q_t_kind q_t_a q_t_home q_t_aim q_t_at v_t_hour v_t_chance v_t_seed), (q_t_ways, .inl (cy 0, 12, .inl v_t_ways))] s.heap := hP
  have hinX5 : ∀ w ∈ u_ws RX5 TX5 12, w ∈ wsX5_setWay := by decide +kernel
  have hk15 := hts (.fieldLink RX5 15 "ShowsWhereNobodyIs$Town" "ways" "[I") (by decide +kernel)
  have hl := lv_entry ([.ref q_t, .int p0, .int p1, .int p2]) (n := 4) (Nat.le_of_ble_eq_true rfl)
  rw [lg_entry_eq]
  generalize (lg_sl ([.ref q_t, .int p0, .int p1, .int p2]) ++ List.replicate (4 - (lg_sl ([.ref q_t, .int p0, .int p1, .int p2])).length) Slot.unset).toArray = ls at hl ⊢
  have hl : lv_has ls 4 [(0, .ref q_t), (1, .int p0), (2, .int p1), (3, .int p2)] := hl
  unfold fX5_setWay at hf
  refine lv_iload_n hx hb dX5_setWay_0 rfl (lv_at hl 3 rfl) ?_
  refine lv_if_eq (tgt := 31) hx hb dX5_setWay_1 (by decide) (fun c9 => ?_) (fun c9 => ?_)
  · have hf := ifT hf c9
    clear c9
    refine lv_aload_n hx hb dX5_setWay_31 rfl (lv_at hl 0 rfl) ?_
    refine va_get (D := D) (ci := 5) (v := .ref q_t_ways) (C := RX5) (T := TX5) (N := 12) hx hb hts hinX5 hown hK.1 hP 0 rfl rfl 1 (by decide) hk15 (fun _ h9 => h9) rfl dX5_setWay_32 ?_
    refine lv_iload_n hx hb dX5_setWay_35 rfl (lv_at hl 1 rfl) ?_
    refine lv_dup2_11 hx hb dX5_setWay_36 rfl rfl ?_
    obtain ⟨hi1, hf⟩ := ckE hf
    refine va_iald hx hb hK.1 hP 1 0 rfl rfl hi1 dX5_setWay_37 ?_
    refine lv_iconst (v := 1) hx hb dX5_setWay_38 (by decide) ?_
    refine lv_iload_n hx hb dX5_setWay_39 rfl (lv_at hl 2 rfl) ?_
    refine lv_ishl hx hb dX5_setWay_40 ?_
    refine lv_iconst (v := (-1)) hx hb dX5_setWay_41 (by decide) ?_
    refine lv_ixor hx hb dX5_setWay_42 ?_
    refine lv_iand hx hb dX5_setWay_43 ?_
    obtain ⟨hi2, hf⟩ := ckE hf
    refine va_iast hx hb hK.1 hP hD hS 1 0 rfl rfl hi2 dX5_setWay_44 (fun H locs hP hD hS => ?_)
    have hP : va_P D vwCl [(q_t, oX5 v_t_places q_t_ways q_t_distances v_t_people q_t_kind q_t_a q_t_home q_t_aim q_t_at v_t_hour v_t_chance v_t_seed), (q_t_ways, .inl (cy 0, 12, .inl (upd v_t_ways p0.toNatClampNeg ((v_t_ways p0.toNatClampNeg) &&& (((1 : Int32) <<< (p1 &&& 31)) ^^^ (-1 : Int32))))))] H := hP
    have hD : va_D A [(q_t, oX5 v_t_places q_t_ways q_t_distances v_t_people q_t_kind q_t_a q_t_home q_t_aim q_t_at v_t_hour v_t_chance v_t_seed), (q_t_ways, .inl (cy 0, 12, .inl (upd v_t_ways p0.toNatClampNeg ((v_t_ways p0.toNatClampNeg) &&& (((1 : Int32) <<< (p1 &&& 31)) ^^^ (-1 : Int32))))))] := hD
    refine lv_aload_n hx hb dX5_setWay_45 rfl (lv_at hl 0 rfl) ?_
    refine va_get (D := D) (ci := 5) (v := .ref q_t_ways) (C := RX5) (T := TX5) (N := 12) hx hb hts hinX5 hown hK.1 hP 0 rfl rfl 1 (by decide) hk15 (fun _ h9 => h9) rfl dX5_setWay_46 ?_
    refine lv_iload_n hx hb dX5_setWay_49 rfl (lv_at hl 2 rfl) ?_
    refine lv_dup2_11 hx hb dX5_setWay_50 rfl rfl ?_
    obtain ⟨hi3, hf⟩ := ckE hf
    refine va_iald hx hb hK.1 hP 1 0 rfl rfl hi3 dX5_setWay_51 ?_
    refine lv_iconst (v := 1) hx hb dX5_setWay_52 (by decide) ?_
    refine lv_iload_n hx hb dX5_setWay_53 rfl (lv_at hl 1 rfl) ?_
    refine lv_ishl hx hb dX5_setWay_54 ?_
    refine lv_iconst (v := (-1)) hx hb dX5_setWay_55 (by decide) ?_
    refine lv_ixor hx hb dX5_setWay_56 ?_
    refine lv_iand hx hb dX5_setWay_57 ?_
    obtain ⟨hi4, hf⟩ := ckE hf
    refine va_iast hx hb hK.1 hP hD hS 1 0 rfl rfl hi4 dX5_setWay_58 (fun H locs hP hD hS => ?_)
    have hP : va_P D vwCl [(q_t, oX5 v_t_places q_t_ways q_t_distances v_t_people q_t_kind q_t_a q_t_home q_t_aim q_t_at v_t_hour v_t_chance v_t_seed), (q_t_ways, .inl (cy 0, 12, .inl (upd (upd v_t_ways p0.toNatClampNeg ((v_t_ways p0.toNatClampNeg) &&& (((1 : Int32) <<< (p1 &&& 31)) ^^^ (-1 : Int32)))) p1.toNatClampNeg (((upd v_t_ways p0.toNatClampNeg ((v_t_ways p0.toNatClampNeg) &&& (((1 : Int32) <<< (p1 &&& 31)) ^^^ (-1 : Int32)))) p1.toNatClampNeg) &&& (((1 : Int32) <<< (p0 &&& 31)) ^^^ (-1 : Int32))))))] H := hP
    have hD : va_D A [(q_t, oX5 v_t_places q_t_ways q_t_distances v_t_people q_t_kind q_t_a q_t_home q_t_aim q_t_at v_t_hour v_t_chance v_t_seed), (q_t_ways, .inl (cy 0, 12, .inl (upd (upd v_t_ways p0.toNatClampNeg ((v_t_ways p0.toNatClampNeg) &&& (((1 : Int32) <<< (p1 &&& 31)) ^^^ (-1 : Int32)))) p1.toNatClampNeg (((upd v_t_ways p0.toNatClampNeg ((v_t_ways p0.toNatClampNeg) &&& (((1 : Int32) <<< (p1 &&& 31)) ^^^ (-1 : Int32)))) p1.toNatClampNeg) &&& (((1 : Int32) <<< (p0 &&& 31)) ^^^ (-1 : Int32))))))] := hD
    cases hf
    exact W.vret hx hb hr (fun t ht hW => ⟨⟨(), rfl, trivial, xend ht hP⟩, hS.F ht⟩) hS.2.2 dX5_setWay_59
  · have hf := ifF hf c9
    clear c9
    refine lv_aload_n hx hb dX5_setWay_4 rfl (lv_at hl 0 rfl) ?_
    refine va_get (D := D) (ci := 5) (v := .ref q_t_ways) (C := RX5) (T := TX5) (N := 12) hx hb hts hinX5 hown hK.1 hP 0 rfl rfl 1 (by decide) hk15 (fun _ h9 => h9) rfl dX5_setWay_5 ?_
    refine lv_iload_n hx hb dX5_setWay_8 rfl (lv_at hl 1 rfl) ?_
    refine lv_dup2_11 hx hb dX5_setWay_9 rfl rfl ?_
    obtain ⟨hi5, hf⟩ := ckE hf
    refine va_iald hx hb hK.1 hP 1 0 rfl rfl hi5 dX5_setWay_10 ?_
    refine lv_iconst (v := 1) hx hb dX5_setWay_11 (by decide) ?_
    refine lv_iload_n hx hb dX5_setWay_12 rfl (lv_at hl 2 rfl) ?_
    refine lv_ishl hx hb dX5_setWay_13 ?_
    refine lv_ior hx hb dX5_setWay_14 ?_
    obtain ⟨hi6, hf⟩ := ckE hf
    refine va_iast hx hb hK.1 hP hD hS 1 0 rfl rfl hi6 dX5_setWay_15 (fun H locs hP hD hS => ?_)
    have hP : va_P D vwCl [(q_t, oX5 v_t_places q_t_ways q_t_distances v_t_people q_t_kind q_t_a q_t_home q_t_aim q_t_at v_t_hour v_t_chance v_t_seed), (q_t_ways, .inl (cy 0, 12, .inl (upd v_t_ways p0.toNatClampNeg ((v_t_ways p0.toNatClampNeg) ||| ((1 : Int32) <<< (p1 &&& 31))))))] H := hP
    have hD : va_D A [(q_t, oX5 v_t_places q_t_ways q_t_distances v_t_people q_t_kind q_t_a q_t_home q_t_aim q_t_at v_t_hour v_t_chance v_t_seed), (q_t_ways, .inl (cy 0, 12, .inl (upd v_t_ways p0.toNatClampNeg ((v_t_ways p0.toNatClampNeg) ||| ((1 : Int32) <<< (p1 &&& 31))))))] := hD
    refine lv_aload_n hx hb dX5_setWay_16 rfl (lv_at hl 0 rfl) ?_
    refine va_get (D := D) (ci := 5) (v := .ref q_t_ways) (C := RX5) (T := TX5) (N := 12) hx hb hts hinX5 hown hK.1 hP 0 rfl rfl 1 (by decide) hk15 (fun _ h9 => h9) rfl dX5_setWay_17 ?_
    refine lv_iload_n hx hb dX5_setWay_20 rfl (lv_at hl 2 rfl) ?_
    refine lv_dup2_11 hx hb dX5_setWay_21 rfl rfl ?_
    obtain ⟨hi7, hf⟩ := ckE hf
    refine va_iald hx hb hK.1 hP 1 0 rfl rfl hi7 dX5_setWay_22 ?_
    refine lv_iconst (v := 1) hx hb dX5_setWay_23 (by decide) ?_
    refine lv_iload_n hx hb dX5_setWay_24 rfl (lv_at hl 1 rfl) ?_
    refine lv_ishl hx hb dX5_setWay_25 ?_
    refine lv_ior hx hb dX5_setWay_26 ?_
    obtain ⟨hi8, hf⟩ := ckE hf
    refine va_iast hx hb hK.1 hP hD hS 1 0 rfl rfl hi8 dX5_setWay_27 (fun H locs hP hD hS => ?_)
    have hP : va_P D vwCl [(q_t, oX5 v_t_places q_t_ways q_t_distances v_t_people q_t_kind q_t_a q_t_home q_t_aim q_t_at v_t_hour v_t_chance v_t_seed), (q_t_ways, .inl (cy 0, 12, .inl (upd (upd v_t_ways p0.toNatClampNeg ((v_t_ways p0.toNatClampNeg) ||| ((1 : Int32) <<< (p1 &&& 31)))) p1.toNatClampNeg (((upd v_t_ways p0.toNatClampNeg ((v_t_ways p0.toNatClampNeg) ||| ((1 : Int32) <<< (p1 &&& 31)))) p1.toNatClampNeg) ||| ((1 : Int32) <<< (p0 &&& 31))))))] H := hP
    have hD : va_D A [(q_t, oX5 v_t_places q_t_ways q_t_distances v_t_people q_t_kind q_t_a q_t_home q_t_aim q_t_at v_t_hour v_t_chance v_t_seed), (q_t_ways, .inl (cy 0, 12, .inl (upd (upd v_t_ways p0.toNatClampNeg ((v_t_ways p0.toNatClampNeg) ||| ((1 : Int32) <<< (p1 &&& 31)))) p1.toNatClampNeg (((upd v_t_ways p0.toNatClampNeg ((v_t_ways p0.toNatClampNeg) ||| ((1 : Int32) <<< (p1 &&& 31)))) p1.toNatClampNeg) ||| ((1 : Int32) <<< (p0 &&& 31))))))] := hD
    refine lv_goto (tgt := 59) hx hb dX5_setWay_28 (by decide) ?_
    cases hf
    exact W.vret hx hb hr (fun t ht hW => ⟨⟨(), rfl, trivial, xend ht hP⟩, hS.F ht⟩) hS.2.2 dX5_setWay_59
def fX5_spread (v_t_ways : Nat → Int32) (p0 : Int32) : Option (Int32) :=
  lo2 (fun g3 (x1 : Int32) (x2 : Int32) =>
    if (12 : Int32) ≤ x2 then
      some x1
    else
      bo1 (fX7_hasBit p0 x2) fun r4 =>
      jo1 (fun (x6 : Int32) =>
        vlet (x2 + (1 : Int32)) fun x8 =>
        g3 x6 x8) fun k7 =>
      if r4 = 0 then
        k7 x1
      else
        if x2 < 0 ∨ 12 ≤ x2.toNatClampNeg then none else
        vlet (x1 ||| (v_t_ways x2.toNatClampNeg)) fun x10 =>
        k7 x10) 400 p0 (0 : Int32)
set_option maxHeartbeats 4000000 in
set_option maxRecDepth 100000 in
theorem mX5_spread (l : Launch) (D : va_G) (cy : Nat → ClassId) (q_t q_t_ways q_t_distances q_t_kind q_t_a q_t_home q_t_aim q_t_at : Nat) (v_t_places : Int32) (v_t_people : Int32) (v_t_hour : Int32) (v_t_chance : Int32) (v_t_seed : Int32) (v_t_ways : Nat → Int32) (p0 : Int32) {r_ : Int32} (hf : fX5_spread v_t_ways p0 = some r_) : Met l yX5_spread wsX5_spread ({ frames := 1, cells := 0, slots := 0, locals := 21 }) (va_Pc [.ref q_t, .int p0] (fun U => va_P D vwCl [(q_t, oX5 v_t_places q_t_ways q_t_distances v_t_people q_t_kind q_t_a q_t_home q_t_aim q_t_at v_t_hour v_t_chance v_t_seed), (q_t_ways, .inl (cy 0, 12, .inl v_t_ways))] U.heap ∧ xK D cy U)) (vp_Si (fun x => x = r_)) 0 0 (fun _ => False) := by
  refine Met.ofW (cc := cX5_spread) (maxL := 4) (ret := (some .int)) (by decide) rfl ?_
  intro p e s m args below meth c s₁ B hml hv
  obtain ⟨rfl, hP, hK⟩ := hv
  have hx := B.exec
  have hb := B.bytes
  have hr := B.returns
  have hts := atoms_spec (ws := wsX5_spread) B.pre
  have hown : s.vm.findClass RX5 = some m.cls := findClass_of_methodNamed B.named
  have hlocks := B.notSynchronized
  have hP : va_P D vwCl [(q_t, oX5 v_t_places q_t_ways q_t_distances v_t_people q_t_kind q_t_a q_t_home q_t_aim q_t_at v_t_hour v_t_chance v_t_seed), (q_t_ways, .inl (cy 0, 12, .inl v_t_ways))] s.heap := hP
  have hiniX7 := hts (.initialized RX7) (by decide +kernel)
  have hstX7_hasBit := hts (.static yX7_hasBit) (by decide +kernel)
  have hinX5 : ∀ w ∈ u_ws RX5 TX5 12, w ∈ wsX5_spread := by decide +kernel
  have hk15 := hts (.fieldLink RX5 15 "ShowsWhereNobodyIs$Town" "ways" "[I") (by decide +kernel)
  have hl := lv_entry ([.ref q_t, .int p0]) (n := 4) (Nat.le_of_ble_eq_true rfl)
  rw [lg_entry_eq]
  generalize (lg_sl ([.ref q_t, .int p0]) ++ List.replicate (4 - (lg_sl ([.ref q_t, .int p0])).length) Slot.unset).toArray = ls at hl ⊢
  have hl : lv_has ls 4 [(0, .ref q_t), (1, .int p0)] := hl
  unfold fX5_spread at hf
  refine lv_iload_n hx hb dX5_spread_0 rfl (lv_at hl 1 rfl) ?_
  refine lv_istore_n (lv' := [(2, .int p0), (0, .ref q_t), (1, .int p0)]) hx hb dX5_spread_1 rfl hl (by decide) rfl (fun ls hl => ?_)
  refine lv_iconst (v := 0) hx hb dX5_spread_2 (by decide) ?_
  refine lv_istore_n (lv' := [(3, .int (0 : Int32)), (2, .int p0), (0, .ref q_t), (1, .int p0)]) hx hb dX5_spread_3 rfl hl (by decide) rfl (fun ls hl => ?_)
  refine wlr2 4 (fun _ _ => []) (fun (x1 : Int32) (x2 : Int32) ls => lv_has ls 4 [(2, .int x1), (3, .int x2), (0, .ref q_t), (1, .int p0)]) (fun g3 L4 x1 x2 ls hl hf => ?_) 400 p0 (0 : Int32) ls (lv_sub hl [1, 0, 2, 3] rfl) hf
  refine lv_iload_n hx hb dX5_spread_4 rfl (lv_at hl 1 rfl) ?_
  refine lv_bipush (v := 12) hx hb dX5_spread_5 (by decide) ?_
  refine lv_icmp_ge (tgt := 33) hx hb dX5_spread_7 (by decide) (fun c12 => ?_) (fun c12 => ?_)
  · have hf := ifT hf c12
    clear c12
    refine lv_iload_n hx hb dX5_spread_33 rfl (lv_at hl 0 rfl) ?_
    exact W.iret (v := x1) hx hb hr (fun t ht hW => ⟨x1, rfl, Option.some.inj hf, ht⟩) (fun q h => nomatch h) dX5_spread_34
  · have hf := ifF hf c12
    clear c12
    refine lv_iload_n hx hb dX5_spread_10 rfl (lv_at hl 3 rfl) ?_
    refine lv_iload_n hx hb dX5_spread_11 rfl (lv_at hl 1 rfl) ?_
    obtain ⟨r4, hr5, hf⟩ := boE1 hf
    have hPc := hP.sub (ws' := []) [] rfl
    refine xcSi (va_runSN (As := [.int p0, .int x2]) (rest := []) ⟨hx, hb, hml, hown, hts⟩ (mX7_hasBit l D cy    p0 x2 hr5) ⟨va_cnB 2 hts gX5_spread_X7_hasBit_n68 rfl rfl rfl hK.2.1 hiniX7 (by decide +kernel) ⟨Nat.le_of_ble_eq_true rfl, Nat.le_of_ble_eq_true rfl⟩, hstX7_hasBit, trivial⟩ (xPS hK hPc) rfl rfl hl.1 rfl (lv_room (Nat.le_of_ble_eq_true rfl)) dX5_spread_12 ⟨Nat.le_of_ble_eq_true rfl, Nat.le_of_ble_eq_true rfl⟩) ?_
    refine jwr1 27 (fun (x6 : Int32) => []) (fun (x6 : Int32) ls => lv_has ls 4 [(2, .int x6), (0, .ref q_t), (1, .int p0), (3, .int x2)]) hf (fun x6 ls hl hf => ?_) (fun k7 J27 hf => ?_)
    · obtain ⟨x8, ex8⟩ : ∃ y : Int32, y = x2 + (1 : Int32) := ⟨_, rfl⟩
      have hf := vlE hf ex8
      refine lv_iinc (v := x8) (lv' := [(3, .int x8), (2, .int x6), (0, .ref q_t), (1, .int p0)]) hx hb dX5_spread_27 hl (k := 3) rfl (by rw [ex8]; rfl) (by decide) rfl (fun ls hl => ?_)
      clear ex8
      refine lv_goto (tgt := 4) hx hb dX5_spread_30 (by decide) ?_
      exact L4 x6 x8 ls (lv_sub hl [1, 0, 2, 3] rfl) hf
    · refine lv_if_eq (tgt := 27) hx hb dX5_spread_15 (by decide) (fun c11 => ?_) (fun c11 => ?_)
      · have hf := ifT hf c11
        clear c11
        exact J27 x1 ls (lv_sub hl [0, 2, 3, 1] rfl) hf
      · have hf := ifF hf c11
        clear c11
        refine lv_iload_n hx hb dX5_spread_18 rfl (lv_at hl 0 rfl) ?_
        refine lv_aload_n hx hb dX5_spread_19 rfl (lv_at hl 2 rfl) ?_
        refine va_get (D := D) (ci := 5) (v := .ref q_t_ways) (C := RX5) (T := TX5) (N := 12) hx hb hts hinX5 hown hK.1 hP 0 rfl rfl 1 (by decide) hk15 (fun _ h9 => h9) rfl dX5_spread_20 ?_
        refine lv_iload_n hx hb dX5_spread_23 rfl (lv_at hl 1 rfl) ?_
        obtain ⟨hi9, hf⟩ := ckE hf
        refine va_iald hx hb hK.1 hP 1 0 rfl rfl hi9 dX5_spread_24 ?_
        refine lv_ior hx hb dX5_spread_25 ?_
        refine lv_topi (fun x10 ex10 => ?_)
        have hf := vlE hf ex10
        clear ex10
        refine lv_istore_n (lv' := [(2, .int x10), (3, .int x2), (0, .ref q_t), (1, .int p0)]) hx hb dX5_spread_26 rfl hl (by decide) rfl (fun ls hl => ?_)
        exact J27 x10 ls (lv_sub hl [0, 2, 3, 1] rfl) hf
def fX5_measureFrom (v_t_ways : Nat → Int32) (v_t_distances : Nat → Int32) (p0 : Int32) : Option ((Nat → Int32)) :=
  vlet (p0 * (12 : Int32)) fun x1 =>
  lo2 (fun g4 (x2 : Int32) (u3 : Nat → Int32) =>
    if (12 : Int32) ≤ x2 then
      vlet ((1 : Int32) <<< (p0 &&& 31)) fun x5 =>
      lo4 (fun g10 (x6 : Int32) (x7 : Int32) (x8 : Int32) (u9 : Nat → Int32) =>
        if (12 : Int32) ≤ x8 then
          some u9
        else
          if x7 = 0 then
            some u9
          else
            lo2 (fun g13 (x11 : Int32) (u12 : Nat → Int32) =>
              if (12 : Int32) ≤ x11 then
                vlet (x6 ||| x7) fun x14 =>
                bo1 (fX5_spread v_t_ways x7) fun r15 =>
                vlet (r15 &&& (x14 ^^^ (-1 : Int32))) fun x17 =>
                vlet (x8 + (1 : Int32)) fun x18 =>
                g10 x14 x17 x18 u12
              else
                bo1 (fX7_hasBit x7 x11) fun r19 =>
                jo1 (fun (u21 : Nat → Int32) =>
                  vlet (x11 + (1 : Int32)) fun x23 =>
                  g13 x23 u21) fun k22 =>
                if r19 = 0 then
                  k22 u12
                else
                  if (x1 + x11) < 0 ∨ 144 ≤ (x1 + x11).toNatClampNeg then none else
                  k22 (upd u12 (x1 + x11).toNatClampNeg x8)) 400 (0 : Int32) u9) 400 (0 : Int32) x5 (0 : Int32) u3
    else
      if (x1 + x2) < 0 ∨ 144 ≤ (x1 + x2).toNatClampNeg then none else
      vlet (x2 + (1 : Int32)) fun x30 =>
      g4 x30 (upd u3 (x1 + x2).toNatClampNeg (-1 : Int32))) 400 (0 : Int32) v_t_distances
set_option maxHeartbeats 4000000 in
set_option maxRecDepth 100000 in
theorem mX5_measureFrom (l : Launch) (D : va_G) (cy : Nat → ClassId) (q_t q_t_ways q_t_distances q_t_kind q_t_a q_t_home q_t_aim q_t_at : Nat) (v_t_places : Int32) (v_t_people : Int32) (v_t_hour : Int32) (v_t_chance : Int32) (v_t_seed : Int32) (v_t_ways : Nat → Int32) (v_t_distances : Nat → Int32) (sz : Nat) (p0 : Int32) {n_t_distances : Nat → Int32} (hf : fX5_measureFrom v_t_ways v_t_distances p0 = some n_t_distances) : Met l yX5_measureFrom wsX5_measureFrom ({ frames := 2, cells := 0, slots := 0, locals := 44 }) (va_Pc [.ref q_t, .int p0] (fun U => U.heap.size = sz ∧ va_P D vwCl [(q_t, oX5 v_t_places q_t_ways q_t_distances v_t_people q_t_kind q_t_a q_t_home q_t_aim q_t_at v_t_hour v_t_chance v_t_seed), (q_t_ways, .inl (cy 0, 12, .inl v_t_ways)), (q_t_distances, .inl (cy 0, 144, .inl v_t_distances))] U.heap ∧ xK D cy U ∧ va_D (fun _ => True) [(q_t, oX5 v_t_places q_t_ways q_t_distances v_t_people q_t_kind q_t_a q_t_home q_t_aim q_t_at v_t_hour v_t_chance v_t_seed), (q_t_ways, .inl (cy 0, 12, .inl v_t_ways)), (q_t_distances, .inl (cy 0, 144, .inl v_t_distances))])) (va_Qv (fun (_ : Unit) => True) (fun _ t => va_P D vwCl [(q_t, oX5 v_t_places q_t_ways q_t_distances v_t_people q_t_kind q_t_a q_t_home q_t_aim q_t_at v_t_hour v_t_chance v_t_seed), (q_t_ways, .inl (cy 0, 12, .inl v_t_ways)), (q_t_distances, .inl (cy 0, 144, .inl n_t_distances))] t.heap) (va_A [(q_t, oX5 v_t_places q_t_ways q_t_distances v_t_people q_t_kind q_t_a q_t_home q_t_aim q_t_at v_t_hour v_t_chance v_t_seed), (q_t_ways, .inl (cy 0, 12, .inl v_t_ways)), (q_t_distances, .inl (cy 0, 144, .inl v_t_distances))] sz)) 0 0 (va_A [(q_t, oX5 v_t_places q_t_ways q_t_distances v_t_people q_t_kind q_t_a q_t_home q_t_aim q_t_at v_t_hour v_t_chance v_t_seed), (q_t_ways, .inl (cy 0, 12, .inl v_t_ways)), (q_t_distances, .inl (cy 0, 144, .inl v_t_distances))] sz) := by
  refine Met.ofW (cc := cX5_measureFrom) (maxL := 7) (ret := none) (by decide) rfl ?_
  intro p e s m args below meth c s₁ B hml hv
  obtain ⟨rfl, hsz, hP, hK, hD0⟩ := hv
  have hx := B.exec
  have hb := B.bytes
  have hr := B.returns
  have hts := atoms_spec (ws := wsX5_measureFrom) B.pre
  have hown : s.vm.findClass RX5 = some m.cls := findClass_of_methodNamed B.named
  have hlocks := B.notSynchronized
  subst hsz
  have hD := hD0.self (sz := s.heap.size)
  generalize hAe : va_A [(q_t, oX5 v_t_places q_t_ways q_t_distances v_t_people q_t_kind q_t_a q_t_home q_t_aim q_t_at v_t_hour v_t_chance v_t_seed), (q_t_ways, .inl (cy 0, 12, .inl v_t_ways)), (q_t_distances, .inl (cy 0, 144, .inl v_t_distances))] s.heap.size = A at hD ⊢
  have hA : ∀ q : Nat, s.heap.size ≤ q → A q := fun q h => by rw [← hAe]; exact Or.inr h
  have hS : va_S A s.heap s.heap [] := va_S.rf
  have hP : va_P D vwCl [(q_t, oX5 v_t_places q_t_ways q_t_distances v_t_people q_t_kind q_t_a q_t_home q_t_aim q_t_at v_t_hour v_t_chance v_t_seed), (q_t_ways, .inl (cy 0, 12, .inl v_t_ways)), (q_t_distances, .inl (cy 0, 144, .inl v_t_distances))] s.heap := hP
  have hiniX7 := hts (.initialized RX7) (by decide +kernel)
  have hstX7_hasBit := hts (.static yX7_hasBit) (by decide +kernel)
  have hinX5 : ∀ w ∈ u_ws RX5 TX5 12, w ∈ wsX5_measureFrom := by decide +kernel
  have hk19 := hts (.fieldLink RX5 19 "ShowsWhereNobodyIs$Town" "distances" "[I") (by decide +kernel)
  have hl := lv_entry ([.ref q_t, .int p0]) (n := 7) (Nat.le_of_ble_eq_true rfl)
  rw [lg_entry_eq]
  generalize (lg_sl ([.ref q_t, .int p0]) ++ List.replicate (7 - (lg_sl ([.ref q_t, .int p0])).length) Slot.unset).toArray = ls at hl ⊢
  have hl : lv_has ls 7 [(0, .ref q_t), (1, .int p0)] := hl
  unfold fX5_measureFrom at hf
  refine lv_iload_n hx hb dX5_measureFrom_0 rfl (lv_at hl 1 rfl) ?_
  refine lv_bipush (v := 12) hx hb dX5_measureFrom_1 (by decide) ?_
  refine lv_imul hx hb dX5_measureFrom_3 ?_
  refine lv_topi (fun x1 ex1 => ?_)
  have hf := vlE hf ex1
  clear ex1
  refine lv_istore_n (lv' := [(2, .int x1), (0, .ref q_t), (1, .int p0)]) hx hb dX5_measureFrom_4 rfl hl (by decide) rfl (fun ls hl => ?_)
  refine lv_iconst (v := 0) hx hb dX5_measureFrom_5 (by decide) ?_
  refine lv_istore_n (lv' := [(3, .int (0 : Int32)), (2, .int x1), (0, .ref q_t), (1, .int p0)]) hx hb dX5_measureFrom_6 rfl hl (by decide) rfl (fun ls hl => ?_)
  refine wlw2 7 (fun _ _ => []) (fun (x2 : Int32) (u3 : Nat → Int32) H locs ls => va_P D vwCl [(q_t, oX5 v_t_places q_t_ways q_t_distances v_t_people q_t_kind q_t_a q_t_home q_t_aim q_t_at v_t_hour v_t_chance v_t_seed), (q_t_ways, .inl (cy 0, 12, .inl v_t_ways)), (q_t_distances, .inl (cy 0, 144, .inl u3))] H ∧ va_D A [(q_t, oX5 v_t_places q_t_ways q_t_distances v_t_people q_t_kind q_t_a q_t_home q_t_aim q_t_at v_t_hour v_t_chance v_t_seed), (q_t_ways, .inl (cy 0, 12, .inl v_t_ways)), (q_t_distances, .inl (cy 0, 144, .inl u3))] ∧ va_S A s.heap H locs ∧ lv_has ls 7 [(3, .int x2), (2, .int x1), (0, .ref q_t), (1, .int p0)]) (fun g4 L7 x2 u3 H locs ls hI hf => ?_) 400 (0 : Int32) v_t_distances _ _ ls ⟨hP, hD, hS, lv_sub hl [0, 1, 2, 3] rfl⟩ hf
  obtain ⟨hP, hD, hS, hl⟩ := hI
  refine lv_iload_n hx hb dX5_measureFrom_7 rfl (lv_at hl 0 rfl) ?_
  refine lv_bipush (v := 12) hx hb dX5_measureFrom_8 (by decide) ?_
  refine lv_icmp_ge (tgt := 28) hx hb dX5_measureFrom_10 (by decide) (fun c31 => ?_) (fun c31 => ?_)
  · have hf := ifT hf c31
    clear c31
    refine lv_iconst (v := 0) hx hb dX5_measureFrom_28 (by decide) ?_
    refine lv_istore_n (lv' := [(3, .int (0 : Int32)), (2, .int x1), (0, .ref q_t), (1, .int p0)]) hx hb dX5_measureFrom_29 rfl hl (by decide) rfl (fun ls hl => ?_)
    refine lv_iconst (v := 1) hx hb dX5_measureFrom_30 (by decide) ?_
    refine lv_iload_n hx hb dX5_measureFrom_31 rfl (lv_at hl 3 rfl) ?_
    refine lv_ishl hx hb dX5_measureFrom_32 ?_
    refine lv_topi (fun x5 ex5 => ?_)
    have hf := vlE hf ex5
    clear ex5
    refine lv_istore (lv' := [(4, .int x5), (3, .int (0 : Int32)), (2, .int x1), (0, .ref q_t), (1, .int p0)]) hx hb dX5_measureFrom_33 hl (by decide) rfl (fun ls hl => ?_)
    refine lv_iconst (v := 0) hx hb dX5_measureFrom_35 (by decide) ?_
    refine lv_istore (lv' := [(5, .int (0 : Int32)), (4, .int x5), (3, .int (0 : Int32)), (2, .int x1), (0, .ref q_t), (1, .int p0)]) hx hb dX5_measureFrom_36 hl (by decide) rfl (fun ls hl => ?_)
    refine wlw4 38 (fun _ _ _ _ => []) (fun (x6 : Int32) (x7 : Int32) (x8 : Int32) (u9 : Nat → Int32) H locs ls => va_P D vwCl [(q_t, oX5 v_t_places q_t_ways q_t_distances v_t_people q_t_kind q_t_a q_t_home q_t_aim q_t_at v_t_hour v_t_chance v_t_seed), (q_t_ways, .inl (cy 0, 12, .inl v_t_ways)), (q_t_distances, .inl (cy 0, 144, .inl u9))] H ∧ va_D A [(q_t, oX5 v_t_places q_t_ways q_t_distances v_t_people q_t_kind q_t_a q_t_home q_t_aim q_t_at v_t_hour v_t_chance v_t_seed), (q_t_ways, .inl (cy 0, 12, .inl v_t_ways)), (q_t_distances, .inl (cy 0, 144, .inl u9))] ∧ va_S A s.heap H locs ∧ lv_has ls 7 [(3, .int x6), (4, .int x7), (5, .int x8), (2, .int x1), (0, .ref q_t)]) (fun g10 L38 x6 x7 x8 u9 H locs ls hI hf => ?_) 400 (0 : Int32) x5 (0 : Int32) u3 _ _ ls ⟨hP, hD, hS, lv_sub hl [2, 1, 0, 3, 4] rfl⟩ hf
    obtain ⟨hP, hD, hS, hl⟩ := hI
    refine lv_iload hx hb dX5_measureFrom_38 (lv_at hl 2 rfl) ?_
    refine lv_bipush (v := 12) hx hb dX5_measureFrom_40 (by decide) ?_
    refine lv_icmp_ge (tgt := 110) hx hb dX5_measureFrom_42 (by decide) (fun c28 => ?_) (fun c28 => ?_)
    · have hf := ifT hf c28
      clear c28
      cases hf
      exact W.vret hx hb hr (fun t ht hW => ⟨⟨(), rfl, trivial, xend ht hP⟩, hS.F ht⟩) hS.2.2 dX5_measureFrom_110
    · have hf := ifF hf c28
      clear c28
      refine lv_iload hx hb dX5_measureFrom_45 (lv_at hl 1 rfl) ?_
      refine lv_if_eq (tgt := 110) hx hb dX5_measureFrom_47 (by decide) (fun c27 => ?_) (fun c27 => ?_)
      · have hf := ifT hf c27
        clear c27
        cases hf
        exact W.vret hx hb hr (fun t ht hW => ⟨⟨(), rfl, trivial, xend ht hP⟩, hS.F ht⟩) hS.2.2 dX5_measureFrom_110
      · have hf := ifF hf c27
        clear c27
        refine lv_iconst (v := 0) hx hb dX5_measureFrom_50 (by decide) ?_
        refine lv_istore (lv' := [(6, .int (0 : Int32)), (3, .int x6), (4, .int x7), (5, .int x8), (2, .int x1), (0, .ref q_t)]) hx hb dX5_measureFrom_51 hl (by decide) rfl (fun ls hl => ?_)
        refine wlw2 53 (fun _ _ => []) (fun (x11 : Int32) (u12 : Nat → Int32) H locs ls => va_P D vwCl [(q_t, oX5 v_t_places q_t_ways q_t_distances v_t_people q_t_kind q_t_a q_t_home q_t_aim q_t_at v_t_hour v_t_chance v_t_seed), (q_t_ways, .inl (cy 0, 12, .inl v_t_ways)), (q_t_distances, .inl (cy 0, 144, .inl u12))] H ∧ va_D A [(q_t, oX5 v_t_places q_t_ways q_t_distances v_t_people q_t_kind q_t_a q_t_home q_t_aim q_t_at v_t_hour v_t_chance v_t_seed), (q_t_ways, .inl (cy 0, 12, .inl v_t_ways)), (q_t_distances, .inl (cy 0, 144, .inl u12))] ∧ va_S A s.heap H locs ∧ lv_has ls 7 [(6, .int x11), (3, .int x6), (4, .int x7), (5, .int x8), (2, .int x1), (0, .ref q_t)]) (fun g13 L53 x11 u12 H locs ls hI hf => ?_) 400 (0 : Int32) u9 _ _ ls ⟨hP, hD, hS, lv_sub hl [0, 1, 2, 3, 4, 5] rfl⟩ hf
        obtain ⟨hP, hD, hS, hl⟩ := hI
        refine lv_iload hx hb dX5_measureFrom_53 (lv_at hl 0 rfl) ?_
        refine lv_bipush (v := 12) hx hb dX5_measureFrom_55 (by decide) ?_
        refine lv_icmp_ge (tgt := 87) hx hb dX5_measureFrom_57 (by decide) (fun c26 => ?_) (fun c26 => ?_)
        · have hf := ifT hf c26
          clear c26
          refine lv_iload_n hx hb dX5_measureFrom_87 rfl (lv_at hl 1 rfl) ?_
          refine lv_iload hx hb dX5_measureFrom_88 (lv_at hl 2 rfl) ?_
          refine lv_ior hx hb dX5_measureFrom_90 ?_
          refine lv_topi (fun x14 ex14 => ?_)
          have hf := vlE hf ex14
          clear ex14
          refine lv_istore_n (lv' := [(3, .int x14), (6, .int x11), (4, .int x7), (5, .int x8), (2, .int x1), (0, .ref q_t)]) hx hb dX5_measureFrom_91 rfl hl (by decide) rfl (fun ls hl => ?_)
          refine lv_aload_n hx hb dX5_measureFrom_92 rfl (lv_at hl 5 rfl) ?_
          refine lv_iload hx hb dX5_measureFrom_93 (lv_at hl 2 rfl) ?_
          obtain ⟨r15, hr16, hf⟩ := boE1 hf
          have hPc := hP.sub (ws' := [(q_t, oX5 v_t_places q_t_ways q_t_distances v_t_people q_t_kind q_t_a q_t_home q_t_aim q_t_at v_t_hour v_t_chance v_t_seed), (q_t_ways, .inl (cy 0, 12, .inl v_t_ways))]) [0, 1] rfl
          refine xcSi (va_runV (As := [.int x7]) (rest := []) ⟨hx, hb, hml, hown, hts⟩ (mX5_spread l D cy q_t q_t_ways q_t_distances q_t_kind q_t_a q_t_home q_t_aim q_t_at v_t_places v_t_people v_t_hour v_t_chance v_t_seed v_t_ways  x7 hr16) (cwV 1 hts gX5_measureFrom_X5_spread rfl rfl rfl (by decide +kernel) ⟨Nat.le_of_ble_eq_true rfl, Nat.le_of_ble_eq_true rfl⟩) (xPV hK hPc (ci := 5) (q0 := 0) rfl rfl) rfl rfl hl.1 rfl (lv_room (Nat.le_of_ble_eq_true rfl)) dX5_measureFrom_95 ⟨Nat.le_of_ble_eq_true rfl, Nat.le_of_ble_eq_true rfl⟩) ?_
          refine lv_iload_n hx hb dX5_measureFrom_98 rfl (lv_at hl 0 rfl) ?_
          refine lv_iconst (v := (-1)) hx hb dX5_measureFrom_99 (by decide) ?_
          refine lv_ixor hx hb dX5_measureFrom_100 ?_
          refine lv_iand hx hb dX5_measureFrom_101 ?_
          refine lv_topi (fun x17 ex17 => ?_)
          have hf := vlE hf ex17
          clear ex17
          refine lv_istore (lv' := [(4, .int x17), (3, .int x14), (6, .int x11), (5, .int x8), (2, .int x1), (0, .ref q_t)]) hx hb dX5_measureFrom_102 hl (by decide) rfl (fun ls hl => ?_)
          obtain ⟨x18, ex18⟩ : ∃ y : Int32, y = x8 + (1 : Int32) := ⟨_, rfl⟩
          have hf := vlE hf ex18
          refine lv_iinc (v := x18) (lv' := [(5, .int x18), (4, .int x17), (3, .int x14), (6, .int x11), (2, .int x1), (0, .ref q_t)]) hx hb dX5_measureFrom_104 hl (k := 3) rfl (by rw [ex18]; rfl) (by decide) rfl (fun ls hl => ?_)
          clear ex18
          refine lv_goto (tgt := 38) hx hb dX5_measureFrom_107 (by decide) ?_
          exact L38 x14 x17 x18 u12 _ _ ls ⟨hP, hD, hS, lv_sub hl [2, 1, 0, 4, 5] rfl⟩ hf
        · have hf := ifF hf c26
          clear c26
          refine lv_iload hx hb dX5_measureFrom_60 (lv_at hl 2 rfl) ?_
          refine lv_iload hx hb dX5_measureFrom_62 (lv_at hl 0 rfl) ?_
          obtain ⟨r19, hr20, hf⟩ := boE1 hf
          have hPc := hP.sub (ws' := []) [] rfl
          refine xcSi (va_runSN (As := [.int x7, .int x11]) (rest := []) ⟨hx, hb, hml, hown, hts⟩ (mX7_hasBit l D cy    x7 x11 hr20) ⟨va_cnB 2 hts gX5_measureFrom_X7_hasBit_n68 rfl rfl rfl hK.2.1 hiniX7 (by decide +kernel) ⟨Nat.le_of_ble_eq_true rfl, Nat.le_of_ble_eq_true rfl⟩, hstX7_hasBit, trivial⟩ (xPS hK hPc) rfl rfl hl.1 rfl (lv_room (Nat.le_of_ble_eq_true rfl)) dX5_measureFrom_64 ⟨Nat.le_of_ble_eq_true rfl, Nat.le_of_ble_eq_true rfl⟩) ?_
          refine jww1 81 (fun (u21 : Nat → Int32) => []) (fun (u21 : Nat → Int32) H locs ls => va_P D vwCl [(q_t, oX5 v_t_places q_t_ways q_t_distances v_t_people q_t_kind q_t_a q_t_home q_t_aim q_t_at v_t_hour v_t_chance v_t_seed), (q_t_ways, .inl (cy 0, 12, .inl v_t_ways)), (q_t_distances, .inl (cy 0, 144, .inl u21))] H ∧ va_D A [(q_t, oX5 v_t_places q_t_ways q_t_distances v_t_people q_t_kind q_t_a q_t_home q_t_aim q_t_at v_t_hour v_t_chance v_t_seed), (q_t_ways, .inl (cy 0, 12, .inl v_t_ways)), (q_t_distances, .inl (cy 0, 144, .inl u21))] ∧ va_S A s.heap H locs ∧ lv_has ls 7 [(0, .ref q_t), (2, .int x1), (3, .int x6), (4, .int x7), (5, .int x8), (6, .int x11)]) hf (fun u21 H locs ls hI hf => ?_) (fun k22 J81 hf => ?_)
          · obtain ⟨hP, hD, hS, hl⟩ := hI
            obtain ⟨x23, ex23⟩ : ∃ y : Int32, y = x11 + (1 : Int32) := ⟨_, rfl⟩
            have hf := vlE hf ex23
            refine lv_iinc (v := x23) (lv' := [(6, .int x23), (0, .ref q_t), (2, .int x1), (3, .int x6), (4, .int x7), (5, .int x8)]) hx hb dX5_measureFrom_81 hl (k := 5) rfl (by rw [ex23]; rfl) (by decide) rfl (fun ls hl => ?_)
            clear ex23
            refine lv_goto (tgt := 53) hx hb dX5_measureFrom_84 (by decide) ?_
            exact L53 x23 u21 _ _ ls ⟨hP, hD, hS, lv_sub hl [0, 3, 4, 5, 2, 1] rfl⟩ hf
          · refine lv_if_eq (tgt := 81) hx hb dX5_measureFrom_67 (by decide) (fun c25 => ?_) (fun c25 => ?_)
            · have hf := ifT hf c25
              clear c25
              exact J81 u12 _ _ ls ⟨hP, hD, hS, lv_sub hl [5, 4, 1, 2, 3, 0] rfl⟩ hf
            · have hf := ifF hf c25
              clear c25
              refine lv_aload_n hx hb dX5_measureFrom_70 rfl (lv_at hl 5 rfl) ?_
              refine va_get (D := D) (ci := 5) (v := .ref q_t_distances) (C := RX5) (T := TX5) (N := 12) hx hb hts hinX5 hown hK.1 hP 0 rfl rfl 2 (by decide) hk19 (fun _ h9 => h9) rfl dX5_measureFrom_71 ?_
              refine lv_iload_n hx hb dX5_measureFrom_74 rfl (lv_at hl 4 rfl) ?_
              refine lv_iload hx hb dX5_measureFrom_75 (lv_at hl 0 rfl) ?_
              refine lv_iadd hx hb dX5_measureFrom_77 ?_
              refine lv_iload hx hb dX5_measureFrom_78 (lv_at hl 3 rfl) ?_
              obtain ⟨hi24, hf⟩ := ckE hf
              refine va_iast hx hb hK.1 hP hD hS 2 0 rfl rfl hi24 dX5_measureFrom_80 (fun H locs hP hD hS => ?_)
              have hP : va_P D vwCl [(q_t, oX5 v_t_places q_t_ways q_t_distances v_t_people q_t_kind q_t_a q_t_home q_t_aim q_t_at v_t_hour v_t_chance v_t_seed), (q_t_ways, .inl (cy 0, 12, .inl v_t_ways)), (q_t_distances, .inl (cy 0, 144, .inl (upd u12 (x1 + x11).toNatClampNeg x8)))] H := hP
              have hD : va_D A [(q_t, oX5 v_t_places q_t_ways q_t_distances v_t_people q_t_kind q_t_a q_t_home q_t_aim q_t_at v_t_hour v_t_chance v_t_seed), (q_t_ways, .inl (cy 0, 12, .inl v_t_ways)), (q_t_distances, .inl (cy 0, 144, .inl (upd u12 (x1 + x11).toNatClampNeg x8)))] := hD
              exact J81 (upd u12 (x1 + x11).toNatClampNeg x8) _ _ ls ⟨hP, hD, hS, lv_sub hl [5, 4, 1, 2, 3, 0] rfl⟩ hf
  · have hf := ifF hf c31
    clear c31
    refine lv_aload_n hx hb dX5_measureFrom_13 rfl (lv_at hl 2 rfl) ?_
    refine va_get (D := D) (ci := 5) (v := .ref q_t_distances) (C := RX5) (T := TX5) (N := 12) hx hb hts hinX5 hown hK.1 hP 0 rfl rfl 2 (by decide) hk19 (fun _ h9 => h9) rfl dX5_measureFrom_14 ?_
    refine lv_iload_n hx hb dX5_measureFrom_17 rfl (lv_at hl 1 rfl) ?_
    refine lv_iload_n hx hb dX5_measureFrom_18 rfl (lv_at hl 0 rfl) ?_
    refine lv_iadd hx hb dX5_measureFrom_19 ?_
    refine lv_iconst (v := (-1)) hx hb dX5_measureFrom_20 (by decide) ?_
    obtain ⟨hi29, hf⟩ := ckE hf
    refine va_iast hx hb hK.1 hP hD hS 2 0 rfl rfl hi29 dX5_measureFrom_21 (fun H locs hP hD hS => ?_)
    have hP : va_P D vwCl [(q_t, oX5 v_t_places q_t_ways q_t_distances v_t_people q_t_kind q_t_a q_t_home q_t_aim q_t_at v_t_hour v_t_chance v_t_seed), (q_t_ways, .inl (cy 0, 12, .inl v_t_ways)), (q_t_distances, .inl (cy 0, 144, .inl (upd u3 (x1 + x2).toNatClampNeg (-1 : Int32))))] H := hP
    have hD : va_D A [(q_t, oX5 v_t_places q_t_ways q_t_distances v_t_people q_t_kind q_t_a q_t_home q_t_aim q_t_at v_t_hour v_t_chance v_t_seed), (q_t_ways, .inl (cy 0, 12, .inl v_t_ways)), (q_t_distances, .inl (cy 0, 144, .inl (upd u3 (x1 + x2).toNatClampNeg (-1 : Int32))))] := hD
    obtain ⟨x30, ex30⟩ : ∃ y : Int32, y = x2 + (1 : Int32) := ⟨_, rfl⟩
    have hf := vlE hf ex30
    refine lv_iinc (v := x30) (lv' := [(3, .int x30), (2, .int x1), (0, .ref q_t), (1, .int p0)]) hx hb dX5_measureFrom_22 hl (k := 0) rfl (by rw [ex30]; rfl) (by decide) rfl (fun ls hl => ?_)
    clear ex30
    refine lv_goto (tgt := 7) hx hb dX5_measureFrom_25 (by decide) ?_
    exact L7 x30 (upd u3 (x1 + x2).toNatClampNeg (-1 : Int32)) _ _ ls ⟨hP, hD, hS, lv_sub hl [0, 1, 2, 3] rfl⟩ hf
def fX5_measure (v_t_ways : Nat → Int32) (v_t_distances : Nat → Int32) : Option ((Nat → Int32)) :=
  lo2 (fun g3 (x1 : Int32) (u2 : Nat → Int32) =>
    if (12 : Int32) ≤ x1 then
      some u2
    else
      bo1 (fX5_measureFrom v_t_ways u2 x1) fun u4 =>
      vlet (x1 + (1 : Int32)) fun x6 =>
      g3 x6 u4) 400 (0 : Int32) v_t_distances
set_option maxHeartbeats 4000000 in
set_option maxRecDepth 100000 in
theorem mX5_measure (l : Launch) (D : va_G) (cy : Nat → ClassId) (q_t q_t_ways q_t_distances q_t_kind q_t_a q_t_home q_t_aim q_t_at : Nat) (v_t_places : Int32) (v_t_people : Int32) (v_t_hour : Int32) (v_t_chance : Int32) (v_t_seed : Int32) (v_t_ways : Nat → Int32) (v_t_distances : Nat → Int32) (sz : Nat) {n_t_distances : Nat → Int32} (hf : fX5_measure v_t_ways v_t_distances = some n_t_distances) : Met l yX5_measure wsX5_measure ({ frames := 3, cells := 0, slots := 0, locals := 70 }) (va_Pc [.ref q_t] (fun U => U.heap.size = sz ∧ va_P D vwCl [(q_t, oX5 v_t_places q_t_ways q_t_distances v_t_people q_t_kind q_t_a q_t_home q_t_aim q_t_at v_t_hour v_t_chance v_t_seed), (q_t_ways, .inl (cy 0, 12, .inl v_t_ways)), (q_t_distances, .inl (cy 0, 144, .inl v_t_distances))] U.heap ∧ xK D cy U ∧ va_D (fun _ => True) [(q_t, oX5 v_t_places q_t_ways q_t_distances v_t_people q_t_kind q_t_a q_t_home q_t_aim q_t_at v_t_hour v_t_chance v_t_seed), (q_t_ways, .inl (cy 0, 12, .inl v_t_ways)), (q_t_distances, .inl (cy 0, 144, .inl v_t_distances))])) (va_Qv (fun (_ : Unit) => True) (fun _ t => va_P D vwCl [(q_t, oX5 v_t_places q_t_ways q_t_distances v_t_people q_t_kind q_t_a q_t_home q_t_aim q_t_at v_t_hour v_t_chance v_t_seed), (q_t_ways, .inl (cy 0, 12, .inl v_t_ways)), (q_t_distances, .inl (cy 0, 144, .inl n_t_distances))] t.heap) (va_A [(q_t, oX5 v_t_places q_t_ways q_t_distances v_t_people q_t_kind q_t_a q_t_home q_t_aim q_t_at v_t_hour v_t_chance v_t_seed), (q_t_ways, .inl (cy 0, 12, .inl v_t_ways)), (q_t_distances, .inl (cy 0, 144, .inl v_t_distances))] sz)) 0 0 (va_A [(q_t, oX5 v_t_places q_t_ways q_t_distances v_t_people q_t_kind q_t_a q_t_home q_t_aim q_t_at v_t_hour v_t_chance v_t_seed), (q_t_ways, .inl (cy 0, 12, .inl v_t_ways)), (q_t_distances, .inl (cy 0, 144, .inl v_t_distances))] sz) := by
  refine Met.ofW (cc := cX5_measure) (maxL := 2) (ret := none) (by decide) rfl ?_
  intro p e s m args below meth c s₁ B hml hv
  obtain ⟨rfl, hsz, hP, hK, hD0⟩ := hv
  have hx := B.exec
  have hb := B.bytes
  have hr := B.returns
  have hts := atoms_spec (ws := wsX5_measure) B.pre
  have hown : s.vm.findClass RX5 = some m.cls := findClass_of_methodNamed B.named
  have hlocks := B.notSynchronized
  subst hsz
  have hD := hD0.self (sz := s.heap.size)
  generalize hAe : va_A [(q_t, oX5 v_t_places q_t_ways q_t_distances v_t_people q_t_kind q_t_a q_t_home q_t_aim q_t_at v_t_hour v_t_chance v_t_seed), (q_t_ways, .inl (cy 0, 12, .inl v_t_ways)), (q_t_distances, .inl (cy 0, 144, .inl v_t_distances))] s.heap.size = A at hD ⊢
  have hA : ∀ q : Nat, s.heap.size ≤ q → A q := fun q h => by rw [← hAe]; exact Or.inr h
  have hS : va_S A s.heap s.heap [] := va_S.rf
  have hP : va_P D vwCl [(q_t, oX5 v_t_places q_t_ways q_t_distances v_t_people q_t_kind q_t_a q_t_home q_t_aim q_t_at v_t_hour v_t_chance v_t_seed), (q_t_ways, .inl (cy 0, 12, .inl v_t_ways)), (q_t_distances, .inl (cy 0, 144, .inl v_t_distances))] s.heap := hP
  have hl := lv_entry ([.ref q_t]) (n := 2) (Nat.le_of_ble_eq_true rfl)
  rw [lg_entry_eq]
  generalize (lg_sl ([.ref q_t]) ++ List.replicate (2 - (lg_sl ([.ref q_t])).length) Slot.unset).toArray = ls at hl ⊢
  have hl : lv_has ls 2 [(0, .ref q_t)] := hl
  unfold fX5_measure at hf
  refine lv_iconst (v := 0) hx hb dX5_measure_0 (by decide) ?_
  refine lv_istore_n (lv' := [(1, .int (0 : Int32)), (0, .ref q_t)]) hx hb dX5_measure_1 rfl hl (by decide) rfl (fun ls hl => ?_)
  refine wlw2 2 (fun _ _ => []) (fun (x1 : Int32) (u2 : Nat → Int32) H locs ls => va_P D vwCl [(q_t, oX5 v_t_places q_t_ways q_t_distances v_t_people q_t_kind q_t_a q_t_home q_t_aim q_t_at v_t_hour v_t_chance v_t_seed), (q_t_ways, .inl (cy 0, 12, .inl v_t_ways)), (q_t_distances, .inl (cy 0, 144, .inl u2))] H ∧ va_D A [(q_t, oX5 v_t_places q_t_ways q_t_distances v_t_people q_t_kind q_t_a q_t_home q_t_aim q_t_at v_t_hour v_t_chance v_t_seed), (q_t_ways, .inl (cy 0, 12, .inl v_t_ways)), (q_t_distances, .inl (cy 0, 144, .inl u2))] ∧ va_S A s.heap H locs ∧ lv_has ls 2 [(1, .int x1), (0, .ref q_t)]) (fun g3 L2 x1 u2 H locs ls hI hf => ?_) 400 (0 : Int32) v_t_distances _ _ ls ⟨hP, hD, hS, lv_sub hl [0, 1] rfl⟩ hf
  obtain ⟨hP, hD, hS, hl⟩ := hI
  refine lv_iload_n hx hb dX5_measure_2 rfl (lv_at hl 0 rfl) ?_
  refine lv_bipush (v := 12) hx hb dX5_measure_3 (by decide) ?_
  refine lv_icmp_ge (tgt := 19) hx hb dX5_measure_5 (by decide) (fun c7 => ?_) (fun c7 => ?_)
  · have hf := ifT hf c7
    clear c7
    cases hf
    exact W.vret hx hb hr (fun t ht hW => ⟨⟨(), rfl, trivial, xend ht hP⟩, hS.F ht⟩) hS.2.2 dX5_measure_19
  · have hf := ifF hf c7
    clear c7
    refine lv_aload_n hx hb dX5_measure_8 rfl (lv_at hl 1 rfl) ?_
    refine lv_iload_n hx hb dX5_measure_9 rfl (lv_at hl 0 rfl) ?_
    obtain ⟨u4, hr5, hf⟩ := boE1 hf
    have hPc := hP.sub (ws' := [(q_t, oX5 v_t_places q_t_ways q_t_distances v_t_people q_t_kind q_t_a q_t_home q_t_aim q_t_at v_t_hour v_t_chance v_t_seed), (q_t_ways, .inl (cy 0, 12, .inl v_t_ways)), (q_t_distances, .inl (cy 0, 144, .inl u2))]) [0, 1, 2] rfl
    have hDc := hD.sub (ws' := [(q_t, oX5 v_t_places q_t_ways q_t_distances v_t_people q_t_kind q_t_a q_t_home q_t_aim q_t_at v_t_hour v_t_chance v_t_seed), (q_t_ways, .inl (cy 0, 12, .inl v_t_ways)), (q_t_distances, .inl (cy 0, 144, .inl u2))]) [0, 1, 2] (by decide) rfl
    refine xcQv (w1 := [(q_t, oX5 v_t_places q_t_ways q_t_distances v_t_people q_t_kind q_t_a q_t_home q_t_aim q_t_at v_t_hour v_t_chance v_t_seed), (q_t_ways, .inl (cy 0, 12, .inl v_t_ways)), (q_t_distances, .inl (cy 0, 144, .inl u4))]) (va_runV (As := [.int x1]) (rest := []) ⟨hx, hb, hml, hown, hts⟩ (mX5_measureFrom l D cy q_t q_t_ways q_t_distances q_t_kind q_t_a q_t_home q_t_aim q_t_at v_t_places v_t_people v_t_hour v_t_chance v_t_seed v_t_ways u2 _ x1 hr5) (cwV 1 hts gX5_measure_X5_measureFrom rfl rfl rfl (by decide +kernel) ⟨Nat.le_of_ble_eq_true rfl, Nat.le_of_ble_eq_true rfl⟩) (xPVw hK hPc hDc (ci := 5) (q0 := 0) rfl rfl) rfl rfl hl.1 rfl (lv_room (Nat.le_of_ble_eq_true rfl)) dX5_measure_10 ⟨Nat.le_of_ble_eq_true rfl, Nat.le_of_ble_eq_true rfl⟩) hP hD hS hA [0, 1, 2] rfl rfl (fun H locs hP hD hS => ?_)
    have hP : va_P D vwCl [(q_t, oX5 v_t_places q_t_ways q_t_distances v_t_people q_t_kind q_t_a q_t_home q_t_aim q_t_at v_t_hour v_t_chance v_t_seed), (q_t_ways, .inl (cy 0, 12, .inl v_t_ways)), (q_t_distances, .inl (cy 0, 144, .inl u4))] H := hP
    have hD : va_D A [(q_t, oX5 v_t_places q_t_ways q_t_distances v_t_people q_t_kind q_t_a q_t_home q_t_aim q_t_at v_t_hour v_t_chance v_t_seed), (q_t_ways, .inl (cy 0, 12, .inl v_t_ways)), (q_t_distances, .inl (cy 0, 144, .inl u4))] := hD
    obtain ⟨x6, ex6⟩ : ∃ y : Int32, y = x1 + (1 : Int32) := ⟨_, rfl⟩
    have hf := vlE hf ex6
    refine lv_iinc (v := x6) (lv' := [(1, .int x6), (0, .ref q_t)]) hx hb dX5_measure_13 hl (k := 0) rfl (by rw [ex6]; rfl) (by decide) rfl (fun ls hl => ?_)
    clear ex6
    refine lv_goto (tgt := 2) hx hb dX5_measure_16 (by decide) ?_
    exact L2 x6 u4 _ _ ls ⟨hP, hD, hS, lv_sub hl [0, 1] rfl⟩ hf
def fX5_isFirstOfPart (v_t_distances : Nat → Int32) (p0 : Int32) : Option (Int32) :=
  lo1 (fun g2 (x1 : Int32) =>
    if p0 ≤ x1 then
      some (1 : Int32)
    else
      bo1 (fX5_distance v_t_distances p0 x1) fun r3 =>
      if r3 = (-1 : Int32) then
        vlet (x1 + (1 : Int32)) fun x5 =>
        g2 x5
      else
        some (0 : Int32)) 400 (0 : Int32)
set_option maxHeartbeats 4000000 in
set_option maxRecDepth 100000 in
theorem mX5_isFirstOfPart (l : Launch) (D : va_G) (cy : Nat → ClassId) (q_t q_t_ways q_t_distances q_t_kind q_t_a q_t_home q_t_aim q_t_at : Nat) (v_t_places : Int32) (v_t_people : Int32) (v_t_hour : Int32) (v_t_chance : Int32) (v_t_seed : Int32) (v_t_distances : Nat → Int32) (p0 : Int32) {r_ : Int32} (hf : fX5_isFirstOfPart v_t_distances p0 = some r_) : Met l yX5_isFirstOfPart wsX5_isFirstOfPart ({ frames := 1, cells := 0, slots := 0, locals := 22 }) (va_Pc [.ref q_t, .int p0] (fun U => va_P D vwCl [(q_t, oX5 v_t_places q_t_ways q_t_distances v_t_people q_t_kind q_t_a q_t_home q_t_aim q_t_at v_t_hour v_t_chance v_t_seed), (q_t_distances, .inl (cy 0, 144, .inl v_t_distances))] U.heap ∧ xK D cy U)) (vp_Si (fun x => x = r_)) 0 0 (fun _ => False) := by
  refine Met.ofW (cc := cX5_isFirstOfPart) (maxL := 3) (ret := (some .boolean)) (by decide) rfl ?_
  intro p e s m args below meth c s₁ B hml hv
  obtain ⟨rfl, hP, hK⟩ := hv
  have hx := B.exec
  have hb := B.bytes
  have hr := B.returns
  have hts := atoms_spec (ws := wsX5_isFirstOfPart) B.pre
  have hown : s.vm.findClass RX5 = some m.cls := findClass_of_methodNamed B.named
  have hlocks := B.notSynchronized
  have hP : va_P D vwCl [(q_t, oX5 v_t_places q_t_ways q_t_distances v_t_people q_t_kind q_t_a q_t_home q_t_aim q_t_at v_t_hour v_t_chance v_t_seed), (q_t_distances, .inl (cy 0, 144, .inl v_t_distances))] s.heap := hP
  have hl := lv_entry ([.ref q_t, .int p0]) (n := 3) (Nat.le_of_ble_eq_true rfl)
  rw [lg_entry_eq]
  generalize (lg_sl ([.ref q_t, .int p0]) ++ List.replicate (3 - (lg_sl ([.ref q_t, .int p0])).length) Slot.unset).toArray = ls at hl ⊢
  have hl : lv_has ls 3 [(0, .ref q_t), (1, .int p0)] := hl
  unfold fX5_isFirstOfPart at hf
  refine lv_iconst (v := 0) hx hb dX5_isFirstOfPart_0 (by decide) ?_
  refine lv_istore_n (lv' := [(2, .int (0 : Int32)), (0, .ref q_t), (1, .int p0)]) hx hb dX5_isFirstOfPart_1 rfl hl (by decide) rfl (fun ls hl => ?_)
  refine wlr1 2 (fun _ => []) (fun (x1 : Int32) ls => lv_has ls 3 [(2, .int x1), (0, .ref q_t), (1, .int p0)]) (fun g2 L2 x1 ls hl hf => ?_) 400 (0 : Int32) ls (lv_sub hl [0, 1, 2] rfl) hf
  refine lv_iload_n hx hb dX5_isFirstOfPart_2 rfl (lv_at hl 0 rfl) ?_
  refine lv_iload_n hx hb dX5_isFirstOfPart_3 rfl (lv_at hl 2 rfl) ?_
  refine lv_icmp_ge (tgt := 25) hx hb dX5_isFirstOfPart_4 (by decide) (fun c7 => ?_) (fun c7 => ?_)
  · have hf := ifT hf c7
    clear c7
    refine lv_iconst (v := 1) hx hb dX5_isFirstOfPart_25 (by decide) ?_
    exact W.zret (v := (1 : Int32)) hx hb hr rfl (fun t ht hW => ⟨(1 : Int32), rfl, Option.some.inj hf, ht⟩) (fun q h => nomatch h) dX5_isFirstOfPart_26
  · have hf := ifF hf c7
    clear c7
    refine lv_aload_n hx hb dX5_isFirstOfPart_7 rfl (lv_at hl 1 rfl) ?_
    refine lv_iload_n hx hb dX5_isFirstOfPart_8 rfl (lv_at hl 2 rfl) ?_
    refine lv_iload_n hx hb dX5_isFirstOfPart_9 rfl (lv_at hl 0 rfl) ?_
    obtain ⟨r3, hr4, hf⟩ := boE1 hf
    have hPc := hP.sub (ws' := [(q_t, oX5 v_t_places q_t_ways q_t_distances v_t_people q_t_kind q_t_a q_t_home q_t_aim q_t_at v_t_hour v_t_chance v_t_seed), (q_t_distances, .inl (cy 0, 144, .inl v_t_distances))]) [0, 1] rfl
    refine xcSi (va_runV (As := [.int p0, .int x1]) (rest := []) ⟨hx, hb, hml, hown, hts⟩ (mX5_distance l D cy q_t q_t_ways q_t_distances q_t_kind q_t_a q_t_home q_t_aim q_t_at v_t_places v_t_people v_t_hour v_t_chance v_t_seed v_t_distances  p0 x1 hr4) (cwV 2 hts gX5_isFirstOfPart_X5_distance rfl rfl rfl (by decide +kernel) ⟨Nat.le_of_ble_eq_true rfl, Nat.le_of_ble_eq_true rfl⟩) (xPV hK hPc (ci := 5) (q0 := 0) rfl rfl) rfl rfl hl.1 rfl (lv_room (Nat.le_of_ble_eq_true rfl)) dX5_isFirstOfPart_10 ⟨Nat.le_of_ble_eq_true rfl, Nat.le_of_ble_eq_true rfl⟩) ?_
    refine lv_iconst (v := (-1)) hx hb dX5_isFirstOfPart_13 (by decide) ?_
    refine lv_icmp_eq (tgt := 19) hx hb dX5_isFirstOfPart_14 (by decide) (fun c6 => ?_) (fun c6 => ?_)
    · have hf := ifT hf c6
      clear c6
      obtain ⟨x5, ex5⟩ : ∃ y : Int32, y = x1 + (1 : Int32) := ⟨_, rfl⟩
      have hf := vlE hf ex5
      refine lv_iinc (v := x5) (lv' := [(2, .int x5), (0, .ref q_t), (1, .int p0)]) hx hb dX5_isFirstOfPart_19 hl (k := 0) rfl (by rw [ex5]; rfl) (by decide) rfl (fun ls hl => ?_)
      clear ex5
      refine lv_goto (tgt := 2) hx hb dX5_isFirstOfPart_22 (by decide) ?_
      exact L2 x5 ls (lv_sub hl [0, 1, 2] rfl) hf
    · have hf := ifF hf c6
      clear c6
      refine lv_iconst (v := 0) hx hb dX5_isFirstOfPart_17 (by decide) ?_
      exact W.zret (v := (0 : Int32)) hx hb hr rfl (fun t ht hW => ⟨(0 : Int32), rfl, Option.some.inj hf, ht⟩) (fun q h => nomatch h) dX5_isFirstOfPart_18
def fX5_farTogether (v_t_people : Int32) (v_t_distances : Nat → Int32) (v_t_at : Nat → Int32) (p0 : Int32) : Option (Int32) :=
  lo2 (fun g3 (x1 : Int32) (x2 : Int32) =>
    if v_t_people ≤ x2 then
      some x1
    else
      if x2 < 0 ∨ 8 ≤ x2.toNatClampNeg then none else
      bo1 (fX5_distance v_t_distances p0 (v_t_at x2.toNatClampNeg)) fun r5 =>
      jo1 (fun (y7 : Int32) =>
        vlet (x1 + y7) fun x9 =>
        vlet (x2 + (1 : Int32)) fun x10 =>
        g3 x9 x10) fun k8 =>
      if r5 = (-1 : Int32) then
        k8 (12 : Int32)
      else
        k8 r5) 400 (0 : Int32) (0 : Int32)
set_option maxHeartbeats 4000000 in
set_option maxRecDepth 100000 in
theorem mX5_farTogether (l : Launch) (D : va_G) (cy : Nat → ClassId) (q_t q_t_ways q_t_distances q_t_kind q_t_a q_t_home q_t_aim q_t_at : Nat) (v_t_places : Int32) (v_t_people : Int32) (v_t_hour : Int32) (v_t_chance : Int32) (v_t_seed : Int32) (v_t_distances : Nat → Int32) (v_t_at : Nat → Int32) (p0 : Int32) {r_ : Int32} (hf : fX5_farTogether v_t_people v_t_distances v_t_at p0 = some r_) : Met l yX5_farTogether wsX5_farTogether ({ frames := 1, cells := 0, slots := 0, locals := 22 }) (va_Pc [.ref q_t, .int p0] (fun U => va_P D vwCl [(q_t, oX5 v_t_places q_t_ways q_t_distances v_t_people q_t_kind q_t_a q_t_home q_t_aim q_t_at v_t_hour v_t_chance v_t_seed), (q_t_distances, .inl (cy 0, 144, .inl v_t_distances)), (q_t_at, .inl (cy 0, 8, .inl v_t_at))] U.heap ∧ xK D cy U)) (vp_Si (fun x => x = r_)) 0 0 (fun _ => False) := by
  refine Met.ofW (cc := cX5_farTogether) (maxL := 5) (ret := (some .int)) (by decide) rfl ?_
  intro p e s m args below meth c s₁ B hml hv
  obtain ⟨rfl, hP, hK⟩ := hv
  have hx := B.exec
  have hb := B.bytes
  have hr := B.returns
  have hts := atoms_spec (ws := wsX5_farTogether) B.pre
  have hown : s.vm.findClass RX5 = some m.cls := findClass_of_methodNamed B.named
  have hlocks := B.notSynchronized
  have hP : va_P D vwCl [(q_t, oX5 v_t_places q_t_ways q_t_distances v_t_people q_t_kind q_t_a q_t_home q_t_aim q_t_at v_t_hour v_t_chance v_t_seed), (q_t_distances, .inl (cy 0, 144, .inl v_t_distances)), (q_t_at, .inl (cy 0, 8, .inl v_t_at))] s.heap := hP
  have hinX5 : ∀ w ∈ u_ws RX5 TX5 12, w ∈ wsX5_farTogether := by decide +kernel
  have hk52 := hts (.fieldLink RX5 52 "ShowsWhereNobodyIs$Town" "people" "I") (by decide +kernel)
  have hk34 := hts (.fieldLink RX5 34 "ShowsWhereNobodyIs$Town" "at" "[I") (by decide +kernel)
  have hl := lv_entry ([.ref q_t, .int p0]) (n := 5) (Nat.le_of_ble_eq_true rfl)
  rw [lg_entry_eq]
  generalize (lg_sl ([.ref q_t, .int p0]) ++ List.replicate (5 - (lg_sl ([.ref q_t, .int p0])).length) Slot.unset).toArray = ls at hl ⊢
  have hl : lv_has ls 5 [(0, .ref q_t), (1, .int p0)] := hl
  unfold fX5_farTogether at hf
  refine lv_iconst (v := 0) hx hb dX5_farTogether_0 (by decide) ?_
  refine lv_istore_n (lv' := [(2, .int (0 : Int32)), (0, .ref q_t), (1, .int p0)]) hx hb dX5_farTogether_1 rfl hl (by decide) rfl (fun ls hl => ?_)
  refine lv_iconst (v := 0) hx hb dX5_farTogether_2 (by decide) ?_
  refine lv_istore_n (lv' := [(3, .int (0 : Int32)), (2, .int (0 : Int32)), (0, .ref q_t), (1, .int p0)]) hx hb dX5_farTogether_3 rfl hl (by decide) rfl (fun ls hl => ?_)
  refine wlr2 4 (fun _ _ => []) (fun (x1 : Int32) (x2 : Int32) ls => lv_has ls 5 [(2, .int x1), (3, .int x2), (0, .ref q_t), (1, .int p0)]) (fun g3 L4 x1 x2 ls hl hf => ?_) 400 (0 : Int32) (0 : Int32) ls (lv_sub hl [1, 0, 2, 3] rfl) hf
  refine lv_iload_n hx hb dX5_farTogether_4 rfl (lv_at hl 1 rfl) ?_
  refine lv_aload_n hx hb dX5_farTogether_5 rfl (lv_at hl 2 rfl) ?_
  refine va_get (D := D) (ci := 5) (v := .int v_t_people) (C := RX5) (T := TX5) (N := 12) hx hb hts hinX5 hown hK.1 hP 0 rfl rfl 3 (by decide) hk52 (fun _ h9 => h9) rfl dX5_farTogether_6 ?_
  refine lv_icmp_ge (tgt := 47) hx hb dX5_farTogether_9 (by decide) (fun c12 => ?_) (fun c12 => ?_)
  · have hf := ifT hf c12
    clear c12
    refine lv_iload_n hx hb dX5_farTogether_47 rfl (lv_at hl 0 rfl) ?_
    exact W.iret (v := x1) hx hb hr (fun t ht hW => ⟨x1, rfl, Option.some.inj hf, ht⟩) (fun q h => nomatch h) dX5_farTogether_48
  · have hf := ifF hf c12
    clear c12
    refine lv_aload_n hx hb dX5_farTogether_12 rfl (lv_at hl 2 rfl) ?_
    refine lv_iload_n hx hb dX5_farTogether_13 rfl (lv_at hl 3 rfl) ?_
    refine lv_aload_n hx hb dX5_farTogether_14 rfl (lv_at hl 2 rfl) ?_
    refine va_get (D := D) (ci := 5) (v := .ref q_t_at) (C := RX5) (T := TX5) (N := 12) hx hb hts hinX5 hown hK.1 hP 0 rfl rfl 8 (by decide) hk34 (fun _ h9 => h9) rfl dX5_farTogether_15 ?_
    refine lv_iload_n hx hb dX5_farTogether_18 rfl (lv_at hl 1 rfl) ?_
    obtain ⟨hi4, hf⟩ := ckE hf
    refine va_iald hx hb hK.1 hP 2 0 rfl rfl hi4 dX5_farTogether_19 ?_
    obtain ⟨r5, hr6, hf⟩ := boE1 hf
    have hPc := hP.sub (ws' := [(q_t, oX5 v_t_places q_t_ways q_t_distances v_t_people q_t_kind q_t_a q_t_home q_t_aim q_t_at v_t_hour v_t_chance v_t_seed), (q_t_distances, .inl (cy 0, 144, .inl v_t_distances))]) [0, 1] rfl
    refine xcSi (va_runV (As := [.int p0, .int (v_t_at x2.toNatClampNeg)]) (rest := []) ⟨hx, hb, hml, hown, hts⟩ (mX5_distance l D cy q_t q_t_ways q_t_distances q_t_kind q_t_a q_t_home q_t_aim q_t_at v_t_places v_t_people v_t_hour v_t_chance v_t_seed v_t_distances  p0 (v_t_at x2.toNatClampNeg) hr6) (cwV 2 hts gX5_farTogether_X5_distance rfl rfl rfl (by decide +kernel) ⟨Nat.le_of_ble_eq_true rfl, Nat.le_of_ble_eq_true rfl⟩) (xPV hK hPc (ci := 5) (q0 := 0) rfl rfl) rfl rfl hl.1 rfl (lv_room (Nat.le_of_ble_eq_true rfl)) dX5_farTogether_20 ⟨Nat.le_of_ble_eq_true rfl, Nat.le_of_ble_eq_true rfl⟩) ?_
    refine lv_istore (lv' := [(4, .int r5), (2, .int x1), (3, .int x2), (0, .ref q_t), (1, .int p0)]) hx hb dX5_farTogether_23 hl (by decide) rfl (fun ls hl => ?_)
    refine lv_iload_n hx hb dX5_farTogether_25 rfl (lv_at hl 1 rfl) ?_
    refine lv_iload hx hb dX5_farTogether_26 (lv_at hl 0 rfl) ?_
    refine lv_iconst (v := (-1)) hx hb dX5_farTogether_28 (by decide) ?_
    refine jwr1 39 (fun (y7 : Int32) => [.int y7, .int x1]) (fun (y7 : Int32) ls => lv_has ls 5 [(0, .ref q_t), (1, .int p0), (3, .int x2)]) hf (fun y7 ls hl hf => ?_) (fun k8 J39 hf => ?_)
    · refine lv_iadd hx hb dX5_farTogether_39 ?_
      refine lv_topi (fun x9 ex9 => ?_)
      have hf := vlE hf ex9
      clear ex9
      refine lv_istore_n (lv' := [(2, .int x9), (0, .ref q_t), (1, .int p0), (3, .int x2)]) hx hb dX5_farTogether_40 rfl hl (by decide) rfl (fun ls hl => ?_)
      obtain ⟨x10, ex10⟩ : ∃ y : Int32, y = x2 + (1 : Int32) := ⟨_, rfl⟩
      have hf := vlE hf ex10
      refine lv_iinc (v := x10) (lv' := [(3, .int x10), (2, .int x9), (0, .ref q_t), (1, .int p0)]) hx hb dX5_farTogether_41 hl (k := 3) rfl (by rw [ex10]; rfl) (by decide) rfl (fun ls hl => ?_)
      clear ex10
      refine lv_goto (tgt := 4) hx hb dX5_farTogether_44 (by decide) ?_
      exact L4 x9 x10 ls (lv_sub hl [1, 0, 2, 3] rfl) hf
    · refine lv_icmp_ne (tgt := 37) hx hb dX5_farTogether_29 (by decide) (fun c11 => ?_) (fun c11 => ?_)
      · have hf := ifF hf c11
        clear c11
        refine lv_iload hx hb dX5_farTogether_37 (lv_at hl 0 rfl) ?_
        exact J39 r5 ls (lv_sub hl [3, 4, 2] rfl) hf
      · have hf := ifT hf c11
        clear c11
        refine lv_bipush (v := 12) hx hb dX5_farTogether_32 (by decide) ?_
        refine lv_goto (tgt := 39) hx hb dX5_farTogether_34 (by decide) ?_
        exact J39 (12 : Int32) ls (lv_sub hl [3, 4, 2] rfl) hf
def fX5_addPerson (v_t_people : Int32) (v_t_kind : Nat → Int32) (v_t_a : Nat → Int32) (v_t_home : Nat → Int32) (v_t_aim : Nat → Int32) (v_t_at : Nat → Int32) (p0 : Int32) (p1 : Int32) (p2 : Int32) (p3 : Int32) : Option (Int32 × Int32 × (Nat → Int32) × (Nat → Int32) × (Nat → Int32) × (Nat → Int32) × (Nat → Int32)) :=
  if v_t_people < (8 : Int32) then
    if v_t_people < 0 ∨ 8 ≤ v_t_people.toNatClampNeg then none else
    if v_t_people < 0 ∨ 8 ≤ v_t_people.toNatClampNeg then none else
    if v_t_people < 0 ∨ 8 ≤ v_t_people.toNatClampNeg then none else
    if v_t_people < 0 ∨ 8 ≤ v_t_people.toNatClampNeg then none else
    if v_t_people < 0 ∨ 8 ≤ v_t_people.toNatClampNeg then none else
    some (v_t_people, v_t_people + (1 : Int32), upd v_t_kind v_t_people.toNatClampNeg p0, upd v_t_a v_t_people.toNatClampNeg p1, upd v_t_home v_t_people.toNatClampNeg p2, upd v_t_aim v_t_people.toNatClampNeg p3, upd v_t_at v_t_people.toNatClampNeg p2)
  else
    some ((-6 : Int32), v_t_people, v_t_kind, v_t_a, v_t_home, v_t_aim, v_t_at)
set_option maxHeartbeats 4000000 in
set_option maxRecDepth 100000 in
theorem mX5_addPerson (l : Launch) (D : va_G) (cy : Nat → ClassId) (q_t q_t_ways q_t_distances q_t_kind q_t_a q_t_home q_t_aim q_t_at : Nat) (v_t_places : Int32) (v_t_people : Int32) (v_t_hour : Int32) (v_t_chance : Int32) (v_t_seed : Int32) (v_t_kind : Nat → Int32) (v_t_a : Nat → Int32) (v_t_home : Nat → Int32) (v_t_aim : Nat → Int32) (v_t_at : Nat → Int32) (sz : Nat) (p0 : Int32) (p1 : Int32) (p2 : Int32) (p3 : Int32) {r_ : Int32} {n_t_people : Int32} {n_t_kind : Nat → Int32} {n_t_a : Nat → Int32} {n_t_home : Nat → Int32} {n_t_aim : Nat → Int32} {n_t_at : Nat → Int32} (hf : fX5_addPerson v_t_people v_t_kind v_t_a v_t_home v_t_aim v_t_at p0 p1 p2 p3 = some (r_, n_t_people, n_t_kind, n_t_a, n_t_home, n_t_aim, n_t_at)) : Met l yX5_addPerson wsX5_addPerson ({ frames := 0, cells := 0, slots := 0, locals := 0 }) (va_Pc [.ref q_t, .int p0, .int p1, .int p2, .int p3] (fun U => U.heap.size = sz ∧ va_P D vwCl [(q_t, oX5 v_t_places q_t_ways q_t_distances v_t_people q_t_kind q_t_a q_t_home q_t_aim q_t_at v_t_hour v_t_chance v_t_seed), (q_t_kind, .inl (cy 0, 8, .inl v_t_kind)), (q_t_a, .inl (cy 0, 8, .inl v_t_a)), (q_t_home, .inl (cy 0, 8, .inl v_t_home)), (q_t_aim, .inl (cy 0, 8, .inl v_t_aim)), (q_t_at, .inl (cy 0, 8, .inl v_t_at))] U.heap ∧ xK D cy U ∧ va_D (fun _ => True) [(q_t, oX5 v_t_places q_t_ways q_t_distances v_t_people q_t_kind q_t_a q_t_home q_t_aim q_t_at v_t_hour v_t_chance v_t_seed), (q_t_kind, .inl (cy 0, 8, .inl v_t_kind)), (q_t_a, .inl (cy 0, 8, .inl v_t_a)), (q_t_home, .inl (cy 0, 8, .inl v_t_home)), (q_t_aim, .inl (cy 0, 8, .inl v_t_aim)), (q_t_at, .inl (cy 0, 8, .inl v_t_at))])) (va_Qi (fun (x : Int32) (_ : Unit) => x = r_) (fun _ t => va_P D vwCl [(q_t, oX5 v_t_places q_t_ways q_t_distances n_t_people q_t_kind q_t_a q_t_home q_t_aim q_t_at v_t_hour v_t_chance v_t_seed), (q_t_kind, .inl (cy 0, 8, .inl n_t_kind)), (q_t_a, .inl (cy 0, 8, .inl n_t_a)), (q_t_home, .inl (cy 0, 8, .inl n_t_home)), (q_t_aim, .inl (cy 0, 8, .inl n_t_aim)), (q_t_at, .inl (cy 0, 8, .inl n_t_at))] t.heap) (va_A [(q_t, oX5 v_t_places q_t_ways q_t_distances v_t_people q_t_kind q_t_a q_t_home q_t_aim q_t_at v_t_hour v_t_chance v_t_seed), (q_t_kind, .inl (cy 0, 8, .inl v_t_kind)), (q_t_a, .inl (cy 0, 8, .inl v_t_a)), (q_t_home, .inl (cy 0, 8, .inl v_t_home)), (q_t_aim, .inl (cy 0, 8, .inl v_t_aim)), (q_t_at, .inl (cy 0, 8, .inl v_t_at))] sz)) 0 0 (va_A [(q_t, oX5 v_t_places q_t_ways q_t_distances v_t_people q_t_kind q_t_a q_t_home q_t_aim q_t_at v_t_hour v_t_chance v_t_seed), (q_t_kind, .inl (cy 0, 8, .inl v_t_kind)), (q_t_a, .inl (cy 0, 8, .inl v_t_a)), (q_t_home, .inl (cy 0, 8, .inl v_t_home)), (q_t_aim, .inl (cy 0, 8, .inl v_t_aim)), (q_t_at, .inl (cy 0, 8, .inl v_t_at))] sz) := by
  refine Met.ofW (cc := cX5_addPerson) (maxL := 6) (ret := (some .int)) (by decide) rfl ?_
  intro p e s m args below meth c s₁ B hml hv
  obtain ⟨rfl, hsz, hP, hK, hD0⟩ := hv
  have hx := B.exec
  have hb := B.bytes
  have hr := B.returns
  have hts := atoms_spec (ws := wsX5_addPerson) B.pre
  have hown : s.vm.findClass RX5 = some m.cls := findClass_of_methodNamed B.named
  have hlocks := B.notSynchronized
  subst hsz
  have hD := hD0.self (sz := s.heap.size)
  generalize hAe : va_A [(q_t, oX5 v_t_places q_t_ways q_t_distances v_t_people q_t_kind q_t_a q_t_home q_t_aim q_t_at v_t_hour v_t_chance v_t_seed), (q_t_kind, .inl (cy 0, 8, .inl v_t_kind)), (q_t_a, .inl (cy 0, 8, .inl v_t_a)), (q_t_home, .inl (cy 0, 8, .inl v_t_home)), (q_t_aim, .inl (cy 0, 8, .inl v_t_aim)), (q_t_at, .inl (cy 0, 8, .inl v_t_at))] s.heap.size = A at hD ⊢
  have hA : ∀ q : Nat, s.heap.size ≤ q → A q := fun q h => by rw [← hAe]; exact Or.inr h
  have hS : va_S A s.heap s.heap [] := va_S.rf
  have hP : va_P D vwCl [(q_t, oX5 v_t_places q_t_ways q_t_distances v_t_people q_t_kind q_t_a q_t_home q_t_aim q_t_at v_t_hour v_t_chance v_t_seed), (q_t_kind, .inl (cy 0, 8, .inl v_t_kind)), (q_t_a, .inl (cy 0, 8, .inl v_t_a)), (q_t_home, .inl (cy 0, 8, .inl v_t_home)), (q_t_aim, .inl (cy 0, 8, .inl v_t_aim)), (q_t_at, .inl (cy 0, 8, .inl v_t_at))] s.heap := hP
  have hinX5 : ∀ w ∈ u_ws RX5 TX5 12, w ∈ wsX5_addPerson := by decide +kernel
  have hk52 := hts (.fieldLink RX5 52 "ShowsWhereNobodyIs$Town" "people" "I") (by decide +kernel)
  have hk22 := hts (.fieldLink RX5 22 "ShowsWhereNobodyIs$Town" "kind" "[I") (by decide +kernel)
  have hk25 := hts (.fieldLink RX5 25 "ShowsWhereNobodyIs$Town" "a" "[I") (by decide +kernel)
  have hk28 := hts (.fieldLink RX5 28 "ShowsWhereNobodyIs$Town" "home" "[I") (by decide +kernel)
  have hk31 := hts (.fieldLink RX5 31 "ShowsWhereNobodyIs$Town" "aim" "[I") (by decide +kernel)
  have hk34 := hts (.fieldLink RX5 34 "ShowsWhereNobodyIs$Town" "at" "[I") (by decide +kernel)
  have hl := lv_entry ([.ref q_t, .int p0, .int p1, .int p2, .int p3]) (n := 6) (Nat.le_of_ble_eq_true rfl)
  rw [lg_entry_eq]
  generalize (lg_sl ([.ref q_t, .int p0, .int p1, .int p2, .int p3]) ++ List.replicate (6 - (lg_sl ([.ref q_t, .int p0, .int p1, .int p2, .int p3])).length) Slot.unset).toArray = ls at hl ⊢
  have hl : lv_has ls 6 [(0, .ref q_t), (1, .int p0), (2, .int p1), (3, .int p2), (4, .int p3)] := hl
  unfold fX5_addPerson at hf
  refine lv_aload_n hx hb dX5_addPerson_0 rfl (lv_at hl 0 rfl) ?_
  refine va_get (D := D) (ci := 5) (v := .int v_t_people) (C := RX5) (T := TX5) (N := 12) hx hb hts hinX5 hown hK.1 hP 0 rfl rfl 3 (by decide) hk52 (fun _ h9 => h9) rfl dX5_addPerson_1 ?_
  refine lv_istore (lv' := [(5, .int v_t_people), (0, .ref q_t), (1, .int p0), (2, .int p1), (3, .int p2), (4, .int p3)]) hx hb dX5_addPerson_4 hl (by decide) rfl (fun ls hl => ?_)
  refine lv_iload hx hb dX5_addPerson_6 (lv_at hl 0 rfl) ?_
  refine lv_bipush (v := 8) hx hb dX5_addPerson_8 (by decide) ?_
  refine lv_icmp_lt (tgt := 16) hx hb dX5_addPerson_10 (by decide) (fun c6 => ?_) (fun c6 => ?_)
  · have hf := ifT hf c6
    clear c6
    refine lv_aload_n hx hb dX5_addPerson_16 rfl (lv_at hl 1 rfl) ?_
    refine va_get (D := D) (ci := 5) (v := .ref q_t_kind) (C := RX5) (T := TX5) (N := 12) hx hb hts hinX5 hown hK.1 hP 0 rfl rfl 4 (by decide) hk22 (fun _ h9 => h9) rfl dX5_addPerson_17 ?_
    refine lv_iload hx hb dX5_addPerson_20 (lv_at hl 0 rfl) ?_
    refine lv_iload_n hx hb dX5_addPerson_22 rfl (lv_at hl 2 rfl) ?_
    obtain ⟨hi1, hf⟩ := ckE hf
    refine va_iast hx hb hK.1 hP hD hS 1 0 rfl rfl hi1 dX5_addPerson_23 (fun H locs hP hD hS => ?_)
    have hP : va_P D vwCl [(q_t, oX5 v_t_places q_t_ways q_t_distances v_t_people q_t_kind q_t_a q_t_home q_t_aim q_t_at v_t_hour v_t_chance v_t_seed), (q_t_kind, .inl (cy 0, 8, .inl (upd v_t_kind v_t_people.toNatClampNeg p0))), (q_t_a, .inl (cy 0, 8, .inl v_t_a)), (q_t_home, .inl (cy 0, 8, .inl v_t_home)), (q_t_aim, .inl (cy 0, 8, .inl v_t_aim)), (q_t_at, .inl (cy 0, 8, .inl v_t_at))] H := hP
    have hD : va_D A [(q_t, oX5 v_t_places q_t_ways q_t_distances v_t_people q_t_kind q_t_a q_t_home q_t_aim q_t_at v_t_hour v_t_chance v_t_seed), (q_t_kind, .inl (cy 0, 8, .inl (upd v_t_kind v_t_people.toNatClampNeg p0))), (q_t_a, .inl (cy 0, 8, .inl v_t_a)), (q_t_home, .inl (cy 0, 8, .inl v_t_home)), (q_t_aim, .inl (cy 0, 8, .inl v_t_aim)), (q_t_at, .inl (cy 0, 8, .inl v_t_at))] := hD
    refine lv_aload_n hx hb dX5_addPerson_24 rfl (lv_at hl 1 rfl) ?_
    refine va_get (D := D) (ci := 5) (v := .ref q_t_a) (C := RX5) (T := TX5) (N := 12) hx hb hts hinX5 hown hK.1 hP 0 rfl rfl 5 (by decide) hk25 (fun _ h9 => h9) rfl dX5_addPerson_25 ?_
    refine lv_iload hx hb dX5_addPerson_28 (lv_at hl 0 rfl) ?_
    refine lv_iload_n hx hb dX5_addPerson_30 rfl (lv_at hl 3 rfl) ?_
    obtain ⟨hi2, hf⟩ := ckE hf
    refine va_iast hx hb hK.1 hP hD hS 2 0 rfl rfl hi2 dX5_addPerson_31 (fun H locs hP hD hS => ?_)
    have hP : va_P D vwCl [(q_t, oX5 v_t_places q_t_ways q_t_distances v_t_people q_t_kind q_t_a q_t_home q_t_aim q_t_at v_t_hour v_t_chance v_t_seed), (q_t_kind, .inl (cy 0, 8, .inl (upd v_t_kind v_t_people.toNatClampNeg p0))), (q_t_a, .inl (cy 0, 8, .inl (upd v_t_a v_t_people.toNatClampNeg p1))), (q_t_home, .inl (cy 0, 8, .inl v_t_home)), (q_t_aim, .inl (cy 0, 8, .inl v_t_aim)), (q_t_at, .inl (cy 0, 8, .inl v_t_at))] H := hP
    have hD : va_D A [(q_t, oX5 v_t_places q_t_ways q_t_distances v_t_people q_t_kind q_t_a q_t_home q_t_aim q_t_at v_t_hour v_t_chance v_t_seed), (q_t_kind, .inl (cy 0, 8, .inl (upd v_t_kind v_t_people.toNatClampNeg p0))), (q_t_a, .inl (cy 0, 8, .inl (upd v_t_a v_t_people.toNatClampNeg p1))), (q_t_home, .inl (cy 0, 8, .inl v_t_home)), (q_t_aim, .inl (cy 0, 8, .inl v_t_aim)), (q_t_at, .inl (cy 0, 8, .inl v_t_at))] := hD
    refine lv_aload_n hx hb dX5_addPerson_32 rfl (lv_at hl 1 rfl) ?_
    refine va_get (D := D) (ci := 5) (v := .ref q_t_home) (C := RX5) (T := TX5) (N := 12) hx hb hts hinX5 hown hK.1 hP 0 rfl rfl 6 (by decide) hk28 (fun _ h9 => h9) rfl dX5_addPerson_33 ?_
    refine lv_iload hx hb dX5_addPerson_36 (lv_at hl 0 rfl) ?_
    refine lv_iload_n hx hb dX5_addPerson_38 rfl (lv_at hl 4 rfl) ?_
    obtain ⟨hi3, hf⟩ := ckE hf
    refine va_iast hx hb hK.1 hP hD hS 3 0 rfl rfl hi3 dX5_addPerson_39 (fun H locs hP hD hS => ?_)
    have hP : va_P D vwCl [(q_t, oX5 v_t_places q_t_ways q_t_distances v_t_people q_t_kind q_t_a q_t_home q_t_aim q_t_at v_t_hour v_t_chance v_t_seed), (q_t_kind, .inl (cy 0, 8, .inl (upd v_t_kind v_t_people.toNatClampNeg p0))), (q_t_a, .inl (cy 0, 8, .inl (upd v_t_a v_t_people.toNatClampNeg p1))), (q_t_home, .inl (cy 0, 8, .inl (upd v_t_home v_t_people.toNatClampNeg p2))), (q_t_aim, .inl (cy 0, 8, .inl v_t_aim)), (q_t_at, .inl (cy 0, 8, .inl v_t_at))] H := hP
    have hD : va_D A [(q_t, oX5 v_t_places q_t_ways q_t_distances v_t_people q_t_kind q_t_a q_t_home q_t_aim q_t_at v_t_hour v_t_chance v_t_seed), (q_t_kind, .inl (cy 0, 8, .inl (upd v_t_kind v_t_people.toNatClampNeg p0))), (q_t_a, .inl (cy 0, 8, .inl (upd v_t_a v_t_people.toNatClampNeg p1))), (q_t_home, .inl (cy 0, 8, .inl (upd v_t_home v_t_people.toNatClampNeg p2))), (q_t_aim, .inl (cy 0, 8, .inl v_t_aim)), (q_t_at, .inl (cy 0, 8, .inl v_t_at))] := hD
    refine lv_aload_n hx hb dX5_addPerson_40 rfl (lv_at hl 1 rfl) ?_
    refine va_get (D := D) (ci := 5) (v := .ref q_t_aim) (C := RX5) (T := TX5) (N := 12) hx hb hts hinX5 hown hK.1 hP 0 rfl rfl 7 (by decide) hk31 (fun _ h9 => h9) rfl dX5_addPerson_41 ?_
    refine lv_iload hx hb dX5_addPerson_44 (lv_at hl 0 rfl) ?_
    refine lv_iload hx hb dX5_addPerson_46 (lv_at hl 5 rfl) ?_
    obtain ⟨hi4, hf⟩ := ckE hf
    refine va_iast hx hb hK.1 hP hD hS 4 0 rfl rfl hi4 dX5_addPerson_48 (fun H locs hP hD hS => ?_)
    have hP : va_P D vwCl [(q_t, oX5 v_t_places q_t_ways q_t_distances v_t_people q_t_kind q_t_a q_t_home q_t_aim q_t_at v_t_hour v_t_chance v_t_seed), (q_t_kind, .inl (cy 0, 8, .inl (upd v_t_kind v_t_people.toNatClampNeg p0))), (q_t_a, .inl (cy 0, 8, .inl (upd v_t_a v_t_people.toNatClampNeg p1))), (q_t_home, .inl (cy 0, 8, .inl (upd v_t_home v_t_people.toNatClampNeg p2))), (q_t_aim, .inl (cy 0, 8, .inl (upd v_t_aim v_t_people.toNatClampNeg p3))), (q_t_at, .inl (cy 0, 8, .inl v_t_at))] H := hP
    have hD : va_D A [(q_t, oX5 v_t_places q_t_ways q_t_distances v_t_people q_t_kind q_t_a q_t_home q_t_aim q_t_at v_t_hour v_t_chance v_t_seed), (q_t_kind, .inl (cy 0, 8, .inl (upd v_t_kind v_t_people.toNatClampNeg p0))), (q_t_a, .inl (cy 0, 8, .inl (upd v_t_a v_t_people.toNatClampNeg p1))), (q_t_home, .inl (cy 0, 8, .inl (upd v_t_home v_t_people.toNatClampNeg p2))), (q_t_aim, .inl (cy 0, 8, .inl (upd v_t_aim v_t_people.toNatClampNeg p3))), (q_t_at, .inl (cy 0, 8, .inl v_t_at))] := hD
    refine lv_aload_n hx hb dX5_addPerson_49 rfl (lv_at hl 1 rfl) ?_
    refine va_get (D := D) (ci := 5) (v := .ref q_t_at) (C := RX5) (T := TX5) (N := 12) hx hb hts hinX5 hown hK.1 hP 0 rfl rfl 8 (by decide) hk34 (fun _ h9 => h9) rfl dX5_addPerson_50 ?_
    refine lv_iload hx hb dX5_addPerson_53 (lv_at hl 0 rfl) ?_
    refine lv_iload_n hx hb dX5_addPerson_55 rfl (lv_at hl 4 rfl) ?_
    obtain ⟨hi5, hf⟩ := ckE hf
    refine va_iast hx hb hK.1 hP hD hS 5 0 rfl rfl hi5 dX5_addPerson_56 (fun H locs hP hD hS => ?_)
    have hP : va_P D vwCl [(q_t, oX5 v_t_places q_t_ways q_t_distances v_t_people q_t_kind q_t_a q_t_home q_t_aim q_t_at v_t_hour v_t_chance v_t_seed), (q_t_kind, .inl (cy 0, 8, .inl (upd v_t_kind v_t_people.toNatClampNeg p0))), (q_t_a, .inl (cy 0, 8, .inl (upd v_t_a v_t_people.toNatClampNeg p1))), (q_t_home, .inl (cy 0, 8, .inl (upd v_t_home v_t_people.toNatClampNeg p2))), (q_t_aim, .inl (cy 0, 8, .inl (upd v_t_aim v_t_people.toNatClampNeg p3))), (q_t_at, .inl (cy 0, 8, .inl (upd v_t_at v_t_people.toNatClampNeg p2)))] H := hP
    have hD : va_D A [(q_t, oX5 v_t_places q_t_ways q_t_distances v_t_people q_t_kind q_t_a q_t_home q_t_aim q_t_at v_t_hour v_t_chance v_t_seed), (q_t_kind, .inl (cy 0, 8, .inl (upd v_t_kind v_t_people.toNatClampNeg p0))), (q_t_a, .inl (cy 0, 8, .inl (upd v_t_a v_t_people.toNatClampNeg p1))), (q_t_home, .inl (cy 0, 8, .inl (upd v_t_home v_t_people.toNatClampNeg p2))), (q_t_aim, .inl (cy 0, 8, .inl (upd v_t_aim v_t_people.toNatClampNeg p3))), (q_t_at, .inl (cy 0, 8, .inl (upd v_t_at v_t_people.toNatClampNeg p2)))] := hD
    refine lv_aload_n hx hb dX5_addPerson_57 rfl (lv_at hl 1 rfl) ?_
    refine lv_dup hx hb dX5_addPerson_58 rfl ?_
    refine va_get (D := D) (ci := 5) (v := .int v_t_people) (C := RX5) (T := TX5) (N := 12) hx hb hts hinX5 hown hK.1 hP 0 rfl rfl 3 (by decide) hk52 (fun _ h9 => h9) rfl dX5_addPerson_59 ?_
    refine lv_iconst (v := 1) hx hb dX5_addPerson_62 (by decide) ?_
    refine lv_iadd hx hb dX5_addPerson_63 ?_
    refine va_put (D := D) (ci := 5) (v := .int (v_t_people + (1 : Int32))) (ty := .int) (C := RX5) (T := TX5) (N := 12) hx hb hts hinX5 tyX5 tyX5_ok nmX5 hown hK.1 hP hD hS 0 rfl rfl 3 (by decide) hk52 (fun _ h9 => h9) rfl (by decide +kernel) rfl rfl (Nat.le_of_ble_eq_true rfl) dX5_addPerson_64 (fun H locs hP hD hS => ?_)
    have hP : va_P D vwCl [(q_t, oX5 v_t_places q_t_ways q_t_distances (v_t_people + (1 : Int32)) q_t_kind q_t_a q_t_home q_t_aim q_t_at v_t_hour v_t_chance v_t_seed), (q_t_kind, .inl (cy 0, 8, .inl (upd v_t_kind v_t_people.toNatClampNeg p0))), (q_t_a, .inl (cy 0, 8, .inl (upd v_t_a v_t_people.toNatClampNeg p1))), (q_t_home, .inl (cy 0, 8, .inl (upd v_t_home v_t_people.toNatClampNeg p2))), (q_t_aim, .inl (cy 0, 8, .inl (upd v_t_aim v_t_people.toNatClampNeg p3))), (q_t_at, .inl (cy 0, 8, .inl (upd v_t_at v_t_people.toNatClampNeg p2)))] H := hP
    have hD : va_D A [(q_t, oX5 v_t_places q_t_ways q_t_distances (v_t_people + (1 : Int32)) q_t_kind q_t_a q_t_home q_t_aim q_t_at v_t_hour v_t_chance v_t_seed), (q_t_kind, .inl (cy 0, 8, .inl (upd v_t_kind v_t_people.toNatClampNeg p0))), (q_t_a, .inl (cy 0, 8, .inl (upd v_t_a v_t_people.toNatClampNeg p1))), (q_t_home, .inl (cy 0, 8, .inl (upd v_t_home v_t_people.toNatClampNeg p2))), (q_t_aim, .inl (cy 0, 8, .inl (upd v_t_aim v_t_people.toNatClampNeg p3))), (q_t_at, .inl (cy 0, 8, .inl (upd v_t_at v_t_people.toNatClampNeg p2)))] := hD
    refine lv_iload hx hb dX5_addPerson_67 (lv_at hl 0 rfl) ?_
    cases hf
    exact W.iret hx hb hr (fun t ht hW => ⟨⟨_, (), rfl, rfl, xend ht hP⟩, hS.F ht⟩) hS.2.2 dX5_addPerson_69
  · have hf := ifF hf c6
    clear c6
    refine lv_bipush (v := (-6)) hx hb dX5_addPerson_13 (by decide) ?_
    cases hf
    exact W.iret (v := (-6 : Int32)) hx hb hr (fun t ht hW => ⟨⟨(-6 : Int32), (), rfl, rfl, xend ht hP⟩, hS.F ht⟩) hS.2.2 dX5_addPerson_15
