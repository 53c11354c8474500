def fX7_isShelf (p0 : Int32) : Option (Int32) :=
  if p0 < 0 then
    some (0 : Int32)
  else
    if (8 : Int32) ≤ p0 then
      some (0 : Int32)
    else
      some (1 : Int32)
set_option maxHeartbeats 4000000 in
set_option maxRecDepth 100000 in
theorem mX7_isShelf (l : Launch) (D : va_G) (cy : Nat → ClassId) (p0 : Int32) {r_ : Int32} (hf : fX7_isShelf p0 = some r_) : Met l yX7_isShelf wsX7_isShelf ({ frames := 0, cells := 0, slots := 0, locals := 0 }) (va_Pc [.int p0] (fun U => va_P D vwCl [] U.heap ∧ xK D cy U)) (vp_Si (fun x => x = r_)) 0 0 (fun _ => False) := by
  refine Met.ofW (cc := cX7_isShelf) (maxL := 1) (ret := (some .boolean)) (by decide) rfl ?_
  intro p e s m args below meth c s₁ B hml hv
  obtain ⟨rfl, hP, hK⟩ := hv
  have hx := B.exec
  have hb := B.bytes
  have hr := B.returns
  have hts := atoms_spec (ws := wsX7_isShelf) B.pre
  have hown : s.vm.findClass RX7 = some m.cls := findClass_of_methodNamed B.named
  have hlocks := B.notSynchronized
  have hP : va_P D vwCl [] s.heap := hP
  have hl := lv_entry ([.int p0]) (n := 1) (Nat.le_of_ble_eq_true rfl)
  rw [lg_entry_eq]
  generalize (lg_sl ([.int p0]) ++ List.replicate (1 - (lg_sl ([.int p0])).length) Slot.unset).toArray = ls at hl ⊢
  have hl : lv_has ls 1 [(0, .int p0)] := hl
  unfold fX7_isShelf at hf
  refine lv_iload_n hx hb dX7_isShelf_0 rfl (lv_at hl 0 rfl) ?_
  refine lv_if_lt (tgt := 14) hx hb dX7_isShelf_1 (by decide) (fun c2 => ?_) (fun c2 => ?_)
  · have hf := ifT hf c2
    clear c2
    refine lv_iconst (v := 0) hx hb dX7_isShelf_14 (by decide) ?_
    exact W.zret (v := (0 : Int32)) hx hb hr rfl (fun t ht hW => ⟨(0 : Int32), rfl, Option.some.inj hf, ht⟩) (fun q h => nomatch h) dX7_isShelf_15
  · have hf := ifF hf c2
    clear c2
    refine lv_iload_n hx hb dX7_isShelf_4 rfl (lv_at hl 0 rfl) ?_
    refine lv_bipush (v := 8) hx hb dX7_isShelf_5 (by decide) ?_
    refine lv_icmp_ge (tgt := 14) hx hb dX7_isShelf_7 (by decide) (fun c1 => ?_) (fun c1 => ?_)
    · have hf := ifT hf c1
      clear c1
      refine lv_iconst (v := 0) hx hb dX7_isShelf_14 (by decide) ?_
      exact W.zret (v := (0 : Int32)) hx hb hr rfl (fun t ht hW => ⟨(0 : Int32), rfl, Option.some.inj hf, ht⟩) (fun q h => nomatch h) dX7_isShelf_15
    · have hf := ifF hf c1
      clear c1
      refine lv_iconst (v := 1) hx hb dX7_isShelf_10 (by decide) ?_
      refine lv_goto (tgt := 15) hx hb dX7_isShelf_11 (by decide) ?_
      exact W.zret (v := (1 : Int32)) hx hb hr rfl (fun t ht hW => ⟨(1 : Int32), rfl, Option.some.inj hf, ht⟩) (fun q h => nomatch h) dX7_isShelf_15
def fX7_refuse (v_t_refusals : Nat → Int32) (p0 : Int32) : Option (Int32 × (Nat → Int32)) :=
  vlet ((-2 : Int32) - p0) fun x1 =>
  if x1 < 0 then
    some (p0, v_t_refusals)
  else
    if (5 : Int32) ≤ x1 then
      some (p0, v_t_refusals)
    else
      if x1 < 0 ∨ 5 ≤ x1.toNatClampNeg then none else
      if x1 < 0 ∨ 5 ≤ x1.toNatClampNeg then none else
      some (p0, upd v_t_refusals x1.toNatClampNeg ((v_t_refusals x1.toNatClampNeg) + (1 : Int32)))
set_option maxHeartbeats 4000000 in
set_option maxRecDepth 100000 in
theorem mX7_refuse (l : Launch) (D : va_G) (cy : Nat → ClassId) (q_t q_t_now q_t_future q_t_draft q_t_kept q_t_shelves q_t_tape q_t_reader q_t_hiddenWay q_t_sights q_t_choice q_t_refusals : Nat) (v_t_isKept : Int32) (v_t_refusals : Nat → Int32) (sz : Nat) (p0 : Int32) {r_ : Int32} {n_t_refusals : Nat → Int32} (hf : fX7_refuse v_t_refusals p0 = some (r_, n_t_refusals)) : Met l yX7_refuse wsX7_refuse ({ frames := 0, cells := 0, slots := 0, locals := 0 }) (va_Pc [.ref q_t, .int p0] (fun U => U.heap.size = sz ∧ va_P D vwCl [(q_t, oX7 q_t_now q_t_future q_t_draft q_t_kept v_t_isKept q_t_shelves q_t_tape q_t_reader q_t_hiddenWay q_t_sights q_t_choice q_t_refusals), (q_t_refusals, .inl (cy 0, 5, .inl v_t_refusals))] U.heap ∧ xK D cy U ∧ va_D (fun _ => True) [(q_t, oX7 q_t_now q_t_future q_t_draft q_t_kept v_t_isKept q_t_shelves q_t_tape q_t_reader q_t_hiddenWay q_t_sights q_t_choice q_t_refusals), (q_t_refusals, .inl (cy 0, 5, .inl v_t_refusals))])) (va_Qi (fun (x : Int32) (_ : Unit) => x = r_) (fun _ t => va_P D vwCl [(q_t, oX7 q_t_now q_t_future q_t_draft q_t_kept v_t_isKept q_t_shelves q_t_tape q_t_reader q_t_hiddenWay q_t_sights q_t_choice q_t_refusals), (q_t_refusals, .inl (cy 0, 5, .inl n_t_refusals))] t.heap) (va_A [(q_t, oX7 q_t_now q_t_future q_t_draft q_t_kept v_t_isKept q_t_shelves q_t_tape q_t_reader q_t_hiddenWay q_t_sights q_t_choice q_t_refusals), (q_t_refusals, .inl (cy 0, 5, .inl v_t_refusals))] sz)) 0 0 (va_A [(q_t, oX7 q_t_now q_t_future q_t_draft q_t_kept v_t_isKept q_t_shelves q_t_tape q_t_reader q_t_hiddenWay q_t_sights q_t_choice q_t_refusals), (q_t_refusals, .inl (cy 0, 5, .inl v_t_refusals))] sz) := by
  refine Met.ofW (cc := cX7_refuse) (maxL := 3) (ret := (some .int)) (by decide) rfl ?_
  intro p e s m args below meth c s₁ B hml hv
  obtain ⟨rfl, hsz, hP, hK, hD0⟩ := hv
  have hx := B.exec
  have hb := B.bytes
  have hr := B.returns
  have hts := atoms_spec (ws := wsX7_refuse) B.pre
  have hown : s.vm.findClass RX7 = some m.cls := findClass_of_methodNamed B.named
  have hlocks := B.notSynchronized
  subst hsz
  have hD := hD0.self (sz := s.heap.size)
  generalize hAe : va_A [(q_t, oX7 q_t_now q_t_future q_t_draft q_t_kept v_t_isKept q_t_shelves q_t_tape q_t_reader q_t_hiddenWay q_t_sights q_t_choice q_t_refusals), (q_t_refusals, .inl (cy 0, 5, .inl v_t_refusals))] s.heap.size = A at hD ⊢
  have hA : ∀ q : Nat, s.heap.size ≤ q → A q := fun q h => by rw [← hAe]; exact Or.inr h
  have hS : va_S A s.heap s.heap [] := va_S.rf
  have hP : va_P D vwCl [(q_t, oX7 q_t_now q_t_future q_t_draft q_t_kept v_t_isKept q_t_shelves q_t_tape q_t_reader q_t_hiddenWay q_t_sights q_t_choice q_t_refusals), (q_t_refusals, .inl (cy 0, 5, .inl v_t_refusals))] s.heap := hP
  have hinX7 : ∀ w ∈ u_ws RX7 TX7 12, w ∈ wsX7_refuse := by decide +kernel
  have hk65 := hts (.fieldLink RX7 65 "ShowsWhereNobodyIs" "refusals" "[I") (by decide +kernel)
  have hl := lv_entry ([.ref q_t, .int p0]) (n := 3) (Nat.le_of_ble_eq_true rfl)
  rw [lg_entry_eq]
  generalize (lg_sl ([.ref q_t, .int p0]) ++ List.replicate (3 - (lg_sl ([.ref q_t, .int p0])).length) Slot.unset).toArray = ls at hl ⊢
  have hl : lv_has ls 3 [(0, .ref q_t), (1, .int p0)] := hl
  unfold fX7_refuse at hf
  refine lv_bipush (v := (-2)) hx hb dX7_refuse_0 (by decide) ?_
  refine lv_iload_n hx hb dX7_refuse_2 rfl (lv_at hl 1 rfl) ?_
  refine lv_isub hx hb dX7_refuse_3 ?_
  refine lv_topi (fun x1 ex1 => ?_)
  have hf := vlE hf ex1
  clear ex1
  refine lv_istore_n (lv' := [(2, .int x1), (0, .ref q_t), (1, .int p0)]) hx hb dX7_refuse_4 rfl hl (by decide) rfl (fun ls hl => ?_)
  refine lv_iload_n hx hb dX7_refuse_5 rfl (lv_at hl 0 rfl) ?_
  refine lv_if_lt (tgt := 24) hx hb dX7_refuse_6 (by decide) (fun c5 => ?_) (fun c5 => ?_)
  · have hf := ifT hf c5
    clear c5
    refine lv_iload_n hx hb dX7_refuse_24 rfl (lv_at hl 2 rfl) ?_
    cases hf
    exact W.iret hx hb hr (fun t ht hW => ⟨⟨_, (), rfl, rfl, xend ht hP⟩, hS.F ht⟩) hS.2.2 dX7_refuse_25
  · have hf := ifF hf c5
    clear c5
    refine lv_iload_n hx hb dX7_refuse_9 rfl (lv_at hl 0 rfl) ?_
    refine lv_iconst (v := 5) hx hb dX7_refuse_10 (by decide) ?_
    refine lv_icmp_ge (tgt := 24) hx hb dX7_refuse_11 (by decide) (fun c4 => ?_) (fun c4 => ?_)
    · have hf := ifT hf c4
      clear c4
      refine lv_iload_n hx hb dX7_refuse_24 rfl (lv_at hl 2 rfl) ?_
      cases hf
      exact W.iret hx hb hr (fun t ht hW => ⟨⟨_, (), rfl, rfl, xend ht hP⟩, hS.F ht⟩) hS.2.2 dX7_refuse_25
    · have hf := ifF hf c4
      clear c4
      refine lv_aload_n hx hb dX7_refuse_14 rfl (lv_at hl 1 rfl) ?_
      refine va_get (D := D) (ci := 7) (v := .ref q_t_refusals) (C := RX7) (T := TX7) (N := 12) hx hb hts hinX7 hown hK.1 hP 0 rfl rfl 11 (by decide) hk65 (fun _ h9 => h9) rfl dX7_refuse_15 ?_
      refine lv_iload_n hx hb dX7_refuse_18 rfl (lv_at hl 0 rfl) ?_
      refine lv_dup2_11 hx hb dX7_refuse_19 rfl rfl ?_
      obtain ⟨hi2, hf⟩ := ckE hf
      refine va_iald hx hb hK.1 hP 1 0 rfl rfl hi2 dX7_refuse_20 ?_
      refine lv_iconst (v := 1) hx hb dX7_refuse_21 (by decide) ?_
      refine lv_iadd hx hb dX7_refuse_22 ?_
      obtain ⟨hi3, hf⟩ := ckE hf
      refine va_iast hx hb hK.1 hP hD hS 1 0 rfl rfl hi3 dX7_refuse_23 (fun H locs hP hD hS => ?_)
      have hP : va_P D vwCl [(q_t, oX7 q_t_now q_t_future q_t_draft q_t_kept v_t_isKept q_t_shelves q_t_tape q_t_reader q_t_hiddenWay q_t_sights q_t_choice q_t_refusals), (q_t_refusals, .inl (cy 0, 5, .inl (upd v_t_refusals x1.toNatClampNeg ((v_t_refusals x1.toNatClampNeg) + (1 : Int32)))))] H := hP
      have hD : va_D A [(q_t, oX7 q_t_now q_t_future q_t_draft q_t_kept v_t_isKept q_t_shelves q_t_tape q_t_reader q_t_hiddenWay q_t_sights q_t_choice q_t_refusals), (q_t_refusals, .inl (cy 0, 5, .inl (upd v_t_refusals x1.toNatClampNeg ((v_t_refusals x1.toNatClampNeg) + (1 : Int32)))))] := hD
      refine lv_iload_n hx hb dX7_refuse_24 rfl (lv_at hl 2 rfl) ?_
      cases hf
      exact W.iret hx hb hr (fun t ht hW => ⟨⟨_, (), rfl, rfl, xend ht hP⟩, hS.F ht⟩) hS.2.2 dX7_refuse_25
def fX7_row (v_t_refusals : Nat → Int32) (v_t_shelves_c : Nat → Int32) (v_t_shelves_z : Nat → Int32) (v_t_shelves_e : Nat → Nat → Int64) (p0 : Int32) (p1 : Int32) (p2 : Int32) : Option (Int32 × (Nat → Int32) × (Nat → Int32) × (Nat → Int32) × (Nat → Nat → Int64)) :=
  bo1 (fX7_isShelf p0) fun r1 =>
  jo0 (
    bo2 (fX7_refuse v_t_refusals (-2 : Int32)) fun r4 u5 =>
    some (r4, u5, v_t_shelves_c, v_t_shelves_z, v_t_shelves_e)) fun k3 =>
  if r1 = 0 then
    k3
  else
    if p1 < 0 then
      k3
    else
      if (4 : Int32) < p1 then
        k3
      else
        if p2 < 0 then
          k3
        else
          if p2 ≤ (40 : Int32) then
            if p0 < 0 ∨ 8 ≤ p0.toNatClampNeg then none else
            bo3 (fX2_takeRow (v_t_shelves_e p0.toNatClampNeg) p1 p2) fun u9 u10 u11 =>
            some ((1 : Int32), v_t_refusals, va_up v_t_shelves_c p0.toNatClampNeg u9, va_up v_t_shelves_z p0.toNatClampNeg u10, va_up v_t_shelves_e p0.toNatClampNeg u11)
          else
            k3
set_option maxHeartbeats 4000000 in
set_option maxRecDepth 100000 in
theorem mX7_row (l : Launch) (D : va_G) (cy : Nat → ClassId) (q_t q_t_now q_t_future q_t_draft q_t_kept q_t_shelves q_t_tape q_t_reader q_t_hiddenWay q_t_sights q_t_choice q_t_refusals : Nat) (ad_t_shelves ae_t_shelves : Nat → Nat) (v_t_isKept : Int32) (v_t_refusals : Nat → Int32) (v_t_shelves_c : Nat → Int32) (v_t_shelves_z : Nat → Int32) (v_t_shelves_e : Nat → Nat → Int64) (sz : Nat) (p0 : Int32) (p1 : Int32) (p2 : Int32) {r_ : Int32} {n_t_refusals : Nat → Int32} {n_t_shelves_c : Nat → Int32} {n_t_shelves_z : Nat → Int32} {n_t_shelves_e : Nat → Nat → Int64} (hf : fX7_row v_t_refusals v_t_shelves_c v_t_shelves_z v_t_shelves_e p0 p1 p2 = some (r_, n_t_refusals, n_t_shelves_c, n_t_shelves_z, n_t_shelves_e)) : Met l yX7_row wsX7_row ({ frames := 1, cells := 0, slots := 0, locals := 23 }) (va_Pc [.ref q_t, .int p0, .int p1, .int p2] (fun U => U.heap.size = sz ∧ va_P D vwCl ([(q_t, oX7 q_t_now q_t_future q_t_draft q_t_kept v_t_isKept q_t_shelves q_t_tape q_t_reader q_t_hiddenWay q_t_sights q_t_choice q_t_refusals), (q_t_shelves, .inl (cy 2, 8, .inr (.inr (.inr (.inr (fun i => some (ad_t_shelves i))))))), (q_t_refusals, .inl (cy 0, 5, .inl v_t_refusals))] ++ wSh cy ad_t_shelves ae_t_shelves v_t_shelves_c v_t_shelves_z v_t_shelves_e) U.heap ∧ xK D cy U ∧ va_D (fun _ => True) ([(q_t, oX7 q_t_now q_t_future q_t_draft q_t_kept v_t_isKept q_t_shelves q_t_tape q_t_reader q_t_hiddenWay q_t_sights q_t_choice q_t_refusals), (q_t_shelves, .inl (cy 2, 8, .inr (.inr (.inr (.inr (fun i => some (ad_t_shelves i))))))), (q_t_refusals, .inl (cy 0, 5, .inl v_t_refusals))] ++ wSh cy ad_t_shelves ae_t_shelves v_t_shelves_c v_t_shelves_z v_t_shelves_e))) (va_Qi (fun (x : Int32) (_ : Unit) => x = r_) (fun _ t => va_P D vwCl ([(q_t, oX7 q_t_now q_t_future q_t_draft q_t_kept v_t_isKept q_t_shelves q_t_tape q_t_reader q_t_hiddenWay q_t_sights q_t_choice q_t_refusals), (q_t_shelves, .inl (cy 2, 8, .inr (.inr (.inr (.inr (fun i => some (ad_t_shelves i))))))), (q_t_refusals, .inl (cy 0, 5, .inl n_t_refusals))] ++ wSh cy ad_t_shelves ae_t_shelves n_t_shelves_c n_t_shelves_z n_t_shelves_e) t.heap) (va_A ([(q_t, oX7 q_t_now q_t_future q_t_draft q_t_kept v_t_isKept q_t_shelves q_t_tape q_t_reader q_t_hiddenWay q_t_sights q_t_choice q_t_refusals), (q_t_shelves, .inl (cy 2, 8, .inr (.inr (.inr (.inr (fun i => some (ad_t_shelves i))))))), (q_t_refusals, .inl (cy 0, 5, .inl v_t_refusals))] ++ wSh cy ad_t_shelves ae_t_shelves v_t_shelves_c v_t_shelves_z v_t_shelves_e) sz)) 0 0 (va_A ([(q_t, oX7 q_t_now q_t_future q_t_draft q_t_kept v_t_isKept q_t_shelves q_t_tape q_t_reader q_t_hiddenWay q_t_sights q_t_choice q_t_refusals), (q_t_shelves, .inl (cy 2, 8, .inr (.inr (.inr (.inr (fun i => some (ad_t_shelves i))))))), (q_t_refusals, .inl (cy 0, 5, .inl v_t_refusals))] ++ wSh cy ad_t_shelves ae_t_shelves v_t_shelves_c v_t_shelves_z v_t_shelves_e) sz) := by
  refine Met.ofW (cc := cX7_row) (maxL := 4) (ret := (some .int)) (by decide) rfl ?_
  intro p e s m args below meth c s₁ B hml hv
  obtain ⟨rfl, hsz, hP, hK, hD0⟩ := hv
  have hx := B.exec
  have hb := B.bytes
  have hr := B.returns
  have hts := atoms_spec (ws := wsX7_row) B.pre
  have hown : s.vm.findClass RX7 = some m.cls := findClass_of_methodNamed B.named
  have hlocks := B.notSynchronized
  subst hsz
  have hD := hD0.self (sz := s.heap.size)
  generalize hAe : va_A ([(q_t, oX7 q_t_now q_t_future q_t_draft q_t_kept v_t_isKept q_t_shelves q_t_tape q_t_reader q_t_hiddenWay q_t_sights q_t_choice q_t_refusals), (q_t_shelves, .inl (cy 2, 8, .inr (.inr (.inr (.inr (fun i => some (ad_t_shelves i))))))), (q_t_refusals, .inl (cy 0, 5, .inl v_t_refusals))] ++ wSh cy ad_t_shelves ae_t_shelves v_t_shelves_c v_t_shelves_z v_t_shelves_e) s.heap.size = A at hD ⊢
  have hA : ∀ q : Nat, s.heap.size ≤ q → A q := fun q h => by rw [← hAe]; exact Or.inr h
  have hS : va_S A s.heap s.heap [] := va_S.rf
  have hP : va_P D vwCl ([(q_t, oX7 q_t_now q_t_future q_t_draft q_t_kept v_t_isKept q_t_shelves q_t_tape q_t_reader q_t_hiddenWay q_t_sights q_t_choice q_t_refusals), (q_t_shelves, .inl (cy 2, 8, .inr (.inr (.inr (.inr (fun i => some (ad_t_shelves i))))))), (q_t_refusals, .inl (cy 0, 5, .inl v_t_refusals))] ++ wSh cy ad_t_shelves ae_t_shelves v_t_shelves_c v_t_shelves_z v_t_shelves_e) s.heap := hP
  have hinX7 : ∀ w ∈ u_ws RX7 TX7 12, w ∈ wsX7_row := by decide +kernel
  have hk27 := hts (.fieldLink RX7 27 "ShowsWhereNobodyIs" "shelves" "[LShowsWhereNobodyIs$Shelf;") (by decide +kernel)
  have hl := lv_entry ([.ref q_t, .int p0, .int p1, .int p2]) (n := 4) (Nat.le_of_ble_eq_true rfl)
  rw [lg_entry_eq]
  generalize (lg_sl ([.ref q_t, .int p0, .int p1, .int p2]) ++ List.replicate (4 - (lg_sl ([.ref q_t, .int p0, .int p1, .int p2])).length) Slot.unset).toArray = ls at hl ⊢
  have hl : lv_has ls 4 [(0, .ref q_t), (1, .int p0), (2, .int p1), (3, .int p2)] := hl
  unfold fX7_row at hf
  refine lv_iload_n hx hb dX7_row_0 rfl (lv_at hl 1 rfl) ?_
  obtain ⟨r1, hr2, hf⟩ := boE1 hf
  have hPc := hP.sub (ws' := []) [] rfl
  refine xcSi (va_runS (As := [.int p0]) (rest := []) ⟨hx, hb, hml, hown, hts⟩ (mX7_isShelf l D cy    p0 hr2) (va_cwS 1 hts gX7_row_X7_isShelf rfl rfl rfl (by decide +kernel) ⟨Nat.le_of_ble_eq_true rfl, Nat.le_of_ble_eq_true rfl⟩) (xPS hK hPc) rfl rfl hl.1 rfl (lv_room (Nat.le_of_ble_eq_true rfl)) dX7_row_1 ⟨Nat.le_of_ble_eq_true rfl, Nat.le_of_ble_eq_true rfl⟩) ?_
  refine jww0 26 [] (fun  H locs ls => va_P D vwCl ([(q_t, oX7 q_t_now q_t_future q_t_draft q_t_kept v_t_isKept q_t_shelves q_t_tape q_t_reader q_t_hiddenWay q_t_sights q_t_choice q_t_refusals), (q_t_shelves, .inl (cy 2, 8, .inr (.inr (.inr (.inr (fun i => some (ad_t_shelves i))))))), (q_t_refusals, .inl (cy 0, 5, .inl v_t_refusals))] ++ wSh cy ad_t_shelves ae_t_shelves v_t_shelves_c v_t_shelves_z v_t_shelves_e) H ∧ va_D A ([(q_t, oX7 q_t_now q_t_future q_t_draft q_t_kept v_t_isKept q_t_shelves q_t_tape q_t_reader q_t_hiddenWay q_t_sights q_t_choice q_t_refusals), (q_t_shelves, .inl (cy 2, 8, .inr (.inr (.inr (.inr (fun i => some (ad_t_shelves i))))))), (q_t_refusals, .inl (cy 0, 5, .inl v_t_refusals))] ++ wSh cy ad_t_shelves ae_t_shelves v_t_shelves_c v_t_shelves_z v_t_shelves_e) ∧ va_S A s.heap H locs ∧ lv_has ls 4 [(0, .ref q_t)]) hf (fun  H locs ls hI hf => ?_) (fun k3 J26 hf => ?_)
  · obtain ⟨hP, hD, hS, hl⟩ := hI
    refine lv_aload_n hx hb dX7_row_26 rfl (lv_at hl 0 rfl) ?_
    refine lv_bipush (v := (-2)) hx hb dX7_row_27 (by decide) ?_
    obtain ⟨r4, u5, hr6, hf⟩ := boE2 hf
    have hPc := hP.sub (ws' := [(q_t, oX7 q_t_now q_t_future q_t_draft q_t_kept v_t_isKept q_t_shelves q_t_tape q_t_reader q_t_hiddenWay q_t_sights q_t_choice q_t_refusals), (q_t_refusals, .inl (cy 0, 5, .inl v_t_refusals))]) [0, 2] rfl
    have hDc := hD.sub (ws' := [(q_t, oX7 q_t_now q_t_future q_t_draft q_t_kept v_t_isKept q_t_shelves q_t_tape q_t_reader q_t_hiddenWay q_t_sights q_t_choice q_t_refusals), (q_t_refusals, .inl (cy 0, 5, .inl v_t_refusals))]) [0, 2] (by decide) rfl
    refine xcQiQ (w1 := [(q_t, oX7 q_t_now q_t_future q_t_draft q_t_kept v_t_isKept q_t_shelves q_t_tape q_t_reader q_t_hiddenWay q_t_sights q_t_choice q_t_refusals), (q_t_refusals, .inl (cy 0, 5, .inl u5))]) (va_runV (As := [.int (-2 : Int32)]) (rest := []) ⟨hx, hb, hml, hown, hts⟩ (mX7_refuse l D cy q_t q_t_now q_t_future q_t_draft q_t_kept q_t_shelves q_t_tape q_t_reader q_t_hiddenWay q_t_sights q_t_choice q_t_refusals v_t_isKept v_t_refusals _ (-2 : Int32) hr6) (cwV 1 hts gX7_row_X7_refuse rfl rfl rfl (by decide +kernel) ⟨Nat.le_of_ble_eq_true rfl, Nat.le_of_ble_eq_true rfl⟩) (xPVw hK hPc hDc (ci := 7) (q0 := 0) rfl rfl) rfl rfl hl.1 rfl (lv_room (Nat.le_of_ble_eq_true rfl)) dX7_row_29 ⟨Nat.le_of_ble_eq_true rfl, Nat.le_of_ble_eq_true rfl⟩) hP hD hS hA [0, 2] rfl rfl (fun H locs hP hD hS => ?_)
    have hP : va_P D vwCl ([(q_t, oX7 q_t_now q_t_future q_t_draft q_t_kept v_t_isKept q_t_shelves q_t_tape q_t_reader q_t_hiddenWay q_t_sights q_t_choice q_t_refusals), (q_t_shelves, .inl (cy 2, 8, .inr (.inr (.inr (.inr (fun i => some (ad_t_shelves i))))))), (q_t_refusals, .inl (cy 0, 5, .inl u5))] ++ wSh cy ad_t_shelves ae_t_shelves v_t_shelves_c v_t_shelves_z v_t_shelves_e) H := hP
    have hD : va_D A ([(q_t, oX7 q_t_now q_t_future q_t_draft q_t_kept v_t_isKept q_t_shelves q_t_tape q_t_reader q_t_hiddenWay q_t_sights q_t_choice q_t_refusals), (q_t_shelves, .inl (cy 2, 8, .inr (.inr (.inr (.inr (fun i => some (ad_t_shelves i))))))), (q_t_refusals, .inl (cy 0, 5, .inl u5))] ++ wSh cy ad_t_shelves ae_t_shelves v_t_shelves_c v_t_shelves_z v_t_shelves_e) := hD
    cases hf
    exact W.iret hx hb hr (fun t ht hW => ⟨⟨_, (), rfl, rfl, xend ht hP⟩, hS.F ht⟩) hS.2.2 dX7_row_32
  · refine lv_if_eq (tgt := 26) hx hb dX7_row_4 (by decide) (fun c17 => ?_) (fun c17 => ?_)
    · have hf := ifT hf c17
      clear c17
      exact J26 _ _ ls ⟨hP, hD, hS, lv_sub hl [0] rfl⟩ hf
    · have hf := ifF hf c17
      clear c17
      refine lv_iload_n hx hb dX7_row_7 rfl (lv_at hl 2 rfl) ?_
      refine lv_if_lt (tgt := 26) hx hb dX7_row_8 (by decide) (fun c16 => ?_) (fun c16 => ?_)
      · have hf := ifT hf c16
        clear c16
        exact J26 _ _ ls ⟨hP, hD, hS, lv_sub hl [0] rfl⟩ hf
      · have hf := ifF hf c16
        clear c16
        refine lv_iload_n hx hb dX7_row_11 rfl (lv_at hl 2 rfl) ?_
        refine lv_iconst (v := 4) hx hb dX7_row_12 (by decide) ?_
        refine lv_icmp_gt (tgt := 26) hx hb dX7_row_13 (by decide) (fun c15 => ?_) (fun c15 => ?_)
        · have hf := ifT hf c15
          clear c15
          exact J26 _ _ ls ⟨hP, hD, hS, lv_sub hl [0] rfl⟩ hf
        · have hf := ifF hf c15
          clear c15
          refine lv_iload_n hx hb dX7_row_16 rfl (lv_at hl 3 rfl) ?_
          refine lv_if_lt (tgt := 26) hx hb dX7_row_17 (by decide) (fun c14 => ?_) (fun c14 => ?_)
          · have hf := ifT hf c14
            clear c14
            exact J26 _ _ ls ⟨hP, hD, hS, lv_sub hl [0] rfl⟩ hf
          · have hf := ifF hf c14
            clear c14
            refine lv_iload_n hx hb dX7_row_20 rfl (lv_at hl 3 rfl) ?_
            refine lv_bipush (v := 40) hx hb dX7_row_21 (by decide) ?_
            refine lv_icmp_le (tgt := 33) hx hb dX7_row_23 (by decide) (fun c13 => ?_) (fun c13 => ?_)
            · have hf := ifT hf c13
              clear c13
              refine lv_aload_n hx hb dX7_row_33 rfl (lv_at hl 0 rfl) ?_
              refine va_get (D := D) (ci := 7) (v := .ref q_t_shelves) (C := RX7) (T := TX7) (N := 12) hx hb hts hinX7 hown hK.1 hP 0 rfl rfl 5 (by decide) hk27 (fun _ h9 => h9) rfl dX7_row_34 ?_
              refine lv_iload_n hx hb dX7_row_37 rfl (lv_at hl 1 rfl) ?_
              obtain ⟨hi7, hf⟩ := ckE hf
              have hj8 : p0.toNatClampNeg < 8 := xlt hi7
              refine va_aldq hx hb hK.1 hP 1 2 rfl rfl hi7 dX7_row_38 ?_
              refine W.eq (g2 := F0 m 39 ls [.ref (ad_t_shelves p0.toNatClampNeg)]) rfl ?_
              refine lv_iload_n hx hb dX7_row_39 rfl (lv_at hl 2 rfl) ?_
              refine lv_iload_n hx hb dX7_row_40 rfl (lv_at hl 3 rfl) ?_
              obtain ⟨u9, u10, u11, hr12, hf⟩ := boE3 hf
              have hPc := xshP hP hj8
              have hDc := xshD hD hj8
              refine xcQvS (va_runV (As := [.int p1, .int p2]) (rest := []) ⟨hx, hb, hml, hown, hts⟩ (mX2_takeRow l D cy (ad_t_shelves p0.toNatClampNeg) (ae_t_shelves p0.toNatClampNeg) (v_t_shelves_c p0.toNatClampNeg) (v_t_shelves_z p0.toNatClampNeg) (v_t_shelves_e p0.toNatClampNeg) _ p1 p2 hr12) (cwV 2 hts gX7_row_X2_takeRow rfl rfl rfl (by decide +kernel) ⟨Nat.le_of_ble_eq_true rfl, Nat.le_of_ble_eq_true rfl⟩) (xPVw hK hPc hDc (ci := 2) (q0 := 0) rfl rfl) rfl rfl hl.1 rfl (lv_room (Nat.le_of_ble_eq_true rfl)) dX7_row_41 ⟨Nat.le_of_ble_eq_true rfl, Nat.le_of_ble_eq_true rfl⟩) hP hD hS hA hj8 (fun H locs hP hD hS => ?_)
              have hP : va_P D vwCl ([(q_t, oX7 q_t_now q_t_future q_t_draft q_t_kept v_t_isKept q_t_shelves q_t_tape q_t_reader q_t_hiddenWay q_t_sights q_t_choice q_t_refusals), (q_t_shelves, .inl (cy 2, 8, .inr (.inr (.inr (.inr (fun i => some (ad_t_shelves i))))))), (q_t_refusals, .inl (cy 0, 5, .inl v_t_refusals))] ++ wSh cy ad_t_shelves ae_t_shelves (va_up v_t_shelves_c p0.toNatClampNeg u9) (va_up v_t_shelves_z p0.toNatClampNeg u10) (va_up v_t_shelves_e p0.toNatClampNeg u11)) H := hP
              have hD : va_D A ([(q_t, oX7 q_t_now q_t_future q_t_draft q_t_kept v_t_isKept q_t_shelves q_t_tape q_t_reader q_t_hiddenWay q_t_sights q_t_choice q_t_refusals), (q_t_shelves, .inl (cy 2, 8, .inr (.inr (.inr (.inr (fun i => some (ad_t_shelves i))))))), (q_t_refusals, .inl (cy 0, 5, .inl v_t_refusals))] ++ wSh cy ad_t_shelves ae_t_shelves (va_up v_t_shelves_c p0.toNatClampNeg u9) (va_up v_t_shelves_z p0.toNatClampNeg u10) (va_up v_t_shelves_e p0.toNatClampNeg u11)) := hD
              refine lv_iconst (v := 1) hx hb dX7_row_44 (by decide) ?_
              cases hf
              exact W.iret (v := (1 : Int32)) hx hb hr (fun t ht hW => ⟨⟨(1 : Int32), (), rfl, rfl, xend ht hP⟩, hS.F ht⟩) hS.2.2 dX7_row_45
            · have hf := ifF hf c13
              clear c13
              exact J26 _ _ ls ⟨hP, hD, hS, lv_sub hl [0] rfl⟩ hf
def fX7_rowReason (v_t_shelves_c : Nat → Int32) (p0 : Int32) : Option (Int32) :=
  bo1 (fX7_isShelf p0) fun r1 =>
  if r1 = 0 then
    some (-2 : Int32)
  else
    if p0 < 0 ∨ 8 ≤ p0.toNatClampNeg then none else
    bo1 (fX2_holdsPerson (v_t_shelves_c p0.toNatClampNeg)) fun r5 =>
    if r5 = 0 then
      if p0 < 0 ∨ 8 ≤ p0.toNatClampNeg then none else
      bo1 (fX2_holdsNothing (v_t_shelves_c p0.toNatClampNeg)) fun r9 =>
      if r9 = 0 then
        some (0 : Int32)
      else
        some (-4 : Int32)
    else
      some (-3 : Int32)
set_option maxHeartbeats 4000000 in
set_option maxRecDepth 100000 in
theorem mX7_rowReason (l : Launch) (D : va_G) (cy : Nat → ClassId) (q_t q_t_now q_t_future q_t_draft q_t_kept q_t_shelves q_t_tape q_t_reader q_t_hiddenWay q_t_sights q_t_choice q_t_refusals : Nat) (ad_t_shelves ae_t_shelves : Nat → Nat) (v_t_isKept : Int32) (v_t_shelves_c : Nat → Int32) (v_t_shelves_z : Nat → Int32) (v_t_shelves_e : Nat → Nat → Int64) (p0 : Int32) {r_ : Int32} (hf : fX7_rowReason v_t_shelves_c p0 = some r_) : Met l yX7_rowReason wsX7_rowReason ({ frames := 1, cells := 0, slots := 0, locals := 20 }) (va_Pc [.ref q_t, .int p0] (fun U => va_P D vwCl ([(q_t, oX7 q_t_now q_t_future q_t_draft q_t_kept v_t_isKept q_t_shelves q_t_tape q_t_reader q_t_hiddenWay q_t_sights q_t_choice q_t_refusals), (q_t_shelves, .inl (cy 2, 8, .inr (.inr (.inr (.inr (fun i => some (ad_t_shelves i)))))))] ++ wSh cy ad_t_shelves ae_t_shelves v_t_shelves_c v_t_shelves_z v_t_shelves_e) U.heap ∧ xK D cy U)) (vp_Si (fun x => x = r_)) 0 0 (fun _ => False) := by
  refine Met.ofW (cc := cX7_rowReason) (maxL := 2) (ret := (some .int)) (by decide) rfl ?_
  intro p e s m args below meth c s₁ B hml hv
  obtain ⟨rfl, hP, hK⟩ := hv
  have hx := B.exec
  have hb := B.bytes
  have hr := B.returns
  have hts := atoms_spec (ws := wsX7_rowReason) B.pre
  have hown : s.vm.findClass RX7 = some m.cls := findClass_of_methodNamed B.named
  have hlocks := B.notSynchronized
  have hP : va_P D vwCl ([(q_t, oX7 q_t_now q_t_future q_t_draft q_t_kept v_t_isKept q_t_shelves q_t_tape q_t_reader q_t_hiddenWay q_t_sights q_t_choice q_t_refusals), (q_t_shelves, .inl (cy 2, 8, .inr (.inr (.inr (.inr (fun i => some (ad_t_shelves i)))))))] ++ wSh cy ad_t_shelves ae_t_shelves v_t_shelves_c v_t_shelves_z v_t_shelves_e) s.heap := hP
  have hinX7 : ∀ w ∈ u_ws RX7 TX7 12, w ∈ wsX7_rowReason := by decide +kernel
  have hk27 := hts (.fieldLink RX7 27 "ShowsWhereNobodyIs" "shelves" "[LShowsWhereNobodyIs$Shelf;") (by decide +kernel)
  have hl := lv_entry ([.ref q_t, .int p0]) (n := 2) (Nat.le_of_ble_eq_true rfl)
  rw [lg_entry_eq]
  generalize (lg_sl ([.ref q_t, .int p0]) ++ List.replicate (2 - (lg_sl ([.ref q_t, .int p0])).length) Slot.unset).toArray = ls at hl ⊢
  have hl : lv_has ls 2 [(0, .ref q_t), (1, .int p0)] := hl
  unfold fX7_rowReason at hf
  refine lv_iload_n hx hb dX7_rowReason_0 rfl (lv_at hl 1 rfl) ?_
  obtain ⟨r1, hr2, hf⟩ := boE1 hf
  have hPc := hP.sub (ws' := []) [] rfl
  refine xcSi (va_runS (As := [.int p0]) (rest := []) ⟨hx, hb, hml, hown, hts⟩ (mX7_isShelf l D cy    p0 hr2) (va_cwS 1 hts gX7_rowReason_X7_isShelf rfl rfl rfl (by decide +kernel) ⟨Nat.le_of_ble_eq_true rfl, Nat.le_of_ble_eq_true rfl⟩) (xPS hK hPc) rfl rfl hl.1 rfl (lv_room (Nat.le_of_ble_eq_true rfl)) dX7_rowReason_1 ⟨Nat.le_of_ble_eq_true rfl, Nat.le_of_ble_eq_true rfl⟩) ?_
  refine lv_if_ne (tgt := 10) hx hb dX7_rowReason_4 (by decide) (fun c13 => ?_) (fun c13 => ?_)
  · have hf := ifF hf c13
    clear c13
    refine lv_aload_n hx hb dX7_rowReason_10 rfl (lv_at hl 0 rfl) ?_
    refine va_get (D := D) (ci := 7) (v := .ref q_t_shelves) (C := RX7) (T := TX7) (N := 12) hx hb hts hinX7 hown hK.1 hP 0 rfl rfl 5 (by decide) hk27 (fun _ h9 => h9) rfl dX7_rowReason_11 ?_
    refine lv_iload_n hx hb dX7_rowReason_14 rfl (lv_at hl 1 rfl) ?_
    obtain ⟨hi3, hf⟩ := ckE hf
    have hj4 : p0.toNatClampNeg < 8 := xlt hi3
    refine va_aldq hx hb hK.1 hP 1 2 rfl rfl hi3 dX7_rowReason_15 ?_
    refine W.eq (g2 := F0 m 16 ls [.ref (ad_t_shelves p0.toNatClampNeg)]) rfl ?_
    obtain ⟨r5, hr6, hf⟩ := boE1 hf
    have hPc := xshP hP hj4
    refine xcSi (va_runV (As := []) (rest := []) ⟨hx, hb, hml, hown, hts⟩ (mX2_holdsPerson l D cy (ad_t_shelves p0.toNatClampNeg) (ae_t_shelves p0.toNatClampNeg) (v_t_shelves_c p0.toNatClampNeg) (v_t_shelves_z p0.toNatClampNeg) (v_t_shelves_e p0.toNatClampNeg)   hr6) (cwV 0 hts gX7_rowReason_X2_holdsPerson rfl rfl rfl (by decide +kernel) ⟨Nat.le_of_ble_eq_true rfl, Nat.le_of_ble_eq_true rfl⟩) (xPV hK hPc (ci := 2) (q0 := 0) rfl rfl) rfl rfl hl.1 rfl (lv_room (Nat.le_of_ble_eq_true rfl)) dX7_rowReason_16 ⟨Nat.le_of_ble_eq_true rfl, Nat.le_of_ble_eq_true rfl⟩) ?_
    refine lv_if_eq (tgt := 25) hx hb dX7_rowReason_19 (by decide) (fun c12 => ?_) (fun c12 => ?_)
    · have hf := ifT hf c12
      clear c12
      refine lv_aload_n hx hb dX7_rowReason_25 rfl (lv_at hl 0 rfl) ?_
      refine va_get (D := D) (ci := 7) (v := .ref q_t_shelves) (C := RX7) (T := TX7) (N := 12) hx hb hts hinX7 hown hK.1 hP 0 rfl rfl 5 (by decide) hk27 (fun _ h9 => h9) rfl dX7_rowReason_26 ?_
      refine lv_iload_n hx hb dX7_rowReason_29 rfl (lv_at hl 1 rfl) ?_
      obtain ⟨hi7, hf⟩ := ckE hf
      have hj8 : p0.toNatClampNeg < 8 := xlt hi7
      refine va_aldq hx hb hK.1 hP 1 2 rfl rfl hi7 dX7_rowReason_30 ?_
      refine W.eq (g2 := F0 m 31 ls [.ref (ad_t_shelves p0.toNatClampNeg)]) rfl ?_
      obtain ⟨r9, hr10, hf⟩ := boE1 hf
      have hPc := xshP hP hj8
      refine xcSi (va_runV (As := []) (rest := []) ⟨hx, hb, hml, hown, hts⟩ (mX2_holdsNothing l D cy (ad_t_shelves p0.toNatClampNeg) (ae_t_shelves p0.toNatClampNeg) (v_t_shelves_c p0.toNatClampNeg) (v_t_shelves_z p0.toNatClampNeg) (v_t_shelves_e p0.toNatClampNeg)   hr10) (cwV 0 hts gX7_rowReason_X2_holdsNothing rfl rfl rfl (by decide +kernel) ⟨Nat.le_of_ble_eq_true rfl, Nat.le_of_ble_eq_true rfl⟩) (xPV hK hPc (ci := 2) (q0 := 0) rfl rfl) rfl rfl hl.1 rfl (lv_room (Nat.le_of_ble_eq_true rfl)) dX7_rowReason_31 ⟨Nat.le_of_ble_eq_true rfl, Nat.le_of_ble_eq_true rfl⟩) ?_
      refine lv_if_eq (tgt := 42) hx hb dX7_rowReason_34 (by decide) (fun c11 => ?_) (fun c11 => ?_)
      · have hf := ifT hf c11
        clear c11
        refine lv_iconst (v := 0) hx hb dX7_rowReason_42 (by decide) ?_
        exact W.iret (v := (0 : Int32)) hx hb hr (fun t ht hW => ⟨(0 : Int32), rfl, Option.some.inj hf, ht⟩) (fun q h => nomatch h) dX7_rowReason_43
      · have hf := ifF hf c11
        clear c11
        refine lv_bipush (v := (-4)) hx hb dX7_rowReason_37 (by decide) ?_
        refine lv_goto (tgt := 43) hx hb dX7_rowReason_39 (by decide) ?_
        exact W.iret (v := (-4 : Int32)) hx hb hr (fun t ht hW => ⟨(-4 : Int32), rfl, Option.some.inj hf, ht⟩) (fun q h => nomatch h) dX7_rowReason_43
    · have hf := ifF hf c12
      clear c12
      refine lv_bipush (v := (-3)) hx hb dX7_rowReason_22 (by decide) ?_
      exact W.iret (v := (-3 : Int32)) hx hb hr (fun t ht hW => ⟨(-3 : Int32), rfl, Option.some.inj hf, ht⟩) (fun q h => nomatch h) dX7_rowReason_24
  · have hf := ifT hf c13
    clear c13
    refine lv_bipush (v := (-2)) hx hb dX7_rowReason_7 (by decide) ?_
    exact W.iret (v := (-2 : Int32)) hx hb hr (fun t ht hW => ⟨(-2 : Int32), rfl, Option.some.inj hf, ht⟩) (fun q h => nomatch h) dX7_rowReason_9
def fX7_set (v_t_refusals : Nat → Int32) (v_t_shelves_c : Nat → Int32) (v_t_shelves_z : Nat → Int32) (v_t_shelves_e : Nat → Nat → Int64) (p0 : Int32) (p1 : Int32) (p2 : Int64) : Option (Int32 × (Nat → Int32) × (Nat → Nat → Int64)) :=
  bo1 (fX7_rowReason v_t_shelves_c p0) fun r1 =>
  jo1 (fun (x3 : Int32) =>
    if x3 = 0 then
      if p0 < 0 ∨ 8 ≤ p0.toNatClampNeg then none else
      bo1 (fX2_store (v_t_shelves_c p0.toNatClampNeg) (v_t_shelves_e p0.toNatClampNeg) p1 p2) fun u7 =>
      some ((1 : Int32), v_t_refusals, va_up v_t_shelves_e p0.toNatClampNeg u7)
    else
      bo2 (fX7_refuse v_t_refusals x3) fun r9 u10 =>
      some (r9, u10, v_t_shelves_e)) fun k4 =>
  if r1 = 0 then
    if p0 < 0 ∨ 8 ≤ p0.toNatClampNeg then none else
    bo1 (fX2_hasElement (v_t_shelves_z p0.toNatClampNeg) p1) fun r15 =>
    if r15 = 0 then
      k4 (-2 : Int32)
    else
      k4 r1
  else
    k4 r1
set_option maxHeartbeats 4000000 in
set_option maxRecDepth 100000 in
theorem mX7_set (l : Launch) (D : va_G) (cy : Nat → ClassId) (q_t q_t_now q_t_future q_t_draft q_t_kept q_t_shelves q_t_tape q_t_reader q_t_hiddenWay q_t_sights q_t_choice q_t_refusals : Nat) (ad_t_shelves ae_t_shelves : Nat → Nat) (v_t_isKept : Int32) (v_t_refusals : Nat → Int32) (v_t_shelves_c : Nat → Int32) (v_t_shelves_z : Nat → Int32) (v_t_shelves_e : Nat → Nat → Int64) (sz : Nat) (p0 : Int32) (p1 : Int32) (p2 : Int64) {r_ : Int32} {n_t_refusals : Nat → Int32} {n_t_shelves_e : Nat → Nat → Int64} (hf : fX7_set v_t_refusals v_t_shelves_c v_t_shelves_z v_t_shelves_e p0 p1 p2 = some (r_, n_t_refusals, n_t_shelves_e)) : Met l yX7_set wsX7_set ({ frames := 2, cells := 0, slots := 0, locals := 41 }) (va_Pc [.ref q_t, .int p0, .int p1, .long p2] (fun U => U.heap.size = sz ∧ va_P D vwCl ([(q_t, oX7 q_t_now q_t_future q_t_draft q_t_kept v_t_isKept q_t_shelves q_t_tape q_t_reader q_t_hiddenWay q_t_sights q_t_choice q_t_refusals), (q_t_shelves, .inl (cy 2, 8, .inr (.inr (.inr (.inr (fun i => some (ad_t_shelves i))))))), (q_t_refusals, .inl (cy 0, 5, .inl v_t_refusals))] ++ wSh cy ad_t_shelves ae_t_shelves v_t_shelves_c v_t_shelves_z v_t_shelves_e) U.heap ∧ xK D cy U ∧ va_D (fun _ => True) ([(q_t, oX7 q_t_now q_t_future q_t_draft q_t_kept v_t_isKept q_t_shelves q_t_tape q_t_reader q_t_hiddenWay q_t_sights q_t_choice q_t_refusals), (q_t_shelves, .inl (cy 2, 8, .inr (.inr (.inr (.inr (fun i => some (ad_t_shelves i))))))), (q_t_refusals, .inl (cy 0, 5, .inl v_t_refusals))] ++ wSh cy ad_t_shelves ae_t_shelves v_t_shelves_c v_t_shelves_z v_t_shelves_e))) (va_Qi (fun (x : Int32) (_ : Unit) => x = r_) (fun _ t => va_P D vwCl ([(q_t, oX7 q_t_now q_t_future q_t_draft q_t_kept v_t_isKept q_t_shelves q_t_tape q_t_reader q_t_hiddenWay q_t_sights q_t_choice q_t_refusals), (q_t_shelves, .inl (cy 2, 8, .inr (.inr (.inr (.inr (fun i => some (ad_t_shelves i))))))), (q_t_refusals, .inl (cy 0, 5, .inl n_t_refusals))] ++ wSh cy ad_t_shelves ae_t_shelves v_t_shelves_c v_t_shelves_z n_t_shelves_e) t.heap) (va_A ([(q_t, oX7 q_t_now q_t_future q_t_draft q_t_kept v_t_isKept q_t_shelves q_t_tape q_t_reader q_t_hiddenWay q_t_sights q_t_choice q_t_refusals), (q_t_shelves, .inl (cy 2, 8, .inr (.inr (.inr (.inr (fun i => some (ad_t_shelves i))))))), (q_t_refusals, .inl (cy 0, 5, .inl v_t_refusals))] ++ wSh cy ad_t_shelves ae_t_shelves v_t_shelves_c v_t_shelves_z v_t_shelves_e) sz)) 0 0 (va_A ([(q_t, oX7 q_t_now q_t_future q_t_draft q_t_kept v_t_isKept q_t_shelves q_t_tape q_t_reader q_t_hiddenWay q_t_sights q_t_choice q_t_refusals), (q_t_shelves, .inl (cy 2, 8, .inr (.inr (.inr (.inr (fun i => some (ad_t_shelves i))))))), (q_t_refusals, .inl (cy 0, 5, .inl v_t_refusals))] ++ wSh cy ad_t_shelves ae_t_shelves v_t_shelves_c v_t_shelves_z v_t_shelves_e) sz) := by
  refine Met.ofW (cc := cX7_set) (maxL := 6) (ret := (some .int)) (by decide) rfl ?_
  intro p e s m args below meth c s₁ B hml hv
  obtain ⟨rfl, hsz, hP, hK, hD0⟩ := hv
  have hx := B.exec
  have hb := B.bytes
  have hr := B.returns
  have hts := atoms_spec (ws := wsX7_set) B.pre
  have hown : s.vm.findClass RX7 = some m.cls := findClass_of_methodNamed B.named
  have hlocks := B.notSynchronized
  subst hsz
  have hD := hD0.self (sz := s.heap.size)
  generalize hAe : va_A ([(q_t, oX7 q_t_now q_t_future q_t_draft q_t_kept v_t_isKept q_t_shelves q_t_tape q_t_reader q_t_hiddenWay q_t_sights q_t_choice q_t_refusals), (q_t_shelves, .inl (cy 2, 8, .inr (.inr (.inr (.inr (fun i => some (ad_t_shelves i))))))), (q_t_refusals, .inl (cy 0, 5, .inl v_t_refusals))] ++ wSh cy ad_t_shelves ae_t_shelves v_t_shelves_c v_t_shelves_z v_t_shelves_e) s.heap.size = A at hD ⊢
  have hA : ∀ q : Nat, s.heap.size ≤ q → A q := fun q h => by rw [← hAe]; exact Or.inr h
  have hS : va_S A s.heap s.heap [] := va_S.rf
  have hP : va_P D vwCl ([(q_t, oX7 q_t_now q_t_future q_t_draft q_t_kept v_t_isKept q_t_shelves q_t_tape q_t_reader q_t_hiddenWay q_t_sights q_t_choice q_t_refusals), (q_t_shelves, .inl (cy 2, 8, .inr (.inr (.inr (.inr (fun i => some (ad_t_shelves i))))))), (q_t_refusals, .inl (cy 0, 5, .inl v_t_refusals))] ++ wSh cy ad_t_shelves ae_t_shelves v_t_shelves_c v_t_shelves_z v_t_shelves_e) s.heap := hP
  have hinX7 : ∀ w ∈ u_ws RX7 TX7 12, w ∈ wsX7_set := by decide +kernel
  have hk27 := hts (.fieldLink RX7 27 "ShowsWhereNobodyIs" "shelves" "[LShowsWhereNobodyIs$Shelf;") (by decide +kernel)
  have hl := lv_entry ([.ref q_t, .int p0, .int p1, .long p2]) (n := 6) (Nat.le_of_ble_eq_true rfl)
  rw [lg_entry_eq]
  generalize (lg_sl ([.ref q_t, .int p0, .int p1, .long p2]) ++ List.replicate (6 - (lg_sl ([.ref q_t, .int p0, .int p1, .long p2])).length) Slot.unset).toArray = ls at hl ⊢
  have hl : lv_has ls 6 [(0, .ref q_t), (1, .int p0), (2, .int p1), (3, .long p2)] := hl
  unfold fX7_set at hf
  refine lv_aload_n hx hb dX7_set_0 rfl (lv_at hl 0 rfl) ?_
  refine lv_iload_n hx hb dX7_set_1 rfl (lv_at hl 1 rfl) ?_
  obtain ⟨r1, hr2, hf⟩ := boE1 hf
  have hPc : va_P D vwCl ([(q_t, oX7 q_t_now q_t_future q_t_draft q_t_kept v_t_isKept q_t_shelves q_t_tape q_t_reader q_t_hiddenWay q_t_sights q_t_choice q_t_refusals), (q_t_shelves, .inl (cy 2, 8, .inr (.inr (.inr (.inr (fun i => some (ad_t_shelves i)))))))] ++ wSh cy ad_t_shelves ae_t_shelves v_t_shelves_c v_t_shelves_z v_t_shelves_e) _ := hP.part [0, 1] rfl
  refine xcSi (va_runV (As := [.int p0]) (rest := []) ⟨hx, hb, hml, hown, hts⟩ (mX7_rowReason l D cy q_t q_t_now q_t_future q_t_draft q_t_kept q_t_shelves q_t_tape q_t_reader q_t_hiddenWay q_t_sights q_t_choice q_t_refusals ad_t_shelves ae_t_shelves v_t_isKept v_t_shelves_c v_t_shelves_z v_t_shelves_e  p0 hr2) (cwV 1 hts gX7_set_X7_rowReason rfl rfl rfl (by decide +kernel) ⟨Nat.le_of_ble_eq_true rfl, Nat.le_of_ble_eq_true rfl⟩) (xPV hK hPc (ci := 7) (q0 := 0) rfl rfl) rfl rfl hl.1 rfl (lv_room (Nat.le_of_ble_eq_true rfl)) dX7_set_2 ⟨Nat.le_of_ble_eq_true rfl, Nat.le_of_ble_eq_true rfl⟩) ?_
  refine lv_istore (lv' := [(5, .int r1), (0, .ref q_t), (1, .int p0), (2, .int p1), (3, .long p2)]) hx hb dX7_set_5 hl (by decide) rfl (fun ls hl => ?_)
  refine lv_iload hx hb dX7_set_7 (lv_at hl 0 rfl) ?_
  refine jww1 29 (fun (x3 : Int32) => []) (fun (x3 : Int32) H locs ls => va_P D vwCl ([(q_t, oX7 q_t_now q_t_future q_t_draft q_t_kept v_t_isKept q_t_shelves q_t_tape q_t_reader q_t_hiddenWay q_t_sights q_t_choice q_t_refusals), (q_t_shelves, .inl (cy 2, 8, .inr (.inr (.inr (.inr (fun i => some (ad_t_shelves i))))))), (q_t_refusals, .inl (cy 0, 5, .inl v_t_refusals))] ++ wSh cy ad_t_shelves ae_t_shelves v_t_shelves_c v_t_shelves_z v_t_shelves_e) H ∧ va_D A ([(q_t, oX7 q_t_now q_t_future q_t_draft q_t_kept v_t_isKept q_t_shelves q_t_tape q_t_reader q_t_hiddenWay q_t_sights q_t_choice q_t_refusals), (q_t_shelves, .inl (cy 2, 8, .inr (.inr (.inr (.inr (fun i => some (ad_t_shelves i))))))), (q_t_refusals, .inl (cy 0, 5, .inl v_t_refusals))] ++ wSh cy ad_t_shelves ae_t_shelves v_t_shelves_c v_t_shelves_z v_t_shelves_e) ∧ va_S A s.heap H locs ∧ lv_has ls 6 [(5, .int x3), (0, .ref q_t), (1, .int p0), (2, .int p1), (3, .long p2)]) hf (fun x3 H locs ls hI hf => ?_) (fun k4 J29 hf => ?_)
  · obtain ⟨hP, hD, hS, hl⟩ := hI
    refine lv_iload hx hb dX7_set_29 (lv_at hl 0 rfl) ?_
    refine lv_if_eq (tgt := 41) hx hb dX7_set_31 (by decide) (fun c12 => ?_) (fun c12 => ?_)
    · have hf := ifT hf c12
      clear c12
      refine lv_aload_n hx hb dX7_set_41 rfl (lv_at hl 1 rfl) ?_
      refine va_get (D := D) (ci := 7) (v := .ref q_t_shelves) (C := RX7) (T := TX7) (N := 12) hx hb hts hinX7 hown hK.1 hP 0 rfl rfl 5 (by decide) hk27 (fun _ h9 => h9) rfl dX7_set_42 ?_
      refine lv_iload_n hx hb dX7_set_45 rfl (lv_at hl 2 rfl) ?_
      obtain ⟨hi5, hf⟩ := ckE hf
      have hj6 : p0.toNatClampNeg < 8 := xlt hi5
      refine va_aldq hx hb hK.1 hP 1 2 rfl rfl hi5 dX7_set_46 ?_
      refine W.eq (g2 := F0 m 47 ls [.ref (ad_t_shelves p0.toNatClampNeg)]) rfl ?_
      refine lv_iload_n hx hb dX7_set_47 rfl (lv_at hl 3 rfl) ?_
      refine lv_lload_n hx hb dX7_set_48 rfl (lv_at hl 4 rfl) ?_
      obtain ⟨u7, hr8, hf⟩ := boE1 hf
      have hPc := xshP hP hj6
      have hDc := xshD hD hj6
      refine xcQvS (va_runV (As := [.int p1, .long p2]) (rest := []) ⟨hx, hb, hml, hown, hts⟩ (mX2_store l D cy (ad_t_shelves p0.toNatClampNeg) (ae_t_shelves p0.toNatClampNeg) (v_t_shelves_c p0.toNatClampNeg) (v_t_shelves_z p0.toNatClampNeg) (v_t_shelves_e p0.toNatClampNeg) _ p1 p2 hr8) (cwV 2 hts gX7_set_X2_store rfl rfl rfl (by decide +kernel) ⟨Nat.le_of_ble_eq_true rfl, Nat.le_of_ble_eq_true rfl⟩) (xPVw hK hPc hDc (ci := 2) (q0 := 0) rfl rfl) rfl rfl hl.1 rfl (lv_room (Nat.le_of_ble_eq_true rfl)) dX7_set_49 ⟨Nat.le_of_ble_eq_true rfl, Nat.le_of_ble_eq_true rfl⟩) hP hD hS hA hj6 (fun H locs hP hD hS => ?_)
      simp only [xup_self] at hP hD
      have hP : va_P D vwCl ([(q_t, oX7 q_t_now q_t_future q_t_draft q_t_kept v_t_isKept q_t_shelves q_t_tape q_t_reader q_t_hiddenWay q_t_sights q_t_choice q_t_refusals), (q_t_shelves, .inl (cy 2, 8, .inr (.inr (.inr (.inr (fun i => some (ad_t_shelves i))))))), (q_t_refusals, .inl (cy 0, 5, .inl v_t_refusals))] ++ wSh cy ad_t_shelves ae_t_shelves v_t_shelves_c v_t_shelves_z (va_up v_t_shelves_e p0.toNatClampNeg u7)) H := hP
      have hD : va_D A ([(q_t, oX7 q_t_now q_t_future q_t_draft q_t_kept v_t_isKept q_t_shelves q_t_tape q_t_reader q_t_hiddenWay q_t_sights q_t_choice q_t_refusals), (q_t_shelves, .inl (cy 2, 8, .inr (.inr (.inr (.inr (fun i => some (ad_t_shelves i))))))), (q_t_refusals, .inl (cy 0, 5, .inl v_t_refusals))] ++ wSh cy ad_t_shelves ae_t_shelves v_t_shelves_c v_t_shelves_z (va_up v_t_shelves_e p0.toNatClampNeg u7)) := hD
      refine lv_iconst (v := 1) hx hb dX7_set_52 (by decide) ?_
      cases hf
      exact W.iret (v := (1 : Int32)) hx hb hr (fun t ht hW => ⟨⟨(1 : Int32), (), rfl, rfl, xend ht hP⟩, hS.F ht⟩) hS.2.2 dX7_set_53
    · have hf := ifF hf c12
      clear c12
      refine lv_aload_n hx hb dX7_set_34 rfl (lv_at hl 1 rfl) ?_
      refine lv_iload hx hb dX7_set_35 (lv_at hl 0 rfl) ?_
      obtain ⟨r9, u10, hr11, hf⟩ := boE2 hf
      have hPc := hP.sub (ws' := [(q_t, oX7 q_t_now q_t_future q_t_draft q_t_kept v_t_isKept q_t_shelves q_t_tape q_t_reader q_t_hiddenWay q_t_sights q_t_choice q_t_refusals), (q_t_refusals, .inl (cy 0, 5, .inl v_t_refusals))]) [0, 2] rfl
      have hDc := hD.sub (ws' := [(q_t, oX7 q_t_now q_t_future q_t_draft q_t_kept v_t_isKept q_t_shelves q_t_tape q_t_reader q_t_hiddenWay q_t_sights q_t_choice q_t_refusals), (q_t_refusals, .inl (cy 0, 5, .inl v_t_refusals))]) [0, 2] (by decide) rfl
      refine xcQiQ (w1 := [(q_t, oX7 q_t_now q_t_future q_t_draft q_t_kept v_t_isKept q_t_shelves q_t_tape q_t_reader q_t_hiddenWay q_t_sights q_t_choice q_t_refusals), (q_t_refusals, .inl (cy 0, 5, .inl u10))]) (va_runV (As := [.int x3]) (rest := []) ⟨hx, hb, hml, hown, hts⟩ (mX7_refuse l D cy q_t q_t_now q_t_future q_t_draft q_t_kept q_t_shelves q_t_tape q_t_reader q_t_hiddenWay q_t_sights q_t_choice q_t_refusals v_t_isKept v_t_refusals _ x3 hr11) (cwV 1 hts gX7_set_X7_refuse rfl rfl rfl (by decide +kernel) ⟨Nat.le_of_ble_eq_true rfl, Nat.le_of_ble_eq_true rfl⟩) (xPVw hK hPc hDc (ci := 7) (q0 := 0) rfl rfl) rfl rfl hl.1 rfl (lv_room (Nat.le_of_ble_eq_true rfl)) dX7_set_37 ⟨Nat.le_of_ble_eq_true rfl, Nat.le_of_ble_eq_true rfl⟩) hP hD hS hA [0, 2] rfl rfl (fun H locs hP hD hS => ?_)
      have hP : va_P D vwCl ([(q_t, oX7 q_t_now q_t_future q_t_draft q_t_kept v_t_isKept q_t_shelves q_t_tape q_t_reader q_t_hiddenWay q_t_sights q_t_choice q_t_refusals), (q_t_shelves, .inl (cy 2, 8, .inr (.inr (.inr (.inr (fun i => some (ad_t_shelves i))))))), (q_t_refusals, .inl (cy 0, 5, .inl u10))] ++ wSh cy ad_t_shelves ae_t_shelves v_t_shelves_c v_t_shelves_z v_t_shelves_e) H := hP
      have hD : va_D A ([(q_t, oX7 q_t_now q_t_future q_t_draft q_t_kept v_t_isKept q_t_shelves q_t_tape q_t_reader q_t_hiddenWay q_t_sights q_t_choice q_t_refusals), (q_t_shelves, .inl (cy 2, 8, .inr (.inr (.inr (.inr (fun i => some (ad_t_shelves i))))))), (q_t_refusals, .inl (cy 0, 5, .inl u10))] ++ wSh cy ad_t_shelves ae_t_shelves v_t_shelves_c v_t_shelves_z v_t_shelves_e) := hD
      cases hf
      exact W.iret hx hb hr (fun t ht hW => ⟨⟨_, (), rfl, rfl, xend ht hP⟩, hS.F ht⟩) hS.2.2 dX7_set_40
  · refine lv_if_ne (tgt := 29) hx hb dX7_set_9 (by decide) (fun c18 => ?_) (fun c18 => ?_)
    · have hf := ifF hf c18
      clear c18
      exact J29 r1 _ _ ls ⟨hP, hD, hS, lv_sub hl [0, 1, 2, 3, 4] rfl⟩ hf
    · have hf := ifT hf c18
      clear c18
      refine lv_aload_n hx hb dX7_set_12 rfl (lv_at hl 1 rfl) ?_
      refine va_get (D := D) (ci := 7) (v := .ref q_t_shelves) (C := RX7) (T := TX7) (N := 12) hx hb hts hinX7 hown hK.1 hP 0 rfl rfl 5 (by decide) hk27 (fun _ h9 => h9) rfl dX7_set_13 ?_
      refine lv_iload_n hx hb dX7_set_16 rfl (lv_at hl 2 rfl) ?_
      obtain ⟨hi13, hf⟩ := ckE hf
      have hj14 : p0.toNatClampNeg < 8 := xlt hi13
      refine va_aldq hx hb hK.1 hP 1 2 rfl rfl hi13 dX7_set_17 ?_
      refine W.eq (g2 := F0 m 18 ls [.ref (ad_t_shelves p0.toNatClampNeg)]) rfl ?_
      refine lv_iload_n hx hb dX7_set_18 rfl (lv_at hl 3 rfl) ?_
      obtain ⟨r15, hr16, hf⟩ := boE1 hf
      have hPc := xshP hP hj14
      refine xcSi (va_runV (As := [.int p1]) (rest := []) ⟨hx, hb, hml, hown, hts⟩ (mX2_hasElement l D cy (ad_t_shelves p0.toNatClampNeg) (ae_t_shelves p0.toNatClampNeg) (v_t_shelves_c p0.toNatClampNeg) (v_t_shelves_z p0.toNatClampNeg) (v_t_shelves_e p0.toNatClampNeg)  p1 hr16) (cwV 1 hts gX7_set_X2_hasElement rfl rfl rfl (by decide +kernel) ⟨Nat.le_of_ble_eq_true rfl, Nat.le_of_ble_eq_true rfl⟩) (xPV hK hPc (ci := 2) (q0 := 0) rfl rfl) rfl rfl hl.1 rfl (lv_room (Nat.le_of_ble_eq_true rfl)) dX7_set_19 ⟨Nat.le_of_ble_eq_true rfl, Nat.le_of_ble_eq_true rfl⟩) ?_
      refine lv_if_ne (tgt := 29) hx hb dX7_set_22 (by decide) (fun c17 => ?_) (fun c17 => ?_)
      · have hf := ifF hf c17
        clear c17
        exact J29 r1 _ _ ls ⟨hP, hD, hS, lv_sub hl [0, 1, 2, 3, 4] rfl⟩ hf
      · have hf := ifT hf c17
        clear c17
        refine lv_bipush (v := (-2)) hx hb dX7_set_25 (by decide) ?_
        refine lv_istore (lv' := [(5, .int (-2 : Int32)), (0, .ref q_t), (1, .int p0), (2, .int p1), (3, .long p2)]) hx hb dX7_set_27 hl (by decide) rfl (fun ls hl => ?_)
        exact J29 (-2 : Int32) _ _ ls ⟨hP, hD, hS, lv_sub hl [0, 1, 2, 3, 4] rfl⟩ hf
def fX7_twoRowsReason (v_t_shelves_c : Nat → Int32) (p0 : Int32) (p1 : Int32) : Option (Int32) :=
  bo1 (fX7_rowReason v_t_shelves_c p0) fun r1 =>
  bo1 (fX7_rowReason v_t_shelves_c p1) fun r3 =>
  if r1 = (-2 : Int32) then
    some (-2 : Int32)
  else
    if r3 = (-2 : Int32) then
      some (-2 : Int32)
    else
      if r1 = (-3 : Int32) then
        some (-3 : Int32)
      else
        if r3 = (-3 : Int32) then
          some (-3 : Int32)
        else
          if r1 = (-4 : Int32) then
            some (-4 : Int32)
          else
            if r3 = (-4 : Int32) then
              some (-4 : Int32)
            else
              if p0 < 0 ∨ 8 ≤ p0.toNatClampNeg then none else
              if p1 < 0 ∨ 8 ≤ p1.toNatClampNeg then none else
              if (v_t_shelves_c p0.toNatClampNeg) = (v_t_shelves_c p1.toNatClampNeg) then
                some (0 : Int32)
              else
                some (-3 : Int32)
set_option maxHeartbeats 4000000 in
set_option maxRecDepth 100000 in
theorem mX7_twoRowsReason (l : Launch) (D : va_G) (cy : Nat → ClassId) (q_t q_t_now q_t_future q_t_draft q_t_kept q_t_shelves q_t_tape q_t_reader q_t_hiddenWay q_t_sights q_t_choice q_t_refusals : Nat) (ad_t_shelves ae_t_shelves : Nat → Nat) (v_t_isKept : Int32) (v_t_shelves_c : Nat → Int32) (v_t_shelves_z : Nat → Int32) (v_t_shelves_e : Nat → Nat → Int64) (p0 : Int32) (p1 : Int32) {r_ : Int32} (hf : fX7_twoRowsReason v_t_shelves_c p0 p1 = some r_) : Met l yX7_twoRowsReason wsX7_twoRowsReason ({ frames := 2, cells := 0, slots := 0, locals := 41 }) (va_Pc [.ref q_t, .int p0, .int p1] (fun U => va_P D vwCl ([(q_t, oX7 q_t_now q_t_future q_t_draft q_t_kept v_t_isKept q_t_shelves q_t_tape q_t_reader q_t_hiddenWay q_t_sights q_t_choice q_t_refusals), (q_t_shelves, .inl (cy 2, 8, .inr (.inr (.inr (.inr (fun i => some (ad_t_shelves i)))))))] ++ wSh cy ad_t_shelves ae_t_shelves v_t_shelves_c v_t_shelves_z v_t_shelves_e) U.heap ∧ xK D cy U)) (vp_Si (fun x => x = r_)) 0 0 (fun _ => False) := by
  refine Met.ofW (cc := cX7_twoRowsReason) (maxL := 5) (ret := (some .int)) (by decide) rfl ?_
  intro p e s m args below meth c s₁ B hml hv
  obtain ⟨rfl, hP, hK⟩ := hv
  have hx := B.exec
  have hb := B.bytes
  have hr := B.returns
  have hts := atoms_spec (ws := wsX7_twoRowsReason) B.pre
  have hown : s.vm.findClass RX7 = some m.cls := findClass_of_methodNamed B.named
  have hlocks := B.notSynchronized
  have hP : va_P D vwCl ([(q_t, oX7 q_t_now q_t_future q_t_draft q_t_kept v_t_isKept q_t_shelves q_t_tape q_t_reader q_t_hiddenWay q_t_sights q_t_choice q_t_refusals), (q_t_shelves, .inl (cy 2, 8, .inr (.inr (.inr (.inr (fun i => some (ad_t_shelves i)))))))] ++ wSh cy ad_t_shelves ae_t_shelves v_t_shelves_c v_t_shelves_z v_t_shelves_e) s.heap := hP
  have hinX7 : ∀ w ∈ u_ws RX7 TX7 12, w ∈ wsX7_twoRowsReason := by decide +kernel
  have hk27 := hts (.fieldLink RX7 27 "ShowsWhereNobodyIs" "shelves" "[LShowsWhereNobodyIs$Shelf;") (by decide +kernel)
  have hinX2 : ∀ w ∈ u_ws RX2 TX2 3, w ∈ wsX7_twoRowsReason := by decide +kernel
  have hk109 := hts (.fieldLink RX7 109 "ShowsWhereNobodyIs$Shelf" "content" "I") (by decide +kernel)
  have hl := lv_entry ([.ref q_t, .int p0, .int p1]) (n := 5) (Nat.le_of_ble_eq_true rfl)
  rw [lg_entry_eq]
  generalize (lg_sl ([.ref q_t, .int p0, .int p1]) ++ List.replicate (5 - (lg_sl ([.ref q_t, .int p0, .int p1])).length) Slot.unset).toArray = ls at hl ⊢
  have hl : lv_has ls 5 [(0, .ref q_t), (1, .int p0), (2, .int p1)] := hl
  unfold fX7_twoRowsReason at hf
  refine lv_aload_n hx hb dX7_twoRowsReason_0 rfl (lv_at hl 0 rfl) ?_
  refine lv_iload_n hx hb dX7_twoRowsReason_1 rfl (lv_at hl 1 rfl) ?_
  obtain ⟨r1, hr2, hf⟩ := boE1 hf
  have hPc : va_P D vwCl ([(q_t, oX7 q_t_now q_t_future q_t_draft q_t_kept v_t_isKept q_t_shelves q_t_tape q_t_reader q_t_hiddenWay q_t_sights q_t_choice q_t_refusals), (q_t_shelves, .inl (cy 2, 8, .inr (.inr (.inr (.inr (fun i => some (ad_t_shelves i)))))))] ++ wSh cy ad_t_shelves ae_t_shelves v_t_shelves_c v_t_shelves_z v_t_shelves_e) _ := hP.part [0, 1] rfl
  refine xcSi (va_runV (As := [.int p0]) (rest := []) ⟨hx, hb, hml, hown, hts⟩ (mX7_rowReason l D cy q_t q_t_now q_t_future q_t_draft q_t_kept q_t_shelves q_t_tape q_t_reader q_t_hiddenWay q_t_sights q_t_choice q_t_refusals ad_t_shelves ae_t_shelves v_t_isKept v_t_shelves_c v_t_shelves_z v_t_shelves_e  p0 hr2) (cwV 1 hts gX7_twoRowsReason_X7_rowReason rfl rfl rfl (by decide +kernel) ⟨Nat.le_of_ble_eq_true rfl, Nat.le_of_ble_eq_true rfl⟩) (xPV hK hPc (ci := 7) (q0 := 0) rfl rfl) rfl rfl hl.1 rfl (lv_room (Nat.le_of_ble_eq_true rfl)) dX7_twoRowsReason_2 ⟨Nat.le_of_ble_eq_true rfl, Nat.le_of_ble_eq_true rfl⟩) ?_
  refine lv_istore_n (lv' := [(3, .int r1), (0, .ref q_t), (1, .int p0), (2, .int p1)]) hx hb dX7_twoRowsReason_5 rfl hl (by decide) rfl (fun ls hl => ?_)
  refine lv_aload_n hx hb dX7_twoRowsReason_6 rfl (lv_at hl 1 rfl) ?_
  refine lv_iload_n hx hb dX7_twoRowsReason_7 rfl (lv_at hl 3 rfl) ?_
  obtain ⟨r3, hr4, hf⟩ := boE1 hf
  have hPc : va_P D vwCl ([(q_t, oX7 q_t_now q_t_future q_t_draft q_t_kept v_t_isKept q_t_shelves q_t_tape q_t_reader q_t_hiddenWay q_t_sights q_t_choice q_t_refusals), (q_t_shelves, .inl (cy 2, 8, .inr (.inr (.inr (.inr (fun i => some (ad_t_shelves i)))))))] ++ wSh cy ad_t_shelves ae_t_shelves v_t_shelves_c v_t_shelves_z v_t_shelves_e) _ := hP.part [0, 1] rfl
  refine xcSi (va_runV (As := [.int p1]) (rest := []) ⟨hx, hb, hml, hown, hts⟩ (mX7_rowReason l D cy q_t q_t_now q_t_future q_t_draft q_t_kept q_t_shelves q_t_tape q_t_reader q_t_hiddenWay q_t_sights q_t_choice q_t_refusals ad_t_shelves ae_t_shelves v_t_isKept v_t_shelves_c v_t_shelves_z v_t_shelves_e  p1 hr4) (cwV 1 hts gX7_twoRowsReason_X7_rowReason rfl rfl rfl (by decide +kernel) ⟨Nat.le_of_ble_eq_true rfl, Nat.le_of_ble_eq_true rfl⟩) (xPV hK hPc (ci := 7) (q0 := 0) rfl rfl) rfl rfl hl.1 rfl (lv_room (Nat.le_of_ble_eq_true rfl)) dX7_twoRowsReason_8 ⟨Nat.le_of_ble_eq_true rfl, Nat.le_of_ble_eq_true rfl⟩) ?_
  refine lv_istore (lv' := [(4, .int r3), (3, .int r1), (0, .ref q_t), (1, .int p0), (2, .int p1)]) hx hb dX7_twoRowsReason_11 hl (by decide) rfl (fun ls hl => ?_)
  refine lv_iload_n hx hb dX7_twoRowsReason_13 rfl (lv_at hl 1 rfl) ?_
  refine lv_bipush (v := (-2)) hx hb dX7_twoRowsReason_14 (by decide) ?_
  refine lv_icmp_eq (tgt := 26) hx hb dX7_twoRowsReason_16 (by decide) (fun c15 => ?_) (fun c15 => ?_)
  · have hf := ifT hf c15
    clear c15
    refine lv_bipush (v := (-2)) hx hb dX7_twoRowsReason_26 (by decide) ?_
    exact W.iret (v := (-2 : Int32)) hx hb hr (fun t ht hW => ⟨(-2 : Int32), rfl, Option.some.inj hf, ht⟩) (fun q h => nomatch h) dX7_twoRowsReason_28
  · have hf := ifF hf c15
    clear c15
    refine lv_iload hx hb dX7_twoRowsReason_19 (lv_at hl 0 rfl) ?_
    refine lv_bipush (v := (-2)) hx hb dX7_twoRowsReason_21 (by decide) ?_
    refine lv_icmp_ne (tgt := 29) hx hb dX7_twoRowsReason_23 (by decide) (fun c14 => ?_) (fun c14 => ?_)
    · have hf := ifF hf c14
      clear c14
      refine lv_iload_n hx hb dX7_twoRowsReason_29 rfl (lv_at hl 1 rfl) ?_
      refine lv_bipush (v := (-3)) hx hb dX7_twoRowsReason_30 (by decide) ?_
      refine lv_icmp_eq (tgt := 42) hx hb dX7_twoRowsReason_32 (by decide) (fun c13 => ?_) (fun c13 => ?_)
      · have hf := ifT hf c13
        clear c13
        refine lv_bipush (v := (-3)) hx hb dX7_twoRowsReason_42 (by decide) ?_
        exact W.iret (v := (-3 : Int32)) hx hb hr (fun t ht hW => ⟨(-3 : Int32), rfl, Option.some.inj hf, ht⟩) (fun q h => nomatch h) dX7_twoRowsReason_44
      · have hf := ifF hf c13
        clear c13
        refine lv_iload hx hb dX7_twoRowsReason_35 (lv_at hl 0 rfl) ?_
        refine lv_bipush (v := (-3)) hx hb dX7_twoRowsReason_37 (by decide) ?_
        refine lv_icmp_ne (tgt := 45) hx hb dX7_twoRowsReason_39 (by decide) (fun c12 => ?_) (fun c12 => ?_)
        · have hf := ifF hf c12
          clear c12
          refine lv_iload_n hx hb dX7_twoRowsReason_45 rfl (lv_at hl 1 rfl) ?_
          refine lv_bipush (v := (-4)) hx hb dX7_twoRowsReason_46 (by decide) ?_
          refine lv_icmp_eq (tgt := 58) hx hb dX7_twoRowsReason_48 (by decide) (fun c11 => ?_) (fun c11 => ?_)
          · have hf := ifT hf c11
            clear c11
            refine lv_bipush (v := (-4)) hx hb dX7_twoRowsReason_58 (by decide) ?_
            exact W.iret (v := (-4 : Int32)) hx hb hr (fun t ht hW => ⟨(-4 : Int32), rfl, Option.some.inj hf, ht⟩) (fun q h => nomatch h) dX7_twoRowsReason_60
          · have hf := ifF hf c11
            clear c11
            refine lv_iload hx hb dX7_twoRowsReason_51 (lv_at hl 0 rfl) ?_
            refine lv_bipush (v := (-4)) hx hb dX7_twoRowsReason_53 (by decide) ?_
            refine lv_icmp_ne (tgt := 61) hx hb dX7_twoRowsReason_55 (by decide) (fun c10 => ?_) (fun c10 => ?_)
            · have hf := ifF hf c10
              clear c10
              refine lv_aload_n hx hb dX7_twoRowsReason_61 rfl (lv_at hl 2 rfl) ?_
              refine va_get (D := D) (ci := 7) (v := .ref q_t_shelves) (C := RX7) (T := TX7) (N := 12) hx hb hts hinX7 hown hK.1 hP 0 rfl rfl 5 (by decide) hk27 (fun _ h9 => h9) rfl dX7_twoRowsReason_62 ?_
              refine lv_iload_n hx hb dX7_twoRowsReason_65 rfl (lv_at hl 3 rfl) ?_
              obtain ⟨hi5, hf⟩ := ckE hf
              have hj6 : p0.toNatClampNeg < 8 := xlt hi5
              refine va_aldq hx hb hK.1 hP 1 2 rfl rfl hi5 dX7_twoRowsReason_66 ?_
              refine W.eq (g2 := F0 m 67 ls [.ref (ad_t_shelves p0.toNatClampNeg)]) rfl ?_
              refine va_get (D := D) (ci := 2) (v := .int (v_t_shelves_c p0.toNatClampNeg)) (C := RX2) (T := TX2) (N := 3) hx hb hts hinX2 hown hK.1 hP _ (xsh_o hj6) rfl 0 (by decide) hk109 (fun _ h9 => h9) rfl dX7_twoRowsReason_67 ?_
              refine lv_aload_n hx hb dX7_twoRowsReason_70 rfl (lv_at hl 2 rfl) ?_
              refine va_get (D := D) (ci := 7) (v := .ref q_t_shelves) (C := RX7) (T := TX7) (N := 12) hx hb hts hinX7 hown hK.1 hP 0 rfl rfl 5 (by decide) hk27 (fun _ h9 => h9) rfl dX7_twoRowsReason_71 ?_
              refine lv_iload_n hx hb dX7_twoRowsReason_74 rfl (lv_at hl 4 rfl) ?_
              obtain ⟨hi7, hf⟩ := ckE hf
              have hj8 : p1.toNatClampNeg < 8 := xlt hi7
              refine va_aldq hx hb hK.1 hP 1 2 rfl rfl hi7 dX7_twoRowsReason_75 ?_
              refine W.eq (g2 := F0 m 76 ls [.ref (ad_t_shelves p1.toNatClampNeg), .int (v_t_shelves_c p0.toNatClampNeg)]) rfl ?_
              refine va_get (D := D) (ci := 2) (v := .int (v_t_shelves_c p1.toNatClampNeg)) (C := RX2) (T := TX2) (N := 3) hx hb hts hinX2 hown hK.1 hP _ (xsh_o hj8) rfl 0 (by decide) hk109 (fun _ h9 => h9) rfl dX7_twoRowsReason_76 ?_
              refine lv_icmp_ne (tgt := 86) hx hb dX7_twoRowsReason_79 (by decide) (fun c9 => ?_) (fun c9 => ?_)
              · have hf := ifF hf c9
                clear c9
                refine lv_bipush (v := (-3)) hx hb dX7_twoRowsReason_86 (by decide) ?_
                exact W.iret (v := (-3 : Int32)) hx hb hr (fun t ht hW => ⟨(-3 : Int32), rfl, Option.some.inj hf, ht⟩) (fun q h => nomatch h) dX7_twoRowsReason_88
              · have hf := ifT hf c9
                clear c9
                refine lv_iconst (v := 0) hx hb dX7_twoRowsReason_82 (by decide) ?_
                refine lv_goto (tgt := 88) hx hb dX7_twoRowsReason_83 (by decide) ?_
                exact W.iret (v := (0 : Int32)) hx hb hr (fun t ht hW => ⟨(0 : Int32), rfl, Option.some.inj hf, ht⟩) (fun q h => nomatch h) dX7_twoRowsReason_88
            · have hf := ifT hf c10
              clear c10
              refine lv_bipush (v := (-4)) hx hb dX7_twoRowsReason_58 (by decide) ?_
              exact W.iret (v := (-4 : Int32)) hx hb hr (fun t ht hW => ⟨(-4 : Int32), rfl, Option.some.inj hf, ht⟩) (fun q h => nomatch h) dX7_twoRowsReason_60
        · have hf := ifT hf c12
          clear c12
          refine lv_bipush (v := (-3)) hx hb dX7_twoRowsReason_42 (by decide) ?_
          exact W.iret (v := (-3 : Int32)) hx hb hr (fun t ht hW => ⟨(-3 : Int32), rfl, Option.some.inj hf, ht⟩) (fun q h => nomatch h) dX7_twoRowsReason_44
    · have hf := ifT hf c14
      clear c14
      refine lv_bipush (v := (-2)) hx hb dX7_twoRowsReason_26 (by decide) ?_
      exact W.iret (v := (-2 : Int32)) hx hb hr (fun t ht hW => ⟨(-2 : Int32), rfl, Option.some.inj hf, ht⟩) (fun q h => nomatch h) dX7_twoRowsReason_28
def fX7_copy (v_t_refusals : Nat → Int32) (v_t_shelves_c : Nat → Int32) (v_t_shelves_z : Nat → Int32) (v_t_shelves_e : Nat → Nat → Int64) (p0 : Int32) (p1 : Int32) (p2 : Int32) (p3 : Int32) (p4 : Int32) : Option (Int32 × (Nat → Int32) × (Nat → Nat → Int64)) :=
  bo1 (fX7_twoRowsReason v_t_shelves_c p0 p1) fun r1 =>
  jo1 (fun (x3 : Int32) =>
    if x3 = 0 then
      if p0 < 0 ∨ 8 ≤ p0.toNatClampNeg then none else
      if p1 < 0 ∨ 8 ≤ p1.toNatClampNeg then none else
      if p2 < 0 ∨ p3 < 0 ∨ p4 < 0 ∨ 40 < p2.toNatClampNeg + p4.toNatClampNeg ∨ 40 < p3.toNatClampNeg + p4.toNatClampNeg then none else
      some (p4, v_t_refusals, va_up v_t_shelves_e p1.toNatClampNeg (va_cpy (v_t_shelves_e p0.toNatClampNeg) (v_t_shelves_e p1.toNatClampNeg) p2.toNatClampNeg p3.toNatClampNeg p4.toNatClampNeg))
    else
      bo2 (fX7_refuse v_t_refusals x3) fun r10 u11 =>
      some (r10, u11, v_t_shelves_e)) fun k4 =>
  if r1 = 0 then
    if p0 < 0 ∨ 8 ≤ p0.toNatClampNeg then none else
    bo1 (fX2_hasElements (v_t_shelves_z p0.toNatClampNeg) p2 p4) fun r16 =>
    jo0 (
      k4 (-2 : Int32)) fun k18 =>
    if r16 = 0 then
      k18
    else
      if p1 < 0 ∨ 8 ≤ p1.toNatClampNeg then none else
      bo1 (fX2_hasElements (v_t_shelves_z p1.toNatClampNeg) p3 p4) fun r21 =>
      if r21 = 0 then
        k18
      else
        k4 r1
  else
    k4 r1
set_option maxHeartbeats 4000000 in
set_option maxRecDepth 100000 in
theorem mX7_copy (l : Launch) (D : va_G) (cy : Nat → ClassId) (q_t q_t_now q_t_future q_t_draft q_t_kept q_t_shelves q_t_tape q_t_reader q_t_hiddenWay q_t_sights q_t_choice q_t_refusals : Nat) (ad_t_shelves ae_t_shelves : Nat → Nat) (v_t_isKept : Int32) (v_t_refusals : Nat → Int32) (v_t_shelves_c : Nat → Int32) (v_t_shelves_z : Nat → Int32) (v_t_shelves_e : Nat → Nat → Int64) (sz : Nat) (p0 : Int32) (p1 : Int32) (p2 : Int32) (p3 : Int32) (p4 : Int32) {r_ : Int32} {n_t_refusals : Nat → Int32} {n_t_shelves_e : Nat → Nat → Int64} (hf : fX7_copy v_t_refusals v_t_shelves_c v_t_shelves_z v_t_shelves_e p0 p1 p2 p3 p4 = some (r_, n_t_refusals, n_t_shelves_e)) : Met l yX7_copy wsX7_copy ({ frames := 3, cells := 0, slots := 0, locals := 65 }) (va_Pc [.ref q_t, .int p0, .int p1, .int p2, .int p3, .int p4] (fun U => U.heap.size = sz ∧ va_P D vwCl ([(q_t, oX7 q_t_now q_t_future q_t_draft q_t_kept v_t_isKept q_t_shelves q_t_tape q_t_reader q_t_hiddenWay q_t_sights q_t_choice q_t_refusals), (q_t_shelves, .inl (cy 2, 8, .inr (.inr (.inr (.inr (fun i => some (ad_t_shelves i))))))), (q_t_refusals, .inl (cy 0, 5, .inl v_t_refusals))] ++ wSh cy ad_t_shelves ae_t_shelves v_t_shelves_c v_t_shelves_z v_t_shelves_e) U.heap ∧ xK D cy U ∧ va_D (fun _ => True) ([(q_t, oX7 q_t_now q_t_future q_t_draft q_t_kept v_t_isKept q_t_shelves q_t_tape q_t_reader q_t_hiddenWay q_t_sights q_t_choice q_t_refusals), (q_t_shelves, .inl (cy 2, 8, .inr (.inr (.inr (.inr (fun i => some (ad_t_shelves i))))))), (q_t_refusals, .inl (cy 0, 5, .inl v_t_refusals))] ++ wSh cy ad_t_shelves ae_t_shelves v_t_shelves_c v_t_shelves_z v_t_shelves_e))) (va_Qi (fun (x : Int32) (_ : Unit) => x = r_) (fun _ t => va_P D vwCl ([(q_t, oX7 q_t_now q_t_future q_t_draft q_t_kept v_t_isKept q_t_shelves q_t_tape q_t_reader q_t_hiddenWay q_t_sights q_t_choice q_t_refusals), (q_t_shelves, .inl (cy 2, 8, .inr (.inr (.inr (.inr (fun i => some (ad_t_shelves i))))))), (q_t_refusals, .inl (cy 0, 5, .inl n_t_refusals))] ++ wSh cy ad_t_shelves ae_t_shelves v_t_shelves_c v_t_shelves_z n_t_shelves_e) t.heap) (va_A ([(q_t, oX7 q_t_now q_t_future q_t_draft q_t_kept v_t_isKept q_t_shelves q_t_tape q_t_reader q_t_hiddenWay q_t_sights q_t_choice q_t_refusals), (q_t_shelves, .inl (cy 2, 8, .inr (.inr (.inr (.inr (fun i => some (ad_t_shelves i))))))), (q_t_refusals, .inl (cy 0, 5, .inl v_t_refusals))] ++ wSh cy ad_t_shelves ae_t_shelves v_t_shelves_c v_t_shelves_z v_t_shelves_e) sz)) 0 0 (va_A ([(q_t, oX7 q_t_now q_t_future q_t_draft q_t_kept v_t_isKept q_t_shelves q_t_tape q_t_reader q_t_hiddenWay q_t_sights q_t_choice q_t_refusals), (q_t_shelves, .inl (cy 2, 8, .inr (.inr (.inr (.inr (fun i => some (ad_t_shelves i))))))), (q_t_refusals, .inl (cy 0, 5, .inl v_t_refusals))] ++ wSh cy ad_t_shelves ae_t_shelves v_t_shelves_c v_t_shelves_z v_t_shelves_e) sz) := by
  refine Met.ofW (cc := cX7_copy) (maxL := 7) (ret := (some .int)) (by decide) rfl ?_
  intro p e s m args below meth c s₁ B hml hv
  obtain ⟨rfl, hsz, hP, hK, hD0⟩ := hv
  have hx := B.exec
  have hb := B.bytes
  have hr := B.returns
  have hts := atoms_spec (ws := wsX7_copy) B.pre
  have hown : s.vm.findClass RX7 = some m.cls := findClass_of_methodNamed B.named
  have hlocks := B.notSynchronized
  subst hsz
  have hD := hD0.self (sz := s.heap.size)
  generalize hAe : va_A ([(q_t, oX7 q_t_now q_t_future q_t_draft q_t_kept v_t_isKept q_t_shelves q_t_tape q_t_reader q_t_hiddenWay q_t_sights q_t_choice q_t_refusals), (q_t_shelves, .inl (cy 2, 8, .inr (.inr (.inr (.inr (fun i => some (ad_t_shelves i))))))), (q_t_refusals, .inl (cy 0, 5, .inl v_t_refusals))] ++ wSh cy ad_t_shelves ae_t_shelves v_t_shelves_c v_t_shelves_z v_t_shelves_e) s.heap.size = A at hD ⊢
  have hA : ∀ q : Nat, s.heap.size ≤ q → A q := fun q h => by rw [← hAe]; exact Or.inr h
  have hS : va_S A s.heap s.heap [] := va_S.rf
  have hP : va_P D vwCl ([(q_t, oX7 q_t_now q_t_future q_t_draft q_t_kept v_t_isKept q_t_shelves q_t_tape q_t_reader q_t_hiddenWay q_t_sights q_t_choice q_t_refusals), (q_t_shelves, .inl (cy 2, 8, .inr (.inr (.inr (.inr (fun i => some (ad_t_shelves i))))))), (q_t_refusals, .inl (cy 0, 5, .inl v_t_refusals))] ++ wSh cy ad_t_shelves ae_t_shelves v_t_shelves_c v_t_shelves_z v_t_shelves_e) s.heap := hP
  have hinX7 : ∀ w ∈ u_ws RX7 TX7 12, w ∈ wsX7_copy := by decide +kernel
  have hk27 := hts (.fieldLink RX7 27 "ShowsWhereNobodyIs" "shelves" "[LShowsWhereNobodyIs$Shelf;") (by decide +kernel)
  have hinX2 : ∀ w ∈ u_ws RX2 TX2 3, w ∈ wsX7_copy := by decide +kernel
  have hk99 := hts (.fieldLink RX7 99 "ShowsWhereNobodyIs$Shelf" "elements" "[J") (by decide +kernel)
  have hm103 := hts (.methodLink RX7 103 arraycopyName) (by decide +kernel)
  have hmn := hts (.native arraycopyName) (by decide +kernel)
  have hmst := hts (.static arraycopyName) (by decide +kernel)
  have hmi := hts (.initialized "java/lang/System") (by decide +kernel)
  have hl := lv_entry ([.ref q_t, .int p0, .int p1, .int p2, .int p3, .int p4]) (n := 7) (Nat.le_of_ble_eq_true rfl)
  rw [lg_entry_eq]
  generalize (lg_sl ([.ref q_t, .int p0, .int p1, .int p2, .int p3, .int p4]) ++ List.replicate (7 - (lg_sl ([.ref q_t, .int p0, .int p1, .int p2, .int p3, .int p4])).length) Slot.unset).toArray = ls at hl ⊢
  have hl : lv_has ls 7 [(0, .ref q_t), (1, .int p0), (2, .int p1), (3, .int p2), (4, .int p3), (5, .int p4)] := hl
  unfold fX7_copy at hf
  refine lv_aload_n hx hb dX7_copy_0 rfl (lv_at hl 0 rfl) ?_
  refine lv_iload_n hx hb dX7_copy_1 rfl (lv_at hl 1 rfl) ?_
  refine lv_iload_n hx hb dX7_copy_2 rfl (lv_at hl 2 rfl) ?_
  obtain ⟨r1, hr2, hf⟩ := boE1 hf
  have hPc : va_P D vwCl ([(q_t, oX7 q_t_now q_t_future q_t_draft q_t_kept v_t_isKept q_t_shelves q_t_tape q_t_reader q_t_hiddenWay q_t_sights q_t_choice q_t_refusals), (q_t_shelves, .inl (cy 2, 8, .inr (.inr (.inr (.inr (fun i => some (ad_t_shelves i)))))))] ++ wSh cy ad_t_shelves ae_t_shelves v_t_shelves_c v_t_shelves_z v_t_shelves_e) _ := hP.part [0, 1] rfl
  refine xcSi (va_runV (As := [.int p0, .int p1]) (rest := []) ⟨hx, hb, hml, hown, hts⟩ (mX7_twoRowsReason l D cy q_t q_t_now q_t_future q_t_draft q_t_kept q_t_shelves q_t_tape q_t_reader q_t_hiddenWay q_t_sights q_t_choice q_t_refusals ad_t_shelves ae_t_shelves v_t_isKept v_t_shelves_c v_t_shelves_z v_t_shelves_e  p0 p1 hr2) (cwV 2 hts gX7_copy_X7_twoRowsReason rfl rfl rfl (by decide +kernel) ⟨Nat.le_of_ble_eq_true rfl, Nat.le_of_ble_eq_true rfl⟩) (xPV hK hPc (ci := 7) (q0 := 0) rfl rfl) rfl rfl hl.1 rfl (lv_room (Nat.le_of_ble_eq_true rfl)) dX7_copy_3 ⟨Nat.le_of_ble_eq_true rfl, Nat.le_of_ble_eq_true rfl⟩) ?_
  refine lv_istore (lv' := [(6, .int r1), (0, .ref q_t), (1, .int p0), (2, .int p1), (3, .int p2), (4, .int p3), (5, .int p4)]) hx hb dX7_copy_6 hl (by decide) rfl (fun ls hl => ?_)
  refine lv_iload hx hb dX7_copy_8 (lv_at hl 0 rfl) ?_
  refine jww1 48 (fun (x3 : Int32) => []) (fun (x3 : Int32) H locs ls => va_P D vwCl ([(q_t, oX7 q_t_now q_t_future q_t_draft q_t_kept v_t_isKept q_t_shelves q_t_tape q_t_reader q_t_hiddenWay q_t_sights q_t_choice q_t_refusals), (q_t_shelves, .inl (cy 2, 8, .inr (.inr (.inr (.inr (fun i => some (ad_t_shelves i))))))), (q_t_refusals, .inl (cy 0, 5, .inl v_t_refusals))] ++ wSh cy ad_t_shelves ae_t_shelves v_t_shelves_c v_t_shelves_z v_t_shelves_e) H ∧ va_D A ([(q_t, oX7 q_t_now q_t_future q_t_draft q_t_kept v_t_isKept q_t_shelves q_t_tape q_t_reader q_t_hiddenWay q_t_sights q_t_choice q_t_refusals), (q_t_shelves, .inl (cy 2, 8, .inr (.inr (.inr (.inr (fun i => some (ad_t_shelves i))))))), (q_t_refusals, .inl (cy 0, 5, .inl v_t_refusals))] ++ wSh cy ad_t_shelves ae_t_shelves v_t_shelves_c v_t_shelves_z v_t_shelves_e) ∧ va_S A s.heap H locs ∧ lv_has ls 7 [(6, .int x3), (0, .ref q_t), (1, .int p0), (2, .int p1), (3, .int p2), (4, .int p3), (5, .int p4)]) hf (fun x3 H locs ls hI hf => ?_) (fun k4 J48 hf => ?_)
  · obtain ⟨hP, hD, hS, hl⟩ := hI
    refine lv_iload hx hb dX7_copy_48 (lv_at hl 0 rfl) ?_
    refine lv_if_eq (tgt := 60) hx hb dX7_copy_50 (by decide) (fun c13 => ?_) (fun c13 => ?_)
    · have hf := ifT hf c13
      clear c13
      refine lv_aload_n hx hb dX7_copy_60 rfl (lv_at hl 1 rfl) ?_
      refine va_get (D := D) (ci := 7) (v := .ref q_t_shelves) (C := RX7) (T := TX7) (N := 12) hx hb hts hinX7 hown hK.1 hP 0 rfl rfl 5 (by decide) hk27 (fun _ h9 => h9) rfl dX7_copy_61 ?_
      refine lv_iload_n hx hb dX7_copy_64 rfl (lv_at hl 2 rfl) ?_
      obtain ⟨hi5, hf⟩ := ckE hf
      have hj6 : p0.toNatClampNeg < 8 := xlt hi5
      refine va_aldq hx hb hK.1 hP 1 2 rfl rfl hi5 dX7_copy_65 ?_
      refine W.eq (g2 := F0 m 66 ls [.ref (ad_t_shelves p0.toNatClampNeg)]) rfl ?_
      refine va_get (D := D) (ci := 2) (v := .ref (ae_t_shelves p0.toNatClampNeg)) (C := RX2) (T := TX2) (N := 3) hx hb hts hinX2 hown hK.1 hP _ (xsh_o hj6) rfl 2 (by decide) hk99 (fun _ h9 => h9) rfl dX7_copy_66 ?_
      refine lv_iload_n hx hb dX7_copy_69 rfl (lv_at hl 4 rfl) ?_
      refine lv_aload_n hx hb dX7_copy_70 rfl (lv_at hl 1 rfl) ?_
      refine va_get (D := D) (ci := 7) (v := .ref q_t_shelves) (C := RX7) (T := TX7) (N := 12) hx hb hts hinX7 hown hK.1 hP 0 rfl rfl 5 (by decide) hk27 (fun _ h9 => h9) rfl dX7_copy_71 ?_
      refine lv_iload_n hx hb dX7_copy_74 rfl (lv_at hl 3 rfl) ?_
      obtain ⟨hi7, hf⟩ := ckE hf
      have hj8 : p1.toNatClampNeg < 8 := xlt hi7
      refine va_aldq hx hb hK.1 hP 1 2 rfl rfl hi7 dX7_copy_75 ?_
      refine W.eq (g2 := F0 m 76 ls [.ref (ad_t_shelves p1.toNatClampNeg), .int p2, .ref (ae_t_shelves p0.toNatClampNeg)]) rfl ?_
      refine va_get (D := D) (ci := 2) (v := .ref (ae_t_shelves p1.toNatClampNeg)) (C := RX2) (T := TX2) (N := 3) hx hb hts hinX2 hown hK.1 hP _ (xsh_o hj8) rfl 2 (by decide) hk99 (fun _ h9 => h9) rfl dX7_copy_76 ?_
      refine lv_iload hx hb dX7_copy_79 (lv_at hl 5 rfl) ?_
      refine lv_iload hx hb dX7_copy_81 (lv_at hl 6 rfl) ?_
      obtain ⟨hn9, hf⟩ := ckE hf
      refine va_copyl hx hb (by rw [hml]; exact hl.1.symm) hown hm103 hmn hmst hmi hK.1 hP hD hS _ _ 1 1 (xsh_e hj6) (xsh_e hj8) rfl rfl rfl (fun h => hn9 (Or.inl h)) (fun h => hn9 (Or.inr (Or.inl h))) (fun h => hn9 (Or.inr (Or.inr (Or.inl h)))) (Nat.not_lt.mp fun h => hn9 (Or.inr (Or.inr (Or.inr (Or.inl h))))) (Nat.not_lt.mp fun h => hn9 (Or.inr (Or.inr (Or.inr (Or.inr h))))) (fun _ _ => rfl) (Nat.le_of_ble_eq_true rfl) (by decide) dX7_copy_83 (fun H locs hP hD hS => ?_)
      rw [xsh_setE hj8] at hP hD
      have hP : va_P D vwCl ([(q_t, oX7 q_t_now q_t_future q_t_draft q_t_kept v_t_isKept q_t_shelves q_t_tape q_t_reader q_t_hiddenWay q_t_sights q_t_choice q_t_refusals), (q_t_shelves, .inl (cy 2, 8, .inr (.inr (.inr (.inr (fun i => some (ad_t_shelves i))))))), (q_t_refusals, .inl (cy 0, 5, .inl v_t_refusals))] ++ wSh cy ad_t_shelves ae_t_shelves v_t_shelves_c v_t_shelves_z (va_up v_t_shelves_e p1.toNatClampNeg (va_cpy (v_t_shelves_e p0.toNatClampNeg) (v_t_shelves_e p1.toNatClampNeg) p2.toNatClampNeg p3.toNatClampNeg p4.toNatClampNeg))) H := hP
      have hD : va_D A ([(q_t, oX7 q_t_now q_t_future q_t_draft q_t_kept v_t_isKept q_t_shelves q_t_tape q_t_reader q_t_hiddenWay q_t_sights q_t_choice q_t_refusals), (q_t_shelves, .inl (cy 2, 8, .inr (.inr (.inr (.inr (fun i => some (ad_t_shelves i))))))), (q_t_refusals, .inl (cy 0, 5, .inl v_t_refusals))] ++ wSh cy ad_t_shelves ae_t_shelves v_t_shelves_c v_t_shelves_z (va_up v_t_shelves_e p1.toNatClampNeg (va_cpy (v_t_shelves_e p0.toNatClampNeg) (v_t_shelves_e p1.toNatClampNeg) p2.toNatClampNeg p3.toNatClampNeg p4.toNatClampNeg))) := hD
      refine lv_iload hx hb dX7_copy_86 (lv_at hl 6 rfl) ?_
      cases hf
      exact W.iret hx hb hr (fun t ht hW => ⟨⟨_, (), rfl, rfl, xend ht hP⟩, hS.F ht⟩) hS.2.2 dX7_copy_88
    · have hf := ifF hf c13
      clear c13
      refine lv_aload_n hx hb dX7_copy_53 rfl (lv_at hl 1 rfl) ?_
      refine lv_iload hx hb dX7_copy_54 (lv_at hl 0 rfl) ?_
      obtain ⟨r10, u11, hr12, hf⟩ := boE2 hf
      have hPc := hP.sub (ws' := [(q_t, oX7 q_t_now q_t_future q_t_draft q_t_kept v_t_isKept q_t_shelves q_t_tape q_t_reader q_t_hiddenWay q_t_sights q_t_choice q_t_refusals), (q_t_refusals, .inl (cy 0, 5, .inl v_t_refusals))]) [0, 2] rfl
      have hDc := hD.sub (ws' := [(q_t, oX7 q_t_now q_t_future q_t_draft q_t_kept v_t_isKept q_t_shelves q_t_tape q_t_reader q_t_hiddenWay q_t_sights q_t_choice q_t_refusals), (q_t_refusals, .inl (cy 0, 5, .inl v_t_refusals))]) [0, 2] (by decide) rfl
      refine xcQiQ (w1 := [(q_t, oX7 q_t_now q_t_future q_t_draft q_t_kept v_t_isKept q_t_shelves q_t_tape q_t_reader q_t_hiddenWay q_t_sights q_t_choice q_t_refusals), (q_t_refusals, .inl (cy 0, 5, .inl u11))]) (va_runV (As := [.int x3]) (rest := []) ⟨hx, hb, hml, hown, hts⟩ (mX7_refuse l D cy q_t q_t_now q_t_future q_t_draft q_t_kept q_t_shelves q_t_tape q_t_reader q_t_hiddenWay q_t_sights q_t_choice q_t_refusals v_t_isKept v_t_refusals _ x3 hr12) (cwV 1 hts gX7_copy_X7_refuse rfl rfl rfl (by decide +kernel) ⟨Nat.le_of_ble_eq_true rfl, Nat.le_of_ble_eq_true rfl⟩) (xPVw hK hPc hDc (ci := 7) (q0 := 0) rfl rfl) rfl rfl hl.1 rfl (lv_room (Nat.le_of_ble_eq_true rfl)) dX7_copy_56 ⟨Nat.le_of_ble_eq_true rfl, Nat.le_of_ble_eq_true rfl⟩) hP hD hS hA [0, 2] rfl rfl (fun H locs hP hD hS => ?_)
      have hP : va_P D vwCl ([(q_t, oX7 q_t_now q_t_future q_t_draft q_t_kept v_t_isKept q_t_shelves q_t_tape q_t_reader q_t_hiddenWay q_t_sights q_t_choice q_t_refusals), (q_t_shelves, .inl (cy 2, 8, .inr (.inr (.inr (.inr (fun i => some (ad_t_shelves i))))))), (q_t_refusals, .inl (cy 0, 5, .inl u11))] ++ wSh cy ad_t_shelves ae_t_shelves v_t_shelves_c v_t_shelves_z v_t_shelves_e) H := hP
      have hD : va_D A ([(q_t, oX7 q_t_now q_t_future q_t_draft q_t_kept v_t_isKept q_t_shelves q_t_tape q_t_reader q_t_hiddenWay q_t_sights q_t_choice q_t_refusals), (q_t_shelves, .inl (cy 2, 8, .inr (.inr (.inr (.inr (fun i => some (ad_t_shelves i))))))), (q_t_refusals, .inl (cy 0, 5, .inl u11))] ++ wSh cy ad_t_shelves ae_t_shelves v_t_shelves_c v_t_shelves_z v_t_shelves_e) := hD
      cases hf
      exact W.iret hx hb hr (fun t ht hW => ⟨⟨_, (), rfl, rfl, xend ht hP⟩, hS.F ht⟩) hS.2.2 dX7_copy_59
  · refine lv_if_ne (tgt := 48) hx hb dX7_copy_10 (by decide) (fun c25 => ?_) (fun c25 => ?_)
    · have hf := ifF hf c25
      clear c25
      exact J48 r1 _ _ ls ⟨hP, hD, hS, lv_sub hl [0, 1, 2, 3, 4, 5, 6] rfl⟩ hf
    · have hf := ifT hf c25
      clear c25
      refine lv_aload_n hx hb dX7_copy_13 rfl (lv_at hl 1 rfl) ?_
      refine va_get (D := D) (ci := 7) (v := .ref q_t_shelves) (C := RX7) (T := TX7) (N := 12) hx hb hts hinX7 hown hK.1 hP 0 rfl rfl 5 (by decide) hk27 (fun _ h9 => h9) rfl dX7_copy_14 ?_
      refine lv_iload_n hx hb dX7_copy_17 rfl (lv_at hl 2 rfl) ?_
      obtain ⟨hi14, hf⟩ := ckE hf
      have hj15 : p0.toNatClampNeg < 8 := xlt hi14
      refine va_aldq hx hb hK.1 hP 1 2 rfl rfl hi14 dX7_copy_18 ?_
      refine W.eq (g2 := F0 m 19 ls [.ref (ad_t_shelves p0.toNatClampNeg)]) rfl ?_
      refine lv_iload_n hx hb dX7_copy_19 rfl (lv_at hl 4 rfl) ?_
      refine lv_iload hx hb dX7_copy_20 (lv_at hl 6 rfl) ?_
      obtain ⟨r16, hr17, hf⟩ := boE1 hf
      have hPc := xshP hP hj15
      refine xcSi (va_runV (As := [.int p2, .int p4]) (rest := []) ⟨hx, hb, hml, hown, hts⟩ (mX2_hasElements l D cy (ad_t_shelves p0.toNatClampNeg) (ae_t_shelves p0.toNatClampNeg) (v_t_shelves_c p0.toNatClampNeg) (v_t_shelves_z p0.toNatClampNeg) (v_t_shelves_e p0.toNatClampNeg)  p2 p4 hr17) (cwV 2 hts gX7_copy_X2_hasElements rfl rfl rfl (by decide +kernel) ⟨Nat.le_of_ble_eq_true rfl, Nat.le_of_ble_eq_true rfl⟩) (xPV hK hPc (ci := 2) (q0 := 0) rfl rfl) rfl rfl hl.1 rfl (lv_room (Nat.le_of_ble_eq_true rfl)) dX7_copy_22 ⟨Nat.le_of_ble_eq_true rfl, Nat.le_of_ble_eq_true rfl⟩) ?_
      refine jww0 44 [] (fun  H locs ls => va_P D vwCl ([(q_t, oX7 q_t_now q_t_future q_t_draft q_t_kept v_t_isKept q_t_shelves q_t_tape q_t_reader q_t_hiddenWay q_t_sights q_t_choice q_t_refusals), (q_t_shelves, .inl (cy 2, 8, .inr (.inr (.inr (.inr (fun i => some (ad_t_shelves i))))))), (q_t_refusals, .inl (cy 0, 5, .inl v_t_refusals))] ++ wSh cy ad_t_shelves ae_t_shelves v_t_shelves_c v_t_shelves_z v_t_shelves_e) H ∧ va_D A ([(q_t, oX7 q_t_now q_t_future q_t_draft q_t_kept v_t_isKept q_t_shelves q_t_tape q_t_reader q_t_hiddenWay q_t_sights q_t_choice q_t_refusals), (q_t_shelves, .inl (cy 2, 8, .inr (.inr (.inr (.inr (fun i => some (ad_t_shelves i))))))), (q_t_refusals, .inl (cy 0, 5, .inl v_t_refusals))] ++ wSh cy ad_t_shelves ae_t_shelves v_t_shelves_c v_t_shelves_z v_t_shelves_e) ∧ va_S A s.heap H locs ∧ lv_has ls 7 [(0, .ref q_t), (1, .int p0), (2, .int p1), (3, .int p2), (4, .int p3), (5, .int p4)]) hf (fun  H locs ls hI hf => ?_) (fun k18 J44 hf => ?_)
      · obtain ⟨hP, hD, hS, hl⟩ := hI
        refine lv_bipush (v := (-2)) hx hb dX7_copy_44 (by decide) ?_
        refine lv_istore (lv' := [(6, .int (-2 : Int32)), (0, .ref q_t), (1, .int p0), (2, .int p1), (3, .int p2), (4, .int p3), (5, .int p4)]) hx hb dX7_copy_46 hl (by decide) rfl (fun ls hl => ?_)
        exact J48 (-2 : Int32) _ _ ls ⟨hP, hD, hS, lv_sub hl [0, 1, 2, 3, 4, 5, 6] rfl⟩ hf
      · refine lv_if_eq (tgt := 44) hx hb dX7_copy_25 (by decide) (fun c24 => ?_) (fun c24 => ?_)
        · have hf := ifT hf c24
          clear c24
          exact J44 _ _ ls ⟨hP, hD, hS, lv_sub hl [1, 2, 3, 4, 5, 6] rfl⟩ hf
        · have hf := ifF hf c24
          clear c24
          refine lv_aload_n hx hb dX7_copy_28 rfl (lv_at hl 1 rfl) ?_
          refine va_get (D := D) (ci := 7) (v := .ref q_t_shelves) (C := RX7) (T := TX7) (N := 12) hx hb hts hinX7 hown hK.1 hP 0 rfl rfl 5 (by decide) hk27 (fun _ h9 => h9) rfl dX7_copy_29 ?_
          refine lv_iload_n hx hb dX7_copy_32 rfl (lv_at hl 3 rfl) ?_
          obtain ⟨hi19, hf⟩ := ckE hf
          have hj20 : p1.toNatClampNeg < 8 := xlt hi19
          refine va_aldq hx hb hK.1 hP 1 2 rfl rfl hi19 dX7_copy_33 ?_
          refine W.eq (g2 := F0 m 34 ls [.ref (ad_t_shelves p1.toNatClampNeg)]) rfl ?_
          refine lv_iload hx hb dX7_copy_34 (lv_at hl 5 rfl) ?_
          refine lv_iload hx hb dX7_copy_36 (lv_at hl 6 rfl) ?_
          obtain ⟨r21, hr22, hf⟩ := boE1 hf
          have hPc := xshP hP hj20
          refine xcSi (va_runV (As := [.int p3, .int p4]) (rest := []) ⟨hx, hb, hml, hown, hts⟩ (mX2_hasElements l D cy (ad_t_shelves p1.toNatClampNeg) (ae_t_shelves p1.toNatClampNeg) (v_t_shelves_c p1.toNatClampNeg) (v_t_shelves_z p1.toNatClampNeg) (v_t_shelves_e p1.toNatClampNeg)  p3 p4 hr22) (cwV 2 hts gX7_copy_X2_hasElements rfl rfl rfl (by decide +kernel) ⟨Nat.le_of_ble_eq_true rfl, Nat.le_of_ble_eq_true rfl⟩) (xPV hK hPc (ci := 2) (q0 := 0) rfl rfl) rfl rfl hl.1 rfl (lv_room (Nat.le_of_ble_eq_true rfl)) dX7_copy_38 ⟨Nat.le_of_ble_eq_true rfl, Nat.le_of_ble_eq_true rfl⟩) ?_
          refine lv_if_ne (tgt := 48) hx hb dX7_copy_41 (by decide) (fun c23 => ?_) (fun c23 => ?_)
          · have hf := ifF hf c23
            clear c23
            exact J48 r1 _ _ ls ⟨hP, hD, hS, lv_sub hl [0, 1, 2, 3, 4, 5, 6] rfl⟩ hf
          · have hf := ifT hf c23
            clear c23
            exact J44 _ _ ls ⟨hP, hD, hS, lv_sub hl [1, 2, 3, 4, 5, 6] rfl⟩ hf
def fX7_element (v_t_shelves_z : Nat → Int32) (v_t_shelves_e : Nat → Nat → Int64) (p0 : Int32) (p1 : Int32) : Option (Int64) :=
  bo1 (fX7_isShelf p0) fun r1 =>
  if r1 = 0 then
    some (0 : Int64)
  else
    if p0 < 0 ∨ 8 ≤ p0.toNatClampNeg then none else
    bo1 (fX2_hasElement (v_t_shelves_z p0.toNatClampNeg) p1) fun r5 =>
    if r5 = 0 then
      some (0 : Int64)
    else
      if p0 < 0 ∨ 8 ≤ p0.toNatClampNeg then none else
      if p1 < 0 ∨ 40 ≤ p1.toNatClampNeg then none else
      some (v_t_shelves_e p0.toNatClampNeg p1.toNatClampNeg)
set_option maxHeartbeats 4000000 in
set_option maxRecDepth 100000 in
theorem mX7_element (l : Launch) (D : va_G) (cy : Nat → ClassId) (q_t q_t_now q_t_future q_t_draft q_t_kept q_t_shelves q_t_tape q_t_reader q_t_hiddenWay q_t_sights q_t_choice q_t_refusals : Nat) (ad_t_shelves ae_t_shelves : Nat → Nat) (v_t_isKept : Int32) (v_t_shelves_c : Nat → Int32) (v_t_shelves_z : Nat → Int32) (v_t_shelves_e : Nat → Nat → Int64) (p0 : Int32) (p1 : Int32) {r_ : Int64} (hf : fX7_element v_t_shelves_z v_t_shelves_e p0 p1 = some r_) : Met l yX7_element wsX7_element ({ frames := 1, cells := 0, slots := 0, locals := 21 }) (va_Pc [.ref q_t, .int p0, .int p1] (fun U => va_P D vwCl ([(q_t, oX7 q_t_now q_t_future q_t_draft q_t_kept v_t_isKept q_t_shelves q_t_tape q_t_reader q_t_hiddenWay q_t_sights q_t_choice q_t_refusals), (q_t_shelves, .inl (cy 2, 8, .inr (.inr (.inr (.inr (fun i => some (ad_t_shelves i)))))))] ++ wSh cy ad_t_shelves ae_t_shelves v_t_shelves_c v_t_shelves_z v_t_shelves_e) U.heap ∧ xK D cy U)) (vp_Sl (fun x => x = r_)) 0 0 (fun _ => False) := by
  refine Met.ofW (cc := cX7_element) (maxL := 3) (ret := (some .long)) (by decide) rfl ?_
  intro p e s m args below meth c s₁ B hml hv
  obtain ⟨rfl, hP, hK⟩ := hv
  have hx := B.exec
  have hb := B.bytes
  have hr := B.returns
  have hts := atoms_spec (ws := wsX7_element) B.pre
  have hown : s.vm.findClass RX7 = some m.cls := findClass_of_methodNamed B.named
  have hlocks := B.notSynchronized
  have hP : va_P D vwCl ([(q_t, oX7 q_t_now q_t_future q_t_draft q_t_kept v_t_isKept q_t_shelves q_t_tape q_t_reader q_t_hiddenWay q_t_sights q_t_choice q_t_refusals), (q_t_shelves, .inl (cy 2, 8, .inr (.inr (.inr (.inr (fun i => some (ad_t_shelves i)))))))] ++ wSh cy ad_t_shelves ae_t_shelves v_t_shelves_c v_t_shelves_z v_t_shelves_e) s.heap := hP
  have hinX7 : ∀ w ∈ u_ws RX7 TX7 12, w ∈ wsX7_element := by decide +kernel
  have hk27 := hts (.fieldLink RX7 27 "ShowsWhereNobodyIs" "shelves" "[LShowsWhereNobodyIs$Shelf;") (by decide +kernel)
  have hinX2 : ∀ w ∈ u_ws RX2 TX2 3, w ∈ wsX7_element := by decide +kernel
  have hk99 := hts (.fieldLink RX7 99 "ShowsWhereNobodyIs$Shelf" "elements" "[J") (by decide +kernel)
  have hl := lv_entry ([.ref q_t, .int p0, .int p1]) (n := 3) (Nat.le_of_ble_eq_true rfl)
  rw [lg_entry_eq]
  generalize (lg_sl ([.ref q_t, .int p0, .int p1]) ++ List.replicate (3 - (lg_sl ([.ref q_t, .int p0, .int p1])).length) Slot.unset).toArray = ls at hl ⊢
  have hl : lv_has ls 3 [(0, .ref q_t), (1, .int p0), (2, .int p1)] := hl
  unfold fX7_element at hf
  refine lv_iload_n hx hb dX7_element_0 rfl (lv_at hl 1 rfl) ?_
  obtain ⟨r1, hr2, hf⟩ := boE1 hf
  have hPc := hP.sub (ws' := []) [] rfl
  refine xcSi (va_runS (As := [.int p0]) (rest := []) ⟨hx, hb, hml, hown, hts⟩ (mX7_isShelf l D cy    p0 hr2) (va_cwS 1 hts gX7_element_X7_isShelf rfl rfl rfl (by decide +kernel) ⟨Nat.le_of_ble_eq_true rfl, Nat.le_of_ble_eq_true rfl⟩) (xPS hK hPc) rfl rfl hl.1 rfl (lv_room (Nat.le_of_ble_eq_true rfl)) dX7_element_1 ⟨Nat.le_of_ble_eq_true rfl, Nat.le_of_ble_eq_true rfl⟩) ?_
  refine lv_if_eq (tgt := 20) hx hb dX7_element_4 (by decide) (fun c11 => ?_) (fun c11 => ?_)
  · have hf := ifT hf c11
    clear c11
    refine lv_lconst (v := 0) hx hb dX7_element_20 (by decide) ?_
    exact W.lret (v := (0 : Int64)) hx hb hr (fun t ht hW => ⟨(0 : Int64), rfl, Option.some.inj hf, ht⟩) (fun q h => nomatch h) dX7_element_21
  · have hf := ifF hf c11
    clear c11
    refine lv_aload_n hx hb dX7_element_7 rfl (lv_at hl 0 rfl) ?_
    refine va_get (D := D) (ci := 7) (v := .ref q_t_shelves) (C := RX7) (T := TX7) (N := 12) hx hb hts hinX7 hown hK.1 hP 0 rfl rfl 5 (by decide) hk27 (fun _ h9 => h9) rfl dX7_element_8 ?_
    refine lv_iload_n hx hb dX7_element_11 rfl (lv_at hl 1 rfl) ?_
    obtain ⟨hi3, hf⟩ := ckE hf
    have hj4 : p0.toNatClampNeg < 8 := xlt hi3
    refine va_aldq hx hb hK.1 hP 1 2 rfl rfl hi3 dX7_element_12 ?_
    refine W.eq (g2 := F0 m 13 ls [.ref (ad_t_shelves p0.toNatClampNeg)]) rfl ?_
    refine lv_iload_n hx hb dX7_element_13 rfl (lv_at hl 2 rfl) ?_
    obtain ⟨r5, hr6, hf⟩ := boE1 hf
    have hPc := xshP hP hj4
    refine xcSi (va_runV (As := [.int p1]) (rest := []) ⟨hx, hb, hml, hown, hts⟩ (mX2_hasElement l D cy (ad_t_shelves p0.toNatClampNeg) (ae_t_shelves p0.toNatClampNeg) (v_t_shelves_c p0.toNatClampNeg) (v_t_shelves_z p0.toNatClampNeg) (v_t_shelves_e p0.toNatClampNeg)  p1 hr6) (cwV 1 hts gX7_element_X2_hasElement rfl rfl rfl (by decide +kernel) ⟨Nat.le_of_ble_eq_true rfl, Nat.le_of_ble_eq_true rfl⟩) (xPV hK hPc (ci := 2) (q0 := 0) rfl rfl) rfl rfl hl.1 rfl (lv_room (Nat.le_of_ble_eq_true rfl)) dX7_element_14 ⟨Nat.le_of_ble_eq_true rfl, Nat.le_of_ble_eq_true rfl⟩) ?_
    refine lv_if_ne (tgt := 22) hx hb dX7_element_17 (by decide) (fun c10 => ?_) (fun c10 => ?_)
    · have hf := ifF hf c10
      clear c10
      refine lv_aload_n hx hb dX7_element_22 rfl (lv_at hl 0 rfl) ?_
      refine va_get (D := D) (ci := 7) (v := .ref q_t_shelves) (C := RX7) (T := TX7) (N := 12) hx hb hts hinX7 hown hK.1 hP 0 rfl rfl 5 (by decide) hk27 (fun _ h9 => h9) rfl dX7_element_23 ?_
      refine lv_iload_n hx hb dX7_element_26 rfl (lv_at hl 1 rfl) ?_
      obtain ⟨hi7, hf⟩ := ckE hf
      have hj8 : p0.toNatClampNeg < 8 := xlt hi7
      refine va_aldq hx hb hK.1 hP 1 2 rfl rfl hi7 dX7_element_27 ?_
      refine W.eq (g2 := F0 m 28 ls [.ref (ad_t_shelves p0.toNatClampNeg)]) rfl ?_
      refine va_get (D := D) (ci := 2) (v := .ref (ae_t_shelves p0.toNatClampNeg)) (C := RX2) (T := TX2) (N := 3) hx hb hts hinX2 hown hK.1 hP _ (xsh_o hj8) rfl 2 (by decide) hk99 (fun _ h9 => h9) rfl dX7_element_28 ?_
      refine lv_iload_n hx hb dX7_element_31 rfl (lv_at hl 2 rfl) ?_
      obtain ⟨hi9, hf⟩ := ckE hf
      refine va_lald hx hb hK.1 hP _ 1 (xsh_e hj8) rfl hi9 dX7_element_32 ?_
      exact W.lret (v := (v_t_shelves_e p0.toNatClampNeg p1.toNatClampNeg)) hx hb hr (fun t ht hW => ⟨(v_t_shelves_e p0.toNatClampNeg p1.toNatClampNeg), rfl, Option.some.inj hf, ht⟩) (fun q h => nomatch h) dX7_element_33
    · have hf := ifT hf c10
      clear c10
      refine lv_lconst (v := 0) hx hb dX7_element_20 (by decide) ?_
      exact W.lret (v := (0 : Int64)) hx hb hr (fun t ht hW => ⟨(0 : Int64), rfl, Option.some.inj hf, ht⟩) (fun q h => nomatch h) dX7_element_21
def fX7_holds (v_t_shelves_c : Nat → Int32) (p0 : Int32) : Option (Int32) :=
  bo1 (fX7_isShelf p0) fun r1 =>
  if r1 = 0 then
    some (-1 : Int32)
  else
    if p0 < 0 ∨ 8 ≤ p0.toNatClampNeg then none else
    some (v_t_shelves_c p0.toNatClampNeg)
set_option maxHeartbeats 4000000 in
set_option maxRecDepth 100000 in
theorem mX7_holds (l : Launch) (D : va_G) (cy : Nat → ClassId) (q_t q_t_now q_t_future q_t_draft q_t_kept q_t_shelves q_t_tape q_t_reader q_t_hiddenWay q_t_sights q_t_choice q_t_refusals : Nat) (ad_t_shelves ae_t_shelves : Nat → Nat) (v_t_isKept : Int32) (v_t_shelves_c : Nat → Int32) (v_t_shelves_z : Nat → Int32) (v_t_shelves_e : Nat → Nat → Int64) (p0 : Int32) {r_ : Int32} (hf : fX7_holds v_t_shelves_c p0 = some r_) : Met l yX7_holds wsX7_holds ({ frames := 1, cells := 0, slots := 0, locals := 20 }) (va_Pc [.ref q_t, .int p0] (fun U => va_P D vwCl ([(q_t, oX7 q_t_now q_t_future q_t_draft q_t_kept v_t_isKept q_t_shelves q_t_tape q_t_reader q_t_hiddenWay q_t_sights q_t_choice q_t_refusals), (q_t_shelves, .inl (cy 2, 8, .inr (.inr (.inr (.inr (fun i => some (ad_t_shelves i)))))))] ++ wSh cy ad_t_shelves ae_t_shelves v_t_shelves_c v_t_shelves_z v_t_shelves_e) U.heap ∧ xK D cy U)) (vp_Si (fun x => x = r_)) 0 0 (fun _ => False) := by
  refine Met.ofW (cc := cX7_holds) (maxL := 2) (ret := (some .int)) (by decide) rfl ?_
  intro p e s m args below meth c s₁ B hml hv
  obtain ⟨rfl, hP, hK⟩ := hv
  have hx := B.exec
  have hb := B.bytes
  have hr := B.returns
  have hts := atoms_spec (ws := wsX7_holds) B.pre
  have hown : s.vm.findClass RX7 = some m.cls := findClass_of_methodNamed B.named
  have hlocks := B.notSynchronized
  have hP : va_P D vwCl ([(q_t, oX7 q_t_now q_t_future q_t_draft q_t_kept v_t_isKept q_t_shelves q_t_tape q_t_reader q_t_hiddenWay q_t_sights q_t_choice q_t_refusals), (q_t_shelves, .inl (cy 2, 8, .inr (.inr (.inr (.inr (fun i => some (ad_t_shelves i)))))))] ++ wSh cy ad_t_shelves ae_t_shelves v_t_shelves_c v_t_shelves_z v_t_shelves_e) s.heap := hP
  have hinX7 : ∀ w ∈ u_ws RX7 TX7 12, w ∈ wsX7_holds := by decide +kernel
  have hk27 := hts (.fieldLink RX7 27 "ShowsWhereNobodyIs" "shelves" "[LShowsWhereNobodyIs$Shelf;") (by decide +kernel)
  have hinX2 : ∀ w ∈ u_ws RX2 TX2 3, w ∈ wsX7_holds := by decide +kernel
  have hk109 := hts (.fieldLink RX7 109 "ShowsWhereNobodyIs$Shelf" "content" "I") (by decide +kernel)
  have hl := lv_entry ([.ref q_t, .int p0]) (n := 2) (Nat.le_of_ble_eq_true rfl)
  rw [lg_entry_eq]
  generalize (lg_sl ([.ref q_t, .int p0]) ++ List.replicate (2 - (lg_sl ([.ref q_t, .int p0])).length) Slot.unset).toArray = ls at hl ⊢
  have hl : lv_has ls 2 [(0, .ref q_t), (1, .int p0)] := hl
  unfold fX7_holds at hf
  refine lv_iload_n hx hb dX7_holds_0 rfl (lv_at hl 1 rfl) ?_
  obtain ⟨r1, hr2, hf⟩ := boE1 hf
  have hPc := hP.sub (ws' := []) [] rfl
  refine xcSi (va_runS (As := [.int p0]) (rest := []) ⟨hx, hb, hml, hown, hts⟩ (mX7_isShelf l D cy    p0 hr2) (va_cwS 1 hts gX7_holds_X7_isShelf rfl rfl rfl (by decide +kernel) ⟨Nat.le_of_ble_eq_true rfl, Nat.le_of_ble_eq_true rfl⟩) (xPS hK hPc) rfl rfl hl.1 rfl (lv_room (Nat.le_of_ble_eq_true rfl)) dX7_holds_1 ⟨Nat.le_of_ble_eq_true rfl, Nat.le_of_ble_eq_true rfl⟩) ?_
  refine lv_if_eq (tgt := 19) hx hb dX7_holds_4 (by decide) (fun c5 => ?_) (fun c5 => ?_)
  · have hf := ifT hf c5
    clear c5
    refine lv_iconst (v := (-1)) hx hb dX7_holds_19 (by decide) ?_
    exact W.iret (v := (-1 : Int32)) hx hb hr (fun t ht hW => ⟨(-1 : Int32), rfl, Option.some.inj hf, ht⟩) (fun q h => nomatch h) dX7_holds_20
  · have hf := ifF hf c5
    clear c5
    refine lv_aload_n hx hb dX7_holds_7 rfl (lv_at hl 0 rfl) ?_
    refine va_get (D := D) (ci := 7) (v := .ref q_t_shelves) (C := RX7) (T := TX7) (N := 12) hx hb hts hinX7 hown hK.1 hP 0 rfl rfl 5 (by decide) hk27 (fun _ h9 => h9) rfl dX7_holds_8 ?_
    refine lv_iload_n hx hb dX7_holds_11 rfl (lv_at hl 1 rfl) ?_
    obtain ⟨hi3, hf⟩ := ckE hf
    have hj4 : p0.toNatClampNeg < 8 := xlt hi3
    refine va_aldq hx hb hK.1 hP 1 2 rfl rfl hi3 dX7_holds_12 ?_
    refine W.eq (g2 := F0 m 13 ls [.ref (ad_t_shelves p0.toNatClampNeg)]) rfl ?_
    refine va_get (D := D) (ci := 2) (v := .int (v_t_shelves_c p0.toNatClampNeg)) (C := RX2) (T := TX2) (N := 3) hx hb hts hinX2 hown hK.1 hP _ (xsh_o hj4) rfl 0 (by decide) hk109 (fun _ h9 => h9) rfl dX7_holds_13 ?_
    refine lv_goto (tgt := 20) hx hb dX7_holds_16 (by decide) ?_
    exact W.iret (v := (v_t_shelves_c p0.toNatClampNeg)) hx hb hr (fun t ht hW => ⟨(v_t_shelves_c p0.toNatClampNeg), rfl, Option.some.inj hf, ht⟩) (fun q h => nomatch h) dX7_holds_20
def fX7_isPerson (v_t_now_people : Int32) (p0 : Int32) : Option (Int32) :=
  if p0 < 0 then
    some (0 : Int32)
  else
    if v_t_now_people ≤ p0 then
      some (0 : Int32)
    else
      some (1 : Int32)
set_option maxHeartbeats 4000000 in
set_option maxRecDepth 100000 in
theorem mX7_isPerson (l : Launch) (D : va_G) (cy : Nat → ClassId) (q_t q_t_now q_t_future q_t_draft q_t_kept q_t_shelves q_t_tape q_t_reader q_t_hiddenWay q_t_sights q_t_choice q_t_refusals q_t_now_ways q_t_now_distances q_t_now_kind q_t_now_a q_t_now_home q_t_now_aim q_t_now_at : Nat) (v_t_isKept : Int32) (v_t_now_places : Int32) (v_t_now_people : Int32) (v_t_now_hour : Int32) (v_t_now_chance : Int32) (v_t_now_seed : Int32) (p0 : Int32) {r_ : Int32} (hf : fX7_isPerson v_t_now_people p0 = some r_) : Met l yX7_isPerson wsX7_isPerson ({ frames := 0, cells := 0, slots := 0, locals := 0 }) (va_Pc [.ref q_t, .int p0] (fun U => va_P D vwCl [(q_t, oX7 q_t_now q_t_future q_t_draft q_t_kept v_t_isKept q_t_shelves q_t_tape q_t_reader q_t_hiddenWay q_t_sights q_t_choice q_t_refusals), (q_t_now, oX5 v_t_now_places q_t_now_ways q_t_now_distances v_t_now_people q_t_now_kind q_t_now_a q_t_now_home q_t_now_aim q_t_now_at v_t_now_hour v_t_now_chance v_t_now_seed)] U.heap ∧ xK D cy U)) (vp_Si (fun x => x = r_)) 0 0 (fun _ => False) := by
  refine Met.ofW (cc := cX7_isPerson) (maxL := 2) (ret := (some .boolean)) (by decide) rfl ?_
  intro p e s m args below meth c s₁ B hml hv
  obtain ⟨rfl, hP, hK⟩ := hv
  have hx := B.exec
  have hb := B.bytes
  have hr := B.returns
  have hts := atoms_spec (ws := wsX7_isPerson) B.pre
  have hown : s.vm.findClass RX7 = some m.cls := findClass_of_methodNamed B.named
  have hlocks := B.notSynchronized
  have hP : va_P D vwCl [(q_t, oX7 q_t_now q_t_future q_t_draft q_t_kept v_t_isKept q_t_shelves q_t_tape q_t_reader q_t_hiddenWay q_t_sights q_t_choice q_t_refusals), (q_t_now, oX5 v_t_now_places q_t_now_ways q_t_now_distances v_t_now_people q_t_now_kind q_t_now_a q_t_now_home q_t_now_aim q_t_now_at v_t_now_hour v_t_now_chance v_t_now_seed)] s.heap := hP
  have hinX7 : ∀ w ∈ u_ws RX7 TX7 12, w ∈ wsX7_isPerson := by decide +kernel
  have hk10 := hts (.fieldLink RX7 10 "ShowsWhereNobodyIs" "now" "LShowsWhereNobodyIs$Town;") (by decide +kernel)
  have hinX5 : ∀ w ∈ u_ws RX5 TX5 12, w ∈ wsX7_isPerson := by decide +kernel
  have hk171 := hts (.fieldLink RX7 171 "ShowsWhereNobodyIs$Town" "people" "I") (by decide +kernel)
  have hl := lv_entry ([.ref q_t, .int p0]) (n := 2) (Nat.le_of_ble_eq_true rfl)
  rw [lg_entry_eq]
  generalize (lg_sl ([.ref q_t, .int p0]) ++ List.replicate (2 - (lg_sl ([.ref q_t, .int p0])).length) Slot.unset).toArray = ls at hl ⊢
  have hl : lv_has ls 2 [(0, .ref q_t), (1, .int p0)] := hl
  unfold fX7_isPerson at hf
  refine lv_iload_n hx hb dX7_isPerson_0 rfl (lv_at hl 1 rfl) ?_
  refine lv_if_lt (tgt := 19) hx hb dX7_isPerson_1 (by decide) (fun c2 => ?_) (fun c2 => ?_)
  · have hf := ifT hf c2
    clear c2
    refine lv_iconst (v := 0) hx hb dX7_isPerson_19 (by decide) ?_
    exact W.zret (v := (0 : Int32)) hx hb hr rfl (fun t ht hW => ⟨(0 : Int32), rfl, Option.some.inj hf, ht⟩) (fun q h => nomatch h) dX7_isPerson_20
  · have hf := ifF hf c2
    clear c2
    refine lv_iload_n hx hb dX7_isPerson_4 rfl (lv_at hl 1 rfl) ?_
    refine lv_aload_n hx hb dX7_isPerson_5 rfl (lv_at hl 0 rfl) ?_
    refine va_get (D := D) (ci := 7) (v := .ref q_t_now) (C := RX7) (T := TX7) (N := 12) hx hb hts hinX7 hown hK.1 hP 0 rfl rfl 0 (by decide) hk10 (fun _ h9 => h9) rfl dX7_isPerson_6 ?_
    refine va_get (D := D) (ci := 5) (v := .int v_t_now_people) (C := RX5) (T := TX5) (N := 12) hx hb hts hinX5 hown hK.1 hP 1 rfl rfl 3 (by decide) hk171 (fun _ h9 => h9) rfl dX7_isPerson_9 ?_
    refine lv_icmp_ge (tgt := 19) hx hb dX7_isPerson_12 (by decide) (fun c1 => ?_) (fun c1 => ?_)
    · have hf := ifT hf c1
      clear c1
      refine lv_iconst (v := 0) hx hb dX7_isPerson_19 (by decide) ?_
      exact W.zret (v := (0 : Int32)) hx hb hr rfl (fun t ht hW => ⟨(0 : Int32), rfl, Option.some.inj hf, ht⟩) (fun q h => nomatch h) dX7_isPerson_20
    · have hf := ifF hf c1
      clear c1
      refine lv_iconst (v := 1) hx hb dX7_isPerson_15 (by decide) ?_
      refine lv_goto (tgt := 20) hx hb dX7_isPerson_16 (by decide) ?_
      exact W.zret (v := (1 : Int32)) hx hb hr rfl (fun t ht hW => ⟨(1 : Int32), rfl, Option.some.inj hf, ht⟩) (fun q h => nomatch h) dX7_isPerson_20
def fX7_show (v_t_now_people : Int32) (v_t_refusals : Nat → Int32) (v_t_shelves_c : Nat → Int32) (v_t_shelves_z : Nat → Int32) (p0 : Int32) (p1 : Int32) : Option (Int32 × (Nat → Int32) × (Nat → Int32) × (Nat → Int32)) :=
  bo1 (fX7_isShelf p0) fun r1 =>
  jo0 (
    bo2 (fX7_refuse v_t_refusals (-2 : Int32)) fun r4 u5 =>
    some (r4, u5, v_t_shelves_c, v_t_shelves_z)) fun k3 =>
  if r1 = 0 then
    k3
  else
    jo0 (
      if p1 = (-1 : Int32) then
        if p0 < 0 ∨ 8 ≤ p0.toNatClampNeg then none else
        bo2 (fX2_takeNothing) fun u15 u16 =>
        some ((1 : Int32), v_t_refusals, va_up v_t_shelves_c p0.toNatClampNeg u15, va_up v_t_shelves_z p0.toNatClampNeg u16)
      else
        if p0 < 0 ∨ 8 ≤ p0.toNatClampNeg then none else
        bo2 (fX2_takePerson p1) fun u10 u11 =>
        some ((1 : Int32), v_t_refusals, va_up v_t_shelves_c p0.toNatClampNeg u10, va_up v_t_shelves_z p0.toNatClampNeg u11)) fun k7 =>
    if p1 = (-1 : Int32) then
      k7
    else
      bo1 (fX7_isPerson v_t_now_people p1) fun r19 =>
      if r19 = 0 then
        k3
      else
        k7
set_option maxHeartbeats 4000000 in
set_option maxRecDepth 100000 in
theorem mX7_show (l : Launch) (D : va_G) (cy : Nat → ClassId) (q_t q_t_now q_t_future q_t_draft q_t_kept q_t_shelves q_t_tape q_t_reader q_t_hiddenWay q_t_sights q_t_choice q_t_refusals q_t_now_ways q_t_now_distances q_t_now_kind q_t_now_a q_t_now_home q_t_now_aim q_t_now_at : Nat) (ad_t_shelves ae_t_shelves : Nat → Nat) (v_t_isKept : Int32) (v_t_now_places : Int32) (v_t_now_people : Int32) (v_t_now_hour : Int32) (v_t_now_chance : Int32) (v_t_now_seed : Int32) (v_t_refusals : Nat → Int32) (v_t_shelves_c : Nat → Int32) (v_t_shelves_z : Nat → Int32) (v_t_shelves_e : Nat → Nat → Int64) (sz : Nat) (p0 : Int32) (p1 : Int32) {r_ : Int32} {n_t_refusals : Nat → Int32} {n_t_shelves_c : Nat → Int32} {n_t_shelves_z : Nat → Int32} (hf : fX7_show v_t_now_people v_t_refusals v_t_shelves_c v_t_shelves_z p0 p1 = some (r_, n_t_refusals, n_t_shelves_c, n_t_shelves_z)) : Met l yX7_show wsX7_show ({ frames := 1, cells := 0, slots := 0, locals := 22 }) (va_Pc [.ref q_t, .int p0, .int p1] (fun U => U.heap.size = sz ∧ va_P D vwCl ([(q_t, oX7 q_t_now q_t_future q_t_draft q_t_kept v_t_isKept q_t_shelves q_t_tape q_t_reader q_t_hiddenWay q_t_sights q_t_choice q_t_refusals), (q_t_now, oX5 v_t_now_places q_t_now_ways q_t_now_distances v_t_now_people q_t_now_kind q_t_now_a q_t_now_home q_t_now_aim q_t_now_at v_t_now_hour v_t_now_chance v_t_now_seed), (q_t_shelves, .inl (cy 2, 8, .inr (.inr (.inr (.inr (fun i => some (ad_t_shelves i))))))), (q_t_refusals, .inl (cy 0, 5, .inl v_t_refusals))] ++ wSh cy ad_t_shelves ae_t_shelves v_t_shelves_c v_t_shelves_z v_t_shelves_e) U.heap ∧ xK D cy U ∧ va_D (fun _ => True) ([(q_t, oX7 q_t_now q_t_future q_t_draft q_t_kept v_t_isKept q_t_shelves q_t_tape q_t_reader q_t_hiddenWay q_t_sights q_t_choice q_t_refusals), (q_t_now, oX5 v_t_now_places q_t_now_ways q_t_now_distances v_t_now_people q_t_now_kind q_t_now_a q_t_now_home q_t_now_aim q_t_now_at v_t_now_hour v_t_now_chance v_t_now_seed), (q_t_shelves, .inl (cy 2, 8, .inr (.inr (.inr (.inr (fun i => some (ad_t_shelves i))))))), (q_t_refusals, .inl (cy 0, 5, .inl v_t_refusals))] ++ wSh cy ad_t_shelves ae_t_shelves v_t_shelves_c v_t_shelves_z v_t_shelves_e))) (va_Qi (fun (x : Int32) (_ : Unit) => x = r_) (fun _ t => va_P D vwCl ([(q_t, oX7 q_t_now q_t_future q_t_draft q_t_kept v_t_isKept q_t_shelves q_t_tape q_t_reader q_t_hiddenWay q_t_sights q_t_choice q_t_refusals), (q_t_now, oX5 v_t_now_places q_t_now_ways q_t_now_distances v_t_now_people q_t_now_kind q_t_now_a q_t_now_home q_t_now_aim q_t_now_at v_t_now_hour v_t_now_chance v_t_now_seed), (q_t_shelves, .inl (cy 2, 8, .inr (.inr (.inr (.inr (fun i => some (ad_t_shelves i))))))), (q_t_refusals, .inl (cy 0, 5, .inl n_t_refusals))] ++ wSh cy ad_t_shelves ae_t_shelves n_t_shelves_c n_t_shelves_z v_t_shelves_e) t.heap) (va_A ([(q_t, oX7 q_t_now q_t_future q_t_draft q_t_kept v_t_isKept q_t_shelves q_t_tape q_t_reader q_t_hiddenWay q_t_sights q_t_choice q_t_refusals), (q_t_now, oX5 v_t_now_places q_t_now_ways q_t_now_distances v_t_now_people q_t_now_kind q_t_now_a q_t_now_home q_t_now_aim q_t_now_at v_t_now_hour v_t_now_chance v_t_now_seed), (q_t_shelves, .inl (cy 2, 8, .inr (.inr (.inr (.inr (fun i => some (ad_t_shelves i))))))), (q_t_refusals, .inl (cy 0, 5, .inl v_t_refusals))] ++ wSh cy ad_t_shelves ae_t_shelves v_t_shelves_c v_t_shelves_z v_t_shelves_e) sz)) 0 0 (va_A ([(q_t, oX7 q_t_now q_t_future q_t_draft q_t_kept v_t_isKept q_t_shelves q_t_tape q_t_reader q_t_hiddenWay q_t_sights q_t_choice q_t_refusals), (q_t_now, oX5 v_t_now_places q_t_now_ways q_t_now_distances v_t_now_people q_t_now_kind q_t_now_a q_t_now_home q_t_now_aim q_t_now_at v_t_now_hour v_t_now_chance v_t_now_seed), (q_t_shelves, .inl (cy 2, 8, .inr (.inr (.inr (.inr (fun i => some (ad_t_shelves i))))))), (q_t_refusals, .inl (cy 0, 5, .inl v_t_refusals))] ++ wSh cy ad_t_shelves ae_t_shelves v_t_shelves_c v_t_shelves_z v_t_shelves_e) sz) := by
  refine Met.ofW (cc := cX7_show) (maxL := 3) (ret := (some .int)) (by decide) rfl ?_
  intro p e s m args below meth c s₁ B hml hv
  obtain ⟨rfl, hsz, hP, hK, hD0⟩ := hv
  have hx := B.exec
  have hb := B.bytes
  have hr := B.returns
  have hts := atoms_spec (ws := wsX7_show) B.pre
  have hown : s.vm.findClass RX7 = some m.cls := findClass_of_methodNamed B.named
  have hlocks := B.notSynchronized
  subst hsz
  have hD := hD0.self (sz := s.heap.size)
  generalize hAe : va_A ([(q_t, oX7 q_t_now q_t_future q_t_draft q_t_kept v_t_isKept q_t_shelves q_t_tape q_t_reader q_t_hiddenWay q_t_sights q_t_choice q_t_refusals), (q_t_now, oX5 v_t_now_places q_t_now_ways q_t_now_distances v_t_now_people q_t_now_kind q_t_now_a q_t_now_home q_t_now_aim q_t_now_at v_t_now_hour v_t_now_chance v_t_now_seed), (q_t_shelves, .inl (cy 2, 8, .inr (.inr (.inr (.inr (fun i => some (ad_t_shelves i))))))), (q_t_refusals, .inl (cy 0, 5, .inl v_t_refusals))] ++ wSh cy ad_t_shelves ae_t_shelves v_t_shelves_c v_t_shelves_z v_t_shelves_e) s.heap.size = A at hD ⊢
  have hA : ∀ q : Nat, s.heap.size ≤ q → A q := fun q h => by rw [← hAe]; exact Or.inr h
  have hS : va_S A s.heap s.heap [] := va_S.rf
  have hP : va_P D vwCl ([(q_t, oX7 q_t_now q_t_future q_t_draft q_t_kept v_t_isKept q_t_shelves q_t_tape q_t_reader q_t_hiddenWay q_t_sights q_t_choice q_t_refusals), (q_t_now, oX5 v_t_now_places q_t_now_ways q_t_now_distances v_t_now_people q_t_now_kind q_t_now_a q_t_now_home q_t_now_aim q_t_now_at v_t_now_hour v_t_now_chance v_t_now_seed), (q_t_shelves, .inl (cy 2, 8, .inr (.inr (.inr (.inr (fun i => some (ad_t_shelves i))))))), (q_t_refusals, .inl (cy 0, 5, .inl v_t_refusals))] ++ wSh cy ad_t_shelves ae_t_shelves v_t_shelves_c v_t_shelves_z v_t_shelves_e) s.heap := hP
  have hinX7 : ∀ w ∈ u_ws RX7 TX7 12, w ∈ wsX7_show := by decide +kernel
  have hk27 := hts (.fieldLink RX7 27 "ShowsWhereNobodyIs" "shelves" "[LShowsWhereNobodyIs$Shelf;") (by decide +kernel)
  have hl := lv_entry ([.ref q_t, .int p0, .int p1]) (n := 3) (Nat.le_of_ble_eq_true rfl)
  rw [lg_entry_eq]
  generalize (lg_sl ([.ref q_t, .int p0, .int p1]) ++ List.replicate (3 - (lg_sl ([.ref q_t, .int p0, .int p1])).length) Slot.unset).toArray = ls at hl ⊢
  have hl : lv_has ls 3 [(0, .ref q_t), (1, .int p0), (2, .int p1)] := hl
  unfold fX7_show at hf
  refine lv_iload_n hx hb dX7_show_0 rfl (lv_at hl 1 rfl) ?_
  obtain ⟨r1, hr2, hf⟩ := boE1 hf
  have hPc := hP.sub (ws' := []) [] rfl
  refine xcSi (va_runS (As := [.int p0]) (rest := []) ⟨hx, hb, hml, hown, hts⟩ (mX7_isShelf l D cy    p0 hr2) (va_cwS 1 hts gX7_show_X7_isShelf rfl rfl rfl (by decide +kernel) ⟨Nat.le_of_ble_eq_true rfl, Nat.le_of_ble_eq_true rfl⟩) (xPS hK hPc) rfl rfl hl.1 rfl (lv_room (Nat.le_of_ble_eq_true rfl)) dX7_show_1 ⟨Nat.le_of_ble_eq_true rfl, Nat.le_of_ble_eq_true rfl⟩) ?_
  refine jww0 20 [] (fun  H locs ls => va_P D vwCl ([(q_t, oX7 q_t_now q_t_future q_t_draft q_t_kept v_t_isKept q_t_shelves q_t_tape q_t_reader q_t_hiddenWay q_t_sights q_t_choice q_t_refusals), (q_t_now, oX5 v_t_now_places q_t_now_ways q_t_now_distances v_t_now_people q_t_now_kind q_t_now_a q_t_now_home q_t_now_aim q_t_now_at v_t_now_hour v_t_now_chance v_t_now_seed), (q_t_shelves, .inl (cy 2, 8, .inr (.inr (.inr (.inr (fun i => some (ad_t_shelves i))))))), (q_t_refusals, .inl (cy 0, 5, .inl v_t_refusals))] ++ wSh cy ad_t_shelves ae_t_shelves v_t_shelves_c v_t_shelves_z v_t_shelves_e) H ∧ va_D A ([(q_t, oX7 q_t_now q_t_future q_t_draft q_t_kept v_t_isKept q_t_shelves q_t_tape q_t_reader q_t_hiddenWay q_t_sights q_t_choice q_t_refusals), (q_t_now, oX5 v_t_now_places q_t_now_ways q_t_now_distances v_t_now_people q_t_now_kind q_t_now_a q_t_now_home q_t_now_aim q_t_now_at v_t_now_hour v_t_now_chance v_t_now_seed), (q_t_shelves, .inl (cy 2, 8, .inr (.inr (.inr (.inr (fun i => some (ad_t_shelves i))))))), (q_t_refusals, .inl (cy 0, 5, .inl v_t_refusals))] ++ wSh cy ad_t_shelves ae_t_shelves v_t_shelves_c v_t_shelves_z v_t_shelves_e) ∧ va_S A s.heap H locs ∧ lv_has ls 3 [(0, .ref q_t)]) hf (fun  H locs ls hI hf => ?_) (fun k3 J20 hf => ?_)
  · obtain ⟨hP, hD, hS, hl⟩ := hI
    refine lv_aload_n hx hb dX7_show_20 rfl (lv_at hl 0 rfl) ?_
    refine lv_bipush (v := (-2)) hx hb dX7_show_21 (by decide) ?_
    obtain ⟨r4, u5, hr6, hf⟩ := boE2 hf
    have hPc := hP.sub (ws' := [(q_t, oX7 q_t_now q_t_future q_t_draft q_t_kept v_t_isKept q_t_shelves q_t_tape q_t_reader q_t_hiddenWay q_t_sights q_t_choice q_t_refusals), (q_t_refusals, .inl (cy 0, 5, .inl v_t_refusals))]) [0, 3] rfl
    have hDc := hD.sub (ws' := [(q_t, oX7 q_t_now q_t_future q_t_draft q_t_kept v_t_isKept q_t_shelves q_t_tape q_t_reader q_t_hiddenWay q_t_sights q_t_choice q_t_refusals), (q_t_refusals, .inl (cy 0, 5, .inl v_t_refusals))]) [0, 3] (by decide) rfl
    refine xcQiQ (w1 := [(q_t, oX7 q_t_now q_t_future q_t_draft q_t_kept v_t_isKept q_t_shelves q_t_tape q_t_reader q_t_hiddenWay q_t_sights q_t_choice q_t_refusals), (q_t_refusals, .inl (cy 0, 5, .inl u5))]) (va_runV (As := [.int (-2 : Int32)]) (rest := []) ⟨hx, hb, hml, hown, hts⟩ (mX7_refuse l D cy q_t q_t_now q_t_future q_t_draft q_t_kept q_t_shelves q_t_tape q_t_reader q_t_hiddenWay q_t_sights q_t_choice q_t_refusals v_t_isKept v_t_refusals _ (-2 : Int32) hr6) (cwV 1 hts gX7_show_X7_refuse rfl rfl rfl (by decide +kernel) ⟨Nat.le_of_ble_eq_true rfl, Nat.le_of_ble_eq_true rfl⟩) (xPVw hK hPc hDc (ci := 7) (q0 := 0) rfl rfl) rfl rfl hl.1 rfl (lv_room (Nat.le_of_ble_eq_true rfl)) dX7_show_23 ⟨Nat.le_of_ble_eq_true rfl, Nat.le_of_ble_eq_true rfl⟩) hP hD hS hA [0, 3] rfl rfl (fun H locs hP hD hS => ?_)
    have hP : va_P D vwCl ([(q_t, oX7 q_t_now q_t_future q_t_draft q_t_kept v_t_isKept q_t_shelves q_t_tape q_t_reader q_t_hiddenWay q_t_sights q_t_choice q_t_refusals), (q_t_now, oX5 v_t_now_places q_t_now_ways q_t_now_distances v_t_now_people q_t_now_kind q_t_now_a q_t_now_home q_t_now_aim q_t_now_at v_t_now_hour v_t_now_chance v_t_now_seed), (q_t_shelves, .inl (cy 2, 8, .inr (.inr (.inr (.inr (fun i => some (ad_t_shelves i))))))), (q_t_refusals, .inl (cy 0, 5, .inl u5))] ++ wSh cy ad_t_shelves ae_t_shelves v_t_shelves_c v_t_shelves_z v_t_shelves_e) H := hP
    have hD : va_D A ([(q_t, oX7 q_t_now q_t_future q_t_draft q_t_kept v_t_isKept q_t_shelves q_t_tape q_t_reader q_t_hiddenWay q_t_sights q_t_choice q_t_refusals), (q_t_now, oX5 v_t_now_places q_t_now_ways q_t_now_distances v_t_now_people q_t_now_kind q_t_now_a q_t_now_home q_t_now_aim q_t_now_at v_t_now_hour v_t_now_chance v_t_now_seed), (q_t_shelves, .inl (cy 2, 8, .inr (.inr (.inr (.inr (fun i => some (ad_t_shelves i))))))), (q_t_refusals, .inl (cy 0, 5, .inl u5))] ++ wSh cy ad_t_shelves ae_t_shelves v_t_shelves_c v_t_shelves_z v_t_shelves_e) := hD
    cases hf
    exact W.iret hx hb hr (fun t ht hW => ⟨⟨_, (), rfl, rfl, xend ht hP⟩, hS.F ht⟩) hS.2.2 dX7_show_26
  · refine lv_if_eq (tgt := 20) hx hb dX7_show_4 (by decide) (fun c23 => ?_) (fun c23 => ?_)
    · have hf := ifT hf c23
      clear c23
      exact J20 _ _ ls ⟨hP, hD, hS, lv_sub hl [0] rfl⟩ hf
    · have hf := ifF hf c23
      clear c23
      refine lv_iload_n hx hb dX7_show_7 rfl (lv_at hl 2 rfl) ?_
      refine lv_iconst (v := (-1)) hx hb dX7_show_8 (by decide) ?_
      refine jww0 27 [] (fun  H locs ls => va_P D vwCl ([(q_t, oX7 q_t_now q_t_future q_t_draft q_t_kept v_t_isKept q_t_shelves q_t_tape q_t_reader q_t_hiddenWay q_t_sights q_t_choice q_t_refusals), (q_t_now, oX5 v_t_now_places q_t_now_ways q_t_now_distances v_t_now_people q_t_now_kind q_t_now_a q_t_now_home q_t_now_aim q_t_now_at v_t_now_hour v_t_now_chance v_t_now_seed), (q_t_shelves, .inl (cy 2, 8, .inr (.inr (.inr (.inr (fun i => some (ad_t_shelves i))))))), (q_t_refusals, .inl (cy 0, 5, .inl v_t_refusals))] ++ wSh cy ad_t_shelves ae_t_shelves v_t_shelves_c v_t_shelves_z v_t_shelves_e) H ∧ va_D A ([(q_t, oX7 q_t_now q_t_future q_t_draft q_t_kept v_t_isKept q_t_shelves q_t_tape q_t_reader q_t_hiddenWay q_t_sights q_t_choice q_t_refusals), (q_t_now, oX5 v_t_now_places q_t_now_ways q_t_now_distances v_t_now_people q_t_now_kind q_t_now_a q_t_now_home q_t_now_aim q_t_now_at v_t_now_hour v_t_now_chance v_t_now_seed), (q_t_shelves, .inl (cy 2, 8, .inr (.inr (.inr (.inr (fun i => some (ad_t_shelves i))))))), (q_t_refusals, .inl (cy 0, 5, .inl v_t_refusals))] ++ wSh cy ad_t_shelves ae_t_shelves v_t_shelves_c v_t_shelves_z v_t_shelves_e) ∧ va_S A s.heap H locs ∧ lv_has ls 3 [(0, .ref q_t), (1, .int p0), (2, .int p1)]) hf (fun  H locs ls hI hf => ?_) (fun k7 J27 hf => ?_)
      · obtain ⟨hP, hD, hS, hl⟩ := hI
        refine lv_iload_n hx hb dX7_show_27 rfl (lv_at hl 2 rfl) ?_
        refine lv_iconst (v := (-1)) hx hb dX7_show_28 (by decide) ?_
        refine lv_icmp_ne (tgt := 44) hx hb dX7_show_29 (by decide) (fun c18 => ?_) (fun c18 => ?_)
        · have hf := ifF hf c18
          clear c18
          refine lv_aload_n hx hb dX7_show_44 rfl (lv_at hl 0 rfl) ?_
          refine va_get (D := D) (ci := 7) (v := .ref q_t_shelves) (C := RX7) (T := TX7) (N := 12) hx hb hts hinX7 hown hK.1 hP 0 rfl rfl 5 (by decide) hk27 (fun _ h9 => h9) rfl dX7_show_45 ?_
          refine lv_iload_n hx hb dX7_show_48 rfl (lv_at hl 1 rfl) ?_
          obtain ⟨hi8, hf⟩ := ckE hf
          have hj9 : p0.toNatClampNeg < 8 := xlt hi8
          refine va_aldq hx hb hK.1 hP 2 2 rfl rfl hi8 dX7_show_49 ?_
          refine W.eq (g2 := F0 m 50 ls [.ref (ad_t_shelves p0.toNatClampNeg)]) rfl ?_
          refine lv_iload_n hx hb dX7_show_50 rfl (lv_at hl 2 rfl) ?_
          obtain ⟨u10, u11, hr12, hf⟩ := boE2 hf
          have hPc := xshP hP hj9
          have hDc := xshD hD hj9
          refine xcQvS (va_runV (As := [.int p1]) (rest := []) ⟨hx, hb, hml, hown, hts⟩ (mX2_takePerson l D cy (ad_t_shelves p0.toNatClampNeg) (ae_t_shelves p0.toNatClampNeg) (v_t_shelves_c p0.toNatClampNeg) (v_t_shelves_z p0.toNatClampNeg) (v_t_shelves_e p0.toNatClampNeg) _ p1 hr12) (cwV 1 hts gX7_show_X2_takePerson rfl rfl rfl (by decide +kernel) ⟨Nat.le_of_ble_eq_true rfl, Nat.le_of_ble_eq_true rfl⟩) (xPVw hK hPc hDc (ci := 2) (q0 := 0) rfl rfl) rfl rfl hl.1 rfl (lv_room (Nat.le_of_ble_eq_true rfl)) dX7_show_51 ⟨Nat.le_of_ble_eq_true rfl, Nat.le_of_ble_eq_true rfl⟩) hP hD hS hA hj9 (fun H locs hP hD hS => ?_)
          simp only [xup_self] at hP hD
          have hP : va_P D vwCl ([(q_t, oX7 q_t_now q_t_future q_t_draft q_t_kept v_t_isKept q_t_shelves q_t_tape q_t_reader q_t_hiddenWay q_t_sights q_t_choice q_t_refusals), (q_t_now, oX5 v_t_now_places q_t_now_ways q_t_now_distances v_t_now_people q_t_now_kind q_t_now_a q_t_now_home q_t_now_aim q_t_now_at v_t_now_hour v_t_now_chance v_t_now_seed), (q_t_shelves, .inl (cy 2, 8, .inr (.inr (.inr (.inr (fun i => some (ad_t_shelves i))))))), (q_t_refusals, .inl (cy 0, 5, .inl v_t_refusals))] ++ wSh cy ad_t_shelves ae_t_shelves (va_up v_t_shelves_c p0.toNatClampNeg u10) (va_up v_t_shelves_z p0.toNatClampNeg u11) v_t_shelves_e) H := hP
          have hD : va_D A ([(q_t, oX7 q_t_now q_t_future q_t_draft q_t_kept v_t_isKept q_t_shelves q_t_tape q_t_reader q_t_hiddenWay q_t_sights q_t_choice q_t_refusals), (q_t_now, oX5 v_t_now_places q_t_now_ways q_t_now_distances v_t_now_people q_t_now_kind q_t_now_a q_t_now_home q_t_now_aim q_t_now_at v_t_now_hour v_t_now_chance v_t_now_seed), (q_t_shelves, .inl (cy 2, 8, .inr (.inr (.inr (.inr (fun i => some (ad_t_shelves i))))))), (q_t_refusals, .inl (cy 0, 5, .inl v_t_refusals))] ++ wSh cy ad_t_shelves ae_t_shelves (va_up v_t_shelves_c p0.toNatClampNeg u10) (va_up v_t_shelves_z p0.toNatClampNeg u11) v_t_shelves_e) := hD
          refine lv_iconst (v := 1) hx hb dX7_show_54 (by decide) ?_
          cases hf
          exact W.iret (v := (1 : Int32)) hx hb hr (fun t ht hW => ⟨⟨(1 : Int32), (), rfl, rfl, xend ht hP⟩, hS.F ht⟩) hS.2.2 dX7_show_55
        · have hf := ifT hf c18
          clear c18
          refine lv_aload_n hx hb dX7_show_32 rfl (lv_at hl 0 rfl) ?_
          refine va_get (D := D) (ci := 7) (v := .ref q_t_shelves) (C := RX7) (T := TX7) (N := 12) hx hb hts hinX7 hown hK.1 hP 0 rfl rfl 5 (by decide) hk27 (fun _ h9 => h9) rfl dX7_show_33 ?_
          refine lv_iload_n hx hb dX7_show_36 rfl (lv_at hl 1 rfl) ?_
          obtain ⟨hi13, hf⟩ := ckE hf
          have hj14 : p0.toNatClampNeg < 8 := xlt hi13
          refine va_aldq hx hb hK.1 hP 2 2 rfl rfl hi13 dX7_show_37 ?_
          refine W.eq (g2 := F0 m 38 ls [.ref (ad_t_shelves p0.toNatClampNeg)]) rfl ?_
          obtain ⟨u15, u16, hr17, hf⟩ := boE2 hf
          have hPc := xshP hP hj14
          have hDc := xshD hD hj14
          refine xcQvS (va_runV (As := []) (rest := []) ⟨hx, hb, hml, hown, hts⟩ (mX2_takeNothing l D cy (ad_t_shelves p0.toNatClampNeg) (ae_t_shelves p0.toNatClampNeg) (v_t_shelves_c p0.toNatClampNeg) (v_t_shelves_z p0.toNatClampNeg) (v_t_shelves_e p0.toNatClampNeg) _  hr17) (cwV 0 hts gX7_show_X2_takeNothing rfl rfl rfl (by decide +kernel) ⟨Nat.le_of_ble_eq_true rfl, Nat.le_of_ble_eq_true rfl⟩) (xPVw hK hPc hDc (ci := 2) (q0 := 0) rfl rfl) rfl rfl hl.1 rfl (lv_room (Nat.le_of_ble_eq_true rfl)) dX7_show_38 ⟨Nat.le_of_ble_eq_true rfl, Nat.le_of_ble_eq_true rfl⟩) hP hD hS hA hj14 (fun H locs hP hD hS => ?_)
          simp only [xup_self] at hP hD
          have hP : va_P D vwCl ([(q_t, oX7 q_t_now q_t_future q_t_draft q_t_kept v_t_isKept q_t_shelves q_t_tape q_t_reader q_t_hiddenWay q_t_sights q_t_choice q_t_refusals), (q_t_now, oX5 v_t_now_places q_t_now_ways q_t_now_distances v_t_now_people q_t_now_kind q_t_now_a q_t_now_home q_t_now_aim q_t_now_at v_t_now_hour v_t_now_chance v_t_now_seed), (q_t_shelves, .inl (cy 2, 8, .inr (.inr (.inr (.inr (fun i => some (ad_t_shelves i))))))), (q_t_refusals, .inl (cy 0, 5, .inl v_t_refusals))] ++ wSh cy ad_t_shelves ae_t_shelves (va_up v_t_shelves_c p0.toNatClampNeg u15) (va_up v_t_shelves_z p0.toNatClampNeg u16) v_t_shelves_e) H := hP
          have hD : va_D A ([(q_t, oX7 q_t_now q_t_future q_t_draft q_t_kept v_t_isKept q_t_shelves q_t_tape q_t_reader q_t_hiddenWay q_t_sights q_t_choice q_t_refusals), (q_t_now, oX5 v_t_now_places q_t_now_ways q_t_now_distances v_t_now_people q_t_now_kind q_t_now_a q_t_now_home q_t_now_aim q_t_now_at v_t_now_hour v_t_now_chance v_t_now_seed), (q_t_shelves, .inl (cy 2, 8, .inr (.inr (.inr (.inr (fun i => some (ad_t_shelves i))))))), (q_t_refusals, .inl (cy 0, 5, .inl v_t_refusals))] ++ wSh cy ad_t_shelves ae_t_shelves (va_up v_t_shelves_c p0.toNatClampNeg u15) (va_up v_t_shelves_z p0.toNatClampNeg u16) v_t_shelves_e) := hD
          refine lv_goto (tgt := 54) hx hb dX7_show_41 (by decide) ?_
          refine lv_iconst (v := 1) hx hb dX7_show_54 (by decide) ?_
          cases hf
          exact W.iret (v := (1 : Int32)) hx hb hr (fun t ht hW => ⟨⟨(1 : Int32), (), rfl, rfl, xend ht hP⟩, hS.F ht⟩) hS.2.2 dX7_show_55
      · refine lv_icmp_eq (tgt := 27) hx hb dX7_show_9 (by decide) (fun c22 => ?_) (fun c22 => ?_)
        · have hf := ifT hf c22
          clear c22
          exact J27 _ _ ls ⟨hP, hD, hS, lv_sub hl [0, 1, 2] rfl⟩ hf
        · have hf := ifF hf c22
          clear c22
          refine lv_aload_n hx hb dX7_show_12 rfl (lv_at hl 0 rfl) ?_
          refine lv_iload_n hx hb dX7_show_13 rfl (lv_at hl 2 rfl) ?_
          obtain ⟨r19, hr20, hf⟩ := boE1 hf
          have hPc := hP.sub (ws' := [(q_t, oX7 q_t_now q_t_future q_t_draft q_t_kept v_t_isKept q_t_shelves q_t_tape q_t_reader q_t_hiddenWay q_t_sights q_t_choice q_t_refusals), (q_t_now, oX5 v_t_now_places q_t_now_ways q_t_now_distances v_t_now_people q_t_now_kind q_t_now_a q_t_now_home q_t_now_aim q_t_now_at v_t_now_hour v_t_now_chance v_t_now_seed)]) [0, 1] rfl
          refine xcSi (va_runV (As := [.int p1]) (rest := []) ⟨hx, hb, hml, hown, hts⟩ (mX7_isPerson l D cy q_t q_t_now q_t_future q_t_draft q_t_kept q_t_shelves q_t_tape q_t_reader q_t_hiddenWay q_t_sights q_t_choice q_t_refusals q_t_now_ways q_t_now_distances q_t_now_kind q_t_now_a q_t_now_home q_t_now_aim q_t_now_at v_t_isKept v_t_now_places v_t_now_people v_t_now_hour v_t_now_chance v_t_now_seed  p1 hr20) (cwV 1 hts gX7_show_X7_isPerson rfl rfl rfl (by decide +kernel) ⟨Nat.le_of_ble_eq_true rfl, Nat.le_of_ble_eq_true rfl⟩) (xPV hK hPc (ci := 7) (q0 := 0) rfl rfl) rfl rfl hl.1 rfl (lv_room (Nat.le_of_ble_eq_true rfl)) dX7_show_14 ⟨Nat.le_of_ble_eq_true rfl, Nat.le_of_ble_eq_true rfl⟩) ?_
          refine lv_if_ne (tgt := 27) hx hb dX7_show_17 (by decide) (fun c21 => ?_) (fun c21 => ?_)
          · have hf := ifF hf c21
            clear c21
            exact J27 _ _ ls ⟨hP, hD, hS, lv_sub hl [0, 1, 2] rfl⟩ hf
          · have hf := ifT hf c21
            clear c21
            exact J20 _ _ ls ⟨hP, hD, hS, lv_sub hl [0] rfl⟩ hf
def fX7_isKind (p0 : Int32) : Option (Int32) :=
  if p0 < 0 then
    some (0 : Int32)
  else
    if (6 : Int32) ≤ p0 then
      some (0 : Int32)
    else
      some (1 : Int32)
set_option maxHeartbeats 4000000 in
set_option maxRecDepth 100000 in
theorem mX7_isKind (l : Launch) (D : va_G) (cy : Nat → ClassId) (p0 : Int32) {r_ : Int32} (hf : fX7_isKind p0 = some r_) : Met l yX7_isKind wsX7_isKind ({ frames := 0, cells := 0, slots := 0, locals := 0 }) (va_Pc [.int p0] (fun U => va_P D vwCl [] U.heap ∧ xK D cy U)) (vp_Si (fun x => x = r_)) 0 0 (fun _ => False) := by
  refine Met.ofW (cc := cX7_isKind) (maxL := 1) (ret := (some .boolean)) (by decide) rfl ?_
  intro p e s m args below meth c s₁ B hml hv
  obtain ⟨rfl, hP, hK⟩ := hv
  have hx := B.exec
  have hb := B.bytes
  have hr := B.returns
  have hts := atoms_spec (ws := wsX7_isKind) B.pre
  have hown : s.vm.findClass RX7 = some m.cls := findClass_of_methodNamed B.named
  have hlocks := B.notSynchronized
  have hP : va_P D vwCl [] s.heap := hP
  have hl := lv_entry ([.int p0]) (n := 1) (Nat.le_of_ble_eq_true rfl)
  rw [lg_entry_eq]
  generalize (lg_sl ([.int p0]) ++ List.replicate (1 - (lg_sl ([.int p0])).length) Slot.unset).toArray = ls at hl ⊢
  have hl : lv_has ls 1 [(0, .int p0)] := hl
  unfold fX7_isKind at hf
  refine lv_iload_n hx hb dX7_isKind_0 rfl (lv_at hl 0 rfl) ?_
  refine lv_if_lt (tgt := 14) hx hb dX7_isKind_1 (by decide) (fun c2 => ?_) (fun c2 => ?_)
  · have hf := ifT hf c2
    clear c2
    refine lv_iconst (v := 0) hx hb dX7_isKind_14 (by decide) ?_
    exact W.zret (v := (0 : Int32)) hx hb hr rfl (fun t ht hW => ⟨(0 : Int32), rfl, Option.some.inj hf, ht⟩) (fun q h => nomatch h) dX7_isKind_15
  · have hf := ifF hf c2
    clear c2
    refine lv_iload_n hx hb dX7_isKind_4 rfl (lv_at hl 0 rfl) ?_
    refine lv_bipush (v := 6) hx hb dX7_isKind_5 (by decide) ?_
    refine lv_icmp_ge (tgt := 14) hx hb dX7_isKind_7 (by decide) (fun c1 => ?_) (fun c1 => ?_)
    · have hf := ifT hf c1
      clear c1
      refine lv_iconst (v := 0) hx hb dX7_isKind_14 (by decide) ?_
      exact W.zret (v := (0 : Int32)) hx hb hr rfl (fun t ht hW => ⟨(0 : Int32), rfl, Option.some.inj hf, ht⟩) (fun q h => nomatch h) dX7_isKind_15
    · have hf := ifF hf c1
      clear c1
      refine lv_iconst (v := 1) hx hb dX7_isKind_10 (by decide) ?_
      refine lv_goto (tgt := 15) hx hb dX7_isKind_11 (by decide) ?_
      exact W.zret (v := (1 : Int32)) hx hb hr rfl (fun t ht hW => ⟨(1 : Int32), rfl, Option.some.inj hf, ht⟩) (fun q h => nomatch h) dX7_isKind_15
