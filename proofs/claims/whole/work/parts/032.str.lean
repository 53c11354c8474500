/-! ===== the words of a town's text: constants "places", "way", "no", "person", "at", "hour", "chance" ===== -/
def xSlen : List Nat := [6, 3, 2, 6, 2, 4, 6]
def xSbyt : List (List Int32) := [[112, 108, 97, 99, 101, 115], [119, 97, 121], [110, 111], [112, 101, 114, 115, 111, 110], [97, 116], [104, 111, 117, 114], [99, 104, 97, 110, 99, 101]]
def xSl (k : Nat) : Nat := xSlen.getD k 0
def xSb (k j : Nat) : Int32 := (xSbyt.getD k []).getD j 0
def xSc (k : Nat) : Nat → Int32 := fun j => ((xSb k j &&& 255).toUInt32 % 65536).toInt32
def xStr (adK adV : Nat → Nat) (A : Nat → Prop) (U : State) (H : Heap) : Prop :=
  vk_S 7 xSlen xSbyt adK adV A U H ∧ va_Z "java/lang/String" "COMPACT_STRINGS" "Z" (.int 1) A U H ∧ va_Zq "jdk/internal/util/Preconditions" "SIOOBE_FORMATTER" "Ljava/util/function/BiFunction;" A U H
theorem xStr.moved {adK adV : Nat → Nat} {A : Nat → Prop} {u U : State} {H : Heap} (hvm : u.vm.Alike U.vm) (h : xStr adK adV A u H) : xStr adK adV A U H := ⟨h.1.moved hvm, h.2.1.moved hvm, h.2.2.moved hvm⟩
theorem xStr.kept {adK adV : Nat → Nat} {A : Nat → Prop} {U : State} {H H1 : Heap} (h : xStr adK adV A U H) (hq : ∀ a : Nat, a < H.size → ¬ A a → H1[a]? = H[a]?) : xStr adK adV A U H1 := ⟨h.1.kept hq, h.2.1.kept hq, h.2.2.kept hq⟩
theorem xStr.narrow {adK adV : Nat → Nat} {A B : Nat → Prop} {U : State} {H : Heap} (h : xStr adK adV A U H) (hAB : ∀ q, B q → A q) : xStr adK adV B U H := ⟨h.1.narrow hAB, h.2.1.narrow hAB, h.2.2.narrow hAB⟩
def xRef (adK : Nat → Nat) (U : State) : Prop :=
  (vk_R RX6 38 "places" (adK 0) U ∧ vk_R RX6 47 "way" (adK 1) U ∧ vk_R RX6 53 "no" (adK 2) U ∧ vk_R RX6 55 "person" (adK 3) U ∧ vk_R RX6 65 "at" (adK 4) U ∧ vk_R RX6 70 "hour" (adK 5) U ∧ vk_R RX6 75 "chance" (adK 6) U) ∧
  (vk_R RX8 206 "places" (adK 0) U ∧ vk_R RX8 211 "way" (adK 1) U ∧ vk_R RX8 213 "no" (adK 2) U ∧ vk_R RX8 218 "person" (adK 3) U ∧ vk_R RX8 223 "at" (adK 4) U ∧ vk_R RX8 224 "hour" (adK 5) U ∧ vk_R RX8 225 "chance" (adK 6) U)
theorem xRef.warm {adK : Nat → Nat} {s U : State} (hW : s.WarmedH U.vm) (h : xRef adK s) : xRef adK U := by
  obtain ⟨⟨a1, a2, a3, a4, a5, a6, a7⟩, b1, b2, b3, b4, b5, b6, b7⟩ := h
  exact ⟨⟨a1.warm hW, a2.warm hW, a3.warm hW, a4.warm hW, a5.warm hW, a6.warm hW, a7.warm hW⟩, b1.warm hW, b2.warm hW, b3.warm hW, b4.warm hW, b5.warm hW, b6.warm hW, b7.warm hW⟩
theorem xRef.same {adK : Nat → Nat} {u U : State} (hv : U.vm = u.vm) (h : xRef adK u) : xRef adK U := by
  obtain ⟨⟨a1, a2, a3, a4, a5, a6, a7⟩, b1, b2, b3, b4, b5, b6, b7⟩ := h
  exact ⟨⟨a1.same hv, a2.same hv, a3.same hv, a4.same hv, a5.same hv, a6.same hv, a7.same hv⟩, b1.same hv, b2.same hv, b3.same hv, b4.same hv, b5.same hv, b6.same hv, b7.same hv⟩
abbrev xNo : Nat → Prop := fun _ => False
set_option maxHeartbeats 4000000 in
set_option maxRecDepth 100000 in
theorem mJ3_checkIndex (l : Launch) (i n : Int32) (v : Value) (hv : v = .null ∨ ∃ t, v = .ref t) (h0 : ¬ i < 0) (h1 : i < n) : Met l yJ3_checkIndex_8e157 wsJ3_checkIndex_8e157 ({ frames := 0, cells := 0, slots := 0, locals := 0 }) (va_Pc [.int i, .int n, v] (fun _ => True)) (vp_Si (fun x => x = i)) 0 0 (fun _ => False) := by
  refine Met.ofW (cc := cJ3_checkIndex_8e157) (maxL := 3) (ret := (some .int)) (by decide) rfl ?_
  intro p e s m args below meth c s₁ B hml hv2
  obtain ⟨rfl, -⟩ := hv2
  have hx := B.exec
  have hb := B.bytes
  have hr := B.returns
  have hlocks := B.notSynchronized
  have key : ∃ ls : Array Slot, entryFrame m [Value.int i, .int n, v].toArray 3 = F0 m 0 ls [] ∧ lv_has ls 3 [(0, .int i), (1, .int n)] := by
    rcases hv with rfl | ⟨t, rfl⟩
    · have hl := lv_entry ([.int i, .int n, .null]) (n := 3) (Nat.le_of_ble_eq_true rfl)
      rw [lg_entry_eq]
      exact ⟨_, rfl, lv_sub hl [0, 1] rfl⟩
    · have hl := lv_entry ([.int i, .int n, .ref t]) (n := 3) (Nat.le_of_ble_eq_true rfl)
      rw [lg_entry_eq]
      exact ⟨_, rfl, lv_sub hl [0, 1] rfl⟩
  obtain ⟨ls, e1, hl⟩ := key
  rw [e1]
  refine lv_iload_n hx hb dJ3_checkIndex_8e157_0 rfl (lv_at hl 0 rfl) ?_
  refine lv_if_lt (tgt := 9) hx hb dJ3_checkIndex_8e157_1 (by decide) (fun c1 => absurd c1 h0) (fun c1 => ?_)
  refine lv_iload_n hx hb dJ3_checkIndex_8e157_4 rfl (lv_at hl 0 rfl) ?_
  refine lv_iload_n hx hb dJ3_checkIndex_8e157_5 rfl (lv_at hl 1 rfl) ?_
  refine lv_icmp_lt (tgt := 16) hx hb dJ3_checkIndex_8e157_6 (by decide) (fun c1 => ?_) (fun c1 => absurd h1 c1)
  refine lv_iload_n hx hb dJ3_checkIndex_8e157_16 rfl (lv_at hl 0 rfl) ?_
  exact W.iret (v := i) hx hb hr (fun t ht hW => ⟨i, rfl, rfl, ht⟩) (fun q h => nomatch h) dJ3_checkIndex_8e157_17
set_option maxHeartbeats 4000000 in
set_option maxRecDepth 100000 in
theorem mJ0_checkIndex (l : Launch) (i n : Int32) (h0 : ¬ i < 0) (h1 : i < n) : Met l yJ0_checkIndex_df160 wsJ0_checkIndex_df160 ({ frames := 1, cells := 0, slots := 0, locals := 22 }) (va_Pc [.int i, .int n] (fun U => va_Zq "jdk/internal/util/Preconditions" "SIOOBE_FORMATTER" "Ljava/util/function/BiFunction;" xNo U U.heap)) (va_Sv (fun _ => True)) 0 0 (fun _ => False) := by
  refine Met.ofW (cc := cJ0_checkIndex_df160) (maxL := 2) (ret := none) (by decide) rfl ?_
  intro p e s m args below meth c s₁ B hml hv2
  obtain ⟨rfl, hZ⟩ := hv2
  have hx := B.exec
  have hb := B.bytes
  have hr := B.returns
  have hts := atoms_spec (ws := wsJ0_checkIndex_df160) B.pre
  have hown : s.vm.findClass RJ0 = some m.cls := findClass_of_methodNamed B.named
  have hlocks := B.notSynchronized
  have hS : va_S xNo s.heap s.heap [] := va_S.rf
  have hk := hts (.fieldLink RJ0 1053 "jdk/internal/util/Preconditions" "SIOOBE_FORMATTER" "Ljava/util/function/BiFunction;") (by decide +kernel)
  have hl := lv_entry ([.int i, .int n]) (n := 2) (Nat.le_of_ble_eq_true rfl)
  rw [lg_entry_eq]
  generalize (lg_sl ([.int i, .int n]) ++ List.replicate (2 - (lg_sl ([.int i, .int n])).length) Slot.unset).toArray = ls at hl ⊢
  have hl : lv_has ls 2 [(0, .int i), (1, .int n)] := hl
  refine lv_iload_n hx hb dJ0_checkIndex_df160_0 rfl (lv_at hl 0 rfl) ?_
  refine lv_iload_n hx hb dJ0_checkIndex_df160_1 rfl (lv_at hl 1 rfl) ?_
  have fin : ∀ v : Value, (v = .null ∨ ∃ t, v = .ref t) → W p l e (headSpec wsJ0_checkIndex_df160 ({ frames := 1, cells := 0, slots := 0, locals := 22 })).room s m #[Value.int i, Value.int n] below meth c s.heap [] 0 0 (MQ below (va_Sv (fun _ => True)) #[Value.int i, Value.int n] s 0 0 (fun _ => False)) (F0 m (0 + 1 + 1 + 3) ls [v, .int n, .int i]) := by
    intro v hv
    refine xcSi (va_runS (As := [.int i, .int n, v]) (rest := []) ⟨hx, hb, hml, hown, hts⟩ (mJ3_checkIndex l i n v hv h0 h1) (va_cwS 3 hts gJ0_checkIndex_df160_J3_checkIndex_8e157 rfl rfl rfl (by decide +kernel) ⟨Nat.le_of_ble_eq_true rfl, Nat.le_of_ble_eq_true rfl⟩) ⟨fun a U g mk q => ⟨q.1, trivial⟩, fun U hU hW => ⟨rfl, trivial⟩⟩ rfl rfl hl.1 rfl (lv_room (Nat.le_of_ble_eq_true rfl)) dJ0_checkIndex_df160_5 ⟨Nat.le_of_ble_eq_true rfl, Nat.le_of_ble_eq_true rfl⟩) ?_
    refine lv_pop hx hb dJ0_checkIndex_df160_8 rfl ?_
    exact W.vret hx hb hr (fun t ht hW => ⟨rfl, trivial, ht⟩) (fun q h => nomatch h) dJ0_checkIndex_df160_9
  rcases hZ with hZ | ⟨t, hZ⟩
  · exact va_gets hx hb hZ hS hown hk (fun _ h9 => h9) dJ0_checkIndex_df160_2 (fin _ (Or.inl rfl))
  · exact va_gets hx hb hZ hS hown hk (fun _ h9 => h9) dJ0_checkIndex_df160_2 (fin _ (Or.inr ⟨t, rfl⟩))
theorem xin_lt {i : Int32} {N : Nat} (h : vp_in i N) (hN : N < 2 ^ 31) : ¬ i < 0 ∧ i < Int32.ofNat N := by
  obtain ⟨j, hj, rfl⟩ := vp_in_of h hN
  exact ⟨nI_pos (Nat.lt_trans hj hN), nI_lt hj hN⟩
set_option maxHeartbeats 4000000 in
set_option maxRecDepth 100000 in
theorem mJ1_charAt (l : Launch) (t : Nat) (N : Nat) (f : Nat → Int32) (i : Int32) (hN : N < 2 ^ 31) (hin : vp_in i N) : Met l yJ1_charAt_3b067 wsJ1_charAt_3b067 ({ frames := 2, cells := 0, slots := 0, locals := 43 }) (va_Pc [.ref t, .int i] (fun U => va_T .byte t N (fun j => .int (f j)) xNo U U.heap ∧ va_Zq "jdk/internal/util/Preconditions" "SIOOBE_FORMATTER" "Ljava/util/function/BiFunction;" xNo U U.heap)) (vp_Si (fun x => x = ((f i.toNatClampNeg &&& 255).toUInt32 % 65536).toInt32)) 0 0 (fun _ => False) := by
  refine Met.ofW (cc := cJ1_charAt_3b067) (maxL := 2) (ret := (some .char)) (by decide) rfl ?_
  intro p e s m args below meth c s₁ B hml hv2
  obtain ⟨rfl, hT, hZ⟩ := hv2
  have hx := B.exec
  have hb := B.bytes
  have hr := B.returns
  have hts := atoms_spec (ws := wsJ1_charAt_3b067) B.pre
  have hown : s.vm.findClass RJ1 = some m.cls := findClass_of_methodNamed B.named
  have hlocks := B.notSynchronized
  have hS : va_S xNo s.heap s.heap [] := va_S.rf
  have hl := lv_entry ([.ref t, .int i]) (n := 2) (Nat.le_of_ble_eq_true rfl)
  rw [lg_entry_eq]
  generalize (lg_sl ([.ref t, .int i]) ++ List.replicate (2 - (lg_sl ([.ref t, .int i])).length) Slot.unset).toArray = ls at hl ⊢
  have hl : lv_has ls 2 [(0, .ref t), (1, .int i)] := hl
  obtain ⟨i0, i1⟩ := xin_lt hin hN
  refine lv_iload_n hx hb dJ1_charAt_3b067_0 rfl (lv_at hl 1 rfl) ?_
  refine lv_aload_n hx hb dJ1_charAt_3b067_1 rfl (lv_at hl 0 rfl) ?_
  refine va_tlen hx hb hT hS rfl dJ1_charAt_3b067_2 ?_
  refine va_csv (va_runS (As := [.int i, .int (Int32.ofNat N)]) (rest := []) ⟨hx, hb, hml, hown, hts⟩ (mJ0_checkIndex l i (Int32.ofNat N) i0 i1) (va_cwS 2 hts gJ1_charAt_3b067_J0_checkIndex_df160 rfl rfl rfl (by decide +kernel) ⟨Nat.le_of_ble_eq_true rfl, Nat.le_of_ble_eq_true rfl⟩) ⟨fun a U g mk q => ⟨q.1, va_Zq.moved (u := U) (U := U.calling g mk a) (Vm.Alike.refl U.vm) q.2⟩, fun U hU hW => ⟨rfl, by dsimp only; rw [hU]; exact va_Zq.moved hW.alike hZ⟩⟩ rfl rfl hl.1 rfl (lv_room (Nat.le_of_ble_eq_true rfl)) dJ1_charAt_3b067_3 ⟨Nat.le_of_ble_eq_true rfl, Nat.le_of_ble_eq_true rfl⟩).run (fun _ => ?_)
  refine lv_aload_n hx hb dJ1_charAt_3b067_6 rfl (lv_at hl 0 rfl) ?_
  refine lv_iload_n hx hb dJ1_charAt_3b067_7 rfl (lv_at hl 1 rfl) ?_
  refine va_tb hx hb hT hS hin rfl dJ1_charAt_3b067_8 ?_
  refine lv_sipush (v := 255) hx hb dJ1_charAt_3b067_9 (by decide) ?_
  refine lv_iand hx hb dJ1_charAt_3b067_12 ?_
  refine lv_i2c hx hb dJ1_charAt_3b067_13 rfl ?_
  exact W.zret (v := ((f i.toNatClampNeg &&& 255).toUInt32 % 65536).toInt32) hx hb hr (pk_nc _) (fun t ht hW => ⟨_, rfl, rfl, ht⟩) (fun q h => nomatch h) dJ1_charAt_3b067_14
theorem xStrB {adK adV : Nat → Nat} {av : List Value} : FrameBlind (va_Pc av (fun U => xStr adK adV xNo U U.heap)) := fun a U g mk q => ⟨q.1, xStr.moved (u := U) (U := U.calling g mk a) (Vm.Alike.refl U.vm) q.2⟩
set_option maxHeartbeats 4000000 in
set_option maxRecDepth 100000 in
theorem mJ0_isLatin1 (l : Launch) (adK adV : Nat → Nat) (k : Nat) (hk : k < 7) : Met l yJ0_isLatin1_aae02 wsJ0_isLatin1_aae02 ({ frames := 0, cells := 0, slots := 0, locals := 0 }) (va_Pc [.ref (adK k)] (fun U => xStr adK adV xNo U U.heap)) (vp_Si (fun x => x = 1)) 0 0 (fun _ => False) := by
  refine Met.ofW (cc := cJ0_isLatin1_aae02) (maxL := 1) (ret := (some .boolean)) (by decide) rfl ?_
  intro p e s m args below meth c s₁ B hml hv2
  obtain ⟨rfl, hE⟩ := hv2
  have hx := B.exec
  have hb := B.bytes
  have hr := B.returns
  have hts := atoms_spec (ws := wsJ0_isLatin1_aae02) B.pre
  have hown : s.vm.findClass RJ0 = some m.cls := findClass_of_methodNamed B.named
  have hlocks := B.notSynchronized
  have hS : va_S xNo s.heap s.heap [] := va_S.rf
  have h38 := hts (.fieldLink RJ0 38 "java/lang/String" "COMPACT_STRINGS" "Z") (by decide +kernel)
  have h15 := hts (.fieldLink RJ0 15 "java/lang/String" "coder" "B") (by decide +kernel)
  have hl := lv_entry ([.ref (adK k)]) (n := 1) (Nat.le_of_ble_eq_true rfl)
  rw [lg_entry_eq]
  generalize (lg_sl ([.ref (adK k)]) ++ List.replicate (1 - (lg_sl ([.ref (adK k)])).length) Slot.unset).toArray = ls at hl ⊢
  have hl : lv_has ls 1 [(0, .ref (adK k))] := hl
  refine va_gets hx hb hE.2.1 hS hown h38 (fun _ h9 => h9) dJ0_isLatin1_aae02_0 ?_
  refine lv_if_eq (tgt := 17) hx hb dJ0_isLatin1_aae02_3 (by decide) (fun c1 => absurd c1 (by decide)) (fun _ => ?_)
  refine lv_aload_n hx hb dJ0_isLatin1_aae02_6 rfl (lv_at hl 0 rfl) ?_
  refine vk_getf hx hb (hE.1.1 k hk).2.1 hS hown h15 (fun _ h9 => h9) dJ0_isLatin1_aae02_7 ?_
  refine lv_if_ne (tgt := 17) hx hb dJ0_isLatin1_aae02_10 (by decide) (fun c1 => absurd rfl c1) (fun _ => ?_)
  refine lv_iconst (v := 1) hx hb dJ0_isLatin1_aae02_13 (by decide) ?_
  refine lv_goto (tgt := 18) hx hb dJ0_isLatin1_aae02_14 (by decide) ?_
  exact W.zret (v := 1) hx hb hr rfl (fun t ht hW => ⟨1, rfl, rfl, ht⟩) (fun q h => nomatch h) dJ0_isLatin1_aae02_18
set_option maxHeartbeats 4000000 in
set_option maxRecDepth 100000 in
theorem mJ0_coder (l : Launch) (adK adV : Nat → Nat) (k : Nat) (hk : k < 7) : Met l yJ0_coder_7d493 wsJ0_coder_7d493 ({ frames := 0, cells := 0, slots := 0, locals := 0 }) (va_Pc [.ref (adK k)] (fun U => xStr adK adV xNo U U.heap)) (vp_Si (fun x => x = 0)) 0 0 (fun _ => False) := by
  refine Met.ofW (cc := cJ0_coder_7d493) (maxL := 1) (ret := (some .byte)) (by decide) rfl ?_
  intro p e s m args below meth c s₁ B hml hv2
  obtain ⟨rfl, hE⟩ := hv2
  have hx := B.exec
  have hb := B.bytes
  have hr := B.returns
  have hts := atoms_spec (ws := wsJ0_coder_7d493) B.pre
  have hown : s.vm.findClass RJ0 = some m.cls := findClass_of_methodNamed B.named
  have hlocks := B.notSynchronized
  have hS : va_S xNo s.heap s.heap [] := va_S.rf
  have h38 := hts (.fieldLink RJ0 38 "java/lang/String" "COMPACT_STRINGS" "Z") (by decide +kernel)
  have h15 := hts (.fieldLink RJ0 15 "java/lang/String" "coder" "B") (by decide +kernel)
  have hl := lv_entry ([.ref (adK k)]) (n := 1) (Nat.le_of_ble_eq_true rfl)
  rw [lg_entry_eq]
  generalize (lg_sl ([.ref (adK k)]) ++ List.replicate (1 - (lg_sl ([.ref (adK k)])).length) Slot.unset).toArray = ls at hl ⊢
  have hl : lv_has ls 1 [(0, .ref (adK k))] := hl
  refine va_gets hx hb hE.2.1 hS hown h38 (fun _ h9 => h9) dJ0_coder_7d493_0 ?_
  refine lv_if_eq (tgt := 13) hx hb dJ0_coder_7d493_3 (by decide) (fun c1 => absurd c1 (by decide)) (fun _ => ?_)
  refine lv_aload_n hx hb dJ0_coder_7d493_6 rfl (lv_at hl 0 rfl) ?_
  refine vk_getf hx hb (hE.1.1 k hk).2.1 hS hown h15 (fun _ h9 => h9) dJ0_coder_7d493_7 ?_
  refine lv_goto (tgt := 14) hx hb dJ0_coder_7d493_10 (by decide) ?_
  exact W.zret (v := 0) hx hb hr rfl (fun t ht hW => ⟨0, rfl, rfl, ht⟩) (fun q h => nomatch h) dJ0_coder_7d493_14
theorem xStrV {adK adV : Nat → Nat} {k : Nat} {As : List Value} {s : State} {H : Heap} (hk : k < 7) (hE : xStr adK adV xNo s H) : PreV s H "java/lang/String" (adK k) (va_Pc (.ref (adK k) :: As) (fun U => xStr adK adV xNo U U.heap)) As := by
  refine ⟨xStrB, ?_, fun U hU hW => ⟨rfl, by dsimp only; rw [hU]; exact hE.moved hW.alike⟩⟩
  obtain ⟨cell, h1, h2, h3, -⟩ := (hE.1.1 k hk).1
  exact ⟨cell, h1, h2, h3⟩
set_option maxHeartbeats 4000000 in
set_option maxRecDepth 100000 in
theorem mJ0_length (l : Launch) (adK adV : Nat → Nat) (k : Nat) (hk : k < 7) : Met l yJ0_length_8abf5 wsJ0_length_8abf5 ({ frames := 1, cells := 0, slots := 0, locals := 20 }) (va_Pc [.ref (adK k)] (fun U => xStr adK adV xNo U U.heap)) (vp_Si (fun x => x = Int32.ofNat (xSl k))) 0 0 (fun _ => False) := by
  refine Met.ofW (cc := cJ0_length_8abf5) (maxL := 1) (ret := (some .int)) (by decide) rfl ?_
  intro p e s m args below meth c s₁ B hml hv2
  obtain ⟨rfl, hE⟩ := hv2
  have hx := B.exec
  have hb := B.bytes
  have hr := B.returns
  have hts := atoms_spec (ws := wsJ0_length_8abf5) B.pre
  have hown : s.vm.findClass RJ0 = some m.cls := findClass_of_methodNamed B.named
  have hlocks := B.notSynchronized
  have hS : va_S xNo s.heap s.heap [] := va_S.rf
  have h9 := hts (.fieldLink RJ0 9 "java/lang/String" "value" "[B") (by decide +kernel)
  have hl := lv_entry ([.ref (adK k)]) (n := 1) (Nat.le_of_ble_eq_true rfl)
  rw [lg_entry_eq]
  generalize (lg_sl ([.ref (adK k)]) ++ List.replicate (1 - (lg_sl ([.ref (adK k)])).length) Slot.unset).toArray = ls at hl ⊢
  have hl : lv_has ls 1 [(0, .ref (adK k))] := hl
  refine lv_aload_n hx hb dJ0_length_8abf5_0 rfl (lv_at hl 0 rfl) ?_
  refine vk_getf hx hb (hE.1.1 k hk).2.2.1 hS hown h9 (fun _ h9 => h9) dJ0_length_8abf5_1 ?_
  refine va_tlen hx hb (hE.1.1 k hk).2.2.2 hS rfl dJ0_length_8abf5_4 ?_
  refine lv_aload_n hx hb dJ0_length_8abf5_5 rfl (lv_at hl 0 rfl) ?_
  refine xcSi (va_runV (As := []) (rest := [.int (Int32.ofNat (xSl k))]) ⟨hx, hb, hml, hown, hts⟩ (mJ0_coder l adK adV k hk) (cwV 0 hts gJ0_length_8abf5_J0_coder_7d493 rfl rfl rfl (by decide +kernel) ⟨Nat.le_of_ble_eq_true rfl, Nat.le_of_ble_eq_true rfl⟩) (xStrV hk hE) rfl rfl hl.1 rfl (lv_room (Nat.le_of_ble_eq_true rfl)) dJ0_length_8abf5_6 ⟨Nat.le_of_ble_eq_true rfl, Nat.le_of_ble_eq_true rfl⟩) ?_
  refine lv_ishr hx hb dJ0_length_8abf5_9 ?_
  rw [sb_shr0]
  exact W.iret (v := Int32.ofNat (xSl k)) hx hb hr (fun t ht hW => ⟨_, rfl, rfl, ht⟩) (fun q h => nomatch h) dJ0_length_8abf5_10
set_option maxHeartbeats 4000000 in
set_option maxRecDepth 100000 in
theorem mJ0_charAt (l : Launch) (adK adV : Nat → Nat) (k : Nat) (hk : k < 7) (i : Int32) (hin : ¬ (i < 0 ∨ xSl k ≤ i.toNatClampNeg)) : Met l yJ0_charAt_5068e wsJ0_charAt_5068e ({ frames := 3, cells := 0, slots := 0, locals := 64 }) (va_Pc [.ref (adK k), .int i] (fun U => xStr adK adV xNo U U.heap)) (vp_Si (fun x => x = xSc k i.toNatClampNeg)) 0 0 (fun _ => False) := by
  refine Met.ofW (cc := cJ0_charAt_5068e) (maxL := 2) (ret := (some .char)) (by decide) rfl ?_
  intro p e s m args below meth c s₁ B hml hv2
  obtain ⟨rfl, hE⟩ := hv2
  have hx := B.exec
  have hb := B.bytes
  have hr := B.returns
  have hts := atoms_spec (ws := wsJ0_charAt_5068e) B.pre
  have hown : s.vm.findClass RJ0 = some m.cls := findClass_of_methodNamed B.named
  have hlocks := B.notSynchronized
  have hS : va_S xNo s.heap s.heap [] := va_S.rf
  have h9 := hts (.fieldLink RJ0 9 "java/lang/String" "value" "[B") (by decide +kernel)
  have hN : xSl k < 2 ^ 31 := by
    match k, hk with
    | 0, _ => decide
    | 1, _ => decide
    | 2, _ => decide
    | 3, _ => decide
    | 4, _ => decide
    | 5, _ => decide
    | 6, _ => decide
    | k + 7, h => exact absurd h (by omega)
  have hl := lv_entry ([.ref (adK k), .int i]) (n := 2) (Nat.le_of_ble_eq_true rfl)
  rw [lg_entry_eq]
  generalize (lg_sl ([.ref (adK k), .int i]) ++ List.replicate (2 - (lg_sl ([.ref (adK k), .int i])).length) Slot.unset).toArray = ls at hl ⊢
  have hl : lv_has ls 2 [(0, .ref (adK k)), (1, .int i)] := hl
  refine lv_aload_n hx hb dJ0_charAt_5068e_0 rfl (lv_at hl 0 rfl) ?_
  refine xcSi (va_runV (As := []) (rest := []) ⟨hx, hb, hml, hown, hts⟩ (mJ0_isLatin1 l adK adV k hk) (cwV 0 hts gJ0_charAt_5068e_J0_isLatin1_aae02 rfl rfl rfl (by decide +kernel) ⟨Nat.le_of_ble_eq_true rfl, Nat.le_of_ble_eq_true rfl⟩) (xStrV hk hE) rfl rfl hl.1 rfl (lv_room (Nat.le_of_ble_eq_true rfl)) dJ0_charAt_5068e_1 ⟨Nat.le_of_ble_eq_true rfl, Nat.le_of_ble_eq_true rfl⟩) ?_
  refine lv_if_eq (tgt := 16) hx hb dJ0_charAt_5068e_4 (by decide) (fun c1 => absurd c1 (by decide)) (fun _ => ?_)
  refine lv_aload_n hx hb dJ0_charAt_5068e_7 rfl (lv_at hl 0 rfl) ?_
  refine vk_getf hx hb (hE.1.1 k hk).2.2.1 hS hown h9 (fun _ h9 => h9) dJ0_charAt_5068e_8 ?_
  refine lv_iload_n hx hb dJ0_charAt_5068e_11 rfl (lv_at hl 1 rfl) ?_
  refine xcSi (va_runS (As := [.ref (adV k), .int i]) (rest := []) ⟨hx, hb, hml, hown, hts⟩ (mJ1_charAt l (adV k) (xSl k) (xSb k) i hN hin) (va_cwS 2 hts gJ0_charAt_5068e_J1_charAt_3b067 rfl rfl rfl (by decide +kernel) ⟨Nat.le_of_ble_eq_true rfl, Nat.le_of_ble_eq_true rfl⟩) ⟨fun a U g mk q => ⟨q.1, va_T.moved (u := U) (U := U.calling g mk a) (Vm.Alike.refl U.vm) q.2.1, va_Zq.moved (u := U) (U := U.calling g mk a) (Vm.Alike.refl U.vm) q.2.2⟩, fun U hU hW => ⟨rfl, by rw [hU]; exact va_T.moved hW.alike (hE.1.1 k hk).2.2.2, by rw [hU]; exact va_Zq.moved hW.alike hE.2.2⟩⟩ rfl rfl hl.1 rfl (lv_room (Nat.le_of_ble_eq_true rfl)) dJ0_charAt_5068e_12 ⟨Nat.le_of_ble_eq_true rfl, Nat.le_of_ble_eq_true rfl⟩) ?_
  exact W.zret (v := xSc k i.toNatClampNeg) hx hb hr (pk_nc _) (fun t ht hW => ⟨_, rfl, rfl, ht⟩) (fun q h => nomatch h) dJ0_charAt_5068e_15
theorem xFBs {D : va_G} {cy : Nat → ClassId} {adK adV : Nat → Nat} {ws : va_W} {av : List Value} : FrameBlind (va_Pc av (fun U => va_P D vwCl ws U.heap ∧ xK D cy U ∧ xStr adK adV xNo U U.heap ∧ xRef adK U)) := fun a U g mk q => by
  obtain ⟨q0, qP, qK, qE, qR⟩ := q
  exact ⟨q0, qP, xK.same (u := U) (U := U.calling g mk a) rfl qK, xStr.moved (u := U) (U := U.calling g mk a) (Vm.Alike.refl U.vm) qE, xRef.same (u := U) (U := U.calling g mk a) rfl qR⟩
theorem xFBsw {D : va_G} {cy : Nat → ClassId} {adK adV : Nat → Nat} {ws : va_W} {av : List Value} {sz : Nat} {B : Nat → Prop} : FrameBlind (va_Pc av (fun U => U.heap.size = sz ∧ va_P D vwCl ws U.heap ∧ xK D cy U ∧ va_D (fun _ => True) ws ∧ xStr adK adV B U U.heap ∧ xRef adK U)) := fun a U g mk q => by
  obtain ⟨q0, q1, qP, qK, qD, qE, qR⟩ := q
  exact ⟨q0, q1, qP, xK.same (u := U) (U := U.calling g mk a) rfl qK, qD, xStr.moved (u := U) (U := U.calling g mk a) (Vm.Alike.refl U.vm) qE, xRef.same (u := U) (U := U.calling g mk a) rfl qR⟩
theorem xPVs {D : va_G} {cy : Nat → ClassId} {adK adV : Nat → Nat} {ws : va_W} {As : List Value} {s : State} {H : Heap} {b ci q0 : Nat} {q : vw_C} {fs : List Value} (hK : xK D cy s) (hP : va_P D vwCl ws H) (hE : xStr adK adV xNo s H) (hR : xRef adK s) (hc : vwCl[ci]? = some q) (he : ws[q0]? = some (b, .inr (ci, fs))) : PreV s H q.1 b (va_Pc (.ref b :: As) (fun U => va_P D vwCl ws U.heap ∧ xK D cy U ∧ xStr adK adV xNo U U.heap ∧ xRef adK U)) As := ⟨xFBs, va_recv hK.1 hP hc he, fun U hU hW => ⟨rfl, by rw [hU]; exact hP, hK.warm hW, by rw [hU]; exact hE.moved hW.alike, hR.warm hW⟩⟩
theorem xPVsw {D : va_G} {cy : Nat → ClassId} {adK adV : Nat → Nat} {ws : va_W} {As : List Value} {s : State} {H : Heap} {A : Nat → Prop} {b ci q0 : Nat} {q : vw_C} {fs : List Value} (hK : xK D cy s) (hP : va_P D vwCl ws H) (hD : va_D A ws) (hE : xStr adK adV (va_A ws H.size) s H) (hR : xRef adK s) (hc : vwCl[ci]? = some q) (he : ws[q0]? = some (b, .inr (ci, fs))) : PreV s H q.1 b (va_Pc (.ref b :: As) (fun U => U.heap.size = H.size ∧ va_P D vwCl ws U.heap ∧ xK D cy U ∧ va_D (fun _ => True) ws ∧ xStr adK adV (va_A ws H.size) U U.heap ∧ xRef adK U)) As := ⟨xFBsw, va_recv hK.1 hP hc he, fun U hU hW => ⟨rfl, by rw [hU], by rw [hU]; exact hP, hK.warm hW, hD.weaken (fun _ _ _ _ => trivial), by rw [hU]; exact hE.moved hW.alike, hR.warm hW⟩⟩
