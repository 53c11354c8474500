/-! ===== BEGIN words of one list among another's, by their places ===== -/
theorem goodIn_r {big : List Cond} (ws : List Cond) (ps : List Nat) (hp : ws = ps.filterMap (fun i => big[i]?)) (h : ws.all goodWord = true) : GoodIn big ws := by
  intro w hw
  have h1 := List.all_eq_true.mp h w hw
  rw [hp] at hw
  obtain ⟨i, -, hi⟩ := List.mem_filterMap.mp hw
  have hm : w ∈ big := by first | exact List.mem_of_getElem? hi | exact List.getElem?_mem hi
  exact ⟨hm, good_of_word h1⟩
theorem goodIn_app {big a b : List Cond} (ha : GoodIn big a) (hb : GoodIn big b) : GoodIn big (a ++ b) := fun w h => (List.mem_append.mp h).elim (ha w) (hb w)
theorem goodIn_ca {big a b : List Cond} {c : Cond} (ha : GoodIn big (c :: a)) (hb : GoodIn big b) : GoodIn big (c :: (a ++ b)) := fun w h => (List.mem_cons.mp h).elim (fun e => ha w (List.mem_cons.mpr (Or.inl e))) (fun h => (List.mem_append.mp h).elim (fun h => ha w (List.mem_cons.mpr (Or.inr h))) (hb w))
theorem goodIn_sub {big ws : List Cond} (hm : ∀ w ∈ ws, w ∈ big) (h : ws.all goodWord = true) : GoodIn big ws := fun w hw => ⟨hm w hw, good_of_word (List.all_eq_true.mp h w hw)⟩
/-! ===== END ===== -/

/-! ===== BEGIN new T[n][m]: the outer array a place, the inner ones among the pooled ===== -/
/-- f, but v at every address of l -/
def vr_up {α : Type} (f : Nat → α) (l : List Nat) (v : α) : Nat → α := fun a => if a ∈ l then v else f a
theorem vr_up_in {α : Type} {f : Nat → α} {l : List Nat} {v : α} {a : Nat} (h : a ∈ l) : vr_up f l v a = v := if_pos h
theorem vr_up_ne {α : Type} {f : Nat → α} {l : List Nat} {v : α} {a : Nat} (h : a ∉ l) : vr_up f l v a = f a := if_neg h
theorem vr_rows {L l : List Nat} {f : Nat → va_E} {e : va_E} (h : ∀ a, a ∈ l → a ∉ L) : va_pl L f ++ l.map (fun a => (a, e)) = va_pl (L ++ l) (vr_up f l e) := by
  unfold va_pl
  rw [List.map_append]
  congr 1
  · apply List.map_congr_left
    intro a ha
    rw [vr_up_ne (fun q => h a q ha)]
  · apply List.map_congr_left
    intro a ha
    rw [vr_up_in ha]
theorem vr_lay {X rows : va_W} {x : Nat × va_E} {pl : va_W} {D : va_G} {cl : List vw_C} {H : Heap} (hP : va_P D cl (((X ++ pl) ++ [x]) ++ rows) H) : va_P D cl ((X ++ [x]) ++ (pl ++ rows)) H := by
  rw [List.append_assoc (X ++ pl)] at hP
  have h := va_P.swap hP
  rw [← List.append_assoc X] at h
  have h2 := va_P.swap h
  rw [List.append_assoc (X ++ [x])] at h2
  exact h2
theorem vr_layD {X rows : va_W} {x : Nat × va_E} {pl : va_W} {A : Nat → Prop} (hD : va_D A (((X ++ pl) ++ [x]) ++ rows)) : va_D A ((X ++ [x]) ++ (pl ++ rows)) := by
  rw [List.append_assoc (X ++ pl)] at hD
  have h := va_D.swap hD
  rw [← List.append_assoc X] at h
  have h2 := va_D.swap h
  rw [List.append_assoc (X ++ [x])] at h2
  exact h2
theorem vr_outer (c : ClassId) (N h0 : Nat) : ∀ i : Nat, Jvm.Free.Multi.outerC c N h0 i = arrV c N (fun j => va_rf (if j < i then some (h0 + 1 + j) else none))
  | 0 => by
    show ({ cls := c, slots := Array.replicate N .null, vm := .none } : Cell) = _
    rw [arrV_new]
    refine congrArg (arrV c N) (funext fun j => ?_)
    simp [va_rf]
  | i + 1 => by
    show (Jvm.Free.Multi.outerC c N h0 i).setSlot i (.ref (h0 + 1 + i)) = _
    rw [vr_outer c N h0 i, arrV_store]
    refine congrArg (arrV c N) (funext fun j => ?_)
    by_cases e : j = i
    · subst e
      simp [updV, va_rf]
    · by_cases h : j < i
      · simp [updV, e, h, Nat.lt_succ_of_lt h]
      · simp [updV, e, h, show ¬ j < i + 1 by omega]
section VGM
variable {p : Program} {l : Launch} {e : Env} {R : Room} {s : State} {m : MethodId} {args : Array Value} {below : List Frame} {meth : Method} {c : Code} {H : Heap} {locs : List Loc} {cells slots : Nat} {Q : State → Prop}
variable {cc : ByteArray} {pc : Nat} {ls : Array Slot} {rest : List Value} {D : va_G} {cl : List vw_C} {A : Nat → Prop} {a : Nat} {tys : List (ClassId × FieldType)} {ws : va_W} {H0 : Heap}
theorem va_mna {X : va_W} {L : List Nat} {f : Nat → va_E} {cc : ByteArray} (hexec : p.tables.exec = Jvm.exec) (hb : c.code = cc) {own : String} {index : Nat} {ty : FieldType} {cy : ClassId} (hown : s.vm.findClass own = some m.cls) (hclink : (Cond.classLink own index ("[" ++ (FieldType.array ty).toString)).before args s = true) (hover : va_AOA ty s) (harr : (Cond.arrayClass ty).before args s = true) (hcy : s.vm.findClass (FieldType.array ty).toString = some cy)
    (hK : va_K D cl tys s) (hP : va_P D cl (X ++ va_pl L f) H) (hD : va_D A (X ++ va_pl L f)) (hS : va_S A H0 H locs) (hA : ∀ q, H0.size ≤ q → A q) {n k : Int32} {N' K' : Nat} {z : vp_A} (hn : ¬ n < 0) (hk : ¬ k < 0) (hN : n.toNatClampNeg = N') (hM : k.toNatClampNeg = K')
    (hb1 : N' * 4 ≤ 536870912) (hb2 : K' * componentBytes ty ≤ 536870912) (hb3 : K' ≤ 536870912) (hdf : fits ty (defaultValue ty) = true) (hdd : (defaultValue ty).isDefault = true) (hcells : cells + (1 + N') ≤ R.cells) (hslots : slots + (N' + N' * K') ≤ R.slots) (hz : ∀ c : ClassId, Jvm.Free.Multi.innerC c K' (defaultValue ty) = vp_cell c z) (hdg : decode cc pc = .ok (.multianewarray index 2, 4))
    (kk : ∀ (q : Nat) (r : Nat → Nat) (cA : ClassId) (H1 : Heap), (∀ i j : Nat, i < N' → j < N' → r i = r j → i = j) → (∀ i : Nat, i < N' → r i ∉ L) → va_K D cl (tys ++ [(cA, .array ty)]) s →
      va_P D cl ((X ++ [(q, .inl (cA, N', .inr (.inr (.inr (.inr (fun i => if i < N' then some (r i) else none))))))]) ++ va_pl (L ++ (List.range N').map r) (vr_up f ((List.range N').map r) (.inl (cy, z)))) H1 → va_D A ((X ++ [(q, .inl (cA, N', .inr (.inr (.inr (.inr (fun i => if i < N' then some (r i) else none))))))]) ++ va_pl (L ++ (List.range N').map r) (vr_up f ((List.range N').map r) (.inl (cy, z)))) → va_S A H0 H1 locs →
      W p l e R s m args below meth c H1 locs (cells + 1 + N') (slots + N' + N' * K') Q (F0 m (pc + 4) ls (.ref q :: rest))) : W p l e R s m args below meth c H locs cells slots Q (F0 m pc ls (.int k :: .int n :: rest)) := by
  subst hN
  subst hM
  intro T hT Xs
  obtain ⟨vm₁, cA, comp, -, fA, fC, hO, -, X', step⟩ := Xs.multianewarray2F hexec hown hclink (va_AOA.use hover) harr (g := F0 m pc ls (.int k :: .int n :: rest)) rfl (by rw [hb]; exact hdg) rfl hn hk hb1 hb2 hb3 hdf hdd hcells hslots
  have ec : some cy = some comp := hcy.symm.trans fC
  cases ec
  generalize hF : Jvm.Free.Multi.fill (T.setVm vm₁) cA cy n.toNatClampNeg k.toNatClampNeg (defaultValue ty) n.toNatClampNeg = F at X' step
  have hTh : (T.setVm vm₁).heap = H := hT
  obtain ⟨f1, f2, -, -⟩ := Jvm.Free.Multi.fill_facts (T.setVm vm₁) cA cy n.toNatClampNeg k.toNatClampNeg (defaultValue ty) n.toNatClampNeg
  rw [hF, hTh] at f1 f2
  have hold : ∀ x : Nat, x < H.size → F.heap[x]? = H[x]? := fun x hx => by
    have := Jvm.Free.Multi.fill_old (T.setVm vm₁) cA cy n.toNatClampNeg k.toNatClampNeg (defaultValue ty) (a := x) (by rw [hTh]; exact hx) n.toNatClampNeg
    rw [hF, hTh] at this
    exact this
  have hrow : ∀ j : Nat, j < n.toNatClampNeg → F.heap[H.size + 1 + j]? = some (vp_cell cy z) := fun j hj => by
    have := Jvm.Free.Multi.fill_inner (T.setVm vm₁) cA cy n.toNatClampNeg k.toNatClampNeg (defaultValue ty) n.toNatClampNeg j hj
    rw [hF, hTh, hz] at this
    exact this
  have hout : Jvm.Free.Multi.outerC cA n.toNatClampNeg H.size n.toNatClampNeg = vp_cell cA (n.toNatClampNeg, .inr (.inr (.inr (.inr (fun i => if i < n.toNatClampNeg then some (H.size + 1 + i) else none))))) := by
    rw [vp_cell_q]
    exact vr_outer cA n.toNatClampNeg H.size n.toNatClampNeg
  rw [hout] at f2
  have hlt : ∀ a, a ∈ L → a < H.size := fun a ha => by
    obtain ⟨k9, hk9⟩ := va_pl_get (X := X) (f := f) ha
    exact (hP k9 _ hk9).lt
  have hnl : ∀ i : Nat, i < n.toNatClampNeg → H.size + 1 + i ∉ L := fun i _ h => by
    have := hlt _ h
    omega
  have hnm : ∀ a, a ∈ (List.range n.toNatClampNeg).map (fun i => H.size + 1 + i) → a ∉ L := fun a ha h => by
    obtain ⟨i, -, rfl⟩ := List.mem_map.mp ha
    have := hlt _ h
    omega
  have hP0 : va_P D cl (X ++ va_pl L f) F.heap := hP.kept (fun k9 x hx => hold x.1 ((hP k9 x hx).lt))
  have hP1 : va_P D cl ((X ++ va_pl L f) ++ [(H.size, .inl (cA, n.toNatClampNeg, .inr (.inr (.inr (.inr (fun i => if i < n.toNatClampNeg then some (H.size + 1 + i) else none))))))]) F.heap := hP0.app (fun k9 x hx => by
    have h0 : k9 < 1 := (List.getElem?_eq_some_iff.mp hx).1
    rw [show k9 = 0 by omega] at hx
    cases hx
    exact f2)
  have hP2 : va_P D cl (((X ++ va_pl L f) ++ [(H.size, .inl (cA, n.toNatClampNeg, .inr (.inr (.inr (.inr (fun i => if i < n.toNatClampNeg then some (H.size + 1 + i) else none))))))]) ++ ((List.range n.toNatClampNeg).map (fun i => H.size + 1 + i)).map (fun a => (a, .inl (cy, z)))) F.heap := hP1.app (fun k9 x hx => by
    obtain ⟨a, ha, rfl⟩ := List.mem_map.mp (List.mem_of_getElem? hx)
    obtain ⟨i, hi, rfl⟩ := List.mem_map.mp ha
    exact hrow i (List.mem_range.mp hi))
  have hD2 : va_D A (((X ++ va_pl L f) ++ [(H.size, .inl (cA, n.toNatClampNeg, .inr (.inr (.inr (.inr (fun i => if i < n.toNatClampNeg then some (H.size + 1 + i) else none))))))]) ++ ((List.range n.toNatClampNeg).map (fun i => H.size + 1 + i)).map (fun a => (a, .inl (cy, z)))) := by
    have hD1 := hD.push (e := .inl (cA, n.toNatClampNeg, .inr (.inr (.inr (.inr (fun i => if i < n.toNatClampNeg then some (H.size + 1 + i) else none)))))) hP rfl (hA _ hS.1)
    generalize hW1 : (X ++ va_pl L f) ++ [(H.size, .inl (cA, n.toNatClampNeg, .inr (.inr (.inr (.inr (fun i => if i < n.toNatClampNeg then some (H.size + 1 + i) else none))))))] = W1 at hD1 hP1 ⊢
    have hle : ∀ (k9 : Nat) (x : Nat × va_E), W1[k9]? = some x → x.1 ≤ H.size := fun k9 x hx => by
      rw [← hW1] at hx
      by_cases hl : k9 < (X ++ va_pl L f).length
      · rw [List.getElem?_append_left hl] at hx
        exact Nat.le_of_lt ((hP k9 x hx).lt)
      · rw [List.getElem?_append_right (by omega)] at hx
        have h0 : k9 - (X ++ va_pl L f).length < 1 := (List.getElem?_eq_some_iff.mp hx).1
        rw [show k9 - (X ++ va_pl L f).length = 0 by omega] at hx
        cases hx
        exact Nat.le_refl _
    have hr : ∀ (k9 : Nat) (x : Nat × va_E), (((List.range n.toNatClampNeg).map (fun i => H.size + 1 + i)).map (fun a => ((a, .inl (cy, z)) : Nat × va_E)))[k9]? = some x → x.1 = H.size + 1 + k9 := fun k9 x hx => by
      rw [List.getElem?_map, List.getElem?_map] at hx
      by_cases h9 : k9 < n.toNatClampNeg
      · rw [List.getElem?_range h9] at hx
        cases hx
        rfl
      · have hn0 : (List.range n.toNatClampNeg)[k9]? = none := List.getElem?_eq_none (by rw [List.length_range]; omega)
        rw [hn0] at hx
        cases hx
    refine ⟨fun i j x y hi hj hxy => ?_, fun k9 x hx => ?_⟩
    · by_cases h1 : i < W1.length <;> by_cases h2 : j < W1.length
      · rw [List.getElem?_append_left h1] at hi
        rw [List.getElem?_append_left h2] at hj
        exact hD1.1 i j x y hi hj hxy
      · rw [List.getElem?_append_left h1] at hi
        rw [List.getElem?_append_right (by omega)] at hj
        have := hle _ _ hi
        have := hr _ _ hj
        omega
      · rw [List.getElem?_append_right (by omega)] at hi
        rw [List.getElem?_append_left h2] at hj
        have := hle _ _ hj
        have := hr _ _ hi
        omega
      · rw [List.getElem?_append_right (by omega)] at hi hj
        have := hr _ _ hi
        have := hr _ _ hj
        omega
    · by_cases h1 : k9 < W1.length
      · rw [List.getElem?_append_left h1] at hx
        exact hD1.2 k9 x hx
      · rw [List.getElem?_append_right (by omega)] at hx
        have := hr _ _ hx
        exact hA _ (by have := hS.1; omega)
  have hAr : ArrOfT s cA (.array ty) := fun N9 z9 => by
    obtain ⟨-, k9, hk9, cm9, hkk9⟩ := (hO 0 0 0).1
    exact ⟨(fun q hq => by cases hq), k9, hk9, cm9, hkk9⟩
  have hK2 : va_K D cl (tys ++ [(cA, .array ty)]) s := ⟨hK.1, fun k9 x hx => by
    by_cases hl : k9 < tys.length
    · rw [List.getElem?_append_left hl] at hx
      exact hK.2 k9 x hx
    · rw [List.getElem?_append_right (by omega)] at hx
      have h0 : k9 - tys.length < 1 := (List.getElem?_eq_some_iff.mp hx).1
      rw [show k9 - tys.length = 0 by omega] at hx
      cases hx
      exact ⟨hAr, fA⟩⟩
  obtain ⟨t, a1, b1⟩ := kk H.size (fun i => H.size + 1 + i) cA F.heap (fun i j _ _ h => by have h9 : H.size + 1 + i = H.size + 1 + j := h; omega) hnl hK2 (by rw [← vr_rows hnm]; exact vr_lay hP2) (by rw [← vr_rows hnm]; exact vr_layD hD2) ⟨by rw [f1]; have := hS.1; omega, fun x h1 h2 => (hold x (Nat.lt_of_lt_of_le h1 hS.1)).trans (hS.2.1 x h1 h2), hS.2.2⟩ F rfl X'
  refine ⟨t, step t ?_, b1⟩
  have e : T.heap.size = H.size := by rw [hT]
  rw [e]
  exact a1
end VGM
/-! ===== END ===== -/

/-! ===== BEGIN printed: names, fields, word lists, decode rows ===== -/
def RX0 : String := "ShowsWhereNobodyIs$Choice"
def TX0 : u_T := fun k => match k with
  | 0 => ("ShowsWhereNobodyIs$Choice", "found", "I", false)
  | _ => ("ShowsWhereNobodyIs$Choice", "worth", "I", false)
def tyX0 : Nat → FieldType := fun k => match k with
  | 0 => .int
  | _ => .int
abbrev wsX00 : List Cond := u_ws RX0 TX0 2
theorem nmX0 : ∀ a, a < 2 → ∀ b, b < 2 → a ≠ b → (TX0 a).2.1 ≠ (TX0 b).2.1 := by decide +kernel
theorem tyX0_ok : ∀ k, k < 2 → parseFieldDescriptor (TX0 k).2.2.1 = some (tyX0 k) := by decide +kernel
abbrev cX0_init : ByteArray := prog_2_method_1_code
def yX0_init : MethodName := ⟨RX0, "<init>", "()V"⟩
abbrev cX0_begin : ByteArray := prog_2_method_2_code
def yX0_begin : MethodName := ⟨RX0, "begin", "(II)V"⟩
abbrev cX0_offer : ByteArray := prog_2_method_3_code
def yX0_offer : MethodName := ⟨RX0, "offer", "(II)V"⟩
def RX1 : String := "ShowsWhereNobodyIs$HiddenWay"
def TX1 : u_T := fun k => match k with
  | 0 => ("ShowsWhereNobodyIs$HiddenWay", "length", "I", false)
  | _ => ("ShowsWhereNobodyIs$HiddenWay", "steps", "[I", true)
def tyX1 : Nat → FieldType := fun k => match k with
  | 0 => .int
  | _ => .array .int
abbrev wsX10 : List Cond := u_ws RX1 TX1 2
theorem nmX1 : ∀ a, a < 2 → ∀ b, b < 2 → a ≠ b → (TX1 a).2.1 ≠ (TX1 b).2.1 := by decide +kernel
theorem tyX1_ok : ∀ k, k < 2 → parseFieldDescriptor (TX1 k).2.2.1 = some (tyX1 k) := by decide +kernel
abbrev cX1_init : ByteArray := prog_3_method_1_code
def yX1_init : MethodName := ⟨RX1, "<init>", "()V"⟩
abbrev cX1_seek : ByteArray := prog_3_method_2_code
def yX1_seek : MethodName := ⟨RX1, "seek", "(LShowsWhereNobodyIs$Town;II)V"⟩
abbrev cX1_keepOnlyWaysTo : ByteArray := prog_3_method_3_code
def yX1_keepOnlyWaysTo : MethodName := ⟨RX1, "keepOnlyWaysTo", "(LShowsWhereNobodyIs$Town;I)V"⟩
abbrev cX1_placeAt : ByteArray := prog_3_method_4_code
def yX1_placeAt : MethodName := ⟨RX1, "placeAt", "(LShowsWhereNobodyIs$Town;II)I"⟩
abbrev cX1_leastOf : ByteArray := prog_3_method_5_code
def yX1_leastOf : MethodName := ⟨RX1, "leastOf", "(II)I"⟩
def RX2 : String := "ShowsWhereNobodyIs$Shelf"
def TX2 : u_T := fun k => match k with
  | 0 => ("ShowsWhereNobodyIs$Shelf", "content", "I", false)
  | 1 => ("ShowsWhereNobodyIs$Shelf", "size", "I", false)
  | _ => ("ShowsWhereNobodyIs$Shelf", "elements", "[J", true)
def tyX2 : Nat → FieldType := fun k => match k with
  | 0 => .int
  | 1 => .int
  | _ => .array .long
abbrev wsX20 : List Cond := u_ws RX2 TX2 3
theorem nmX2 : ∀ a, a < 3 → ∀ b, b < 3 → a ≠ b → (TX2 a).2.1 ≠ (TX2 b).2.1 := by decide +kernel
theorem tyX2_ok : ∀ k, k < 3 → parseFieldDescriptor (TX2 k).2.2.1 = some (tyX2 k) := by decide +kernel
abbrev cX2_init : ByteArray := prog_4_method_1_code
def yX2_init : MethodName := ⟨RX2, "<init>", "()V"⟩
abbrev cX2_takeNothing : ByteArray := prog_4_method_2_code
def yX2_takeNothing : MethodName := ⟨RX2, "takeNothing", "()V"⟩
abbrev cX2_takePerson : ByteArray := prog_4_method_3_code
def yX2_takePerson : MethodName := ⟨RX2, "takePerson", "(I)V"⟩
abbrev cX2_takeRow : ByteArray := prog_4_method_4_code
def yX2_takeRow : MethodName := ⟨RX2, "takeRow", "(II)V"⟩
abbrev cX2_holdsNothing : ByteArray := prog_4_method_5_code
def yX2_holdsNothing : MethodName := ⟨RX2, "holdsNothing", "()Z"⟩
abbrev cX2_holdsPerson : ByteArray := prog_4_method_6_code
def yX2_holdsPerson : MethodName := ⟨RX2, "holdsPerson", "()Z"⟩
abbrev cX2_holdsRow : ByteArray := prog_4_method_7_code
def yX2_holdsRow : MethodName := ⟨RX2, "holdsRow", "()Z"⟩
abbrev cX2_personNumber : ByteArray := prog_4_method_8_code
def yX2_personNumber : MethodName := ⟨RX2, "personNumber", "()I"⟩
abbrev cX2_hasElement : ByteArray := prog_4_method_9_code
def yX2_hasElement : MethodName := ⟨RX2, "hasElement", "(I)Z"⟩
abbrev cX2_hasElements : ByteArray := prog_4_method_10_code
def yX2_hasElements : MethodName := ⟨RX2, "hasElements", "(II)Z"⟩
abbrev cX2_store : ByteArray := prog_4_method_11_code
def yX2_store : MethodName := ⟨RX2, "store", "(IJ)V"⟩
def RX3 : String := "ShowsWhereNobodyIs$Sights"
def TX3 : u_T := fun k => match k with
  | _ => ("ShowsWhereNobodyIs$Sights", "shone", "[I", true)
def tyX3 : Nat → FieldType := fun k => match k with
  | _ => .array .int
abbrev wsX30 : List Cond := u_ws RX3 TX3 1
theorem nmX3 : ∀ a, a < 1 → ∀ b, b < 1 → a ≠ b → (TX3 a).2.1 ≠ (TX3 b).2.1 := by decide +kernel
theorem tyX3_ok : ∀ k, k < 1 → parseFieldDescriptor (TX3 k).2.2.1 = some (tyX3 k) := by decide +kernel
abbrev cX3_init : ByteArray := prog_5_method_1_code
def yX3_init : MethodName := ⟨RX3, "<init>", "()V"⟩
abbrev cX3_watch : ByteArray := prog_5_method_2_code
def yX3_watch : MethodName := ⟨RX3, "watch", "(LShowsWhereNobodyIs$Town;I)V"⟩
abbrev cX3_mostAlike : ByteArray := prog_5_method_3_code
def yX3_mostAlike : MethodName := ⟨RX3, "mostAlike", "(II)I"⟩
abbrev cX3_countAlike : ByteArray := prog_5_method_4_code
def yX3_countAlike : MethodName := ⟨RX3, "countAlike", "(III)I"⟩
def RX4 : String := "ShowsWhereNobodyIs$Tape"
def TX4 : u_T := fun k => match k with
  | 0 => ("ShowsWhereNobodyIs$Tape", "bytes", "[I", true)
  | _ => ("ShowsWhereNobodyIs$Tape", "size", "I", false)
def tyX4 : Nat → FieldType := fun k => match k with
  | 0 => .array .int
  | _ => .int
abbrev wsX40 : List Cond := u_ws RX4 TX4 2
theorem nmX4 : ∀ a, a < 2 → ∀ b, b < 2 → a ≠ b → (TX4 a).2.1 ≠ (TX4 b).2.1 := by decide +kernel
theorem tyX4_ok : ∀ k, k < 2 → parseFieldDescriptor (TX4 k).2.2.1 = some (tyX4 k) := by decide +kernel
abbrev cX4_init : ByteArray := prog_6_method_1_code
def yX4_init : MethodName := ⟨RX4, "<init>", "()V"⟩
abbrev cX4_append : ByteArray := prog_6_method_2_code
def yX4_append : MethodName := ⟨RX4, "append", "(I)V"⟩
def RX5 : String := "ShowsWhereNobodyIs$Town"
def TX5 : u_T := fun k => match k with
  | 0 => ("ShowsWhereNobodyIs$Town", "places", "I", false)
  | 1 => ("ShowsWhereNobodyIs$Town", "ways", "[I", true)
  | 2 => ("ShowsWhereNobodyIs$Town", "distances", "[I", true)
  | 3 => ("ShowsWhereNobodyIs$Town", "people", "I", false)
  | 4 => ("ShowsWhereNobodyIs$Town", "kind", "[I", true)
  | 5 => ("ShowsWhereNobodyIs$Town", "a", "[I", true)
  | 6 => ("ShowsWhereNobodyIs$Town", "home", "[I", true)
  | 7 => ("ShowsWhereNobodyIs$Town", "aim", "[I", true)
  | 8 => ("ShowsWhereNobodyIs$Town", "at", "[I", true)
  | 9 => ("ShowsWhereNobodyIs$Town", "hour", "I", false)
  | 10 => ("ShowsWhereNobodyIs$Town", "chance", "I", false)
  | _ => ("ShowsWhereNobodyIs$Town", "seed", "I", false)
def tyX5 : Nat → FieldType := fun k => match k with
  | 0 => .int
  | 1 => .array .int
  | 2 => .array .int
  | 3 => .int
  | 4 => .array .int
  | 5 => .array .int
  | 6 => .array .int
  | 7 => .array .int
  | 8 => .array .int
  | 9 => .int
  | 10 => .int
  | _ => .int
abbrev wsX50 : List Cond := u_ws RX5 TX5 12
theorem nmX5 : ∀ a, a < 12 → ∀ b, b < 12 → a ≠ b → (TX5 a).2.1 ≠ (TX5 b).2.1 := by decide +kernel
theorem tyX5_ok : ∀ k, k < 12 → parseFieldDescriptor (TX5 k).2.2.1 = some (tyX5 k) := by decide +kernel
abbrev cX5_init : ByteArray := prog_7_method_1_code
def yX5_init : MethodName := ⟨RX5, "<init>", "()V"⟩
abbrev cX5_become : ByteArray := prog_7_method_2_code
def yX5_become : MethodName := ⟨RX5, "become", "(LShowsWhereNobodyIs$Town;)V"⟩
abbrev cX5_hasWay : ByteArray := prog_7_method_3_code
def yX5_hasWay : MethodName := ⟨RX5, "hasWay", "(II)Z"⟩
abbrev cX5_setWay : ByteArray := prog_7_method_4_code
def yX5_setWay : MethodName := ⟨RX5, "setWay", "(IIZ)V"⟩
abbrev cX5_countWays : ByteArray := prog_7_method_5_code
def yX5_countWays : MethodName := ⟨RX5, "countWays", "()I"⟩
abbrev cX5_distance : ByteArray := prog_7_method_6_code
def yX5_distance : MethodName := ⟨RX5, "distance", "(II)I"⟩
abbrev cX5_measure : ByteArray := prog_7_method_7_code
def yX5_measure : MethodName := ⟨RX5, "measure", "()V"⟩
abbrev cX5_measureFrom : ByteArray := prog_7_method_8_code
def yX5_measureFrom : MethodName := ⟨RX5, "measureFrom", "(I)V"⟩
abbrev cX5_spread : ByteArray := prog_7_method_9_code
def yX5_spread : MethodName := ⟨RX5, "spread", "(I)I"⟩
abbrev cX5_isFirstOfPart : ByteArray := prog_7_method_10_code
def yX5_isFirstOfPart : MethodName := ⟨RX5, "isFirstOfPart", "(I)Z"⟩
abbrev cX5_farTogether : ByteArray := prog_7_method_11_code
def yX5_farTogether : MethodName := ⟨RX5, "farTogether", "(I)I"⟩
abbrev cX5_addPerson : ByteArray := prog_7_method_12_code
def yX5_addPerson : MethodName := ⟨RX5, "addPerson", "(IIII)I"⟩
abbrev cX5_removePerson : ByteArray := prog_7_method_13_code
def yX5_removePerson : MethodName := ⟨RX5, "removePerson", "(I)V"⟩
abbrev cX5_darkens : ByteArray := prog_7_method_14_code
def yX5_darkens : MethodName := ⟨RX5, "darkens", "(I)Z"⟩
abbrev cX5_peopleIn : ByteArray := prog_7_method_15_code
def yX5_peopleIn : MethodName := ⟨RX5, "peopleIn", "(I)I"⟩
abbrev cX5_darkeningIn : ByteArray := prog_7_method_16_code
def yX5_darkeningIn : MethodName := ⟨RX5, "darkeningIn", "(I)I"⟩
abbrev cX5_darkPlaces : ByteArray := prog_7_method_17_code
def yX5_darkPlaces : MethodName := ⟨RX5, "darkPlaces", "()I"⟩
abbrev cX5_shiningPlaces : ByteArray := prog_7_method_18_code
def yX5_shiningPlaces : MethodName := ⟨RX5, "shiningPlaces", "()I"⟩
abbrev cX5_shiningCount : ByteArray := prog_7_method_19_code
def yX5_shiningCount : MethodName := ⟨RX5, "shiningCount", "()I"⟩
abbrev cX5_isJoined : ByteArray := prog_7_method_20_code
def yX5_isJoined : MethodName := ⟨RX5, "isJoined", "(I)Z"⟩
abbrev cX5_tellersFor : ByteArray := prog_7_method_21_code
def yX5_tellersFor : MethodName := ⟨RX5, "tellersFor", "(I)I"⟩
abbrev cX5_passHours : ByteArray := prog_7_method_22_code
def yX5_passHours : MethodName := ⟨RX5, "passHours", "(I)V"⟩
abbrev cX5_passHour : ByteArray := prog_7_method_23_code
def yX5_passHour : MethodName := ⟨RX5, "passHour", "()Z"⟩
abbrev cX5_goesTo : ByteArray := prog_7_method_24_code
def yX5_goesTo : MethodName := ⟨RX5, "goesTo", "(II)I"⟩
abbrev cX5_isDay : ByteArray := prog_7_method_25_code
def yX5_isDay : MethodName := ⟨RX5, "isDay", "()Z"⟩
abbrev cX5_stepToward : ByteArray := prog_7_method_26_code
def yX5_stepToward : MethodName := ⟨RX5, "stepToward", "(II)I"⟩
abbrev cX5_walkRound : ByteArray := prog_7_method_27_code
def yX5_walkRound : MethodName := ⟨RX5, "walkRound", "(I)I"⟩
abbrev cX5_endHour : ByteArray := prog_7_method_28_code
def yX5_endHour : MethodName := ⟨RX5, "endHour", "()V"⟩
abbrev cX5_passDrawnHour : ByteArray := prog_7_method_29_code
def yX5_passDrawnHour : MethodName := ⟨RX5, "passDrawnHour", "()V"⟩
abbrev cX5_drawPlace : ByteArray := prog_7_method_30_code
def yX5_drawPlace : MethodName := ⟨RX5, "drawPlace", "(I)V"⟩
abbrev cX5_draw : ByteArray := prog_7_method_31_code
def yX5_draw : MethodName := ⟨RX5, "draw", "(I)I"⟩
def RX6 : String := "ShowsWhereNobodyIs$TownReader"
def TX6 : u_T := fun k => match k with
  | 0 => ("ShowsWhereNobodyIs$TownReader", "tape", "LShowsWhereNobodyIs$Tape;", true)
  | 1 => ("ShowsWhereNobodyIs$TownReader", "fault", "I", false)
  | 2 => ("ShowsWhereNobodyIs$TownReader", "position", "I", false)
  | 3 => ("ShowsWhereNobodyIs$TownReader", "token", "I", false)
  | 4 => ("ShowsWhereNobodyIs$TownReader", "start", "I", false)
  | _ => ("ShowsWhereNobodyIs$TownReader", "value", "I", false)
def tyX6 : Nat → FieldType := fun k => match k with
  | 0 => .object "ShowsWhereNobodyIs$Tape"
  | 1 => .int
  | 2 => .int
  | 3 => .int
  | 4 => .int
  | _ => .int
abbrev wsX60 : List Cond := u_ws RX6 TX6 6
theorem nmX6 : ∀ a, a < 6 → ∀ b, b < 6 → a ≠ b → (TX6 a).2.1 ≠ (TX6 b).2.1 := by decide +kernel
theorem tyX6_ok : ∀ k, k < 6 → parseFieldDescriptor (TX6 k).2.2.1 = some (tyX6 k) := by decide +kernel
abbrev cX6_init : ByteArray := prog_8_method_1_code
def yX6_init : MethodName := ⟨RX6, "<init>", "()V"⟩
abbrev cX6_readTown : ByteArray := prog_8_method_2_code
def yX6_readTown : MethodName := ⟨RX6, "readTown", "(LShowsWhereNobodyIs$Town;)I"⟩
abbrev cX6_readStatement : ByteArray := prog_8_method_3_code
def yX6_readStatement : MethodName := ⟨RX6, "readStatement", "(LShowsWhereNobodyIs$Town;)V"⟩
abbrev cX6_readPlaces : ByteArray := prog_8_method_4_code
def yX6_readPlaces : MethodName := ⟨RX6, "readPlaces", "(LShowsWhereNobodyIs$Town;)V"⟩
abbrev cX6_readWay : ByteArray := prog_8_method_5_code
def yX6_readWay : MethodName := ⟨RX6, "readWay", "(LShowsWhereNobodyIs$Town;Z)V"⟩
abbrev cX6_readPerson : ByteArray := prog_8_method_6_code
def yX6_readPerson : MethodName := ⟨RX6, "readPerson", "(LShowsWhereNobodyIs$Town;)V"⟩
abbrev cX6_readAt : ByteArray := prog_8_method_7_code
def yX6_readAt : MethodName := ⟨RX6, "readAt", "(LShowsWhereNobodyIs$Town;)V"⟩
abbrev cX6_readHour : ByteArray := prog_8_method_8_code
def yX6_readHour : MethodName := ⟨RX6, "readHour", "(LShowsWhereNobodyIs$Town;)V"⟩
abbrev cX6_readChance : ByteArray := prog_8_method_9_code
def yX6_readChance : MethodName := ⟨RX6, "readChance", "(LShowsWhereNobodyIs$Town;)V"⟩
abbrev cX6_takeNumber : ByteArray := prog_8_method_10_code
def yX6_takeNumber : MethodName := ⟨RX6, "takeNumber", "(II)I"⟩
abbrev cX6_takeToken : ByteArray := prog_8_method_11_code
def yX6_takeToken : MethodName := ⟨RX6, "takeToken", "()V"⟩
abbrev cX6_skipBlanks : ByteArray := prog_8_method_12_code
def yX6_skipBlanks : MethodName := ⟨RX6, "skipBlanks", "()V"⟩
abbrev cX6_passWord : ByteArray := prog_8_method_13_code
def yX6_passWord : MethodName := ⟨RX6, "passWord", "()V"⟩
abbrev cX6_passNumber : ByteArray := prog_8_method_14_code
def yX6_passNumber : MethodName := ⟨RX6, "passNumber", "()V"⟩
abbrev cX6_isWord : ByteArray := prog_8_method_15_code
def yX6_isWord : MethodName := ⟨RX6, "isWord", "(Ljava/lang/String;)Z"⟩
abbrev cX6_letterAt : ByteArray := prog_8_method_16_code
def yX6_letterAt : MethodName := ⟨RX6, "letterAt", "(I)I"⟩
abbrev cX6_isLetter : ByteArray := prog_8_method_17_code
def yX6_isLetter : MethodName := ⟨RX6, "isLetter", "(I)Z"⟩
abbrev cX6_isDigit : ByteArray := prog_8_method_18_code
def yX6_isDigit : MethodName := ⟨RX6, "isDigit", "(I)Z"⟩
def RX7 : String := "ShowsWhereNobodyIs"
def TX7 : u_T := fun k => match k with
  | 0 => ("ShowsWhereNobodyIs", "now", "LShowsWhereNobodyIs$Town;", true)
  | 1 => ("ShowsWhereNobodyIs", "future", "LShowsWhereNobodyIs$Town;", true)
  | 2 => ("ShowsWhereNobodyIs", "draft", "LShowsWhereNobodyIs$Town;", true)
  | 3 => ("ShowsWhereNobodyIs", "kept", "LShowsWhereNobodyIs$Town;", true)
  | 4 => ("ShowsWhereNobodyIs", "isKept", "Z", false)
  | 5 => ("ShowsWhereNobodyIs", "shelves", "[LShowsWhereNobodyIs$Shelf;", true)
  | 6 => ("ShowsWhereNobodyIs", "tape", "LShowsWhereNobodyIs$Tape;", true)
  | 7 => ("ShowsWhereNobodyIs", "reader", "LShowsWhereNobodyIs$TownReader;", true)
  | 8 => ("ShowsWhereNobodyIs", "hiddenWay", "LShowsWhereNobodyIs$HiddenWay;", true)
  | 9 => ("ShowsWhereNobodyIs", "sights", "LShowsWhereNobodyIs$Sights;", true)
  | 10 => ("ShowsWhereNobodyIs", "choice", "LShowsWhereNobodyIs$Choice;", true)
  | _ => ("ShowsWhereNobodyIs", "refusals", "[I", true)
def tyX7 : Nat → FieldType := fun k => match k with
  | 0 => .object "ShowsWhereNobodyIs$Town"
  | 1 => .object "ShowsWhereNobodyIs$Town"
  | 2 => .object "ShowsWhereNobodyIs$Town"
  | 3 => .object "ShowsWhereNobodyIs$Town"
  | 4 => .boolean
  | 5 => .array (.object "ShowsWhereNobodyIs$Shelf")
  | 6 => .object "ShowsWhereNobodyIs$Tape"
  | 7 => .object "ShowsWhereNobodyIs$TownReader"
  | 8 => .object "ShowsWhereNobodyIs$HiddenWay"
  | 9 => .object "ShowsWhereNobodyIs$Sights"
  | 10 => .object "ShowsWhereNobodyIs$Choice"
  | _ => .array .int
abbrev wsX70 : List Cond := u_ws RX7 TX7 12
theorem nmX7 : ∀ a, a < 12 → ∀ b, b < 12 → a ≠ b → (TX7 a).2.1 ≠ (TX7 b).2.1 := by decide +kernel
theorem tyX7_ok : ∀ k, k < 12 → parseFieldDescriptor (TX7 k).2.2.1 = some (tyX7 k) := by decide +kernel
abbrev cX7_init : ByteArray := prog_1_method_1_code
def yX7_init : MethodName := ⟨RX7, "<init>", "()V"⟩
abbrev cX7_row : ByteArray := prog_1_method_2_code
def yX7_row : MethodName := ⟨RX7, "row", "(III)I"⟩
abbrev cX7_set : ByteArray := prog_1_method_3_code
def yX7_set : MethodName := ⟨RX7, "set", "(IIJ)I"⟩
abbrev cX7_copy : ByteArray := prog_1_method_4_code
def yX7_copy : MethodName := ⟨RX7, "copy", "(IIIII)I"⟩
abbrev cX7_element : ByteArray := prog_1_method_5_code
def yX7_element : MethodName := ⟨RX7, "element", "(II)J"⟩
abbrev cX7_holds : ByteArray := prog_1_method_6_code
def yX7_holds : MethodName := ⟨RX7, "holds", "(I)I"⟩
abbrev cX7_show : ByteArray := prog_1_method_7_code
def yX7_show : MethodName := ⟨RX7, "show", "(II)I"⟩
abbrev cX7_says : ByteArray := prog_1_method_8_code
def yX7_says : MethodName := ⟨RX7, "says", "(II)I"⟩
abbrev cX7_places : ByteArray := prog_1_method_9_code
def yX7_places : MethodName := ⟨RX7, "places", "(I)I"⟩
abbrev cX7_way : ByteArray := prog_1_method_10_code
def yX7_way : MethodName := ⟨RX7, "way", "(IIZ)I"⟩
abbrev cX7_person : ByteArray := prog_1_method_11_code
def yX7_person : MethodName := ⟨RX7, "person", "(IIII)I"⟩
abbrev cX7_put : ByteArray := prog_1_method_12_code
def yX7_put : MethodName := ⟨RX7, "put", "(III)I"⟩
abbrev cX7_tell : ByteArray := prog_1_method_13_code
def yX7_tell : MethodName := ⟨RX7, "tell", "(II)I"⟩
abbrev cX7_feed : ByteArray := prog_1_method_14_code
def yX7_feed : MethodName := ⟨RX7, "feed", "(I)I"⟩
abbrev cX7_wipe : ByteArray := prog_1_method_15_code
def yX7_wipe : MethodName := ⟨RX7, "wipe", "()I"⟩
abbrev cX7_town : ByteArray := prog_1_method_16_code
def yX7_town : MethodName := ⟨RX7, "town", "()I"⟩
abbrev cX7_personOf : ByteArray := prog_1_method_17_code
def yX7_personOf : MethodName := ⟨RX7, "personOf", "(II)I"⟩
abbrev cX7_isWay : ByteArray := prog_1_method_18_code
def yX7_isWay : MethodName := ⟨RX7, "isWay", "(II)I"⟩
abbrev cX7_far : ByteArray := prog_1_method_19_code
def yX7_far : MethodName := ⟨RX7, "far", "(II)I"⟩
abbrev cX7_where : ByteArray := prog_1_method_20_code
def yX7_where : MethodName := ⟨RX7, "where", "(II)I"⟩
abbrev cX7_shines : ByteArray := prog_1_method_21_code
def yX7_shines : MethodName := ⟨RX7, "shines", "(II)I"⟩
abbrev cX7_crowd : ByteArray := prog_1_method_22_code
def yX7_crowd : MethodName := ⟨RX7, "crowd", "(III)I"⟩
abbrev cX7_starts : ByteArray := prog_1_method_23_code
def yX7_starts : MethodName := ⟨RX7, "starts", "(III)I"⟩
abbrev cX7_kinds : ByteArray := prog_1_method_24_code
def yX7_kinds : MethodName := ⟨RX7, "kinds", "(III)I"⟩
abbrev cX7_next : ByteArray := prog_1_method_25_code
def yX7_next : MethodName := ⟨RX7, "next", "(I)I"⟩
abbrev cX7_hidden : ByteArray := prog_1_method_26_code
def yX7_hidden : MethodName := ⟨RX7, "hidden", "(III)I"⟩
abbrev cX7_find : ByteArray := prog_1_method_27_code
def yX7_find : MethodName := ⟨RX7, "find", "(III)I"⟩
abbrev cX7_untold : ByteArray := prog_1_method_28_code
def yX7_untold : MethodName := ⟨RX7, "untold", "(II)I"⟩
abbrev cX7_meet : ByteArray := prog_1_method_29_code
def yX7_meet : MethodName := ⟨RX7, "meet", "(II)I"⟩
abbrev cX7_darkest : ByteArray := prog_1_method_30_code
def yX7_darkest : MethodName := ⟨RX7, "darkest", "(II)I"⟩
abbrev cX7_light : ByteArray := prog_1_method_31_code
def yX7_light : MethodName := ⟨RX7, "light", "(II)I"⟩
abbrev cX7_when : ByteArray := prog_1_method_32_code
def yX7_when : MethodName := ⟨RX7, "when", "(I)I"⟩
abbrev cX7_always : ByteArray := prog_1_method_33_code
def yX7_always : MethodName := ⟨RX7, "always", "(I)I"⟩
abbrev cX7_never : ByteArray := prog_1_method_34_code
def yX7_never : MethodName := ⟨RX7, "never", "(I)I"⟩
abbrev cX7_flickers : ByteArray := prog_1_method_35_code
def yX7_flickers : MethodName := ⟨RX7, "flickers", "(I)I"⟩
abbrev cX7_round : ByteArray := prog_1_method_36_code
def yX7_round : MethodName := ⟨RX7, "round", "()I"⟩
abbrev cX7_going : ByteArray := prog_1_method_37_code
def yX7_going : MethodName := ⟨RX7, "going", "()I"⟩
abbrev cX7_arrives : ByteArray := prog_1_method_38_code
def yX7_arrives : MethodName := ⟨RX7, "arrives", "(II)I"⟩
abbrev cX7_seen : ByteArray := prog_1_method_39_code
def yX7_seen : MethodName := ⟨RX7, "seen", "(II)I"⟩
abbrev cX7_without : ByteArray := prog_1_method_40_code
def yX7_without : MethodName := ⟨RX7, "without", "(I)I"⟩
abbrev cX7_best : ByteArray := prog_1_method_41_code
def yX7_best : MethodName := ⟨RX7, "best", "(II)I"⟩
abbrev cX7_middle : ByteArray := prog_1_method_42_code
def yX7_middle : MethodName := ⟨RX7, "middle", "()I"⟩
abbrev cX7_parts : ByteArray := prog_1_method_43_code
def yX7_parts : MethodName := ⟨RX7, "parts", "()I"⟩
abbrev cX7_newWay : ByteArray := prog_1_method_44_code
def yX7_newWay : MethodName := ⟨RX7, "newWay", "()I"⟩
abbrev cX7_together : ByteArray := prog_1_method_45_code
def yX7_together : MethodName := ⟨RX7, "together", "(III)I"⟩
abbrev cX7_alone : ByteArray := prog_1_method_46_code
def yX7_alone : MethodName := ⟨RX7, "alone", "(II)I"⟩
abbrev cX7_covered : ByteArray := prog_1_method_47_code
def yX7_covered : MethodName := ⟨RX7, "covered", "(I)I"⟩
abbrev cX7_reach : ByteArray := prog_1_method_48_code
def yX7_reach : MethodName := ⟨RX7, "reach", "(II)I"⟩
abbrev cX7_farthest : ByteArray := prog_1_method_49_code
def yX7_farthest : MethodName := ⟨RX7, "farthest", "(I)I"⟩
abbrev cX7_ofKind : ByteArray := prog_1_method_50_code
def yX7_ofKind : MethodName := ⟨RX7, "ofKind", "(I)I"⟩
abbrev cX7_judge : ByteArray := prog_1_method_51_code
def yX7_judge : MethodName := ⟨RX7, "judge", "(II)I"⟩
abbrev cX7_hours : ByteArray := prog_1_method_52_code
def yX7_hours : MethodName := ⟨RX7, "hours", "(I)I"⟩
abbrev cX7_drawn : ByteArray := prog_1_method_53_code
def yX7_drawn : MethodName := ⟨RX7, "drawn", "(I)I"⟩
abbrev cX7_seed : ByteArray := prog_1_method_54_code
def yX7_seed : MethodName := ⟨RX7, "seed", "(I)I"⟩
abbrev cX7_image : ByteArray := prog_1_method_55_code
def yX7_image : MethodName := ⟨RX7, "image", "()I"⟩
abbrev cX7_back : ByteArray := prog_1_method_56_code
def yX7_back : MethodName := ⟨RX7, "back", "()I"⟩
abbrev cX7_status : ByteArray := prog_1_method_57_code
def yX7_status : MethodName := ⟨RX7, "status", "(I)I"⟩
abbrev cX7_refuse : ByteArray := prog_1_method_58_code
def yX7_refuse : MethodName := ⟨RX7, "refuse", "(I)I"⟩
abbrev cX7_isShelf : ByteArray := prog_1_method_59_code
def yX7_isShelf : MethodName := ⟨RX7, "isShelf", "(I)Z"⟩
abbrev cX7_isKind : ByteArray := prog_1_method_60_code
def yX7_isKind : MethodName := ⟨RX7, "isKind", "(I)Z"⟩
abbrev cX7_isAhead : ByteArray := prog_1_method_61_code
def yX7_isAhead : MethodName := ⟨RX7, "isAhead", "(I)Z"⟩
abbrev cX7_isSpan : ByteArray := prog_1_method_62_code
def yX7_isSpan : MethodName := ⟨RX7, "isSpan", "(I)Z"⟩
abbrev cX7_hasBit : ByteArray := prog_1_method_63_code
def yX7_hasBit : MethodName := ⟨RX7, "hasBit", "(II)Z"⟩
abbrev cX7_isPlace : ByteArray := prog_1_method_64_code
def yX7_isPlace : MethodName := ⟨RX7, "isPlace", "(I)Z"⟩
abbrev cX7_areTwoPlaces : ByteArray := prog_1_method_65_code
def yX7_areTwoPlaces : MethodName := ⟨RX7, "areTwoPlaces", "(II)Z"⟩
abbrev cX7_isPerson : ByteArray := prog_1_method_66_code
def yX7_isPerson : MethodName := ⟨RX7, "isPerson", "(I)Z"⟩
abbrev cX7_areTwoPeople : ByteArray := prog_1_method_67_code
def yX7_areTwoPeople : MethodName := ⟨RX7, "areTwoPeople", "(II)Z"⟩
abbrev cX7_isUnder : ByteArray := prog_1_method_68_code
def yX7_isUnder : MethodName := ⟨RX7, "isUnder", "(II)Z"⟩
abbrev cX7_lookAhead : ByteArray := prog_1_method_69_code
def yX7_lookAhead : MethodName := ⟨RX7, "lookAhead", "(I)V"⟩
abbrev cX7_rowReason : ByteArray := prog_1_method_70_code
def yX7_rowReason : MethodName := ⟨RX7, "rowReason", "(I)I"⟩
abbrev cX7_twoRowsReason : ByteArray := prog_1_method_71_code
def yX7_twoRowsReason : MethodName := ⟨RX7, "twoRowsReason", "(II)I"⟩
abbrev cX7_watchReason : ByteArray := prog_1_method_72_code
def yX7_watchReason : MethodName := ⟨RX7, "watchReason", "(IIZ)I"⟩
abbrev cX7_firstWrong : ByteArray := prog_1_method_73_code
def yX7_firstWrong : MethodName := ⟨RX7, "firstWrong", "(LShowsWhereNobodyIs$Shelf;I)I"⟩
abbrev cX7_brightestHour : ByteArray := prog_1_method_74_code
def yX7_brightestHour : MethodName := ⟨RX7, "brightestHour", "()I"⟩
abbrev cX7_stillHour : ByteArray := prog_1_method_75_code
def yX7_stillHour : MethodName := ⟨RX7, "stillHour", "()I"⟩
abbrev cX7_movedPeople : ByteArray := prog_1_method_76_code
def yX7_movedPeople : MethodName := ⟨RX7, "movedPeople", "()I"⟩
abbrev cX7_fullShelves : ByteArray := prog_1_method_77_code
def yX7_fullShelves : MethodName := ⟨RX7, "fullShelves", "()I"⟩
def RX8 : String := "ShowsWhereNobodyIsModel"
def TX8 : u_T := fun k => match k with
  | 0 => ("ShowsWhereNobodyIsModel", "shelf", "[I", true)
  | 1 => ("ShowsWhereNobodyIsModel", "rowSort", "[I", true)
  | 2 => ("ShowsWhereNobodyIsModel", "rowSize", "[I", true)
  | 3 => ("ShowsWhereNobodyIsModel", "rows", "[[J", true)
  | 4 => ("ShowsWhereNobodyIsModel", "moved", "[J", true)
  | 5 => ("ShowsWhereNobodyIsModel", "shown", "[I", true)
  | 6 => ("ShowsWhereNobodyIsModel", "tape", "[I", true)
  | 7 => ("ShowsWhereNobodyIsModel", "tapeSize", "I", false)
  | 8 => ("ShowsWhereNobodyIsModel", "refused", "[I", true)
  | 9 => ("ShowsWhereNobodyIsModel", "places", "I", false)
  | 10 => ("ShowsWhereNobodyIsModel", "ways", "[I", true)
  | 11 => ("ShowsWhereNobodyIsModel", "people", "I", false)
  | 12 => ("ShowsWhereNobodyIsModel", "kind", "[I", true)
  | 13 => ("ShowsWhereNobodyIsModel", "by", "[I", true)
  | 14 => ("ShowsWhereNobodyIsModel", "home", "[I", true)
  | 15 => ("ShowsWhereNobodyIsModel", "aim", "[I", true)
  | 16 => ("ShowsWhereNobodyIsModel", "at0", "[I", true)
  | 17 => ("ShowsWhereNobodyIsModel", "hour", "I", false)
  | 18 => ("ShowsWhereNobodyIsModel", "chance", "I", false)
  | 19 => ("ShowsWhereNobodyIsModel", "seed", "I", false)
  | 20 => ("ShowsWhereNobodyIsModel", "kept", "LShowsWhereNobodyIsModel;", false)
  | 21 => ("ShowsWhereNobodyIsModel", "tried", "LShowsWhereNobodyIsModel;", false)
  | 22 => ("ShowsWhereNobodyIsModel", "at", "I", false)
  | 23 => ("ShowsWhereNobodyIsModel", "token", "I", false)
  | 24 => ("ShowsWhereNobodyIsModel", "from", "I", false)
  | 25 => ("ShowsWhereNobodyIsModel", "figures", "I", false)
  | 26 => ("ShowsWhereNobodyIsModel", "fault", "I", false)
  | 27 => ("ShowsWhereNobodyIsModel", "told", "[I", true)
  | 28 => ("ShowsWhereNobodyIsModel", "statements", "I", false)
  | 29 => ("ShowsWhereNobodyIsModel", "steps", "[I", true)
  | 30 => ("ShowsWhereNobodyIsModel", "spot", "[I", true)
  | 31 => ("ShowsWhereNobodyIsModel", "then", "[I", true)
  | 32 => ("ShowsWhereNobodyIsModel", "now", "I", false)
  | 33 => ("ShowsWhereNobodyIsModel", "gone", "I", false)
  | 34 => ("ShowsWhereNobodyIsModel", "sights", "[[I", true)
  | 35 => ("ShowsWhereNobodyIsModel", "darkAt", "[I", true)
  | _ => ("ShowsWhereNobodyIsModel", "can", "[I", true)
def tyX8 : Nat → FieldType := fun k => match k with
  | 0 => .array .int
  | 1 => .array .int
  | 2 => .array .int
  | 3 => .array (.array .long)
  | 4 => .array .long
  | 5 => .array .int
  | 6 => .array .int
  | 7 => .int
  | 8 => .array .int
  | 9 => .int
  | 10 => .array .int
  | 11 => .int
  | 12 => .array .int
  | 13 => .array .int
  | 14 => .array .int
  | 15 => .array .int
  | 16 => .array .int
  | 17 => .int
  | 18 => .int
  | 19 => .int
  | 20 => .object "ShowsWhereNobodyIsModel"
  | 21 => .object "ShowsWhereNobodyIsModel"
  | 22 => .int
  | 23 => .int
  | 24 => .int
  | 25 => .int
  | 26 => .int
  | 27 => .array .int
  | 28 => .int
  | 29 => .array .int
  | 30 => .array .int
  | 31 => .array .int
  | 32 => .int
  | 33 => .int
  | 34 => .array (.array .int)
  | 35 => .array .int
  | _ => .array .int
abbrev wsX80 : List Cond := u_ws RX8 TX8 37
theorem nmX8 : ∀ a, a < 37 → ∀ b, b < 37 → a ≠ b → (TX8 a).2.1 ≠ (TX8 b).2.1 := by decide +kernel
theorem tyX8_ok : ∀ k, k < 37 → parseFieldDescriptor (TX8 k).2.2.1 = some (tyX8 k) := by decide +kernel
abbrev cX8_init : ByteArray := prog_10_method_1_code
def yX8_init : MethodName := ⟨RX8, "<init>", "()V"⟩
abbrev cX8_refuse : ByteArray := prog_10_method_2_code
def yX8_refuse : MethodName := ⟨RX8, "refuse", "(I)I"⟩
abbrev cX8_in : ByteArray := prog_10_method_3_code
def yX8_in : MethodName := ⟨RX8, "in", "(JJJ)Z"⟩
abbrev cX8_isPlace : ByteArray := prog_10_method_4_code
def yX8_isPlace : MethodName := ⟨RX8, "isPlace", "(I)Z"⟩
abbrev cX8_isPerson : ByteArray := prog_10_method_5_code
def yX8_isPerson : MethodName := ⟨RX8, "isPerson", "(I)Z"⟩
abbrev cX8_bits : ByteArray := prog_10_method_6_code
def yX8_bits : MethodName := ⟨RX8, "bits", "(I)I"⟩
abbrev cX8_row : ByteArray := prog_10_method_7_code
def yX8_row : MethodName := ⟨RX8, "row", "(III)I"⟩
abbrev cX8_fit : ByteArray := prog_10_method_8_code
def yX8_fit : MethodName := ⟨RX8, "fit", "(IJ)J"⟩
abbrev cX8_noRow : ByteArray := prog_10_method_9_code
def yX8_noRow : MethodName := ⟨RX8, "noRow", "(I)I"⟩
abbrev cX8_set : ByteArray := prog_10_method_10_code
def yX8_set : MethodName := ⟨RX8, "set", "(IIJ)I"⟩
abbrev cX8_copy : ByteArray := prog_10_method_11_code
def yX8_copy : MethodName := ⟨RX8, "copy", "(IIIII)I"⟩
abbrev cX8_element : ByteArray := prog_10_method_12_code
def yX8_element : MethodName := ⟨RX8, "element", "(II)J"⟩
abbrev cX8_holds : ByteArray := prog_10_method_13_code
def yX8_holds : MethodName := ⟨RX8, "holds", "(I)I"⟩
abbrev cX8_show : ByteArray := prog_10_method_14_code
def yX8_show : MethodName := ⟨RX8, "show", "(II)I"⟩
abbrev cX8_isUnder : ByteArray := prog_10_method_15_code
def yX8_isUnder : MethodName := ⟨RX8, "isUnder", "(II)Z"⟩
abbrev cX8_says : ByteArray := prog_10_method_16_code
def yX8_says : MethodName := ⟨RX8, "says", "(II)I"⟩
abbrev cX8_setWay : ByteArray := prog_10_method_17_code
def yX8_setWay : MethodName := ⟨RX8, "setWay", "(IIZ)V"⟩
abbrev cX8_addPerson : ByteArray := prog_10_method_18_code
def yX8_addPerson : MethodName := ⟨RX8, "addPerson", "(IIII)V"⟩
abbrev cX8_places : ByteArray := prog_10_method_19_code
def yX8_places : MethodName := ⟨RX8, "places", "(I)I"⟩
abbrev cX8_areTwo : ByteArray := prog_10_method_20_code
def yX8_areTwo : MethodName := ⟨RX8, "areTwo", "(II)Z"⟩
abbrev cX8_way : ByteArray := prog_10_method_21_code
def yX8_way : MethodName := ⟨RX8, "way", "(IIZ)I"⟩
abbrev cX8_isWay : ByteArray := prog_10_method_22_code
def yX8_isWay : MethodName := ⟨RX8, "isWay", "(II)I"⟩
abbrev cX8_person : ByteArray := prog_10_method_23_code
def yX8_person : MethodName := ⟨RX8, "person", "(IIII)I"⟩
abbrev cX8_put : ByteArray := prog_10_method_24_code
def yX8_put : MethodName := ⟨RX8, "put", "(III)I"⟩
abbrev cX8_tell : ByteArray := prog_10_method_25_code
def yX8_tell : MethodName := ⟨RX8, "tell", "(II)I"⟩
abbrev cX8_feed : ByteArray := prog_10_method_26_code
def yX8_feed : MethodName := ⟨RX8, "feed", "(I)I"⟩
abbrev cX8_wipe : ByteArray := prog_10_method_27_code
def yX8_wipe : MethodName := ⟨RX8, "wipe", "()I"⟩
abbrev cX8_isLetter : ByteArray := prog_10_method_28_code
def yX8_isLetter : MethodName := ⟨RX8, "isLetter", "(I)Z"⟩
abbrev cX8_isDigit : ByteArray := prog_10_method_29_code
def yX8_isDigit : MethodName := ⟨RX8, "isDigit", "(I)Z"⟩
abbrev cX8_look : ByteArray := prog_10_method_30_code
def yX8_look : MethodName := ⟨RX8, "look", "()V"⟩
abbrev cX8_wrong : ByteArray := prog_10_method_31_code
def yX8_wrong : MethodName := ⟨RX8, "wrong", "()Z"⟩
abbrev cX8_isWord : ByteArray := prog_10_method_32_code
def yX8_isWord : MethodName := ⟨RX8, "isWord", "(Ljava/lang/String;)Z"⟩
abbrev cX8_number : ByteArray := prog_10_method_33_code
def yX8_number : MethodName := ⟨RX8, "number", "(III)Z"⟩
abbrev cX8_tells : ByteArray := prog_10_method_34_code
def yX8_tells : MethodName := ⟨RX8, "tells", "(II)Z"⟩
abbrev cX8_tellsTwo : ByteArray := prog_10_method_35_code
def yX8_tellsTwo : MethodName := ⟨RX8, "tellsTwo", "()Z"⟩
abbrev cX8_tellsPerson : ByteArray := prog_10_method_36_code
def yX8_tellsPerson : MethodName := ⟨RX8, "tellsPerson", "()Z"⟩
abbrev cX8_statement : ByteArray := prog_10_method_37_code
def yX8_statement : MethodName := ⟨RX8, "statement", "()Z"⟩
abbrev cX8_readAll : ByteArray := prog_10_method_38_code
def yX8_readAll : MethodName := ⟨RX8, "readAll", "()Z"⟩
abbrev cX8_town : ByteArray := prog_10_method_39_code
def yX8_town : MethodName := ⟨RX8, "town", "()I"⟩
abbrev cX8_personOf : ByteArray := prog_10_method_40_code
def yX8_personOf : MethodName := ⟨RX8, "personOf", "(II)I"⟩
abbrev cX8_findFar : ByteArray := prog_10_method_41_code
def yX8_findFar : MethodName := ⟨RX8, "findFar", "(I)V"⟩
abbrev cX8_far : ByteArray := prog_10_method_42_code
def yX8_far : MethodName := ⟨RX8, "far", "(II)I"⟩
abbrev cX8_reach : ByteArray := prog_10_method_43_code
def yX8_reach : MethodName := ⟨RX8, "reach", "(II)I"⟩
abbrev cX8_farthest : ByteArray := prog_10_method_44_code
def yX8_farthest : MethodName := ⟨RX8, "farthest", "(I)I"⟩
abbrev cX8_middle : ByteArray := prog_10_method_45_code
def yX8_middle : MethodName := ⟨RX8, "middle", "()I"⟩
abbrev cX8_countParts : ByteArray := prog_10_method_46_code
def yX8_countParts : MethodName := ⟨RX8, "countParts", "()I"⟩
abbrev cX8_parts : ByteArray := prog_10_method_47_code
def yX8_parts : MethodName := ⟨RX8, "parts", "()I"⟩
abbrev cX8_newWay : ByteArray := prog_10_method_48_code
def yX8_newWay : MethodName := ⟨RX8, "newWay", "()I"⟩
abbrev cX8_darkens : ByteArray := prog_10_method_49_code
def yX8_darkens : MethodName := ⟨RX8, "darkens", "(I)Z"⟩
abbrev cX8_begin : ByteArray := prog_10_method_50_code
def yX8_begin : MethodName := ⟨RX8, "begin", "()V"⟩
abbrev cX8_stepToward : ByteArray := prog_10_method_51_code
def yX8_stepToward : MethodName := ⟨RX8, "stepToward", "(II)I"⟩
abbrev cX8_nextRound : ByteArray := prog_10_method_52_code
def yX8_nextRound : MethodName := ⟨RX8, "nextRound", "(I)I"⟩
abbrev cX8_isDarkBut : ByteArray := prog_10_method_53_code
def yX8_isDarkBut : MethodName := ⟨RX8, "isDarkBut", "(II)Z"⟩
abbrev cX8_goesTo : ByteArray := prog_10_method_54_code
def yX8_goesTo : MethodName := ⟨RX8, "goesTo", "(I)I"⟩
abbrev cX8_goes : ByteArray := prog_10_method_55_code
def yX8_goes : MethodName := ⟨RX8, "goes", "()V"⟩
abbrev cX8_goesOn : ByteArray := prog_10_method_56_code
def yX8_goesOn : MethodName := ⟨RX8, "goesOn", "(I)V"⟩
abbrev cX8_light : ByteArray := prog_10_method_57_code
def yX8_light : MethodName := ⟨RX8, "light", "()I"⟩
abbrev cX8_dark : ByteArray := prog_10_method_58_code
def yX8_dark : MethodName := ⟨RX8, "dark", "()I"⟩
abbrev cX8_isTime : ByteArray := prog_10_method_59_code
def yX8_isTime : MethodName := ⟨RX8, "isTime", "(I)Z"⟩
abbrev cX8_where : ByteArray := prog_10_method_60_code
def yX8_where : MethodName := ⟨RX8, "where", "(II)I"⟩
abbrev cX8_shines : ByteArray := prog_10_method_61_code
def yX8_shines : MethodName := ⟨RX8, "shines", "(II)I"⟩
abbrev cX8_crowdAt : ByteArray := prog_10_method_62_code
def yX8_crowdAt : MethodName := ⟨RX8, "crowdAt", "(IZ)I"⟩
abbrev cX8_crowd : ByteArray := prog_10_method_63_code
def yX8_crowd : MethodName := ⟨RX8, "crowd", "(III)I"⟩
abbrev cX8_darkest : ByteArray := prog_10_method_64_code
def yX8_darkest : MethodName := ⟨RX8, "darkest", "(II)I"⟩
abbrev cX8_covered : ByteArray := prog_10_method_65_code
def yX8_covered : MethodName := ⟨RX8, "covered", "(I)I"⟩
abbrev cX8_untold : ByteArray := prog_10_method_66_code
def yX8_untold : MethodName := ⟨RX8, "untold", "(II)I"⟩
abbrev cX8_untoldBy : ByteArray := prog_10_method_67_code
def yX8_untoldBy : MethodName := ⟨RX8, "untoldBy", "(I)I"⟩
abbrev cX8_find : ByteArray := prog_10_method_68_code
def yX8_find : MethodName := ⟨RX8, "find", "(III)I"⟩
abbrev cX8_light_ : ByteArray := prog_10_method_69_code
def yX8_light_ : MethodName := ⟨RX8, "light", "(II)I"⟩
abbrev cX8_always : ByteArray := prog_10_method_70_code
def yX8_always : MethodName := ⟨RX8, "always", "(I)I"⟩
abbrev cX8_never : ByteArray := prog_10_method_71_code
def yX8_never : MethodName := ⟨RX8, "never", "(I)I"⟩
abbrev cX8_flickers : ByteArray := prog_10_method_72_code
def yX8_flickers : MethodName := ⟨RX8, "flickers", "(I)I"⟩
abbrev cX8_round : ByteArray := prog_10_method_73_code
def yX8_round : MethodName := ⟨RX8, "round", "()I"⟩
abbrev cX8_goers : ByteArray := prog_10_method_74_code
def yX8_goers : MethodName := ⟨RX8, "goers", "()I"⟩
abbrev cX8_going : ByteArray := prog_10_method_75_code
def yX8_going : MethodName := ⟨RX8, "going", "()I"⟩
abbrev cX8_when : ByteArray := prog_10_method_76_code
def yX8_when : MethodName := ⟨RX8, "when", "(I)I"⟩
abbrev cX8_arrives : ByteArray := prog_10_method_77_code
def yX8_arrives : MethodName := ⟨RX8, "arrives", "(II)I"⟩
abbrev cX8_seen : ByteArray := prog_10_method_78_code
def yX8_seen : MethodName := ⟨RX8, "seen", "(II)I"⟩
abbrev cX8_meet : ByteArray := prog_10_method_79_code
def yX8_meet : MethodName := ⟨RX8, "meet", "(II)I"⟩
abbrev cX8_together : ByteArray := prog_10_method_80_code
def yX8_together : MethodName := ⟨RX8, "together", "(III)I"⟩
abbrev cX8_alone : ByteArray := prog_10_method_81_code
def yX8_alone : MethodName := ⟨RX8, "alone", "(II)I"⟩
abbrev cX8_without : ByteArray := prog_10_method_82_code
def yX8_without : MethodName := ⟨RX8, "without", "(I)I"⟩
abbrev cX8_best : ByteArray := prog_10_method_83_code
def yX8_best : MethodName := ⟨RX8, "best", "(II)I"⟩
abbrev cX8_ofKind : ByteArray := prog_10_method_84_code
def yX8_ofKind : MethodName := ⟨RX8, "ofKind", "(I)I"⟩
abbrev cX8_wrongIn : ByteArray := prog_10_method_85_code
def yX8_wrongIn : MethodName := ⟨RX8, "wrongIn", "(II)I"⟩
abbrev cX8_noWatch : ByteArray := prog_10_method_86_code
def yX8_noWatch : MethodName := ⟨RX8, "noWatch", "(IIZ)I"⟩
abbrev cX8_judge : ByteArray := prog_10_method_87_code
def yX8_judge : MethodName := ⟨RX8, "judge", "(II)I"⟩
abbrev cX8_starts : ByteArray := prog_10_method_88_code
def yX8_starts : MethodName := ⟨RX8, "starts", "(III)I"⟩
abbrev cX8_kinds : ByteArray := prog_10_method_89_code
def yX8_kinds : MethodName := ⟨RX8, "kinds", "(III)I"⟩
abbrev cX8_worstAt : ByteArray := prog_10_method_90_code
def yX8_worstAt : MethodName := ⟨RX8, "worstAt", "(I)I"⟩
abbrev cX8_next : ByteArray := prog_10_method_91_code
def yX8_next : MethodName := ⟨RX8, "next", "(I)I"⟩
abbrev cX8_besides : ByteArray := prog_10_method_92_code
def yX8_besides : MethodName := ⟨RX8, "besides", "(I)I"⟩
abbrev cX8_hiddenHours : ByteArray := prog_10_method_93_code
def yX8_hiddenHours : MethodName := ⟨RX8, "hiddenHours", "(II)I"⟩
abbrev cX8_hidden : ByteArray := prog_10_method_94_code
def yX8_hidden : MethodName := ⟨RX8, "hidden", "(III)I"⟩
abbrev cX8_below : ByteArray := prog_10_method_95_code
def yX8_below : MethodName := ⟨RX8, "below", "(I)I"⟩
abbrev cX8_stays : ByteArray := prog_10_method_96_code
def yX8_stays : MethodName := ⟨RX8, "stays", "()V"⟩
abbrev cX8_hours : ByteArray := prog_10_method_97_code
def yX8_hours : MethodName := ⟨RX8, "hours", "(I)I"⟩
abbrev cX8_strays : ByteArray := prog_10_method_98_code
def yX8_strays : MethodName := ⟨RX8, "strays", "(I)V"⟩
abbrev cX8_drawn : ByteArray := prog_10_method_99_code
def yX8_drawn : MethodName := ⟨RX8, "drawn", "(I)I"⟩
abbrev cX8_seed : ByteArray := prog_10_method_100_code
def yX8_seed : MethodName := ⟨RX8, "seed", "(I)I"⟩
abbrev cX8_copied : ByteArray := prog_10_method_101_code
def yX8_copied : MethodName := ⟨RX8, "copied", "([I[I)V"⟩
abbrev cX8_takeFrom : ByteArray := prog_10_method_102_code
def yX8_takeFrom : MethodName := ⟨RX8, "takeFrom", "(LShowsWhereNobodyIsModel;)V"⟩
abbrev cX8_image : ByteArray := prog_10_method_103_code
def yX8_image : MethodName := ⟨RX8, "image", "()I"⟩
abbrev cX8_back : ByteArray := prog_10_method_104_code
def yX8_back : MethodName := ⟨RX8, "back", "()I"⟩
abbrev cX8_status : ByteArray := prog_10_method_105_code
def yX8_status : MethodName := ⟨RX8, "status", "(I)I"⟩
def RJ6 : String := "java/lang/Integer"
def TJ6 : u_T := fun k => match k with
  | _ => ("", "", "", false)
def tyJ6 : Nat → FieldType := fun k => match k with
  | _ => .int
abbrev wsJ60 : List Cond := u_ws RJ6 TJ6 0
theorem nmJ6 : ∀ a, a < 0 → ∀ b, b < 0 → a ≠ b → (TJ6 a).2.1 ≠ (TJ6 b).2.1 := by decide +kernel
theorem tyJ6_ok : ∀ k, k < 0 → parseFieldDescriptor (TJ6 k).2.2.1 = some (tyJ6 k) := by decide +kernel
abbrev cJ6_bitCount_0f7a4 : ByteArray := prog_11_method_49_code
def yJ6_bitCount_0f7a4 : MethodName := ⟨RJ6, "bitCount", "(I)I"⟩
def RJ9 : String := "java/lang/Math"
def TJ9 : u_T := fun k => match k with
  | _ => ("", "", "", false)
def tyJ9 : Nat → FieldType := fun k => match k with
  | _ => .int
abbrev wsJ90 : List Cond := u_ws RJ9 TJ9 0
theorem nmJ9 : ∀ a, a < 0 → ∀ b, b < 0 → a ≠ b → (TJ9 a).2.1 ≠ (TJ9 b).2.1 := by decide +kernel
theorem tyJ9_ok : ∀ k, k < 0 → parseFieldDescriptor (TJ9 k).2.2.1 = some (tyJ9 k) := by decide +kernel
abbrev cJ9_max_7cf53 : ByteArray := prog_12_method_65_code
def yJ9_max_7cf53 : MethodName := ⟨RJ9, "max", "(II)I"⟩
abbrev cJ9_min_7cf53 : ByteArray := prog_12_method_69_code
def yJ9_min_7cf53 : MethodName := ⟨RJ9, "min", "(II)I"⟩
def RJ0 : String := "java/lang/String"
def TJ0 : u_T := fun k => match k with
  | _ => ("", "", "", false)
def tyJ0 : Nat → FieldType := fun k => match k with
  | _ => .int
abbrev wsJ00 : List Cond := u_ws RJ0 TJ0 0
theorem nmJ0 : ∀ a, a < 0 → ∀ b, b < 0 → a ≠ b → (TJ0 a).2.1 ≠ (TJ0 b).2.1 := by decide +kernel
theorem tyJ0_ok : ∀ k, k < 0 → parseFieldDescriptor (TJ0 k).2.2.1 = some (tyJ0 k) := by decide +kernel
abbrev cJ0_length_8abf5 : ByteArray := prog_13_method_54_code
def yJ0_length_8abf5 : MethodName := ⟨RJ0, "length", "()I"⟩
abbrev cJ0_charAt_5068e : ByteArray := prog_13_method_56_code
def yJ0_charAt_5068e : MethodName := ⟨RJ0, "charAt", "(I)C"⟩
abbrev cJ0_coder_7d493 : ByteArray := prog_13_method_152_code
def yJ0_coder_7d493 : MethodName := ⟨RJ0, "coder", "()B"⟩
abbrev cJ0_isLatin1_aae02 : ByteArray := prog_13_method_154_code
def yJ0_isLatin1_aae02 : MethodName := ⟨RJ0, "isLatin1", "()Z"⟩
abbrev cJ0_checkIndex_df160 : ByteArray := prog_13_method_155_code
def yJ0_checkIndex_df160 : MethodName := ⟨RJ0, "checkIndex", "(II)V"⟩
def RJ1 : String := "java/lang/StringLatin1"
def TJ1 : u_T := fun k => match k with
  | _ => ("", "", "", false)
def tyJ1 : Nat → FieldType := fun k => match k with
  | _ => .int
abbrev wsJ10 : List Cond := u_ws RJ1 TJ1 0
theorem nmJ1 : ∀ a, a < 0 → ∀ b, b < 0 → a ≠ b → (TJ1 a).2.1 ≠ (TJ1 b).2.1 := by decide +kernel
theorem tyJ1_ok : ∀ k, k < 0 → parseFieldDescriptor (TJ1 k).2.2.1 = some (tyJ1 k) := by decide +kernel
abbrev cJ1_charAt_3b067 : ByteArray := prog_14_method_2_code
def yJ1_charAt_3b067 : MethodName := ⟨RJ1, "charAt", "([BI)C"⟩
def RJ2 : String := "java/lang/StringUTF16"
def TJ2 : u_T := fun k => match k with
  | _ => ("", "", "", false)
def tyJ2 : Nat → FieldType := fun k => match k with
  | _ => .int
abbrev wsJ20 : List Cond := u_ws RJ2 TJ2 0
theorem nmJ2 : ∀ a, a < 0 → ∀ b, b < 0 → a ≠ b → (TJ2 a).2.1 ≠ (TJ2 b).2.1 := by decide +kernel
theorem tyJ2_ok : ∀ k, k < 0 → parseFieldDescriptor (TJ2 k).2.2.1 = some (tyJ2 k) := by decide +kernel
abbrev cJ2_getChar_3b067 : ByteArray := prog_15_method_5_code
def yJ2_getChar_3b067 : MethodName := ⟨RJ2, "getChar", "([BI)C"⟩
abbrev cJ2_length_9d52b : ByteArray := prog_15_method_6_code
def yJ2_length_9d52b : MethodName := ⟨RJ2, "length", "([B)I"⟩
abbrev cJ2_charAt_3b067 : ByteArray := prog_15_method_83_code
def yJ2_charAt_3b067 : MethodName := ⟨RJ2, "charAt", "([BI)C"⟩
abbrev cJ2_checkIndex_2214a : ByteArray := prog_15_method_91_code
def yJ2_checkIndex_2214a : MethodName := ⟨RJ2, "checkIndex", "(I[B)V"⟩
def RJ10 : String := "java/lang/System"
def TJ10 : u_T := fun k => match k with
  | _ => ("", "", "", false)
def tyJ10 : Nat → FieldType := fun k => match k with
  | _ => .int
abbrev wsJ100 : List Cond := u_ws RJ10 TJ10 0
theorem nmJ10 : ∀ a, a < 0 → ∀ b, b < 0 → a ≠ b → (TJ10 a).2.1 ≠ (TJ10 b).2.1 := by decide +kernel
theorem tyJ10_ok : ∀ k, k < 0 → parseFieldDescriptor (TJ10 k).2.2.1 = some (tyJ10 k) := by decide +kernel
def RJ3 : String := "jdk/internal/util/Preconditions"
def TJ3 : u_T := fun k => match k with
  | _ => ("", "", "", false)
def tyJ3 : Nat → FieldType := fun k => match k with
  | _ => .int
abbrev wsJ30 : List Cond := u_ws RJ3 TJ3 0
theorem nmJ3 : ∀ a, a < 0 → ∀ b, b < 0 → a ≠ b → (TJ3 a).2.1 ≠ (TJ3 b).2.1 := by decide +kernel
theorem tyJ3_ok : ∀ k, k < 0 → parseFieldDescriptor (TJ3 k).2.2.1 = some (tyJ3 k) := by decide +kernel
abbrev cJ3_checkIndex_8e157 : ByteArray := prog_17_method_11_code
def yJ3_checkIndex_8e157 : MethodName := ⟨RJ3, "checkIndex", "(IILjava/util/function/BiFunction;)I"⟩
def RL : String := "ShowsWhereNobodyIsLaw"
abbrev cL_law : ByteArray := code
def yL_law : MethodName := ⟨RL, "law", "([I)Z"⟩
def wsX0_init : List Cond := .code yX0_init cX0_init 1 none :: ([.methodLink RX0 1 objectInit, .instanceMethod objectInit, .code objectInit ⟨#[0xb1]⟩ 1 none])
def wsX0_begin : List Cond := .code yX0_begin cX0_begin 3 none :: ([.fieldLink RX0 7 "ShowsWhereNobodyIs$Choice" "found" "I", .fieldLink RX0 13 "ShowsWhereNobodyIs$Choice" "worth" "I"] ++ wsX00)
def wsX0_offer : List Cond := .code yX0_offer cX0_offer 3 none :: ([.fieldLink RX0 13 "ShowsWhereNobodyIs$Choice" "worth" "I", .fieldLink RX0 7 "ShowsWhereNobodyIs$Choice" "found" "I"] ++ wsX00)
def wsX1_init : List Cond := .code yX1_init cX1_init 1 none :: ([.methodLink RX1 3 objectInit, .instanceMethod objectInit, .code objectInit ⟨#[0xb1]⟩ 1 none, .fieldLink RX1 9 "ShowsWhereNobodyIs$HiddenWay" "length" "I", .arrayClass .int, .fieldLink RX1 15 "ShowsWhereNobodyIs$HiddenWay" "steps" "[I"] ++ wsX10)
def wsX5_darkens : List Cond := .code yX5_darkens cX5_darkens 2 (some .boolean) :: ([.fieldLink RX5 22 "ShowsWhereNobodyIs$Town" "kind" "[I"] ++ wsX50)
def wsX5_darkPlaces : List Cond := .code yX5_darkPlaces cX5_darkPlaces 3 (some .int) :: ([.fieldLink RX5 52 "ShowsWhereNobodyIs$Town" "people" "I", .fieldLink RX5 34 "ShowsWhereNobodyIs$Town" "at" "[I", .methodLink RX5 79 yX5_darkens, .instanceMethod yX5_darkens, .selects RX5 yX5_darkens yX5_darkens, .initialized RX5, .code yX5_darkens cX5_darkens 2 (some .boolean), .fieldLink RX5 22 "ShowsWhereNobodyIs$Town" "kind" "[I"] ++ wsX50)
def wsX7_hasBit : List Cond := .code yX7_hasBit cX7_hasBit 2 (some .boolean) :: ([])
def wsX5_spread : List Cond := .code yX5_spread cX5_spread 4 (some .int) :: ([.fieldLink RX5 15 "ShowsWhereNobodyIs$Town" "ways" "[I", .static yX7_hasBit, .initialized RX7, .code yX7_hasBit cX7_hasBit 2 (some .boolean)] ++ wsX50)
def wsX1_keepOnlyWaysTo : List Cond := .code yX1_keepOnlyWaysTo cX1_keepOnlyWaysTo 4 none :: ([.fieldLink RX1 15 "ShowsWhereNobodyIs$HiddenWay" "steps" "[I", .fieldLink RX1 9 "ShowsWhereNobodyIs$HiddenWay" "length" "I", .methodLink RX1 37 yX5_spread, .instanceMethod yX5_spread, .selects RX5 yX5_spread yX5_spread, .initialized RX5, .code yX5_spread cX5_spread 4 (some .int), .fieldLink RX5 15 "ShowsWhereNobodyIs$Town" "ways" "[I", .static yX7_hasBit, .initialized RX7, .code yX7_hasBit cX7_hasBit 2 (some .boolean)] ++ wsX10 ++ wsX50)
def wsX5_isDay : List Cond := .code yX5_isDay cX5_isDay 2 (some .boolean) :: ([.fieldLink RX5 55 "ShowsWhereNobodyIs$Town" "hour" "I"] ++ wsX50)
def wsX5_distance : List Cond := .code yX5_distance cX5_distance 3 (some .int) :: ([.fieldLink RX5 19 "ShowsWhereNobodyIs$Town" "distances" "[I"] ++ wsX50)
def wsX5_hasWay : List Cond := .code yX5_hasWay cX5_hasWay 3 (some .boolean) :: ([.fieldLink RX5 15 "ShowsWhereNobodyIs$Town" "ways" "[I"] ++ wsX50)
def wsX5_stepToward : List Cond := .code yX5_stepToward cX5_stepToward 5 (some .int) :: ([.fieldLink RX5 9 "ShowsWhereNobodyIs$Town" "places" "I", .methodLink RX5 75 yX5_distance, .instanceMethod yX5_distance, .selects RX5 yX5_distance yX5_distance, .initialized RX5, .code yX5_distance cX5_distance 3 (some .int), .fieldLink RX5 19 "ShowsWhereNobodyIs$Town" "distances" "[I", .methodLink RX5 109 yX5_hasWay, .instanceMethod yX5_hasWay, .selects RX5 yX5_hasWay yX5_hasWay, .code yX5_hasWay cX5_hasWay 3 (some .boolean), .fieldLink RX5 15 "ShowsWhereNobodyIs$Town" "ways" "[I"] ++ wsX50)
def wsX5_walkRound : List Cond := .code yX5_walkRound cX5_walkRound 3 (some .int) :: ([.fieldLink RX5 9 "ShowsWhereNobodyIs$Town" "places" "I", .methodLink RX5 109 yX5_hasWay, .instanceMethod yX5_hasWay, .selects RX5 yX5_hasWay yX5_hasWay, .initialized RX5, .code yX5_hasWay cX5_hasWay 3 (some .boolean), .fieldLink RX5 15 "ShowsWhereNobodyIs$Town" "ways" "[I"] ++ wsX50)
def wsX5_goesTo_r1 : List Cond := [Cond.fieldLink RX5 34 "ShowsWhereNobodyIs$Town" "at" "[I", Cond.fieldLink RX5 22 "ShowsWhereNobodyIs$Town" "kind" "[I", Cond.fieldLink RX5 31 "ShowsWhereNobodyIs$Town" "aim" "[I", Cond.fieldLink RX5 28 "ShowsWhereNobodyIs$Town" "home" "[I", Cond.methodLink RX5 100 yX5_isDay, Cond.instanceMethod yX5_isDay, Cond.selects RX5 yX5_isDay yX5_isDay, Cond.initialized RX5, Cond.code yX5_isDay cX5_isDay 2 (some .boolean), Cond.fieldLink RX5 55 "ShowsWhereNobodyIs$Town" "hour" "I", Cond.methodLink RX5 103 yX5_stepToward, Cond.instanceMethod yX5_stepToward, Cond.selects RX5 yX5_stepToward yX5_stepToward, Cond.code yX5_stepToward cX5_stepToward 5 (some .int), Cond.fieldLink RX5 9 "ShowsWhereNobodyIs$Town" "places" "I", Cond.methodLink RX5 75 yX5_distance, Cond.instanceMethod yX5_distance, Cond.selects RX5 yX5_distance yX5_distance, Cond.code yX5_distance cX5_distance 3 (some .int), Cond.fieldLink RX5 19 "ShowsWhereNobodyIs$Town" "distances" "[I", Cond.methodLink RX5 109 yX5_hasWay, Cond.instanceMethod yX5_hasWay, Cond.selects RX5 yX5_hasWay yX5_hasWay, Cond.code yX5_hasWay cX5_hasWay 3 (some .boolean)]
def wsX5_goesTo_r2 : List Cond := [Cond.fieldLink RX5 15 "ShowsWhereNobodyIs$Town" "ways" "[I", Cond.methodLink RX5 106 yX5_walkRound, Cond.instanceMethod yX5_walkRound, Cond.selects RX5 yX5_walkRound yX5_walkRound, Cond.code yX5_walkRound cX5_walkRound 3 (some .int), Cond.static yX7_hasBit, Cond.initialized RX7, Cond.code yX7_hasBit cX7_hasBit 2 (some .boolean)]
def wsX5_goesTo : List Cond := .code yX5_goesTo cX5_goesTo 4 (some .int) :: ((wsX5_goesTo_r1 ++ wsX5_goesTo_r2) ++ wsX50)
def wsX5_endHour : List Cond := .code yX5_endHour cX5_endHour 1 none :: ([.fieldLink RX5 55 "ShowsWhereNobodyIs$Town" "hour" "I", .methodLink RX5 112 Lib.Math.min.name, .static Lib.Math.min.name, .initialized "java/lang/Math", .code Lib.Math.min.name Lib.Math.min.code 2 (some .int)] ++ wsX50)
def wsX5_passHour_r1 : List Cond := [Cond.fieldLink RX5 52 "ShowsWhereNobodyIs$Town" "people" "I", Cond.fieldLink RX5 34 "ShowsWhereNobodyIs$Town" "at" "[I", Cond.methodLink RX5 83 yX5_darkPlaces, Cond.instanceMethod yX5_darkPlaces, Cond.selects RX5 yX5_darkPlaces yX5_darkPlaces, Cond.initialized RX5, Cond.code yX5_darkPlaces cX5_darkPlaces 3 (some .int), Cond.methodLink RX5 79 yX5_darkens, Cond.instanceMethod yX5_darkens, Cond.selects RX5 yX5_darkens yX5_darkens, Cond.code yX5_darkens cX5_darkens 2 (some .boolean), Cond.fieldLink RX5 22 "ShowsWhereNobodyIs$Town" "kind" "[I", Cond.methodLink RX5 94 yX5_goesTo, Cond.instanceMethod yX5_goesTo, Cond.selects RX5 yX5_goesTo yX5_goesTo, Cond.code yX5_goesTo cX5_goesTo 4 (some .int), Cond.fieldLink RX5 31 "ShowsWhereNobodyIs$Town" "aim" "[I", Cond.fieldLink RX5 28 "ShowsWhereNobodyIs$Town" "home" "[I", Cond.methodLink RX5 100 yX5_isDay, Cond.instanceMethod yX5_isDay, Cond.selects RX5 yX5_isDay yX5_isDay, Cond.code yX5_isDay cX5_isDay 2 (some .boolean), Cond.fieldLink RX5 55 "ShowsWhereNobodyIs$Town" "hour" "I", Cond.methodLink RX5 103 yX5_stepToward]
def wsX5_passHour_r2 : List Cond := [Cond.instanceMethod yX5_stepToward, Cond.selects RX5 yX5_stepToward yX5_stepToward, Cond.code yX5_stepToward cX5_stepToward 5 (some .int), Cond.fieldLink RX5 9 "ShowsWhereNobodyIs$Town" "places" "I", Cond.methodLink RX5 75 yX5_distance, Cond.instanceMethod yX5_distance, Cond.selects RX5 yX5_distance yX5_distance, Cond.code yX5_distance cX5_distance 3 (some .int), Cond.fieldLink RX5 19 "ShowsWhereNobodyIs$Town" "distances" "[I", Cond.methodLink RX5 109 yX5_hasWay, Cond.instanceMethod yX5_hasWay, Cond.selects RX5 yX5_hasWay yX5_hasWay, Cond.code yX5_hasWay cX5_hasWay 3 (some .boolean), Cond.fieldLink RX5 15 "ShowsWhereNobodyIs$Town" "ways" "[I", Cond.methodLink RX5 106 yX5_walkRound, Cond.instanceMethod yX5_walkRound, Cond.selects RX5 yX5_walkRound yX5_walkRound, Cond.code yX5_walkRound cX5_walkRound 3 (some .int), Cond.static yX7_hasBit, Cond.initialized RX7, Cond.code yX7_hasBit cX7_hasBit 2 (some .boolean), Cond.methodLink RX5 97 yX5_endHour, Cond.instanceMethod yX5_endHour, Cond.selects RX5 yX5_endHour yX5_endHour]
def wsX5_passHour_r3 : List Cond := [Cond.code yX5_endHour cX5_endHour 1 none, Cond.methodLink RX5 112 Lib.Math.min.name, Cond.static Lib.Math.min.name, Cond.initialized "java/lang/Math", Cond.code Lib.Math.min.name Lib.Math.min.code 2 (some .int)]
def wsX5_passHour : List Cond := .code yX5_passHour cX5_passHour 5 (some .boolean) :: ((wsX5_passHour_r1 ++ (wsX5_passHour_r2 ++ wsX5_passHour_r3)) ++ wsX50)
def wsX1_seek_r1 : List Cond := [Cond.fieldLink RX1 9 "ShowsWhereNobodyIs$HiddenWay" "length" "I", Cond.fieldLink RX1 15 "ShowsWhereNobodyIs$HiddenWay" "steps" "[I", Cond.methodLink RX1 19 yX5_darkPlaces, Cond.instanceMethod yX5_darkPlaces, Cond.selects RX5 yX5_darkPlaces yX5_darkPlaces, Cond.initialized RX5, Cond.code yX5_darkPlaces cX5_darkPlaces 3 (some .int), Cond.fieldLink RX5 52 "ShowsWhereNobodyIs$Town" "people" "I", Cond.fieldLink RX5 34 "ShowsWhereNobodyIs$Town" "at" "[I", Cond.methodLink RX5 79 yX5_darkens, Cond.instanceMethod yX5_darkens, Cond.selects RX5 yX5_darkens yX5_darkens, Cond.code yX5_darkens cX5_darkens 2 (some .boolean), Cond.fieldLink RX5 22 "ShowsWhereNobodyIs$Town" "kind" "[I", Cond.static yX7_hasBit, Cond.initialized RX7, Cond.code yX7_hasBit cX7_hasBit 2 (some .boolean), Cond.methodLink RX1 29 yX1_keepOnlyWaysTo, Cond.instanceMethod yX1_keepOnlyWaysTo, Cond.selects RX1 yX1_keepOnlyWaysTo yX1_keepOnlyWaysTo, Cond.initialized RX1, Cond.code yX1_keepOnlyWaysTo cX1_keepOnlyWaysTo 4 none, Cond.methodLink RX1 37 yX5_spread, Cond.instanceMethod yX5_spread]
def wsX1_seek_r2 : List Cond := [Cond.selects RX5 yX5_spread yX5_spread, Cond.code yX5_spread cX5_spread 4 (some .int), Cond.fieldLink RX5 15 "ShowsWhereNobodyIs$Town" "ways" "[I", Cond.methodLink RX1 33 yX5_passHour, Cond.instanceMethod yX5_passHour, Cond.selects RX5 yX5_passHour yX5_passHour, Cond.code yX5_passHour cX5_passHour 5 (some .boolean), Cond.methodLink RX5 83 yX5_darkPlaces, Cond.methodLink RX5 94 yX5_goesTo, Cond.instanceMethod yX5_goesTo, Cond.selects RX5 yX5_goesTo yX5_goesTo, Cond.code yX5_goesTo cX5_goesTo 4 (some .int), Cond.fieldLink RX5 31 "ShowsWhereNobodyIs$Town" "aim" "[I", Cond.fieldLink RX5 28 "ShowsWhereNobodyIs$Town" "home" "[I", Cond.methodLink RX5 100 yX5_isDay, Cond.instanceMethod yX5_isDay, Cond.selects RX5 yX5_isDay yX5_isDay, Cond.code yX5_isDay cX5_isDay 2 (some .boolean), Cond.fieldLink RX5 55 "ShowsWhereNobodyIs$Town" "hour" "I", Cond.methodLink RX5 103 yX5_stepToward, Cond.instanceMethod yX5_stepToward, Cond.selects RX5 yX5_stepToward yX5_stepToward, Cond.code yX5_stepToward cX5_stepToward 5 (some .int), Cond.fieldLink RX5 9 "ShowsWhereNobodyIs$Town" "places" "I"]
def wsX1_seek_r3 : List Cond := [Cond.methodLink RX5 75 yX5_distance, Cond.instanceMethod yX5_distance, Cond.selects RX5 yX5_distance yX5_distance, Cond.code yX5_distance cX5_distance 3 (some .int), Cond.fieldLink RX5 19 "ShowsWhereNobodyIs$Town" "distances" "[I", Cond.methodLink RX5 109 yX5_hasWay, Cond.instanceMethod yX5_hasWay, Cond.selects RX5 yX5_hasWay yX5_hasWay, Cond.code yX5_hasWay cX5_hasWay 3 (some .boolean), Cond.methodLink RX5 106 yX5_walkRound, Cond.instanceMethod yX5_walkRound, Cond.selects RX5 yX5_walkRound yX5_walkRound, Cond.code yX5_walkRound cX5_walkRound 3 (some .int), Cond.methodLink RX5 97 yX5_endHour, Cond.instanceMethod yX5_endHour, Cond.selects RX5 yX5_endHour yX5_endHour, Cond.code yX5_endHour cX5_endHour 1 none, Cond.methodLink RX5 112 Lib.Math.min.name, Cond.static Lib.Math.min.name, Cond.initialized "java/lang/Math", Cond.code Lib.Math.min.name Lib.Math.min.code 2 (some .int)]
def wsX1_seek : List Cond := .code yX1_seek cX1_seek 6 none :: ((wsX1_seek_r1 ++ (wsX1_seek_r2 ++ wsX1_seek_r3)) ++ wsX10 ++ wsX50)
def wsX1_leastOf : List Cond := .code yX1_leastOf cX1_leastOf 3 (some .int) :: ([.static yX7_hasBit, .initialized RX7, .code yX7_hasBit cX7_hasBit 2 (some .boolean)])
def wsX1_placeAt : List Cond := .code yX1_placeAt cX1_placeAt 6 (some .int) :: ([.fieldLink RX1 9 "ShowsWhereNobodyIs$HiddenWay" "length" "I", .fieldLink RX1 15 "ShowsWhereNobodyIs$HiddenWay" "steps" "[I", .methodLink RX1 37 yX5_spread, .instanceMethod yX5_spread, .selects RX5 yX5_spread yX5_spread, .initialized RX5, .code yX5_spread cX5_spread 4 (some .int), .fieldLink RX5 15 "ShowsWhereNobodyIs$Town" "ways" "[I", .static yX7_hasBit, .initialized RX7, .code yX7_hasBit cX7_hasBit 2 (some .boolean), .methodLink RX1 41 yX1_leastOf, .static yX1_leastOf, .initialized RX1, .code yX1_leastOf cX1_leastOf 3 (some .int)] ++ wsX10 ++ wsX50)
def wsX2_init : List Cond := .code yX2_init cX2_init 1 none :: ([.methodLink RX2 3 objectInit, .instanceMethod objectInit, .code objectInit ⟨#[0xb1]⟩ 1 none, .fieldLink RX2 9 "ShowsWhereNobodyIs$Shelf" "content" "I", .arrayClass .long, .fieldLink RX2 15 "ShowsWhereNobodyIs$Shelf" "elements" "[J"] ++ wsX20)
def wsX2_takeNothing : List Cond := .code yX2_takeNothing cX2_takeNothing 1 none :: ([.fieldLink RX2 9 "ShowsWhereNobodyIs$Shelf" "content" "I", .fieldLink RX2 19 "ShowsWhereNobodyIs$Shelf" "size" "I"] ++ wsX20)
def wsX2_takePerson : List Cond := .code yX2_takePerson cX2_takePerson 2 none :: ([.fieldLink RX2 9 "ShowsWhereNobodyIs$Shelf" "content" "I", .fieldLink RX2 19 "ShowsWhereNobodyIs$Shelf" "size" "I"] ++ wsX20)
def wsX2_takeRow : List Cond := .code yX2_takeRow cX2_takeRow 4 none :: ([.fieldLink RX2 9 "ShowsWhereNobodyIs$Shelf" "content" "I", .fieldLink RX2 19 "ShowsWhereNobodyIs$Shelf" "size" "I", .fieldLink RX2 15 "ShowsWhereNobodyIs$Shelf" "elements" "[J"] ++ wsX20)
def wsX2_holdsNothing : List Cond := .code yX2_holdsNothing cX2_holdsNothing 1 (some .boolean) :: ([.fieldLink RX2 9 "ShowsWhereNobodyIs$Shelf" "content" "I"] ++ wsX20)
def wsX2_holdsPerson : List Cond := .code yX2_holdsPerson cX2_holdsPerson 1 (some .boolean) :: ([.fieldLink RX2 9 "ShowsWhereNobodyIs$Shelf" "content" "I"] ++ wsX20)
def wsX2_holdsRow : List Cond := .code yX2_holdsRow cX2_holdsRow 1 (some .boolean) :: ([.fieldLink RX2 9 "ShowsWhereNobodyIs$Shelf" "content" "I"] ++ wsX20)
def wsX2_personNumber : List Cond := .code yX2_personNumber cX2_personNumber 1 (some .int) :: ([.fieldLink RX2 9 "ShowsWhereNobodyIs$Shelf" "content" "I"] ++ wsX20)
def wsX2_hasElement : List Cond := .code yX2_hasElement cX2_hasElement 2 (some .boolean) :: ([.fieldLink RX2 19 "ShowsWhereNobodyIs$Shelf" "size" "I"] ++ wsX20)
def wsX2_hasElements : List Cond := .code yX2_hasElements cX2_hasElements 3 (some .boolean) :: ([.fieldLink RX2 19 "ShowsWhereNobodyIs$Shelf" "size" "I"] ++ wsX20)
def wsX2_store : List Cond := .code yX2_store cX2_store 4 none :: ([.fieldLink RX2 9 "ShowsWhereNobodyIs$Shelf" "content" "I", .fieldLink RX2 15 "ShowsWhereNobodyIs$Shelf" "elements" "[J"] ++ wsX20)
def wsX3_init : List Cond := .code yX3_init cX3_init 1 none :: ([.methodLink RX3 3 objectInit, .instanceMethod objectInit, .code objectInit ⟨#[0xb1]⟩ 1 none, .arrayClass .int, .fieldLink RX3 9 "ShowsWhereNobodyIs$Sights" "shone" "[I"] ++ wsX30)
def wsX5_shiningPlaces : List Cond := .code yX5_shiningPlaces cX5_shiningPlaces 1 (some .int) :: ([.fieldLink RX5 9 "ShowsWhereNobodyIs$Town" "places" "I", .methodLink RX5 83 yX5_darkPlaces, .instanceMethod yX5_darkPlaces, .selects RX5 yX5_darkPlaces yX5_darkPlaces, .initialized RX5, .code yX5_darkPlaces cX5_darkPlaces 3 (some .int), .fieldLink RX5 52 "ShowsWhereNobodyIs$Town" "people" "I", .fieldLink RX5 34 "ShowsWhereNobodyIs$Town" "at" "[I", .methodLink RX5 79 yX5_darkens, .instanceMethod yX5_darkens, .selects RX5 yX5_darkens yX5_darkens, .code yX5_darkens cX5_darkens 2 (some .boolean), .fieldLink RX5 22 "ShowsWhereNobodyIs$Town" "kind" "[I"] ++ wsX50)
def wsX3_watch_r1 : List Cond := [Cond.fieldLink RX3 9 "ShowsWhereNobodyIs$Sights" "shone" "[I", Cond.methodLink RX3 15 yX5_shiningPlaces, Cond.instanceMethod yX5_shiningPlaces, Cond.selects RX5 yX5_shiningPlaces yX5_shiningPlaces, Cond.initialized RX5, Cond.code yX5_shiningPlaces cX5_shiningPlaces 1 (some .int), Cond.fieldLink RX5 9 "ShowsWhereNobodyIs$Town" "places" "I", Cond.methodLink RX5 83 yX5_darkPlaces, Cond.instanceMethod yX5_darkPlaces, Cond.selects RX5 yX5_darkPlaces yX5_darkPlaces, Cond.code yX5_darkPlaces cX5_darkPlaces 3 (some .int), Cond.fieldLink RX5 52 "ShowsWhereNobodyIs$Town" "people" "I", Cond.fieldLink RX5 34 "ShowsWhereNobodyIs$Town" "at" "[I", Cond.methodLink RX5 79 yX5_darkens, Cond.instanceMethod yX5_darkens, Cond.selects RX5 yX5_darkens yX5_darkens, Cond.code yX5_darkens cX5_darkens 2 (some .boolean), Cond.fieldLink RX5 22 "ShowsWhereNobodyIs$Town" "kind" "[I", Cond.methodLink RX3 21 yX5_passHour, Cond.instanceMethod yX5_passHour, Cond.selects RX5 yX5_passHour yX5_passHour, Cond.code yX5_passHour cX5_passHour 5 (some .boolean), Cond.methodLink RX5 94 yX5_goesTo, Cond.instanceMethod yX5_goesTo]
def wsX3_watch_r2 : List Cond := [Cond.selects RX5 yX5_goesTo yX5_goesTo, Cond.code yX5_goesTo cX5_goesTo 4 (some .int), Cond.fieldLink RX5 31 "ShowsWhereNobodyIs$Town" "aim" "[I", Cond.fieldLink RX5 28 "ShowsWhereNobodyIs$Town" "home" "[I", Cond.methodLink RX5 100 yX5_isDay, Cond.instanceMethod yX5_isDay, Cond.selects RX5 yX5_isDay yX5_isDay, Cond.code yX5_isDay cX5_isDay 2 (some .boolean), Cond.fieldLink RX5 55 "ShowsWhereNobodyIs$Town" "hour" "I", Cond.methodLink RX5 103 yX5_stepToward, Cond.instanceMethod yX5_stepToward, Cond.selects RX5 yX5_stepToward yX5_stepToward, Cond.code yX5_stepToward cX5_stepToward 5 (some .int), Cond.methodLink RX5 75 yX5_distance, Cond.instanceMethod yX5_distance, Cond.selects RX5 yX5_distance yX5_distance, Cond.code yX5_distance cX5_distance 3 (some .int), Cond.fieldLink RX5 19 "ShowsWhereNobodyIs$Town" "distances" "[I", Cond.methodLink RX5 109 yX5_hasWay, Cond.instanceMethod yX5_hasWay, Cond.selects RX5 yX5_hasWay yX5_hasWay, Cond.code yX5_hasWay cX5_hasWay 3 (some .boolean), Cond.fieldLink RX5 15 "ShowsWhereNobodyIs$Town" "ways" "[I", Cond.methodLink RX5 106 yX5_walkRound]
def wsX3_watch_r3 : List Cond := [Cond.instanceMethod yX5_walkRound, Cond.selects RX5 yX5_walkRound yX5_walkRound, Cond.code yX5_walkRound cX5_walkRound 3 (some .int), Cond.static yX7_hasBit, Cond.initialized RX7, Cond.code yX7_hasBit cX7_hasBit 2 (some .boolean), Cond.methodLink RX5 97 yX5_endHour, Cond.instanceMethod yX5_endHour, Cond.selects RX5 yX5_endHour yX5_endHour, Cond.code yX5_endHour cX5_endHour 1 none, Cond.methodLink RX5 112 Lib.Math.min.name, Cond.static Lib.Math.min.name, Cond.initialized "java/lang/Math", Cond.code Lib.Math.min.name Lib.Math.min.code 2 (some .int)]
def wsX3_watch : List Cond := .code yX3_watch cX3_watch 4 none :: ((wsX3_watch_r1 ++ (wsX3_watch_r2 ++ wsX3_watch_r3)) ++ wsX30 ++ wsX50)
def wsX3_countAlike : List Cond := .code yX3_countAlike cX3_countAlike 6 (some .int) :: ([.fieldLink RX3 9 "ShowsWhereNobodyIs$Sights" "shone" "[I"] ++ wsX30)
def wsX3_mostAlike : List Cond := .code yX3_mostAlike cX3_mostAlike 5 (some .int) :: ([.fieldLink RX3 9 "ShowsWhereNobodyIs$Sights" "shone" "[I", .methodLink RX3 29 Lib.Math.max.name, .static Lib.Math.max.name, .initialized "java/lang/Math", .code Lib.Math.max.name Lib.Math.max.code 2 (some .int), .methodLink RX3 25 yX3_countAlike, .instanceMethod yX3_countAlike, .selects RX3 yX3_countAlike yX3_countAlike, .initialized RX3, .code yX3_countAlike cX3_countAlike 6 (some .int)] ++ wsX30)
def wsX4_init : List Cond := .code yX4_init cX4_init 1 none :: ([.methodLink RX4 3 objectInit, .instanceMethod objectInit, .code objectInit ⟨#[0xb1]⟩ 1 none, .arrayClass .int, .fieldLink RX4 9 "ShowsWhereNobodyIs$Tape" "bytes" "[I"] ++ wsX40)
def wsX4_append : List Cond := .code yX4_append cX4_append 2 none :: ([.fieldLink RX4 15 "ShowsWhereNobodyIs$Tape" "size" "I", .fieldLink RX4 9 "ShowsWhereNobodyIs$Tape" "bytes" "[I"] ++ wsX40)
def wsX5_measureFrom : List Cond := .code yX5_measureFrom cX5_measureFrom 7 none :: ([.fieldLink RX5 19 "ShowsWhereNobodyIs$Town" "distances" "[I", .static yX7_hasBit, .initialized RX7, .code yX7_hasBit cX7_hasBit 2 (some .boolean), .methodLink RX5 72 yX5_spread, .instanceMethod yX5_spread, .selects RX5 yX5_spread yX5_spread, .initialized RX5, .code yX5_spread cX5_spread 4 (some .int), .fieldLink RX5 15 "ShowsWhereNobodyIs$Town" "ways" "[I"] ++ wsX50)
def wsX5_measure : List Cond := .code yX5_measure cX5_measure 2 none :: ([.methodLink RX5 64 yX5_measureFrom, .instanceMethod yX5_measureFrom, .selects RX5 yX5_measureFrom yX5_measureFrom, .initialized RX5, .code yX5_measureFrom cX5_measureFrom 7 none, .fieldLink RX5 19 "ShowsWhereNobodyIs$Town" "distances" "[I", .static yX7_hasBit, .initialized RX7, .code yX7_hasBit cX7_hasBit 2 (some .boolean), .methodLink RX5 72 yX5_spread, .instanceMethod yX5_spread, .selects RX5 yX5_spread yX5_spread, .code yX5_spread cX5_spread 4 (some .int), .fieldLink RX5 15 "ShowsWhereNobodyIs$Town" "ways" "[I"] ++ wsX50)
def wsX5_init_r1 : List Cond := [Cond.methodLink RX5 3 objectInit, Cond.instanceMethod objectInit, Cond.code objectInit ⟨#[0xb1]⟩ 1 none, Cond.fieldLink RX5 9 "ShowsWhereNobodyIs$Town" "places" "I", Cond.arrayClass .int, Cond.fieldLink RX5 15 "ShowsWhereNobodyIs$Town" "ways" "[I", Cond.fieldLink RX5 19 "ShowsWhereNobodyIs$Town" "distances" "[I", Cond.fieldLink RX5 22 "ShowsWhereNobodyIs$Town" "kind" "[I", Cond.fieldLink RX5 25 "ShowsWhereNobodyIs$Town" "a" "[I", Cond.fieldLink RX5 28 "ShowsWhereNobodyIs$Town" "home" "[I", Cond.fieldLink RX5 31 "ShowsWhereNobodyIs$Town" "aim" "[I", Cond.fieldLink RX5 34 "ShowsWhereNobodyIs$Town" "at" "[I", Cond.fieldLink RX5 37 "ShowsWhereNobodyIs$Town" "chance" "I", Cond.fieldLink RX5 40 "ShowsWhereNobodyIs$Town" "seed" "I", Cond.methodLink RX5 43 yX5_measure, Cond.instanceMethod yX5_measure, Cond.selects RX5 yX5_measure yX5_measure, Cond.initialized RX5, Cond.code yX5_measure cX5_measure 2 none, Cond.methodLink RX5 64 yX5_measureFrom, Cond.instanceMethod yX5_measureFrom, Cond.selects RX5 yX5_measureFrom yX5_measureFrom, Cond.code yX5_measureFrom cX5_measureFrom 7 none, Cond.static yX7_hasBit]
def wsX5_init_r2 : List Cond := [Cond.initialized RX7, Cond.code yX7_hasBit cX7_hasBit 2 (some .boolean), Cond.methodLink RX5 72 yX5_spread, Cond.instanceMethod yX5_spread, Cond.selects RX5 yX5_spread yX5_spread, Cond.code yX5_spread cX5_spread 4 (some .int)]
def wsX5_init : List Cond := .code yX5_init cX5_init 1 none :: ((wsX5_init_r1 ++ wsX5_init_r2) ++ wsX50)
def wsX5_become : List Cond := .code yX5_become cX5_become 2 none :: ([.fieldLink RX5 9 "ShowsWhereNobodyIs$Town" "places" "I", .fieldLink RX5 15 "ShowsWhereNobodyIs$Town" "ways" "[I", .methodLink RX5 46 arraycopyName, .native arraycopyName, .static arraycopyName, .initialized "java/lang/System", .fieldLink RX5 19 "ShowsWhereNobodyIs$Town" "distances" "[I", .fieldLink RX5 52 "ShowsWhereNobodyIs$Town" "people" "I", .fieldLink RX5 22 "ShowsWhereNobodyIs$Town" "kind" "[I", .fieldLink RX5 25 "ShowsWhereNobodyIs$Town" "a" "[I", .fieldLink RX5 28 "ShowsWhereNobodyIs$Town" "home" "[I", .fieldLink RX5 31 "ShowsWhereNobodyIs$Town" "aim" "[I", .fieldLink RX5 34 "ShowsWhereNobodyIs$Town" "at" "[I", .fieldLink RX5 55 "ShowsWhereNobodyIs$Town" "hour" "I", .fieldLink RX5 37 "ShowsWhereNobodyIs$Town" "chance" "I", .fieldLink RX5 40 "ShowsWhereNobodyIs$Town" "seed" "I"] ++ wsX50)
def wsX5_setWay : List Cond := .code yX5_setWay cX5_setWay 4 none :: ([.fieldLink RX5 15 "ShowsWhereNobodyIs$Town" "ways" "[I"] ++ wsX50)
def wsJ6_bitCount_0f7a4 : List Cond := .code yJ6_bitCount_0f7a4 cJ6_bitCount_0f7a4 1 (some .int) :: ([.constant RJ6 265 (1431655765), .constant RJ6 266 (858993459), .constant RJ6 267 (252645135)])
def wsX5_countWays : List Cond := .code yX5_countWays cX5_countWays 3 (some .int) :: ([.fieldLink RX5 9 "ShowsWhereNobodyIs$Town" "places" "I", .fieldLink RX5 15 "ShowsWhereNobodyIs$Town" "ways" "[I", .methodLink RX5 58 yJ6_bitCount_0f7a4, .static yJ6_bitCount_0f7a4, .initialized RJ6, .code yJ6_bitCount_0f7a4 cJ6_bitCount_0f7a4 1 (some .int), .constant RJ6 265 (1431655765), .constant RJ6 266 (858993459), .constant RJ6 267 (252645135)] ++ wsX50)
def wsX5_isFirstOfPart : List Cond := .code yX5_isFirstOfPart cX5_isFirstOfPart 3 (some .boolean) :: ([.methodLink RX5 75 yX5_distance, .instanceMethod yX5_distance, .selects RX5 yX5_distance yX5_distance, .initialized RX5, .code yX5_distance cX5_distance 3 (some .int), .fieldLink RX5 19 "ShowsWhereNobodyIs$Town" "distances" "[I"] ++ wsX50)
def wsX5_farTogether : List Cond := .code yX5_farTogether cX5_farTogether 5 (some .int) :: ([.fieldLink RX5 52 "ShowsWhereNobodyIs$Town" "people" "I", .fieldLink RX5 34 "ShowsWhereNobodyIs$Town" "at" "[I", .methodLink RX5 75 yX5_distance, .instanceMethod yX5_distance, .selects RX5 yX5_distance yX5_distance, .initialized RX5, .code yX5_distance cX5_distance 3 (some .int), .fieldLink RX5 19 "ShowsWhereNobodyIs$Town" "distances" "[I"] ++ wsX50)
def wsX5_addPerson : List Cond := .code yX5_addPerson cX5_addPerson 6 (some .int) :: ([.fieldLink RX5 52 "ShowsWhereNobodyIs$Town" "people" "I", .fieldLink RX5 22 "ShowsWhereNobodyIs$Town" "kind" "[I", .fieldLink RX5 25 "ShowsWhereNobodyIs$Town" "a" "[I", .fieldLink RX5 28 "ShowsWhereNobodyIs$Town" "home" "[I", .fieldLink RX5 31 "ShowsWhereNobodyIs$Town" "aim" "[I", .fieldLink RX5 34 "ShowsWhereNobodyIs$Town" "at" "[I"] ++ wsX50)
def wsX5_removePerson : List Cond := .code yX5_removePerson cX5_removePerson 3 none :: ([.fieldLink RX5 52 "ShowsWhereNobodyIs$Town" "people" "I", .fieldLink RX5 22 "ShowsWhereNobodyIs$Town" "kind" "[I", .fieldLink RX5 25 "ShowsWhereNobodyIs$Town" "a" "[I", .fieldLink RX5 28 "ShowsWhereNobodyIs$Town" "home" "[I", .fieldLink RX5 31 "ShowsWhereNobodyIs$Town" "aim" "[I", .fieldLink RX5 34 "ShowsWhereNobodyIs$Town" "at" "[I"] ++ wsX50)
def wsX5_peopleIn : List Cond := .code yX5_peopleIn cX5_peopleIn 4 (some .int) :: ([.fieldLink RX5 52 "ShowsWhereNobodyIs$Town" "people" "I", .fieldLink RX5 34 "ShowsWhereNobodyIs$Town" "at" "[I"] ++ wsX50)
def wsX5_darkeningIn : List Cond := .code yX5_darkeningIn cX5_darkeningIn 4 (some .int) :: ([.fieldLink RX5 52 "ShowsWhereNobodyIs$Town" "people" "I", .fieldLink RX5 34 "ShowsWhereNobodyIs$Town" "at" "[I", .methodLink RX5 79 yX5_darkens, .instanceMethod yX5_darkens, .selects RX5 yX5_darkens yX5_darkens, .initialized RX5, .code yX5_darkens cX5_darkens 2 (some .boolean), .fieldLink RX5 22 "ShowsWhereNobodyIs$Town" "kind" "[I"] ++ wsX50)
def wsX5_shiningCount : List Cond := .code yX5_shiningCount cX5_shiningCount 1 (some .int) :: ([.methodLink RX5 87 yX5_shiningPlaces, .instanceMethod yX5_shiningPlaces, .selects RX5 yX5_shiningPlaces yX5_shiningPlaces, .initialized RX5, .code yX5_shiningPlaces cX5_shiningPlaces 1 (some .int), .fieldLink RX5 9 "ShowsWhereNobodyIs$Town" "places" "I", .methodLink RX5 83 yX5_darkPlaces, .instanceMethod yX5_darkPlaces, .selects RX5 yX5_darkPlaces yX5_darkPlaces, .code yX5_darkPlaces cX5_darkPlaces 3 (some .int), .fieldLink RX5 52 "ShowsWhereNobodyIs$Town" "people" "I", .fieldLink RX5 34 "ShowsWhereNobodyIs$Town" "at" "[I", .methodLink RX5 79 yX5_darkens, .instanceMethod yX5_darkens, .selects RX5 yX5_darkens yX5_darkens, .code yX5_darkens cX5_darkens 2 (some .boolean), .fieldLink RX5 22 "ShowsWhereNobodyIs$Town" "kind" "[I", .methodLink RX5 58 yJ6_bitCount_0f7a4, .static yJ6_bitCount_0f7a4, .initialized RJ6, .code yJ6_bitCount_0f7a4 cJ6_bitCount_0f7a4 1 (some .int), .constant RJ6 265 (1431655765), .constant RJ6 266 (858993459), .constant RJ6 267 (252645135)] ++ wsX50)
def wsX5_isJoined : List Cond := .code yX5_isJoined cX5_isJoined 3 (some .boolean) :: ([.fieldLink RX5 52 "ShowsWhereNobodyIs$Town" "people" "I", .fieldLink RX5 34 "ShowsWhereNobodyIs$Town" "at" "[I", .methodLink RX5 79 yX5_darkens, .instanceMethod yX5_darkens, .selects RX5 yX5_darkens yX5_darkens, .initialized RX5, .code yX5_darkens cX5_darkens 2 (some .boolean), .fieldLink RX5 22 "ShowsWhereNobodyIs$Town" "kind" "[I"] ++ wsX50)
def wsX5_tellersFor : List Cond := .code yX5_tellersFor cX5_tellersFor 5 (some .int) :: ([.fieldLink RX5 34 "ShowsWhereNobodyIs$Town" "at" "[I", .fieldLink RX5 52 "ShowsWhereNobodyIs$Town" "people" "I", .methodLink RX5 83 yX5_darkPlaces, .instanceMethod yX5_darkPlaces, .selects RX5 yX5_darkPlaces yX5_darkPlaces, .initialized RX5, .code yX5_darkPlaces cX5_darkPlaces 3 (some .int), .methodLink RX5 79 yX5_darkens, .instanceMethod yX5_darkens, .selects RX5 yX5_darkens yX5_darkens, .code yX5_darkens cX5_darkens 2 (some .boolean), .fieldLink RX5 22 "ShowsWhereNobodyIs$Town" "kind" "[I", .static yX7_hasBit, .initialized RX7, .code yX7_hasBit cX7_hasBit 2 (some .boolean)] ++ wsX50)
def wsX5_passHours_r1 : List Cond := [Cond.methodLink RX5 90 yX5_passHour, Cond.instanceMethod yX5_passHour, Cond.selects RX5 yX5_passHour yX5_passHour, Cond.initialized RX5, Cond.code yX5_passHour cX5_passHour 5 (some .boolean), Cond.fieldLink RX5 52 "ShowsWhereNobodyIs$Town" "people" "I", Cond.fieldLink RX5 34 "ShowsWhereNobodyIs$Town" "at" "[I", Cond.methodLink RX5 83 yX5_darkPlaces, Cond.instanceMethod yX5_darkPlaces, Cond.selects RX5 yX5_darkPlaces yX5_darkPlaces, Cond.code yX5_darkPlaces cX5_darkPlaces 3 (some .int), Cond.methodLink RX5 79 yX5_darkens, Cond.instanceMethod yX5_darkens, Cond.selects RX5 yX5_darkens yX5_darkens, Cond.code yX5_darkens cX5_darkens 2 (some .boolean), Cond.fieldLink RX5 22 "ShowsWhereNobodyIs$Town" "kind" "[I", Cond.methodLink RX5 94 yX5_goesTo, Cond.instanceMethod yX5_goesTo, Cond.selects RX5 yX5_goesTo yX5_goesTo, Cond.code yX5_goesTo cX5_goesTo 4 (some .int), Cond.fieldLink RX5 31 "ShowsWhereNobodyIs$Town" "aim" "[I", Cond.fieldLink RX5 28 "ShowsWhereNobodyIs$Town" "home" "[I", Cond.methodLink RX5 100 yX5_isDay, Cond.instanceMethod yX5_isDay]
def wsX5_passHours_r2 : List Cond := [Cond.selects RX5 yX5_isDay yX5_isDay, Cond.code yX5_isDay cX5_isDay 2 (some .boolean), Cond.fieldLink RX5 55 "ShowsWhereNobodyIs$Town" "hour" "I", Cond.methodLink RX5 103 yX5_stepToward, Cond.instanceMethod yX5_stepToward, Cond.selects RX5 yX5_stepToward yX5_stepToward, Cond.code yX5_stepToward cX5_stepToward 5 (some .int), Cond.fieldLink RX5 9 "ShowsWhereNobodyIs$Town" "places" "I", Cond.methodLink RX5 75 yX5_distance, Cond.instanceMethod yX5_distance, Cond.selects RX5 yX5_distance yX5_distance, Cond.code yX5_distance cX5_distance 3 (some .int), Cond.fieldLink RX5 19 "ShowsWhereNobodyIs$Town" "distances" "[I", Cond.methodLink RX5 109 yX5_hasWay, Cond.instanceMethod yX5_hasWay, Cond.selects RX5 yX5_hasWay yX5_hasWay, Cond.code yX5_hasWay cX5_hasWay 3 (some .boolean), Cond.fieldLink RX5 15 "ShowsWhereNobodyIs$Town" "ways" "[I", Cond.methodLink RX5 106 yX5_walkRound, Cond.instanceMethod yX5_walkRound, Cond.selects RX5 yX5_walkRound yX5_walkRound, Cond.code yX5_walkRound cX5_walkRound 3 (some .int), Cond.static yX7_hasBit, Cond.initialized RX7]
def wsX5_passHours_r3 : List Cond := [Cond.code yX7_hasBit cX7_hasBit 2 (some .boolean), Cond.methodLink RX5 97 yX5_endHour, Cond.instanceMethod yX5_endHour, Cond.selects RX5 yX5_endHour yX5_endHour, Cond.code yX5_endHour cX5_endHour 1 none, Cond.methodLink RX5 112 Lib.Math.min.name, Cond.static Lib.Math.min.name, Cond.initialized "java/lang/Math", Cond.code Lib.Math.min.name Lib.Math.min.code 2 (some .int)]
def wsX5_passHours : List Cond := .code yX5_passHours cX5_passHours 3 none :: ((wsX5_passHours_r1 ++ (wsX5_passHours_r2 ++ wsX5_passHours_r3)) ++ wsX50)
def wsX5_draw : List Cond := .code yX5_draw cX5_draw 2 (some .int) :: ([.fieldLink RX5 40 "ShowsWhereNobodyIs$Town" "seed" "I", .constant RX5 123 (1103515245)] ++ wsX50)
def wsX5_drawPlace : List Cond := .code yX5_drawPlace cX5_drawPlace 6 none :: ([.fieldLink RX5 34 "ShowsWhereNobodyIs$Town" "at" "[I", .fieldLink RX5 15 "ShowsWhereNobodyIs$Town" "ways" "[I", .fieldLink RX5 37 "ShowsWhereNobodyIs$Town" "chance" "I", .fieldLink RX5 9 "ShowsWhereNobodyIs$Town" "places" "I", .methodLink RX5 58 yJ6_bitCount_0f7a4, .static yJ6_bitCount_0f7a4, .initialized RJ6, .code yJ6_bitCount_0f7a4 cJ6_bitCount_0f7a4 1 (some .int), .constant RJ6 265 (1431655765), .constant RJ6 266 (858993459), .constant RJ6 267 (252645135), .methodLink RX5 120 yX5_draw, .instanceMethod yX5_draw, .selects RX5 yX5_draw yX5_draw, .initialized RX5, .code yX5_draw cX5_draw 2 (some .int), .fieldLink RX5 40 "ShowsWhereNobodyIs$Town" "seed" "I", .constant RX5 123 (1103515245), .methodLink RX5 109 yX5_hasWay, .instanceMethod yX5_hasWay, .selects RX5 yX5_hasWay yX5_hasWay, .code yX5_hasWay cX5_hasWay 3 (some .boolean)] ++ wsX50)
def wsX5_passDrawnHour_r1 : List Cond := [Cond.fieldLink RX5 52 "ShowsWhereNobodyIs$Town" "people" "I", Cond.fieldLink RX5 22 "ShowsWhereNobodyIs$Town" "kind" "[I", Cond.methodLink RX5 117 yX5_drawPlace, Cond.instanceMethod yX5_drawPlace, Cond.selects RX5 yX5_drawPlace yX5_drawPlace, Cond.initialized RX5, Cond.code yX5_drawPlace cX5_drawPlace 6 none, Cond.fieldLink RX5 34 "ShowsWhereNobodyIs$Town" "at" "[I", Cond.fieldLink RX5 15 "ShowsWhereNobodyIs$Town" "ways" "[I", Cond.fieldLink RX5 37 "ShowsWhereNobodyIs$Town" "chance" "I", Cond.fieldLink RX5 9 "ShowsWhereNobodyIs$Town" "places" "I", Cond.methodLink RX5 58 yJ6_bitCount_0f7a4, Cond.static yJ6_bitCount_0f7a4, Cond.initialized RJ6, Cond.code yJ6_bitCount_0f7a4 cJ6_bitCount_0f7a4 1 (some .int), Cond.constant RJ6 265 (1431655765), Cond.constant RJ6 266 (858993459), Cond.constant RJ6 267 (252645135), Cond.methodLink RX5 120 yX5_draw, Cond.instanceMethod yX5_draw, Cond.selects RX5 yX5_draw yX5_draw, Cond.code yX5_draw cX5_draw 2 (some .int), Cond.fieldLink RX5 40 "ShowsWhereNobodyIs$Town" "seed" "I", Cond.constant RX5 123 (1103515245)]
def wsX5_passDrawnHour_r2 : List Cond := [Cond.methodLink RX5 109 yX5_hasWay, Cond.instanceMethod yX5_hasWay, Cond.selects RX5 yX5_hasWay yX5_hasWay, Cond.code yX5_hasWay cX5_hasWay 3 (some .boolean), Cond.methodLink RX5 97 yX5_endHour, Cond.instanceMethod yX5_endHour, Cond.selects RX5 yX5_endHour yX5_endHour, Cond.code yX5_endHour cX5_endHour 1 none, Cond.fieldLink RX5 55 "ShowsWhereNobodyIs$Town" "hour" "I", Cond.methodLink RX5 112 Lib.Math.min.name, Cond.static Lib.Math.min.name, Cond.initialized "java/lang/Math", Cond.code Lib.Math.min.name Lib.Math.min.code 2 (some .int)]
def wsX5_passDrawnHour : List Cond := .code yX5_passDrawnHour cX5_passDrawnHour 2 none :: ((wsX5_passDrawnHour_r1 ++ wsX5_passDrawnHour_r2) ++ wsX50)
def wsX6_init : List Cond := .code yX6_init cX6_init 1 none :: ([.methodLink RX6 3 objectInit, .instanceMethod objectInit, .code objectInit ⟨#[0xb1]⟩ 1 none, .classLink RX6 9 RX4, .instantiable RX4 2, .initialized RX4, .fieldLink RX6 12 "ShowsWhereNobodyIs$TownReader" "tape" "LShowsWhereNobodyIs$Tape;", .fieldLink RX6 18 "ShowsWhereNobodyIs$TownReader" "fault" "I", .instanceMethod yX4_init, .code yX4_init cX4_init 1 none, .methodLink RX4 3 objectInit, .arrayClass .int, .fieldLink RX4 9 "ShowsWhereNobodyIs$Tape" "bytes" "[I"] ++ wsX40 ++ wsX60)
def wsX6_letterAt : List Cond := .code yX6_letterAt cX6_letterAt 2 (some .int) :: ([.fieldLink RX6 12 "ShowsWhereNobodyIs$TownReader" "tape" "LShowsWhereNobodyIs$Tape;", .fieldLink RX6 124 "ShowsWhereNobodyIs$Tape" "size" "I", .fieldLink RX6 137 "ShowsWhereNobodyIs$Tape" "bytes" "[I"] ++ wsX60 ++ wsX40)
def wsX6_skipBlanks : List Cond := .code yX6_skipBlanks cX6_skipBlanks 1 none :: ([.fieldLink RX6 22 "ShowsWhereNobodyIs$TownReader" "position" "I", .fieldLink RX6 12 "ShowsWhereNobodyIs$TownReader" "tape" "LShowsWhereNobodyIs$Tape;", .fieldLink RX6 124 "ShowsWhereNobodyIs$Tape" "size" "I", .methodLink RX6 107 yX6_letterAt, .instanceMethod yX6_letterAt, .selects RX6 yX6_letterAt yX6_letterAt, .initialized RX6, .code yX6_letterAt cX6_letterAt 2 (some .int), .fieldLink RX6 137 "ShowsWhereNobodyIs$Tape" "bytes" "[I"] ++ wsX60 ++ wsX40)
def wsX6_isLetter : List Cond := .code yX6_isLetter cX6_isLetter 1 (some .boolean) :: ([])
def wsX6_passWord : List Cond := .code yX6_passWord cX6_passWord 1 none :: ([.fieldLink RX6 22 "ShowsWhereNobodyIs$TownReader" "position" "I", .fieldLink RX6 12 "ShowsWhereNobodyIs$TownReader" "tape" "LShowsWhereNobodyIs$Tape;", .fieldLink RX6 124 "ShowsWhereNobodyIs$Tape" "size" "I", .methodLink RX6 107 yX6_letterAt, .instanceMethod yX6_letterAt, .selects RX6 yX6_letterAt yX6_letterAt, .initialized RX6, .code yX6_letterAt cX6_letterAt 2 (some .int), .fieldLink RX6 137 "ShowsWhereNobodyIs$Tape" "bytes" "[I", .methodLink RX6 111 yX6_isLetter, .static yX6_isLetter, .code yX6_isLetter cX6_isLetter 1 (some .boolean)] ++ wsX60 ++ wsX40)
def wsX6_isDigit : List Cond := .code yX6_isDigit cX6_isDigit 1 (some .boolean) :: ([])
def wsX6_passNumber : List Cond := .code yX6_passNumber cX6_passNumber 1 none :: ([.fieldLink RX6 101 "ShowsWhereNobodyIs$TownReader" "value" "I", .fieldLink RX6 22 "ShowsWhereNobodyIs$TownReader" "position" "I", .fieldLink RX6 12 "ShowsWhereNobodyIs$TownReader" "tape" "LShowsWhereNobodyIs$Tape;", .fieldLink RX6 124 "ShowsWhereNobodyIs$Tape" "size" "I", .fieldLink RX6 35 "ShowsWhereNobodyIs$TownReader" "start" "I", .methodLink RX6 107 yX6_letterAt, .instanceMethod yX6_letterAt, .selects RX6 yX6_letterAt yX6_letterAt, .initialized RX6, .code yX6_letterAt cX6_letterAt 2 (some .int), .fieldLink RX6 137 "ShowsWhereNobodyIs$Tape" "bytes" "[I", .methodLink RX6 118 yX6_isDigit, .static yX6_isDigit, .code yX6_isDigit cX6_isDigit 1 (some .boolean)] ++ wsX60 ++ wsX40)
def wsX6_takeToken_r1 : List Cond := [Cond.fieldLink RX6 22 "ShowsWhereNobodyIs$TownReader" "position" "I", Cond.fieldLink RX6 35 "ShowsWhereNobodyIs$TownReader" "start" "I", Cond.fieldLink RX6 32 "ShowsWhereNobodyIs$TownReader" "token" "I", Cond.methodLink RX6 104 yX6_skipBlanks, Cond.instanceMethod yX6_skipBlanks, Cond.selects RX6 yX6_skipBlanks yX6_skipBlanks, Cond.initialized RX6, Cond.code yX6_skipBlanks cX6_skipBlanks 1 none, Cond.fieldLink RX6 12 "ShowsWhereNobodyIs$TownReader" "tape" "LShowsWhereNobodyIs$Tape;", Cond.fieldLink RX6 124 "ShowsWhereNobodyIs$Tape" "size" "I", Cond.methodLink RX6 107 yX6_letterAt, Cond.instanceMethod yX6_letterAt, Cond.selects RX6 yX6_letterAt yX6_letterAt, Cond.code yX6_letterAt cX6_letterAt 2 (some .int), Cond.fieldLink RX6 137 "ShowsWhereNobodyIs$Tape" "bytes" "[I", Cond.methodLink RX6 111 yX6_isLetter, Cond.static yX6_isLetter, Cond.code yX6_isLetter cX6_isLetter 1 (some .boolean), Cond.methodLink RX6 115 yX6_passWord, Cond.instanceMethod yX6_passWord, Cond.selects RX6 yX6_passWord yX6_passWord, Cond.code yX6_passWord cX6_passWord 1 none, Cond.methodLink RX6 118 yX6_isDigit, Cond.static yX6_isDigit]
def wsX6_takeToken_r2 : List Cond := [Cond.code yX6_isDigit cX6_isDigit 1 (some .boolean), Cond.methodLink RX6 121 yX6_passNumber, Cond.instanceMethod yX6_passNumber, Cond.selects RX6 yX6_passNumber yX6_passNumber, Cond.code yX6_passNumber cX6_passNumber 1 none, Cond.fieldLink RX6 101 "ShowsWhereNobodyIs$TownReader" "value" "I"]
def wsX6_takeToken : List Cond := .code yX6_takeToken cX6_takeToken 2 none :: ((wsX6_takeToken_r1 ++ wsX6_takeToken_r2) ++ wsX60 ++ wsX40)
def wsJ0_coder_7d493 : List Cond := .code yJ0_coder_7d493 cJ0_coder_7d493 1 (some .byte) :: ([.fieldLink RJ0 38 "java/lang/String" "COMPACT_STRINGS" "Z", .fieldLink RJ0 15 "java/lang/String" "coder" "B"])
def wsJ0_length_8abf5 : List Cond := .code yJ0_length_8abf5 cJ0_length_8abf5 1 (some .int) :: ([.fieldLink RJ0 9 "java/lang/String" "value" "[B", .methodLink RJ0 335 yJ0_coder_7d493, .instanceMethod yJ0_coder_7d493, .selects RJ0 yJ0_coder_7d493 yJ0_coder_7d493, .initialized RJ0, .code yJ0_coder_7d493 cJ0_coder_7d493 1 (some .byte), .fieldLink RJ0 38 "java/lang/String" "COMPACT_STRINGS" "Z", .fieldLink RJ0 15 "java/lang/String" "coder" "B"])
def wsJ0_isLatin1_aae02 : List Cond := .code yJ0_isLatin1_aae02 cJ0_isLatin1_aae02 1 (some .boolean) :: ([.fieldLink RJ0 38 "java/lang/String" "COMPACT_STRINGS" "Z", .fieldLink RJ0 15 "java/lang/String" "coder" "B"])
def wsJ3_checkIndex_8e157 : List Cond := .code yJ3_checkIndex_8e157 cJ3_checkIndex_8e157 3 (some .int) :: ([])
def wsJ0_checkIndex_df160 : List Cond := .code yJ0_checkIndex_df160 cJ0_checkIndex_df160 2 none :: ([.fieldLink RJ0 1053 "jdk/internal/util/Preconditions" "SIOOBE_FORMATTER" "Ljava/util/function/BiFunction;", .methodLink RJ0 1059 yJ3_checkIndex_8e157, .static yJ3_checkIndex_8e157, .initialized RJ3, .code yJ3_checkIndex_8e157 cJ3_checkIndex_8e157 3 (some .int)])
def wsJ1_charAt_3b067 : List Cond := .code yJ1_charAt_3b067 cJ1_charAt_3b067 2 (some .char) :: ([.methodLink RJ1 9 yJ0_checkIndex_df160, .static yJ0_checkIndex_df160, .initialized RJ0, .code yJ0_checkIndex_df160 cJ0_checkIndex_df160 2 none, .fieldLink RJ0 1053 "jdk/internal/util/Preconditions" "SIOOBE_FORMATTER" "Ljava/util/function/BiFunction;", .methodLink RJ0 1059 yJ3_checkIndex_8e157, .static yJ3_checkIndex_8e157, .initialized RJ3, .code yJ3_checkIndex_8e157 cJ3_checkIndex_8e157 3 (some .int)])
def wsJ2_length_9d52b : List Cond := .code yJ2_length_9d52b cJ2_length_9d52b 1 (some .int) :: ([])
def wsJ2_checkIndex_2214a : List Cond := .code yJ2_checkIndex_2214a cJ2_checkIndex_2214a 2 none :: ([.methodLink RJ2 48 yJ2_length_9d52b, .static yJ2_length_9d52b, .initialized RJ2, .code yJ2_length_9d52b cJ2_length_9d52b 1 (some .int), .methodLink RJ2 414 yJ0_checkIndex_df160, .static yJ0_checkIndex_df160, .initialized RJ0, .code yJ0_checkIndex_df160 cJ0_checkIndex_df160 2 none, .fieldLink RJ0 1053 "jdk/internal/util/Preconditions" "SIOOBE_FORMATTER" "Ljava/util/function/BiFunction;", .methodLink RJ0 1059 yJ3_checkIndex_8e157, .static yJ3_checkIndex_8e157, .initialized RJ3, .code yJ3_checkIndex_8e157 cJ3_checkIndex_8e157 3 (some .int)])
def wsJ2_getChar_3b067 : List Cond := .code yJ2_getChar_3b067 cJ2_getChar_3b067 2 (some .char) :: ([.fieldLink RJ2 44 "java/lang/StringUTF16" "$assertionsDisabled" "Z", .fieldLink RJ2 59 "java/lang/StringUTF16" "HI_BYTE_SHIFT" "I", .fieldLink RJ2 63 "java/lang/StringUTF16" "LO_BYTE_SHIFT" "I", .methodLink RJ2 48 yJ2_length_9d52b, .static yJ2_length_9d52b, .initialized RJ2, .code yJ2_length_9d52b cJ2_length_9d52b 1 (some .int)])
def wsJ2_charAt_3b067 : List Cond := .code yJ2_charAt_3b067 cJ2_charAt_3b067 2 (some .char) :: ([.methodLink RJ2 67 yJ2_checkIndex_2214a, .static yJ2_checkIndex_2214a, .initialized RJ2, .code yJ2_checkIndex_2214a cJ2_checkIndex_2214a 2 none, .methodLink RJ2 48 yJ2_length_9d52b, .static yJ2_length_9d52b, .code yJ2_length_9d52b cJ2_length_9d52b 1 (some .int), .methodLink RJ2 414 yJ0_checkIndex_df160, .static yJ0_checkIndex_df160, .initialized RJ0, .code yJ0_checkIndex_df160 cJ0_checkIndex_df160 2 none, .fieldLink RJ0 1053 "jdk/internal/util/Preconditions" "SIOOBE_FORMATTER" "Ljava/util/function/BiFunction;", .methodLink RJ0 1059 yJ3_checkIndex_8e157, .static yJ3_checkIndex_8e157, .initialized RJ3, .code yJ3_checkIndex_8e157 cJ3_checkIndex_8e157 3 (some .int), .methodLink RJ2 71 yJ2_getChar_3b067, .static yJ2_getChar_3b067, .code yJ2_getChar_3b067 cJ2_getChar_3b067 2 (some .char), .fieldLink RJ2 44 "java/lang/StringUTF16" "$assertionsDisabled" "Z", .fieldLink RJ2 59 "java/lang/StringUTF16" "HI_BYTE_SHIFT" "I", .fieldLink RJ2 63 "java/lang/StringUTF16" "LO_BYTE_SHIFT" "I"])
def wsJ0_charAt_5068e_r1 : List Cond := [Cond.fieldLink RJ0 9 "java/lang/String" "value" "[B", Cond.methodLink RJ0 492 yJ0_isLatin1_aae02, Cond.instanceMethod yJ0_isLatin1_aae02, Cond.selects RJ0 yJ0_isLatin1_aae02 yJ0_isLatin1_aae02, Cond.initialized RJ0, Cond.code yJ0_isLatin1_aae02 cJ0_isLatin1_aae02 1 (some .boolean), Cond.fieldLink RJ0 38 "java/lang/String" "COMPACT_STRINGS" "Z", Cond.fieldLink RJ0 15 "java/lang/String" "coder" "B", Cond.methodLink RJ0 495 yJ1_charAt_3b067, Cond.static yJ1_charAt_3b067, Cond.initialized RJ1, Cond.code yJ1_charAt_3b067 cJ1_charAt_3b067 2 (some .char), Cond.methodLink RJ1 9 yJ0_checkIndex_df160, Cond.static yJ0_checkIndex_df160, Cond.code yJ0_checkIndex_df160 cJ0_checkIndex_df160 2 none, Cond.fieldLink RJ0 1053 "jdk/internal/util/Preconditions" "SIOOBE_FORMATTER" "Ljava/util/function/BiFunction;", Cond.methodLink RJ0 1059 yJ3_checkIndex_8e157, Cond.static yJ3_checkIndex_8e157, Cond.initialized RJ3, Cond.code yJ3_checkIndex_8e157 cJ3_checkIndex_8e157 3 (some .int), Cond.methodLink RJ0 498 yJ2_charAt_3b067, Cond.static yJ2_charAt_3b067, Cond.initialized RJ2, Cond.code yJ2_charAt_3b067 cJ2_charAt_3b067 2 (some .char)]
def wsJ0_charAt_5068e_r2 : List Cond := [Cond.methodLink RJ2 67 yJ2_checkIndex_2214a, Cond.static yJ2_checkIndex_2214a, Cond.code yJ2_checkIndex_2214a cJ2_checkIndex_2214a 2 none, Cond.methodLink RJ2 48 yJ2_length_9d52b, Cond.static yJ2_length_9d52b, Cond.code yJ2_length_9d52b cJ2_length_9d52b 1 (some .int), Cond.methodLink RJ2 414 yJ0_checkIndex_df160, Cond.methodLink RJ2 71 yJ2_getChar_3b067, Cond.static yJ2_getChar_3b067, Cond.code yJ2_getChar_3b067 cJ2_getChar_3b067 2 (some .char), Cond.fieldLink RJ2 44 "java/lang/StringUTF16" "$assertionsDisabled" "Z", Cond.fieldLink RJ2 59 "java/lang/StringUTF16" "HI_BYTE_SHIFT" "I", Cond.fieldLink RJ2 63 "java/lang/StringUTF16" "LO_BYTE_SHIFT" "I"]
def wsJ0_charAt_5068e : List Cond := .code yJ0_charAt_5068e cJ0_charAt_5068e 2 (some .char) :: ((wsJ0_charAt_5068e_r1 ++ wsJ0_charAt_5068e_r2))
def wsX6_isWord_r1 : List Cond := [Cond.fieldLink RX6 32 "ShowsWhereNobodyIs$TownReader" "token" "I", Cond.fieldLink RX6 22 "ShowsWhereNobodyIs$TownReader" "position" "I", Cond.fieldLink RX6 35 "ShowsWhereNobodyIs$TownReader" "start" "I", Cond.methodLink RX6 127 yJ0_length_8abf5, Cond.instanceMethod yJ0_length_8abf5, Cond.selects RJ0 yJ0_length_8abf5 yJ0_length_8abf5, Cond.initialized RJ0, Cond.code yJ0_length_8abf5 cJ0_length_8abf5 1 (some .int), Cond.fieldLink RJ0 9 "java/lang/String" "value" "[B", Cond.methodLink RJ0 335 yJ0_coder_7d493, Cond.instanceMethod yJ0_coder_7d493, Cond.selects RJ0 yJ0_coder_7d493 yJ0_coder_7d493, Cond.code yJ0_coder_7d493 cJ0_coder_7d493 1 (some .byte), Cond.fieldLink RJ0 38 "java/lang/String" "COMPACT_STRINGS" "Z", Cond.fieldLink RJ0 15 "java/lang/String" "coder" "B", Cond.methodLink RX6 107 yX6_letterAt, Cond.instanceMethod yX6_letterAt, Cond.selects RX6 yX6_letterAt yX6_letterAt, Cond.initialized RX6, Cond.code yX6_letterAt cX6_letterAt 2 (some .int), Cond.fieldLink RX6 12 "ShowsWhereNobodyIs$TownReader" "tape" "LShowsWhereNobodyIs$Tape;", Cond.fieldLink RX6 124 "ShowsWhereNobodyIs$Tape" "size" "I", Cond.fieldLink RX6 137 "ShowsWhereNobodyIs$Tape" "bytes" "[I", Cond.methodLink RX6 133 yJ0_charAt_5068e]
def wsX6_isWord_r2 : List Cond := [Cond.instanceMethod yJ0_charAt_5068e, Cond.selects RJ0 yJ0_charAt_5068e yJ0_charAt_5068e, Cond.code yJ0_charAt_5068e cJ0_charAt_5068e 2 (some .char), Cond.methodLink RJ0 492 yJ0_isLatin1_aae02, Cond.instanceMethod yJ0_isLatin1_aae02, Cond.selects RJ0 yJ0_isLatin1_aae02 yJ0_isLatin1_aae02, Cond.code yJ0_isLatin1_aae02 cJ0_isLatin1_aae02 1 (some .boolean), Cond.methodLink RJ0 495 yJ1_charAt_3b067, Cond.static yJ1_charAt_3b067, Cond.initialized RJ1, Cond.code yJ1_charAt_3b067 cJ1_charAt_3b067 2 (some .char), Cond.methodLink RJ1 9 yJ0_checkIndex_df160, Cond.static yJ0_checkIndex_df160, Cond.code yJ0_checkIndex_df160 cJ0_checkIndex_df160 2 none, Cond.fieldLink RJ0 1053 "jdk/internal/util/Preconditions" "SIOOBE_FORMATTER" "Ljava/util/function/BiFunction;", Cond.methodLink RJ0 1059 yJ3_checkIndex_8e157, Cond.static yJ3_checkIndex_8e157, Cond.initialized RJ3, Cond.code yJ3_checkIndex_8e157 cJ3_checkIndex_8e157 3 (some .int), Cond.methodLink RJ0 498 yJ2_charAt_3b067, Cond.static yJ2_charAt_3b067, Cond.initialized RJ2, Cond.code yJ2_charAt_3b067 cJ2_charAt_3b067 2 (some .char), Cond.methodLink RJ2 67 yJ2_checkIndex_2214a]
def wsX6_isWord_r3 : List Cond := [Cond.static yJ2_checkIndex_2214a, Cond.code yJ2_checkIndex_2214a cJ2_checkIndex_2214a 2 none, Cond.methodLink RJ2 48 yJ2_length_9d52b, Cond.static yJ2_length_9d52b, Cond.code yJ2_length_9d52b cJ2_length_9d52b 1 (some .int), Cond.methodLink RJ2 414 yJ0_checkIndex_df160, Cond.methodLink RJ2 71 yJ2_getChar_3b067, Cond.static yJ2_getChar_3b067, Cond.code yJ2_getChar_3b067 cJ2_getChar_3b067 2 (some .char), Cond.fieldLink RJ2 44 "java/lang/StringUTF16" "$assertionsDisabled" "Z", Cond.fieldLink RJ2 59 "java/lang/StringUTF16" "HI_BYTE_SHIFT" "I", Cond.fieldLink RJ2 63 "java/lang/StringUTF16" "LO_BYTE_SHIFT" "I"]
def wsX6_isWord : List Cond := .code yX6_isWord cX6_isWord 3 (some .boolean) :: ((wsX6_isWord_r1 ++ (wsX6_isWord_r2 ++ wsX6_isWord_r3)) ++ wsX60 ++ wsX40)
def wsX6_takeNumber_r1 : List Cond := [Cond.fieldLink RX6 18 "ShowsWhereNobodyIs$TownReader" "fault" "I", Cond.fieldLink RX6 32 "ShowsWhereNobodyIs$TownReader" "token" "I", Cond.fieldLink RX6 101 "ShowsWhereNobodyIs$TownReader" "value" "I", Cond.fieldLink RX6 35 "ShowsWhereNobodyIs$TownReader" "start" "I", Cond.methodLink RX6 29 yX6_takeToken, Cond.instanceMethod yX6_takeToken, Cond.selects RX6 yX6_takeToken yX6_takeToken, Cond.initialized RX6, Cond.code yX6_takeToken cX6_takeToken 2 none, Cond.fieldLink RX6 22 "ShowsWhereNobodyIs$TownReader" "position" "I", Cond.methodLink RX6 104 yX6_skipBlanks, Cond.instanceMethod yX6_skipBlanks, Cond.selects RX6 yX6_skipBlanks yX6_skipBlanks, Cond.code yX6_skipBlanks cX6_skipBlanks 1 none, Cond.fieldLink RX6 12 "ShowsWhereNobodyIs$TownReader" "tape" "LShowsWhereNobodyIs$Tape;", Cond.fieldLink RX6 124 "ShowsWhereNobodyIs$Tape" "size" "I", Cond.methodLink RX6 107 yX6_letterAt, Cond.instanceMethod yX6_letterAt, Cond.selects RX6 yX6_letterAt yX6_letterAt, Cond.code yX6_letterAt cX6_letterAt 2 (some .int), Cond.fieldLink RX6 137 "ShowsWhereNobodyIs$Tape" "bytes" "[I", Cond.methodLink RX6 111 yX6_isLetter, Cond.static yX6_isLetter, Cond.code yX6_isLetter cX6_isLetter 1 (some .boolean)]
def wsX6_takeNumber_r2 : List Cond := [Cond.methodLink RX6 115 yX6_passWord, Cond.instanceMethod yX6_passWord, Cond.selects RX6 yX6_passWord yX6_passWord, Cond.code yX6_passWord cX6_passWord 1 none, Cond.methodLink RX6 118 yX6_isDigit, Cond.static yX6_isDigit, Cond.code yX6_isDigit cX6_isDigit 1 (some .boolean), Cond.methodLink RX6 121 yX6_passNumber, Cond.instanceMethod yX6_passNumber, Cond.selects RX6 yX6_passNumber yX6_passNumber, Cond.code yX6_passNumber cX6_passNumber 1 none]
def wsX6_takeNumber : List Cond := .code yX6_takeNumber cX6_takeNumber 3 (some .int) :: ((wsX6_takeNumber_r1 ++ wsX6_takeNumber_r2) ++ wsX60 ++ wsX40)
def wsX6_readPlaces_r1 : List Cond := [Cond.fieldLink RX6 80 "ShowsWhereNobodyIs$Town" "places" "I", Cond.fieldLink RX6 18 "ShowsWhereNobodyIs$TownReader" "fault" "I", Cond.methodLink RX6 82 yX6_takeNumber, Cond.instanceMethod yX6_takeNumber, Cond.selects RX6 yX6_takeNumber yX6_takeNumber, Cond.initialized RX6, Cond.code yX6_takeNumber cX6_takeNumber 3 (some .int), Cond.fieldLink RX6 32 "ShowsWhereNobodyIs$TownReader" "token" "I", Cond.fieldLink RX6 101 "ShowsWhereNobodyIs$TownReader" "value" "I", Cond.fieldLink RX6 35 "ShowsWhereNobodyIs$TownReader" "start" "I", Cond.methodLink RX6 29 yX6_takeToken, Cond.instanceMethod yX6_takeToken, Cond.selects RX6 yX6_takeToken yX6_takeToken, Cond.code yX6_takeToken cX6_takeToken 2 none, Cond.fieldLink RX6 22 "ShowsWhereNobodyIs$TownReader" "position" "I", Cond.methodLink RX6 104 yX6_skipBlanks, Cond.instanceMethod yX6_skipBlanks, Cond.selects RX6 yX6_skipBlanks yX6_skipBlanks, Cond.code yX6_skipBlanks cX6_skipBlanks 1 none, Cond.fieldLink RX6 12 "ShowsWhereNobodyIs$TownReader" "tape" "LShowsWhereNobodyIs$Tape;", Cond.fieldLink RX6 124 "ShowsWhereNobodyIs$Tape" "size" "I", Cond.methodLink RX6 107 yX6_letterAt, Cond.instanceMethod yX6_letterAt, Cond.selects RX6 yX6_letterAt yX6_letterAt]
def wsX6_readPlaces_r2 : List Cond := [Cond.code yX6_letterAt cX6_letterAt 2 (some .int), Cond.fieldLink RX6 137 "ShowsWhereNobodyIs$Tape" "bytes" "[I", Cond.methodLink RX6 111 yX6_isLetter, Cond.static yX6_isLetter, Cond.code yX6_isLetter cX6_isLetter 1 (some .boolean), Cond.methodLink RX6 115 yX6_passWord, Cond.instanceMethod yX6_passWord, Cond.selects RX6 yX6_passWord yX6_passWord, Cond.code yX6_passWord cX6_passWord 1 none, Cond.methodLink RX6 118 yX6_isDigit, Cond.static yX6_isDigit, Cond.code yX6_isDigit cX6_isDigit 1 (some .boolean), Cond.methodLink RX6 121 yX6_passNumber, Cond.instanceMethod yX6_passNumber, Cond.selects RX6 yX6_passNumber yX6_passNumber, Cond.code yX6_passNumber cX6_passNumber 1 none]
def wsX6_readPlaces : List Cond := .code yX6_readPlaces cX6_readPlaces 3 none :: ((wsX6_readPlaces_r1 ++ wsX6_readPlaces_r2) ++ wsX50 ++ wsX60 ++ wsX40)
def wsX6_readWay_r1 : List Cond := [Cond.fieldLink RX6 80 "ShowsWhereNobodyIs$Town" "places" "I", Cond.fieldLink RX6 18 "ShowsWhereNobodyIs$TownReader" "fault" "I", Cond.fieldLink RX6 35 "ShowsWhereNobodyIs$TownReader" "start" "I", Cond.methodLink RX6 82 yX6_takeNumber, Cond.instanceMethod yX6_takeNumber, Cond.selects RX6 yX6_takeNumber yX6_takeNumber, Cond.initialized RX6, Cond.code yX6_takeNumber cX6_takeNumber 3 (some .int), Cond.fieldLink RX6 32 "ShowsWhereNobodyIs$TownReader" "token" "I", Cond.fieldLink RX6 101 "ShowsWhereNobodyIs$TownReader" "value" "I", Cond.methodLink RX6 29 yX6_takeToken, Cond.instanceMethod yX6_takeToken, Cond.selects RX6 yX6_takeToken yX6_takeToken, Cond.code yX6_takeToken cX6_takeToken 2 none, Cond.fieldLink RX6 22 "ShowsWhereNobodyIs$TownReader" "position" "I", Cond.methodLink RX6 104 yX6_skipBlanks, Cond.instanceMethod yX6_skipBlanks, Cond.selects RX6 yX6_skipBlanks yX6_skipBlanks, Cond.code yX6_skipBlanks cX6_skipBlanks 1 none, Cond.fieldLink RX6 12 "ShowsWhereNobodyIs$TownReader" "tape" "LShowsWhereNobodyIs$Tape;", Cond.fieldLink RX6 124 "ShowsWhereNobodyIs$Tape" "size" "I", Cond.methodLink RX6 107 yX6_letterAt, Cond.instanceMethod yX6_letterAt, Cond.selects RX6 yX6_letterAt yX6_letterAt]
def wsX6_readWay_r2 : List Cond := [Cond.code yX6_letterAt cX6_letterAt 2 (some .int), Cond.fieldLink RX6 137 "ShowsWhereNobodyIs$Tape" "bytes" "[I", Cond.methodLink RX6 111 yX6_isLetter, Cond.static yX6_isLetter, Cond.code yX6_isLetter cX6_isLetter 1 (some .boolean), Cond.methodLink RX6 115 yX6_passWord, Cond.instanceMethod yX6_passWord, Cond.selects RX6 yX6_passWord yX6_passWord, Cond.code yX6_passWord cX6_passWord 1 none, Cond.methodLink RX6 118 yX6_isDigit, Cond.static yX6_isDigit, Cond.code yX6_isDigit cX6_isDigit 1 (some .boolean), Cond.methodLink RX6 121 yX6_passNumber, Cond.instanceMethod yX6_passNumber, Cond.selects RX6 yX6_passNumber yX6_passNumber, Cond.code yX6_passNumber cX6_passNumber 1 none, Cond.methodLink RX6 86 yX5_setWay, Cond.instanceMethod yX5_setWay, Cond.selects RX5 yX5_setWay yX5_setWay, Cond.initialized RX5, Cond.code yX5_setWay cX5_setWay 4 none, Cond.fieldLink RX5 15 "ShowsWhereNobodyIs$Town" "ways" "[I"]
def wsX6_readWay : List Cond := .code yX6_readWay cX6_readWay 5 none :: ((wsX6_readWay_r1 ++ wsX6_readWay_r2) ++ wsX50 ++ wsX60 ++ wsX40)
def wsX6_readPerson_r1 : List Cond := [Cond.fieldLink RX6 80 "ShowsWhereNobodyIs$Town" "places" "I", Cond.fieldLink RX6 18 "ShowsWhereNobodyIs$TownReader" "fault" "I", Cond.methodLink RX6 82 yX6_takeNumber, Cond.instanceMethod yX6_takeNumber, Cond.selects RX6 yX6_takeNumber yX6_takeNumber, Cond.initialized RX6, Cond.code yX6_takeNumber cX6_takeNumber 3 (some .int), Cond.fieldLink RX6 32 "ShowsWhereNobodyIs$TownReader" "token" "I", Cond.fieldLink RX6 101 "ShowsWhereNobodyIs$TownReader" "value" "I", Cond.fieldLink RX6 35 "ShowsWhereNobodyIs$TownReader" "start" "I", Cond.methodLink RX6 29 yX6_takeToken, Cond.instanceMethod yX6_takeToken, Cond.selects RX6 yX6_takeToken yX6_takeToken, Cond.code yX6_takeToken cX6_takeToken 2 none, Cond.fieldLink RX6 22 "ShowsWhereNobodyIs$TownReader" "position" "I", Cond.methodLink RX6 104 yX6_skipBlanks, Cond.instanceMethod yX6_skipBlanks, Cond.selects RX6 yX6_skipBlanks yX6_skipBlanks, Cond.code yX6_skipBlanks cX6_skipBlanks 1 none, Cond.fieldLink RX6 12 "ShowsWhereNobodyIs$TownReader" "tape" "LShowsWhereNobodyIs$Tape;", Cond.fieldLink RX6 124 "ShowsWhereNobodyIs$Tape" "size" "I", Cond.methodLink RX6 107 yX6_letterAt, Cond.instanceMethod yX6_letterAt, Cond.selects RX6 yX6_letterAt yX6_letterAt]
def wsX6_readPerson_r2 : List Cond := [Cond.code yX6_letterAt cX6_letterAt 2 (some .int), Cond.fieldLink RX6 137 "ShowsWhereNobodyIs$Tape" "bytes" "[I", Cond.methodLink RX6 111 yX6_isLetter, Cond.static yX6_isLetter, Cond.code yX6_isLetter cX6_isLetter 1 (some .boolean), Cond.methodLink RX6 115 yX6_passWord, Cond.instanceMethod yX6_passWord, Cond.selects RX6 yX6_passWord yX6_passWord, Cond.code yX6_passWord cX6_passWord 1 none, Cond.methodLink RX6 118 yX6_isDigit, Cond.static yX6_isDigit, Cond.code yX6_isDigit cX6_isDigit 1 (some .boolean), Cond.methodLink RX6 121 yX6_passNumber, Cond.instanceMethod yX6_passNumber, Cond.selects RX6 yX6_passNumber yX6_passNumber, Cond.code yX6_passNumber cX6_passNumber 1 none, Cond.methodLink RX6 90 yX5_addPerson, Cond.instanceMethod yX5_addPerson, Cond.selects RX5 yX5_addPerson yX5_addPerson, Cond.initialized RX5, Cond.code yX5_addPerson cX5_addPerson 6 (some .int), Cond.fieldLink RX5 52 "ShowsWhereNobodyIs$Town" "people" "I", Cond.fieldLink RX5 22 "ShowsWhereNobodyIs$Town" "kind" "[I", Cond.fieldLink RX5 25 "ShowsWhereNobodyIs$Town" "a" "[I"]
def wsX6_readPerson_r3 : List Cond := [Cond.fieldLink RX5 28 "ShowsWhereNobodyIs$Town" "home" "[I", Cond.fieldLink RX5 31 "ShowsWhereNobodyIs$Town" "aim" "[I", Cond.fieldLink RX5 34 "ShowsWhereNobodyIs$Town" "at" "[I"]
def wsX6_readPerson : List Cond := .code yX6_readPerson cX6_readPerson 6 none :: ((wsX6_readPerson_r1 ++ (wsX6_readPerson_r2 ++ wsX6_readPerson_r3)) ++ wsX50 ++ wsX60 ++ wsX40)
def wsX6_readAt_r1 : List Cond := [Cond.fieldLink RX6 57 "ShowsWhereNobodyIs$Town" "people" "I", Cond.fieldLink RX6 80 "ShowsWhereNobodyIs$Town" "places" "I", Cond.fieldLink RX6 18 "ShowsWhereNobodyIs$TownReader" "fault" "I", Cond.fieldLink RX6 94 "ShowsWhereNobodyIs$Town" "at" "[I", Cond.methodLink RX6 82 yX6_takeNumber, Cond.instanceMethod yX6_takeNumber, Cond.selects RX6 yX6_takeNumber yX6_takeNumber, Cond.initialized RX6, Cond.code yX6_takeNumber cX6_takeNumber 3 (some .int), Cond.fieldLink RX6 32 "ShowsWhereNobodyIs$TownReader" "token" "I", Cond.fieldLink RX6 101 "ShowsWhereNobodyIs$TownReader" "value" "I", Cond.fieldLink RX6 35 "ShowsWhereNobodyIs$TownReader" "start" "I", Cond.methodLink RX6 29 yX6_takeToken, Cond.instanceMethod yX6_takeToken, Cond.selects RX6 yX6_takeToken yX6_takeToken, Cond.code yX6_takeToken cX6_takeToken 2 none, Cond.fieldLink RX6 22 "ShowsWhereNobodyIs$TownReader" "position" "I", Cond.methodLink RX6 104 yX6_skipBlanks, Cond.instanceMethod yX6_skipBlanks, Cond.selects RX6 yX6_skipBlanks yX6_skipBlanks, Cond.code yX6_skipBlanks cX6_skipBlanks 1 none, Cond.fieldLink RX6 12 "ShowsWhereNobodyIs$TownReader" "tape" "LShowsWhereNobodyIs$Tape;", Cond.fieldLink RX6 124 "ShowsWhereNobodyIs$Tape" "size" "I", Cond.methodLink RX6 107 yX6_letterAt]
def wsX6_readAt_r2 : List Cond := [Cond.instanceMethod yX6_letterAt, Cond.selects RX6 yX6_letterAt yX6_letterAt, Cond.code yX6_letterAt cX6_letterAt 2 (some .int), Cond.fieldLink RX6 137 "ShowsWhereNobodyIs$Tape" "bytes" "[I", Cond.methodLink RX6 111 yX6_isLetter, Cond.static yX6_isLetter, Cond.code yX6_isLetter cX6_isLetter 1 (some .boolean), Cond.methodLink RX6 115 yX6_passWord, Cond.instanceMethod yX6_passWord, Cond.selects RX6 yX6_passWord yX6_passWord, Cond.code yX6_passWord cX6_passWord 1 none, Cond.methodLink RX6 118 yX6_isDigit, Cond.static yX6_isDigit, Cond.code yX6_isDigit cX6_isDigit 1 (some .boolean), Cond.methodLink RX6 121 yX6_passNumber, Cond.instanceMethod yX6_passNumber, Cond.selects RX6 yX6_passNumber yX6_passNumber, Cond.code yX6_passNumber cX6_passNumber 1 none]
def wsX6_readAt : List Cond := .code yX6_readAt cX6_readAt 4 none :: ((wsX6_readAt_r1 ++ wsX6_readAt_r2) ++ wsX50 ++ wsX60 ++ wsX40)
def wsX6_readHour_r1 : List Cond := [Cond.fieldLink RX6 18 "ShowsWhereNobodyIs$TownReader" "fault" "I", Cond.fieldLink RX6 97 "ShowsWhereNobodyIs$Town" "hour" "I", Cond.methodLink RX6 82 yX6_takeNumber, Cond.instanceMethod yX6_takeNumber, Cond.selects RX6 yX6_takeNumber yX6_takeNumber, Cond.initialized RX6, Cond.code yX6_takeNumber cX6_takeNumber 3 (some .int), Cond.fieldLink RX6 32 "ShowsWhereNobodyIs$TownReader" "token" "I", Cond.fieldLink RX6 101 "ShowsWhereNobodyIs$TownReader" "value" "I", Cond.fieldLink RX6 35 "ShowsWhereNobodyIs$TownReader" "start" "I", Cond.methodLink RX6 29 yX6_takeToken, Cond.instanceMethod yX6_takeToken, Cond.selects RX6 yX6_takeToken yX6_takeToken, Cond.code yX6_takeToken cX6_takeToken 2 none, Cond.fieldLink RX6 22 "ShowsWhereNobodyIs$TownReader" "position" "I", Cond.methodLink RX6 104 yX6_skipBlanks, Cond.instanceMethod yX6_skipBlanks, Cond.selects RX6 yX6_skipBlanks yX6_skipBlanks, Cond.code yX6_skipBlanks cX6_skipBlanks 1 none, Cond.fieldLink RX6 12 "ShowsWhereNobodyIs$TownReader" "tape" "LShowsWhereNobodyIs$Tape;", Cond.fieldLink RX6 124 "ShowsWhereNobodyIs$Tape" "size" "I", Cond.methodLink RX6 107 yX6_letterAt, Cond.instanceMethod yX6_letterAt, Cond.selects RX6 yX6_letterAt yX6_letterAt]
def wsX6_readHour_r2 : List Cond := [Cond.code yX6_letterAt cX6_letterAt 2 (some .int), Cond.fieldLink RX6 137 "ShowsWhereNobodyIs$Tape" "bytes" "[I", Cond.methodLink RX6 111 yX6_isLetter, Cond.static yX6_isLetter, Cond.code yX6_isLetter cX6_isLetter 1 (some .boolean), Cond.methodLink RX6 115 yX6_passWord, Cond.instanceMethod yX6_passWord, Cond.selects RX6 yX6_passWord yX6_passWord, Cond.code yX6_passWord cX6_passWord 1 none, Cond.methodLink RX6 118 yX6_isDigit, Cond.static yX6_isDigit, Cond.code yX6_isDigit cX6_isDigit 1 (some .boolean), Cond.methodLink RX6 121 yX6_passNumber, Cond.instanceMethod yX6_passNumber, Cond.selects RX6 yX6_passNumber yX6_passNumber, Cond.code yX6_passNumber cX6_passNumber 1 none]
def wsX6_readHour : List Cond := .code yX6_readHour cX6_readHour 3 none :: ((wsX6_readHour_r1 ++ wsX6_readHour_r2) ++ wsX60 ++ wsX50 ++ wsX40)
def wsX6_readChance_r1 : List Cond := [Cond.fieldLink RX6 18 "ShowsWhereNobodyIs$TownReader" "fault" "I", Cond.fieldLink RX6 99 "ShowsWhereNobodyIs$Town" "chance" "I", Cond.methodLink RX6 82 yX6_takeNumber, Cond.instanceMethod yX6_takeNumber, Cond.selects RX6 yX6_takeNumber yX6_takeNumber, Cond.initialized RX6, Cond.code yX6_takeNumber cX6_takeNumber 3 (some .int), Cond.fieldLink RX6 32 "ShowsWhereNobodyIs$TownReader" "token" "I", Cond.fieldLink RX6 101 "ShowsWhereNobodyIs$TownReader" "value" "I", Cond.fieldLink RX6 35 "ShowsWhereNobodyIs$TownReader" "start" "I", Cond.methodLink RX6 29 yX6_takeToken, Cond.instanceMethod yX6_takeToken, Cond.selects RX6 yX6_takeToken yX6_takeToken, Cond.code yX6_takeToken cX6_takeToken 2 none, Cond.fieldLink RX6 22 "ShowsWhereNobodyIs$TownReader" "position" "I", Cond.methodLink RX6 104 yX6_skipBlanks, Cond.instanceMethod yX6_skipBlanks, Cond.selects RX6 yX6_skipBlanks yX6_skipBlanks, Cond.code yX6_skipBlanks cX6_skipBlanks 1 none, Cond.fieldLink RX6 12 "ShowsWhereNobodyIs$TownReader" "tape" "LShowsWhereNobodyIs$Tape;", Cond.fieldLink RX6 124 "ShowsWhereNobodyIs$Tape" "size" "I", Cond.methodLink RX6 107 yX6_letterAt, Cond.instanceMethod yX6_letterAt, Cond.selects RX6 yX6_letterAt yX6_letterAt]
def wsX6_readChance_r2 : List Cond := [Cond.code yX6_letterAt cX6_letterAt 2 (some .int), Cond.fieldLink RX6 137 "ShowsWhereNobodyIs$Tape" "bytes" "[I", Cond.methodLink RX6 111 yX6_isLetter, Cond.static yX6_isLetter, Cond.code yX6_isLetter cX6_isLetter 1 (some .boolean), Cond.methodLink RX6 115 yX6_passWord, Cond.instanceMethod yX6_passWord, Cond.selects RX6 yX6_passWord yX6_passWord, Cond.code yX6_passWord cX6_passWord 1 none, Cond.methodLink RX6 118 yX6_isDigit, Cond.static yX6_isDigit, Cond.code yX6_isDigit cX6_isDigit 1 (some .boolean), Cond.methodLink RX6 121 yX6_passNumber, Cond.instanceMethod yX6_passNumber, Cond.selects RX6 yX6_passNumber yX6_passNumber, Cond.code yX6_passNumber cX6_passNumber 1 none]
def wsX6_readChance : List Cond := .code yX6_readChance cX6_readChance 3 none :: ((wsX6_readChance_r1 ++ wsX6_readChance_r2) ++ wsX60 ++ wsX50 ++ wsX40)
def wsX6_readStatement_r1 : List Cond := [Cond.fieldLink RX6 57 "ShowsWhereNobodyIs$Town" "people" "I", Cond.fieldLink RX6 35 "ShowsWhereNobodyIs$TownReader" "start" "I", Cond.fieldLink RX6 18 "ShowsWhereNobodyIs$TownReader" "fault" "I", Cond.methodLink RX6 29 yX6_takeToken, Cond.instanceMethod yX6_takeToken, Cond.selects RX6 yX6_takeToken yX6_takeToken, Cond.initialized RX6, Cond.code yX6_takeToken cX6_takeToken 2 none, Cond.fieldLink RX6 22 "ShowsWhereNobodyIs$TownReader" "position" "I", Cond.fieldLink RX6 32 "ShowsWhereNobodyIs$TownReader" "token" "I", Cond.methodLink RX6 104 yX6_skipBlanks, Cond.instanceMethod yX6_skipBlanks, Cond.selects RX6 yX6_skipBlanks yX6_skipBlanks, Cond.code yX6_skipBlanks cX6_skipBlanks 1 none, Cond.fieldLink RX6 12 "ShowsWhereNobodyIs$TownReader" "tape" "LShowsWhereNobodyIs$Tape;", Cond.fieldLink RX6 124 "ShowsWhereNobodyIs$Tape" "size" "I", Cond.methodLink RX6 107 yX6_letterAt, Cond.instanceMethod yX6_letterAt, Cond.selects RX6 yX6_letterAt yX6_letterAt, Cond.code yX6_letterAt cX6_letterAt 2 (some .int), Cond.fieldLink RX6 137 "ShowsWhereNobodyIs$Tape" "bytes" "[I", Cond.methodLink RX6 111 yX6_isLetter, Cond.static yX6_isLetter, Cond.code yX6_isLetter cX6_isLetter 1 (some .boolean)]
def wsX6_readStatement_r2 : List Cond := [Cond.methodLink RX6 115 yX6_passWord, Cond.instanceMethod yX6_passWord, Cond.selects RX6 yX6_passWord yX6_passWord, Cond.code yX6_passWord cX6_passWord 1 none, Cond.methodLink RX6 118 yX6_isDigit, Cond.static yX6_isDigit, Cond.code yX6_isDigit cX6_isDigit 1 (some .boolean), Cond.methodLink RX6 121 yX6_passNumber, Cond.instanceMethod yX6_passNumber, Cond.selects RX6 yX6_passNumber yX6_passNumber, Cond.code yX6_passNumber cX6_passNumber 1 none, Cond.fieldLink RX6 101 "ShowsWhereNobodyIs$TownReader" "value" "I", Cond.methodLink RX6 40 yX6_isWord, Cond.instanceMethod yX6_isWord, Cond.selects RX6 yX6_isWord yX6_isWord, Cond.code yX6_isWord cX6_isWord 3 (some .boolean), Cond.methodLink RX6 127 yJ0_length_8abf5, Cond.instanceMethod yJ0_length_8abf5, Cond.selects RJ0 yJ0_length_8abf5 yJ0_length_8abf5, Cond.initialized RJ0, Cond.code yJ0_length_8abf5 cJ0_length_8abf5 1 (some .int), Cond.fieldLink RJ0 9 "java/lang/String" "value" "[B", Cond.methodLink RJ0 335 yJ0_coder_7d493, Cond.instanceMethod yJ0_coder_7d493]
def wsX6_readStatement_r3 : List Cond := [Cond.selects RJ0 yJ0_coder_7d493 yJ0_coder_7d493, Cond.code yJ0_coder_7d493 cJ0_coder_7d493 1 (some .byte), Cond.fieldLink RJ0 38 "java/lang/String" "COMPACT_STRINGS" "Z", Cond.fieldLink RJ0 15 "java/lang/String" "coder" "B", Cond.methodLink RX6 133 yJ0_charAt_5068e, Cond.instanceMethod yJ0_charAt_5068e, Cond.selects RJ0 yJ0_charAt_5068e yJ0_charAt_5068e, Cond.code yJ0_charAt_5068e cJ0_charAt_5068e 2 (some .char), Cond.methodLink RJ0 492 yJ0_isLatin1_aae02, Cond.instanceMethod yJ0_isLatin1_aae02, Cond.selects RJ0 yJ0_isLatin1_aae02 yJ0_isLatin1_aae02, Cond.code yJ0_isLatin1_aae02 cJ0_isLatin1_aae02 1 (some .boolean), Cond.methodLink RJ0 495 yJ1_charAt_3b067, Cond.static yJ1_charAt_3b067, Cond.initialized RJ1, Cond.code yJ1_charAt_3b067 cJ1_charAt_3b067 2 (some .char), Cond.methodLink RJ1 9 yJ0_checkIndex_df160, Cond.static yJ0_checkIndex_df160, Cond.code yJ0_checkIndex_df160 cJ0_checkIndex_df160 2 none, Cond.fieldLink RJ0 1053 "jdk/internal/util/Preconditions" "SIOOBE_FORMATTER" "Ljava/util/function/BiFunction;", Cond.methodLink RJ0 1059 yJ3_checkIndex_8e157, Cond.static yJ3_checkIndex_8e157, Cond.initialized RJ3, Cond.code yJ3_checkIndex_8e157 cJ3_checkIndex_8e157 3 (some .int)]
def wsX6_readStatement_r4 : List Cond := [Cond.methodLink RJ0 498 yJ2_charAt_3b067, Cond.static yJ2_charAt_3b067, Cond.initialized RJ2, Cond.code yJ2_charAt_3b067 cJ2_charAt_3b067 2 (some .char), Cond.methodLink RJ2 67 yJ2_checkIndex_2214a, Cond.static yJ2_checkIndex_2214a, Cond.code yJ2_checkIndex_2214a cJ2_checkIndex_2214a 2 none, Cond.methodLink RJ2 48 yJ2_length_9d52b, Cond.static yJ2_length_9d52b, Cond.code yJ2_length_9d52b cJ2_length_9d52b 1 (some .int), Cond.methodLink RJ2 414 yJ0_checkIndex_df160, Cond.methodLink RJ2 71 yJ2_getChar_3b067, Cond.static yJ2_getChar_3b067, Cond.code yJ2_getChar_3b067 cJ2_getChar_3b067 2 (some .char), Cond.fieldLink RJ2 44 "java/lang/StringUTF16" "$assertionsDisabled" "Z", Cond.fieldLink RJ2 59 "java/lang/StringUTF16" "HI_BYTE_SHIFT" "I", Cond.fieldLink RJ2 63 "java/lang/StringUTF16" "LO_BYTE_SHIFT" "I", Cond.methodLink RX6 44 yX6_readPlaces, Cond.instanceMethod yX6_readPlaces, Cond.selects RX6 yX6_readPlaces yX6_readPlaces, Cond.code yX6_readPlaces cX6_readPlaces 3 none, Cond.fieldLink RX6 80 "ShowsWhereNobodyIs$Town" "places" "I", Cond.methodLink RX6 82 yX6_takeNumber, Cond.instanceMethod yX6_takeNumber]
def wsX6_readStatement_r5 : List Cond := [Cond.selects RX6 yX6_takeNumber yX6_takeNumber, Cond.code yX6_takeNumber cX6_takeNumber 3 (some .int), Cond.methodLink RX6 49 yX6_readWay, Cond.instanceMethod yX6_readWay, Cond.selects RX6 yX6_readWay yX6_readWay, Cond.code yX6_readWay cX6_readWay 5 none, Cond.methodLink RX6 86 yX5_setWay, Cond.instanceMethod yX5_setWay, Cond.selects RX5 yX5_setWay yX5_setWay, Cond.initialized RX5, Cond.code yX5_setWay cX5_setWay 4 none, Cond.fieldLink RX5 15 "ShowsWhereNobodyIs$Town" "ways" "[I", Cond.methodLink RX6 62 yX6_readPerson, Cond.instanceMethod yX6_readPerson, Cond.selects RX6 yX6_readPerson yX6_readPerson, Cond.code yX6_readPerson cX6_readPerson 6 none, Cond.methodLink RX6 90 yX5_addPerson, Cond.instanceMethod yX5_addPerson, Cond.selects RX5 yX5_addPerson yX5_addPerson, Cond.code yX5_addPerson cX5_addPerson 6 (some .int), Cond.fieldLink RX5 52 "ShowsWhereNobodyIs$Town" "people" "I", Cond.fieldLink RX5 22 "ShowsWhereNobodyIs$Town" "kind" "[I", Cond.fieldLink RX5 25 "ShowsWhereNobodyIs$Town" "a" "[I", Cond.fieldLink RX5 28 "ShowsWhereNobodyIs$Town" "home" "[I"]
def wsX6_readStatement_r6 : List Cond := [Cond.fieldLink RX5 31 "ShowsWhereNobodyIs$Town" "aim" "[I", Cond.fieldLink RX5 34 "ShowsWhereNobodyIs$Town" "at" "[I", Cond.methodLink RX6 67 yX6_readAt, Cond.instanceMethod yX6_readAt, Cond.selects RX6 yX6_readAt yX6_readAt, Cond.code yX6_readAt cX6_readAt 4 none, Cond.fieldLink RX6 94 "ShowsWhereNobodyIs$Town" "at" "[I", Cond.methodLink RX6 72 yX6_readHour, Cond.instanceMethod yX6_readHour, Cond.selects RX6 yX6_readHour yX6_readHour, Cond.code yX6_readHour cX6_readHour 3 none, Cond.fieldLink RX6 97 "ShowsWhereNobodyIs$Town" "hour" "I", Cond.methodLink RX6 77 yX6_readChance, Cond.instanceMethod yX6_readChance, Cond.selects RX6 yX6_readChance yX6_readChance, Cond.code yX6_readChance cX6_readChance 3 none, Cond.fieldLink RX6 99 "ShowsWhereNobodyIs$Town" "chance" "I"]
def wsX6_readStatement : List Cond := .code yX6_readStatement cX6_readStatement 2 none :: ((wsX6_readStatement_r1 ++ (wsX6_readStatement_r2 ++ (wsX6_readStatement_r3 ++ (wsX6_readStatement_r4 ++ (wsX6_readStatement_r5 ++ wsX6_readStatement_r6))))) ++ wsX50 ++ wsX60 ++ wsX40)
def wsX6_readTown_r1 : List Cond := [Cond.fieldLink RX6 22 "ShowsWhereNobodyIs$TownReader" "position" "I", Cond.fieldLink RX6 18 "ShowsWhereNobodyIs$TownReader" "fault" "I", Cond.fieldLink RX6 32 "ShowsWhereNobodyIs$TownReader" "token" "I", Cond.fieldLink RX6 35 "ShowsWhereNobodyIs$TownReader" "start" "I", Cond.methodLink RX6 25 yX6_readStatement, Cond.instanceMethod yX6_readStatement, Cond.selects RX6 yX6_readStatement yX6_readStatement, Cond.initialized RX6, Cond.code yX6_readStatement cX6_readStatement 2 none, Cond.fieldLink RX6 57 "ShowsWhereNobodyIs$Town" "people" "I", Cond.methodLink RX6 29 yX6_takeToken, Cond.instanceMethod yX6_takeToken, Cond.selects RX6 yX6_takeToken yX6_takeToken, Cond.code yX6_takeToken cX6_takeToken 2 none, Cond.methodLink RX6 104 yX6_skipBlanks, Cond.instanceMethod yX6_skipBlanks, Cond.selects RX6 yX6_skipBlanks yX6_skipBlanks, Cond.code yX6_skipBlanks cX6_skipBlanks 1 none, Cond.fieldLink RX6 12 "ShowsWhereNobodyIs$TownReader" "tape" "LShowsWhereNobodyIs$Tape;", Cond.fieldLink RX6 124 "ShowsWhereNobodyIs$Tape" "size" "I", Cond.methodLink RX6 107 yX6_letterAt, Cond.instanceMethod yX6_letterAt, Cond.selects RX6 yX6_letterAt yX6_letterAt, Cond.code yX6_letterAt cX6_letterAt 2 (some .int)]
def wsX6_readTown_r2 : List Cond := [Cond.fieldLink RX6 137 "ShowsWhereNobodyIs$Tape" "bytes" "[I", Cond.methodLink RX6 111 yX6_isLetter, Cond.static yX6_isLetter, Cond.code yX6_isLetter cX6_isLetter 1 (some .boolean), Cond.methodLink RX6 115 yX6_passWord, Cond.instanceMethod yX6_passWord, Cond.selects RX6 yX6_passWord yX6_passWord, Cond.code yX6_passWord cX6_passWord 1 none, Cond.methodLink RX6 118 yX6_isDigit, Cond.static yX6_isDigit, Cond.code yX6_isDigit cX6_isDigit 1 (some .boolean), Cond.methodLink RX6 121 yX6_passNumber, Cond.instanceMethod yX6_passNumber, Cond.selects RX6 yX6_passNumber yX6_passNumber, Cond.code yX6_passNumber cX6_passNumber 1 none, Cond.fieldLink RX6 101 "ShowsWhereNobodyIs$TownReader" "value" "I", Cond.methodLink RX6 40 yX6_isWord, Cond.instanceMethod yX6_isWord, Cond.selects RX6 yX6_isWord yX6_isWord, Cond.code yX6_isWord cX6_isWord 3 (some .boolean), Cond.methodLink RX6 127 yJ0_length_8abf5, Cond.instanceMethod yJ0_length_8abf5, Cond.selects RJ0 yJ0_length_8abf5 yJ0_length_8abf5, Cond.initialized RJ0]
def wsX6_readTown_r3 : List Cond := [Cond.code yJ0_length_8abf5 cJ0_length_8abf5 1 (some .int), Cond.fieldLink RJ0 9 "java/lang/String" "value" "[B", Cond.methodLink RJ0 335 yJ0_coder_7d493, Cond.instanceMethod yJ0_coder_7d493, Cond.selects RJ0 yJ0_coder_7d493 yJ0_coder_7d493, Cond.code yJ0_coder_7d493 cJ0_coder_7d493 1 (some .byte), Cond.fieldLink RJ0 38 "java/lang/String" "COMPACT_STRINGS" "Z", Cond.fieldLink RJ0 15 "java/lang/String" "coder" "B", Cond.methodLink RX6 133 yJ0_charAt_5068e, Cond.instanceMethod yJ0_charAt_5068e, Cond.selects RJ0 yJ0_charAt_5068e yJ0_charAt_5068e, Cond.code yJ0_charAt_5068e cJ0_charAt_5068e 2 (some .char), Cond.methodLink RJ0 492 yJ0_isLatin1_aae02, Cond.instanceMethod yJ0_isLatin1_aae02, Cond.selects RJ0 yJ0_isLatin1_aae02 yJ0_isLatin1_aae02, Cond.code yJ0_isLatin1_aae02 cJ0_isLatin1_aae02 1 (some .boolean), Cond.methodLink RJ0 495 yJ1_charAt_3b067, Cond.static yJ1_charAt_3b067, Cond.initialized RJ1, Cond.code yJ1_charAt_3b067 cJ1_charAt_3b067 2 (some .char), Cond.methodLink RJ1 9 yJ0_checkIndex_df160, Cond.static yJ0_checkIndex_df160, Cond.code yJ0_checkIndex_df160 cJ0_checkIndex_df160 2 none, Cond.fieldLink RJ0 1053 "jdk/internal/util/Preconditions" "SIOOBE_FORMATTER" "Ljava/util/function/BiFunction;"]
def wsX6_readTown_r4 : List Cond := [Cond.methodLink RJ0 1059 yJ3_checkIndex_8e157, Cond.static yJ3_checkIndex_8e157, Cond.initialized RJ3, Cond.code yJ3_checkIndex_8e157 cJ3_checkIndex_8e157 3 (some .int), Cond.methodLink RJ0 498 yJ2_charAt_3b067, Cond.static yJ2_charAt_3b067, Cond.initialized RJ2, Cond.code yJ2_charAt_3b067 cJ2_charAt_3b067 2 (some .char), Cond.methodLink RJ2 67 yJ2_checkIndex_2214a, Cond.static yJ2_checkIndex_2214a, Cond.code yJ2_checkIndex_2214a cJ2_checkIndex_2214a 2 none, Cond.methodLink RJ2 48 yJ2_length_9d52b, Cond.static yJ2_length_9d52b, Cond.code yJ2_length_9d52b cJ2_length_9d52b 1 (some .int), Cond.methodLink RJ2 414 yJ0_checkIndex_df160, Cond.methodLink RJ2 71 yJ2_getChar_3b067, Cond.static yJ2_getChar_3b067, Cond.code yJ2_getChar_3b067 cJ2_getChar_3b067 2 (some .char), Cond.fieldLink RJ2 44 "java/lang/StringUTF16" "$assertionsDisabled" "Z", Cond.fieldLink RJ2 59 "java/lang/StringUTF16" "HI_BYTE_SHIFT" "I", Cond.fieldLink RJ2 63 "java/lang/StringUTF16" "LO_BYTE_SHIFT" "I", Cond.methodLink RX6 44 yX6_readPlaces, Cond.instanceMethod yX6_readPlaces, Cond.selects RX6 yX6_readPlaces yX6_readPlaces]
def wsX6_readTown_r5 : List Cond := [Cond.code yX6_readPlaces cX6_readPlaces 3 none, Cond.fieldLink RX6 80 "ShowsWhereNobodyIs$Town" "places" "I", Cond.methodLink RX6 82 yX6_takeNumber, Cond.instanceMethod yX6_takeNumber, Cond.selects RX6 yX6_takeNumber yX6_takeNumber, Cond.code yX6_takeNumber cX6_takeNumber 3 (some .int), Cond.methodLink RX6 49 yX6_readWay, Cond.instanceMethod yX6_readWay, Cond.selects RX6 yX6_readWay yX6_readWay, Cond.code yX6_readWay cX6_readWay 5 none, Cond.methodLink RX6 86 yX5_setWay, Cond.instanceMethod yX5_setWay, Cond.selects RX5 yX5_setWay yX5_setWay, Cond.initialized RX5, Cond.code yX5_setWay cX5_setWay 4 none, Cond.fieldLink RX5 15 "ShowsWhereNobodyIs$Town" "ways" "[I", Cond.methodLink RX6 62 yX6_readPerson, Cond.instanceMethod yX6_readPerson, Cond.selects RX6 yX6_readPerson yX6_readPerson, Cond.code yX6_readPerson cX6_readPerson 6 none, Cond.methodLink RX6 90 yX5_addPerson, Cond.instanceMethod yX5_addPerson, Cond.selects RX5 yX5_addPerson yX5_addPerson, Cond.code yX5_addPerson cX5_addPerson 6 (some .int)]
def wsX6_readTown_r6 : List Cond := [Cond.fieldLink RX5 52 "ShowsWhereNobodyIs$Town" "people" "I", Cond.fieldLink RX5 22 "ShowsWhereNobodyIs$Town" "kind" "[I", Cond.fieldLink RX5 25 "ShowsWhereNobodyIs$Town" "a" "[I", Cond.fieldLink RX5 28 "ShowsWhereNobodyIs$Town" "home" "[I", Cond.fieldLink RX5 31 "ShowsWhereNobodyIs$Town" "aim" "[I", Cond.fieldLink RX5 34 "ShowsWhereNobodyIs$Town" "at" "[I", Cond.methodLink RX6 67 yX6_readAt, Cond.instanceMethod yX6_readAt, Cond.selects RX6 yX6_readAt yX6_readAt, Cond.code yX6_readAt cX6_readAt 4 none, Cond.fieldLink RX6 94 "ShowsWhereNobodyIs$Town" "at" "[I", Cond.methodLink RX6 72 yX6_readHour, Cond.instanceMethod yX6_readHour, Cond.selects RX6 yX6_readHour yX6_readHour, Cond.code yX6_readHour cX6_readHour 3 none, Cond.fieldLink RX6 97 "ShowsWhereNobodyIs$Town" "hour" "I", Cond.methodLink RX6 77 yX6_readChance, Cond.instanceMethod yX6_readChance, Cond.selects RX6 yX6_readChance yX6_readChance, Cond.code yX6_readChance cX6_readChance 3 none, Cond.fieldLink RX6 99 "ShowsWhereNobodyIs$Town" "chance" "I"]
def wsX6_readTown : List Cond := .code yX6_readTown cX6_readTown 4 (some .int) :: ((wsX6_readTown_r1 ++ (wsX6_readTown_r2 ++ (wsX6_readTown_r3 ++ (wsX6_readTown_r4 ++ (wsX6_readTown_r5 ++ wsX6_readTown_r6))))) ++ wsX60 ++ wsX50 ++ wsX40)
def wsX7_init_r1 : List Cond := [Cond.methodLink RX7 1 objectInit, Cond.instanceMethod objectInit, Cond.code objectInit ⟨#[0xb1]⟩ 1 none, Cond.classLink RX7 7 RX5, Cond.instantiable RX5 12, Cond.initialized RX5, Cond.fieldLink RX7 10 "ShowsWhereNobodyIs" "now" "LShowsWhereNobodyIs$Town;", Cond.fieldLink RX7 16 "ShowsWhereNobodyIs" "future" "LShowsWhereNobodyIs$Town;", Cond.fieldLink RX7 19 "ShowsWhereNobodyIs" "draft" "LShowsWhereNobodyIs$Town;", Cond.fieldLink RX7 22 "ShowsWhereNobodyIs" "kept" "LShowsWhereNobodyIs$Town;", Cond.classLink RX7 25 RX2, Cond.fieldLink RX7 27 "ShowsWhereNobodyIs" "shelves" "[LShowsWhereNobodyIs$Shelf;", Cond.instantiable RX2 3, Cond.initialized RX2, Cond.classLink RX7 32 RX6, Cond.instantiable RX6 6, Cond.initialized RX6, Cond.fieldLink RX7 35 "ShowsWhereNobodyIs" "reader" "LShowsWhereNobodyIs$TownReader;", Cond.fieldLink RX7 39 "ShowsWhereNobodyIs$TownReader" "tape" "LShowsWhereNobodyIs$Tape;", Cond.fieldLink RX7 43 "ShowsWhereNobodyIs" "tape" "LShowsWhereNobodyIs$Tape;", Cond.classLink RX7 44 RX1, Cond.instantiable RX1 2, Cond.initialized RX1, Cond.fieldLink RX7 47 "ShowsWhereNobodyIs" "hiddenWay" "LShowsWhereNobodyIs$HiddenWay;"]
def wsX7_init_r2 : List Cond := [Cond.classLink RX7 51 RX3, Cond.instantiable RX3 1, Cond.initialized RX3, Cond.fieldLink RX7 54 "ShowsWhereNobodyIs" "sights" "LShowsWhereNobodyIs$Sights;", Cond.classLink RX7 58 RX0, Cond.instantiable RX0 2, Cond.initialized RX0, Cond.fieldLink RX7 61 "ShowsWhereNobodyIs" "choice" "LShowsWhereNobodyIs$Choice;", Cond.arrayClass .int, Cond.fieldLink RX7 65 "ShowsWhereNobodyIs" "refusals" "[I", Cond.methodLink RX7 9 yX5_init, Cond.instanceMethod yX5_init, Cond.code yX5_init cX5_init 1 none, Cond.methodLink RX5 3 objectInit, Cond.fieldLink RX5 9 "ShowsWhereNobodyIs$Town" "places" "I", Cond.fieldLink RX5 15 "ShowsWhereNobodyIs$Town" "ways" "[I", Cond.fieldLink RX5 19 "ShowsWhereNobodyIs$Town" "distances" "[I", Cond.fieldLink RX5 22 "ShowsWhereNobodyIs$Town" "kind" "[I", Cond.fieldLink RX5 25 "ShowsWhereNobodyIs$Town" "a" "[I", Cond.fieldLink RX5 28 "ShowsWhereNobodyIs$Town" "home" "[I", Cond.fieldLink RX5 31 "ShowsWhereNobodyIs$Town" "aim" "[I", Cond.fieldLink RX5 34 "ShowsWhereNobodyIs$Town" "at" "[I", Cond.fieldLink RX5 37 "ShowsWhereNobodyIs$Town" "chance" "I", Cond.fieldLink RX5 40 "ShowsWhereNobodyIs$Town" "seed" "I"]
def wsX7_init_r3 : List Cond := [Cond.methodLink RX5 43 yX5_measure, Cond.instanceMethod yX5_measure, Cond.selects RX5 yX5_measure yX5_measure, Cond.code yX5_measure cX5_measure 2 none, Cond.methodLink RX5 64 yX5_measureFrom, Cond.instanceMethod yX5_measureFrom, Cond.selects RX5 yX5_measureFrom yX5_measureFrom, Cond.code yX5_measureFrom cX5_measureFrom 7 none, Cond.static yX7_hasBit, Cond.initialized RX7, Cond.code yX7_hasBit cX7_hasBit 2 (some .boolean), Cond.methodLink RX5 72 yX5_spread, Cond.instanceMethod yX5_spread, Cond.selects RX5 yX5_spread yX5_spread, Cond.code yX5_spread cX5_spread 4 (some .int), Cond.instanceMethod yX2_init, Cond.code yX2_init cX2_init 1 none, Cond.methodLink RX2 3 objectInit, Cond.fieldLink RX2 9 "ShowsWhereNobodyIs$Shelf" "content" "I", Cond.arrayClass .long, Cond.fieldLink RX2 15 "ShowsWhereNobodyIs$Shelf" "elements" "[J", Cond.instanceMethod yX6_init, Cond.code yX6_init cX6_init 1 none, Cond.methodLink RX6 3 objectInit]
def wsX7_init_r4 : List Cond := [Cond.classLink RX6 9 RX4, Cond.instantiable RX4 2, Cond.initialized RX4, Cond.fieldLink RX6 12 "ShowsWhereNobodyIs$TownReader" "tape" "LShowsWhereNobodyIs$Tape;", Cond.fieldLink RX6 18 "ShowsWhereNobodyIs$TownReader" "fault" "I", Cond.instanceMethod yX4_init, Cond.code yX4_init cX4_init 1 none, Cond.methodLink RX4 3 objectInit, Cond.fieldLink RX4 9 "ShowsWhereNobodyIs$Tape" "bytes" "[I", Cond.instanceMethod yX1_init, Cond.code yX1_init cX1_init 1 none, Cond.methodLink RX1 3 objectInit, Cond.fieldLink RX1 9 "ShowsWhereNobodyIs$HiddenWay" "length" "I", Cond.fieldLink RX1 15 "ShowsWhereNobodyIs$HiddenWay" "steps" "[I", Cond.instanceMethod yX3_init, Cond.code yX3_init cX3_init 1 none, Cond.methodLink RX3 3 objectInit, Cond.fieldLink RX3 9 "ShowsWhereNobodyIs$Sights" "shone" "[I", Cond.instanceMethod yX0_init, Cond.code yX0_init cX0_init 1 none, Cond.methodLink RX0 1 objectInit]
def wsX7_init : List Cond := .code yX7_init cX7_init 2 none :: ((wsX7_init_r1 ++ (wsX7_init_r2 ++ (wsX7_init_r3 ++ wsX7_init_r4))) ++ wsX50 ++ wsX70 ++ wsX20 ++ wsX60 ++ wsX10 ++ wsX30 ++ wsX00 ++ wsX40)
def wsX7_isShelf : List Cond := .code yX7_isShelf cX7_isShelf 1 (some .boolean) :: ([])
def wsX7_refuse : List Cond := .code yX7_refuse cX7_refuse 3 (some .int) :: ([.fieldLink RX7 65 "ShowsWhereNobodyIs" "refusals" "[I"] ++ wsX70)
def wsX7_row : List Cond := .code yX7_row cX7_row 4 (some .int) :: ([.fieldLink RX7 27 "ShowsWhereNobodyIs" "shelves" "[LShowsWhereNobodyIs$Shelf;", .methodLink RX7 69 yX7_isShelf, .static yX7_isShelf, .initialized RX7, .code yX7_isShelf cX7_isShelf 1 (some .boolean), .methodLink RX7 73 yX7_refuse, .instanceMethod yX7_refuse, .selects RX7 yX7_refuse yX7_refuse, .code yX7_refuse cX7_refuse 3 (some .int), .fieldLink RX7 65 "ShowsWhereNobodyIs" "refusals" "[I", .methodLink RX7 77 yX2_takeRow, .instanceMethod yX2_takeRow, .selects RX2 yX2_takeRow yX2_takeRow, .initialized RX2, .code yX2_takeRow cX2_takeRow 4 none, .fieldLink RX2 9 "ShowsWhereNobodyIs$Shelf" "content" "I", .fieldLink RX2 19 "ShowsWhereNobodyIs$Shelf" "size" "I", .fieldLink RX2 15 "ShowsWhereNobodyIs$Shelf" "elements" "[J"] ++ wsX70 ++ wsX20)
def wsX7_rowReason : List Cond := .code yX7_rowReason cX7_rowReason 2 (some .int) :: ([.fieldLink RX7 27 "ShowsWhereNobodyIs" "shelves" "[LShowsWhereNobodyIs$Shelf;", .methodLink RX7 69 yX7_isShelf, .static yX7_isShelf, .initialized RX7, .code yX7_isShelf cX7_isShelf 1 (some .boolean), .methodLink RX7 325 yX2_holdsPerson, .instanceMethod yX2_holdsPerson, .selects RX2 yX2_holdsPerson yX2_holdsPerson, .initialized RX2, .code yX2_holdsPerson cX2_holdsPerson 1 (some .boolean), .fieldLink RX2 9 "ShowsWhereNobodyIs$Shelf" "content" "I", .methodLink RX7 130 yX2_holdsNothing, .instanceMethod yX2_holdsNothing, .selects RX2 yX2_holdsNothing yX2_holdsNothing, .code yX2_holdsNothing cX2_holdsNothing 1 (some .boolean)] ++ wsX70 ++ wsX20)
def wsX7_set_r1 : List Cond := [Cond.fieldLink RX7 27 "ShowsWhereNobodyIs" "shelves" "[LShowsWhereNobodyIs$Shelf;", Cond.methodLink RX7 81 yX7_rowReason, Cond.instanceMethod yX7_rowReason, Cond.selects RX7 yX7_rowReason yX7_rowReason, Cond.initialized RX7, Cond.code yX7_rowReason cX7_rowReason 2 (some .int), Cond.methodLink RX7 69 yX7_isShelf, Cond.static yX7_isShelf, Cond.code yX7_isShelf cX7_isShelf 1 (some .boolean), Cond.methodLink RX7 325 yX2_holdsPerson, Cond.instanceMethod yX2_holdsPerson, Cond.selects RX2 yX2_holdsPerson yX2_holdsPerson, Cond.initialized RX2, Cond.code yX2_holdsPerson cX2_holdsPerson 1 (some .boolean), Cond.fieldLink RX2 9 "ShowsWhereNobodyIs$Shelf" "content" "I", Cond.methodLink RX7 130 yX2_holdsNothing, Cond.instanceMethod yX2_holdsNothing, Cond.selects RX2 yX2_holdsNothing yX2_holdsNothing, Cond.code yX2_holdsNothing cX2_holdsNothing 1 (some .boolean), Cond.methodLink RX7 84 yX2_hasElement, Cond.instanceMethod yX2_hasElement, Cond.selects RX2 yX2_hasElement yX2_hasElement, Cond.code yX2_hasElement cX2_hasElement 2 (some .boolean), Cond.fieldLink RX2 19 "ShowsWhereNobodyIs$Shelf" "size" "I"]
def wsX7_set_r2 : List Cond := [Cond.methodLink RX7 73 yX7_refuse, Cond.instanceMethod yX7_refuse, Cond.selects RX7 yX7_refuse yX7_refuse, Cond.code yX7_refuse cX7_refuse 3 (some .int), Cond.fieldLink RX7 65 "ShowsWhereNobodyIs" "refusals" "[I", Cond.methodLink RX7 87 yX2_store, Cond.instanceMethod yX2_store, Cond.selects RX2 yX2_store yX2_store, Cond.code yX2_store cX2_store 4 none, Cond.fieldLink RX2 15 "ShowsWhereNobodyIs$Shelf" "elements" "[J"]
def wsX7_set : List Cond := .code yX7_set cX7_set 6 (some .int) :: ((wsX7_set_r1 ++ wsX7_set_r2) ++ wsX70 ++ wsX20)
def wsX7_twoRowsReason : List Cond := .code yX7_twoRowsReason cX7_twoRowsReason 5 (some .int) :: ([.fieldLink RX7 27 "ShowsWhereNobodyIs" "shelves" "[LShowsWhereNobodyIs$Shelf;", .fieldLink RX7 109 "ShowsWhereNobodyIs$Shelf" "content" "I", .methodLink RX7 81 yX7_rowReason, .instanceMethod yX7_rowReason, .selects RX7 yX7_rowReason yX7_rowReason, .initialized RX7, .code yX7_rowReason cX7_rowReason 2 (some .int), .methodLink RX7 69 yX7_isShelf, .static yX7_isShelf, .code yX7_isShelf cX7_isShelf 1 (some .boolean), .methodLink RX7 325 yX2_holdsPerson, .instanceMethod yX2_holdsPerson, .selects RX2 yX2_holdsPerson yX2_holdsPerson, .initialized RX2, .code yX2_holdsPerson cX2_holdsPerson 1 (some .boolean), .fieldLink RX2 9 "ShowsWhereNobodyIs$Shelf" "content" "I", .methodLink RX7 130 yX2_holdsNothing, .instanceMethod yX2_holdsNothing, .selects RX2 yX2_holdsNothing yX2_holdsNothing, .code yX2_holdsNothing cX2_holdsNothing 1 (some .boolean)] ++ wsX70 ++ wsX20)
def wsX7_copy_r1 : List Cond := [Cond.fieldLink RX7 27 "ShowsWhereNobodyIs" "shelves" "[LShowsWhereNobodyIs$Shelf;", Cond.fieldLink RX7 99 "ShowsWhereNobodyIs$Shelf" "elements" "[J", Cond.methodLink RX7 103 arraycopyName, Cond.native arraycopyName, Cond.static arraycopyName, Cond.initialized "java/lang/System", Cond.methodLink RX7 91 yX7_twoRowsReason, Cond.instanceMethod yX7_twoRowsReason, Cond.selects RX7 yX7_twoRowsReason yX7_twoRowsReason, Cond.initialized RX7, Cond.code yX7_twoRowsReason cX7_twoRowsReason 5 (some .int), Cond.fieldLink RX7 109 "ShowsWhereNobodyIs$Shelf" "content" "I", Cond.methodLink RX7 81 yX7_rowReason, Cond.instanceMethod yX7_rowReason, Cond.selects RX7 yX7_rowReason yX7_rowReason, Cond.code yX7_rowReason cX7_rowReason 2 (some .int), Cond.methodLink RX7 69 yX7_isShelf, Cond.static yX7_isShelf, Cond.code yX7_isShelf cX7_isShelf 1 (some .boolean), Cond.methodLink RX7 325 yX2_holdsPerson, Cond.instanceMethod yX2_holdsPerson, Cond.selects RX2 yX2_holdsPerson yX2_holdsPerson, Cond.initialized RX2, Cond.code yX2_holdsPerson cX2_holdsPerson 1 (some .boolean)]
def wsX7_copy_r2 : List Cond := [Cond.fieldLink RX2 9 "ShowsWhereNobodyIs$Shelf" "content" "I", Cond.methodLink RX7 130 yX2_holdsNothing, Cond.instanceMethod yX2_holdsNothing, Cond.selects RX2 yX2_holdsNothing yX2_holdsNothing, Cond.code yX2_holdsNothing cX2_holdsNothing 1 (some .boolean), Cond.methodLink RX7 95 yX2_hasElements, Cond.instanceMethod yX2_hasElements, Cond.selects RX2 yX2_hasElements yX2_hasElements, Cond.code yX2_hasElements cX2_hasElements 3 (some .boolean), Cond.fieldLink RX2 19 "ShowsWhereNobodyIs$Shelf" "size" "I", Cond.methodLink RX7 73 yX7_refuse, Cond.instanceMethod yX7_refuse, Cond.selects RX7 yX7_refuse yX7_refuse, Cond.code yX7_refuse cX7_refuse 3 (some .int), Cond.fieldLink RX7 65 "ShowsWhereNobodyIs" "refusals" "[I"]
def wsX7_copy : List Cond := .code yX7_copy cX7_copy 7 (some .int) :: ((wsX7_copy_r1 ++ wsX7_copy_r2) ++ wsX70 ++ wsX20)
def wsX7_element : List Cond := .code yX7_element cX7_element 3 (some .long) :: ([.fieldLink RX7 27 "ShowsWhereNobodyIs" "shelves" "[LShowsWhereNobodyIs$Shelf;", .fieldLink RX7 99 "ShowsWhereNobodyIs$Shelf" "elements" "[J", .methodLink RX7 69 yX7_isShelf, .static yX7_isShelf, .initialized RX7, .code yX7_isShelf cX7_isShelf 1 (some .boolean), .methodLink RX7 84 yX2_hasElement, .instanceMethod yX2_hasElement, .selects RX2 yX2_hasElement yX2_hasElement, .initialized RX2, .code yX2_hasElement cX2_hasElement 2 (some .boolean), .fieldLink RX2 19 "ShowsWhereNobodyIs$Shelf" "size" "I"] ++ wsX70 ++ wsX20)
def wsX7_holds : List Cond := .code yX7_holds cX7_holds 2 (some .int) :: ([.fieldLink RX7 27 "ShowsWhereNobodyIs" "shelves" "[LShowsWhereNobodyIs$Shelf;", .fieldLink RX7 109 "ShowsWhereNobodyIs$Shelf" "content" "I", .methodLink RX7 69 yX7_isShelf, .static yX7_isShelf, .initialized RX7, .code yX7_isShelf cX7_isShelf 1 (some .boolean)] ++ wsX70 ++ wsX20)
def wsX7_isPerson : List Cond := .code yX7_isPerson cX7_isPerson 2 (some .boolean) :: ([.fieldLink RX7 10 "ShowsWhereNobodyIs" "now" "LShowsWhereNobodyIs$Town;", .fieldLink RX7 171 "ShowsWhereNobodyIs$Town" "people" "I"] ++ wsX70 ++ wsX50)
def wsX7_show_r1 : List Cond := [Cond.fieldLink RX7 27 "ShowsWhereNobodyIs" "shelves" "[LShowsWhereNobodyIs$Shelf;", Cond.methodLink RX7 69 yX7_isShelf, Cond.static yX7_isShelf, Cond.initialized RX7, Cond.code yX7_isShelf cX7_isShelf 1 (some .boolean), Cond.methodLink RX7 113 yX7_isPerson, Cond.instanceMethod yX7_isPerson, Cond.selects RX7 yX7_isPerson yX7_isPerson, Cond.code yX7_isPerson cX7_isPerson 2 (some .boolean), Cond.fieldLink RX7 10 "ShowsWhereNobodyIs" "now" "LShowsWhereNobodyIs$Town;", Cond.fieldLink RX7 171 "ShowsWhereNobodyIs$Town" "people" "I", Cond.methodLink RX7 73 yX7_refuse, Cond.instanceMethod yX7_refuse, Cond.selects RX7 yX7_refuse yX7_refuse, Cond.code yX7_refuse cX7_refuse 3 (some .int), Cond.fieldLink RX7 65 "ShowsWhereNobodyIs" "refusals" "[I", Cond.methodLink RX7 116 yX2_takeNothing, Cond.instanceMethod yX2_takeNothing, Cond.selects RX2 yX2_takeNothing yX2_takeNothing, Cond.initialized RX2, Cond.code yX2_takeNothing cX2_takeNothing 1 none, Cond.fieldLink RX2 9 "ShowsWhereNobodyIs$Shelf" "content" "I", Cond.fieldLink RX2 19 "ShowsWhereNobodyIs$Shelf" "size" "I", Cond.methodLink RX7 119 yX2_takePerson]
def wsX7_show_r2 : List Cond := [Cond.instanceMethod yX2_takePerson, Cond.selects RX2 yX2_takePerson yX2_takePerson, Cond.code yX2_takePerson cX2_takePerson 2 none]
def wsX7_show : List Cond := .code yX7_show cX7_show 3 (some .int) :: ((wsX7_show_r1 ++ wsX7_show_r2) ++ wsX70 ++ wsX50 ++ wsX20)
def wsX7_isKind : List Cond := .code yX7_isKind cX7_isKind 1 (some .boolean) :: ([])
def wsX7_isUnder : List Cond := .code yX7_isUnder cX7_isUnder 2 (some .boolean) :: ([])
def wsX7_lookAhead_r1 : List Cond := [Cond.fieldLink RX7 16 "ShowsWhereNobodyIs" "future" "LShowsWhereNobodyIs$Town;", Cond.fieldLink RX7 10 "ShowsWhereNobodyIs" "now" "LShowsWhereNobodyIs$Town;", Cond.methodLink RX7 198 yX5_become, Cond.instanceMethod yX5_become, Cond.selects RX5 yX5_become yX5_become, Cond.initialized RX5, Cond.code yX5_become cX5_become 2 none, Cond.fieldLink RX5 9 "ShowsWhereNobodyIs$Town" "places" "I", Cond.fieldLink RX5 15 "ShowsWhereNobodyIs$Town" "ways" "[I", Cond.methodLink RX5 46 arraycopyName, Cond.native arraycopyName, Cond.static arraycopyName, Cond.initialized "java/lang/System", Cond.fieldLink RX5 19 "ShowsWhereNobodyIs$Town" "distances" "[I", Cond.fieldLink RX5 52 "ShowsWhereNobodyIs$Town" "people" "I", Cond.fieldLink RX5 22 "ShowsWhereNobodyIs$Town" "kind" "[I", Cond.fieldLink RX5 25 "ShowsWhereNobodyIs$Town" "a" "[I", Cond.fieldLink RX5 28 "ShowsWhereNobodyIs$Town" "home" "[I", Cond.fieldLink RX5 31 "ShowsWhereNobodyIs$Town" "aim" "[I", Cond.fieldLink RX5 34 "ShowsWhereNobodyIs$Town" "at" "[I", Cond.fieldLink RX5 55 "ShowsWhereNobodyIs$Town" "hour" "I", Cond.fieldLink RX5 37 "ShowsWhereNobodyIs$Town" "chance" "I", Cond.fieldLink RX5 40 "ShowsWhereNobodyIs$Town" "seed" "I", Cond.methodLink RX7 306 yX5_passHours]
def wsX7_lookAhead_r2 : List Cond := [Cond.instanceMethod yX5_passHours, Cond.selects RX5 yX5_passHours yX5_passHours, Cond.code yX5_passHours cX5_passHours 3 none, Cond.methodLink RX5 90 yX5_passHour, Cond.instanceMethod yX5_passHour, Cond.selects RX5 yX5_passHour yX5_passHour, Cond.code yX5_passHour cX5_passHour 5 (some .boolean), Cond.methodLink RX5 83 yX5_darkPlaces, Cond.instanceMethod yX5_darkPlaces, Cond.selects RX5 yX5_darkPlaces yX5_darkPlaces, Cond.code yX5_darkPlaces cX5_darkPlaces 3 (some .int), Cond.methodLink RX5 79 yX5_darkens, Cond.instanceMethod yX5_darkens, Cond.selects RX5 yX5_darkens yX5_darkens, Cond.code yX5_darkens cX5_darkens 2 (some .boolean), Cond.methodLink RX5 94 yX5_goesTo, Cond.instanceMethod yX5_goesTo, Cond.selects RX5 yX5_goesTo yX5_goesTo, Cond.code yX5_goesTo cX5_goesTo 4 (some .int), Cond.methodLink RX5 100 yX5_isDay, Cond.instanceMethod yX5_isDay, Cond.selects RX5 yX5_isDay yX5_isDay, Cond.code yX5_isDay cX5_isDay 2 (some .boolean), Cond.methodLink RX5 103 yX5_stepToward]
def wsX7_lookAhead_r3 : List Cond := [Cond.instanceMethod yX5_stepToward, Cond.selects RX5 yX5_stepToward yX5_stepToward, Cond.code yX5_stepToward cX5_stepToward 5 (some .int), Cond.methodLink RX5 75 yX5_distance, Cond.instanceMethod yX5_distance, Cond.selects RX5 yX5_distance yX5_distance, Cond.code yX5_distance cX5_distance 3 (some .int), Cond.methodLink RX5 109 yX5_hasWay, Cond.instanceMethod yX5_hasWay, Cond.selects RX5 yX5_hasWay yX5_hasWay, Cond.code yX5_hasWay cX5_hasWay 3 (some .boolean), Cond.methodLink RX5 106 yX5_walkRound, Cond.instanceMethod yX5_walkRound, Cond.selects RX5 yX5_walkRound yX5_walkRound, Cond.code yX5_walkRound cX5_walkRound 3 (some .int), Cond.static yX7_hasBit, Cond.initialized RX7, Cond.code yX7_hasBit cX7_hasBit 2 (some .boolean), Cond.methodLink RX5 97 yX5_endHour, Cond.instanceMethod yX5_endHour, Cond.selects RX5 yX5_endHour yX5_endHour, Cond.code yX5_endHour cX5_endHour 1 none, Cond.methodLink RX5 112 Lib.Math.min.name, Cond.static Lib.Math.min.name]
def wsX7_lookAhead_r4 : List Cond := [Cond.initialized "java/lang/Math", Cond.code Lib.Math.min.name Lib.Math.min.code 2 (some .int)]
def wsX7_lookAhead : List Cond := .code yX7_lookAhead cX7_lookAhead 2 none :: ((wsX7_lookAhead_r1 ++ (wsX7_lookAhead_r2 ++ (wsX7_lookAhead_r3 ++ wsX7_lookAhead_r4))) ++ wsX70 ++ wsX50)
def wsX7_says_r1 : List Cond := [Cond.fieldLink RX7 27 "ShowsWhereNobodyIs" "shelves" "[LShowsWhereNobodyIs$Shelf;", Cond.fieldLink RX7 10 "ShowsWhereNobodyIs" "now" "LShowsWhereNobodyIs$Town;", Cond.fieldLink RX7 137 "ShowsWhereNobodyIs$Town" "kind" "[I", Cond.fieldLink RX7 143 "ShowsWhereNobodyIs$Town" "a" "[I", Cond.fieldLink RX7 16 "ShowsWhereNobodyIs" "future" "LShowsWhereNobodyIs$Town;", Cond.fieldLink RX7 149 "ShowsWhereNobodyIs$Town" "at" "[I", Cond.methodLink RX7 69 yX7_isShelf, Cond.static yX7_isShelf, Cond.initialized RX7, Cond.code yX7_isShelf cX7_isShelf 1 (some .boolean), Cond.methodLink RX7 123 yX7_isKind, Cond.static yX7_isKind, Cond.code yX7_isKind cX7_isKind 1 (some .boolean), Cond.methodLink RX7 73 yX7_refuse, Cond.instanceMethod yX7_refuse, Cond.selects RX7 yX7_refuse yX7_refuse, Cond.code yX7_refuse cX7_refuse 3 (some .int), Cond.fieldLink RX7 65 "ShowsWhereNobodyIs" "refusals" "[I", Cond.methodLink RX7 126 yX2_holdsRow, Cond.instanceMethod yX2_holdsRow, Cond.selects RX2 yX2_holdsRow yX2_holdsRow, Cond.initialized RX2, Cond.code yX2_holdsRow cX2_holdsRow 1 (some .boolean), Cond.fieldLink RX2 9 "ShowsWhereNobodyIs$Shelf" "content" "I"]
def wsX7_says_r2 : List Cond := [Cond.methodLink RX7 130 yX2_holdsNothing, Cond.instanceMethod yX2_holdsNothing, Cond.selects RX2 yX2_holdsNothing yX2_holdsNothing, Cond.code yX2_holdsNothing cX2_holdsNothing 1 (some .boolean), Cond.methodLink RX7 133 yX2_personNumber, Cond.instanceMethod yX2_personNumber, Cond.selects RX2 yX2_personNumber yX2_personNumber, Cond.code yX2_personNumber cX2_personNumber 1 (some .int), Cond.methodLink RX7 113 yX7_isPerson, Cond.instanceMethod yX7_isPerson, Cond.selects RX7 yX7_isPerson yX7_isPerson, Cond.code yX7_isPerson cX7_isPerson 2 (some .boolean), Cond.fieldLink RX7 171 "ShowsWhereNobodyIs$Town" "people" "I", Cond.methodLink RX7 140 yX7_isUnder, Cond.static yX7_isUnder, Cond.code yX7_isUnder cX7_isUnder 2 (some .boolean), Cond.methodLink RX7 146 yX7_lookAhead, Cond.instanceMethod yX7_lookAhead, Cond.selects RX7 yX7_lookAhead yX7_lookAhead, Cond.code yX7_lookAhead cX7_lookAhead 2 none, Cond.methodLink RX7 198 yX5_become, Cond.instanceMethod yX5_become, Cond.selects RX5 yX5_become yX5_become, Cond.initialized RX5]
def wsX7_says_r3 : List Cond := [Cond.code yX5_become cX5_become 2 none, Cond.fieldLink RX5 9 "ShowsWhereNobodyIs$Town" "places" "I", Cond.fieldLink RX5 15 "ShowsWhereNobodyIs$Town" "ways" "[I", Cond.methodLink RX5 46 arraycopyName, Cond.native arraycopyName, Cond.static arraycopyName, Cond.initialized "java/lang/System", Cond.fieldLink RX5 19 "ShowsWhereNobodyIs$Town" "distances" "[I", Cond.fieldLink RX5 52 "ShowsWhereNobodyIs$Town" "people" "I", Cond.fieldLink RX5 22 "ShowsWhereNobodyIs$Town" "kind" "[I", Cond.fieldLink RX5 25 "ShowsWhereNobodyIs$Town" "a" "[I", Cond.fieldLink RX5 28 "ShowsWhereNobodyIs$Town" "home" "[I", Cond.fieldLink RX5 31 "ShowsWhereNobodyIs$Town" "aim" "[I", Cond.fieldLink RX5 34 "ShowsWhereNobodyIs$Town" "at" "[I", Cond.fieldLink RX5 55 "ShowsWhereNobodyIs$Town" "hour" "I", Cond.fieldLink RX5 37 "ShowsWhereNobodyIs$Town" "chance" "I", Cond.fieldLink RX5 40 "ShowsWhereNobodyIs$Town" "seed" "I", Cond.methodLink RX7 306 yX5_passHours, Cond.instanceMethod yX5_passHours, Cond.selects RX5 yX5_passHours yX5_passHours, Cond.code yX5_passHours cX5_passHours 3 none, Cond.methodLink RX5 90 yX5_passHour, Cond.instanceMethod yX5_passHour, Cond.selects RX5 yX5_passHour yX5_passHour]
def wsX7_says_r4 : List Cond := [Cond.code yX5_passHour cX5_passHour 5 (some .boolean), Cond.methodLink RX5 83 yX5_darkPlaces, Cond.instanceMethod yX5_darkPlaces, Cond.selects RX5 yX5_darkPlaces yX5_darkPlaces, Cond.code yX5_darkPlaces cX5_darkPlaces 3 (some .int), Cond.methodLink RX5 79 yX5_darkens, Cond.instanceMethod yX5_darkens, Cond.selects RX5 yX5_darkens yX5_darkens, Cond.code yX5_darkens cX5_darkens 2 (some .boolean), Cond.methodLink RX5 94 yX5_goesTo, Cond.instanceMethod yX5_goesTo, Cond.selects RX5 yX5_goesTo yX5_goesTo, Cond.code yX5_goesTo cX5_goesTo 4 (some .int), Cond.methodLink RX5 100 yX5_isDay, Cond.instanceMethod yX5_isDay, Cond.selects RX5 yX5_isDay yX5_isDay, Cond.code yX5_isDay cX5_isDay 2 (some .boolean), Cond.methodLink RX5 103 yX5_stepToward, Cond.instanceMethod yX5_stepToward, Cond.selects RX5 yX5_stepToward yX5_stepToward, Cond.code yX5_stepToward cX5_stepToward 5 (some .int), Cond.methodLink RX5 75 yX5_distance, Cond.instanceMethod yX5_distance, Cond.selects RX5 yX5_distance yX5_distance]
def wsX7_says_r5 : List Cond := [Cond.code yX5_distance cX5_distance 3 (some .int), Cond.methodLink RX5 109 yX5_hasWay, Cond.instanceMethod yX5_hasWay, Cond.selects RX5 yX5_hasWay yX5_hasWay, Cond.code yX5_hasWay cX5_hasWay 3 (some .boolean), Cond.methodLink RX5 106 yX5_walkRound, Cond.instanceMethod yX5_walkRound, Cond.selects RX5 yX5_walkRound yX5_walkRound, Cond.code yX5_walkRound cX5_walkRound 3 (some .int), Cond.static yX7_hasBit, Cond.code yX7_hasBit cX7_hasBit 2 (some .boolean), Cond.methodLink RX5 97 yX5_endHour, Cond.instanceMethod yX5_endHour, Cond.selects RX5 yX5_endHour yX5_endHour, Cond.code yX5_endHour cX5_endHour 1 none, Cond.methodLink RX5 112 Lib.Math.min.name, Cond.static Lib.Math.min.name, Cond.initialized "java/lang/Math", Cond.code Lib.Math.min.name Lib.Math.min.code 2 (some .int)]
def wsX7_says : List Cond := .code yX7_says cX7_says 4 (some .int) :: ((wsX7_says_r1 ++ (wsX7_says_r2 ++ (wsX7_says_r3 ++ (wsX7_says_r4 ++ wsX7_says_r5)))) ++ wsX70 ++ wsX50 ++ wsX20)
def wsX7_places : List Cond := .code yX7_places cX7_places 3 (some .int) :: ([.fieldLink RX7 10 "ShowsWhereNobodyIs" "now" "LShowsWhereNobodyIs$Town;", .fieldLink RX7 152 "ShowsWhereNobodyIs$Town" "places" "I", .methodLink RX7 73 yX7_refuse, .instanceMethod yX7_refuse, .selects RX7 yX7_refuse yX7_refuse, .initialized RX7, .code yX7_refuse cX7_refuse 3 (some .int), .fieldLink RX7 65 "ShowsWhereNobodyIs" "refusals" "[I"] ++ wsX70 ++ wsX50)
def wsX7_isPlace : List Cond := .code yX7_isPlace cX7_isPlace 2 (some .boolean) :: ([.fieldLink RX7 10 "ShowsWhereNobodyIs" "now" "LShowsWhereNobodyIs$Town;", .fieldLink RX7 152 "ShowsWhereNobodyIs$Town" "places" "I"] ++ wsX70 ++ wsX50)
def wsX7_areTwoPlaces : List Cond := .code yX7_areTwoPlaces cX7_areTwoPlaces 3 (some .boolean) :: ([.methodLink RX7 168 yX7_isPlace, .instanceMethod yX7_isPlace, .selects RX7 yX7_isPlace yX7_isPlace, .initialized RX7, .code yX7_isPlace cX7_isPlace 2 (some .boolean), .fieldLink RX7 10 "ShowsWhereNobodyIs" "now" "LShowsWhereNobodyIs$Town;", .fieldLink RX7 152 "ShowsWhereNobodyIs$Town" "places" "I"] ++ wsX70 ++ wsX50)
def wsX7_way_r1 : List Cond := [Cond.fieldLink RX7 10 "ShowsWhereNobodyIs" "now" "LShowsWhereNobodyIs$Town;", Cond.methodLink RX7 155 yX7_areTwoPlaces, Cond.instanceMethod yX7_areTwoPlaces, Cond.selects RX7 yX7_areTwoPlaces yX7_areTwoPlaces, Cond.initialized RX7, Cond.code yX7_areTwoPlaces cX7_areTwoPlaces 3 (some .boolean), Cond.methodLink RX7 168 yX7_isPlace, Cond.instanceMethod yX7_isPlace, Cond.selects RX7 yX7_isPlace yX7_isPlace, Cond.code yX7_isPlace cX7_isPlace 2 (some .boolean), Cond.fieldLink RX7 152 "ShowsWhereNobodyIs$Town" "places" "I", Cond.methodLink RX7 73 yX7_refuse, Cond.instanceMethod yX7_refuse, Cond.selects RX7 yX7_refuse yX7_refuse, Cond.code yX7_refuse cX7_refuse 3 (some .int), Cond.fieldLink RX7 65 "ShowsWhereNobodyIs" "refusals" "[I", Cond.methodLink RX7 158 yX5_hasWay, Cond.instanceMethod yX5_hasWay, Cond.selects RX5 yX5_hasWay yX5_hasWay, Cond.initialized RX5, Cond.code yX5_hasWay cX5_hasWay 3 (some .boolean), Cond.fieldLink RX5 15 "ShowsWhereNobodyIs$Town" "ways" "[I", Cond.methodLink RX7 161 yX5_setWay, Cond.instanceMethod yX5_setWay]
def wsX7_way_r2 : List Cond := [Cond.selects RX5 yX5_setWay yX5_setWay, Cond.code yX5_setWay cX5_setWay 4 none, Cond.methodLink RX7 165 yX5_measure, Cond.instanceMethod yX5_measure, Cond.selects RX5 yX5_measure yX5_measure, Cond.code yX5_measure cX5_measure 2 none, Cond.methodLink RX5 64 yX5_measureFrom, Cond.instanceMethod yX5_measureFrom, Cond.selects RX5 yX5_measureFrom yX5_measureFrom, Cond.code yX5_measureFrom cX5_measureFrom 7 none, Cond.fieldLink RX5 19 "ShowsWhereNobodyIs$Town" "distances" "[I", Cond.static yX7_hasBit, Cond.code yX7_hasBit cX7_hasBit 2 (some .boolean), Cond.methodLink RX5 72 yX5_spread, Cond.instanceMethod yX5_spread, Cond.selects RX5 yX5_spread yX5_spread, Cond.code yX5_spread cX5_spread 4 (some .int)]
def wsX7_way : List Cond := .code yX7_way cX7_way 5 (some .int) :: ((wsX7_way_r1 ++ wsX7_way_r2) ++ wsX70 ++ wsX50)
def wsX7_person_r1 : List Cond := [Cond.fieldLink RX7 10 "ShowsWhereNobodyIs" "now" "LShowsWhereNobodyIs$Town;", Cond.fieldLink RX7 171 "ShowsWhereNobodyIs$Town" "people" "I", Cond.methodLink RX7 123 yX7_isKind, Cond.static yX7_isKind, Cond.initialized RX7, Cond.code yX7_isKind cX7_isKind 1 (some .boolean), Cond.methodLink RX7 168 yX7_isPlace, Cond.instanceMethod yX7_isPlace, Cond.selects RX7 yX7_isPlace yX7_isPlace, Cond.code yX7_isPlace cX7_isPlace 2 (some .boolean), Cond.fieldLink RX7 152 "ShowsWhereNobodyIs$Town" "places" "I", Cond.methodLink RX7 73 yX7_refuse, Cond.instanceMethod yX7_refuse, Cond.selects RX7 yX7_refuse yX7_refuse, Cond.code yX7_refuse cX7_refuse 3 (some .int), Cond.fieldLink RX7 65 "ShowsWhereNobodyIs" "refusals" "[I", Cond.methodLink RX7 174 yX5_addPerson, Cond.instanceMethod yX5_addPerson, Cond.selects RX5 yX5_addPerson yX5_addPerson, Cond.initialized RX5, Cond.code yX5_addPerson cX5_addPerson 6 (some .int), Cond.fieldLink RX5 52 "ShowsWhereNobodyIs$Town" "people" "I", Cond.fieldLink RX5 22 "ShowsWhereNobodyIs$Town" "kind" "[I", Cond.fieldLink RX5 25 "ShowsWhereNobodyIs$Town" "a" "[I"]
def wsX7_person_r2 : List Cond := [Cond.fieldLink RX5 28 "ShowsWhereNobodyIs$Town" "home" "[I", Cond.fieldLink RX5 31 "ShowsWhereNobodyIs$Town" "aim" "[I", Cond.fieldLink RX5 34 "ShowsWhereNobodyIs$Town" "at" "[I"]
def wsX7_person : List Cond := .code yX7_person cX7_person 5 (some .int) :: ((wsX7_person_r1 ++ wsX7_person_r2) ++ wsX70 ++ wsX50)
def wsX7_put : List Cond := .code yX7_put cX7_put 6 (some .int) :: ([.fieldLink RX7 10 "ShowsWhereNobodyIs" "now" "LShowsWhereNobodyIs$Town;", .fieldLink RX7 149 "ShowsWhereNobodyIs$Town" "at" "[I", .fieldLink RX7 178 "ShowsWhereNobodyIs$Town" "home" "[I", .fieldLink RX7 181 "ShowsWhereNobodyIs$Town" "aim" "[I", .methodLink RX7 113 yX7_isPerson, .instanceMethod yX7_isPerson, .selects RX7 yX7_isPerson yX7_isPerson, .initialized RX7, .code yX7_isPerson cX7_isPerson 2 (some .boolean), .fieldLink RX7 171 "ShowsWhereNobodyIs$Town" "people" "I", .methodLink RX7 168 yX7_isPlace, .instanceMethod yX7_isPlace, .selects RX7 yX7_isPlace yX7_isPlace, .code yX7_isPlace cX7_isPlace 2 (some .boolean), .fieldLink RX7 152 "ShowsWhereNobodyIs$Town" "places" "I", .methodLink RX7 73 yX7_refuse, .instanceMethod yX7_refuse, .selects RX7 yX7_refuse yX7_refuse, .code yX7_refuse cX7_refuse 3 (some .int), .fieldLink RX7 65 "ShowsWhereNobodyIs" "refusals" "[I"] ++ wsX70 ++ wsX50)
def wsX7_tell : List Cond := .code yX7_tell cX7_tell 4 (some .int) :: ([.fieldLink RX7 10 "ShowsWhereNobodyIs" "now" "LShowsWhereNobodyIs$Town;", .fieldLink RX7 184 "ShowsWhereNobodyIs$Town" "hour" "I", .fieldLink RX7 187 "ShowsWhereNobodyIs$Town" "chance" "I", .methodLink RX7 73 yX7_refuse, .instanceMethod yX7_refuse, .selects RX7 yX7_refuse yX7_refuse, .initialized RX7, .code yX7_refuse cX7_refuse 3 (some .int), .fieldLink RX7 65 "ShowsWhereNobodyIs" "refusals" "[I"] ++ wsX70 ++ wsX50)
def wsX7_feed : List Cond := .code yX7_feed cX7_feed 2 (some .int) :: ([.fieldLink RX7 43 "ShowsWhereNobodyIs" "tape" "LShowsWhereNobodyIs$Tape;", .fieldLink RX7 190 "ShowsWhereNobodyIs$Tape" "size" "I", .methodLink RX7 73 yX7_refuse, .instanceMethod yX7_refuse, .selects RX7 yX7_refuse yX7_refuse, .initialized RX7, .code yX7_refuse cX7_refuse 3 (some .int), .fieldLink RX7 65 "ShowsWhereNobodyIs" "refusals" "[I", .methodLink RX7 195 yX4_append, .instanceMethod yX4_append, .selects RX4 yX4_append yX4_append, .initialized RX4, .code yX4_append cX4_append 2 none, .fieldLink RX4 15 "ShowsWhereNobodyIs$Tape" "size" "I", .fieldLink RX4 9 "ShowsWhereNobodyIs$Tape" "bytes" "[I"] ++ wsX70 ++ wsX40)
def wsX7_wipe : List Cond := .code yX7_wipe cX7_wipe 2 (some .int) :: ([.fieldLink RX7 43 "ShowsWhereNobodyIs" "tape" "LShowsWhereNobodyIs$Tape;", .fieldLink RX7 190 "ShowsWhereNobodyIs$Tape" "size" "I"] ++ wsX70 ++ wsX40)
def wsX7_town_r1 : List Cond := [Cond.fieldLink RX7 19 "ShowsWhereNobodyIs" "draft" "LShowsWhereNobodyIs$Town;", Cond.fieldLink RX7 10 "ShowsWhereNobodyIs" "now" "LShowsWhereNobodyIs$Town;", Cond.fieldLink RX7 35 "ShowsWhereNobodyIs" "reader" "LShowsWhereNobodyIs$TownReader;", Cond.fieldLink RX7 43 "ShowsWhereNobodyIs" "tape" "LShowsWhereNobodyIs$Tape;", Cond.fieldLink RX7 190 "ShowsWhereNobodyIs$Tape" "size" "I", Cond.fieldLink RX7 206 "ShowsWhereNobodyIs$TownReader" "fault" "I", Cond.methodLink RX7 198 yX5_become, Cond.instanceMethod yX5_become, Cond.selects RX5 yX5_become yX5_become, Cond.initialized RX5, Cond.code yX5_become cX5_become 2 none, Cond.fieldLink RX5 9 "ShowsWhereNobodyIs$Town" "places" "I", Cond.fieldLink RX5 15 "ShowsWhereNobodyIs$Town" "ways" "[I", Cond.methodLink RX5 46 arraycopyName, Cond.native arraycopyName, Cond.static arraycopyName, Cond.initialized "java/lang/System", Cond.fieldLink RX5 19 "ShowsWhereNobodyIs$Town" "distances" "[I", Cond.fieldLink RX5 52 "ShowsWhereNobodyIs$Town" "people" "I", Cond.fieldLink RX5 22 "ShowsWhereNobodyIs$Town" "kind" "[I", Cond.fieldLink RX5 25 "ShowsWhereNobodyIs$Town" "a" "[I", Cond.fieldLink RX5 28 "ShowsWhereNobodyIs$Town" "home" "[I", Cond.fieldLink RX5 31 "ShowsWhereNobodyIs$Town" "aim" "[I", Cond.fieldLink RX5 34 "ShowsWhereNobodyIs$Town" "at" "[I"]
def wsX7_town_r2 : List Cond := [Cond.fieldLink RX5 55 "ShowsWhereNobodyIs$Town" "hour" "I", Cond.fieldLink RX5 37 "ShowsWhereNobodyIs$Town" "chance" "I", Cond.fieldLink RX5 40 "ShowsWhereNobodyIs$Town" "seed" "I", Cond.methodLink RX7 202 yX6_readTown, Cond.instanceMethod yX6_readTown, Cond.selects RX6 yX6_readTown yX6_readTown, Cond.initialized RX6, Cond.code yX6_readTown cX6_readTown 4 (some .int), Cond.fieldLink RX6 22 "ShowsWhereNobodyIs$TownReader" "position" "I", Cond.fieldLink RX6 18 "ShowsWhereNobodyIs$TownReader" "fault" "I", Cond.fieldLink RX6 32 "ShowsWhereNobodyIs$TownReader" "token" "I", Cond.fieldLink RX6 35 "ShowsWhereNobodyIs$TownReader" "start" "I", Cond.methodLink RX6 25 yX6_readStatement, Cond.instanceMethod yX6_readStatement, Cond.selects RX6 yX6_readStatement yX6_readStatement, Cond.code yX6_readStatement cX6_readStatement 2 none, Cond.fieldLink RX6 57 "ShowsWhereNobodyIs$Town" "people" "I", Cond.methodLink RX6 29 yX6_takeToken, Cond.instanceMethod yX6_takeToken, Cond.selects RX6 yX6_takeToken yX6_takeToken, Cond.code yX6_takeToken cX6_takeToken 2 none, Cond.methodLink RX6 104 yX6_skipBlanks, Cond.instanceMethod yX6_skipBlanks, Cond.selects RX6 yX6_skipBlanks yX6_skipBlanks]
def wsX7_town_r3 : List Cond := [Cond.code yX6_skipBlanks cX6_skipBlanks 1 none, Cond.fieldLink RX6 12 "ShowsWhereNobodyIs$TownReader" "tape" "LShowsWhereNobodyIs$Tape;", Cond.fieldLink RX6 124 "ShowsWhereNobodyIs$Tape" "size" "I", Cond.methodLink RX6 107 yX6_letterAt, Cond.instanceMethod yX6_letterAt, Cond.selects RX6 yX6_letterAt yX6_letterAt, Cond.code yX6_letterAt cX6_letterAt 2 (some .int), Cond.fieldLink RX6 137 "ShowsWhereNobodyIs$Tape" "bytes" "[I", Cond.methodLink RX6 111 yX6_isLetter, Cond.static yX6_isLetter, Cond.code yX6_isLetter cX6_isLetter 1 (some .boolean), Cond.methodLink RX6 115 yX6_passWord, Cond.instanceMethod yX6_passWord, Cond.selects RX6 yX6_passWord yX6_passWord, Cond.code yX6_passWord cX6_passWord 1 none, Cond.methodLink RX6 118 yX6_isDigit, Cond.static yX6_isDigit, Cond.code yX6_isDigit cX6_isDigit 1 (some .boolean), Cond.methodLink RX6 121 yX6_passNumber, Cond.instanceMethod yX6_passNumber, Cond.selects RX6 yX6_passNumber yX6_passNumber, Cond.code yX6_passNumber cX6_passNumber 1 none, Cond.fieldLink RX6 101 "ShowsWhereNobodyIs$TownReader" "value" "I", Cond.methodLink RX6 40 yX6_isWord]
def wsX7_town_r4 : List Cond := [Cond.instanceMethod yX6_isWord, Cond.selects RX6 yX6_isWord yX6_isWord, Cond.code yX6_isWord cX6_isWord 3 (some .boolean), Cond.methodLink RX6 127 yJ0_length_8abf5, Cond.instanceMethod yJ0_length_8abf5, Cond.selects RJ0 yJ0_length_8abf5 yJ0_length_8abf5, Cond.initialized RJ0, Cond.code yJ0_length_8abf5 cJ0_length_8abf5 1 (some .int), Cond.fieldLink RJ0 9 "java/lang/String" "value" "[B", Cond.methodLink RJ0 335 yJ0_coder_7d493, Cond.instanceMethod yJ0_coder_7d493, Cond.selects RJ0 yJ0_coder_7d493 yJ0_coder_7d493, Cond.code yJ0_coder_7d493 cJ0_coder_7d493 1 (some .byte), Cond.fieldLink RJ0 38 "java/lang/String" "COMPACT_STRINGS" "Z", Cond.fieldLink RJ0 15 "java/lang/String" "coder" "B", Cond.methodLink RX6 133 yJ0_charAt_5068e, Cond.instanceMethod yJ0_charAt_5068e, Cond.selects RJ0 yJ0_charAt_5068e yJ0_charAt_5068e, Cond.code yJ0_charAt_5068e cJ0_charAt_5068e 2 (some .char), Cond.methodLink RJ0 492 yJ0_isLatin1_aae02, Cond.instanceMethod yJ0_isLatin1_aae02, Cond.selects RJ0 yJ0_isLatin1_aae02 yJ0_isLatin1_aae02, Cond.code yJ0_isLatin1_aae02 cJ0_isLatin1_aae02 1 (some .boolean), Cond.methodLink RJ0 495 yJ1_charAt_3b067]
def wsX7_town_r5 : List Cond := [Cond.static yJ1_charAt_3b067, Cond.initialized RJ1, Cond.code yJ1_charAt_3b067 cJ1_charAt_3b067 2 (some .char), Cond.methodLink RJ1 9 yJ0_checkIndex_df160, Cond.static yJ0_checkIndex_df160, Cond.code yJ0_checkIndex_df160 cJ0_checkIndex_df160 2 none, Cond.fieldLink RJ0 1053 "jdk/internal/util/Preconditions" "SIOOBE_FORMATTER" "Ljava/util/function/BiFunction;", Cond.methodLink RJ0 1059 yJ3_checkIndex_8e157, Cond.static yJ3_checkIndex_8e157, Cond.initialized RJ3, Cond.code yJ3_checkIndex_8e157 cJ3_checkIndex_8e157 3 (some .int), Cond.methodLink RJ0 498 yJ2_charAt_3b067, Cond.static yJ2_charAt_3b067, Cond.initialized RJ2, Cond.code yJ2_charAt_3b067 cJ2_charAt_3b067 2 (some .char), Cond.methodLink RJ2 67 yJ2_checkIndex_2214a, Cond.static yJ2_checkIndex_2214a, Cond.code yJ2_checkIndex_2214a cJ2_checkIndex_2214a 2 none, Cond.methodLink RJ2 48 yJ2_length_9d52b, Cond.static yJ2_length_9d52b, Cond.code yJ2_length_9d52b cJ2_length_9d52b 1 (some .int), Cond.methodLink RJ2 414 yJ0_checkIndex_df160, Cond.methodLink RJ2 71 yJ2_getChar_3b067, Cond.static yJ2_getChar_3b067]
def wsX7_town_r6 : List Cond := [Cond.code yJ2_getChar_3b067 cJ2_getChar_3b067 2 (some .char), Cond.fieldLink RJ2 44 "java/lang/StringUTF16" "$assertionsDisabled" "Z", Cond.fieldLink RJ2 59 "java/lang/StringUTF16" "HI_BYTE_SHIFT" "I", Cond.fieldLink RJ2 63 "java/lang/StringUTF16" "LO_BYTE_SHIFT" "I", Cond.methodLink RX6 44 yX6_readPlaces, Cond.instanceMethod yX6_readPlaces, Cond.selects RX6 yX6_readPlaces yX6_readPlaces, Cond.code yX6_readPlaces cX6_readPlaces 3 none, Cond.fieldLink RX6 80 "ShowsWhereNobodyIs$Town" "places" "I", Cond.methodLink RX6 82 yX6_takeNumber, Cond.instanceMethod yX6_takeNumber, Cond.selects RX6 yX6_takeNumber yX6_takeNumber, Cond.code yX6_takeNumber cX6_takeNumber 3 (some .int), Cond.methodLink RX6 49 yX6_readWay, Cond.instanceMethod yX6_readWay, Cond.selects RX6 yX6_readWay yX6_readWay, Cond.code yX6_readWay cX6_readWay 5 none, Cond.methodLink RX6 86 yX5_setWay, Cond.instanceMethod yX5_setWay, Cond.selects RX5 yX5_setWay yX5_setWay, Cond.code yX5_setWay cX5_setWay 4 none, Cond.methodLink RX6 62 yX6_readPerson, Cond.instanceMethod yX6_readPerson, Cond.selects RX6 yX6_readPerson yX6_readPerson]
def wsX7_town_r7 : List Cond := [Cond.code yX6_readPerson cX6_readPerson 6 none, Cond.methodLink RX6 90 yX5_addPerson, Cond.instanceMethod yX5_addPerson, Cond.selects RX5 yX5_addPerson yX5_addPerson, Cond.code yX5_addPerson cX5_addPerson 6 (some .int), Cond.methodLink RX6 67 yX6_readAt, Cond.instanceMethod yX6_readAt, Cond.selects RX6 yX6_readAt yX6_readAt, Cond.code yX6_readAt cX6_readAt 4 none, Cond.fieldLink RX6 94 "ShowsWhereNobodyIs$Town" "at" "[I", Cond.methodLink RX6 72 yX6_readHour, Cond.instanceMethod yX6_readHour, Cond.selects RX6 yX6_readHour yX6_readHour, Cond.code yX6_readHour cX6_readHour 3 none, Cond.fieldLink RX6 97 "ShowsWhereNobodyIs$Town" "hour" "I", Cond.methodLink RX6 77 yX6_readChance, Cond.instanceMethod yX6_readChance, Cond.selects RX6 yX6_readChance yX6_readChance, Cond.code yX6_readChance cX6_readChance 3 none, Cond.fieldLink RX6 99 "ShowsWhereNobodyIs$Town" "chance" "I", Cond.methodLink RX7 73 yX7_refuse, Cond.instanceMethod yX7_refuse, Cond.selects RX7 yX7_refuse yX7_refuse, Cond.initialized RX7]
def wsX7_town_r8 : List Cond := [Cond.code yX7_refuse cX7_refuse 3 (some .int), Cond.fieldLink RX7 65 "ShowsWhereNobodyIs" "refusals" "[I", Cond.methodLink RX7 165 yX5_measure, Cond.instanceMethod yX5_measure, Cond.selects RX5 yX5_measure yX5_measure, Cond.code yX5_measure cX5_measure 2 none, Cond.methodLink RX5 64 yX5_measureFrom, Cond.instanceMethod yX5_measureFrom, Cond.selects RX5 yX5_measureFrom yX5_measureFrom, Cond.code yX5_measureFrom cX5_measureFrom 7 none, Cond.static yX7_hasBit, Cond.code yX7_hasBit cX7_hasBit 2 (some .boolean), Cond.methodLink RX5 72 yX5_spread, Cond.instanceMethod yX5_spread, Cond.selects RX5 yX5_spread yX5_spread, Cond.code yX5_spread cX5_spread 4 (some .int)]
def wsX7_town : List Cond := .code yX7_town cX7_town 2 (some .int) :: ((wsX7_town_r1 ++ (wsX7_town_r2 ++ (wsX7_town_r3 ++ (wsX7_town_r4 ++ (wsX7_town_r5 ++ (wsX7_town_r6 ++ (wsX7_town_r7 ++ wsX7_town_r8))))))) ++ wsX70 ++ wsX40 ++ wsX60 ++ wsX50)
def wsX7_personOf : List Cond := .code yX7_personOf cX7_personOf 3 (some .int) :: ([.fieldLink RX7 10 "ShowsWhereNobodyIs" "now" "LShowsWhereNobodyIs$Town;", .fieldLink RX7 137 "ShowsWhereNobodyIs$Town" "kind" "[I", .fieldLink RX7 143 "ShowsWhereNobodyIs$Town" "a" "[I", .fieldLink RX7 178 "ShowsWhereNobodyIs$Town" "home" "[I", .fieldLink RX7 181 "ShowsWhereNobodyIs$Town" "aim" "[I", .fieldLink RX7 149 "ShowsWhereNobodyIs$Town" "at" "[I", .methodLink RX7 113 yX7_isPerson, .instanceMethod yX7_isPerson, .selects RX7 yX7_isPerson yX7_isPerson, .initialized RX7, .code yX7_isPerson cX7_isPerson 2 (some .boolean), .fieldLink RX7 171 "ShowsWhereNobodyIs$Town" "people" "I", .methodLink RX7 73 yX7_refuse, .instanceMethod yX7_refuse, .selects RX7 yX7_refuse yX7_refuse, .code yX7_refuse cX7_refuse 3 (some .int), .fieldLink RX7 65 "ShowsWhereNobodyIs" "refusals" "[I", .methodLink RX7 209 yX5_darkens, .instanceMethod yX5_darkens, .selects RX5 yX5_darkens yX5_darkens, .initialized RX5, .code yX5_darkens cX5_darkens 2 (some .boolean), .fieldLink RX5 22 "ShowsWhereNobodyIs$Town" "kind" "[I"] ++ wsX70 ++ wsX50)
def wsX7_isWay : List Cond := .code yX7_isWay cX7_isWay 3 (some .int) :: ([.fieldLink RX7 10 "ShowsWhereNobodyIs" "now" "LShowsWhereNobodyIs$Town;", .methodLink RX7 155 yX7_areTwoPlaces, .instanceMethod yX7_areTwoPlaces, .selects RX7 yX7_areTwoPlaces yX7_areTwoPlaces, .initialized RX7, .code yX7_areTwoPlaces cX7_areTwoPlaces 3 (some .boolean), .methodLink RX7 168 yX7_isPlace, .instanceMethod yX7_isPlace, .selects RX7 yX7_isPlace yX7_isPlace, .code yX7_isPlace cX7_isPlace 2 (some .boolean), .fieldLink RX7 152 "ShowsWhereNobodyIs$Town" "places" "I", .methodLink RX7 73 yX7_refuse, .instanceMethod yX7_refuse, .selects RX7 yX7_refuse yX7_refuse, .code yX7_refuse cX7_refuse 3 (some .int), .fieldLink RX7 65 "ShowsWhereNobodyIs" "refusals" "[I", .methodLink RX7 158 yX5_hasWay, .instanceMethod yX5_hasWay, .selects RX5 yX5_hasWay yX5_hasWay, .initialized RX5, .code yX5_hasWay cX5_hasWay 3 (some .boolean), .fieldLink RX5 15 "ShowsWhereNobodyIs$Town" "ways" "[I"] ++ wsX70 ++ wsX50)
def wsX7_far : List Cond := .code yX7_far cX7_far 3 (some .int) :: ([.fieldLink RX7 10 "ShowsWhereNobodyIs" "now" "LShowsWhereNobodyIs$Town;", .methodLink RX7 168 yX7_isPlace, .instanceMethod yX7_isPlace, .selects RX7 yX7_isPlace yX7_isPlace, .initialized RX7, .code yX7_isPlace cX7_isPlace 2 (some .boolean), .fieldLink RX7 152 "ShowsWhereNobodyIs$Town" "places" "I", .methodLink RX7 73 yX7_refuse, .instanceMethod yX7_refuse, .selects RX7 yX7_refuse yX7_refuse, .code yX7_refuse cX7_refuse 3 (some .int), .fieldLink RX7 65 "ShowsWhereNobodyIs" "refusals" "[I", .methodLink RX7 212 yX5_distance, .instanceMethod yX5_distance, .selects RX5 yX5_distance yX5_distance, .initialized RX5, .code yX5_distance cX5_distance 3 (some .int), .fieldLink RX5 19 "ShowsWhereNobodyIs$Town" "distances" "[I"] ++ wsX70 ++ wsX50)
def wsX7_isAhead : List Cond := .code yX7_isAhead cX7_isAhead 1 (some .boolean) :: ([])
def wsX7_where_r1 : List Cond := [Cond.fieldLink RX7 16 "ShowsWhereNobodyIs" "future" "LShowsWhereNobodyIs$Town;", Cond.fieldLink RX7 149 "ShowsWhereNobodyIs$Town" "at" "[I", Cond.methodLink RX7 113 yX7_isPerson, Cond.instanceMethod yX7_isPerson, Cond.selects RX7 yX7_isPerson yX7_isPerson, Cond.initialized RX7, Cond.code yX7_isPerson cX7_isPerson 2 (some .boolean), Cond.fieldLink RX7 10 "ShowsWhereNobodyIs" "now" "LShowsWhereNobodyIs$Town;", Cond.fieldLink RX7 171 "ShowsWhereNobodyIs$Town" "people" "I", Cond.methodLink RX7 215 yX7_isAhead, Cond.static yX7_isAhead, Cond.code yX7_isAhead cX7_isAhead 1 (some .boolean), Cond.methodLink RX7 73 yX7_refuse, Cond.instanceMethod yX7_refuse, Cond.selects RX7 yX7_refuse yX7_refuse, Cond.code yX7_refuse cX7_refuse 3 (some .int), Cond.fieldLink RX7 65 "ShowsWhereNobodyIs" "refusals" "[I", Cond.methodLink RX7 146 yX7_lookAhead, Cond.instanceMethod yX7_lookAhead, Cond.selects RX7 yX7_lookAhead yX7_lookAhead, Cond.code yX7_lookAhead cX7_lookAhead 2 none, Cond.methodLink RX7 198 yX5_become, Cond.instanceMethod yX5_become, Cond.selects RX5 yX5_become yX5_become]
def wsX7_where_r2 : List Cond := [Cond.initialized RX5, Cond.code yX5_become cX5_become 2 none, Cond.fieldLink RX5 9 "ShowsWhereNobodyIs$Town" "places" "I", Cond.fieldLink RX5 15 "ShowsWhereNobodyIs$Town" "ways" "[I", Cond.methodLink RX5 46 arraycopyName, Cond.native arraycopyName, Cond.static arraycopyName, Cond.initialized "java/lang/System", Cond.fieldLink RX5 19 "ShowsWhereNobodyIs$Town" "distances" "[I", Cond.fieldLink RX5 52 "ShowsWhereNobodyIs$Town" "people" "I", Cond.fieldLink RX5 22 "ShowsWhereNobodyIs$Town" "kind" "[I", Cond.fieldLink RX5 25 "ShowsWhereNobodyIs$Town" "a" "[I", Cond.fieldLink RX5 28 "ShowsWhereNobodyIs$Town" "home" "[I", Cond.fieldLink RX5 31 "ShowsWhereNobodyIs$Town" "aim" "[I", Cond.fieldLink RX5 34 "ShowsWhereNobodyIs$Town" "at" "[I", Cond.fieldLink RX5 55 "ShowsWhereNobodyIs$Town" "hour" "I", Cond.fieldLink RX5 37 "ShowsWhereNobodyIs$Town" "chance" "I", Cond.fieldLink RX5 40 "ShowsWhereNobodyIs$Town" "seed" "I", Cond.methodLink RX7 306 yX5_passHours, Cond.instanceMethod yX5_passHours, Cond.selects RX5 yX5_passHours yX5_passHours, Cond.code yX5_passHours cX5_passHours 3 none, Cond.methodLink RX5 90 yX5_passHour, Cond.instanceMethod yX5_passHour]
def wsX7_where_r3 : List Cond := [Cond.selects RX5 yX5_passHour yX5_passHour, Cond.code yX5_passHour cX5_passHour 5 (some .boolean), Cond.methodLink RX5 83 yX5_darkPlaces, Cond.instanceMethod yX5_darkPlaces, Cond.selects RX5 yX5_darkPlaces yX5_darkPlaces, Cond.code yX5_darkPlaces cX5_darkPlaces 3 (some .int), Cond.methodLink RX5 79 yX5_darkens, Cond.instanceMethod yX5_darkens, Cond.selects RX5 yX5_darkens yX5_darkens, Cond.code yX5_darkens cX5_darkens 2 (some .boolean), Cond.methodLink RX5 94 yX5_goesTo, Cond.instanceMethod yX5_goesTo, Cond.selects RX5 yX5_goesTo yX5_goesTo, Cond.code yX5_goesTo cX5_goesTo 4 (some .int), Cond.methodLink RX5 100 yX5_isDay, Cond.instanceMethod yX5_isDay, Cond.selects RX5 yX5_isDay yX5_isDay, Cond.code yX5_isDay cX5_isDay 2 (some .boolean), Cond.methodLink RX5 103 yX5_stepToward, Cond.instanceMethod yX5_stepToward, Cond.selects RX5 yX5_stepToward yX5_stepToward, Cond.code yX5_stepToward cX5_stepToward 5 (some .int), Cond.methodLink RX5 75 yX5_distance, Cond.instanceMethod yX5_distance]
def wsX7_where_r4 : List Cond := [Cond.selects RX5 yX5_distance yX5_distance, Cond.code yX5_distance cX5_distance 3 (some .int), Cond.methodLink RX5 109 yX5_hasWay, Cond.instanceMethod yX5_hasWay, Cond.selects RX5 yX5_hasWay yX5_hasWay, Cond.code yX5_hasWay cX5_hasWay 3 (some .boolean), Cond.methodLink RX5 106 yX5_walkRound, Cond.instanceMethod yX5_walkRound, Cond.selects RX5 yX5_walkRound yX5_walkRound, Cond.code yX5_walkRound cX5_walkRound 3 (some .int), Cond.static yX7_hasBit, Cond.code yX7_hasBit cX7_hasBit 2 (some .boolean), Cond.methodLink RX5 97 yX5_endHour, Cond.instanceMethod yX5_endHour, Cond.selects RX5 yX5_endHour yX5_endHour, Cond.code yX5_endHour cX5_endHour 1 none, Cond.methodLink RX5 112 Lib.Math.min.name, Cond.static Lib.Math.min.name, Cond.initialized "java/lang/Math", Cond.code Lib.Math.min.name Lib.Math.min.code 2 (some .int)]
def wsX7_where : List Cond := .code yX7_where cX7_where 3 (some .int) :: ((wsX7_where_r1 ++ (wsX7_where_r2 ++ (wsX7_where_r3 ++ wsX7_where_r4))) ++ wsX70 ++ wsX50)
def wsX7_shines_r1 : List Cond := [Cond.fieldLink RX7 16 "ShowsWhereNobodyIs" "future" "LShowsWhereNobodyIs$Town;", Cond.fieldLink RX7 152 "ShowsWhereNobodyIs$Town" "places" "I", Cond.methodLink RX7 215 yX7_isAhead, Cond.static yX7_isAhead, Cond.initialized RX7, Cond.code yX7_isAhead cX7_isAhead 1 (some .boolean), Cond.methodLink RX7 73 yX7_refuse, Cond.instanceMethod yX7_refuse, Cond.selects RX7 yX7_refuse yX7_refuse, Cond.code yX7_refuse cX7_refuse 3 (some .int), Cond.fieldLink RX7 65 "ShowsWhereNobodyIs" "refusals" "[I", Cond.methodLink RX7 146 yX7_lookAhead, Cond.instanceMethod yX7_lookAhead, Cond.selects RX7 yX7_lookAhead yX7_lookAhead, Cond.code yX7_lookAhead cX7_lookAhead 2 none, Cond.fieldLink RX7 10 "ShowsWhereNobodyIs" "now" "LShowsWhereNobodyIs$Town;", Cond.methodLink RX7 198 yX5_become, Cond.instanceMethod yX5_become, Cond.selects RX5 yX5_become yX5_become, Cond.initialized RX5, Cond.code yX5_become cX5_become 2 none, Cond.fieldLink RX5 9 "ShowsWhereNobodyIs$Town" "places" "I", Cond.fieldLink RX5 15 "ShowsWhereNobodyIs$Town" "ways" "[I", Cond.methodLink RX5 46 arraycopyName]
def wsX7_shines_r2 : List Cond := [Cond.native arraycopyName, Cond.static arraycopyName, Cond.initialized "java/lang/System", Cond.fieldLink RX5 19 "ShowsWhereNobodyIs$Town" "distances" "[I", Cond.fieldLink RX5 52 "ShowsWhereNobodyIs$Town" "people" "I", Cond.fieldLink RX5 22 "ShowsWhereNobodyIs$Town" "kind" "[I", Cond.fieldLink RX5 25 "ShowsWhereNobodyIs$Town" "a" "[I", Cond.fieldLink RX5 28 "ShowsWhereNobodyIs$Town" "home" "[I", Cond.fieldLink RX5 31 "ShowsWhereNobodyIs$Town" "aim" "[I", Cond.fieldLink RX5 34 "ShowsWhereNobodyIs$Town" "at" "[I", Cond.fieldLink RX5 55 "ShowsWhereNobodyIs$Town" "hour" "I", Cond.fieldLink RX5 37 "ShowsWhereNobodyIs$Town" "chance" "I", Cond.fieldLink RX5 40 "ShowsWhereNobodyIs$Town" "seed" "I", Cond.methodLink RX7 306 yX5_passHours, Cond.instanceMethod yX5_passHours, Cond.selects RX5 yX5_passHours yX5_passHours, Cond.code yX5_passHours cX5_passHours 3 none, Cond.methodLink RX5 90 yX5_passHour, Cond.instanceMethod yX5_passHour, Cond.selects RX5 yX5_passHour yX5_passHour, Cond.code yX5_passHour cX5_passHour 5 (some .boolean), Cond.methodLink RX5 83 yX5_darkPlaces, Cond.instanceMethod yX5_darkPlaces, Cond.selects RX5 yX5_darkPlaces yX5_darkPlaces]
def wsX7_shines_r3 : List Cond := [Cond.code yX5_darkPlaces cX5_darkPlaces 3 (some .int), Cond.methodLink RX5 79 yX5_darkens, Cond.instanceMethod yX5_darkens, Cond.selects RX5 yX5_darkens yX5_darkens, Cond.code yX5_darkens cX5_darkens 2 (some .boolean), Cond.methodLink RX5 94 yX5_goesTo, Cond.instanceMethod yX5_goesTo, Cond.selects RX5 yX5_goesTo yX5_goesTo, Cond.code yX5_goesTo cX5_goesTo 4 (some .int), Cond.methodLink RX5 100 yX5_isDay, Cond.instanceMethod yX5_isDay, Cond.selects RX5 yX5_isDay yX5_isDay, Cond.code yX5_isDay cX5_isDay 2 (some .boolean), Cond.methodLink RX5 103 yX5_stepToward, Cond.instanceMethod yX5_stepToward, Cond.selects RX5 yX5_stepToward yX5_stepToward, Cond.code yX5_stepToward cX5_stepToward 5 (some .int), Cond.methodLink RX5 75 yX5_distance, Cond.instanceMethod yX5_distance, Cond.selects RX5 yX5_distance yX5_distance, Cond.code yX5_distance cX5_distance 3 (some .int), Cond.methodLink RX5 109 yX5_hasWay, Cond.instanceMethod yX5_hasWay, Cond.selects RX5 yX5_hasWay yX5_hasWay]
def wsX7_shines_r4 : List Cond := [Cond.code yX5_hasWay cX5_hasWay 3 (some .boolean), Cond.methodLink RX5 106 yX5_walkRound, Cond.instanceMethod yX5_walkRound, Cond.selects RX5 yX5_walkRound yX5_walkRound, Cond.code yX5_walkRound cX5_walkRound 3 (some .int), Cond.static yX7_hasBit, Cond.code yX7_hasBit cX7_hasBit 2 (some .boolean), Cond.methodLink RX5 97 yX5_endHour, Cond.instanceMethod yX5_endHour, Cond.selects RX5 yX5_endHour yX5_endHour, Cond.code yX5_endHour cX5_endHour 1 none, Cond.methodLink RX5 112 Lib.Math.min.name, Cond.static Lib.Math.min.name, Cond.initialized "java/lang/Math", Cond.code Lib.Math.min.name Lib.Math.min.code 2 (some .int), Cond.methodLink RX7 218 yX5_shiningPlaces, Cond.instanceMethod yX5_shiningPlaces, Cond.selects RX5 yX5_shiningPlaces yX5_shiningPlaces, Cond.code yX5_shiningPlaces cX5_shiningPlaces 1 (some .int), Cond.methodLink RX7 221 yX5_shiningCount, Cond.instanceMethod yX5_shiningCount, Cond.selects RX5 yX5_shiningCount yX5_shiningCount, Cond.code yX5_shiningCount cX5_shiningCount 1 (some .int), Cond.methodLink RX5 87 yX5_shiningPlaces]
def wsX7_shines_r5 : List Cond := [Cond.methodLink RX5 58 yJ6_bitCount_0f7a4, Cond.static yJ6_bitCount_0f7a4, Cond.initialized RJ6, Cond.code yJ6_bitCount_0f7a4 cJ6_bitCount_0f7a4 1 (some .int), Cond.constant RJ6 265 (1431655765), Cond.constant RJ6 266 (858993459), Cond.constant RJ6 267 (252645135)]
def wsX7_shines : List Cond := .code yX7_shines cX7_shines 3 (some .int) :: ((wsX7_shines_r1 ++ (wsX7_shines_r2 ++ (wsX7_shines_r3 ++ (wsX7_shines_r4 ++ wsX7_shines_r5)))) ++ wsX70 ++ wsX50)
def wsX7_crowd_r1 : List Cond := [Cond.fieldLink RX7 16 "ShowsWhereNobodyIs" "future" "LShowsWhereNobodyIs$Town;", Cond.methodLink RX7 168 yX7_isPlace, Cond.instanceMethod yX7_isPlace, Cond.selects RX7 yX7_isPlace yX7_isPlace, Cond.initialized RX7, Cond.code yX7_isPlace cX7_isPlace 2 (some .boolean), Cond.fieldLink RX7 10 "ShowsWhereNobodyIs" "now" "LShowsWhereNobodyIs$Town;", Cond.fieldLink RX7 152 "ShowsWhereNobodyIs$Town" "places" "I", Cond.methodLink RX7 215 yX7_isAhead, Cond.static yX7_isAhead, Cond.code yX7_isAhead cX7_isAhead 1 (some .boolean), Cond.methodLink RX7 73 yX7_refuse, Cond.instanceMethod yX7_refuse, Cond.selects RX7 yX7_refuse yX7_refuse, Cond.code yX7_refuse cX7_refuse 3 (some .int), Cond.fieldLink RX7 65 "ShowsWhereNobodyIs" "refusals" "[I", Cond.methodLink RX7 146 yX7_lookAhead, Cond.instanceMethod yX7_lookAhead, Cond.selects RX7 yX7_lookAhead yX7_lookAhead, Cond.code yX7_lookAhead cX7_lookAhead 2 none, Cond.methodLink RX7 198 yX5_become, Cond.instanceMethod yX5_become, Cond.selects RX5 yX5_become yX5_become, Cond.initialized RX5]
def wsX7_crowd_r2 : List Cond := [Cond.code yX5_become cX5_become 2 none, Cond.fieldLink RX5 9 "ShowsWhereNobodyIs$Town" "places" "I", Cond.fieldLink RX5 15 "ShowsWhereNobodyIs$Town" "ways" "[I", Cond.methodLink RX5 46 arraycopyName, Cond.native arraycopyName, Cond.static arraycopyName, Cond.initialized "java/lang/System", Cond.fieldLink RX5 19 "ShowsWhereNobodyIs$Town" "distances" "[I", Cond.fieldLink RX5 52 "ShowsWhereNobodyIs$Town" "people" "I", Cond.fieldLink RX5 22 "ShowsWhereNobodyIs$Town" "kind" "[I", Cond.fieldLink RX5 25 "ShowsWhereNobodyIs$Town" "a" "[I", Cond.fieldLink RX5 28 "ShowsWhereNobodyIs$Town" "home" "[I", Cond.fieldLink RX5 31 "ShowsWhereNobodyIs$Town" "aim" "[I", Cond.fieldLink RX5 34 "ShowsWhereNobodyIs$Town" "at" "[I", Cond.fieldLink RX5 55 "ShowsWhereNobodyIs$Town" "hour" "I", Cond.fieldLink RX5 37 "ShowsWhereNobodyIs$Town" "chance" "I", Cond.fieldLink RX5 40 "ShowsWhereNobodyIs$Town" "seed" "I", Cond.methodLink RX7 306 yX5_passHours, Cond.instanceMethod yX5_passHours, Cond.selects RX5 yX5_passHours yX5_passHours, Cond.code yX5_passHours cX5_passHours 3 none, Cond.methodLink RX5 90 yX5_passHour, Cond.instanceMethod yX5_passHour, Cond.selects RX5 yX5_passHour yX5_passHour]
def wsX7_crowd_r3 : List Cond := [Cond.code yX5_passHour cX5_passHour 5 (some .boolean), Cond.methodLink RX5 83 yX5_darkPlaces, Cond.instanceMethod yX5_darkPlaces, Cond.selects RX5 yX5_darkPlaces yX5_darkPlaces, Cond.code yX5_darkPlaces cX5_darkPlaces 3 (some .int), Cond.methodLink RX5 79 yX5_darkens, Cond.instanceMethod yX5_darkens, Cond.selects RX5 yX5_darkens yX5_darkens, Cond.code yX5_darkens cX5_darkens 2 (some .boolean), Cond.methodLink RX5 94 yX5_goesTo, Cond.instanceMethod yX5_goesTo, Cond.selects RX5 yX5_goesTo yX5_goesTo, Cond.code yX5_goesTo cX5_goesTo 4 (some .int), Cond.methodLink RX5 100 yX5_isDay, Cond.instanceMethod yX5_isDay, Cond.selects RX5 yX5_isDay yX5_isDay, Cond.code yX5_isDay cX5_isDay 2 (some .boolean), Cond.methodLink RX5 103 yX5_stepToward, Cond.instanceMethod yX5_stepToward, Cond.selects RX5 yX5_stepToward yX5_stepToward, Cond.code yX5_stepToward cX5_stepToward 5 (some .int), Cond.methodLink RX5 75 yX5_distance, Cond.instanceMethod yX5_distance, Cond.selects RX5 yX5_distance yX5_distance]
def wsX7_crowd_r4 : List Cond := [Cond.code yX5_distance cX5_distance 3 (some .int), Cond.methodLink RX5 109 yX5_hasWay, Cond.instanceMethod yX5_hasWay, Cond.selects RX5 yX5_hasWay yX5_hasWay, Cond.code yX5_hasWay cX5_hasWay 3 (some .boolean), Cond.methodLink RX5 106 yX5_walkRound, Cond.instanceMethod yX5_walkRound, Cond.selects RX5 yX5_walkRound yX5_walkRound, Cond.code yX5_walkRound cX5_walkRound 3 (some .int), Cond.static yX7_hasBit, Cond.code yX7_hasBit cX7_hasBit 2 (some .boolean), Cond.methodLink RX5 97 yX5_endHour, Cond.instanceMethod yX5_endHour, Cond.selects RX5 yX5_endHour yX5_endHour, Cond.code yX5_endHour cX5_endHour 1 none, Cond.methodLink RX5 112 Lib.Math.min.name, Cond.static Lib.Math.min.name, Cond.initialized "java/lang/Math", Cond.code Lib.Math.min.name Lib.Math.min.code 2 (some .int), Cond.methodLink RX7 224 yX5_peopleIn, Cond.instanceMethod yX5_peopleIn, Cond.selects RX5 yX5_peopleIn yX5_peopleIn, Cond.code yX5_peopleIn cX5_peopleIn 4 (some .int), Cond.methodLink RX7 227 yX5_darkeningIn]
def wsX7_crowd_r5 : List Cond := [Cond.instanceMethod yX5_darkeningIn, Cond.selects RX5 yX5_darkeningIn yX5_darkeningIn, Cond.code yX5_darkeningIn cX5_darkeningIn 4 (some .int)]
