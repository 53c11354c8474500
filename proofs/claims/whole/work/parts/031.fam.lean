abbrev oX0 (f0 : Int32) (f1 : Int32) : va_E := .inr (0, [.int f0, .int f1])
abbrev oX1 (f0 : Int32) (f1 : Nat) : va_E := .inr (1, [.int f0, .ref f1])
abbrev oX2 (f0 : Int32) (f1 : Int32) (f2 : Nat) : va_E := .inr (2, [.int f0, .int f1, .ref f2])
abbrev oX3 (f0 : Nat) : va_E := .inr (3, [.ref f0])
abbrev oX4 (f0 : Nat) (f1 : Int32) : va_E := .inr (4, [.ref f0, .int f1])
abbrev oX5 (f0 : Int32) (f1 : Nat) (f2 : Nat) (f3 : Int32) (f4 : Nat) (f5 : Nat) (f6 : Nat) (f7 : Nat) (f8 : Nat) (f9 : Int32) (f10 : Int32) (f11 : Int32) : va_E := .inr (5, [.int f0, .ref f1, .ref f2, .int f3, .ref f4, .ref f5, .ref f6, .ref f7, .ref f8, .int f9, .int f10, .int f11])
abbrev oX6 (f0 : Nat) (f1 : Int32) (f2 : Int32) (f3 : Int32) (f4 : Int32) (f5 : Int32) : va_E := .inr (6, [.ref f0, .int f1, .int f2, .int f3, .int f4, .int f5])
abbrev oX7 (f0 : Nat) (f1 : Nat) (f2 : Nat) (f3 : Nat) (f4 : Int32) (f5 : Nat) (f6 : Nat) (f7 : Nat) (f8 : Nat) (f9 : Nat) (f10 : Nat) (f11 : Nat) : va_E := .inr (7, [.ref f0, .ref f1, .ref f2, .ref f3, .int f4, .ref f5, .ref f6, .ref f7, .ref f8, .ref f9, .ref f10, .ref f11])
abbrev oX8 (f0 : Nat) (f1 : Nat) (f2 : Nat) (f3 : Nat) (f4 : Nat) (f5 : Nat) (f6 : Nat) (f7 : Int32) (f8 : Nat) (f9 : Int32) (f10 : Nat) (f11 : Int32) (f12 : Nat) (f13 : Nat) (f14 : Nat) (f15 : Nat) (f16 : Nat) (f17 : Int32) (f18 : Int32) (f19 : Int32) (f20 : Value) (f21 : Value) (f22 : Int32) (f23 : Int32) (f24 : Int32) (f25 : Int32) (f26 : Int32) (f27 : Nat) (f28 : Int32) (f29 : Nat) (f30 : Nat) (f31 : Nat) (f32 : Int32) (f33 : Int32) (f34 : Nat) (f35 : Nat) (f36 : Nat) : va_E := .inr (8, [.ref f0, .ref f1, .ref f2, .ref f3, .ref f4, .ref f5, .ref f6, .int f7, .ref f8, .int f9, .ref f10, .int f11, .ref f12, .ref f13, .ref f14, .ref f15, .ref f16, .int f17, .int f18, .int f19, f20, f21, .int f22, .int f23, .int f24, .int f25, .int f26, .ref f27, .int f28, .ref f29, .ref f30, .ref f31, .int f32, .int f33, .ref f34, .ref f35, .ref f36])
/-! ===== families of cells: n cells, their addresses and contents by their numbers ===== -/
theorem xP_mem {D : va_G} {cl : List vw_C} {ws : va_W} {H : Heap} (h : va_P D cl ws H) {q : Nat × va_E} (hq : q ∈ ws) : va_at D cl q H := by
  obtain ⟨k, hk⟩ := List.getElem?_of_mem hq
  exact h k q hk
theorem xP_of {D : va_G} {cl : List vw_C} {ws : va_W} {H : Heap} (h : ∀ q ∈ ws, va_at D cl q H) : va_P D cl ws H := fun k q hk => h q (List.mem_of_getElem? hk)
theorem xD_fst {A : Nat → Prop} {ws ws' : va_W} (h : va_D A ws) (he : ws'.map Prod.fst = ws.map Prod.fst) : va_D A ws' := by
  have key : ∀ (k : Nat) (q : Nat × va_E), ws'[k]? = some q → ∃ e, ws[k]? = some (q.1, e) := by
    intro k q hq
    have h1 : (ws'.map Prod.fst)[k]? = some q.1 := by rw [List.getElem?_map, hq]; rfl
    rw [he, List.getElem?_map] at h1
    obtain ⟨c, hc, hc2⟩ := Option.map_eq_some_iff.mp h1
    exact ⟨c.2, by rw [hc]; congr 1; exact Prod.ext hc2 rfl⟩
  refine ⟨fun i j x y hx hy hxy => ?_, fun k q hq => ?_⟩
  · obtain ⟨e1, h1⟩ := key i x hx
    obtain ⟨e2, h2⟩ := key j y hy
    exact h.1 i j _ _ h1 h2 hxy
  · obtain ⟨e1, h1⟩ := key k q hq
    exact h.2 k (q.1, e1) h1
/-- what a call leaves: each cell is one that came back, or one of the old ones whose address the callee did not have -/
theorem xjoinG {A0 : Nat → Prop} {D : va_G} {cl : List vw_C} {ws ws' wc w1 : va_W} {H H1 : Heap} (hP : va_P D cl ws H) (hD : va_D A0 ws) (he : ws'.map Prod.fst = ws.map Prod.fst) (hq : ∀ q ∈ ws', q ∈ w1 ∨ (q ∈ ws ∧ ∀ e, (q.1, e) ∉ wc)) (hk1 : ∀ q : Nat, q < H.size → ¬ va_A wc H.size q → H1[q]? = H[q]?) (hP1 : va_P D cl w1 H1) : va_P D cl ws' H1 ∧ va_D A0 ws' := by
  refine ⟨xP_of fun q hm => ?_, xD_fst hD he⟩
  rcases hq q hm with h | ⟨h, hn⟩
  · exact xP_mem hP1 h
  · have h0 := xP_mem hP h
    refine h0.kept (hk1 q.1 h0.lt ?_)
    rintro (⟨j, ee, hj⟩ | hj)
    · exact hn ee (List.mem_of_getElem? hj)
    · exact absurd hj (Nat.not_le.mpr h0.lt)
def xfam (n : Nat) (ad : Nat → Nat) (F : Nat → va_E) : va_W := (List.range n).map (fun i => (ad i, F i))
theorem xfam_len {n : Nat} {ad : Nat → Nat} {F : Nat → va_E} : (xfam n ad F).length = n := by simp [xfam]
theorem xfam_get {n : Nat} {ad : Nat → Nat} {F : Nat → va_E} {i : Nat} (h : i < n) : (xfam n ad F)[i]? = some (ad i, F i) := by simp [xfam, h]
theorem xfam_fst {n : Nat} {ad : Nat → Nat} {F G : Nat → va_E} : (xfam n ad F).map Prod.fst = (xfam n ad G).map Prod.fst := by simp [xfam, List.map_map, Function.comp_def]
theorem xfam_mem {n : Nat} {ad : Nat → Nat} {F : Nat → va_E} {q : Nat × va_E} : q ∈ xfam n ad F ↔ ∃ i, i < n ∧ q = (ad i, F i) := by
  simp only [xfam, List.mem_map, List.mem_range]
  constructor
  · rintro ⟨i, h, rfl⟩; exact ⟨i, h, rfl⟩
  · rintro ⟨i, h, rfl⟩; exact ⟨i, h, rfl⟩
theorem xfam_set {n : Nat} {ad : Nat → Nat} {F : Nat → va_E} {i : Nat} {e : va_E} (h : i < n) : (xfam n ad F).set i (ad i, e) = xfam n ad (va_up F i e) := by
  apply List.ext_getElem?
  intro j
  rw [List.getElem?_set]
  by_cases hj : j < n
  · rw [xfam_get hj, xfam_get hj]
    by_cases hij : i = j
    · subst hij
      rw [if_pos rfl, if_pos (by rw [xfam_len]; exact h)]
      simp [va_up]
    · rw [if_neg hij]
      simp [va_up, Ne.symm hij]
  · have e1 : (xfam n ad (va_up F i e))[j]? = none := List.getElem?_eq_none (by rw [xfam_len]; omega)
    have e2 : (xfam n ad F)[j]? = none := List.getElem?_eq_none (by rw [xfam_len]; omega)
    rw [e1, e2]
    rw [if_neg (by omega)]
theorem xapp_get {pre pl : va_W} {i : Nat} {q : Nat × va_E} (h : pl[i]? = some q) : (pre ++ pl)[pre.length + i]? = some q := by
  rw [List.getElem?_append_right (Nat.le_add_right _ _), Nat.add_sub_cancel_left]
  exact h
/-- two places of a world that have one address are one -/
theorem xD_ne {A : Nat → Prop} {ws : va_W} (hD : va_D A ws) {i j : Nat} {p q : Nat × va_E} (hp : ws[i]? = some p) (hq : ws[j]? = some q) (hij : i ≠ j) : p.1 ≠ q.1 := fun h => hij (hD.1 i j p q hp hq h)
theorem xlt {i : Int32} {n : Nat} (h : ¬ (i < 0 ∨ n ≤ i.toNatClampNeg)) : i.toNatClampNeg < n := Nat.not_le.mp fun q => h (Or.inr q)
/-! ===== the shelves ===== -/
def wSh (cy : Nat → ClassId) (ad ae : Nat → Nat) (c z : Nat → Int32) (el : Nat → Nat → Int64) : va_W := xfam 8 ad (fun i => oX2 (c i) (z i) (ae i)) ++ xfam 8 ae (fun i => .inl (cy 1, 40, .inr (.inl (el i))))
theorem wSh_fst {cy : Nat → ClassId} {ad ae : Nat → Nat} {c z c' z' : Nat → Int32} {el el' : Nat → Nat → Int64} : (wSh cy ad ae c z el).map Prod.fst = (wSh cy ad ae c' z' el').map Prod.fst := by
  unfold wSh
  rw [List.map_append, List.map_append]
  exact congr (congrArg _ xfam_fst) xfam_fst
theorem xsh_o {pre : va_W} {cy : Nat → ClassId} {ad ae : Nat → Nat} {c z : Nat → Int32} {el : Nat → Nat → Int64} {i : Nat} (h : i < 8) : (pre ++ wSh cy ad ae c z el)[pre.length + i]? = some (ad i, oX2 (c i) (z i) (ae i)) := by
  apply xapp_get
  unfold wSh
  rw [List.getElem?_append_left (by rw [xfam_len]; exact h)]
  exact xfam_get h
theorem xsh_e {pre : va_W} {cy : Nat → ClassId} {ad ae : Nat → Nat} {c z : Nat → Int32} {el : Nat → Nat → Int64} {i : Nat} (h : i < 8) : (pre ++ wSh cy ad ae c z el)[pre.length + (8 + i)]? = some (ae i, .inl (cy 1, 40, .inr (.inl (el i)))) := by
  apply xapp_get
  unfold wSh
  rw [List.getElem?_append_right (by rw [xfam_len]; omega), xfam_len, Nat.add_sub_cancel_left]
  exact xfam_get h
theorem xshP {D : va_G} {cl : List vw_C} {pre : va_W} {cy : Nat → ClassId} {ad ae : Nat → Nat} {c z : Nat → Int32} {el : Nat → Nat → Int64} {i : Nat} {H : Heap} (hP : va_P D cl (pre ++ wSh cy ad ae c z el) H) (h : i < 8) : va_P D cl [(ad i, oX2 (c i) (z i) (ae i)), (ae i, .inl (cy 1, 40, .inr (.inl (el i))))] H := by
  apply xP_of
  intro q hq
  rcases List.mem_cons.mp hq with rfl | hq
  · exact hP _ _ (xsh_o h)
  · rcases List.mem_cons.mp hq with rfl | hq
    · exact hP _ _ (xsh_e h)
    · exact absurd hq List.not_mem_nil
theorem xshD {A : Nat → Prop} {pre : va_W} {cy : Nat → ClassId} {ad ae : Nat → Nat} {c z : Nat → Int32} {el : Nat → Nat → Int64} {i : Nat} (hD : va_D A (pre ++ wSh cy ad ae c z el)) (h : i < 8) : va_D A [(ad i, oX2 (c i) (z i) (ae i)), (ae i, .inl (cy 1, 40, .inr (.inl (el i))))] := by
  have hne := xD_ne hD (xsh_o h) (xsh_e h) (by omega)
  refine ⟨fun x y p q hp hq hpq => ?_, fun k q hq => ?_⟩
  · match x, y, hp, hq with
    | 0, 0, _, _ => rfl
    | 0, 1, hp, hq => cases hp; cases hq; exact absurd hpq hne
    | 1, 0, hp, hq => cases hp; cases hq; exact absurd hpq.symm hne
    | 1, 1, _, _ => rfl
    | x + 2, _, hp, _ => simp at hp
    | 0, y + 2, _, hq => simp at hq
    | 1, y + 2, _, hq => simp at hq
  · match k, hq with
    | 0, hq => cases hq; exact hD.2 _ _ (xsh_o h)
    | 1, hq => cases hq; exact hD.2 _ _ (xsh_e h)
    | k + 2, hq => simp at hq
theorem xshJ {A0 : Nat → Prop} {D : va_G} {cl : List vw_C} {pre : va_W} {cy : Nat → ClassId} {ad ae : Nat → Nat} {c z : Nat → Int32} {el : Nat → Nat → Int64} {i : Nat} {H H1 : Heap} {c' z' : Int32} {e' : Nat → Int64} (hP : va_P D cl (pre ++ wSh cy ad ae c z el) H) (hD : va_D A0 (pre ++ wSh cy ad ae c z el)) (h : i < 8) (hk1 : ∀ q : Nat, q < H.size → ¬ va_A [(ad i, oX2 (c i) (z i) (ae i)), (ae i, .inl (cy 1, 40, .inr (.inl (el i))))] H.size q → H1[q]? = H[q]?) (hP1 : va_P D cl [(ad i, oX2 c' z' (ae i)), (ae i, .inl (cy 1, 40, .inr (.inl e')))] H1) :
    va_P D cl (pre ++ wSh cy ad ae (va_up c i c') (va_up z i z') (va_up el i e')) H1 ∧ va_D A0 (pre ++ wSh cy ad ae (va_up c i c') (va_up z i z') (va_up el i e')) := by
  refine xjoinG hP hD (by rw [List.map_append, List.map_append, wSh_fst]) (fun q hq => ?_) hk1 hP1
  have ho := xsh_o (pre := pre) (cy := cy) (ad := ad) (ae := ae) (c := c) (z := z) (el := el) h
  have hee := xsh_e (pre := pre) (cy := cy) (ad := ad) (ae := ae) (c := c) (z := z) (el := el) h
  have out : ∀ (k : Nat) (x : Nat × va_E), (pre ++ wSh cy ad ae c z el)[k]? = some x → k ≠ pre.length + i → k ≠ pre.length + (8 + i) → x ∈ pre ++ wSh cy ad ae c z el ∧ ∀ e, (x.1, e) ∉ [(ad i, oX2 (c i) (z i) (ae i)), (ae i, .inl (cy 1, 40, .inr (.inl (el i))))] := by
    intro k x hk n1 n2
    refine ⟨List.mem_of_getElem? hk, fun e hm => ?_⟩
    rcases List.mem_cons.mp hm with hm | hm
    · exact xD_ne hD hk ho n1 (Prod.mk.inj hm).1
    · rcases List.mem_cons.mp hm with hm | hm
      · exact xD_ne hD hk hee n2 (Prod.mk.inj hm).1
      · exact absurd hm List.not_mem_nil
  rcases List.mem_append.mp hq with hq | hq
  · obtain ⟨k, hk⟩ := List.getElem?_of_mem hq
    have hlt : k < pre.length := (List.getElem?_eq_some_iff.mp hk).1
    exact Or.inr (out k q (by rw [List.getElem?_append_left hlt]; exact hk) (by omega) (by omega))
  · unfold wSh at hq
    rcases List.mem_append.mp hq with hq | hq
    · obtain ⟨j, hj, rfl⟩ := xfam_mem.mp hq
      by_cases e : j = i
      · subst e
        left
        simp [va_up]
      · right
        have := out _ _ (xsh_o (pre := pre) (cy := cy) (ad := ad) (ae := ae) (c := c) (z := z) (el := el) hj) (by omega) (by omega)
        simpa [va_up, e] using this
    · obtain ⟨j, hj, rfl⟩ := xfam_mem.mp hq
      by_cases e : j = i
      · subst e
        left
        simp [va_up]
      · right
        have := out _ _ (xsh_e (pre := pre) (cy := cy) (ad := ad) (ae := ae) (c := c) (z := z) (el := el) hj) (by omega) (by omega)
        simpa [va_up, e] using this
/-! ===== families of arrays ===== -/
def wFJ (cy : Nat → ClassId) (n len : Nat) (ad : Nat → Nat) (el : Nat → Nat → Int64) : va_W := xfam n ad (fun i => .inl (cy 1, len, .inr (.inl (el i))))
def wFI (cy : Nat → ClassId) (n len : Nat) (ad : Nat → Nat) (el : Nat → Nat → Int32) : va_W := xfam n ad (fun i => .inl (cy 0, len, .inl (el i)))
theorem wFJ_fst {cy : Nat → ClassId} {n len : Nat} {ad : Nat → Nat} {el el' : Nat → Nat → Int64} : (wFJ cy n len ad el).map Prod.fst = (wFJ cy n len ad el').map Prod.fst := xfam_fst
theorem wFI_fst {cy : Nat → ClassId} {n len : Nat} {ad : Nat → Nat} {el el' : Nat → Nat → Int32} : (wFI cy n len ad el).map Prod.fst = (wFI cy n len ad el').map Prod.fst := xfam_fst
theorem xfj {pre : va_W} {cy : Nat → ClassId} {n len : Nat} {ad : Nat → Nat} {el : Nat → Nat → Int64} {i : Nat} (h : i < n) : (pre ++ wFJ cy n len ad el)[pre.length + i]? = some (ad i, .inl (cy 1, len, .inr (.inl (el i)))) := xapp_get (xfam_get h)
theorem xfi {pre : va_W} {cy : Nat → ClassId} {n len : Nat} {ad : Nat → Nat} {el : Nat → Nat → Int32} {i : Nat} (h : i < n) : (pre ++ wFI cy n len ad el)[pre.length + i]? = some (ad i, .inl (cy 0, len, .inl (el i))) := xapp_get (xfam_get h)
theorem xset_app {pre pl : va_W} {i : Nat} {q : Nat × va_E} : (pre ++ pl).set (pre.length + i) q = pre ++ pl.set i q := by
  rw [List.set_append_right _ _ (Nat.le_add_right _ _), Nat.add_sub_cancel_left]
theorem xfj_set {pre : va_W} {cy : Nat → ClassId} {n len : Nat} {ad : Nat → Nat} {el : Nat → Nat → Int64} {i : Nat} {e : Nat → Int64} (h : i < n) : (pre ++ wFJ cy n len ad el).set (pre.length + i) (ad i, .inl (cy 1, len, .inr (.inl e))) = pre ++ wFJ cy n len ad (va_up el i e) := by
  rw [xset_app]
  unfold wFJ
  rw [xfam_set h]
  congr 2
  funext j
  by_cases hj : j = i <;> simp [va_up, hj]
theorem xfi_set {pre : va_W} {cy : Nat → ClassId} {n len : Nat} {ad : Nat → Nat} {el : Nat → Nat → Int32} {i : Nat} {e : Nat → Int32} (h : i < n) : (pre ++ wFI cy n len ad el).set (pre.length + i) (ad i, .inl (cy 0, len, .inl e)) = pre ++ wFI cy n len ad (va_up el i e) := by
  rw [xset_app]
  unfold wFI
  rw [xfam_set h]
  congr 2
  funext j
  by_cases hj : j = i <;> simp [va_up, hj]
/-! ===== a callee that has cells of the world's head alone, or the family too ===== -/
theorem xrp_fst {isC : List Nat} {wc w1 ws : va_W} (h1 : isC.map (fun i => ws[i]?) = wc.map some) (h2 : w1.map Prod.fst = wc.map Prod.fst) : (xrp isC w1 0 ws).map Prod.fst = ws.map Prod.fst := by
  apply List.ext_getElem?
  intro k
  rw [List.getElem?_map, List.getElem?_map, xrp_get, Nat.zero_add]
  cases hk : ws[k]? with
  | none => rfl
  | some c => simp only [Option.map_some]; rw [xat_fst h1 h2 hk]
theorem xrp_mem {A : Nat → Prop} {isC : List Nat} {wc w1 ws pl : va_W} (hD : va_D A (ws ++ pl)) (h1 : isC.map (fun i => ws[i]?) = wc.map some) (h2 : w1.map Prod.fst = wc.map Prod.fst) {q : Nat × va_E} (hq : q ∈ xrp isC w1 0 ws) : q ∈ w1 ∨ (q ∈ ws ∧ ∀ e, (q.1, e) ∉ wc) := by
  obtain ⟨k, hk⟩ := List.getElem?_of_mem hq
  rw [xrp_get, Nat.zero_add] at hk
  obtain ⟨c, hc, rfl⟩ := Option.map_eq_some_iff.mp hk
  by_cases h : k ∈ isC
  · obtain ⟨j, d, -, q2, -, q4⟩ := xat_in isC wc w1 ws h1 h2 k c h hc
    rw [q4]
    exact Or.inl (List.mem_of_getElem? q2)
  · rw [xat_out h]
    refine Or.inr ⟨List.mem_of_getElem? hc, fun e hm => ?_⟩
    have hm2 : some (c.1, e) ∈ wc.map some := List.mem_map.mpr ⟨_, hm, rfl⟩
    rw [← h1] at hm2
    obtain ⟨i, hi, hi2⟩ := List.mem_map.mp hm2
    have l1 : k < ws.length := (List.getElem?_eq_some_iff.mp hc).1
    have l2 : i < ws.length := (List.getElem?_eq_some_iff.mp hi2).1
    have := hD.1 k i c (c.1, e) (by rw [List.getElem?_append_left l1]; exact hc) (by rw [List.getElem?_append_left l2]; exact hi2) rfl
    exact h (by rw [this]; exact hi)
theorem xwc_mem {isC : List Nat} {wc ws : va_W} (h1 : isC.map (fun i => ws[i]?) = wc.map some) {q : Nat × va_E} (hq : q ∈ wc) : q ∈ ws := by
  have hm2 : some q ∈ wc.map some := List.mem_map.mpr ⟨_, hq, rfl⟩
  rw [← h1] at hm2
  obtain ⟨i, hi, hi2⟩ := List.mem_map.mp hm2
  exact List.mem_of_getElem? hi2
theorem xD_app {A : Nat → Prop} {ws pl : va_W} (hD : va_D A (ws ++ pl)) {q : Nat × va_E} (hq : q ∈ ws) {x : Nat × va_E} (hx : x ∈ pl) : q.1 ≠ x.1 := by
  obtain ⟨k, hk⟩ := List.getElem?_of_mem hq
  obtain ⟨j, hj⟩ := List.getElem?_of_mem hx
  have l1 : k < ws.length := (List.getElem?_eq_some_iff.mp hk).1
  exact xD_ne hD (i := k) (j := ws.length + j) (by rw [List.getElem?_append_left l1]; exact hk) (xapp_get hj) (by omega)
theorem xjoinQ {A0 : Nat → Prop} {D : va_G} {cl : List vw_C} {ws pl wc w1 : va_W} {H H1 : Heap} (hP : va_P D cl (ws ++ pl) H) (hD : va_D A0 (ws ++ pl)) (isC : List Nat) (h1 : isC.map (fun i => ws[i]?) = wc.map some) (h2 : w1.map Prod.fst = wc.map Prod.fst) (hk1 : ∀ q : Nat, q < H.size → ¬ va_A wc H.size q → H1[q]? = H[q]?) (hP1 : va_P D cl w1 H1) : va_P D cl (xrp isC w1 0 ws ++ pl) H1 ∧ va_D A0 (xrp isC w1 0 ws ++ pl) := by
  refine xjoinG hP hD (by rw [List.map_append, List.map_append, xrp_fst h1 h2]) (fun q hq => ?_) hk1 hP1
  rcases List.mem_append.mp hq with hq | hq
  · rcases xrp_mem hD h1 h2 hq with h | ⟨h, hn⟩
    · exact Or.inl h
    · exact Or.inr ⟨List.mem_append_left _ h, hn⟩
  · exact Or.inr ⟨List.mem_append_right _ hq, fun e hm => xD_app hD (xwc_mem h1 hm) hq rfl⟩
theorem xjoinP {A0 : Nat → Prop} {D : va_G} {cl : List vw_C} {ws pl pl1 wc w1 : va_W} {H H1 : Heap} (hP : va_P D cl (ws ++ pl) H) (hD : va_D A0 (ws ++ pl)) (isC : List Nat) (h1 : isC.map (fun i => ws[i]?) = wc.map some) (h2 : w1.map Prod.fst = wc.map Prod.fst) (h3 : pl1.map Prod.fst = pl.map Prod.fst) (hk1 : ∀ q : Nat, q < H.size → ¬ va_A (wc ++ pl) H.size q → H1[q]? = H[q]?) (hP1 : va_P D cl (w1 ++ pl1) H1) : va_P D cl (xrp isC w1 0 ws ++ pl1) H1 ∧ va_D A0 (xrp isC w1 0 ws ++ pl1) := by
  refine xjoinG hP hD (by rw [List.map_append, List.map_append, xrp_fst h1 h2, h3]) (fun q hq => ?_) hk1 hP1
  rcases List.mem_append.mp hq with hq | hq
  · rcases xrp_mem hD h1 h2 hq with h | ⟨h, hn⟩
    · exact Or.inl (List.mem_append_left _ h)
    · refine Or.inr ⟨List.mem_append_left _ h, fun e hm => ?_⟩
      rcases List.mem_append.mp hm with hm | hm
      · exact hn e hm
      · exact xD_app hD h hm rfl
  · exact Or.inl (List.mem_append_right _ hq)
theorem xfree {A0 : Nat → Prop} {ws wc : va_W} {H0 H : Heap} {locs : List Loc} (hD : va_D A0 ws) (hS : va_S A0 H0 H locs) (hA : ∀ q, H0.size ≤ q → A0 q) (hm : ∀ q ∈ wc, q ∈ ws) : ∀ q, va_A wc H.size q → A0 q := by
  rintro q (⟨k, e, hk⟩ | h)
  · obtain ⟨j, hj⟩ := List.getElem?_of_mem (hm _ (List.mem_of_getElem? hk))
    exact hD.2 j _ hj
  · exact hA q (Nat.le_trans hS.1 h)
/-- a callee that has cells of the world's head and one shelf, which it leaves as it is -/
theorem xjoinM {A0 : Nat → Prop} {D : va_G} {cl : List vw_C} {pre : va_W} {cy : Nat → ClassId} {ad ae : Nat → Nat} {c z : Nat → Int32} {el : Nat → Nat → Int64} {i : Nat} {wc w1 : va_W} {H H1 : Heap} (hP : va_P D cl (pre ++ wSh cy ad ae c z el) H) (hD : va_D A0 (pre ++ wSh cy ad ae c z el)) (h : i < 8) (isC : List Nat) (h1 : isC.map (fun i => pre[i]?) = wc.map some) (h2 : w1.map Prod.fst = wc.map Prod.fst) (hk1 : ∀ q : Nat, q < H.size → ¬ va_A (wc ++ [(ad i, oX2 (c i) (z i) (ae i)), (ae i, .inl (cy 1, 40, .inr (.inl (el i))))]) H.size q → H1[q]? = H[q]?) (hP1 : va_P D cl (w1 ++ [(ad i, oX2 (c i) (z i) (ae i)), (ae i, .inl (cy 1, 40, .inr (.inl (el i))))]) H1) :
    va_P D cl (xrp isC w1 0 pre ++ wSh cy ad ae c z el) H1 ∧ va_D A0 (xrp isC w1 0 pre ++ wSh cy ad ae c z el) := by
  have ho := xsh_o (pre := pre) (cy := cy) (ad := ad) (ae := ae) (c := c) (z := z) (el := el) h
  have hee := xsh_e (pre := pre) (cy := cy) (ad := ad) (ae := ae) (c := c) (z := z) (el := el) h
  refine xjoinG hP hD (by rw [List.map_append, List.map_append, xrp_fst h1 h2]) (fun q hq => ?_) hk1 hP1
  have out : ∀ (k : Nat) (x : Nat × va_E), (pre ++ wSh cy ad ae c z el)[k]? = some x → k ≠ pre.length + i → k ≠ pre.length + (8 + i) → ∀ e, (x.1, e) ∉ [(ad i, oX2 (c i) (z i) (ae i)), (ae i, .inl (cy 1, 40, .inr (.inl (el i))))] := by
    intro k x hk n1 n2 e hm
    rcases List.mem_cons.mp hm with hm | hm
    · exact xD_ne hD hk ho n1 (Prod.mk.inj hm).1
    · rcases List.mem_cons.mp hm with hm | hm
      · exact xD_ne hD hk hee n2 (Prod.mk.inj hm).1
      · exact absurd hm List.not_mem_nil
  rcases List.mem_append.mp hq with hq | hq
  · rcases xrp_mem hD h1 h2 hq with h | ⟨h, hn⟩
    · exact Or.inl (List.mem_append_left _ h)
    · refine Or.inr ⟨List.mem_append_left _ h, fun e hm => ?_⟩
      rcases List.mem_append.mp hm with hm | hm
      · exact hn e hm
      · obtain ⟨k, hk⟩ := List.getElem?_of_mem h
        have l1 : k < pre.length := (List.getElem?_eq_some_iff.mp hk).1
        exact out k q (by rw [List.getElem?_append_left l1]; exact hk) (by omega) (by omega) e hm
  · have hwc : ∀ e, (q.1, e) ∉ wc := fun e hm => xD_app hD (xwc_mem h1 hm) hq rfl
    have hq0 := hq
    unfold wSh at hq
    rcases List.mem_append.mp hq with hq | hq
    · obtain ⟨j, hj, rfl⟩ := xfam_mem.mp hq
      by_cases e : j = i
      · subst e
        exact Or.inl (List.mem_append_right _ List.mem_cons_self)
      · refine Or.inr ⟨List.mem_append_right _ hq0, fun e2 hm => ?_⟩
        rcases List.mem_append.mp hm with hm | hm
        · exact hwc e2 hm
        · exact out _ _ (xsh_o (pre := pre) (cy := cy) (ad := ad) (ae := ae) (c := c) (z := z) (el := el) hj) (by omega) (by omega) e2 hm
    · obtain ⟨j, hj, rfl⟩ := xfam_mem.mp hq
      by_cases e : j = i
      · subst e
        exact Or.inl (List.mem_append_right _ (List.mem_cons_of_mem _ List.mem_cons_self))
      · refine Or.inr ⟨List.mem_append_right _ hq0, fun e2 hm => ?_⟩
        rcases List.mem_append.mp hm with hm | hm
        · exact hwc e2 hm
        · exact out _ _ (xsh_e (pre := pre) (cy := cy) (ad := ad) (ae := ae) (c := c) (z := z) (el := el) hj) (by omega) (by omega) e2 hm
theorem xmixP {D : va_G} {cl : List vw_C} {pre : va_W} {cy : Nat → ClassId} {ad ae : Nat → Nat} {c z : Nat → Int32} {el : Nat → Nat → Int64} {i : Nat} {wc : va_W} {H : Heap} (hP : va_P D cl (pre ++ wSh cy ad ae c z el) H) (h : i < 8) (isC : List Nat) (h1 : isC.map (fun i => pre[i]?) = wc.map some) : va_P D cl (wc ++ [(ad i, oX2 (c i) (z i) (ae i)), (ae i, .inl (cy 1, 40, .inr (.inl (el i))))]) H :=
  va_P.app (xP_of fun q hq => xP_mem hP (List.mem_append_left _ (xwc_mem h1 hq))) (xshP hP h)
theorem xmixD {A : Nat → Prop} {pre : va_W} {cy : Nat → ClassId} {ad ae : Nat → Nat} {c z : Nat → Int32} {el : Nat → Nat → Int64} {i : Nat} {wc : va_W} (hD : va_D A (pre ++ wSh cy ad ae c z el)) (h : i < 8) (isC : List Nat) (hn : va_nd isC = true) (h1 : isC.map (fun i => pre[i]?) = wc.map some) : va_D A (wc ++ [(ad i, oX2 (c i) (z i) (ae i)), (ae i, .inl (cy 1, 40, .inr (.inl (el i))))]) := by
  have hD1 : va_D A (wc ++ wSh cy ad ae c z el) := hD.part isC hn h1
  have e1 : va_D A wc := by
    refine ⟨fun x y p q hp hq hpq => ?_, fun k q hq => ?_⟩
    · have l1 : x < wc.length := (List.getElem?_eq_some_iff.mp hp).1
      have l2 : y < wc.length := (List.getElem?_eq_some_iff.mp hq).1
      exact hD1.1 x y p q (by rw [List.getElem?_append_left l1]; exact hp) (by rw [List.getElem?_append_left l2]; exact hq) hpq
    · have l1 : k < wc.length := (List.getElem?_eq_some_iff.mp hq).1
      exact hD1.2 k q (by rw [List.getElem?_append_left l1]; exact hq)
  refine e1.app (xshD hD h) (fun x y p q hp hq hpq => ?_)
  have hp2 := List.mem_of_getElem? hp
  have l1 : x < wc.length := (List.getElem?_eq_some_iff.mp hp).1
  have hp3 : (wc ++ wSh cy ad ae c z el)[x]? = some p := by rw [List.getElem?_append_left l1]; exact hp
  have hq2 := List.mem_of_getElem? hq
  rcases List.mem_cons.mp hq2 with rfl | hq2
  · exact xD_ne hD1 hp3 (xsh_o h) (by omega) hpq
  · rcases List.mem_cons.mp hq2 with rfl | hq2
    · exact xD_ne hD1 hp3 (xsh_e h) (by omega) hpq
    · exact absurd hq2 List.not_mem_nil
theorem xsh_setE {pre : va_W} {cy : Nat → ClassId} {ad ae : Nat → Nat} {c z : Nat → Int32} {el : Nat → Nat → Int64} {i : Nat} {e : Nat → Int64} (h : i < 8) : (pre ++ wSh cy ad ae c z el).set (pre.length + (8 + i)) (ae i, .inl (cy 1, 40, .inr (.inl e))) = pre ++ wSh cy ad ae c z (va_up el i e) := by
  rw [xset_app]
  unfold wSh
  have e0 : 8 + i = (xfam 8 ad (fun i => oX2 (c i) (z i) (ae i))).length + i := by rw [xfam_len]
  rw [e0, xset_app, xfam_set h]
  congr 3
  funext j
  by_cases hj : j = i <;> simp [va_up, hj]
section XA
variable {p : Program} {l : Launch} {e : Env} {R : Room} {s : State} {m : MethodId} {args : Array Value} {below : List Frame} {meth : Method} {c : Code} {H : Heap} {locs : List Loc} {cells slots : Nat} {Q : State → Prop}
variable {cc : ByteArray} {pc : Nat} {ls : Array Slot} {rest : List Value} {D : va_G} {cl : List vw_C} {A : Nat → Prop} {a : Nat} {tys : List (ClassId × FieldType)} {ws : va_W} {H0 : Heap}
theorem va_alda (hexec : p.tables.exec = Jvm.exec) (hb : c.code = cc) (hK : va_K D cl tys s) (hP : va_P D cl ws H) (q0 t0 : Nat) {cA : ClassId} {t1 : FieldType} {n : Nat} {f : Nat → Option Nat} (ha : ws[q0]? = some (a, .inl (cA, n, .inr (.inr (.inr (.inr f)))))) (ht : tys[t0]? = some (cA, .array t1)) {i : Int32} (hin : vp_in i n) (hdg : decode cc pc = .ok (.aaload, 1))
    (kk : W p l e R s m args below meth c H locs cells slots Q (F0 m (pc + 1) ls (va_rf (f i.toNatClampNeg) :: rest))) : W p l e R s m args below meth c H locs cells slots Q (F0 m pc ls (.int i :: .ref a :: rest)) := by
  have hlt : i.toNatClampNeg < n := Nat.not_le.mp fun q => hin (Or.inr q)
  exact W.aald (v := va_rf (f i.toNatClampNeg)) (ty := .array t1) hexec hb (hP q0 _ ha) ((hK.2 t0 _ ht).1 n (fun j => va_rf (f j))) rfl (fun q => by cases q) (by show ¬ (i < 0 ∨ (arrV _ _ _).slots.size ≤ _); rw [arrV_size]; exact hin) (by show (arrV _ _ _).slots[_]? = _; rw [arrV_read _ _ hlt]) rfl rfl hdg kk
end XA
theorem xend {D : va_G} {cl : List vw_C} {ws : va_W} {H : Heap} {t : State} (ht : t.heap = H) (hP : va_P D cl ws H) : va_P D cl ws t.heap := by rw [ht]; exact hP
theorem xup_self {α : Type} (f : Nat → α) (k : Nat) : va_up f k (f k) = f := by
  funext j
  by_cases h : j = k <;> simp [va_up, h]
section XE
variable {p : Program} {l : Launch} {e : Env} {R : Room} {s : State} {m : MethodId} {args : Array Value} {below : List Frame} {meth : Method} {c : Code} {H : Heap} {locs : List Loc} {cells slots : Nat} {Q : State → Prop} {pc : Nat} {ls : Array Slot} {rest st0 : List Value} {a : Array Value} {D : va_G} {cy : Nat → ClassId} {ws wc w1 pl pl1 : va_W} {A0 : Nat → Prop} {H0 : Heap} {ad ae : Nat → Nat} {cc zz : Nat → Int32} {el : Nat → Nat → Int64} {ix : Nat}
theorem xcQiP {v : Int32} (hr : va_Run p l e R s m args below meth c H locs cells slots 0 0 (F0 m pc ls st0) rest (va_Qi (fun (r : Int32) (_ : Unit) => r = v) (fun _ t => va_P D vwCl (w1 ++ pl1) t.heap) (va_A (wc ++ pl) H.size) a) (va_A (wc ++ pl) H.size)) (hP : va_P D vwCl (ws ++ pl) H) (hD : va_D A0 (ws ++ pl)) (hS : va_S A0 H0 H locs) (hA : ∀ q, H0.size ≤ q → A0 q) (isC : List Nat) (h1 : isC.map (fun i => ws[i]?) = wc.map some) (h2 : w1.map Prod.fst = wc.map Prod.fst) (h3 : pl1.map Prod.fst = pl.map Prod.fst)
    (kk : ∀ (H1 : Heap) (locs1 : List Loc), va_P D vwCl (xrp isC w1 0 ws ++ pl1) H1 → va_D A0 (xrp isC w1 0 ws ++ pl1) → va_S A0 H0 H1 locs1 → W p l e R s m args below meth c H1 locs1 cells slots Q (F0 m (pc + 3) ls (.int v :: rest))) : W p l e R s m args below meth c H locs cells slots Q (F0 m pc ls st0) := by
  have hFc := xfree (wc := wc ++ pl) hD hS hA (fun q hq => (List.mem_append.mp hq).elim (fun h => List.mem_append_left _ (xwc_mem h1 h)) (fun h => List.mem_append_right _ h))
  refine va_calli hr hS (fun q _ h => hFc q h) hFc (fun r u t H1 locs1 ht hvm hw hB hz1 hk1 hS1 => ?_)
  rw [ht] at hB
  obtain ⟨hP2, hD2⟩ := xjoinP hP hD isC h1 h2 h3 hk1 hB
  cases hw
  exact kk H1 locs1 hP2 hD2 hS1
theorem xcQiQ {v : Int32} (hr : va_Run p l e R s m args below meth c H locs cells slots 0 0 (F0 m pc ls st0) rest (va_Qi (fun (r : Int32) (_ : Unit) => r = v) (fun _ t => va_P D vwCl (w1) t.heap) (va_A (wc) H.size) a) (va_A (wc) H.size)) (hP : va_P D vwCl (ws ++ pl) H) (hD : va_D A0 (ws ++ pl)) (hS : va_S A0 H0 H locs) (hA : ∀ q, H0.size ≤ q → A0 q) (isC : List Nat) (h1 : isC.map (fun i => ws[i]?) = wc.map some) (h2 : w1.map Prod.fst = wc.map Prod.fst)
    (kk : ∀ (H1 : Heap) (locs1 : List Loc), va_P D vwCl (xrp isC w1 0 ws ++ pl) H1 → va_D A0 (xrp isC w1 0 ws ++ pl) → va_S A0 H0 H1 locs1 → W p l e R s m args below meth c H1 locs1 cells slots Q (F0 m (pc + 3) ls (.int v :: rest))) : W p l e R s m args below meth c H locs cells slots Q (F0 m pc ls st0) := by
  have hFc := xfree (wc := wc) hD hS hA (fun q hq => List.mem_append_left _ (xwc_mem h1 hq))
  refine va_calli hr hS (fun q _ h => hFc q h) hFc (fun r u t H1 locs1 ht hvm hw hB hz1 hk1 hS1 => ?_)
  rw [ht] at hB
  obtain ⟨hP2, hD2⟩ := xjoinQ hP hD isC h1 h2 hk1 hB
  cases hw
  exact kk H1 locs1 hP2 hD2 hS1
theorem xcQiS {v : Int32} {c1 z1 : Int32} {e1 : Nat → Int64} (hr : va_Run p l e R s m args below meth c H locs cells slots 0 0 (F0 m pc ls st0) rest (va_Qi (fun (r : Int32) (_ : Unit) => r = v) (fun _ t => va_P D vwCl ([(ad ix, oX2 c1 z1 (ae ix)), (ae ix, .inl (cy 1, 40, .inr (.inl e1)))]) t.heap) (va_A ([(ad ix, oX2 (cc ix) (zz ix) (ae ix)), (ae ix, .inl (cy 1, 40, .inr (.inl (el ix))))]) H.size) a) (va_A ([(ad ix, oX2 (cc ix) (zz ix) (ae ix)), (ae ix, .inl (cy 1, 40, .inr (.inl (el ix))))]) H.size)) (hP : va_P D vwCl (ws ++ wSh cy ad ae cc zz el) H) (hD : va_D A0 (ws ++ wSh cy ad ae cc zz el)) (hS : va_S A0 H0 H locs) (hA : ∀ q, H0.size ≤ q → A0 q) (hi : ix < 8)
    (kk : ∀ (H1 : Heap) (locs1 : List Loc), va_P D vwCl (ws ++ wSh cy ad ae (va_up cc ix c1) (va_up zz ix z1) (va_up el ix e1)) H1 → va_D A0 (ws ++ wSh cy ad ae (va_up cc ix c1) (va_up zz ix z1) (va_up el ix e1)) → va_S A0 H0 H1 locs1 → W p l e R s m args below meth c H1 locs1 cells slots Q (F0 m (pc + 3) ls (.int v :: rest))) : W p l e R s m args below meth c H locs cells slots Q (F0 m pc ls st0) := by
  have hFc := xfree (wc := [(ad ix, oX2 (cc ix) (zz ix) (ae ix)), (ae ix, .inl (cy 1, 40, .inr (.inl (el ix))))]) hD hS hA (fun q hq => (List.mem_cons.mp hq).elim (fun h => h ▸ List.mem_of_getElem? (xsh_o hi)) (fun h => (List.mem_cons.mp h).elim (fun h => h ▸ List.mem_of_getElem? (xsh_e hi)) (fun h => absurd h List.not_mem_nil)))
  refine va_calli hr hS (fun q _ h => hFc q h) hFc (fun r u t H1 locs1 ht hvm hw hB hz1 hk1 hS1 => ?_)
  rw [ht] at hB
  obtain ⟨hP2, hD2⟩ := xshJ hP hD hi hk1 hB
  cases hw
  exact kk H1 locs1 hP2 hD2 hS1
theorem xcQiM {v : Int32} (hr : va_Run p l e R s m args below meth c H locs cells slots 0 0 (F0 m pc ls st0) rest (va_Qi (fun (r : Int32) (_ : Unit) => r = v) (fun _ t => va_P D vwCl (w1 ++ [(ad ix, oX2 (cc ix) (zz ix) (ae ix)), (ae ix, .inl (cy 1, 40, .inr (.inl (el ix))))]) t.heap) (va_A (wc ++ [(ad ix, oX2 (cc ix) (zz ix) (ae ix)), (ae ix, .inl (cy 1, 40, .inr (.inl (el ix))))]) H.size) a) (va_A (wc ++ [(ad ix, oX2 (cc ix) (zz ix) (ae ix)), (ae ix, .inl (cy 1, 40, .inr (.inl (el ix))))]) H.size)) (hP : va_P D vwCl (ws ++ wSh cy ad ae cc zz el) H) (hD : va_D A0 (ws ++ wSh cy ad ae cc zz el)) (hS : va_S A0 H0 H locs) (hA : ∀ q, H0.size ≤ q → A0 q) (hi : ix < 8) (isC : List Nat) (h1 : isC.map (fun i => ws[i]?) = wc.map some) (h2 : w1.map Prod.fst = wc.map Prod.fst)
    (kk : ∀ (H1 : Heap) (locs1 : List Loc), va_P D vwCl (xrp isC w1 0 ws ++ wSh cy ad ae cc zz el) H1 → va_D A0 (xrp isC w1 0 ws ++ wSh cy ad ae cc zz el) → va_S A0 H0 H1 locs1 → W p l e R s m args below meth c H1 locs1 cells slots Q (F0 m (pc + 3) ls (.int v :: rest))) : W p l e R s m args below meth c H locs cells slots Q (F0 m pc ls st0) := by
  have hFc := xfree (wc := wc ++ [(ad ix, oX2 (cc ix) (zz ix) (ae ix)), (ae ix, .inl (cy 1, 40, .inr (.inl (el ix))))]) hD hS hA (fun q hq => (List.mem_append.mp hq).elim (fun h => List.mem_append_left _ (xwc_mem h1 h)) (fun hq => (List.mem_cons.mp hq).elim (fun h => h ▸ List.mem_of_getElem? (xsh_o hi)) (fun h => (List.mem_cons.mp h).elim (fun h => h ▸ List.mem_of_getElem? (xsh_e hi)) (fun h => absurd h List.not_mem_nil))))
  refine va_calli hr hS (fun q _ h => hFc q h) hFc (fun r u t H1 locs1 ht hvm hw hB hz1 hk1 hS1 => ?_)
  rw [ht] at hB
  obtain ⟨hP2, hD2⟩ := xjoinM hP hD hi isC h1 h2 hk1 hB
  cases hw
  exact kk H1 locs1 hP2 hD2 hS1
theorem xcQlP {v : Int64} (hr : va_Run p l e R s m args below meth c H locs cells slots 0 0 (F0 m pc ls st0) rest (va_Ql (fun (r : Int64) (_ : Unit) => r = v) (fun _ t => va_P D vwCl (w1 ++ pl1) t.heap) (va_A (wc ++ pl) H.size) a) (va_A (wc ++ pl) H.size)) (hP : va_P D vwCl (ws ++ pl) H) (hD : va_D A0 (ws ++ pl)) (hS : va_S A0 H0 H locs) (hA : ∀ q, H0.size ≤ q → A0 q) (isC : List Nat) (h1 : isC.map (fun i => ws[i]?) = wc.map some) (h2 : w1.map Prod.fst = wc.map Prod.fst) (h3 : pl1.map Prod.fst = pl.map Prod.fst)
    (kk : ∀ (H1 : Heap) (locs1 : List Loc), va_P D vwCl (xrp isC w1 0 ws ++ pl1) H1 → va_D A0 (xrp isC w1 0 ws ++ pl1) → va_S A0 H0 H1 locs1 → W p l e R s m args below meth c H1 locs1 cells slots Q (F0 m (pc + 3) ls (.long v :: rest))) : W p l e R s m args below meth c H locs cells slots Q (F0 m pc ls st0) := by
  have hFc := xfree (wc := wc ++ pl) hD hS hA (fun q hq => (List.mem_append.mp hq).elim (fun h => List.mem_append_left _ (xwc_mem h1 h)) (fun h => List.mem_append_right _ h))
  refine va_calll hr hS (fun q _ h => hFc q h) hFc (fun r u t H1 locs1 ht hvm hw hB hz1 hk1 hS1 => ?_)
  rw [ht] at hB
  obtain ⟨hP2, hD2⟩ := xjoinP hP hD isC h1 h2 h3 hk1 hB
  cases hw
  exact kk H1 locs1 hP2 hD2 hS1
theorem xcQlQ {v : Int64} (hr : va_Run p l e R s m args below meth c H locs cells slots 0 0 (F0 m pc ls st0) rest (va_Ql (fun (r : Int64) (_ : Unit) => r = v) (fun _ t => va_P D vwCl (w1) t.heap) (va_A (wc) H.size) a) (va_A (wc) H.size)) (hP : va_P D vwCl (ws ++ pl) H) (hD : va_D A0 (ws ++ pl)) (hS : va_S A0 H0 H locs) (hA : ∀ q, H0.size ≤ q → A0 q) (isC : List Nat) (h1 : isC.map (fun i => ws[i]?) = wc.map some) (h2 : w1.map Prod.fst = wc.map Prod.fst)
    (kk : ∀ (H1 : Heap) (locs1 : List Loc), va_P D vwCl (xrp isC w1 0 ws ++ pl) H1 → va_D A0 (xrp isC w1 0 ws ++ pl) → va_S A0 H0 H1 locs1 → W p l e R s m args below meth c H1 locs1 cells slots Q (F0 m (pc + 3) ls (.long v :: rest))) : W p l e R s m args below meth c H locs cells slots Q (F0 m pc ls st0) := by
  have hFc := xfree (wc := wc) hD hS hA (fun q hq => List.mem_append_left _ (xwc_mem h1 hq))
  refine va_calll hr hS (fun q _ h => hFc q h) hFc (fun r u t H1 locs1 ht hvm hw hB hz1 hk1 hS1 => ?_)
  rw [ht] at hB
  obtain ⟨hP2, hD2⟩ := xjoinQ hP hD isC h1 h2 hk1 hB
  cases hw
  exact kk H1 locs1 hP2 hD2 hS1
theorem xcQlS {v : Int64} {c1 z1 : Int32} {e1 : Nat → Int64} (hr : va_Run p l e R s m args below meth c H locs cells slots 0 0 (F0 m pc ls st0) rest (va_Ql (fun (r : Int64) (_ : Unit) => r = v) (fun _ t => va_P D vwCl ([(ad ix, oX2 c1 z1 (ae ix)), (ae ix, .inl (cy 1, 40, .inr (.inl e1)))]) t.heap) (va_A ([(ad ix, oX2 (cc ix) (zz ix) (ae ix)), (ae ix, .inl (cy 1, 40, .inr (.inl (el ix))))]) H.size) a) (va_A ([(ad ix, oX2 (cc ix) (zz ix) (ae ix)), (ae ix, .inl (cy 1, 40, .inr (.inl (el ix))))]) H.size)) (hP : va_P D vwCl (ws ++ wSh cy ad ae cc zz el) H) (hD : va_D A0 (ws ++ wSh cy ad ae cc zz el)) (hS : va_S A0 H0 H locs) (hA : ∀ q, H0.size ≤ q → A0 q) (hi : ix < 8)
    (kk : ∀ (H1 : Heap) (locs1 : List Loc), va_P D vwCl (ws ++ wSh cy ad ae (va_up cc ix c1) (va_up zz ix z1) (va_up el ix e1)) H1 → va_D A0 (ws ++ wSh cy ad ae (va_up cc ix c1) (va_up zz ix z1) (va_up el ix e1)) → va_S A0 H0 H1 locs1 → W p l e R s m args below meth c H1 locs1 cells slots Q (F0 m (pc + 3) ls (.long v :: rest))) : W p l e R s m args below meth c H locs cells slots Q (F0 m pc ls st0) := by
  have hFc := xfree (wc := [(ad ix, oX2 (cc ix) (zz ix) (ae ix)), (ae ix, .inl (cy 1, 40, .inr (.inl (el ix))))]) hD hS hA (fun q hq => (List.mem_cons.mp hq).elim (fun h => h ▸ List.mem_of_getElem? (xsh_o hi)) (fun h => (List.mem_cons.mp h).elim (fun h => h ▸ List.mem_of_getElem? (xsh_e hi)) (fun h => absurd h List.not_mem_nil)))
  refine va_calll hr hS (fun q _ h => hFc q h) hFc (fun r u t H1 locs1 ht hvm hw hB hz1 hk1 hS1 => ?_)
  rw [ht] at hB
  obtain ⟨hP2, hD2⟩ := xshJ hP hD hi hk1 hB
  cases hw
  exact kk H1 locs1 hP2 hD2 hS1
theorem xcQlM {v : Int64} (hr : va_Run p l e R s m args below meth c H locs cells slots 0 0 (F0 m pc ls st0) rest (va_Ql (fun (r : Int64) (_ : Unit) => r = v) (fun _ t => va_P D vwCl (w1 ++ [(ad ix, oX2 (cc ix) (zz ix) (ae ix)), (ae ix, .inl (cy 1, 40, .inr (.inl (el ix))))]) t.heap) (va_A (wc ++ [(ad ix, oX2 (cc ix) (zz ix) (ae ix)), (ae ix, .inl (cy 1, 40, .inr (.inl (el ix))))]) H.size) a) (va_A (wc ++ [(ad ix, oX2 (cc ix) (zz ix) (ae ix)), (ae ix, .inl (cy 1, 40, .inr (.inl (el ix))))]) H.size)) (hP : va_P D vwCl (ws ++ wSh cy ad ae cc zz el) H) (hD : va_D A0 (ws ++ wSh cy ad ae cc zz el)) (hS : va_S A0 H0 H locs) (hA : ∀ q, H0.size ≤ q → A0 q) (hi : ix < 8) (isC : List Nat) (h1 : isC.map (fun i => ws[i]?) = wc.map some) (h2 : w1.map Prod.fst = wc.map Prod.fst)
    (kk : ∀ (H1 : Heap) (locs1 : List Loc), va_P D vwCl (xrp isC w1 0 ws ++ wSh cy ad ae cc zz el) H1 → va_D A0 (xrp isC w1 0 ws ++ wSh cy ad ae cc zz el) → va_S A0 H0 H1 locs1 → W p l e R s m args below meth c H1 locs1 cells slots Q (F0 m (pc + 3) ls (.long v :: rest))) : W p l e R s m args below meth c H locs cells slots Q (F0 m pc ls st0) := by
  have hFc := xfree (wc := wc ++ [(ad ix, oX2 (cc ix) (zz ix) (ae ix)), (ae ix, .inl (cy 1, 40, .inr (.inl (el ix))))]) hD hS hA (fun q hq => (List.mem_append.mp hq).elim (fun h => List.mem_append_left _ (xwc_mem h1 h)) (fun hq => (List.mem_cons.mp hq).elim (fun h => h ▸ List.mem_of_getElem? (xsh_o hi)) (fun h => (List.mem_cons.mp h).elim (fun h => h ▸ List.mem_of_getElem? (xsh_e hi)) (fun h => absurd h List.not_mem_nil))))
  refine va_calll hr hS (fun q _ h => hFc q h) hFc (fun r u t H1 locs1 ht hvm hw hB hz1 hk1 hS1 => ?_)
  rw [ht] at hB
  obtain ⟨hP2, hD2⟩ := xjoinM hP hD hi isC h1 h2 hk1 hB
  cases hw
  exact kk H1 locs1 hP2 hD2 hS1
theorem xcQvP (hr : va_Run p l e R s m args below meth c H locs cells slots 0 0 (F0 m pc ls st0) rest (va_Qv (fun (_ : Unit) => True) (fun _ t => va_P D vwCl (w1 ++ pl1) t.heap) (va_A (wc ++ pl) H.size) a) (va_A (wc ++ pl) H.size)) (hP : va_P D vwCl (ws ++ pl) H) (hD : va_D A0 (ws ++ pl)) (hS : va_S A0 H0 H locs) (hA : ∀ q, H0.size ≤ q → A0 q) (isC : List Nat) (h1 : isC.map (fun i => ws[i]?) = wc.map some) (h2 : w1.map Prod.fst = wc.map Prod.fst) (h3 : pl1.map Prod.fst = pl.map Prod.fst)
    (kk : ∀ (H1 : Heap) (locs1 : List Loc), va_P D vwCl (xrp isC w1 0 ws ++ pl1) H1 → va_D A0 (xrp isC w1 0 ws ++ pl1) → va_S A0 H0 H1 locs1 → W p l e R s m args below meth c H1 locs1 cells slots Q (F0 m (pc + 3) ls (rest))) : W p l e R s m args below meth c H locs cells slots Q (F0 m pc ls st0) := by
  have hFc := xfree (wc := wc ++ pl) hD hS hA (fun q hq => (List.mem_append.mp hq).elim (fun h => List.mem_append_left _ (xwc_mem h1 h)) (fun h => List.mem_append_right _ h))
  refine va_callv hr hS (fun q _ h => hFc q h) hFc (fun u t H1 locs1 ht hvm hw hB hz1 hk1 hS1 => ?_)
  rw [ht] at hB
  obtain ⟨hP2, hD2⟩ := xjoinP hP hD isC h1 h2 h3 hk1 hB
  skip
  exact kk H1 locs1 hP2 hD2 hS1
theorem xcQvQ (hr : va_Run p l e R s m args below meth c H locs cells slots 0 0 (F0 m pc ls st0) rest (va_Qv (fun (_ : Unit) => True) (fun _ t => va_P D vwCl (w1) t.heap) (va_A (wc) H.size) a) (va_A (wc) H.size)) (hP : va_P D vwCl (ws ++ pl) H) (hD : va_D A0 (ws ++ pl)) (hS : va_S A0 H0 H locs) (hA : ∀ q, H0.size ≤ q → A0 q) (isC : List Nat) (h1 : isC.map (fun i => ws[i]?) = wc.map some) (h2 : w1.map Prod.fst = wc.map Prod.fst)
    (kk : ∀ (H1 : Heap) (locs1 : List Loc), va_P D vwCl (xrp isC w1 0 ws ++ pl) H1 → va_D A0 (xrp isC w1 0 ws ++ pl) → va_S A0 H0 H1 locs1 → W p l e R s m args below meth c H1 locs1 cells slots Q (F0 m (pc + 3) ls (rest))) : W p l e R s m args below meth c H locs cells slots Q (F0 m pc ls st0) := by
  have hFc := xfree (wc := wc) hD hS hA (fun q hq => List.mem_append_left _ (xwc_mem h1 hq))
  refine va_callv hr hS (fun q _ h => hFc q h) hFc (fun u t H1 locs1 ht hvm hw hB hz1 hk1 hS1 => ?_)
  rw [ht] at hB
  obtain ⟨hP2, hD2⟩ := xjoinQ hP hD isC h1 h2 hk1 hB
  skip
  exact kk H1 locs1 hP2 hD2 hS1
theorem xcQvS {c1 z1 : Int32} {e1 : Nat → Int64} (hr : va_Run p l e R s m args below meth c H locs cells slots 0 0 (F0 m pc ls st0) rest (va_Qv (fun (_ : Unit) => True) (fun _ t => va_P D vwCl ([(ad ix, oX2 c1 z1 (ae ix)), (ae ix, .inl (cy 1, 40, .inr (.inl e1)))]) t.heap) (va_A ([(ad ix, oX2 (cc ix) (zz ix) (ae ix)), (ae ix, .inl (cy 1, 40, .inr (.inl (el ix))))]) H.size) a) (va_A ([(ad ix, oX2 (cc ix) (zz ix) (ae ix)), (ae ix, .inl (cy 1, 40, .inr (.inl (el ix))))]) H.size)) (hP : va_P D vwCl (ws ++ wSh cy ad ae cc zz el) H) (hD : va_D A0 (ws ++ wSh cy ad ae cc zz el)) (hS : va_S A0 H0 H locs) (hA : ∀ q, H0.size ≤ q → A0 q) (hi : ix < 8)
    (kk : ∀ (H1 : Heap) (locs1 : List Loc), va_P D vwCl (ws ++ wSh cy ad ae (va_up cc ix c1) (va_up zz ix z1) (va_up el ix e1)) H1 → va_D A0 (ws ++ wSh cy ad ae (va_up cc ix c1) (va_up zz ix z1) (va_up el ix e1)) → va_S A0 H0 H1 locs1 → W p l e R s m args below meth c H1 locs1 cells slots Q (F0 m (pc + 3) ls (rest))) : W p l e R s m args below meth c H locs cells slots Q (F0 m pc ls st0) := by
  have hFc := xfree (wc := [(ad ix, oX2 (cc ix) (zz ix) (ae ix)), (ae ix, .inl (cy 1, 40, .inr (.inl (el ix))))]) hD hS hA (fun q hq => (List.mem_cons.mp hq).elim (fun h => h ▸ List.mem_of_getElem? (xsh_o hi)) (fun h => (List.mem_cons.mp h).elim (fun h => h ▸ List.mem_of_getElem? (xsh_e hi)) (fun h => absurd h List.not_mem_nil)))
  refine va_callv hr hS (fun q _ h => hFc q h) hFc (fun u t H1 locs1 ht hvm hw hB hz1 hk1 hS1 => ?_)
  rw [ht] at hB
  obtain ⟨hP2, hD2⟩ := xshJ hP hD hi hk1 hB
  skip
  exact kk H1 locs1 hP2 hD2 hS1
theorem xcQvM (hr : va_Run p l e R s m args below meth c H locs cells slots 0 0 (F0 m pc ls st0) rest (va_Qv (fun (_ : Unit) => True) (fun _ t => va_P D vwCl (w1 ++ [(ad ix, oX2 (cc ix) (zz ix) (ae ix)), (ae ix, .inl (cy 1, 40, .inr (.inl (el ix))))]) t.heap) (va_A (wc ++ [(ad ix, oX2 (cc ix) (zz ix) (ae ix)), (ae ix, .inl (cy 1, 40, .inr (.inl (el ix))))]) H.size) a) (va_A (wc ++ [(ad ix, oX2 (cc ix) (zz ix) (ae ix)), (ae ix, .inl (cy 1, 40, .inr (.inl (el ix))))]) H.size)) (hP : va_P D vwCl (ws ++ wSh cy ad ae cc zz el) H) (hD : va_D A0 (ws ++ wSh cy ad ae cc zz el)) (hS : va_S A0 H0 H locs) (hA : ∀ q, H0.size ≤ q → A0 q) (hi : ix < 8) (isC : List Nat) (h1 : isC.map (fun i => ws[i]?) = wc.map some) (h2 : w1.map Prod.fst = wc.map Prod.fst)
    (kk : ∀ (H1 : Heap) (locs1 : List Loc), va_P D vwCl (xrp isC w1 0 ws ++ wSh cy ad ae cc zz el) H1 → va_D A0 (xrp isC w1 0 ws ++ wSh cy ad ae cc zz el) → va_S A0 H0 H1 locs1 → W p l e R s m args below meth c H1 locs1 cells slots Q (F0 m (pc + 3) ls (rest))) : W p l e R s m args below meth c H locs cells slots Q (F0 m pc ls st0) := by
  have hFc := xfree (wc := wc ++ [(ad ix, oX2 (cc ix) (zz ix) (ae ix)), (ae ix, .inl (cy 1, 40, .inr (.inl (el ix))))]) hD hS hA (fun q hq => (List.mem_append.mp hq).elim (fun h => List.mem_append_left _ (xwc_mem h1 h)) (fun hq => (List.mem_cons.mp hq).elim (fun h => h ▸ List.mem_of_getElem? (xsh_o hi)) (fun h => (List.mem_cons.mp h).elim (fun h => h ▸ List.mem_of_getElem? (xsh_e hi)) (fun h => absurd h List.not_mem_nil))))
  refine va_callv hr hS (fun q _ h => hFc q h) hFc (fun u t H1 locs1 ht hvm hw hB hz1 hk1 hS1 => ?_)
  rw [ht] at hB
  obtain ⟨hP2, hD2⟩ := xjoinM hP hD hi isC h1 h2 hk1 hB
  skip
  exact kk H1 locs1 hP2 hD2 hS1
end XE
