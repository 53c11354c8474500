/-! ===== new arrays, their classes known ===== -/
section XM
variable {p : Program} {l : Launch} {e : Env} {R : Room} {s : State} {m : MethodId} {args : Array Value} {below : List Frame} {meth : Method} {c : Code} {H : Heap} {locs : List Loc} {cells slots : Nat} {Q : State → Prop}
variable {cc : ByteArray} {pc : Nat} {ls : Array Slot} {rest : List Value} {D : va_G} {cy : Nat → ClassId} {A : Nat → Prop} {ws pl : va_W} {H0 : Heap}
theorem xnewI (hexec : p.tables.exec = Jvm.exec) (hb : c.code = cc) (harr : (Cond.arrayClass .int).before args s = true) (hK : xK D cy s) (hP : va_P D vwCl ws H) (hD : va_D A ws) (hS : va_S A H0 H locs) (hA : ∀ q, H0.size ≤ q → A q) {n : Int32} {N' : Nat} (hn : ¬ n < 0) (hN : n.toNatClampNeg = N') (hbytes : N' * componentBytes .int ≤ 536870912) (hcells : cells + 1 ≤ R.cells) (hslots : slots + N' ≤ R.slots) (hdg : decode cc pc = .ok (.newarray .int, 2))
    (kk : ∀ (q : Nat) (H1 : Heap), va_P D vwCl (ws ++ [(q, .inl (cy 0, N', .inl (fun _ => 0)))]) H1 → va_D A (ws ++ [(q, .inl (cy 0, N', .inl (fun _ => 0)))]) → va_S A H0 H1 locs → W p l e R s m args below meth c H1 locs (cells + 1) (slots + N') Q (F0 m (pc + 2) ls (.ref q :: rest))) : W p l e R s m args below meth c H locs cells slots Q (F0 m pc ls (.int n :: rest)) := by
  refine va_newa hexec hb (atype := .int) harr (ty := .int) rfl hK.1 hP hD hS hA (a0 := (N', .inl (fun _ => 0))) (fun cA => rfl) hn hN hbytes hcells hslots hdg (fun q cA H1 hK2 hP1 hD1 hS1 => ?_)
  have e1 : s.vm.findClass _ = some cA := (hK2.2 5 (cA, .int) rfl).2
  have e2 : s.vm.findClass _ = some (cy 0) := (hK.1.2 0 (cy 0, .int) rfl).2
  have e3 : cA = cy 0 := Option.some.inj (e1.symm.trans e2)
  subst e3
  exact kk q H1 hP1 hD1 hS1
theorem xnewJ (hexec : p.tables.exec = Jvm.exec) (hb : c.code = cc) (harr : (Cond.arrayClass .long).before args s = true) (hK : xK D cy s) (hP : va_P D vwCl ws H) (hD : va_D A ws) (hS : va_S A H0 H locs) (hA : ∀ q, H0.size ≤ q → A q) {n : Int32} {N' : Nat} (hn : ¬ n < 0) (hN : n.toNatClampNeg = N') (hbytes : N' * componentBytes .long ≤ 536870912) (hcells : cells + 1 ≤ R.cells) (hslots : slots + N' ≤ R.slots) (hdg : decode cc pc = .ok (.newarray .long, 2))
    (kk : ∀ (q : Nat) (H1 : Heap), va_P D vwCl (ws ++ [(q, .inl (cy 1, N', .inr (.inl (fun _ => 0))))]) H1 → va_D A (ws ++ [(q, .inl (cy 1, N', .inr (.inl (fun _ => 0))))]) → va_S A H0 H1 locs → W p l e R s m args below meth c H1 locs (cells + 1) (slots + N') Q (F0 m (pc + 2) ls (.ref q :: rest))) : W p l e R s m args below meth c H locs cells slots Q (F0 m pc ls (.int n :: rest)) := by
  refine va_newa hexec hb (atype := .long) harr (ty := .long) rfl hK.1 hP hD hS hA (a0 := (N', .inr (.inl (fun _ => 0)))) (fun cA => rfl) hn hN hbytes hcells hslots hdg (fun q cA H1 hK2 hP1 hD1 hS1 => ?_)
  have e1 : s.vm.findClass _ = some cA := (hK2.2 5 (cA, .long) rfl).2
  have e2 : s.vm.findClass _ = some (cy 1) := (hK.1.2 1 (cy 1, .long) rfl).2
  have e3 : cA = cy 1 := Option.some.inj (e1.symm.trans e2)
  subst e3
  exact kk q H1 hP1 hD1 hS1
theorem xnewS (hexec : p.tables.exec = Jvm.exec) (hb : c.code = cc) {own : String} {index : Nat} (hown : s.vm.findClass own = some m.cls) (hclink : (Cond.classLink own index "ShowsWhereNobodyIs$Shelf").before args s = true) (hK : xK D cy s) (hP : va_P D vwCl ws H) (hD : va_D A ws) (hS : va_S A H0 H locs) (hA : ∀ q, H0.size ≤ q → A q) {n : Int32} {N' : Nat} (hn : ¬ n < 0) (hN : n.toNatClampNeg = N') (hbytes : N' * 4 ≤ 536870912) (hcells : cells + 1 ≤ R.cells) (hslots : slots + N' ≤ R.slots) (hdg : decode cc pc = .ok (.anewarray index, 3))
    (kk : ∀ (q : Nat) (H1 : Heap), va_P D vwCl (ws ++ [(q, .inl (cy 2, N', .inr (.inr (.inr (.inr (fun _ => none))))))]) H1 → va_D A (ws ++ [(q, .inl (cy 2, N', .inr (.inr (.inr (.inr (fun _ => none))))))]) → va_S A H0 H1 locs → W p l e R s m args below meth c H1 locs (cells + 1) (slots + N') Q (F0 m (pc + 3) ls (.ref q :: rest))) : W p l e R s m args below meth c H locs cells slots Q (F0 m pc ls (.int n :: rest)) := by
  refine va_newq hexec hb hown hclink hK.2.2.2.2.1 hK.1 hP hD hS hA hn hN hbytes hcells hslots hdg (fun q cA H1 hK2 hP1 hD1 hS1 => ?_)
  obtain ⟨kA, comp, -, -, -, e1⟩ := (hK2.2 5 (cA, .object "ShowsWhereNobodyIs$Shelf") rfl).2
  obtain ⟨kB, comp2, -, -, -, e2⟩ := (hK.1.2 2 (cy 2, .object "ShowsWhereNobodyIs$Shelf") rfl).2
  have e3 : cA = cy 2 := Option.some.inj (e1.symm.trans e2)
  subst e3
  exact kk q H1 hP1 hD1 hS1
theorem xpl_fam (n : Nat) (r : Nat → Nat) (f : Nat → va_E) (e0 : va_E) : va_pl ([] ++ (List.range n).map r) (vr_up f ((List.range n).map r) e0) = xfam n r (fun _ => e0) := by
  unfold va_pl xfam
  rw [List.nil_append, List.map_map]
  apply List.map_congr_left
  intro a ha
  show (r a, vr_up f ((List.range n).map r) e0 (r a)) = (r a, e0)
  rw [vr_up_in (List.mem_map.mpr ⟨a, ha, rfl⟩)]
theorem xmnaI (hexec : p.tables.exec = Jvm.exec) (hb : c.code = cc) {own : String} {index : Nat} (hown : s.vm.findClass own = some m.cls) (hclink : (Cond.classLink own index "[[I").before args s = true) (harr : (Cond.arrayClass .int).before args s = true) (hK : xK D cy s) (hP : va_P D vwCl ws H) (hD : va_D A ws) (hS : va_S A H0 H locs) (hA : ∀ q, H0.size ≤ q → A q) {n k : Int32} {N' K' : Nat} (hn : ¬ n < 0) (hk : ¬ k < 0) (hN : n.toNatClampNeg = N') (hM : k.toNatClampNeg = K') (hb1 : N' * 4 ≤ 536870912) (hb2 : K' * componentBytes .int ≤ 536870912) (hb3 : K' ≤ 536870912) (hcells : cells + (1 + N') ≤ R.cells) (hslots : slots + (N' + N' * K') ≤ R.slots) (hdg : decode cc pc = .ok (.multianewarray index 2, 4))
    (kk : ∀ (q : Nat) (r : Nat → Nat) (H1 : Heap), va_P D vwCl ((ws ++ [(q, .inl (cy 3, N', .inr (.inr (.inr (.inr (fun i => if i < N' then some (r i) else none))))))]) ++ wFI cy N' K' r (fun _ _ => 0)) H1 → va_D A ((ws ++ [(q, .inl (cy 3, N', .inr (.inr (.inr (.inr (fun i => if i < N' then some (r i) else none))))))]) ++ wFI cy N' K' r (fun _ _ => 0)) → va_S A H0 H1 locs → W p l e R s m args below meth c H1 locs (cells + 1 + N') (slots + N' + N' * K') Q (F0 m (pc + 4) ls (.ref q :: rest))) : W p l e R s m args below meth c H locs cells slots Q (F0 m pc ls (.int k :: .int n :: rest)) := by
  have hP0 : va_P D vwCl (ws ++ va_pl [] (fun _ => .inr (0, []))) H := by rw [show va_pl [] (fun _ => (.inr (0, []) : va_E)) = [] from rfl, List.append_nil]; exact hP
  have hD0 : va_D A (ws ++ va_pl [] (fun _ => .inr (0, []))) := by rw [show va_pl [] (fun _ => (.inr (0, []) : va_E)) = [] from rfl, List.append_nil]; exact hD
  have e0 : s.vm.findClass (FieldType.array .int).toString = some (cy 0) := (hK.1.2 0 (cy 0, .int) rfl).2
  refine va_mna (ty := .int) (cy := cy 0) (z := (K', .inl (fun _ => 0))) hexec hb hown hclink hK.2.2.2.2.2.1 harr e0 hK.1 hP0 hD0 hS hA hn hk hN hM hb1 hb2 hb3 rfl rfl hcells hslots (fun c => ?_) hdg (fun q r cA H1 _ _ hK2 hP1 hD1 hS1 => ?_)
  · exact arrV_new c K' (.int 0)
  · have e1 : s.vm.findClass _ = some cA := (hK2.2 5 (cA, .array .int) rfl).2
    have e2 : s.vm.findClass _ = some (cy 3) := (hK.1.2 3 (cy 3, .array .int) rfl).2
    have e3 : cA = cy 3 := Option.some.inj (e1.symm.trans e2)
    subst e3
    rw [xpl_fam] at hP1 hD1
    exact kk q r H1 hP1 hD1 hS1
theorem xmnaJ (hexec : p.tables.exec = Jvm.exec) (hb : c.code = cc) {own : String} {index : Nat} (hown : s.vm.findClass own = some m.cls) (hclink : (Cond.classLink own index "[[J").before args s = true) (harr : (Cond.arrayClass .long).before args s = true) (hK : xK D cy s) (hP : va_P D vwCl ws H) (hD : va_D A ws) (hS : va_S A H0 H locs) (hA : ∀ q, H0.size ≤ q → A q) {n k : Int32} {N' K' : Nat} (hn : ¬ n < 0) (hk : ¬ k < 0) (hN : n.toNatClampNeg = N') (hM : k.toNatClampNeg = K') (hb1 : N' * 4 ≤ 536870912) (hb2 : K' * componentBytes .long ≤ 536870912) (hb3 : K' ≤ 536870912) (hcells : cells + (1 + N') ≤ R.cells) (hslots : slots + (N' + N' * K') ≤ R.slots) (hdg : decode cc pc = .ok (.multianewarray index 2, 4))
    (kk : ∀ (q : Nat) (r : Nat → Nat) (H1 : Heap), va_P D vwCl ((ws ++ [(q, .inl (cy 4, N', .inr (.inr (.inr (.inr (fun i => if i < N' then some (r i) else none))))))]) ++ wFJ cy N' K' r (fun _ _ => 0)) H1 → va_D A ((ws ++ [(q, .inl (cy 4, N', .inr (.inr (.inr (.inr (fun i => if i < N' then some (r i) else none))))))]) ++ wFJ cy N' K' r (fun _ _ => 0)) → va_S A H0 H1 locs → W p l e R s m args below meth c H1 locs (cells + 1 + N') (slots + N' + N' * K') Q (F0 m (pc + 4) ls (.ref q :: rest))) : W p l e R s m args below meth c H locs cells slots Q (F0 m pc ls (.int k :: .int n :: rest)) := by
  have hP0 : va_P D vwCl (ws ++ va_pl [] (fun _ => .inr (0, []))) H := by rw [show va_pl [] (fun _ => (.inr (0, []) : va_E)) = [] from rfl, List.append_nil]; exact hP
  have hD0 : va_D A (ws ++ va_pl [] (fun _ => .inr (0, []))) := by rw [show va_pl [] (fun _ => (.inr (0, []) : va_E)) = [] from rfl, List.append_nil]; exact hD
  have e0 : s.vm.findClass (FieldType.array .long).toString = some (cy 1) := (hK.1.2 1 (cy 1, .long) rfl).2
  refine va_mna (ty := .long) (cy := cy 1) (z := (K', .inr (.inl (fun _ => 0)))) hexec hb hown hclink hK.2.2.2.2.2.2 harr e0 hK.1 hP0 hD0 hS hA hn hk hN hM hb1 hb2 hb3 rfl rfl hcells hslots (fun c => ?_) hdg (fun q r cA H1 _ _ hK2 hP1 hD1 hS1 => ?_)
  · exact arrV_new c K' (.long 0)
  · have e1 : s.vm.findClass _ = some cA := (hK2.2 5 (cA, .array .long) rfl).2
    have e2 : s.vm.findClass _ = some (cy 4) := (hK.1.2 4 (cy 4, .array .long) rfl).2
    have e3 : cA = cy 4 := Option.some.inj (e1.symm.trans e2)
    subst e3
    rw [xpl_fam] at hP1 hD1
    exact kk q r H1 hP1 hD1 hS1
end XM
/-- outer arrays by their members' addresses alone: what lies beyond their length does not matter -/
theorem xouter {c : ClassId} {n : Nat} {f g : Nat → Option Nat} (h : ∀ j, j < n → f j = g j) : vp_cell c (n, .inr (.inr (.inr (.inr f)))) = vp_cell c (n, .inr (.inr (.inr (.inr g)))) := by
  rw [vp_cell_q, vp_cell_q]
  have e : (fun j : Fin n => va_rf (f j.val)) = fun j : Fin n => va_rf (g j.val) := funext fun j => by rw [h j.val j.isLt]
  simp only [arrV]
  rw [e]
theorem xoutP {D : va_G} {cl : List vw_C} {w : va_W} {H : Heap} (hP : va_P D cl w H) (k : Nat) {a : Nat} {c : ClassId} {n : Nat} {f : Nat → Option Nat} (g : Nat → Option Nat) (hk : w[k]? = some (a, .inl (c, n, .inr (.inr (.inr (.inr f)))))) (hfg : ∀ j, j < n → f j = g j) : va_P D cl (w.set k (a, .inl (c, n, .inr (.inr (.inr (.inr g)))))) H := by
  intro j q hq
  rw [List.getElem?_set] at hq
  by_cases e : k = j
  · subst e
    have h0 := hP k _ hk
    have hl : k < w.length := (List.getElem?_eq_some_iff.mp hk).1
    simp only [if_true, hl] at hq
    cases hq
    show H[a]? = some (vp_cell c (n, .inr (.inr (.inr (.inr g)))))
    rw [← xouter hfg]
    exact h0
  · rw [if_neg e] at hq
    exact hP j q hq
theorem xoutD {A : Nat → Prop} {w : va_W} (hD : va_D A w) (k : Nat) {a : Nat} {c : ClassId} {n : Nat} {f : Nat → Option Nat} (g : Nat → Option Nat) (hk : w[k]? = some (a, .inl (c, n, .inr (.inr (.inr (.inr f)))))) : va_D A (w.set k (a, .inl (c, n, .inr (.inr (.inr (.inr g)))))) := hD.set hk
theorem xD_iff {A : Nat → Prop} {ws : va_W} : va_D A ws ↔ (ws.map Prod.fst).Nodup ∧ ∀ q ∈ ws, A q.1 := by
  constructor
  · intro h
    refine ⟨List.pairwise_iff_getElem.mpr (fun i j hi hj hij => ?_), fun q hq => ?_⟩
    · intro e
      rw [List.length_map] at hi hj
      rw [List.getElem_map, List.getElem_map] at e
      have := h.1 i j _ _ (List.getElem?_eq_getElem hi) (List.getElem?_eq_getElem hj) e
      omega
    · obtain ⟨k, hk⟩ := List.getElem?_of_mem hq
      exact h.2 k q hk
  · rintro ⟨h1, h2⟩
    refine ⟨fun i j p q hp hq hpq => ?_, fun k q hk => h2 q (List.mem_of_getElem? hk)⟩
    obtain ⟨hi, ei⟩ := List.getElem?_eq_some_iff.mp hp
    obtain ⟨hj, ej⟩ := List.getElem?_eq_some_iff.mp hq
    have h3 := List.pairwise_iff_getElem.mp h1
    rcases Nat.lt_trichotomy i j with h | h | h
    · exact absurd (by rw [List.getElem_map, List.getElem_map, ei, ej]; exact hpq) (h3 i j (by rw [List.length_map]; exact hi) (by rw [List.length_map]; exact hj) h)
    · exact h
    · exact absurd (by rw [List.getElem_map, List.getElem_map, ei, ej]; exact hpq.symm) (h3 j i (by rw [List.length_map]; exact hj) (by rw [List.length_map]; exact hi) h)
theorem xD_perm {A : Nat → Prop} {ws ws' : va_W} (hp : ws.Perm ws') (h : va_D A ws) : va_D A ws' := by
  obtain ⟨h1, h2⟩ := xD_iff.mp h
  exact xD_iff.mpr ⟨(hp.map Prod.fst).nodup_iff.mp h1, fun q hq => h2 q (hp.mem_iff.mpr hq)⟩
theorem xP_perm {D : va_G} {cl : List vw_C} {ws ws' : va_W} {H : Heap} (hp : ws.Perm ws') (h : va_P D cl ws H) : va_P D cl ws' H := xP_of fun q hq => xP_mem h (hp.mem_iff.mpr hq)
theorem xswap2 (a b c d : va_W) : (((a ++ b) ++ c) ++ d).Perm ((a ++ c) ++ (b ++ d)) := by
  simp only [List.append_assoc]
  exact List.Perm.append_left a (List.perm_append_comm_assoc b c d)
theorem xswap2P {D : va_G} {cl : List vw_C} {a b c d : va_W} {H : Heap} (h : va_P D cl (((a ++ b) ++ c) ++ d) H) : va_P D cl ((a ++ c) ++ (b ++ d)) H := xP_perm (xswap2 a b c d) h
theorem xswap2D {A : Nat → Prop} {a b c d : va_W} (h : va_D A (((a ++ b) ++ c) ++ d)) : va_D A ((a ++ c) ++ (b ++ d)) := xD_perm (xswap2 a b c d) h
