/-! ===== the law's world ===== -/
theorem xpP {D : va_G} {cl : List vw_C} {ws ws' : va_W} {H : Heap} (h : ws.Perm ws') (hP : va_P D cl ws H) : va_P D cl ws' H := xP_of (fun q hq => xP_mem hP (h.mem_iff.mpr hq))
theorem xpN {A : Nat → Prop} {ws : va_W} (hD : va_D A ws) : (ws.map Prod.fst).Nodup := by
  show List.Pairwise (fun a b => a ≠ b) (ws.map Prod.fst)
  rw [List.pairwise_iff_getElem]
  intro i j hi hj hij e
  have hi' : i < ws.length := by simpa using hi
  have hj' : j < ws.length := by simpa using hj
  rw [List.getElem_map, List.getElem_map] at e
  have := hD.1 i j ws[i] ws[j] (List.getElem?_eq_getElem hi') (List.getElem?_eq_getElem hj') e
  omega
theorem xpD {A : Nat → Prop} {ws ws' : va_W} (h : ws.Perm ws') (hD : va_D A ws) : va_D A ws' := by
  have hN : List.Pairwise (fun a b => a ≠ b) (ws'.map Prod.fst) := (h.map Prod.fst).nodup_iff.mp (xpN hD)
  rw [List.pairwise_iff_getElem] at hN
  refine ⟨fun i j p q hp hq e => ?_, fun k q hq => ?_⟩
  · obtain ⟨hil, hpe⟩ := List.getElem?_eq_some_iff.mp hp
    obtain ⟨hjl, hqe⟩ := List.getElem?_eq_some_iff.mp hq
    rcases Nat.lt_trichotomy i j with g | g | g
    · exact absurd (by rw [List.getElem_map, List.getElem_map, hpe, hqe]; exact e) (hN i j (by simpa using hil) (by simpa using hjl) g)
    · exact g
    · exact absurd (by rw [List.getElem_map, List.getElem_map, hpe, hqe]; exact e.symm) (hN j i (by simpa using hjl) (by simpa using hil) g)
  · obtain ⟨k', hk'⟩ := List.getElem?_of_mem (h.mem_iff.mpr (List.mem_of_getElem? hq))
    exact hD.2 k' q hk'
/-- blocks in another order -/
theorem xb3 (a b c : va_W) : (a ++ (b ++ c)).Perm (b ++ (a ++ c)) := List.perm_append_comm_assoc a b c
/-- X, Sh, M, rest: M first -/
theorem xbM (x h m r : va_W) : (x ++ (h ++ (m ++ r))).Perm (m ++ (x ++ (h ++ r))) := ((List.perm_append_comm_assoc h m r).append_left x).trans (List.perm_append_comm_assoc x m (h ++ r))
theorem xrp_out {isC : List Nat} {w1 : va_W} : ∀ (R : va_W) (k : Nat), (∀ i ∈ isC, i < k) → xrp isC w1 k R = R := by
  intro R
  induction R with
  | nil => intro k _; rfl
  | cons c R ih =>
    intro k h
    show xat isC w1 k c :: xrp isC w1 (k + 1) R = c :: R
    rw [xat_out (fun q => Nat.lt_irrefl k (h k q)), ih (k + 1) (fun i hi => Nat.lt_succ_of_lt (h i hi))]
theorem xrp_app2 {isC : List Nat} {w1 : va_W} (R : va_W) : ∀ (X : va_W) (k : Nat), (∀ i ∈ isC, i < k + X.length) → xrp isC w1 k (X ++ R) = xrp isC w1 k X ++ R := by
  intro X
  induction X with
  | nil => intro k h; exact xrp_out R k (by simpa using h)
  | cons c X ih =>
    intro k h
    show xat isC w1 k c :: xrp isC w1 (k + 1) (X ++ R) = (xat isC w1 k c :: xrp isC w1 (k + 1) X) ++ R
    rw [ih (k + 1) (fun i hi => by have := h i hi; simp only [List.length_cons] at this; omega)]
    rfl
theorem xrpP {D : va_G} {cl : List vw_C} {isC : List Nat} {w1 X R P : va_W} {H : Heap} {N : Nat} (hN : X.length = N) (hn : ∀ i ∈ isC, i < N) (hP : va_P D cl (xrp isC w1 0 (X ++ R) ++ P) H) : va_P D cl ((xrp isC w1 0 X ++ R) ++ P) H := by
  rw [xrp_app2 R X 0 (by intro i hi; have := hn i hi; omega)] at hP; exact hP
theorem xrpD {A : Nat → Prop} {isC : List Nat} {w1 X R P : va_W} {N : Nat} (hN : X.length = N) (hn : ∀ i ∈ isC, i < N) (hD : va_D A (xrp isC w1 0 (X ++ R) ++ P)) : va_D A ((xrp isC w1 0 X ++ R) ++ P) := by
  rw [xrp_app2 R X 0 (by intro i hi; have := hn i hi; omega)] at hD; exact hD
/-- X, Sh, rest: Sh last -/
theorem xbS (x h r : va_W) : (x ++ (h ++ r)).Perm ((x ++ r) ++ h) := ((List.perm_append_comm (l₁ := h) (l₂ := r)).append_left x).trans (List.Perm.of_eq (List.append_assoc x r h).symm)
theorem xbJ (m x h k t j f : va_W) : (m ++ (x ++ (h ++ (k ++ (t ++ (j ++ f)))))).Perm ((m ++ (x ++ (h ++ (k ++ (t ++ f))))) ++ j) := by
  have : (j ++ f).Perm (f ++ j) := List.perm_append_comm
  have h1 := ((((this.append_left t).append_left k).append_left h).append_left x).append_left m
  refine h1.trans (List.Perm.of_eq ?_)
  simp only [List.append_assoc]
theorem xbI (m x h k t j f : va_W) : (m ++ (x ++ (h ++ (k ++ (t ++ (j ++ f)))))).Perm ((m ++ (x ++ (h ++ (k ++ (t ++ j))))) ++ f) := List.Perm.of_eq (by simp only [List.append_assoc])
set_option maxRecDepth 20000 in
/-- the law's world between two calls -/
def LW (D : va_G) (cy : Nat → ClassId) (s : State) (kb tb : Bool) (qx qm : Nat) (H : Heap) (locs : List Loc) : Prop := ∃ (vi : Nat → Int32) (vq : Nat → Nat) (va : Nat → Nat → Int32) (ax_shelves : Nat → Nat) (ex_shelves : Nat → Nat) (x_shelves_e : Nat → Nat → Int64) (adK : Nat → Nat) (adV : Nat → Nat) (am_rows : Nat → Nat) (wm_kept : Value) (wm_tried : Value) (m_rows : Nat → Nat → Int64) (m_moved : Nat → Int64) (am_sights : Nat → Nat) (m_sights : Nat → Nat → Int32) (wm_kept_kept : Value) (wm_kept_tried : Value) (wm_tried_kept : Value) (wm_tried_tried : Value), Rel kb (vi 1) (vi 2) (vi 3) (vi 4) (vi 5) (va 3) (va 4) (va 5) (va 6) (va 7) (va 8) (va 9) (vi 25) (vi 26) (vi 27) (vi 28) (vi 29) (va 27) (va 28) (va 29) (va 30) (va 31) (va 32) (va 33) (vi 0) (va 1) (va 2) x_shelves_e (vi 11) (va 17) (va 0) (vi 31) (vi 32) (vi 33) (vi 34) (vi 35) (va 39) (va 40) (va 41) (va 42) (va 43) (va 44) (va 34) (va 35) (va 36) m_rows (va 38) (va 48) (vi 30) (va 37) (vi 43) (vi 45) (vi 46) (vi 47) (vi 48) (vi 49) (va 52) (va 53) (va 54) (va 55) (va 56) (va 57) ∧ wm_kept = (if kb then Value.ref (vq 63) else Value.null) ∧ wm_tried = (if tb then Value.ref (vq 85) else Value.null) ∧ ∃ ws : va_W, ws = [(qx, oX7 (vq 0) (vq 1) (vq 2) (vq 3) (vi 0) (vq 4) (vq 5) (vq 6) (vq 7) (vq 8) (vq 9) (vq 10)), ((vq 4), .inl (cy 2, 8, .inr (.inr (.inr (.inr (fun i => some (ax_shelves i))))))), ((vq 10), .inl (cy 0, 5, .inl (va 0))), ((vq 0), oX5 (vi 1) (vq 11) (vq 12) (vi 2) (vq 13) (vq 14) (vq 15) (vq 16) (vq 17) (vi 3) (vi 4) (vi 5)), ((vq 11), .inl (cy 0, 12, .inl (va 3))), ((vq 12), .inl (cy 0, 144, .inl (va 4))), ((vq 13), .inl (cy 0, 8, .inl (va 5))), ((vq 14), .inl (cy 0, 8, .inl (va 6))), ((vq 15), .inl (cy 0, 8, .inl (va 7))), ((vq 16), .inl (cy 0, 8, .inl (va 8))), ((vq 17), .inl (cy 0, 8, .inl (va 9))), ((vq 1), oX5 (vi 6) (vq 18) (vq 19) (vi 7) (vq 20) (vq 21) (vq 22) (vq 23) (vq 24) (vi 8) (vi 9) (vi 10)), ((vq 18), .inl (cy 0, 12, .inl (va 10))), ((vq 19), .inl (cy 0, 144, .inl (va 11))), ((vq 20), .inl (cy 0, 8, .inl (va 12))), ((vq 21), .inl (cy 0, 8, .inl (va 13))), ((vq 22), .inl (cy 0, 8, .inl (va 14))), ((vq 23), .inl (cy 0, 8, .inl (va 15))), ((vq 24), .inl (cy 0, 8, .inl (va 16))), ((vq 5), oX4 (vq 25) (vi 11)), ((vq 25), .inl (cy 0, 250, .inl (va 17))), ((vq 2), oX5 (vi 12) (vq 26) (vq 27) (vi 13) (vq 28) (vq 29) (vq 30) (vq 31) (vq 32) (vi 14) (vi 15) (vi 16)), ((vq 26), .inl (cy 0, 12, .inl (va 18))), ((vq 27), .inl (cy 0, 144, .inl (va 19))), ((vq 28), .inl (cy 0, 8, .inl (va 20))), ((vq 29), .inl (cy 0, 8, .inl (va 21))), ((vq 30), .inl (cy 0, 8, .inl (va 22))), ((vq 31), .inl (cy 0, 8, .inl (va 23))), ((vq 32), .inl (cy 0, 8, .inl (va 24))), ((vq 6), oX6 (vq 5) (vi 17) (vi 18) (vi 19) (vi 20) (vi 21)), ((vq 8), oX3 (vq 33)), ((vq 33), .inl (cy 0, 300, .inl (va 25))), ((vq 9), oX0 (vi 22) (vi 23)), ((vq 7), oX1 (vi 24) (vq 34)), ((vq 34), .inl (cy 0, 25, .inl (va 26))), ((vq 3), oX5 (vi 25) (vq 35) (vq 36) (vi 26) (vq 37) (vq 38) (vq 39) (vq 40) (vq 41) (vi 27) (vi 28) (vi 29)), ((vq 35), .inl (cy 0, 12, .inl (va 27))), ((vq 36), .inl (cy 0, 144, .inl (va 28))), ((vq 37), .inl (cy 0, 8, .inl (va 29))), ((vq 38), .inl (cy 0, 8, .inl (va 30))), ((vq 39), .inl (cy 0, 8, .inl (va 31))), ((vq 40), .inl (cy 0, 8, .inl (va 32))), ((vq 41), .inl (cy 0, 8, .inl (va 33)))] ++ (wSh cy ax_shelves ex_shelves (va 1) (va 2) x_shelves_e ++ ([(qm, oX8 (vq 42) (vq 43) (vq 44) (vq 45) (vq 46) (vq 47) (vq 48) (vi 30) (vq 49) (vi 31) (vq 50) (vi 32) (vq 51) (vq 52) (vq 53) (vq 54) (vq 55) (vi 33) (vi 34) (vi 35) wm_kept wm_tried (vi 36) (vi 37) (vi 38) (vi 39) (vi 40) (vq 56) (vi 41) (vq 57) (vq 58) (vq 59) (vi 42) (vi 43) (vq 60) (vq 61) (vq 62)), ((vq 42), .inl (cy 0, 8, .inl (va 34))), ((vq 43), .inl (cy 0, 8, .inl (va 35))), ((vq 44), .inl (cy 0, 8, .inl (va 36))), ((vq 45), .inl (cy 4, 8, .inr (.inr (.inr (.inr (fun i => some (am_rows i))))))), ((vq 49), .inl (cy 0, 8, .inl (va 37))), ((vq 46), .inl (cy 1, 40, .inr (.inl m_moved))), ((vq 47), .inl (cy 0, 8, .inl (va 38))), ((vq 50), .inl (cy 0, 12, .inl (va 39))), ((vq 51), .inl (cy 0, 8, .inl (va 40))), ((vq 52), .inl (cy 0, 8, .inl (va 41))), ((vq 53), .inl (cy 0, 8, .inl (va 42))), ((vq 54), .inl (cy 0, 8, .inl (va 43))), ((vq 55), .inl (cy 0, 8, .inl (va 44))), ((vq 57), .inl (cy 0, 12, .inl (va 45))), ((vq 58), .inl (cy 0, 8, .inl (va 46))), ((vq 59), .inl (cy 0, 8, .inl (va 47))), ((vq 48), .inl (cy 0, 250, .inl (va 48))), ((vq 60), .inl (cy 3, 12, .inr (.inr (.inr (.inr (fun i => some (am_sights i))))))), ((vq 61), .inl (cy 0, 25, .inl (va 49))), ((vq 62), .inl (cy 0, 25, .inl (va 50))), ((vq 56), .inl (cy 0, 4, .inl (va 51)))] ++ ((if kb then [((vq 63), oX8 (vq 64) (vq 65) (vq 66) (vq 67) (vq 68) (vq 69) (vq 70) (vi 44) (vq 71) (vi 45) (vq 72) (vi 46) (vq 73) (vq 74) (vq 75) (vq 76) (vq 77) (vi 47) (vi 48) (vi 49) wm_kept_kept wm_kept_tried (vi 50) (vi 51) (vi 52) (vi 53) (vi 54) (vq 78) (vi 55) (vq 79) (vq 80) (vq 81) (vi 56) (vi 57) (vq 82) (vq 83) (vq 84)), ((vq 72), .inl (cy 0, 12, .inl (va 52))), ((vq 73), .inl (cy 0, 8, .inl (va 53))), ((vq 74), .inl (cy 0, 8, .inl (va 54))), ((vq 75), .inl (cy 0, 8, .inl (va 55))), ((vq 76), .inl (cy 0, 8, .inl (va 56))), ((vq 77), .inl (cy 0, 8, .inl (va 57)))] else []) ++ ((if tb then [((vq 85), oX8 (vq 86) (vq 87) (vq 88) (vq 89) (vq 90) (vq 91) (vq 92) (vi 58) (vq 93) (vi 59) (vq 94) (vi 60) (vq 95) (vq 96) (vq 97) (vq 98) (vq 99) (vi 61) (vi 62) (vi 63) wm_tried_kept wm_tried_tried (vi 64) (vi 65) (vi 66) (vi 67) (vi 68) (vq 100) (vi 69) (vq 101) (vq 102) (vq 103) (vi 70) (vi 71) (vq 104) (vq 105) (vq 106)), ((vq 94), .inl (cy 0, 12, .inl (va 58))), ((vq 95), .inl (cy 0, 8, .inl (va 59))), ((vq 96), .inl (cy 0, 8, .inl (va 60))), ((vq 97), .inl (cy 0, 8, .inl (va 61))), ((vq 98), .inl (cy 0, 8, .inl (va 62))), ((vq 99), .inl (cy 0, 8, .inl (va 63)))] else []) ++ (wFJ cy 8 40 am_rows m_rows ++ wFI cy 12 25 am_sights m_sights))))) ∧ va_P D vwCl ws H ∧ va_D (fun q : Nat => s.heap.size ≤ q) ws ∧ va_S (fun q : Nat => s.heap.size ≤ q) s.heap H locs
