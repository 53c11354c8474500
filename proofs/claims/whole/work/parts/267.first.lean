/-! ===== the start: lemmas, and the first state ===== -/
/-- what a constructor made, beside the rest -/
theorem st_join {A0 : Nat → Prop} {D : va_G} {cl : List vw_C} {w w1 : va_W} {c0 : Nat × va_E} {H H1 : Heap} (hP : va_P D cl (w ++ [c0]) H) (hD : va_D A0 (w ++ [c0])) (hk : ∀ q : Nat, q < H.size → ¬ va_A [c0] H.size q → H1[q]? = H[q]?) (hF : ∀ q, va_A [c0] H.size q → A0 q) (hP1 : va_P D cl w1 H1) (hD1 : va_D (va_A [c0] H.size) w1) : va_P D cl (w ++ w1) H1 ∧ va_D A0 (w ++ w1) := by
  have hw : ∀ q ∈ w, va_at D cl q H := fun q hq => xP_mem hP (List.mem_append_left _ hq)
  have hne : ∀ q ∈ w, q.1 ≠ c0.1 := fun q hq => xD_app hD hq (x := c0) (List.mem_singleton.mpr rfl)
  have hnA : ∀ q ∈ w, ¬ va_A [c0] H.size q.1 := by
    rintro q hq (⟨k, ee, hj⟩ | hj)
    · have h1 := List.mem_singleton.mp (List.mem_of_getElem? hj)
      exact hne q hq (show (q.1, ee).1 = c0.1 from congrArg Prod.fst h1)
    · exact absurd hj (Nat.not_le.mpr (hw q hq).lt)
  obtain ⟨hd1, hd2⟩ := xD_iff.mp hD
  rw [List.map_append] at hd1
  obtain ⟨he1, he2⟩ := xD_iff.mp hD1
  refine ⟨xP_of fun q hq => ?_, xD_iff.mpr ⟨?_, fun q hq => ?_⟩⟩
  · rcases List.mem_append.mp hq with h | h
    · exact (hw q h).kept (hk q.1 (hw q h).lt (hnA q h))
    · exact xP_mem hP1 h
  · rw [List.map_append]
    refine List.nodup_append.mpr ⟨(List.nodup_append.mp hd1).1, he1, fun x hx y hy e => ?_⟩
    subst e
    obtain ⟨q, hq, hqe⟩ := List.mem_map.mp hx
    obtain ⟨q', hq', hqe'⟩ := List.mem_map.mp hy
    refine hnA q hq ?_
    rw [hqe, ← hqe']
    exact he2 q' hq'
  · rcases List.mem_append.mp hq with h | h
    · exact hd2 q (List.mem_append_left _ h)
    · exact hF _ (he2 q h)
/-- a block's cells in another order -/
theorem st_reP {D : va_G} {cl : List vw_C} {l l' R : va_W} {H : Heap} (hP : va_P D cl (l ++ R) H) (is : List Nat) (hs : is.map (fun i => l[i]?) = l'.map some) : va_P D cl (l' ++ R) H := xP_of fun q hq => (List.mem_append.mp hq).elim (fun h => xP_mem hP (List.mem_append_left _ (xwc_mem hs h))) (fun h => xP_mem hP (List.mem_append_right _ h))
theorem st_reD {A : Nat → Prop} {l l' R : va_W} (hD : va_D A (l ++ R)) (is : List Nat) (hn : va_nd is = true) (hs : is.map (fun i => l[i]?) = l'.map some) : va_D A (l' ++ R) := by
  obtain ⟨h1, h2⟩ := xD_iff.mp hD
  rw [List.map_append] at h1
  have hl : va_D A l := xD_iff.mpr ⟨(List.nodup_append.mp h1).1, fun q hq => h2 q (List.mem_append_left _ hq)⟩
  obtain ⟨g1, g2⟩ := xD_iff.mp (hl.sub (ws' := l') is hn hs)
  refine xD_iff.mpr ⟨?_, fun q hq => ?_⟩
  · rw [List.map_append]
    refine List.nodup_append.mpr ⟨g1, (List.nodup_append.mp h1).2.1, fun x hx y hy e => ?_⟩
    subst e
    obtain ⟨q, hq, hqe⟩ := List.mem_map.mp hx
    obtain ⟨q', hq', hqe'⟩ := List.mem_map.mp hy
    exact xD_app hD (xwc_mem hs hq) hq' (hqe.trans hqe'.symm)
  · rcases List.mem_append.mp hq with h | h
    · exact g2 q h
    · exact h2 q (List.mem_append_right _ h)
def st_d : Nat → Int32 := md (fun _ => 0) (fun _ => 0) 12
theorem st_nf0 : nf (fun _ => 0) = (fun _ => 0) := by funext i; rfl
theorem st_wok : wok 6 (fun _ => 0) := ⟨fun _ => Nat.two_pow_pos 6, fun _ _ => by simp, fun _ => by simp⟩
theorem st_measure : fX5_measure (fun _ => 0) (fun _ => 0) = some st_d := by
  have h := p_measure (W := fun _ => 0) (P := 6) (old := fun _ => 0) st_wok (by decide)
  rw [st_nf0] at h
  exact h
theorem st_rel {k0 : Int32} {k1 : Int32} {k2 : Int32} {k3 : Int32} {k4 : Int32} {k5 : Nat → Int32} {k6 : Nat → Int32} {k7 : Nat → Int32} {k8 : Nat → Int32} {k9 : Nat → Int32} {k10 : Nat → Int32} : Rel false (6 : Int32) (0 : Int32) (0 : Int32) (3 : Int32) (1 : Int32) (fun _ => 0) st_d (fun _ => 0) (fun _ => 0) (fun _ => 0) (fun _ => 0) (fun _ => 0) (6 : Int32) (0 : Int32) (0 : Int32) (3 : Int32) (1 : Int32) (fun _ => 0) st_d (fun _ => 0) (fun _ => 0) (fun _ => 0) (fun _ => 0) (fun _ => 0) (0 : Int32) (fun _ => -1) (fun _ => 0) (fun _ _ => 0) (0 : Int32) (fun _ => 0) (fun _ => 0) (6 : Int32) (0 : Int32) (0 : Int32) (3 : Int32) (1 : Int32) (fun _ => 0) (fun _ => 0) (fun _ => 0) (fun _ => 0) (fun _ => 0) (fun _ => 0) (fun _ => 0) (fun _ => 0) (fun _ => 0) (fun _ _ => 0) (fun _ => 0) (fun _ => 0) (0 : Int32) (fun _ => 0) (-1 : Int32) k0 k1 k2 k3 k4 k5 k6 k7 k8 k9 k10 := by
  refine ⟨6, 0, 0, 3, 1, fun _ => 0, fun _ => 0, fun _ => 0, fun _ => 0, fun _ => 0, fun _ => 0, ?_, ?_, ?_, rfl, ?_, ?_, ?_, ?_⟩
  · exact ⟨by decide, by decide, by decide, st_wok, fun p h => absurd h (Nat.not_lt_zero p), fun p h => absurd h (Nat.not_lt_zero p), fun p h => absurd h (Nat.not_lt_zero p), fun p h => absurd h (Nat.not_lt_zero p), by decide⟩
  · exact ⟨rfl, rfl, rfl, rfl, rfl, st_nf0.symm, md_dok _ _, fun p h => absurd h (Nat.not_lt_zero p), fun p h => absurd h (Nat.not_lt_zero p), fun p h => absurd h (Nat.not_lt_zero p), fun p h => absurd h (Nat.not_lt_zero p), fun p h => absurd h (Nat.not_lt_zero p)⟩
  · exact ⟨rfl, rfl, rfl, rfl, rfl, st_nf0.symm, fun p h => absurd h (Nat.not_lt_zero p), fun p h => absurd h (Nat.not_lt_zero p), fun p h => absurd h (Nat.not_lt_zero p), fun p h => absurd h (Nat.not_lt_zero p), fun p h => absurd h (Nat.not_lt_zero p)⟩
  · exact fun t _ => Or.inl ⟨rfl, rfl, rfl⟩
  · exact ⟨0, fun _ => 0, by decide, rfl, rfl, fun p h => absurd h (Nat.not_lt_zero p), fun p h => absurd h (Nat.not_lt_zero p), fun p h => absurd h (Nat.not_lt_zero p)⟩
  · exact fun t _ => rfl
  · exact Or.inr ⟨rfl, rfl⟩
