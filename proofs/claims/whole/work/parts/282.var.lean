/-! ===== image, back, town: what the Model keeps ===== -/
theorem xbMK (x h m k r : va_W) : (x ++ (h ++ (m ++ (k ++ r)))).Perm ((m ++ k) ++ (x ++ (h ++ r))) := by
  refine (xbM x h m (k ++ r)).trans ?_
  rw [List.append_assoc]
  exact (xbM x h k r).append_left m
theorem xbMT (x h m k t r : va_W) : (x ++ (h ++ (m ++ (k ++ (t ++ r))))).Perm ((m ++ t) ++ (x ++ (h ++ (k ++ r)))) := by
  have h1 : (k ++ (t ++ r)).Perm (t ++ (k ++ r)) := List.perm_append_comm_assoc k t r
  exact (((h1.append_left m).append_left h).append_left x).trans (xbMK x h m t (k ++ r))
theorem xbNK (m x h t r n : va_W) : ((m ++ (x ++ (h ++ (([] : va_W) ++ (t ++ r))))) ++ n).Perm (x ++ (h ++ (m ++ (n ++ (t ++ r))))) := by
  have h1 : ((t ++ r) ++ n).Perm (n ++ (t ++ r)) := List.perm_append_comm
  have h2 := (((h1.append_left h).append_left x).append_left m).trans (xbM x h m (n ++ (t ++ r))).symm
  refine List.Perm.trans (List.Perm.of_eq ?_) h2
  simp only [List.append_assoc, List.nil_append]
theorem xbNT (m x h k r n : va_W) : ((m ++ (x ++ (h ++ (k ++ (([] : va_W) ++ r))))) ++ n).Perm (x ++ (h ++ (m ++ (k ++ (n ++ r))))) := by
  have h1 : (r ++ n).Perm (n ++ r) := List.perm_append_comm
  have h2 := ((((h1.append_left k).append_left h).append_left x).append_left m).trans (xbM x h m (k ++ (n ++ r))).symm
  refine List.Perm.trans (List.Perm.of_eq ?_) h2
  simp only [List.append_assoc, List.nil_append]
theorem xP_app {D : va_G} {cl : List vw_C} {w w' : va_W} {H : Heap} (h : va_P D cl w H) (h' : va_P D cl w' H) : va_P D cl (w ++ w') H := xP_of (fun q hq => (List.mem_append.mp hq).elim (fun g => xP_mem h g) (fun g => xP_mem h' g))
section XNN
variable {p : Program} {l : Launch} {e : Env} {R : Room} {s : State} {m : MethodId} {args : Array Value} {below : List Frame} {meth : Method} {c : Code} {H : Heap} {locs : List Loc} {cells slots : Nat} {Q : State → Prop} {pc : Nat} {ls : Array Slot} {rest st0 : List Value} {a : Array Value} {D : va_G} {ws wc pl : va_W} {A0 : Nat → Prop} {H0 : Heap} {nc ns : Nat}
theorem xcQiN {v : Int32} {w1 wn : (Nat → Nat) → va_W} (hr : va_Run p l e R s m args below meth c H locs cells slots nc ns (F0 m pc ls st0) rest (va_Qi (fun (r : Int32) (_ : Nat → Nat) => r = v) (fun u t => va_P D vwCl (w1 u ++ wn u) t.heap ∧ va_D (va_A wc H.size) (w1 u ++ wn u)) (va_A wc H.size) a) (va_A wc H.size)) (hP : va_P D vwCl (ws ++ pl) H) (hD : va_D A0 (ws ++ pl)) (hS : va_S A0 H0 H locs) (hA : ∀ q, H0.size ≤ q → A0 q) (isC : List Nat) (h1 : isC.map (fun i => ws[i]?) = wc.map some) (h2 : ∀ u, (w1 u).map Prod.fst = wc.map Prod.fst)
    (kk : ∀ (u : Nat → Nat) (H1 : Heap) (locs1 : List Loc), va_P D vwCl ((xrp isC (w1 u) 0 ws ++ pl) ++ wn u) H1 → va_D A0 ((xrp isC (w1 u) 0 ws ++ pl) ++ wn u) → va_S A0 H0 H1 locs1 → W p l e R s m args below meth c H1 locs1 (cells + nc) (slots + ns) Q (F0 m (pc + 3) ls (.int v :: rest))) : W p l e R s m args below meth c H locs cells slots Q (F0 m pc ls st0) := by
  have hFc := xfree (wc := wc) hD hS hA (fun q hq => List.mem_append_left _ (xwc_mem h1 hq))
  refine va_calli hr hS (fun q _ h => hFc q h) hFc (fun r u t H1 locs1 ht hvm hw hB hz1 hk1 hS1 => ?_)
  rw [ht] at hB
  obtain ⟨hB1, hB2⟩ := hB
  have hBw : va_P D vwCl (w1 u) H1 := xP_of (fun q hq => xP_mem hB1 (List.mem_append_left _ hq))
  have hBn : va_P D vwCl (wn u) H1 := xP_of (fun q hq => xP_mem hB1 (List.mem_append_right _ hq))
  obtain ⟨hP2, hD2⟩ := xjoinQ hP hD isC h1 (h2 u) hk1 hBw
  cases hw
  obtain ⟨hn1, hn2⟩ := xD_iff.mp hB2
  obtain ⟨hm1, hm2⟩ := xD_iff.mp hD2
  rw [List.map_append] at hn1
  obtain ⟨hn3, hn4, hn5⟩ := List.nodup_append.mp hn1
  have hbig : ∀ q ∈ wn u, H.size ≤ q.1 := by
    intro q hq
    rcases hn2 q (List.mem_append_right _ hq) with ⟨k, e', hk⟩ | h
    · exfalso
      have h6 : q.1 ∈ wc.map Prod.fst := List.mem_map.mpr ⟨_, List.mem_of_getElem? hk, rfl⟩
      rw [← h2 u] at h6
      exact hn5 _ h6 _ (List.mem_map.mpr ⟨q, hq, rfl⟩) rfl
    · exact h
  have hfst : (xrp isC (w1 u) 0 ws ++ pl).map Prod.fst = (ws ++ pl).map Prod.fst := by
    rw [List.map_append, List.map_append, xrp_fst h1 (h2 u)]
  refine kk u H1 locs1 (xP_app hP2 hBn) (xD_iff.mpr ⟨?_, fun q hq => ?_⟩) hS1
  · rw [List.map_append]
    refine List.nodup_append.mpr ⟨hm1, hn4, fun x hx y hy e => ?_⟩
    subst e
    rw [hfst] at hx
    obtain ⟨q, hq, hqe⟩ := List.mem_map.mp hx
    obtain ⟨q', hq', hqe'⟩ := List.mem_map.mp hy
    have h7 := hbig q' hq'
    have h8 := (xP_mem hP hq).lt
    rw [hqe'] at h7
    rw [hqe] at h8
    exact absurd h8 (Nat.not_lt.mpr h7)
  · rcases List.mem_append.mp hq with h | h
    · exact hm2 q h
    · exact hA _ (Nat.le_trans hS.1 (hbig q h))
end XNN
