/-! ===== the law's loop ===== -/
theorem n_sub6 {L : Nat} (hL : L ≤ 3072) : (Int32.ofNat L - (6 : Int32)).toInt = (L : Int) - 6 := by
  show (nI L - nI 6).toInt = _
  rw [Int32.toInt_sub, nI_toInt (by omega), nI_toInt (by omega), Int.bmod_eq_of_le (by omega) (by omega)]
  rfl
def lawV (p : Program) (l : Launch) (e : Env) (s : State) (m : MethodId) (below : List Frame) (meth : Method) (c : Code) (b L : Nat) (D : va_G) (cy : Nat → ClassId) (qx qm k : Nat) : Prop := ∀ {i : Nat} {kb tb : Bool} {H : Heap} {locs : List Loc} {cells slots : Nat} {ls : Array Slot}, i + 6 ≤ L → cells + (if kb then 0 else 42) + (if tb then 0 else 42) ≤ 500000 ∧ slots + (if kb then 0 else 1141) + (if tb then 0 else 1141) ≤ 7000000 → lv_has ls 4 [(0, .ref b), (1, .ref qx), (2, .ref qm), (3, .int (nI i))] → LW D cy s kb tb qx qm H locs → (∀ (kb' tb' : Bool) (cells' slots' : Nat) (H : Heap) (locs : List Loc), cells' + (if kb' then 0 else 42) + (if tb' then 0 else 42) ≤ 500000 ∧ slots' + (if kb' then 0 else 1141) + (if tb' then 0 else 1141) ≤ 7000000 → LW D cy s kb' tb' qx qm H locs → W p l e room_1 s m #[Value.ref b] below meth c H locs cells' slots' (lw_Z below #[Value.ref b] s) (F0 m 1977 ls [])) → W p l e room_1 s m #[Value.ref b] below meth c H locs cells slots (lw_Z below #[Value.ref b] s) (F0 m (sw_t k) ls [])
set_option maxHeartbeats 4000000 in
set_option maxRecDepth 100000 in
theorem law_loop {p : Program} {l : Launch} {e : Env} {s : State} {m : MethodId} {below : List Frame} {meth : Method} {c : Code} {b L : Nat} {xs : Nat → Int32} {D : va_G} {cy : Nat → ClassId} (C0 : lw_At p s m meth c b L xs) (hK : xK D cy s) (hL : L ≤ 3072) {qx qm : Nat} (hV : ∀ k, k = 14 ∨ k = 53 ∨ k = 54 → lawV p l e s m below meth c b L D cy qx qm k) : ∀ (n i : Nat), L + 7 ≤ i + n → i ≤ L + 6 → ∀ (kb tb : Bool) (cells slots : Nat) (H : Heap) (locs : List Loc) (ls : Array Slot), cells + (if kb then 0 else 42) + (if tb then 0 else 42) ≤ 500000 ∧ slots + (if kb then 0 else 1141) + (if tb then 0 else 1141) ≤ 7000000 → lv_has ls 4 [(0, .ref b), (1, .ref qx), (2, .ref qm), (3, .int (nI i))] → LW D cy s kb tb qx qm H locs → W p l e room_1 s m #[Value.ref b] below meth c H locs cells slots (lw_Z below #[Value.ref b] s) (F0 m 18 ls []) := by
  have C1 := C0
  obtain ⟨hx, hb, hr, hml, hown, hts0, hX, hbl, hlocks, hgv⟩ := C1
  have hbA : ¬ (fun q : Nat => s.heap.size ≤ q) b := Nat.not_le.mpr hbl
  intro n
  induction n with
  | zero => intro i h1 h2; exact absurd h1 (by omega)
  | succ n ih =>
    intro i h1 h2 kb tb cells slots H locs ls hbud hl lw
    have hS : va_S (fun q : Nat => s.heap.size ≤ q) s.heap H locs := by
      obtain ⟨vi, vq, va, ax_shelves, ex_shelves, x_shelves_e, adK, adV, am_rows, wm_kept, wm_tried, m_rows, m_moved, am_sights, m_sights, wm_kept_kept, wm_kept_tried, wm_tried_kept, wm_tried_tried, R, ek, et, ws, rfl, hP, hD, hS⟩ := lw
      exact hS
    refine lv_iload_n hx hb dL_law_18 rfl (lv_at hl 3 rfl) ?_
    refine lv_aload_n hx hb dL_law_19 rfl (lv_at hl 0 rfl) ?_
    refine va_slen hx hb hX hbl hbA hS dL_law_20 ?_
    refine lv_bipush (v := 6) hx hb dL_law_21 (by decide) ?_
    refine lv_isub hx hb dL_law_23 ?_
    refine lv_icmp_gt (tgt := 1983) hx hb dL_law_24 (by decide) (fun c1 => ?_) (fun c1 => ?_)
    · refine lv_iconst (v := 1) hx hb dL_law_1983 (by decide) ?_
      refine va_forget (fun q hq => hS.2.2 q hq) ?_
      refine W.widen (k := 600000) (n := 7302249) (by omega) (by omega) ?_
      exact lw_ret hx hb hr hlocks dL_law_1984
    · have hi : i + 6 ≤ L := by
        have c2 := Int32.not_lt.mp c1
        rw [Int32.le_iff_toInt_le, n_sub6 hL, nI_toInt (by omega)] at c2
        omega
      have hin : vp_in (nI i) L := vp_in_nI (by omega) (by omega)
      have next : ∀ (kb' tb' : Bool) (cells' slots' : Nat) (H : Heap) (locs : List Loc), cells' + (if kb' then 0 else 42) + (if tb' then 0 else 42) ≤ 500000 ∧ slots' + (if kb' then 0 else 1141) + (if tb' then 0 else 1141) ≤ 7000000 → LW D cy s kb' tb' qx qm H locs → W p l e room_1 s m #[Value.ref b] below meth c H locs cells' slots' (lw_Z below #[Value.ref b] s) (F0 m 1977 ls []) := by
        intro kb' tb' cells' slots' H locs hb' lw'
        obtain ⟨x4, ex4⟩ : ∃ y : Int32, y = nI (i + 6) := ⟨_, rfl⟩
        refine lv_iinc (v := x4) (lv' := [(3, .int x4), (0, .ref b), (1, .ref qx), (2, .ref qm)]) hx hb dL_law_1977 hl (k := 3) rfl (by rw [ex4]; exact nI_add i 6) (by decide) rfl (fun ls hl => ?_)
        refine lv_goto (tgt := 18) hx hb dL_law_1980 (by decide) ?_
        subst ex4
        exact ih (i + 6) (by omega) (by omega) kb' tb' cells' slots' H locs ls hb' (lv_sub hl [1, 2, 3, 0] rfl) lw'
      refine lv_aload_n hx hb dL_law_27 rfl (lv_at hl 0 rfl) ?_
      refine lv_iload_n hx hb dL_law_28 rfl (lv_at hl 3 rfl) ?_
      refine va_sld hx hb hX hbl hbA hS hin dL_law_29 ?_
      refine lv_bipush (v := 63) hx hb dL_law_30 (by decide) ?_
      refine lv_iand hx hb dL_law_32 ?_
      have hcs : cells ≤ 500000 := by omega
      have hss : slots ≤ 7000000 := by omega
      have nx1 := fun H locs => next kb tb cells slots H locs hbud
      refine law_disp C0 (fun k hk => ?_) (nx1 H locs lw)
      match k, hk with
      | 0, _ => exact lc_row C0 hK hi hL hl hcs hss lw nx1
      | 1, _ => exact lc_set C0 hK hi hL hl hcs hss lw nx1
      | 2, _ => exact lc_copy C0 hK hi hL hl hcs hss lw nx1
      | 3, _ => exact lc_element C0 hK hi hL hl hcs hss lw nx1
      | 4, _ => exact lc_holds C0 hK hi hL hl hcs hss lw nx1
      | 5, _ => exact lc_show C0 hK hi hL hl hcs hss lw nx1
      | 6, _ => exact lc_says C0 hK hi hL hl hcs hss lw nx1
      | 7, _ => exact lc_places C0 hK hi hL hl hcs hss lw nx1
      | 8, _ =>
        by_cases c3 : xs (nI i + (3 : Int32)).toNatClampNeg = 0
        · exact lc_way0 C0 hK hi hL hl hcs hss lw c3 nx1
        · exact lc_way1 C0 hK hi hL hl hcs hss lw c3 nx1
      | 9, _ => exact lc_person C0 hK hi hL hl hcs hss lw nx1
      | 10, _ => exact lc_put C0 hK hi hL hl hcs hss lw nx1
      | 11, _ => exact lc_tell C0 hK hi hL hl hcs hss lw nx1
      | 12, _ => exact lc_feed C0 hK hi hL hl hcs hss lw nx1
      | 13, _ => exact lc_wipe C0 hK hi hL hl hcs hss lw nx1
      | 14, _ => exact hV 14 (by decide) hi hbud hl lw next
      | 15, _ => exact lc_personOf C0 hK hi hL hl hcs hss lw nx1
      | 16, _ => exact lc_isWay C0 hK hi hL hl hcs hss lw nx1
      | 17, _ => exact lc_far C0 hK hi hL hl hcs hss lw nx1
      | 18, _ => exact lc_where C0 hK hi hL hl hcs hss lw nx1
      | 19, _ => exact lc_shines C0 hK hi hL hl hcs hss lw nx1
      | 20, _ => exact lc_crowd C0 hK hi hL hl hcs hss lw nx1
      | 21, _ => exact lc_starts C0 hK hi hL hl hcs hss lw nx1
      | 22, _ => exact lc_kinds C0 hK hi hL hl hcs hss lw nx1
      | 23, _ => exact lc_next C0 hK hi hL hl hcs hss lw nx1
      | 24, _ => exact lc_hidden C0 hK hi hL hl hcs hss lw nx1
      | 25, _ => exact lc_find C0 hK hi hL hl hcs hss lw nx1
      | 26, _ => exact lc_untold C0 hK hi hL hl hcs hss lw nx1
      | 27, _ => exact lc_meet C0 hK hi hL hl hcs hss lw nx1
      | 28, _ => exact lc_darkest C0 hK hi hL hl hcs hss lw nx1
      | 29, _ => exact lc_light C0 hK hi hL hl hcs hss lw nx1
      | 30, _ => exact lc_when C0 hK hi hL hl hcs hss lw nx1
      | 31, _ => exact lc_always C0 hK hi hL hl hcs hss lw nx1
      | 32, _ => exact lc_never C0 hK hi hL hl hcs hss lw nx1
      | 33, _ => exact lc_flickers C0 hK hi hL hl hcs hss lw nx1
      | 34, _ => exact lc_round C0 hK hi hL hl hcs hss lw nx1
      | 35, _ => exact lc_going C0 hK hi hL hl hcs hss lw nx1
      | 36, _ => exact lc_arrives C0 hK hi hL hl hcs hss lw nx1
      | 37, _ => exact lc_seen C0 hK hi hL hl hcs hss lw nx1
      | 38, _ => exact lc_without C0 hK hi hL hl hcs hss lw nx1
      | 39, _ => exact lc_best C0 hK hi hL hl hcs hss lw nx1
      | 40, _ => exact lc_middle C0 hK hi hL hl hcs hss lw nx1
      | 41, _ => exact lc_parts C0 hK hi hL hl hcs hss lw nx1
      | 42, _ => exact lc_newWay C0 hK hi hL hl hcs hss lw nx1
      | 43, _ => exact lc_together C0 hK hi hL hl hcs hss lw nx1
      | 44, _ => exact lc_alone C0 hK hi hL hl hcs hss lw nx1
      | 45, _ => exact lc_covered C0 hK hi hL hl hcs hss lw nx1
      | 46, _ => exact lc_reach C0 hK hi hL hl hcs hss lw nx1
      | 47, _ => exact lc_farthest C0 hK hi hL hl hcs hss lw nx1
      | 48, _ => exact lc_ofKind C0 hK hi hL hl hcs hss lw nx1
      | 49, _ => exact lc_judge C0 hK hi hL hl hcs hss lw nx1
      | 50, _ => exact lc_hours C0 hK hi hL hl hcs hss lw nx1
      | 51, _ => exact lc_drawn C0 hK hi hL hl hcs hss lw nx1
      | 52, _ => exact lc_seed C0 hK hi hL hl hcs hss lw nx1
      | 53, _ => exact hV 53 (by decide) hi hbud hl lw next
      | 54, _ => exact hV 54 (by decide) hi hbud hl lw next
      | 55, _ => exact lc_status C0 hK hi hL hl hcs hss lw nx1
      | k + 56, h => exact absurd h (by omega)
