/-! ===== the law's switch ===== -/
def sw_o : Array Int := #[239, 282, 355, 418, 452, 475, 508, 541, 564, 623, 676, 719, 752, 775, 788, 801, 834, 867, 900, 933, 966, 1009, 1052, 1095, 1118, 1161, 1204, 1237, 1270, 1303, 1336, 1359, 1382, 1405, 1428, 1441, 1454, 1487, 1520, 1543, 1576, 1589, 1602, 1615, 1658, 1691, 1714, 1747, 1770, 1793, 1826, 1849, 1872, 1895, 1908, 1921]
def sw_t (k : Nat) : Nat := (33 + (sw_o.getD k 0)).toNat
theorem sw_get : ∀ k, k < 56 → sw_o[k]? = some (sw_o.getD k 0) ∧ (33 : Int) + sw_o.getD k 0 = ((sw_t k : Nat) : Int) := by decide +kernel
theorem n_63 (y : Int32) : ∃ k, k < 64 ∧ y &&& (63 : Int32) = nI k := by
  obtain ⟨k, hk, rfl⟩ := n_all y
  refine ⟨k &&& 63, ?_, ?_⟩
  · have : k &&& 63 ≤ 63 := Nat.and_le_right
    omega
  · rw [show (63 : Int32) = nI 63 from rfl, n_and]
theorem law_disp {p : Program} {l : Launch} {e : Env} {s : State} {m : MethodId} {below : List Frame} {meth : Method} {c : Code} {b L : Nat} {xs : Nat → Int32} (C0 : lw_At p s m meth c b L xs) {H : Heap} {locs : List Loc} {cells slots : Nat} {ls : Array Slot} {y : Int32} (hk : ∀ k, k < 56 → W p l e room_1 s m #[Value.ref b] below meth c H locs cells slots (lw_Z below #[Value.ref b] s) (F0 m (sw_t k) ls [])) (hd : W p l e room_1 s m #[Value.ref b] below meth c H locs cells slots (lw_Z below #[Value.ref b] s) (F0 m 1977 ls [])) : W p l e room_1 s m #[Value.ref b] below meth c H locs cells slots (lw_Z below #[Value.ref b] s) (F0 m 33 ls [.int (y &&& (63 : Int32))]) := by
  obtain ⟨hx, hb, hr, hml, hown, hts0, hX, hbl, hlocks, hgv⟩ := C0
  obtain ⟨k, hk64, e0⟩ := n_63 y
  rw [e0]
  have hi : (nI k).toInt = (k : Int) := nI_toInt (by omega)
  by_cases g : k < 56
  · obtain ⟨s1, s2⟩ := sw_get k g
    exact lv_tableIn (tgt := sw_t k) hx hb dL_law_33 (by rw [hi]; omega) (by rw [hi]; omega) (by rw [hi]; exact s1) s2 (hk k g)
  · exact lv_tableOut (tgt := 1977) hx hb dL_law_33 (Or.inr (by rw [hi]; omega)) (by decide) hd
