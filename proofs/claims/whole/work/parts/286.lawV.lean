/-! ===== the three cases that keep something ===== -/
section LAWV
variable {p : Program} {l : Launch} {e : Env} {s : State} {m : MethodId} {below : List Frame} {meth : Method} {c : Code} {b L : Nat} {xs : Nat → Int32} {D : va_G} {cy : Nat → ClassId}
theorem lcV_image (C0 : lw_At p s m meth c b L xs) (hK : xK D cy s) (hL : L ≤ 3072) {qx qm : Nat} : lawV p l e s m below meth c b L D cy qx qm 53 := by
  intro i kb tb H locs cells slots ls hi hbud hl lw next
  cases kb with
  | false =>
    simp only [Bool.false_eq_true, if_false] at hbud
    refine lc_imageN C0 hK hi hL hl (by omega) (by omega) lw (fun H locs lw => next true tb _ _ H locs ?_ lw)
    simp only [if_true]
    omega
  | true => exact lc_imageR C0 hK hi hL hl (by omega) (by omega) lw (fun H locs lw => next true tb _ _ H locs hbud lw)
theorem lcV_back (C0 : lw_At p s m meth c b L xs) (hK : xK D cy s) (hL : L ≤ 3072) {qx qm : Nat} : lawV p l e s m below meth c b L D cy qx qm 54 := by
  intro i kb tb H locs cells slots ls hi hbud hl lw next
  cases kb with
  | false => exact lc_backN C0 hK hi hL hl (by omega) (by omega) lw (fun H locs lw => next false tb _ _ H locs hbud lw)
  | true => exact lc_backR C0 hK hi hL hl (by omega) (by omega) lw (fun H locs lw => next true tb _ _ H locs hbud lw)
theorem lcV_town (C0 : lw_At p s m meth c b L xs) (hK : xK D cy s) (hL : L ≤ 3072) {sK sV : Nat → Nat} (hE : xStr sK sV (fun q : Nat => s.heap.size ≤ q) s s.heap) (hRf : xRef sK s) {qx qm : Nat} : lawV p l e s m below meth c b L D cy qx qm 14 := by
  intro i kb tb H locs cells slots ls hi hbud hl lw next
  cases tb with
  | false =>
    simp only [Bool.false_eq_true, if_false] at hbud
    refine lc_townN C0 hK hi hL hl (by omega) (by omega) lw hE hRf (fun H locs lw => next kb true _ _ H locs ?_ lw)
    simp only [if_true]
    omega
  | true => exact lc_townR C0 hK hi hL hl (by omega) (by omega) lw hE hRf (fun H locs lw => next kb true _ _ H locs hbud lw)
theorem lcV (C0 : lw_At p s m meth c b L xs) (hK : xK D cy s) (hL : L ≤ 3072) {sK sV : Nat → Nat} (hE : xStr sK sV (fun q : Nat => s.heap.size ≤ q) s s.heap) (hRf : xRef sK s) {qx qm : Nat} : ∀ k, k = 14 ∨ k = 53 ∨ k = 54 → lawV p l e s m below meth c b L D cy qx qm k := by
  intro k hk
  rcases hk with rfl | rfl | rfl
  · exact lcV_town C0 hK hL hE hRf
  · exact lcV_image C0 hK hL
  · exact lcV_back C0 hK hL
end LAWV
