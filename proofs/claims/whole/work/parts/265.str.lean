/-! ===== the start: the words of a town's text ===== -/
def st_ix : List Nat := [38, 47, 53, 55, 65, 70, 75]
def st_tm (i : Nat) : Term := .string RX6 (st_ix.getD i 0)
def st_F : List Cond := flatC (Jvm.Cond.and given_1 narrow_1)
set_option maxRecDepth 100000 in
theorem st_ex : ∀ i : Nat, i < 7 → Cond.exactly (st_tm i) "java/lang/String" ∈ st_F := by decide +kernel
set_option maxRecDepth 100000 in
theorem st_co : ∀ i : Nat, i < 7 → Cond.eq (.field (st_tm i) "java/lang/String" "coder" "B") (.int 0) ∈ st_F := by decide +kernel
set_option maxRecDepth 100000 in
theorem st_ar : ∀ i : Nat, i < 7 → Cond.arrayOf (.field (st_tm i) "java/lang/String" "value" "[B") .byte ∈ st_F := by decide +kernel
set_option maxRecDepth 100000 in
theorem st_le : ∀ i : Nat, i < 7 → Cond.eq (.length (.field (st_tm i) "java/lang/String" "value" "[B")) (.int (Int32.ofNat (xSlen.getD i 0))) ∈ st_F := by decide +kernel
set_option maxRecDepth 100000 in
theorem st_el : ∀ i : Nat, i < 7 → ∀ j : Nat, j < xSlen.getD i 0 → Cond.eq (.elem (.field (st_tm i) "java/lang/String" "value" "[B") (.int (Int32.ofNat j))) (.int ((xSbyt.getD i []).getD j 0)) ∈ st_F := by decide +kernel
set_option maxRecDepth 100000 in
theorem st_ne : ∀ i : Nat, i < 7 → ∀ j : Nat, j < 7 → i ≠ j → Cond.not (Cond.eq (st_tm i) (st_tm j)) ∈ st_F ∨ Cond.not (Cond.eq (st_tm j) (st_tm i)) ∈ st_F := by decide +kernel
def st_jx : List Nat := [206, 211, 213, 218, 223, 224, 225]
def st_um (i : Nat) : Term := .string RX8 (st_jx.getD i 0)
set_option maxRecDepth 100000 in
theorem st_eq : ∀ i : Nat, i < 7 → Cond.eq (st_tm i) (st_um i) ∈ st_F := by decide +kernel
def st_tx : List String := ["places", "way", "no", "person", "at", "hour", "chance"]
set_option maxRecDepth 100000 in
theorem st_r6 : ∀ i : Nat, i < 7 → Cond.stringRef RX6 (st_ix.getD i 0) (st_tx.getD i "") ∈ lw_tbl := by decide +kernel
set_option maxRecDepth 100000 in
theorem st_r8 : ∀ i : Nat, i < 7 → Cond.stringRef RX8 (st_jx.getD i 0) (st_tx.getD i "") ∈ lw_tbl := by decide +kernel
set_option maxRecDepth 100000 in
theorem st_cs : Cond.eq (.static "java/lang/String" "COMPACT_STRINGS" "Z") (.int 1) ∈ st_F := by decide +kernel
set_option maxRecDepth 100000 in
theorem st_sf : Cond.isRef (.static "jdk/internal/util/Preconditions" "SIOOBE_FORMATTER" "Ljava/util/function/BiFunction;") ∈ st_F := by decide +kernel
theorem st_str {p : Program} {s : State} {m : MethodId} {meth : Method} {c : Code} {b L : Nat} {xs : Nat → Int32} (C0 : lw_At p s m meth c b L xs) : ∃ sK sV : Nat → Nat, xStr sK sV (fun q : Nat => s.heap.size ≤ q) s s.heap ∧ xRef sK s := by
  obtain ⟨hx, hb, hr, hml, hown, hts, hX, hbl, hlocks, hgv⟩ := C0
  have hs : ∀ w ∈ st_F, w.before #[Value.ref b] s = true := flat_of_before _ hgv
  have hA : ∀ a : Nat, a < s.heap.size → ¬ (fun q : Nat => s.heap.size ≤ q) a := fun a h => Nat.not_le.mpr h
  obtain ⟨sK, sV, hS, hev⟩ := vk_Sof (args := #[Value.ref b]) (s := s) (N := 7) (tm := st_tm) (len := xSlen) (byt := xSbyt) (A := fun q : Nat => s.heap.size ≤ q) (by decide) (fun i h => hs _ (st_ex i h)) (fun i h => hs _ (st_co i h)) (fun i h => hs _ (st_ar i h)) (fun i h => hs _ (st_le i h)) (fun i h j hj => hs _ (st_el i h j hj)) (fun i j hi hj h => (st_ne i hi j hj h).imp (hs _) (hs _)) hA
  have hev8 : ∀ i : Nat, i < 7 → (st_um i).eval #[Value.ref b] s none [] s = some (.ref (sK i)) := fun i hi => va_eqR (hs _ (st_eq i hi)) (hev i hi)
  refine ⟨sK, sV, ⟨hS, va_Zof (hts (.laysStatic "java/lang/String" "COMPACT_STRINGS" "Z") (by decide +kernel)) (hts (.initialized "java/lang/String") (by decide +kernel)) (va_eqi (hs _ st_cs)) hA, va_Zqof (hts (.laysStatic "jdk/internal/util/Preconditions" "SIOOBE_FORMATTER" "Ljava/util/function/BiFunction;") (by decide +kernel)) (hts (.initialized "jdk/internal/util/Preconditions") (by decide +kernel)) (hs _ st_sf) hA⟩, ?_⟩
  have h6 : ∀ i : Nat, i < 7 → vk_R RX6 (st_ix.getD i 0) (st_tx.getD i "") (sK i) s := fun i hi => vk_R.of (A := #[Value.ref b]) (hts _ (st_r6 i hi)) (hev i hi)
  have h8 : ∀ i : Nat, i < 7 → vk_R RX8 (st_jx.getD i 0) (st_tx.getD i "") (sK i) s := fun i hi => vk_R.of (A := #[Value.ref b]) (hts _ (st_r8 i hi)) (hev8 i hi)
  exact ⟨⟨h6 0 (by decide), h6 1 (by decide), h6 2 (by decide), h6 3 (by decide), h6 4 (by decide), h6 5 (by decide), h6 6 (by decide)⟩, h8 0 (by decide), h8 1 (by decide), h8 2 (by decide), h8 3 (by decide), h8 4 (by decide), h8 5 (by decide), h8 6 (by decide)⟩
