/-! ===== the whole text ===== -/
def rtR (tz : Int32) (tb : Nat → Int32) (g : Int32 → Int32 → Int32 → Int32 → Int32 → Int32 → Int32 → Int32 → Int32 → Int32 → Int32 → (Nat → Int32) → (Nat → Int32) → (Nat → Int32) → (Nat → Int32) → (Nat → Int32) → (Nat → Int32) → Option (Int32 × Int32 × Int32 × Int32 × Int32 × Int32 × Int32 × Int32 × Int32 × Int32 × (Nat → Int32) × (Nat → Int32) × (Nat → Int32) × (Nat → Int32) × (Nat → Int32) × (Nat → Int32))) (x35 x2 u19 u20 u23 u24 u25 u26 u27 : Int32) (u28 u29 u30 u31 u32 u33 : Nat → Int32) : Option (Int32 × Int32 × Int32 × Int32 × Int32 × Int32 × Int32 × Int32 × Int32 × Int32 × (Nat → Int32) × (Nat → Int32) × (Nat → Int32) × (Nat → Int32) × (Nat → Int32) × (Nat → Int32)) :=
  bo4 (fX6_takeToken u20 u23 tz tb) fun u36 u37 u38 u39 =>
  if u37 = 0 then
    some (x35, u19, u36, u37, u38, u39, u24, u25, u26, u27, u28, u29, u30, u31, u32, u33)
  else
    if u37 = (3 : Int32) then
      vlet (x2 + (1 : Int32)) fun x41 =>
      g x35 x41 u19 u36 u37 u38 u39 u24 u25 u26 u27 u28 u29 u30 u31 u32 u33
    else
      some (x35, u38, u36, u37, u38, u39, u24, u25, u26, u27, u28, u29, u30, u31, u32, u33)
def rtF (tz : Int32) (tb : Nat → Int32) (g : Int32 → Int32 → Int32 → Int32 → Int32 → Int32 → Int32 → Int32 → Int32 → Int32 → Int32 → (Nat → Int32) → (Nat → Int32) → (Nat → Int32) → (Nat → Int32) → (Nat → Int32) → (Nat → Int32) → Option (Int32 × Int32 × Int32 × Int32 × Int32 × Int32 × Int32 × Int32 × Int32 × Int32 × (Nat → Int32) × (Nat → Int32) × (Nat → Int32) × (Nat → Int32) × (Nat → Int32) × (Nat → Int32))) (x1 x2 u3 u4 u5 u6 u7 u8 u9 u10 u11 : Int32) (u12 u13 u14 u15 u16 u17 : Nat → Int32) : Option (Int32 × Int32 × Int32 × Int32 × Int32 × Int32 × Int32 × Int32 × Int32 × Int32 × (Nat → Int32) × (Nat → Int32) × (Nat → Int32) × (Nat → Int32) × (Nat → Int32) × (Nat → Int32)) :=
  if (250 : Int32) < x2 then
    some (x1, u3, u4, u5, u6, u7, u8, u9, u10, u11, u12, u13, u14, u15, u16, u17)
  else
    bo15 (fX6_readStatement u3 u4 u7 tz tb u8 u9 u10 u11 u12 u13 u14 u15 u16 u17) fun u19 u20 u21 u22 u23 u24 u25 u26 u27 u28 u29 u30 u31 u32 u33 =>
    if u19 = (-1 : Int32) then
      vlet (x1 + (1 : Int32)) fun x35 =>
      rtR tz tb g x35 x2 u19 u20 u23 u24 u25 u26 u27 u28 u29 u30 u31 u32 u33
    else
      some (x1, u19, u20, u21, u22, u23, u24, u25, u26, u27, u28, u29, u30, u31, u32, u33)
theorem rt_eq (tok st val tz : Int32) (tb : Nat → Int32) (P n h c : Int32) (W k a hm m l : Nat → Int32) : fX6_readTown tok st val tz tb P n h c W k a hm m l = lo17 (rtF tz tb) 400 0 0 (-1) 0 tok st val P n h c W k a hm m l := rfl
def raS (tz : Int32) (t : Nat → Int32) (g : Int32 → Int32 → Int32 → Int32 → Int32 → Int32 → Int32 → Int32 → Int32 → Int32 → (Nat → Int32) → (Nat → Int32) → (Nat → Int32) → (Nat → Int32) → (Nat → Int32) → (Nat → Int32) → (Nat → Int32) → Option (Int32 × Int32 × Int32 × Int32 × Int32 × Int32 × Int32 × Int32 × Int32 × Int32 × Int32 × (Nat → Int32) × (Nat → Int32) × (Nat → Int32) × (Nat → Int32) × (Nat → Int32) × (Nat → Int32) × (Nat → Int32))) (u24 u25 u26 u27 u42 u43 u44 u45 u32 u33 : Int32) (u34 u35 u36 u37 u38 u39 u40 : Nat → Int32) : Option (Int32 × Int32 × Int32 × Int32 × Int32 × Int32 × Int32 × Int32 × Int32 × Int32 × Int32 × (Nat → Int32) × (Nat → Int32) × (Nat → Int32) × (Nat → Int32) × (Nat → Int32) × (Nat → Int32) × (Nat → Int32)) :=
  bo17 (fX8_statement tz u24 u25 u26 u27 u42 u43 u44 u45 u32 t u34 u35 u36 u37 u38 u39 u40) fun r47 u48 u49 u50 u51 u52 u53 u54 u55 u56 u57 u58 u59 u60 u61 u62 u63 =>
  if r47 = 0 then
    some ((0 : Int32), u48, u49, u50, u51, u52, u53, u54, u55, u56, u33, u57, u58, u59, u60, u61, u62, u63)
  else
    g u48 u49 u50 u51 u52 u53 u54 u55 u56 (u33 + (1 : Int32)) u57 u58 u59 u60 u61 u62 u63
def raF (tz : Int32) (t : Nat → Int32) (g : Int32 → Int32 → Int32 → Int32 → Int32 → Int32 → Int32 → Int32 → Int32 → Int32 → (Nat → Int32) → (Nat → Int32) → (Nat → Int32) → (Nat → Int32) → (Nat → Int32) → (Nat → Int32) → (Nat → Int32) → Option (Int32 × Int32 × Int32 × Int32 × Int32 × Int32 × Int32 × Int32 × Int32 × Int32 × Int32 × (Nat → Int32) × (Nat → Int32) × (Nat → Int32) × (Nat → Int32) × (Nat → Int32) × (Nat → Int32) × (Nat → Int32))) (u24 u25 u26 u27 u28 u29 u30 u31 u32 u33 : Int32) (u34 u35 u36 u37 u38 u39 u40 : Nat → Int32) : Option (Int32 × Int32 × Int32 × Int32 × Int32 × Int32 × Int32 × Int32 × Int32 × Int32 × Int32 × (Nat → Int32) × (Nat → Int32) × (Nat → Int32) × (Nat → Int32) × (Nat → Int32) × (Nat → Int32) × (Nat → Int32)) :=
  if u29 = 0 then
    some ((1 : Int32), u24, u25, u26, u27, u28, u29, u30, u31, u32, u33, u34, u35, u36, u37, u38, u39, u40)
  else
    if u29 = (3 : Int32) then
      bo4 (fX8_look tz u28 t) fun u42 u43 u44 u45 =>
      raS tz t g u24 u25 u26 u27 u42 u43 u44 u45 u32 u33 u34 u35 u36 u37 u38 u39 u40
    else
      bo2 (fX8_wrong u30) fun r66 u67 =>
      if ¬ (r66 = 0 ∨ r66 = 1) then none else
      some (r66, u24, u25, u26, u27, u28, u29, u30, u31, u67, u33, u34, u35, u36, u37, u38, u39, u40)
theorem ra_eq (tz P n h c fault : Int32) (t W k a hm m l told : Nat → Int32) : fX8_readAll tz P n h c fault t W k a hm m l told = bo4 (fX8_look tz 0 t) fun u1 u2 u3 u4 => bo17 (fX8_statement tz P n h c u1 u2 u3 u4 fault t W k a hm m l told) fun r6 u7 u8 u9 u10 u11 u12 u13 u14 u15 u16 u17 u18 u19 u20 u21 u22 => if r6 = 0 then some ((0 : Int32), u7, u8, u9, u10, u11, u12, u13, u14, u15, (1 : Int32), u16, u17, u18, u19, u20, u21, u22) else lo17 (raF tz t) 400 u7 u8 u9 u10 u11 u12 u13 u14 u15 (1 : Int32) u16 u17 u18 u19 u20 u21 u22 := rfl
def ReO (n : Nat) (x : Option (Int32 × Int32 × Int32 × Int32 × Int32 × Int32 × Int32 × Int32 × Int32 × Int32 × (Nat → Int32) × (Nat → Int32) × (Nat → Int32) × (Nat → Int32) × (Nat → Int32) × (Nat → Int32))) (m : Option (Int32 × Int32 × Int32 × Int32 × Int32 × Int32 × Int32 × Int32 × Int32 × Int32 × Int32 × (Nat → Int32) × (Nat → Int32) × (Nat → Int32) × (Nat → Int32) × (Nat → Int32) × (Nat → Int32) × (Nat → Int32))) : Prop :=
  (∃ cnt P' n' h' c' W' K' A' H' M' L' xk xa xh xm xl mk ma mh mm ml x1 x2 x3 x4 z1 z2 z3 z4 z5 told, TW P' n' h' W' K' A' H' M' L' xk xa xh xm xl mk ma mh mm ml ∧ n ≤ n' ∧ x = some (nI cnt, -1, x1, x2, x3, x4, nI P', nI n', nI h', c', nf W', xk, xa, xh, xm, xl) ∧ m = some (1, nI P', nI n', nI h', c', z1, z2, z3, z4, z5, nI cnt, nf W', mk, ma, mh, mm, ml, told))
  ∨ (∃ f y1 y2 y3 y4 y5 y6 y7 y8 y9 y10 y11 y12 y13 y14 y15 z1 z2 z3 z4 z5 z6 z7 z8 z9 z10 z11 z12 z13 z14 z15 z16, f ≤ 250 ∧ (∀ i, 12 ≤ i → z10 i = 0) ∧ x = some (y1, nI f, y2, y3, y4, y5, y6, y7, y8, y9, y10, y11, y12, y13, y14, y15) ∧ m = some (0, z1, z2, z3, z4, z5, z6, z7, z8, nI f, z9, z10, z11, z12, z13, z14, z15, z16))
theorem lo17_s {F} (n : Nat) (a1 a2 a3 a4 a5 a6 a7 a8 a9 a10 a11 : Int32) (a12 a13 a14 a15 a16 a17 : Nat → Int32) : lo17 (ρ := Int32 × Int32 × Int32 × Int32 × Int32 × Int32 × Int32 × Int32 × Int32 × Int32 × (Nat → Int32) × (Nat → Int32) × (Nat → Int32) × (Nat → Int32) × (Nat → Int32) × (Nat → Int32)) F (n + 1) a1 a2 a3 a4 a5 a6 a7 a8 a9 a10 a11 a12 a13 a14 a15 a16 a17 = F (lo17 F n) a1 a2 a3 a4 a5 a6 a7 a8 a9 a10 a11 a12 a13 a14 a15 a16 a17 := rfl
theorem lo17_m {F} (n : Nat) (a1 a2 a3 a4 a5 a6 a7 a8 a9 a10 : Int32) (a11 a12 a13 a14 a15 a16 a17 : Nat → Int32) : lo17 (ρ := Int32 × Int32 × Int32 × Int32 × Int32 × Int32 × Int32 × Int32 × Int32 × Int32 × Int32 × (Nat → Int32) × (Nat → Int32) × (Nat → Int32) × (Nat → Int32) × (Nat → Int32) × (Nat → Int32) × (Nat → Int32)) F (n + 1) a1 a2 a3 a4 a5 a6 a7 a8 a9 a10 a11 a12 a13 a14 a15 a16 a17 = F (lo17 F n) a1 a2 a3 a4 a5 a6 a7 a8 a9 a10 a11 a12 a13 a14 a15 a16 a17 := rfl
theorem p_rest {k : Nat} {b t : Nat → Int32} {B : Nat → Nat} (hk : k ≤ 250) (hb : ag k b B) (ht : ag k t B) (hB : ∀ i, i < k → B i ≤ 255) : ∀ (d : Nat), ∀ (pos n0 P n h : Nat) (c : Int32) (W K A H M L : Nat → Nat) (xk xa xh xm xl mk ma mh mm ml told : Nat → Int32) (e tx tm s v fm cnt i fx fm' : Nat) (val fault : Int32), k - pos ≤ d → d < fx → d < fm' → i < pos → n0 ≤ n → TW P n h W K A H M L xk xa xh xm xl mk ma mh mm ml → TkR k b t pos e tx tm s v fm → ReO n0 (rtR (nI k) b (lo17 (rtF (nI k) b) fx) (nI cnt) (nI i) (-1) (nI pos) val (nI P) (nI n) (nI h) c (nf W) xk xa xh xm xl) (lo17 (raF (nI k) t) fm' (nI P) (nI n) (nI h) c (nI e) (nI tm) (nI s) (nI fm) fault (nI cnt) (nf W) mk ma mh mm ml told) := by
  intro d
  induction d with
  | zero =>
    intro pos n0 P n h c W K A H M L xk xa xh xm xl mk ma mh mm ml told e tx tm s v fm cnt i fx fm' val fault hd hfx hfm hi hn0 w R
    obtain ⟨fm', rfl⟩ : ∃ q, fm' = q + 1 := ⟨fm' - 1, by omega⟩
    have htx : tx = 0 := by
      apply Classical.byContradiction
      intro g
      have h1 := R.2.2.2.2.2.2.2.2.2 g
      have h2 := R.1
      have h3 := R.2.2.1
      omega
    have htm : tm = 0 := by rw [← tk0 R]; exact htx
    obtain ⟨vx, hX, -⟩ := R.2.2.2.1 val
    left
    refine ⟨cnt, P, n, h, c, W, K, A, H, M, L, xk, xa, xh, xm, xl, mk, ma, mh, mm, ml, nI e, nI tx, nI s, vx, nI e, nI tm, nI s, nI fm, fault, told, w, hn0, ?_, ?_⟩
    · unfold rtR
      rw [hX, bo4N, if_pos (show nI tx = (0 : Int32) from by rw [htx]; rfl)]
    · rw [lo17_m]
      unfold raF
      rw [if_pos (show nI tm = (0 : Int32) from by rw [htm]; rfl)]
  | succ d ih =>
    intro pos n0 P n h c W K A H M L xk xa xh xm xl mk ma mh mm ml told e tx tm s v fm cnt i fx fm' val fault hd hfx hfm hi hn0 w R
    obtain ⟨fm', rfl⟩ : ∃ q, fm' = q + 1 := ⟨fm' - 1, by omega⟩
    obtain ⟨fx, rfl⟩ : ∃ q, fx = q + 1 := ⟨fx - 1, by omega⟩
    obtain ⟨vx, hX, -⟩ := R.2.2.2.1 val
    have hs : s ≤ 250 := by have := R.1; have := R.2.1; omega
    have hek : e ≤ k := R.1
    have x0 : (nI tx = (0 : Int32)) = (tx = 0) := neq (b := 0) (by have := R.2.2.2.2.2.2.1; omega) (by omega)
    have m0 : (nI tm = (0 : Int32)) = (tm = 0) := neq (b := 0) (by have := R.2.2.2.2.2.2.2.1; omega) (by omega)
    have x3 : (nI tx = (3 : Int32)) = (tx = 3) := neq (b := 3) (by have := R.2.2.2.2.2.2.1; omega) (by omega)
    have m3 : (nI tm = (3 : Int32)) = (tm = 3) := neq (b := 3) (by have := R.2.2.2.2.2.2.2.1; omega) (by omega)
    have t0 := tk0 R
    have t3 := tk3 R
    rw [lo17_m]
    unfold rtR raF
    rw [hX, bo4N]
    by_cases g0 : tx = 0
    · left
      refine ⟨cnt, P, n, h, c, W, K, A, H, M, L, xk, xa, xh, xm, xl, mk, ma, mh, mm, ml, nI e, nI tx, nI s, vx, nI e, nI tm, nI s, nI fm, fault, told, w, hn0, ?_, ?_⟩
      · rw [if_pos (show nI tx = (0 : Int32) from by rw [x0]; exact g0)]
      · rw [if_pos (show nI tm = (0 : Int32) from by rw [m0, ← t0]; exact g0)]
    · rw [if_neg (show ¬ nI tx = (0 : Int32) from by rw [x0]; exact g0), if_neg (show ¬ nI tm = (0 : Int32) from by rw [m0, ← t0]; exact g0)]
      by_cases g3 : tx = 3
      · have hpos : pos < e := by have := R.2.2.2.2.2.2.2.2.2 g0; have := R.2.2.1; omega
        rw [if_pos (show nI tx = (3 : Int32) from by rw [x3]; exact g3), if_pos (show nI tm = (3 : Int32) from by rw [m3, ← t3]; exact g3)]
        obtain ⟨e1, tx1, tm1, s1, v1, fm1, R1⟩ := tk_ex hk hb ht hB hek
        rw [R1.2.2.2.2.1, bo4N, vletN, nI_1, lo17_s]
        unfold rtF raS
        rw [if_neg (show ¬ (250 : Int32) < nI (i + 1) from by rw [show (250 : Int32) = nI 250 from rfl, nlt (by omega) (by omega)]; omega)]
        rcases p_stat (c := c) hk hb ht hB w R1 vx fault told with ⟨P', n', h', c', W', K', A', H', M', L', xk', xa', xh', xm', xl', mk', ma', mh', mm', ml', pos', e', tx', tm', s', v', fm2, told', y1, y2, y3, w', hn', R', hp', k1, k2⟩ | ⟨f, y1, y2, y3, y4, y5, y6, y7, y8, y9, y10, y11, y12, y13, y14, z1, z2, z3, z4, z5, z6, z7, z8, z9, z10, z11, z12, z13, z14, z15, hf, hz, k1, k2⟩
        · rw [k1, k2, bo15N, bo17N, if_pos rfl, if_neg (by decide), vletN, nI_1]
          exact ih pos' n0 P' n' h' c' W' K' A' H' M' L' xk' xa' xh' xm' xl' mk' ma' mh' mm' ml' told' e' tx' tm' s' v' fm2 (cnt + 1) (i + 1) fx fm' _ fault (by omega) (by omega) (by omega) (by omega) (by omega) w' R'
        · right
          refine ⟨f, nI cnt, y1, y2, y3, y4, y5, y6, y7, y8, y9, y10, y11, y12, y13, y14, z1, z2, z3, z4, z5, z6, z7, z8, nI cnt, z9, z10, z11, z12, z13, z14, z15, hf, hz, ?_, ?_⟩
          · rw [k1, bo15N, if_neg (show ¬ nI f = (-1 : Int32) from by rw [nm1 (by omega)]; exact id)]
          · rw [k2, bo17N, if_pos rfl]
      · right
        refine ⟨s, nI cnt, nI e, nI tx, nI s, vx, nI P, nI n, nI h, c, nf W, xk, xa, xh, xm, xl, nI P, nI n, nI h, c, nI e, nI tm, nI s, nI fm, nI cnt, nf W, mk, ma, mh, mm, ml, told, hs, nf_hi w.1.2.2.2.1 w.1.2.1, ?_, ?_⟩
        · rw [if_neg (show ¬ nI tx = (3 : Int32) from by rw [x3]; exact g3)]
        · unfold fX8_wrong
          rw [if_neg (show ¬ nI tm = (3 : Int32) from by rw [m3, ← t3]; exact g3), bo2N, ifno wr01]
theorem p_readTown {k P n h : Nat} {c : Int32} {W K A H M L : Nat → Nat} {xk xa xh xm xl mk ma mh mm ml : Nat → Int32} {b t : Nat → Int32} {B : Nat → Nat} (hk : k ≤ 250) (hb : ag k b B) (ht : ag k t B) (hB : ∀ i, i < k → B i ≤ 255) (w : TW P n h W K A H M L xk xa xh xm xl mk ma mh mm ml) (tok st val fault : Int32) (told : Nat → Int32) : ReO n (fX6_readTown tok st val (nI k) b (nI P) (nI n) (nI h) c (nf W) xk xa xh xm xl) (fX8_readAll (nI k) (nI P) (nI n) (nI h) c fault t (nf W) mk ma mh mm ml told) := by
  rw [rt_eq, ra_eq, show (400 : Nat) = 399 + 1 from rfl, lo17_s]
  obtain ⟨e1, tx1, tm1, s1, v1, fm1, R1⟩ := tk_ex (pos := 0) hk hb ht hB (Nat.zero_le _)
  rw [show fX8_look (nI k) (0 : Int32) t = _ from R1.2.2.2.2.1, bo4N]
  unfold rtF
  rw [if_neg (by decide)]
  rcases p_stat (c := c) hk hb ht hB w R1 val fault told with ⟨P', n', h', c', W', K', A', H', M', L', xk', xa', xh', xm', xl', mk', ma', mh', mm', ml', pos', e', tx', tm', s', v', fm2, told', y1, y2, y3, w', hn', R', hp', k1, k2⟩ | ⟨f, y1, y2, y3, y4, y5, y6, y7, y8, y9, y10, y11, y12, y13, y14, z1, z2, z3, z4, z5, z6, z7, z8, z9, z10, z11, z12, z13, z14, z15, hf, hz, k1, k2⟩
  · rw [show fX6_readStatement (-1) 0 val (nI k) b (nI P) (nI n) (nI h) c (nf W) xk xa xh xm xl = _ from k1, k2, bo15N, bo17N, if_pos rfl, if_neg (by decide), vletN]
    exact p_rest hk hb ht hB k pos' n P' n' h' c' W' K' A' H' M' L' xk' xa' xh' xm' xl' mk' ma' mh' mm' ml' told' e' tx' tm' s' v' fm2 1 0 399 400 _ fault (by omega) (by omega) (by omega) (by omega) hn' w' R'
  · right
    refine ⟨f, 0, y1, y2, y3, y4, y5, y6, y7, y8, y9, y10, y11, y12, y13, y14, z1, z2, z3, z4, z5, z6, z7, z8, 1, z9, z10, z11, z12, z13, z14, z15, hf, hz, ?_, ?_⟩
    · rw [show fX6_readStatement (-1) 0 val (nI k) b (nI P) (nI n) (nI h) c (nf W) xk xa xh xm xl = _ from k1, bo15N, if_neg (show ¬ nI f = (-1 : Int32) from by rw [nm1 (by omega)]; exact id)]
    · rw [k2, bo17N, if_pos rfl]
