/-! ===== the statements of a text ===== -/
def TW (P n h : Nat) (W K A H M L : Nat → Nat) (xk xa xh xm xl mk ma mh mm ml : Nat → Int32) : Prop := tok P n W K H M L h ∧ ag n xk K ∧ ag n xa A ∧ ag n xh H ∧ ag n xm M ∧ ag n xl L ∧ ag n mk K ∧ ag n ma A ∧ ag n mh H ∧ ag n mm M ∧ ag n ml L
def StO (k : Nat) (b t : Nat → Int32) (pos n : Nat) (fault : Int32) (x : Option (Int32 × Int32 × Int32 × Int32 × Int32 × Int32 × Int32 × Int32 × Int32 × (Nat → Int32) × (Nat → Int32) × (Nat → Int32) × (Nat → Int32) × (Nat → Int32) × (Nat → Int32))) (m : Option (Int32 × Int32 × Int32 × Int32 × Int32 × Int32 × Int32 × Int32 × Int32 × Int32 × (Nat → Int32) × (Nat → Int32) × (Nat → Int32) × (Nat → Int32) × (Nat → Int32) × (Nat → Int32) × (Nat → Int32))) : Prop :=
  (∃ P' n' h' c' W' K' A' H' M' L' xk xa xh xm xl mk ma mh mm ml pos' e tx tm s v fm told x1 x2 x3, TW P' n' h' W' K' A' H' M' L' xk xa xh xm xl mk ma mh mm ml ∧ n ≤ n' ∧ TkR k b t pos' e tx tm s v fm ∧ pos < pos' ∧ x = some (-1, nI pos', x1, x2, x3, nI P', nI n', nI h', c', nf W', xk, xa, xh, xm, xl) ∧ m = some (1, nI P', nI n', nI h', c', nI e, nI tm, nI s, nI fm, fault, nf W', mk, ma, mh, mm, ml, told))
  ∨ (∃ f y1 y2 y3 y4 y5 y6 y7 y8 y9 y10 y11 y12 y13 y14 z1 z2 z3 z4 z5 z6 z7 z8 z9 z10 z11 z12 z13 z14 z15, f ≤ 250 ∧ (∀ i, 12 ≤ i → z9 i = 0) ∧ x = some (nI f, y1, y2, y3, y4, y5, y6, y7, y8, y9, y10, y11, y12, y13, y14) ∧ m = some (0, z1, z2, z3, z4, z5, z6, z7, z8, nI f, z9, z10, z11, z12, z13, z14, z15))
theorem hi_lt {v m : Nat} (hv : v ≤ 999) (hm : m ≤ 12) (h : nI v ≤ nI m - (1 : Int32)) : v < m := by
  by_cases m0 : m = 0
  · subst m0
    rw [Int32.le_iff_toInt_le, nI_toInt (by omega)] at h
    have : (nI 0 - (1 : Int32)).toInt = -1 := by decide
    omega
  · rw [n_m m (by omega), nI_leI (by omega) (by omega)] at h
    omega
theorem hi_no {m : Nat} (hm : m ≤ 12) : ¬ nI 1000 ≤ nI m - (1 : Int32) := by
  intro h
  by_cases m0 : m = 0
  · subst m0
    exact absurd h (by decide)
  · rw [n_m m (by omega), nI_leI (by omega) (by omega)] at h
    omega
theorem hi_no2 {m : Nat} (hm : m ≤ 999) : ¬ nI 1000 ≤ nI m := by
  rw [nI_leI (by omega) (by omega)]; omega
theorem p_way {k P : Nat} {b t : Nat → Int32} {B W : Nat → Nat} {pos e tx tm s v fm : Nat} (hk : k ≤ 250) (hb : ag k b B) (ht : ag k t B) (hB : ∀ i, i < k → B i ≤ 255) (hP : P ≤ 12) (R : TkR k b t pos e tx tm s v fm) (fault : Int32) (told : Nat → Int32) (t0 s0 v0 fl : Int32) :
    (∃ a c pos' e' tx' tm' s' v' fm' told' x1 x2 x3, a < P ∧ c < P ∧ a ≠ c ∧ pos < pos' ∧ TkR k b t pos' e' tx' tm' s' v' fm' ∧ told' 0 = nI a ∧ told' 1 = nI c ∧ fX6_readWay (-1) (nI pos) t0 s0 v0 (nI k) b (nI P) (nf W) fl = some (-1, nI pos', x1, x2, x3, nf (sw W a c fl)) ∧ fX8_tellsTwo (nI k) (nI P) (nI pos) fault t told = some (1, nI e', nI tm', nI s', nI fm', fault, told'))
    ∨ (∃ f y1 y2 y3 y4 y5 z1 z2 z3 z4 z5, f ≤ 250 ∧ fX6_readWay (-1) (nI pos) t0 s0 v0 (nI k) b (nI P) (nf W) fl = some (nI f, y1, y2, y3, y4, y5) ∧ fX8_tellsTwo (nI k) (nI P) (nI pos) fault t told = some (0, z1, z2, z3, z4, nI f, z5)) := by
  have hs : s ≤ 250 := by have := R.1; have := R.2.1; omega
  rcases p_tells R (lo := 0) (hi_no hP) fault told t0 s0 v0 with ⟨h1, h2, h3, h4, ⟨vx, h5⟩, h6⟩ | ⟨⟨x1, x2, x3, x4, h5⟩, h6⟩
  · have ha := hi_lt h3 hP h2
    obtain ⟨e1, tx1, tm1, s1, v1, fm1, R1⟩ := tk_ex hk hb ht hB (show e ≤ k from R.1)
    have hs1 : s1 ≤ 250 := by have := R1.1; have := R1.2.1; omega
    have hM := h6 _ _ _ _ _ _ R1
    rcases p_num (i := 1) R1 (by omega) (lo := 0) (hi_no hP) fault (upd told 0 (nI v)) (nI 2) (nI s) vx with ⟨g1, g2, g3, g4, ⟨vx2, g5⟩, g6⟩ | ⟨⟨x1, x2, x3, x4, g5⟩, g6⟩
    · have hc := hi_lt g3 hP g2
      obtain ⟨e2, tx2, tm2, s2, v2, fm2, R2⟩ := tk_ex hk hb ht hB (show e1 ≤ k from R1.1)
      have gM := g6 _ _ _ _ _ _ R2
      have gM' : fX8_number (nI k) (nI e1) (nI tm1) (nI s1) (nI fm1) fault t (upd told 0 (nI v)) (1 : Int32) (0 : Int32) (nI P - (1 : Int32)) = _ := gM
      -- the second token is a number
      have htm : tm1 = 2 ∧ fm1 = v1 := by
        rcases R1.2.2.2.2.2.1 with ⟨q1, q2, q3, -⟩ | ⟨q1, q2, q3⟩
        · exact ⟨q2, q3⟩
        · obtain ⟨vx3, k1, -⟩ := R1.2.2.2.1 vx
          exfalso
          unfold fX6_takeNumber at g5
          rw [if_pos rfl, k1, bo4N, jo0N, if_neg (show ¬ nI tx1 = (2 : Int32) from by rw [show (nI tx1 = (2 : Int32)) = (tx1 = 2) from neq (b := 2) (by have := R1.2.2.2.2.2.2.1; omega) (by omega)]; exact q1)] at g5
          have := congrArg (fun o => o.map (fun q => q.1)) g5
          simp only [Option.map_some, Option.some.injEq] at this
          exact absurd this.symm (by rw [nm1 (by omega)]; exact id)
      have e0 : (nI v = nI v1) = (v = v1) := neq (by omega) (by omega)
      by_cases q : v = v1
      · right
        refine ⟨s1, nI e1, nI 2, nI s1, vx2, nf W, nI e1, nI tm1, nI s1, nI fm1, upd told 0 (nI v), hs1, ?_, ?_⟩
        · unfold fX6_readWay
          rw [h5, bo6N, g5, bo6N, jo1N, if_pos rfl, if_pos (show nI v = nI v1 from by rw [e0]; exact q)]
          dsimp only
          rw [if_neg (show ¬ nI s1 = (-1 : Int32) from by rw [nm1 (by omega)]; exact id)]
        · unfold fX8_tellsTwo fX8_wrong
          rw [hM, bo7N, if_neg (by decide), jo0N, if_pos (show nI tm1 = (2 : Int32) from by rw [htm.1]; rfl), if_pos (show nI fm1 = upd told 0 (nI v) (0 : Int32).toNatClampNeg from by rw [show (0 : Int32).toNatClampNeg = 0 from rfl, pk_us, htm.2, q]), bo2N, ifno wr01]
      · left
        refine ⟨v, v1, e1, e2, tx2, tm2, s2, v2, fm2, upd (upd told 0 (nI v)) 1 (nI v1), nI 2, nI s1, vx2, ha, hc, q, by omega, R2, ?_, pk_us, ?_, ?_⟩
        · rw [pk_un (by omega), pk_us]
        · unfold fX6_readWay
          rw [h5, bo6N, g5, bo6N, jo1N, if_pos rfl, if_neg (show ¬ nI v = nI v1 from by rw [e0]; exact q)]
          dsimp only
          rw [if_pos rfl, p_setWay (by omega) (by omega) q, bo1N]
        · unfold fX8_tellsTwo
          rw [hM, bo7N, if_neg (by decide), jo0N, if_pos (show nI tm1 = (2 : Int32) from by rw [htm.1]; rfl), if_neg (show ¬ nI fm1 = upd told 0 (nI v) (0 : Int32).toNatClampNeg from by rw [show (0 : Int32).toNatClampNeg = 0 from rfl, pk_us, htm.2, neq (by omega) (by omega)]; exact fun z => q z.symm), gM', bo7N, ifno wr11]
    · right
      refine ⟨s1, x1, x2, x3, x4, nf W, nI e1, nI tm1, nI s1, nI fm1, upd told 0 (nI v), hs1, ?_, ?_⟩
      · unfold fX6_readWay
        rw [h5, bo6N, g5, bo6N, jo1N, if_neg (show ¬ nI s1 = (-1 : Int32) from by rw [nm1 (by omega)]; exact id)]
        dsimp only
        rw [if_neg (show ¬ nI s1 = (-1 : Int32) from by rw [nm1 (by omega)]; exact id)]
      · have g6' : fX8_number (nI k) (nI e1) (nI tm1) (nI s1) (nI fm1) fault t (upd told 0 (nI v)) (1 : Int32) (0 : Int32) (nI P - (1 : Int32)) = _ := g6
        unfold fX8_tellsTwo fX8_wrong
        rw [hM, bo7N, if_neg (by decide), jo0N, g6', bo7N, bo2N, ifno wr01]
        by_cases c1 : nI tm1 = (2 : Int32)
        · rw [if_pos c1]
          by_cases c2 : nI fm1 = upd told 0 (nI v) (0 : Int32).toNatClampNeg
          · rw [if_pos c2]
          · rw [if_neg c2]
        · rw [if_neg c1]
  · right
    refine ⟨s, x1, x2, x3, x4, nf W, nI e, nI tm, nI s, nI fm, told, hs, ?_, ?_⟩
    · unfold fX6_readWay
      rw [h5, bo6N, p_tnf (by omega), bo6N, jo1N, if_neg (show ¬ nI s = (-1 : Int32) from by rw [nm1 (by omega)]; exact id)]
      dsimp only
      rw [if_neg (show ¬ nI s = (-1 : Int32) from by rw [nm1 (by omega)]; exact id)]
    · unfold fX8_tellsTwo
      rw [h6, bo7N, if_pos rfl]
theorem p_at {k P n : Nat} {b t : Nat → Int32} {B : Nat → Nat} {pos e tx tm s v fm : Nat} (hk : k ≤ 250) (hb : ag k b B) (ht : ag k t B) (hB : ∀ i, i < k → B i ≤ 255) (hP : P ≤ 12) (hn : n ≤ 8) (R : TkR k b t pos e tx tm s v fm) (fault : Int32) (told xl : Nat → Int32) (t0 s0 v0 : Int32) :
    (∃ a c pos' e1 tm1 s1 fm1 e' tx' tm' s' v' fm' told1 told' x1 x2 x3, a < n ∧ c < P ∧ pos < pos' ∧ TkR k b t pos' e' tx' tm' s' v' fm' ∧ told' 0 = nI a ∧ told' 1 = nI c ∧ fX6_readAt (-1) (nI pos) t0 s0 v0 (nI k) b (nI P) (nI n) xl = some (-1, nI pos', x1, x2, x3, upd xl a (nI c)) ∧ fX8_tells (nI k) (nI pos) fault t told (0 : Int32) (nI n - (1 : Int32)) = some (1, nI e1, nI tm1, nI s1, nI fm1, fault, told1) ∧ fX8_number (nI k) (nI e1) (nI tm1) (nI s1) (nI fm1) fault t told1 (1 : Int32) (0 : Int32) (nI P - (1 : Int32)) = some (1, nI e', nI tm', nI s', nI fm', fault, told'))
    ∨ (∃ f y1 y2 y3 y4 y5, f ≤ 250 ∧ fX6_readAt (-1) (nI pos) t0 s0 v0 (nI k) b (nI P) (nI n) xl = some (nI f, y1, y2, y3, y4, y5) ∧ ((∃ z1 z2 z3 z4 z5, fX8_tells (nI k) (nI pos) fault t told (0 : Int32) (nI n - (1 : Int32)) = some (0, z1, z2, z3, z4, nI f, z5)) ∨ (∃ a1 a2 a3 a4 a5 a6 z1 z2 z3 z4 z5, fX8_tells (nI k) (nI pos) fault t told (0 : Int32) (nI n - (1 : Int32)) = some (1, a1, a2, a3, a4, a5, a6) ∧ fX8_number (nI k) a1 a2 a3 a4 a5 t a6 (1 : Int32) (0 : Int32) (nI P - (1 : Int32)) = some (0, z1, z2, z3, z4, nI f, z5)))) := by
  have hs : s ≤ 250 := by have := R.1; have := R.2.1; omega
  rcases p_tells R (lo := 0) (hi_no (m := n) (by omega)) fault told t0 s0 v0 with ⟨h1, h2, h3, h4, ⟨vx, h5⟩, h6⟩ | ⟨⟨x1, x2, x3, x4, h5⟩, h6⟩
  · have ha := hi_lt h3 (show n ≤ 12 by omega) h2
    obtain ⟨e1, tx1, tm1, s1, v1, fm1, R1⟩ := tk_ex hk hb ht hB (show e ≤ k from R.1)
    have hs1 : s1 ≤ 250 := by have := R1.1; have := R1.2.1; omega
    have hM := h6 _ _ _ _ _ _ R1
    rcases p_num (i := 1) R1 (by omega) (lo := 0) (hi_no hP) fault (upd told 0 (nI v)) (nI 2) (nI s) vx with ⟨g1, g2, g3, g4, ⟨vx2, g5⟩, g6⟩ | ⟨⟨x1, x2, x3, x4, g5⟩, g6⟩
    · have hc := hi_lt g3 hP g2
      obtain ⟨e2, tx2, tm2, s2, v2, fm2, R2⟩ := tk_ex hk hb ht hB (show e1 ≤ k from R1.1)
      left
      refine ⟨v, v1, e1, e1, tm1, s1, fm1, e2, tx2, tm2, s2, v2, fm2, upd told 0 (nI v), upd (upd told 0 (nI v)) 1 (nI v1), nI 2, nI s1, vx2, ha, hc, by omega, R2, ?_, pk_us, ?_, hM, g6 _ _ _ _ _ _ R2⟩
      · rw [pk_un (by omega), pk_us]
      · unfold fX6_readAt
        rw [h5, bo6N, g5, bo6N, if_pos rfl, if_n (nin (k := v) (N := 8) (by omega) (by omega)), nc (n := v) (by omega)]
    · right
      refine ⟨s1, x1, x2, x3, x4, xl, hs1, ?_, Or.inr ⟨nI e1, nI tm1, nI s1, nI fm1, fault, upd told 0 (nI v), nI e1, nI tm1, nI s1, nI fm1, upd told 0 (nI v), hM, g6⟩⟩
      unfold fX6_readAt
      rw [h5, bo6N, g5, bo6N, if_neg (show ¬ nI s1 = (-1 : Int32) from by rw [nm1 (by omega)]; exact id)]
  · right
    refine ⟨s, x1, x2, x3, x4, xl, hs, ?_, Or.inl ⟨nI e, nI tm, nI s, nI fm, told, h6⟩⟩
    unfold fX6_readAt
    rw [h5, bo6N, p_tnf (by omega), bo6N, if_neg (show ¬ nI s = (-1 : Int32) from by rw [nm1 (by omega)]; exact id)]
theorem p_per {k P n : Nat} {b t : Nat → Int32} {B : Nat → Nat} {pos e tx tm s v fm : Nat} (hk : k ≤ 250) (hb : ag k b B) (ht : ag k t B) (hB : ∀ i, i < k → B i ≤ 255) (hP : P ≤ 12) (hn : n < 8) (R : TkR k b t pos e tx tm s v fm) (fault : Int32) (told xk xa xh xm xl mk ma mh mm ml : Nat → Int32) (t0 s0 v0 : Int32) :
    (∃ q a hm am pos' e' tx' tm' s' v' fm' told' x1 x2 x3, q < 6 ∧ hm < P ∧ am < P ∧ pos < pos' ∧ TkR k b t pos' e' tx' tm' s' v' fm' ∧ fX6_readPerson (-1) (nI pos) t0 s0 v0 (nI k) b (nI P) (nI n) xk xa xh xm xl = some (-1, nI pos', x1, x2, x3, nI (n + 1), upd xk n (nI q), upd xa n (nI a), upd xh n (nI hm), upd xm n (nI am), upd xl n (nI hm)) ∧ fX8_tellsPerson (nI k) (nI P) (nI n) (nI pos) fault t mk ma mh mm ml told = some (1, nI (n + 1), nI e', nI tm', nI s', nI fm', fault, upd mk n (nI q), upd ma n (nI a), upd mh n (nI hm), upd mm n (nI am), upd ml n (nI hm), told'))
    ∨ (∃ f y1 y2 y3 y4 y5 y6 y7 y8 y9 y10 z1 z2 z3 z4 z5 z6 z7 z8 z9 z10 z11, f ≤ 250 ∧ fX6_readPerson (-1) (nI pos) t0 s0 v0 (nI k) b (nI P) (nI n) xk xa xh xm xl = some (nI f, y1, y2, y3, y4, y5, y6, y7, y8, y9, y10) ∧ fX8_tellsPerson (nI k) (nI P) (nI n) (nI pos) fault t mk ma mh mm ml told = some (0, z1, z2, z3, z4, z5, nI f, z6, z7, z8, z9, z10, z11)) := by
  have hs : s ≤ 250 := by have := R.1; have := R.2.1; omega
  have nf1 : ∀ f, f ≤ 250 → ¬ nI f = (-1 : Int32) := fun f hf => by rw [nm1 (by omega)]; exact id
  rcases p_tells R (lo := 0) (hi := 5) (hi_no2 (m := 5) (by omega)) fault told t0 s0 v0 with ⟨h1, h2, h3, h4, ⟨vx, h5⟩, h6⟩ | ⟨⟨x1, x2, x3, x4, h5⟩, h6⟩
  · have hq : v < 6 := by
      have : nI v ≤ nI 5 := h2
      rw [nI_leI (by omega) (by omega)] at this
      omega
    obtain ⟨e1, tx1, tm1, s1, v1, fm1, R1⟩ := tk_ex hk hb ht hB (show e ≤ k from R.1)
    have hs1 : s1 ≤ 250 := by have := R1.1; have := R1.2.1; omega
    have hM := h6 _ _ _ _ _ _ R1
    rcases p_num (i := 1) R1 (by omega) (lo := 0) (hi := 9) (hi_no2 (m := 9) (by omega)) fault (upd told 0 (nI v)) (nI 2) (nI s) vx with ⟨g1, g2, g3, g4, ⟨vx2, g5⟩, g6⟩ | ⟨⟨x1, x2, x3, x4, g5⟩, g6⟩
    · obtain ⟨e2, tx2, tm2, s2, v2, fm2, R2⟩ := tk_ex hk hb ht hB (show e1 ≤ k from R1.1)
      have hs2 : s2 ≤ 250 := by have := R2.1; have := R2.2.1; omega
      have gM : fX8_number (nI k) (nI e1) (nI tm1) (nI s1) (nI fm1) fault t (upd told 0 (nI v)) (1 : Int32) (0 : Int32) (9 : Int32) = _ := g6 _ _ _ _ _ _ R2
      rcases p_num (i := 2) R2 (by omega) (lo := 0) (hi_no hP) fault (upd (upd told 0 (nI v)) 1 (nI v1)) (nI 2) (nI s1) vx2 with ⟨i1, i2, i3, i4, ⟨vx3, i5⟩, i6⟩ | ⟨⟨x1, x2, x3, x4, i5⟩, i6⟩
      · have hhm := hi_lt i3 hP i2
        obtain ⟨e3, tx3, tm3, s3, v3, fm3, R3⟩ := tk_ex hk hb ht hB (show e2 ≤ k from R2.1)
        have hs3 : s3 ≤ 250 := by have := R3.1; have := R3.2.1; omega
        have iM : fX8_number (nI k) (nI e2) (nI tm2) (nI s2) (nI fm2) fault t (upd (upd told 0 (nI v)) 1 (nI v1)) (2 : Int32) (0 : Int32) (nI P - (1 : Int32)) = _ := i6 _ _ _ _ _ _ R3
        rcases p_num (i := 3) R3 (by omega) (lo := 0) (hi_no hP) fault (upd (upd (upd told 0 (nI v)) 1 (nI v1)) 2 (nI v2)) (nI 2) (nI s2) vx3 with ⟨j1, j2, j3, j4, ⟨vx4, j5⟩, j6⟩ | ⟨⟨x1, x2, x3, x4, j5⟩, j6⟩
        · have ham := hi_lt j3 hP j2
          obtain ⟨e4, tx4, tm4, s4, v4, fm4, R4⟩ := tk_ex hk hb ht hB (show e3 ≤ k from R3.1)
          have jM : fX8_number (nI k) (nI e3) (nI tm3) (nI s3) (nI fm3) fault t (upd (upd (upd told 0 (nI v)) 1 (nI v1)) 2 (nI v2)) (3 : Int32) (0 : Int32) (nI P - (1 : Int32)) = _ := j6 _ _ _ _ _ _ R4
          left
          refine ⟨v, v1, v2, v3, e3, e4, tx4, tm4, s4, v4, fm4, upd (upd (upd (upd told 0 (nI v)) 1 (nI v1)) 2 (nI v2)) 3 (nI v3), nI 2, nI s3, vx4, hq, hhm, ham, by omega, R4, ?_, ?_⟩
          · unfold fX6_readPerson fX5_addPerson
            rw [h5, bo6N, g5, bo6N, i5, bo6N, j5, bo6N, if_pos rfl, if_pos (show nI n < (8 : Int32) from by rw [show (8 : Int32) = nI 8 from rfl, nI_ltI (by omega) (by omega)]; exact hn)]
            simp only [if_n (nin (k := n) (N := 8) (by omega) (by omega)), if_n (nin2 (k := n) (N := 8) (by omega) (by omega)), nc (n := n) (by omega), nI_1, bo7N]
          · have q0 : upd (upd (upd (upd told 0 (nI v)) 1 (nI v1)) 2 (nI v2)) 3 (nI v3) (0 : Int32).toNatClampNeg = nI v := by rw [show (0 : Int32).toNatClampNeg = 0 from rfl, pk_un (by omega), pk_un (by omega), pk_un (by omega), pk_us]
            have q1 : upd (upd (upd (upd told 0 (nI v)) 1 (nI v1)) 2 (nI v2)) 3 (nI v3) (1 : Int32).toNatClampNeg = nI v1 := by rw [show (1 : Int32).toNatClampNeg = 1 from rfl, pk_un (by omega), pk_un (by omega), pk_us]
            have q2 : upd (upd (upd (upd told 0 (nI v)) 1 (nI v1)) 2 (nI v2)) 3 (nI v3) (2 : Int32).toNatClampNeg = nI v2 := by rw [show (2 : Int32).toNatClampNeg = 2 from rfl, pk_un (by omega), pk_us]
            have q3 : upd (upd (upd (upd told 0 (nI v)) 1 (nI v1)) 2 (nI v2)) 3 (nI v3) (3 : Int32).toNatClampNeg = nI v3 := by rw [show (3 : Int32).toNatClampNeg = 3 from rfl, pk_us]
            unfold fX8_tellsPerson fX8_addPerson
            rw [hM, bo7N, jo7N, jo6N, if_neg (by decide), gM, bo7N, if_neg (by decide), iM, bo7N, if_neg (by decide), jM, bo7N, if_neg (by decide)]
            dsimp only
            rw [if_neg (by decide), q0, q1, q2, q3]
            simp only [if_n (nin (k := n) (N := 8) (by omega) (by omega)), if_n (nin2 (k := n) (N := 8) (by omega) (by omega)), nc (n := n) (by omega), nI_1, bo6N]
            exact if_neg (by simp)
        · right
          refine ⟨s3, x1, x2, x3, x4, nI n, xk, xa, xh, xm, xl, nI n, nI e3, nI tm3, nI s3, nI fm3, mk, ma, mh, mm, ml, upd (upd (upd told 0 (nI v)) 1 (nI v1)) 2 (nI v2), hs3, ?_, ?_⟩
          · unfold fX6_readPerson
            rw [h5, bo6N, g5, bo6N, i5, bo6N, j5, bo6N, if_neg (nf1 s3 hs3)]
          · have jM : fX8_number (nI k) (nI e3) (nI tm3) (nI s3) (nI fm3) fault t (upd (upd (upd told 0 (nI v)) 1 (nI v1)) 2 (nI v2)) (3 : Int32) (0 : Int32) (nI P - (1 : Int32)) = _ := j6
            unfold fX8_tellsPerson
            rw [hM, bo7N, jo7N, jo6N, if_neg (by decide), gM, bo7N, if_neg (by decide), iM, bo7N, if_neg (by decide), jM, bo7N, if_pos rfl]
            dsimp only
            rw [if_pos rfl, ifno wr01]
      · right
        refine ⟨s2, x1, x2, x3, x4, nI n, xk, xa, xh, xm, xl, nI n, nI e2, nI tm2, nI s2, nI fm2, mk, ma, mh, mm, ml, upd (upd told 0 (nI v)) 1 (nI v1), hs2, ?_, ?_⟩
        · unfold fX6_readPerson
          rw [h5, bo6N, g5, bo6N, i5, bo6N, p_tnf (by omega), bo6N, if_neg (nf1 s2 hs2)]
        · have iM : fX8_number (nI k) (nI e2) (nI tm2) (nI s2) (nI fm2) fault t (upd (upd told 0 (nI v)) 1 (nI v1)) (2 : Int32) (0 : Int32) (nI P - (1 : Int32)) = _ := i6
          unfold fX8_tellsPerson
          rw [hM, bo7N, jo7N, jo6N, if_neg (by decide), gM, bo7N, if_neg (by decide), iM, bo7N, if_pos rfl]
          dsimp only
          rw [if_pos rfl, ifno wr01]
    · right
      refine ⟨s1, x1, x2, x3, x4, nI n, xk, xa, xh, xm, xl, nI n, nI e1, nI tm1, nI s1, nI fm1, mk, ma, mh, mm, ml, upd told 0 (nI v), hs1, ?_, ?_⟩
      · unfold fX6_readPerson
        rw [h5, bo6N, g5, bo6N, p_tnf (by omega), bo6N, p_tnf (by omega), bo6N, if_neg (nf1 s1 hs1)]
      · have gM : fX8_number (nI k) (nI e1) (nI tm1) (nI s1) (nI fm1) fault t (upd told 0 (nI v)) (1 : Int32) (0 : Int32) (9 : Int32) = _ := g6
        unfold fX8_tellsPerson
        rw [hM, bo7N, jo7N, jo6N, if_neg (by decide), gM, bo7N, if_pos rfl]
        dsimp only
        rw [if_pos rfl, ifno wr01]
  · right
    refine ⟨s, x1, x2, x3, x4, nI n, xk, xa, xh, xm, xl, nI n, nI e, nI tm, nI s, nI fm, mk, ma, mh, mm, ml, told, hs, ?_, ?_⟩
    · unfold fX6_readPerson
      rw [h5, bo6N, p_tnf (by omega), bo6N, p_tnf (by omega), bo6N, p_tnf (by omega), bo6N, if_neg (nf1 s hs)]
    · unfold fX8_tellsPerson
      rw [h6, bo7N, jo7N, jo6N, if_pos rfl]
      dsimp only
      rw [if_pos rfl, ifno wr01]
