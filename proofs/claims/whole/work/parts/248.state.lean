/-! ===== one statement, both sides ===== -/
theorem cl0 : (0 : Int32).toNatClampNeg = 0 := rfl
theorem cl1 : (1 : Int32).toNatClampNeg = 1 := rfl
theorem nd_1 : ¬ (nI 1 = (0 : Int32)) := by decide
theorem nd_0 : nI 0 = (0 : Int32) := rfl
theorem p_stat {k P n h : Nat} {c : Int32} {W K A H M L : Nat → Nat} {xk xa xh xm xl mk ma mh mm ml : Nat → Int32} {b t : Nat → Int32} {B : Nat → Nat} {pos e tx tm s v fm : Nat} (hk : k ≤ 250) (hb : ag k b B) (ht : ag k t B) (hB : ∀ i, i < k → B i ≤ 255) (w : TW P n h W K A H M L xk xa xh xm xl mk ma mh mm ml) (R : TkR k b t pos e tx tm s v fm) (val fault : Int32) (told : Nat → Int32) : StO k b t pos n fault (fX6_readStatement (-1) (nI pos) val (nI k) b (nI P) (nI n) (nI h) c (nf W) xk xa xh xm xl) (fX8_statement (nI k) (nI P) (nI n) (nI h) c (nI e) (nI tm) (nI s) (nI fm) fault t (nf W) mk ma mh mm ml told) := by
  have w0 := w
  obtain ⟨T, a1, a2, a3, a4, a5, b1, b2, b3, b4, b5⟩ := w
  obtain ⟨hP2, hP, hn, hW, hK, hH, hM, hL, hho⟩ := id T
  obtain ⟨vx, hX, -⟩ := R.2.2.2.1 val
  have hs : s ≤ 250 := by have := R.1; have := R.2.1; omega
  have hpe : pos ≤ e := by have := R.2.1; have := R.2.2.1; omega
  have hek : e ≤ k := R.1
  obtain ⟨r0, c0, d0⟩ := p_isWord (w := 0) hk hb ht (by omega) R
  obtain ⟨r1, c1, d1⟩ := p_isWord (w := 1) hk hb ht (by omega) R
  obtain ⟨r2, c2, d2⟩ := p_isWord (w := 2) hk hb ht (by omega) R
  obtain ⟨r3, c3, d3⟩ := p_isWord (w := 3) hk hb ht (by omega) R
  obtain ⟨r4, c4, d4⟩ := p_isWord (w := 4) hk hb ht (by omega) R
  obtain ⟨r5, c5, d5⟩ := p_isWord (w := 5) hk hb ht (by omega) R
  obtain ⟨r6, c6, d6⟩ := p_isWord (w := 6) hk hb ht (by omega) R
  obtain ⟨e1, tx1, tm1, s1, v1, fm1, R1⟩ := tk_ex hk hb ht hB hek
  have hs1 : s1 ≤ 250 := by have := R1.1; have := R1.2.1; omega
  have nf1 : ∀ f, f ≤ 250 → ¬ nI f = (-1 : Int32) := fun f hf => by rw [nm1 (by omega)]; exact id
  unfold fX6_readStatement fX8_statement
  rw [hX, bo4N, c0, bo1N, d0, bo1N]
  cases r0 with
  | true =>
    simp only [if_true]
    rw [if_neg nd_1, if_neg nd_1]
    rcases p_tells R1 (lo := nI P) (hi := 12) (hi_no2 (m := 12) (by omega)) fault told (nI tx) (nI s) vx with ⟨h1, h2, h3, h4, ⟨vx2, h5⟩, h6⟩ | ⟨⟨x1, x2, x3, x4, h5⟩, h6⟩
    · have l1 : P ≤ v1 := by rw [nI_leI (by omega) (by omega)] at h1; exact h1
      have l2 : v1 ≤ 12 := by
        have : nI v1 ≤ nI 12 := h2
        rw [nI_leI (by omega) (by omega)] at this
        exact this
      obtain ⟨e2, tx2, tm2, s2, v2, fm2, R2⟩ := tk_ex hk hb ht hB (show e1 ≤ k from R1.1)
      have hM2 := h6 _ _ _ _ _ _ R2
      left
      refine ⟨v1, n, h, c, W, K, A, H, M, L, xk, xa, xh, xm, xl, mk, ma, mh, mm, ml, e1, e2, tx2, tm2, s2, v2, fm2, upd told 0 (nI v1), nI 2, nI s1, vx2, ⟨⟨by omega, l2, hn, hW.mono l1, hK, fun p hp => Nat.lt_of_lt_of_le (hH p hp) l1, fun p hp => Nat.lt_of_lt_of_le (hM p hp) l1, fun p hp => Nat.lt_of_lt_of_le (hL p hp) l1, hho⟩, a1, a2, a3, a4, a5, b1, b2, b3, b4, b5⟩, Nat.le_refl _, R2, by omega, ?_, ?_⟩
      · unfold fX6_readPlaces
        rw [h5, bo6N, if_pos rfl, bo6N]
      · rw [hM2, bo7N, jo1N, if_neg (by decide)]
        dsimp only
        rw [ifno wr11, cl0, pk_us]
    · right
      refine ⟨s1, x1, x2, x3, x4, nI P, nI n, nI h, c, nf W, xk, xa, xh, xm, xl, nI P, nI n, nI h, c, nI e1, nI tm1, nI s1, nI fm1, nf W, mk, ma, mh, mm, ml, told, hs1, nf_hi hW hP, ?_, ?_⟩
      · unfold fX6_readPlaces
        rw [h5, bo6N, if_neg (nf1 s1 hs1), bo6N]
      · rw [h6, bo7N, jo1N, if_pos rfl]
        dsimp only
        rw [ifno wr01]
  | false =>
    simp only [Bool.false_eq_true, if_false]
    rw [if_pos nd_0, if_pos nd_0, c1, bo1N, d1, bo1N, jo0N]
    cases r1 with
    | true =>
      simp only [if_true]
      rw [if_neg nd_1, if_neg nd_1]
      rcases p_way (W := W) hk hb ht hB hP R1 fault told (nI tx) (nI s) vx (1 : Int32) with ⟨a, c', pos', e', tx', tm', s', v', fm', told', x1, x2, x3, l1, l2, l3, l4, R2, t0, t1, k1, k2⟩ | ⟨f, y1, y2, y3, y4, y5, q1, q2, q3, q4, q5, hf, k1, k2⟩
      · left
        refine ⟨P, n, h, c, sw W a c' 1, K, A, H, M, L, xk, xa, xh, xm, xl, mk, ma, mh, mm, ml, pos', e', tx', tm', s', v', fm', told', x1, x2, x3, ⟨⟨hP2, hP, hn, sw_wok hW l1 l2 l3, hK, hH, hM, hL, hho⟩, a1, a2, a3, a4, a5, b1, b2, b3, b4, b5⟩, Nat.le_refl _, R2, by omega, ?_, ?_⟩
        · rw [k1, bo6N]
        · rw [k2, bo7N, if_neg (by decide), cl0, cl1, t0, t1, show fX8_setWay (nf W) (nI a) (nI c') (nI 1) = _ from p_msetWay (by omega) (by omega) l3, bo1N, ifno wr11]
          rfl
      · right
        refine ⟨f, y1, y2, y3, y4, nI P, nI n, nI h, c, y5, xk, xa, xh, xm, xl, nI P, nI n, nI h, c, q1, q2, q3, q4, nf W, mk, ma, mh, mm, ml, q5, hf, nf_hi hW hP, ?_, ?_⟩
        · rw [k1, bo6N]
        · rw [k2, bo7N, if_pos rfl, ifno wr01]
    | false =>
      simp only [Bool.false_eq_true, if_false]
      rw [if_pos nd_0, if_pos nd_0, c2, bo1N, d2, bo1N]
      cases r2 with
      | true =>
        simp only [if_true]
        rw [if_neg nd_1, if_neg nd_1]
        rcases p_way (W := W) hk hb ht hB hP R1 fault told (nI tx) (nI s) vx (0 : Int32) with ⟨a, c', pos', e', tx', tm', s', v', fm', told', x1, x2, x3, l1, l2, l3, l4, R2, t0, t1, k1, k2⟩ | ⟨f, y1, y2, y3, y4, y5, q1, q2, q3, q4, q5, hf, k1, k2⟩
        · left
          refine ⟨P, n, h, c, sw W a c' 0, K, A, H, M, L, xk, xa, xh, xm, xl, mk, ma, mh, mm, ml, pos', e', tx', tm', s', v', fm', told', x1, x2, x3, ⟨⟨hP2, hP, hn, sw_wok hW l1 l2 l3, hK, hH, hM, hL, hho⟩, a1, a2, a3, a4, a5, b1, b2, b3, b4, b5⟩, Nat.le_refl _, R2, by omega, ?_, ?_⟩
          · rw [k1, bo6N]
          · rw [k2, bo7N, if_neg (by decide), cl0, cl1, t0, t1, show fX8_setWay (nf W) (nI a) (nI c') (nI 0) = _ from p_msetWay (by omega) (by omega) l3, bo1N, ifno wr11]
            rfl
        · right
          refine ⟨f, y1, y2, y3, y4, nI P, nI n, nI h, c, y5, xk, xa, xh, xm, xl, nI P, nI n, nI h, c, q1, q2, q3, q4, nf W, mk, ma, mh, mm, ml, q5, hf, nf_hi hW hP, ?_, ?_⟩
          · rw [k1, bo6N]
          · rw [k2, bo7N, if_pos rfl, ifno wr01]
      | false =>
        simp only [Bool.false_eq_true, if_false]
        rw [if_pos nd_0, if_pos nd_0, c3, bo1N, d3, bo1N, jo0N, jo0N]
        by_cases isP : r3 = true ∧ n < 8
        · obtain ⟨rfl, hn8⟩ := isP
          have n8 : ¬ (8 : Int32) ≤ nI n := by rw [show (8 : Int32) = nI 8 from rfl, nle (by omega) (by omega)]; omega
          simp only [if_true]
          rw [if_neg nd_1, if_neg nd_1, if_neg n8, if_neg n8]
          rcases p_per hk hb ht hB hP hn8 R1 fault told xk xa xh xm xl mk ma mh mm ml (nI tx) (nI s) vx with ⟨q, a, hm', am, pos', e', tx', tm', s', v', fm', told', x1, x2, x3, l1, l2, l3, l4, R2, k1, k2⟩ | ⟨f, y1, y2, y3, y4, y5, y6, y7, y8, y9, y10, q1, q2, q3, q4, q5, q6, q7, q8, q9, q10, q11, hf, k1, k2⟩
          · left
            refine ⟨P, n + 1, h, c, W, nup K n q, nup A n a, nup H n hm', nup M n am, nup L n hm', upd xk n (nI q), upd xa n (nI a), upd xh n (nI hm'), upd xm n (nI am), upd xl n (nI hm'), upd mk n (nI q), upd ma n (nI a), upd mh n (nI hm'), upd mm n (nI am), upd ml n (nI hm'), pos', e', tx', tm', s', v', fm', told', x1, x2, x3, ⟨⟨hP2, hP, by omega, hW, nup_lt1 hK l1, nup_lt1 hH l2, nup_lt1 hM l3, nup_lt1 hL l2, hho⟩, ag_up1 a1 q, ag_up1 a2 a, ag_up1 a3 hm', ag_up1 a4 am, ag_up1 a5 hm', ag_up1 b1 q, ag_up1 b2 a, ag_up1 b3 hm', ag_up1 b4 am, ag_up1 b5 hm'⟩, by omega, R2, by omega, ?_, ?_⟩
            · rw [k1, bo11N]
            · rw [k2, bo13N, ifno wr11]
          · right
            refine ⟨f, y1, y2, y3, y4, nI P, y5, nI h, c, nf W, y6, y7, y8, y9, y10, nI P, q1, nI h, c, q2, q3, q4, q5, nf W, q6, q7, q8, q9, q10, q11, hf, nf_hi hW hP, ?_, ?_⟩
            · rw [k1, bo11N]
            · rw [k2, bo13N, ifno wr01]
        · have hskip : ∀ {ρ : Type} (X Y : Option ρ), (if nI (if r3 = true then 1 else 0) = 0 then X else if (8 : Int32) ≤ nI n then X else Y) = X := by
            intro ρ X Y
            cases r3 with
            | false => simp only [Bool.false_eq_true, if_false]; rw [if_pos nd_0]
            | true =>
              simp only [if_true]
              rw [if_neg nd_1, if_pos (show (8 : Int32) ≤ nI n from by rw [show (8 : Int32) = nI 8 from rfl, nle (by omega) (by omega)]; apply Nat.le_of_not_lt; exact fun g => isP ⟨rfl, g⟩)]
          rw [hskip, hskip, c4, bo1N, d4, bo1N]
          cases r4 with
          | true =>
            simp only [if_true]
            rw [if_neg nd_1, if_neg nd_1]
            rcases p_at hk hb ht hB hP hn R1 fault told xl (nI tx) (nI s) vx with ⟨a, c', pos', e3, tm3, s3, fm3, e', tx', tm', s', v', fm', told1, told', x1, x2, x3, l1, l2, l4, R2, t0, t1, k1, k2, k3⟩ | ⟨f, y1, y2, y3, y4, y5, hf, k1, k2⟩
            · left
              refine ⟨P, n, h, c, W, K, A, H, M, nup L a c', xk, xa, xh, xm, upd xl a (nI c'), mk, ma, mh, mm, upd ml a (nI c'), pos', e', tx', tm', s', v', fm', told', x1, x2, x3, ⟨⟨hP2, hP, hn, hW, hK, hH, hM, nup_lt hL l2, hho⟩, a1, a2, a3, a4, ag_up a5 a c', b1, b2, b3, b4, ag_up b5 a c'⟩, Nat.le_refl _, R2, by omega, ?_, ?_⟩
              · rw [k1, bo6N]
              · rw [k2, bo7N, jo7N, jo6N, if_neg (by decide), k3, bo7N, if_neg (by decide)]
                dsimp only
                rw [if_neg (by decide), cl0, cl1, t0, t1, if_n (nin (k := a) (N := 8) (by omega) (by omega)), nc (n := a) (by omega), ifno wr11]
            · right
              rcases k2 with ⟨q1, q2, q3, q4, q5, k2⟩ | ⟨g1, g2, g3, g4, g5, g6, q1, q2, q3, q4, q5, k2, k3⟩
              · refine ⟨f, y1, y2, y3, y4, nI P, nI n, nI h, c, nf W, xk, xa, xh, xm, y5, nI P, nI n, nI h, c, q1, q2, q3, q4, nf W, mk, ma, mh, mm, ml, q5, hf, nf_hi hW hP, ?_, ?_⟩
                · rw [k1, bo6N]
                · rw [k2, bo7N, jo7N, jo6N, if_pos rfl]
                  dsimp only
                  rw [if_pos rfl, ifno wr01]
              · refine ⟨f, y1, y2, y3, y4, nI P, nI n, nI h, c, nf W, xk, xa, xh, xm, y5, nI P, nI n, nI h, c, q1, q2, q3, q4, nf W, mk, ma, mh, mm, ml, q5, hf, nf_hi hW hP, ?_, ?_⟩
                · rw [k1, bo6N]
                · rw [k2, bo7N, jo7N, jo6N, if_neg (by decide), k3, bo7N, if_pos rfl]
                  dsimp only
                  rw [if_pos rfl, ifno wr01]
          | false =>
            simp only [Bool.false_eq_true, if_false]
            rw [if_pos nd_0, if_pos nd_0, c5, bo1N, d5, bo1N]
            cases r5 with
            | true =>
              simp only [if_true]
              rw [if_neg nd_1, if_neg nd_1]
              rcases p_tells R1 (lo := 0) (hi := 999) (hi_no2 (m := 999) (by omega)) fault told (nI tx) (nI s) vx with ⟨h1, h2, h3, h4, ⟨vx2, h5⟩, h6⟩ | ⟨⟨x1, x2, x3, x4, h5⟩, h6⟩
              · obtain ⟨e2, tx2, tm2, s2, v2, fm2, R2⟩ := tk_ex hk hb ht hB (show e1 ≤ k from R1.1)
                have hM2 := h6 _ _ _ _ _ _ R2
                left
                refine ⟨P, n, v1, c, W, K, A, H, M, L, xk, xa, xh, xm, xl, mk, ma, mh, mm, ml, e1, e2, tx2, tm2, s2, v2, fm2, upd told 0 (nI v1), nI 2, nI s1, vx2, ⟨⟨hP2, hP, hn, hW, hK, hH, hM, hL, by omega⟩, a1, a2, a3, a4, a5, b1, b2, b3, b4, b5⟩, Nat.le_refl _, R2, by omega, ?_, ?_⟩
                · unfold fX6_readHour
                  rw [h5, bo6N, if_pos rfl, bo6N]
                · rw [hM2, bo7N, jo1N, if_neg (by decide)]
                  dsimp only
                  rw [ifno wr11, cl0, pk_us]
              · right
                refine ⟨s1, x1, x2, x3, x4, nI P, nI n, nI h, c, nf W, xk, xa, xh, xm, xl, nI P, nI n, nI h, c, nI e1, nI tm1, nI s1, nI fm1, nf W, mk, ma, mh, mm, ml, told, hs1, nf_hi hW hP, ?_, ?_⟩
                · unfold fX6_readHour
                  rw [h5, bo6N, if_neg (nf1 s1 hs1), bo6N]
                · rw [h6, bo7N, jo1N, if_pos rfl]
                  dsimp only
                  rw [ifno wr01]
            | false =>
              simp only [Bool.false_eq_true, if_false]
              rw [if_pos nd_0, if_pos nd_0, c6, bo1N, d6, bo1N]
              cases r6 with
              | true =>
                simp only [if_true]
                rw [if_neg nd_1, if_neg nd_1]
                rcases p_tells R1 (lo := 0) (hi := 12) (hi_no2 (m := 12) (by omega)) fault told (nI tx) (nI s) vx with ⟨h1, h2, h3, h4, ⟨vx2, h5⟩, h6⟩ | ⟨⟨x1, x2, x3, x4, h5⟩, h6⟩
                · obtain ⟨e2, tx2, tm2, s2, v2, fm2, R2⟩ := tk_ex hk hb ht hB (show e1 ≤ k from R1.1)
                  have hM2 := h6 _ _ _ _ _ _ R2
                  left
                  refine ⟨P, n, h, nI v1, W, K, A, H, M, L, xk, xa, xh, xm, xl, mk, ma, mh, mm, ml, e1, e2, tx2, tm2, s2, v2, fm2, upd told 0 (nI v1), nI 2, nI s1, vx2, w0, Nat.le_refl _, R2, by omega, ?_, ?_⟩
                  · unfold fX6_readChance
                    rw [h5, bo6N, if_pos rfl, bo6N]
                  · rw [hM2, bo7N, jo1N, if_neg (by decide)]
                    dsimp only
                    rw [ifno wr11, cl0, pk_us]
                · right
                  refine ⟨s1, x1, x2, x3, x4, nI P, nI n, nI h, c, nf W, xk, xa, xh, xm, xl, nI P, nI n, nI h, c, nI e1, nI tm1, nI s1, nI fm1, nf W, mk, ma, mh, mm, ml, told, hs1, nf_hi hW hP, ?_, ?_⟩
                  · unfold fX6_readChance
                    rw [h5, bo6N, if_neg (nf1 s1 hs1), bo6N]
                  · rw [h6, bo7N, jo1N, if_pos rfl]
                    dsimp only
                    rw [ifno wr01]
              | false =>
                simp only [Bool.false_eq_true, if_false]
                right
                refine ⟨s, nI e, nI tx, nI s, vx, nI P, nI n, nI h, c, nf W, xk, xa, xh, xm, xl, nI P, nI n, nI h, c, nI e, nI tm, nI s, nI fm, nf W, mk, ma, mh, mm, ml, told, hs, nf_hi hW hP, ?_, ?_⟩
                · rw [if_pos nd_0]
                · unfold fX8_wrong
                  rw [if_pos nd_0, bo2N, ifno wr01]
