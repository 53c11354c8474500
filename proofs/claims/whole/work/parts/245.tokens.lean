def mlk (tz : Int32) (t : Nat → Int32) (u1 : Int32) : Option (Int32 × Int32 × Int32 × Int32) :=

      if u1 = tz then
        some (u1, (0 : Int32), u1, (0 : Int32))
      else
        if u1 < 0 ∨ 250 ≤ u1.toNatClampNeg then none else
        bo1 (fX8_isLetter (t u1.toNatClampNeg)) fun r5 =>
        if r5 = 0 then
          if u1 < 0 ∨ 250 ≤ u1.toNatClampNeg then none else
          bo1 (fX8_isDigit (t u1.toNatClampNeg)) fun r8 =>
          if r8 = 0 then
            if u1 < 0 ∨ 250 ≤ u1.toNatClampNeg then none else
            jo1 (fun (y11 : Int32) =>
              some (u1 + (1 : Int32), y11, u1, (0 : Int32))) fun k12 =>
            if (t u1.toNatClampNeg) = (59 : Int32) then
              k12 (3 : Int32)
            else
              k12 (4 : Int32)
          else
            lo2 (fun g16 (u14 : Int32) (u15 : Int32) =>
              if tz ≤ u14 then
                some (u14, (2 : Int32), u1, u15)
              else
                if u14 < 0 ∨ 250 ≤ u14.toNatClampNeg then none else
                bo1 (fX8_isDigit (t u14.toNatClampNeg)) fun r18 =>
                if r18 = 0 then
                  some (u14, (2 : Int32), u1, u15)
                else
                  jo1 (fun (y20 : Int32) =>
                    g16 (u14 + (1 : Int32)) y20) fun k21 =>
                  if (3 : Int32) ≤ (u14 - u1) then
                    k21 (1000 : Int32)
                  else
                    if u14 < 0 ∨ 250 ≤ u14.toNatClampNeg then none else
                    k21 (((u15 * (10 : Int32)) + (t u14.toNatClampNeg)) - (48 : Int32))) 400 u1 (0 : Int32)
        else
          lo1 (fun g28 (u27 : Int32) =>
            if tz ≤ u27 then
              some (u27, (1 : Int32), u1, (0 : Int32))
            else
              if u27 < 0 ∨ 250 ≤ u27.toNatClampNeg then none else
              bo1 (fX8_isLetter (t u27.toNatClampNeg)) fun r30 =>
              if r30 = 0 then
                some (u27, (1 : Int32), u1, (0 : Int32))
              else
                g28 (u27 + (1 : Int32))) 400 u1
/-- a token at pos: its end, which (class, Model), where it begins, its number (class, Model) -/
def TkR (k : Nat) (b t : Nat → Int32) (pos e tx tm s v fm : Nat) : Prop := e ≤ k ∧ s ≤ e ∧ pos ≤ s ∧ (∀ val, ∃ vx, fX6_takeToken (nI pos) val (nI k) b = some (nI e, nI tx, nI s, vx) ∧ (tx = 2 → vx = nI v)) ∧ fX8_look (nI k) (nI pos) t = some (nI e, nI tm, nI s, nI fm) ∧ ((tx = 2 ∧ tm = 2 ∧ fm = v ∧ v ≤ 999) ∨ (tx ≠ 2 ∧ (tm = 2 → fm = 1000) ∧ (tx = tm ∨ (tx = 4 ∧ tm = 2)))) ∧ tx ≤ 4 ∧ tm ≤ 4 ∧ fm ≤ 1000 ∧ (tx ≠ 0 → s < e)
theorem p_look {k pos : Nat} {t : Nat → Int32} {B : Nat → Nat} (hk : k ≤ 250) (hb : ag k t B) (hB : ∀ i, i < k → B i ≤ 255) (hp : pos ≤ k) : fX8_look (nI k) (nI pos) t = mlk (nI k) t (nI (whl (fun i => B i == 32) k pos)) := by
  unfold fX8_look
  refine lwh (fun i => B i == 32) (fun i => mlk (nI k) t (nI i)) hp (fun i h1 h2 g => ?_) (fun g => ?_) 400 (by omega)
  · have := hB i h2
    rw [jo0N, if_neg (by rw [nle (by omega) (by omega)]; omega), if_n (nin (k := i) (N := 250) (by omega) (by omega)), nc (n := i) (by omega), hb i h2, nI_1]
    have e0 : (nI (B i) = (32 : Int32)) = (B i = 32) := neq (b := 32) (by omega) (by omega)
    by_cases e : B i = 32
    · rw [if_pos (show nI (B i) = (32 : Int32) from by rw [e0]; exact e), if_pos (show (B i == 32) = true from by simp [e])]
    · rw [if_neg (show ¬ nI (B i) = (32 : Int32) from by rw [e0]; exact e), if_neg (show ¬ (B i == 32) = true from by simp [e])]
      unfold mlk
      rw [nc (n := i) (by omega), hb i h2, nI_1]
  · rw [jo0N, if_pos (Int32.le_refl _)]
    rfl
theorem tk_ex {k pos : Nat} {b t : Nat → Int32} {B : Nat → Nat} (hk : k ≤ 250) (hb : ag k b B) (ht : ag k t B) (hB : ∀ i, i < k → B i ≤ 255) (hp : pos ≤ k) : ∃ e tx tm s v fm, TkR k b t pos e tx tm s v fm := by
  have hs := whl_ge (Q := fun i => B i == 32) hp
  have hlook := p_look hk ht hB hp
  have hskip := p_skip hk hb hB hp
  generalize whl (fun i => B i == 32) k pos = s at hs hlook hskip
  by_cases ek : s = k
  · subst ek
    refine ⟨s, 0, 0, s, 0, 0, Nat.le_refl _, Nat.le_refl _, hs.1, fun val => ⟨val, ?_, fun q => by omega⟩, ?_, Or.inr ⟨by omega, fun q => by omega, Or.inl rfl⟩, by omega, by omega, by omega, fun q => absurd rfl q⟩
    · unfold fX6_takeToken
      rw [hskip, bo1N, p_letterEnd hk (Nat.le_refl _) (by omega), bo1N, if_pos rfl]
      rfl
    · rw [hlook]
      unfold mlk
      rw [if_pos rfl]
      rfl
  · have hsk : s < k := by omega
    have hBs := hB s hsk
    have nks : ¬ nI s = nI k := by rw [neq (by omega) (by omega)]; exact ek
    have nm : ¬ nI (B s) = (-1 : Int32) := by rw [nm1 (by omega)]; exact id
    by_cases eL : isL (B s) = true
    · have hw := whl_ge (Q := fun i => isL (B i)) (Nat.le_of_lt hsk)
      refine ⟨whl (fun i => isL (B i)) k s, 1, 1, s, 0, 0, hw.2, hw.1, hs.1, fun val => ⟨val, ?_, fun q => by omega⟩, ?_, Or.inr ⟨by omega, fun q => by omega, Or.inl rfl⟩, by omega, by omega, by omega, fun _ => whl_nx hsk eL⟩
      · unfold fX6_takeToken
        rw [hskip, bo1N, p_letterAt hk hb hsk, bo1N, if_neg nm, (p_isL hBs).1, bo1N, if_neg (by rw [b01, eL]; decide), p_passWord hk hb hB (Nat.le_of_lt hsk), bo1N]
        rfl
      · rw [hlook]
        unfold mlk
        rw [if_neg nks, if_n (nin (k := s) (N := 250) (by omega) (by omega)), nc (n := s) (by omega), ht s hsk, (p_isL hBs).2, bo1N, if_neg (by rw [b01, eL]; decide)]
        refine lwh (fun i => isL (B i)) (fun i => some (nI i, nI 1, nI s, nI 0)) (Nat.le_of_lt hsk) (fun i h1 h2 g => ?_) (fun g => ?_) 400 (by omega)
        · rw [if_neg (by rw [nle (by omega) (by omega)]; omega), if_n (nin (k := i) (N := 250) (by omega) (by omega)), nc (n := i) (by omega), ht i h2, (p_isL (hB i h2)).2, bo1N, nI_1]
          by_cases e : isL (B i) = true
          · rw [if_neg (by rw [b01, e]; decide), if_pos e]
          · rw [if_pos (by rw [b01]; simpa using e), if_neg e]
            rfl
        · rw [if_pos (Int32.le_refl _)]
          rfl
    · have eL' : isL (B s) = false := by simpa using eL
      by_cases eD : isD (B s) = true
      · have hw := whl_ge (Q := fun i => isD (B i)) (Nat.le_of_lt hsk)
        have hin : ∀ i, i < whl (fun i => isD (B i)) k s - s → isD (B (s + i)) = true := fun i hi => whl_in (Q := fun i => isD (B i)) (by omega) (by omega) hw.2
        have hX := nvX_le _ hin
        have hMl := nvM_le hin
        have hlk : mlk (nI k) t (nI s) = some (nI (whl (fun i => isD (B i)) k s), nI 2, nI s, nI (nvM B s (whl (fun i => isD (B i)) k s - s))) := by
          unfold mlk
          rw [if_neg nks, if_n (nin (k := s) (N := 250) (by omega) (by omega)), nc (n := s) (by omega), ht s hsk, (p_isL hBs).2, bo1N, if_pos (by rw [b01]; exact eL'), if_n (nin2 (k := s) (N := 250) (by omega) (by omega)), (p_isD hBs).2, bo1N, if_neg (by rw [b01, eD]; decide)]
          refine lwh2 (fun i => isD (B i)) (fun j => nI (nvM B s j)) (fun i v => some (nI i, nI 2, nI s, v)) (Nat.le_of_lt hsk) (fun i h1 h2 hq g => ?_) (fun g => ?_) 400 (by omega)
          · rw [if_neg (by rw [nle (by omega) (by omega)]; omega), if_n (nin (k := i) (N := 250) (by omega) (by omega)), nc (n := i) (by omega), ht i h2, (p_isD (hB i h2)).2, bo1N]
            have e0 : nI i - nI s = nI (i - s) := pk_sub h1
            by_cases e : isD (B i) = true
            · rw [if_neg (by rw [b01, e]; decide), if_pos e, jo1N, e0, n_dig (isD_ge e), nI_1, nvM]
              have e3 : ((3 : Int32) ≤ nI (i - s)) = (3 ≤ i - s) := nle (a := 3) (by omega) (by omega)
              by_cases g3 : 3 ≤ i - s
              · rw [if_pos (by rw [e3]; exact g3), if_pos g3]
                rfl
              · rw [if_neg (by rw [e3]; exact g3), if_neg g3, if_n (nin2 (k := i) (N := 250) (by omega) (by omega)), show s + (i - s) = i by omega]
            · rw [if_pos (by rw [b01]; simpa using e), if_neg e]
              rfl
          · rw [if_pos (Int32.le_refl _)]
            rfl
        have htk : ∀ val, fX6_takeToken (nI pos) val (nI k) b = some (nI (whl (fun i => isD (B i)) k s), if whl (fun i => isD (B i)) k s - s ≤ 3 then nI 2 else nI 4, nI s, nI (nvX B s (whl (fun i => isD (B i)) k s - s))) := by
          intro val
          unfold fX6_takeToken
          rw [hskip, bo1N, p_letterAt hk hb hsk, bo1N, if_neg nm, (p_isL hBs).1, bo1N, if_pos (by rw [b01]; exact eL'), (p_isD hBs).1, bo1N, if_neg (by rw [b01, eD]; decide), p_passNumber hk hb hB (Nat.le_of_lt hsk), bo2N, jo1N]
          have e0 : nI (whl (fun i => isD (B i)) k s) - nI s = nI (whl (fun i => isD (B i)) k s - s) := pk_sub hw.1
          have e3 : (nI (whl (fun i => isD (B i)) k s - s) ≤ (3 : Int32)) = (whl (fun i => isD (B i)) k s - s ≤ 3) := nle (b := 3) (by omega) (by omega)
          rw [e0]
          by_cases g3 : whl (fun i => isD (B i)) k s - s ≤ 3
          · rw [if_pos (by rw [e3]; exact g3), if_pos g3]
            rfl
          · rw [if_neg (by rw [e3]; exact g3), if_neg g3]
            rfl
        by_cases g3 : whl (fun i => isD (B i)) k s - s ≤ 3
        · refine ⟨whl (fun i => isD (B i)) k s, 2, 2, s, nvX B s (whl (fun i => isD (B i)) k s - s), nvM B s (whl (fun i => isD (B i)) k s - s), hw.2, hw.1, hs.1, fun val => ⟨_, by rw [htk val, if_pos g3], fun _ => rfl⟩, hlook.trans hlk, Or.inl ⟨rfl, rfl, nv_eq B s _ g3, hX.1⟩, by omega, by omega, hMl, fun _ => whl_nx hsk eD⟩
        · refine ⟨whl (fun i => isD (B i)) k s, 4, 2, s, 0, nvM B s (whl (fun i => isD (B i)) k s - s), hw.2, hw.1, hs.1, fun val => ⟨_, by rw [htk val, if_neg g3], fun q => by omega⟩, hlook.trans hlk, Or.inr ⟨by omega, fun _ => nv_big (by omega), Or.inr ⟨rfl, rfl⟩⟩, by omega, by omega, hMl, fun _ => whl_nx hsk eD⟩
      · have eD' : isD (B s) = false := by simpa using eD
        have e59 : (nI (B s) = (59 : Int32)) = (B s = 59) := neq (b := 59) (by omega) (by omega)
        have htk : ∀ val, fX6_takeToken (nI pos) val (nI k) b = some (nI (s + 1), if B s = 59 then nI 3 else nI 4, nI s, val) := by
          intro val
          unfold fX6_takeToken
          rw [hskip, bo1N, p_letterAt hk hb hsk, bo1N, if_neg nm, (p_isL hBs).1, bo1N, if_pos (by rw [b01]; exact eL'), (p_isD hBs).1, bo1N, if_pos (by rw [b01]; exact eD'), jo1N, nI_1]
          by_cases g : B s = 59
          · rw [if_pos (by rw [e59]; exact g), if_pos g]
            rfl
          · rw [if_neg (by rw [e59]; exact g), if_neg g]
            rfl
        have hlk : mlk (nI k) t (nI s) = some (nI (s + 1), if B s = 59 then nI 3 else nI 4, nI s, nI 0) := by
          unfold mlk
          rw [if_neg nks, if_n (nin (k := s) (N := 250) (by omega) (by omega)), nc (n := s) (by omega), ht s hsk, (p_isL hBs).2, bo1N, if_pos (by rw [b01]; exact eL'), if_n (nin2 (k := s) (N := 250) (by omega) (by omega)), (p_isD hBs).2, bo1N, if_pos (by rw [b01]; exact eD'), if_n (nin2 (k := s) (N := 250) (by omega) (by omega)), jo1N, nI_1]
          by_cases g : B s = 59
          · rw [if_pos (by rw [e59]; exact g), if_pos g]
            rfl
          · rw [if_neg (by rw [e59]; exact g), if_neg g]
            rfl
        by_cases g : B s = 59
        · refine ⟨s + 1, 3, 3, s, 0, 0, by omega, by omega, hs.1, fun val => ⟨val, by rw [htk val, if_pos g], fun q => by omega⟩, by rw [hlook, hlk, if_pos g], Or.inr ⟨by omega, fun q => by omega, Or.inl rfl⟩, by omega, by omega, by omega, fun _ => by omega⟩
        · refine ⟨s + 1, 4, 4, s, 0, 0, by omega, by omega, hs.1, fun val => ⟨val, by rw [htk val, if_neg g], fun q => by omega⟩, by rw [hlook, hlk, if_neg g], Or.inr ⟨by omega, fun q => by omega, Or.inl rfl⟩, by omega, by omega, by omega, fun _ => by omega⟩
