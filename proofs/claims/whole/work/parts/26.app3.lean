theorem ok_delay (w1 w2 w3 : Int) (g1 : rg w1) (g2 : rg w2) (g3 : rg w3) : stepOK Inv (fun x => f_X6_delay x w1 w2 w3) (fun y => f_X7_delay y w1 w2 w3) := by
  refine stepOK_of (fun x y hI => ?_)
  obtain ⟨a1, a2, a3, a4, a5, a6, a7⟩ := hI.2.1
  obtain ⟨b1, b2, b3, b4, b5, b6, b7, b8, b9⟩ := hI.2.2.1
  have e3 := y00_3 y
  have e5 := y00_5 y
  have e6 := y00_6 y
  have xno : ∀ a : Int, 0 ≤ a → a ≤ 7 → wp (f_X7_delay y w1 w2 w3) (fun r' y' => 0 = r' ∧ Inv (xpS x 1 a) y') → wp (x_call (f_X6_deny x a) (fun r5 x6 => some (r5, x6))) (fun r x' => wp (f_X7_delay y w1 w2 w3) (fun r' y' => r = r' ∧ Inv x' y')) := fun a _ _ h => wp_call (sX_deny (wp_ret h))
  have yno : ∀ a : Int, 0 ≤ a → a ≤ 7 → wp (x_call (f_X7_no (y00 y) a) (fun r7 x8 => some (r7, x8))) (fun r' y' => 0 = r' ∧ Inv (xpS x 1 a) y') := fun a h1 h2 => wp_call (sY_no (wp_ret ⟨rfl, Inv_no hI a h1 h2⟩))
  refine wp_call (sX_isLine g1 (by omega) (fun l1 l2 => ?_) (fun l1 => ?_))
  · have hyl : ∀ (P : Int → XS → Prop), P 1 (y00 y) → wp (f_X7_isLine (y00 y) w1) P := fun P h => sY_isLine g1 ⟨a1, a2⟩ (fun _ _ => h) (fun h => absurd h (by omega))
    have hsn : ∀ (P : Int → XS → Prop), P (skd y w1 (y.1 5).toNat) (y00 y) → wp (f_X7_isStruckNow (y00 y) w1) P := fun P h => sY_isStruckNow g1 ⟨b1, b2⟩ (fun c m1 m2 => by
        have := inv_lg hI m1 m2
        rw [y00_rd, y00_rd]
        omega) (by rw [skd_00]; exact h)
    have hsk := b9 w1 l1 (by omega)
    have h01 := skd_01 y w1 (y.1 5).toNat
    obtain ⟨c1, c2⟩ := a7 w1 l1 (by omega)
    unfold lnEQ at c1
    unfold lnOK at c2
    refine wp_jp ?_
    refine wp_e1 ?_
    refine wp_ld (by omega) (by omega) ?_
    have t9 : rd x 9 w1 = rd y 7 w1 := by omega
    rw [t9]
    have e7 : rd (y00 y) 7 w1 = rd y 7 w1 := rfl
    refine wp_call (sX_isBetween g2 (rg_lit (by omega) (by omega)) (rg_lit (by omega) (by omega)) (fun r1 r2 => ?_) (fun r1 => ?_))
    · refine wp_e1 ?_
      refine wp_call (sX_isBetween g3 (rg_lit (by omega) (by omega)) (rg_lit (by omega) (by omega)) (fun t1 t2 => ?_) (fun t1 => ?_))
      · refine wp_e1 ?_
        refine wp_call (sX_isFull (by omega) (fun f1 => ?_) (fun f1 => ?_))
        · refine wp_e1 ?_
          refine xno 3 (by decide) (by decide) ?_
          refine wp_y00 ?_
          refine wp_call (hyl _ ?_)
          refine wp_jp ?_
          refine wp_e1 ?_
          refine wp_lt (by omega) (by omega) (by omega) (by omega) (fun h => absurd h (by omega)) (fun _ => ?_)
          refine wp_ld (by omega) (by omega) ?_
          refine wp_lt (by omega) (by omega) (by omega) (by omega) (fun _ => ?_) (fun h => absurd h (by omega))
          refine wp_jp ?_
          refine wp_lt (by omega) (by omega) (by omega) (by omega) (fun h => absurd h (by omega)) (fun _ => ?_)
          refine wp_le (by omega) (by omega) (by omega) (by omega) (fun _ => ?_) (fun h => absurd h (by omega))
          refine wp_eq (by omega) (by omega) (by omega) (by omega) (fun _ => ?_) (fun h => absurd f1 (by omega))
          exact yno 3 (by decide) (by decide)
        · refine wp_e0 ?_
          refine wp_ld (by omega) (by omega) ?_
          rw [hsk]
          rcases h01 with hs | hs
          · rw [hs]
            refine wp_e0 ?_
            refine wp_ld (by omega) (by omega) ?_
            refine wp_call (sX_logadd (rg_lit (by omega) (by omega)) (by omega) (by omega) ?_)
            rw [if_neg (by decide)]
            refine wp_call (sX_agree (wp_ret ?_))
            refine wp_y00 ?_
            refine wp_call (hyl _ ?_)
            refine wp_jp ?_
            refine wp_e1 ?_
            refine wp_lt (by omega) (by omega) (by omega) (by omega) (fun h => absurd h (by omega)) (fun _ => ?_)
            refine wp_ld (by omega) (by omega) ?_
            refine wp_lt (by omega) (by omega) (by omega) (by omega) (fun _ => ?_) (fun h => absurd h (by omega))
            refine wp_jp ?_
            refine wp_lt (by omega) (by omega) (by omega) (by omega) (fun h => absurd h (by omega)) (fun _ => ?_)
            refine wp_le (by omega) (by omega) (by omega) (by omega) (fun _ => ?_) (fun h => absurd h (by omega))
            refine wp_eq (by omega) (by omega) (by omega) (by omega) (fun h => absurd f1 (by omega)) (fun _ => ?_)
            refine wp_call (hsn _ ?_)
            rw [hs]
            refine wp_e0 ?_
            refine wp_call (sY_logs (by omega) (by omega) (wp_ret ⟨rfl, ?_⟩))
            have t11 : rd x 11 w1 = bs y w1.toNat := by omega
            rw [t11]
            obtain ⟨u1, eu1⟩ : ∃ u, u = xpS (xlog x 2 (bs y w1.toNat + w2) w3 0) 1 0 := ⟨_, rfl⟩
            obtain ⟨u2, eu2⟩ : ∃ u, u = ylog (y00 y) 2 w1 w2 w3 := ⟨_, rfl⟩
            rw [← eu1, ← eu2]
            have y9 : rd u2 9 (y.1 5) = 2 := by rw [eu2, ← e5, yl_9]
            have y10 : rd u2 10 (y.1 5) = w1 := by rw [eu2, ← e5, yl_10]
            have y11 : rd u2 11 (y.1 5) = w2 := by rw [eu2, ← e5, yl_11]
            have y12 : rd u2 12 (y.1 5) = w3 := by rw [eu2, ← e5, yl_12]
            have x13 : rd u1 13 (y.1 5) = 2 := by rw [eu1, rd_ps, ← b3, xl_13]
            have x14 : rd u1 14 (y.1 5) = bs y w1.toNat + w2 := by rw [eu1, rd_ps, ← b3, xl_14]
            have x15 : rd u1 15 (y.1 5) = w3 := by rw [eu1, rd_ps, ← b3, xl_15]
            have xk : ∀ k : Nat, k ≠ 1 → k ≠ 5 → u1.1 k = x.1 k := fun k m1 m2 => by rw [eu1, ps_ne m1, xl_ne m2]
            have yk : ∀ k : Nat, 2 ≤ k → k ≠ 5 → u2.1 k = y.1 k := fun k m1 m2 => by rw [eu2, yl_ne m2]; unfold y00; simp (disch := omega) only [rd_wr_eq, rd_wr_ne, rd_wr_j, rd_ps, wr_1, ps_eq, ps_ne]
            have xj : ∀ (j : Nat) (i : Int), (j < 13 ∨ 16 < j) → rd u1 j i = rd x j i := fun j i m => by rw [eu1, rd_ps, xl_j m]
            have yj : ∀ (j : Nat) (i : Int), (j < 9 ∨ 12 < j) → rd u2 j i = rd y j i := fun j i m => by rw [eu2, yl_j m]; rfl
            have x5 : u1.1 5 = y.1 5 + 1 := by rw [eu1, ps_ne (by decide), xl_5, b3]
            have y5 : u2.1 5 = y.1 5 + 1 := by rw [eu2, yl_5]; rfl
            have yn : nput u2 (y.1 5).toNat = nput y (y.1 5).toNat := nput_c (fun c hc => by rw [eu2, yl_old (by omega) (by omega)]; rfl)
            have yb : bs u2 w1.toNat = bs y w1.toNat := bs_c (fun c hc => yj 7 c (by omega))
            obtain ⟨p1, p2⟩ := log_app (x := x) (y := y) (x' := u1) (y' := u2) hI (by omega) (yk 2 (by decide) (by decide)) x5 y5
              (fun j i m1 m2 m3 m4 => by rw [eu1, rd_ps, xl_old m3 (by omega)]) (fun j i m1 m2 m3 m4 => by rw [eu2, yl_old m3 (by omega)]; rfl) (fun j i m1 m2 m3 m4 => yj j i (by omega))
              (by
                unfold lgOK
                rw [x13, x14, x15, y9, y10, y11, y12, yn, yb, yj 7 w1 (by omega)]
                exact ⟨rfl, Or.inr (Or.inr (Or.inl ⟨rfl, by omega, by omega, by omega, by omega, rfl, rfl, by omega, by omega⟩))⟩)
              (by rw [y9, yk 3 (by decide) (by decide)]; show y.1 3 = y.1 3 + 0; omega)
              (by rw [xk 6 (by decide) (by decide), yk 6 (by decide) (by decide)]; exact b5) (by rw [y9, yk 6 (by decide) (by decide)]; show y.1 6 = y.1 6 + 0; omega) (by rw [yk 6 (by decide) (by decide)]; exact b7)
              (fun l m1 m2 => by
                rw [yk 3 (by decide) (by decide)] at m2
                rw [xj 12 l (by omega), y9, if_neg (fun h => absurd h.1 (by decide)), if_pos m2])
            refine ⟨?_, ?_, p1, ?_, ⟨?_, ?_, ?_⟩, ?_⟩
            · exact iNod_c hI.1 (xk 2 (by decide) (by decide)) (yk 2 (by decide) (by decide)) (fun j i m1 m2 => xj j i (by omega)) (fun j i m1 => yj j i (by omega))
            · exact iLin_c hI.2.1 (Int.le_of_eq (yk 2 (by decide) (by decide)).symm) (xk 3 (by decide) (by decide)) (xk 4 (by decide) (by decide)) (yk 3 (by decide) (by decide)) (yk 4 (by decide) (by decide)) (fun j i m1 m2 => xj j i (by omega)) (fun j i m1 m2 => yj j i (by omega))
            · exact iOut_c hI.2.2.2.1 (xk 0 (by decide) (by decide)) (yk 8 (by decide) (by decide)) (fun i => xj 0 i (by omega)) (fun i => yj 22 i (by omega))
            · rw [eu1, eu2, ps_eq]; rfl
            · rw [eu2]; exact z07.1
            · rw [eu2]; exact z07.2
            · exact iVw_c hI.2.2.2.2.2 (xk 8 (by decide) (by decide)) (xk 9 (by decide) (by decide)) (xk 10 (by decide) (by decide)) (by omega) (fun j i m1 m2 m3 => xj j i (by omega)) p2
          · rw [hs]
            refine wp_e1 ?_
            refine xno 4 (by decide) (by decide) ?_
            refine wp_y00 ?_
            refine wp_call (hyl _ ?_)
            refine wp_jp ?_
            refine wp_e1 ?_
            refine wp_lt (by omega) (by omega) (by omega) (by omega) (fun h => absurd h (by omega)) (fun _ => ?_)
            refine wp_ld (by omega) (by omega) ?_
            refine wp_lt (by omega) (by omega) (by omega) (by omega) (fun _ => ?_) (fun h => absurd h (by omega))
            refine wp_jp ?_
            refine wp_lt (by omega) (by omega) (by omega) (by omega) (fun h => absurd h (by omega)) (fun _ => ?_)
            refine wp_le (by omega) (by omega) (by omega) (by omega) (fun _ => ?_) (fun h => absurd h (by omega))
            refine wp_eq (by omega) (by omega) (by omega) (by omega) (fun h => absurd f1 (by omega)) (fun _ => ?_)
            refine wp_call (hsn _ ?_)
            rw [hs]
            refine wp_e1 ?_
            exact yno 4 (by decide) (by decide)
      · refine wp_e0 ?_
        refine xno 2 (by decide) (by decide) ?_
        refine wp_y00 ?_
        refine wp_call (hyl _ ?_)
        refine wp_jp ?_
        refine wp_e1 ?_
        refine wp_lt (by omega) (by omega) (by omega) (by omega) (fun h => absurd h (by omega)) (fun _ => ?_)
        refine wp_ld (by omega) (by omega) ?_
        refine wp_lt (by omega) (by omega) (by omega) (by omega) (fun _ => ?_) (fun h => absurd h (by omega))
        refine wp_jp ?_
        refine wp_lt g3.1 g3.2 (by omega) (by omega) (fun _ => yno 2 (by decide) (by decide)) (fun _ => ?_)
        exact wp_le g3.1 g3.2 (by omega) (by omega) (fun h => absurd t1 (by omega)) (fun _ => yno 2 (by decide) (by decide))
    · refine wp_e0 ?_
      refine xno 1 (by decide) (by decide) ?_
      refine wp_y00 ?_
      refine wp_call (hyl _ ?_)
      refine wp_jp ?_
      refine wp_e1 ?_
      refine wp_lt g2.1 g2.2 (by omega) (by omega) (fun _ => yno 1 (by decide) (by decide)) (fun _ => ?_)
      refine wp_ld (by omega) (by omega) ?_
      exact wp_lt g2.1 g2.2 (by omega) (by omega) (fun h => absurd r1 (by omega)) (fun _ => yno 1 (by decide) (by decide))
  · refine wp_jp ?_
    refine wp_e0 ?_
    refine xno 1 (by decide) (by decide) ?_
    refine wp_y00 ?_
    refine wp_call (sY_isLine g1 (x := y00 y) ⟨a1, a2⟩ (fun h1 h2 => absurd l1 (by omega)) (fun h => ?_))
    refine wp_jp ?_
    refine wp_e0 ?_
    exact yno 1 (by decide) (by decide)
theorem ok_undo : stepOK Inv (fun x => f_X6_undo x) (fun y => f_X7_undo y) := by
  refine stepOK_of (fun x y hI => ?_)
  obtain ⟨a1, a2, a3, a4, a5, a6, a7⟩ := hI.2.1
  obtain ⟨b1, b2, b3, b4, b5, b6, b7, b8, b9⟩ := hI.2.2.1
  have e3 := y00_3 y
  have e4 := y00_4 y
  have e5 := y00_5 y
  have e6 := y00_6 y
  refine wp_eq (by omega) (by omega) (by omega) (by omega) (fun h0 => ?_) (fun h0 => ?_)
  · refine wp_call (sX_deny (wp_ret ?_))
    refine wp_y00 ?_
    refine wp_eq (by omega) (by omega) (by omega) (by omega) (fun _ => ?_) (fun h => absurd h0 (by omega))
    exact wp_call (sY_no (wp_ret ⟨rfl, Inv_no hI 6 (by decide) (by decide)⟩))
  · obtain ⟨g, eg⟩ : ∃ g, g = y.1 5 - 1 := ⟨_, rfl⟩
    have hlg := b8 g (by omega) (by omega)
    have hlr := inv_lg hI (c := g) (by omega) (by omega)
    have hnp := nput_s (y := y) (c := g) (by omega)
    have hnc := nclo_s (y := y) (c := g) (by omega)
    rw [show g + 1 = y.1 5 by omega, b4] at hnp
    rw [show g + 1 = y.1 5 by omega, ← b6] at hnc
    have hnn := nput_nn y g.toNat
    have k13 : rd x 13 g = rd y 9 g := hlg.1
    refine wp_ld (by omega) (by omega) ?_
    refine wp_ld (by omega) (by omega) ?_
    rw [show x.1 5 - 1 = g by omega]
    -- the new states but for the line and struck parts
    have fin : ∀ (u1 u2 : XS), u1.1 5 = g → u2.1 5 = g → u1.1 10 = -1 → iSta u1 u2 → (∀ k : Nat, k = 0 ∨ k = 2 → u1.1 k = x.1 k) → (∀ k : Nat, k = 2 ∨ k = 8 → u2.1 k = y.1 k) → u1.1 3 = u2.1 3 → u2.1 3 = nput y g.toNat → u1.1 4 = u2.1 4 → u2.1 4 = bs y (u2.1 3).toNat → u1.1 6 = u2.1 6 → u2.1 6 = nclo y g.toNat → (∀ (j : Nat) (i : Int), j ≠ 12 → rd u1 j i = rd x j i) → (∀ (j : Nat) (i : Int), rd u2 j i = rd y j i) → (∀ l : Int, 0 ≤ l → l < u2.1 3 → rd u1 12 l = skd y l g.toNat) → Inv u1 u2 := by
      intro u1 u2 q5 p5 q10 hs qk pk q3 p3 q4 p4 q6 p6 qj pj qs
      have h3le : u2.1 3 ≤ y.1 3 := by rw [p3]; exact inv_np hI (by omega)
      have ebs : ∀ n : Nat, bs u2 n = bs y n := fun n => bs_c (fun c _ => pj 7 c)
      have enp : ∀ n : Nat, nput u2 n = nput y n := fun n => nput_c (fun c _ => pj 9 c)
      have enc : ∀ n : Nat, nclo u2 n = nclo y n := fun n => nclo_c (fun c _ => pj 9 c)
      have esk : ∀ (l : Int) (n : Nat), skd u2 l n = skd y l n := fun l n => skd_c (fun c _ => ⟨pj 9 c, pj 10 c⟩)
      have h4le : u2.1 4 ≤ 1200 := by
        have hm : ∀ (a d : Nat), ((a + d : Nat) : Int) ≤ y.1 3 → bs y a ≤ bs y (a + d) := by
          intro a d
          induction d with
          | zero => intro _; exact Int.le_refl _
          | succ d ih =>
            intro hd
            have h1 := ih (by omega)
            have h2 := inv_times hI (l := ((a + d : Nat) : Int)) (by omega) (by omega)
            have e : bs y (a + (d + 1)) = bs y (a + d) + rd y 7 ((a + d : Nat) : Int) := rfl
            rw [e]
            omega
        have h1 := hm (u2.1 3).toNat ((y.1 3).toNat - (u2.1 3).toNat) (by omega)
        rw [show (u2.1 3).toNat + ((y.1 3).toNat - (u2.1 3).toNat) = (y.1 3).toNat by omega] at h1
        omega
      refine ⟨?_, ⟨by omega, by omega, q3, q4, ?_, h4le, fun l m1 m2 => ?_⟩, ⟨by omega, by omega, by omega, ?_, q6, ?_, by omega, fun c m1 m2 => ?_, fun l m1 m2 => ?_⟩, ?_, hs, Or.inl q10⟩
      · exact iNod_c hI.1 (qk 2 (by omega)) (pk 2 (by omega)) (fun j i m1 m2 => qj j i (by omega)) (fun j i m1 => pj j i)
      · rw [ebs]; exact p4
      · obtain ⟨d1, d2⟩ := a7 l m1 (by omega)
        unfold lnEQ lnOK at *
        rw [qj 4 l (by omega), qj 5 l (by omega), qj 6 l (by omega), qj 7 l (by omega), qj 8 l (by omega), qj 9 l (by omega), qj 10 l (by omega), qj 11 l (by omega), pj, pj, pj, pj, pj, pj, pj, ebs, pk 2 (by omega)]
        exact ⟨d1, d2⟩
      · rw [p5, enp, p3]
      · rw [p5, enc, p6]
      · rw [p5] at m2
        have h := b8 c m1 (by omega)
        unfold lgOK at *
        rw [qj 13 c (by omega), qj 14 c (by omega), qj 15 c (by omega), qj 16 c (by omega), pj, pj, pj, pj, pj, ebs, enp, esk, pk 2 (by omega)]
        exact h
      · rw [p5, esk]; exact qs l m1 m2
      · exact iOut_c hI.2.2.2.1 (qk 0 (by omega)) (pk 8 (by omega)) (fun i => qj 0 i (by omega)) (fun i => pj 22 i)
    refine wp_call ?_
    unfold f_X1_removeLatest
    refine wp_le (by omega) (by omega) (by omega) (by omega) (fun h => absurd h (by omega)) (fun _ => ?_)
    refine wp_let ?_
    rw [show x.1 5 - 1 = g by omega]
    refine wp_ld (by simp (disch := omega) only [rd_wr_eq, rd_wr_ne, rd_wr_j, rd_ps, wr_1, ps_eq, ps_ne]; omega) (by simp (disch := omega) only [rd_wr_eq, rd_wr_ne, rd_wr_j, rd_ps, wr_1, ps_eq, ps_ne]; omega) ?_
    rw [ps_eq, rd_ps, k13]
    -- Y
    have ystart : ∀ (P : Int → XS → Prop), (∀ z : XS, z = (if rd y 9 g = 3 then xpS (xpS (y00 y) 5 g) 6 (y.1 6 - 1) else xpS (y00 y) 5 g) → wp (x_ld (z.2 9) 400 (z.1 5) (fun v7 => x_eq v7 0 (x_let (xpS z 3 ((z.1 3) - 1)) (fun x8 => x_ld (x8.2 7) 100 (x8.1 3) (fun v9 => x_let (xpS x8 4 ((x8.1 4) - v9)) (fun x10 => some (1, x10))))) (some (1, z)))) P) → wp (f_X7_undo y) P := by
      intro P h
      refine wp_y00 ?_
      refine wp_eq (by omega) (by omega) (by omega) (by omega) (fun h => absurd h0 (by omega)) (fun _ => ?_)
      refine wp_let ?_
      rw [show (y00 y).1 5 - 1 = g by omega]
      refine wp_ld (by simp (disch := omega) only [rd_wr_eq, rd_wr_ne, rd_wr_j, rd_ps, wr_1, ps_eq, ps_ne]; omega) (by simp (disch := omega) only [rd_wr_eq, rd_wr_ne, rd_wr_j, rd_ps, wr_1, ps_eq, ps_ne]; omega) ?_
      refine wp_jp ?_
      rw [ps_eq, rd_ps, y00_rd]
      refine wp_eq (by omega) (by omega) (by omega) (by omega) (fun h3 => ?_) (fun h3 => ?_)
      · refine wp_let (h _ ?_)
        rw [if_pos h3]
        rfl
      · refine h _ ?_
        rw [if_neg h3]
    -- what is common behind removeLatest
    have hcase : ∀ x4 : XS, x4 = (if rd y 9 g = 3 then xpS (xpS x 5 g) 6 (x.1 6 - 1) else xpS x 5 g) → wp (x_jp (fun (x6 : XS) => x_call (f_X5_forget x6) (fun _ x8 => x_call (f_X6_agree x8) (fun r9 x10 => some (r9, x10)))) (fun jp5 => x_eq (rd y 9 g) 0 (x_call (f_X0_removeLatest x4) (fun _ x13 => jp5 x13)) (x_eq (rd y 9 g) 1 (x_stb x4 12 100 (rd x 14 g) 0 (fun x11 => jp5 x11)) (jp5 x4)))) (fun r x' => wp (f_X7_undo y) (fun r' y' => r = r' ∧ Inv x' y')) := by
      intro x4 hx4
      have s4 : ∀ l : Int, skd y l (y.1 5).toNat = if rd y 9 g = 1 ∧ rd y 10 g = l then 1 else skd y l g.toNat := fun l => by
        have := skd_s (y := y) (l := l) (c := g) (by omega)
        rw [show g + 1 = y.1 5 by omega] at this
        exact this
      refine wp_jp ?_
      refine wp_eq (by omega) (by omega) (by omega) (by omega) (fun w0 => ?_) (fun w0 => ?_)
      · -- a line goes
        rw [if_neg (by omega)] at hx4
        rw [if_pos w0] at hnp
        have hl1 := (a7 (y.1 3 - 1) (by omega) (by omega))
        have hb := bs_s (y := y) (c := y.1 3 - 1) (by omega)
        rw [show y.1 3 - 1 + 1 = y.1 3 by omega, ← a5] at hb
        unfold lnEQ lnOK at hl1
        refine wp_call ?_
        unfold f_X0_removeLatest
        subst hx4
        refine wp_le (by simp (disch := omega) only [rd_wr_eq, rd_wr_ne, rd_wr_j, rd_ps, wr_1, ps_eq, ps_ne]; omega) (by simp (disch := omega) only [rd_wr_eq, rd_wr_ne, rd_wr_j, rd_ps, wr_1, ps_eq, ps_ne]; omega) (by omega) (by omega) (fun h => absurd h (by simp (disch := omega) only [rd_wr_eq, rd_wr_ne, rd_wr_j, rd_ps, wr_1, ps_eq, ps_ne]; omega)) (fun _ => ?_)
        refine wp_let ?_
        refine wp_ld (by simp (disch := omega) only [rd_wr_eq, rd_wr_ne, rd_wr_j, rd_ps, wr_1, ps_eq, ps_ne]; omega) (by simp (disch := omega) only [rd_wr_eq, rd_wr_ne, rd_wr_j, rd_ps, wr_1, ps_eq, ps_ne]; omega) ?_
        refine wp_let (wp_ret ?_)
        refine wp_call (wp_let (wp_ret ?_))
        refine wp_call (sX_agree (wp_ret ?_))
        refine ystart _ (fun z hz => ?_)
        rw [if_neg (by omega)] at hz
        subst hz
        refine wp_ld (by simp (disch := omega) only [rd_wr_eq, rd_wr_ne, rd_wr_j, rd_ps, wr_1, ps_eq, ps_ne]; omega) (by simp (disch := omega) only [rd_wr_eq, rd_wr_ne, rd_wr_j, rd_ps, wr_1, ps_eq, ps_ne]; omega) ?_
        simp (disch := omega) only [rd_wr_eq, rd_wr_ne, rd_wr_j, rd_ps, wr_1, ps_eq, ps_ne, y00_rd]
        refine wp_eq (by omega) (by omega) (by omega) (by omega) (fun _ => ?_) (fun h => absurd w0 h)
        refine wp_let ?_
        refine wp_ld (by simp (disch := omega) only [rd_wr_eq, rd_wr_ne, rd_wr_j, rd_ps, wr_1, ps_eq, ps_ne, y00_3]; omega) (by simp (disch := omega) only [rd_wr_eq, rd_wr_ne, rd_wr_j, rd_ps, wr_1, ps_eq, ps_ne, y00_3]; omega) ?_
        refine wp_let (wp_ret ⟨rfl, ?_⟩)
        refine fin _ _ ?_ ?_ ?_ ⟨rfl, z07.1, z07.2⟩ ?_ ?_ ?_ ?_ ?_ ?_ ?_ ?_ ?_ ?_ ?_
        · simp (disch := omega) only [rd_wr_eq, rd_wr_ne, rd_wr_j, rd_ps, wr_1, ps_eq, ps_ne]
        · simp (disch := omega) only [rd_wr_eq, rd_wr_ne, rd_wr_j, rd_ps, wr_1, ps_eq, ps_ne]
        · simp (disch := omega) only [rd_wr_eq, rd_wr_ne, rd_wr_j, rd_ps, wr_1, ps_eq, ps_ne]
        · rintro k (rfl | rfl) <;> rfl
        · rintro k (rfl | rfl) <;> rfl
        · simp (disch := omega) only [rd_wr_eq, rd_wr_ne, rd_wr_j, rd_ps, wr_1, ps_eq, ps_ne, y00_3]; omega
        · simp (disch := omega) only [rd_wr_eq, rd_wr_ne, rd_wr_j, rd_ps, wr_1, ps_eq, ps_ne, y00_3]; omega
        · simp (disch := omega) only [rd_wr_eq, rd_wr_ne, rd_wr_j, rd_ps, wr_1, ps_eq, ps_ne, y00_3, y00_4, y00_rd]
          rw [a3, hl1.1.2.2.2.2.2.1]
          omega
        · simp (disch := omega) only [rd_wr_eq, rd_wr_ne, rd_wr_j, rd_ps, wr_1, ps_eq, ps_ne, y00_3, y00_4, y00_rd]
          omega
        · simp (disch := omega) only [rd_wr_eq, rd_wr_ne, rd_wr_j, rd_ps, wr_1, ps_eq, ps_ne, y00_6]; exact b5
        · simp (disch := omega) only [rd_wr_eq, rd_wr_ne, rd_wr_j, rd_ps, wr_1, ps_eq, ps_ne, y00_6]; rw [hnc, if_neg (by omega)]; omega
        · intro j i m; simp (disch := omega) only [rd_wr_eq, rd_wr_ne, rd_wr_j, rd_ps, wr_1, ps_eq, ps_ne]
        · intro j i; simp (disch := omega) only [rd_wr_eq, rd_wr_ne, rd_wr_j, rd_ps, wr_1, ps_eq, ps_ne, y00_rd]
        · intro l m1 m2
          simp (disch := omega) only [rd_wr_eq, rd_wr_ne, rd_wr_j, rd_ps, wr_1, ps_eq, ps_ne, y00_3] at m2
          simp (disch := omega) only [rd_wr_eq, rd_wr_ne, rd_wr_j, rd_ps, wr_1, ps_eq, ps_ne]
          rw [b9 l m1 (by omega), s4 l, if_neg (by omega)]
      · refine wp_eq (by omega) (by omega) (by omega) (by omega) (fun w1 => ?_) (fun w1 => ?_)
        · -- a strike goes
          rw [if_neg (by omega)] at hx4
          rw [if_neg w0] at hnp
          have q : rd x 14 g = rd y 10 g ∧ 0 ≤ rd y 10 g ∧ rd y 10 g < nput y g.toNat ∧ skd y (rd y 10 g) g.toNat = 0 := by
            obtain ⟨-, q | q | q | q⟩ := hlg
            · omega
            · exact q.2
            · omega
            · omega
          refine wp_stb (by omega) (by omega) (by omega) ?_
          subst hx4
          refine wp_call (wp_let (wp_ret ?_))
          refine wp_call (sX_agree (wp_ret ?_))
          refine ystart _ (fun z hz => ?_)
          rw [if_neg (by omega)] at hz
          subst hz
          refine wp_ld (by simp (disch := omega) only [rd_wr_eq, rd_wr_ne, rd_wr_j, rd_ps, wr_1, ps_eq, ps_ne]; omega) (by simp (disch := omega) only [rd_wr_eq, rd_wr_ne, rd_wr_j, rd_ps, wr_1, ps_eq, ps_ne]; omega) ?_
          simp (disch := omega) only [rd_wr_eq, rd_wr_ne, rd_wr_j, rd_ps, wr_1, ps_eq, ps_ne, y00_rd]
          refine wp_eq (by omega) (by omega) (by omega) (by omega) (fun h => absurd h w0) (fun _ => wp_ret ⟨rfl, ?_⟩)
          refine fin _ _ ?_ ?_ ?_ ⟨rfl, z07.1, z07.2⟩ ?_ ?_ ?_ ?_ ?_ ?_ ?_ ?_ ?_ ?_ ?_
          · simp (disch := omega) only [rd_wr_eq, rd_wr_ne, rd_wr_j, rd_ps, wr_1, ps_eq, ps_ne]
          · simp (disch := omega) only [rd_wr_eq, rd_wr_ne, rd_wr_j, rd_ps, wr_1, ps_eq, ps_ne]
          · simp (disch := omega) only [rd_wr_eq, rd_wr_ne, rd_wr_j, rd_ps, wr_1, ps_eq, ps_ne]
          · rintro k (rfl | rfl) <;> rfl
          · rintro k (rfl | rfl) <;> rfl
          · simp (disch := omega) only [rd_wr_eq, rd_wr_ne, rd_wr_j, rd_ps, wr_1, ps_eq, ps_ne, y00_3]; omega
          · simp (disch := omega) only [rd_wr_eq, rd_wr_ne, rd_wr_j, rd_ps, wr_1, ps_eq, ps_ne, y00_3]; omega
          · simp (disch := omega) only [rd_wr_eq, rd_wr_ne, rd_wr_j, rd_ps, wr_1, ps_eq, ps_ne, y00_4]; omega
          · simp (disch := omega) only [rd_wr_eq, rd_wr_ne, rd_wr_j, rd_ps, wr_1, ps_eq, ps_ne, y00_3, y00_4]; omega
          · simp (disch := omega) only [rd_wr_eq, rd_wr_ne, rd_wr_j, rd_ps, wr_1, ps_eq, ps_ne, y00_6]; exact b5
          · simp (disch := omega) only [rd_wr_eq, rd_wr_ne, rd_wr_j, rd_ps, wr_1, ps_eq, ps_ne, y00_6]; rw [hnc, if_neg (by omega)]; omega
          · intro j i m; simp (disch := omega) only [rd_wr_eq, rd_wr_ne, rd_wr_j, rd_ps, wr_1, ps_eq, ps_ne]
          · intro j i; simp (disch := omega) only [rd_wr_eq, rd_wr_ne, rd_wr_j, rd_ps, wr_1, ps_eq, ps_ne, y00_rd]
          · intro l m1 m2
            simp (disch := omega) only [rd_wr_eq, rd_wr_ne, rd_wr_j, rd_ps, wr_1, ps_eq, ps_ne, y00_3] at m2
            rw [rd_ps, rd_ps]
            by_cases hl : l = rd x 14 g
            · rw [hl, rd_wr_eq]
              rw [q.1]
              exact q.2.2.2.symm
            · rw [rd_wr_ne (by omega) m1 hl, rd_ps, b9 l m1 (by omega), s4 l, if_neg (by omega)]
        · -- a delay or a closing goes
          rw [if_neg w0] at hnp
          refine wp_call (wp_let (wp_ret ?_))
          refine wp_call (sX_agree (wp_ret ?_))
          refine ystart _ (fun z hz => ?_)
          by_cases w3 : rd y 9 g = 3
          · rw [if_pos w3] at hz hx4 hnc
            subst hz
            subst hx4
            refine wp_ld (by simp (disch := omega) only [rd_wr_eq, rd_wr_ne, rd_wr_j, rd_ps, wr_1, ps_eq, ps_ne]; omega) (by simp (disch := omega) only [rd_wr_eq, rd_wr_ne, rd_wr_j, rd_ps, wr_1, ps_eq, ps_ne]; omega) ?_
            simp (disch := omega) only [rd_wr_eq, rd_wr_ne, rd_wr_j, rd_ps, wr_1, ps_eq, ps_ne, y00_rd]
            refine wp_eq (by omega) (by omega) (by omega) (by omega) (fun h => absurd h w0) (fun _ => wp_ret ⟨rfl, ?_⟩)
            refine fin _ _ ?_ ?_ ?_ ⟨rfl, z07.1, z07.2⟩ ?_ ?_ ?_ ?_ ?_ ?_ ?_ ?_ ?_ ?_ ?_
            · simp (disch := omega) only [rd_wr_eq, rd_wr_ne, rd_wr_j, rd_ps, wr_1, ps_eq, ps_ne]
            · simp (disch := omega) only [rd_wr_eq, rd_wr_ne, rd_wr_j, rd_ps, wr_1, ps_eq, ps_ne]
            · simp (disch := omega) only [rd_wr_eq, rd_wr_ne, rd_wr_j, rd_ps, wr_1, ps_eq, ps_ne]
            · rintro k (rfl | rfl) <;> rfl
            · rintro k (rfl | rfl) <;> rfl
            · simp (disch := omega) only [rd_wr_eq, rd_wr_ne, rd_wr_j, rd_ps, wr_1, ps_eq, ps_ne, y00_3]; omega
            · simp (disch := omega) only [rd_wr_eq, rd_wr_ne, rd_wr_j, rd_ps, wr_1, ps_eq, ps_ne, y00_3]; omega
            · simp (disch := omega) only [rd_wr_eq, rd_wr_ne, rd_wr_j, rd_ps, wr_1, ps_eq, ps_ne, y00_4]; omega
            · simp (disch := omega) only [rd_wr_eq, rd_wr_ne, rd_wr_j, rd_ps, wr_1, ps_eq, ps_ne, y00_3, y00_4]; omega
            · simp (disch := omega) only [rd_wr_eq, rd_wr_ne, rd_wr_j, rd_ps, wr_1, ps_eq, ps_ne, y00_6]; omega
            · simp (disch := omega) only [rd_wr_eq, rd_wr_ne, rd_wr_j, rd_ps, wr_1, ps_eq, ps_ne, y00_6]; omega
            · intro j i m; simp (disch := omega) only [rd_wr_eq, rd_wr_ne, rd_wr_j, rd_ps, wr_1, ps_eq, ps_ne]
            · intro j i; simp (disch := omega) only [rd_wr_eq, rd_wr_ne, rd_wr_j, rd_ps, wr_1, ps_eq, ps_ne, y00_rd]
            · intro l m1 m2
              simp (disch := omega) only [rd_wr_eq, rd_wr_ne, rd_wr_j, rd_ps, wr_1, ps_eq, ps_ne, y00_3] at m2
              simp (disch := omega) only [rd_wr_eq, rd_wr_ne, rd_wr_j, rd_ps, wr_1, ps_eq, ps_ne]
              rw [b9 l m1 (by omega), s4 l, if_neg (by omega)]
          · rw [if_neg w3] at hz hx4 hnc
            subst hz
            subst hx4
            refine wp_ld (by simp (disch := omega) only [rd_wr_eq, rd_wr_ne, rd_wr_j, rd_ps, wr_1, ps_eq, ps_ne]; omega) (by simp (disch := omega) only [rd_wr_eq, rd_wr_ne, rd_wr_j, rd_ps, wr_1, ps_eq, ps_ne]; omega) ?_
            simp (disch := omega) only [rd_wr_eq, rd_wr_ne, rd_wr_j, rd_ps, wr_1, ps_eq, ps_ne, y00_rd]
            refine wp_eq (by omega) (by omega) (by omega) (by omega) (fun h => absurd h w0) (fun _ => wp_ret ⟨rfl, ?_⟩)
            refine fin _ _ ?_ ?_ ?_ ⟨rfl, z07.1, z07.2⟩ ?_ ?_ ?_ ?_ ?_ ?_ ?_ ?_ ?_ ?_ ?_
            · simp (disch := omega) only [rd_wr_eq, rd_wr_ne, rd_wr_j, rd_ps, wr_1, ps_eq, ps_ne]
            · simp (disch := omega) only [rd_wr_eq, rd_wr_ne, rd_wr_j, rd_ps, wr_1, ps_eq, ps_ne]
            · simp (disch := omega) only [rd_wr_eq, rd_wr_ne, rd_wr_j, rd_ps, wr_1, ps_eq, ps_ne]
            · rintro k (rfl | rfl) <;> rfl
            · rintro k (rfl | rfl) <;> rfl
            · simp (disch := omega) only [rd_wr_eq, rd_wr_ne, rd_wr_j, rd_ps, wr_1, ps_eq, ps_ne, y00_3]; omega
            · simp (disch := omega) only [rd_wr_eq, rd_wr_ne, rd_wr_j, rd_ps, wr_1, ps_eq, ps_ne, y00_3]; omega
            · simp (disch := omega) only [rd_wr_eq, rd_wr_ne, rd_wr_j, rd_ps, wr_1, ps_eq, ps_ne, y00_4]; omega
            · simp (disch := omega) only [rd_wr_eq, rd_wr_ne, rd_wr_j, rd_ps, wr_1, ps_eq, ps_ne, y00_3, y00_4]; omega
            · simp (disch := omega) only [rd_wr_eq, rd_wr_ne, rd_wr_j, rd_ps, wr_1, ps_eq, ps_ne, y00_6]; omega
            · simp (disch := omega) only [rd_wr_eq, rd_wr_ne, rd_wr_j, rd_ps, wr_1, ps_eq, ps_ne, y00_6]; omega
            · intro j i m; simp (disch := omega) only [rd_wr_eq, rd_wr_ne, rd_wr_j, rd_ps, wr_1, ps_eq, ps_ne]
            · intro j i; simp (disch := omega) only [rd_wr_eq, rd_wr_ne, rd_wr_j, rd_ps, wr_1, ps_eq, ps_ne, y00_rd]
            · intro l m1 m2
              simp (disch := omega) only [rd_wr_eq, rd_wr_ne, rd_wr_j, rd_ps, wr_1, ps_eq, ps_ne, y00_3] at m2
              simp (disch := omega) only [rd_wr_eq, rd_wr_ne, rd_wr_j, rd_ps, wr_1, ps_eq, ps_ne]
              rw [b9 l m1 (by omega), s4 l, if_neg (by omega)]
    refine wp_eq (by omega) (by omega) (by omega) (by omega) (fun h3 => wp_let (wp_ret (hcase _ (by rw [if_pos h3]; rfl)))) (fun h3 => wp_ret (hcase _ (by rw [if_neg h3])))
