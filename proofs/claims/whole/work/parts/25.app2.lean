theorem ok_close (w1 w2 w3 : Int) (g1 : rg w1) (g2 : rg w2) (g3 : rg w3) : stepOK Inv (fun x => f_X6_close x w1 w2 w3) (fun y => f_X7_close y w1 w2 w3) := by
  refine stepOK_of (fun x y hI => ?_)
  obtain ⟨a1, a2, a3, a4⟩ := hI.1
  obtain ⟨b1, b2, b3, b4, b5, b6, b7, b8, b9⟩ := hI.2.2.1
  have h6 : 0 ≤ y.1 6 := by
    have : ∀ n : Nat, 0 ≤ nclo y n := by
      intro n
      induction n with
      | zero => exact Int.le_refl _
      | succ n ih =>
        have e : nclo y (n + 1) = nclo y n + (if rd y 9 (n : Int) = 3 then 1 else 0) := rfl
        rw [e]
        split <;> omega
    rw [b6]; exact this _
  have e2 := y00_2 y
  have e5 := y00_5 y
  have e6 := y00_6 y
  have no2 : (w2 < 0 ∨ 5000 < w2 ∨ w3 < 0 ∨ 5000 < w3 ∨ w3 < w2) → 0 ≤ w1 → w1 < y.1 2 → wp (f_X7_close y w1 w2 w3) (fun r' y' => 0 = r' ∧ Inv (xpS x 1 2) y') := by
    intro h n1 n2
    have fin : wp (x_call (f_X7_no (y00 y) 2) (fun r9 x10 => some (r9, x10))) (fun r' y' => 0 = r' ∧ Inv (xpS x 1 2) y') := wp_call (sY_no (wp_ret ⟨rfl, Inv_no hI 2 (by decide) (by decide)⟩))
    refine wp_y00 ?_
    refine wp_call (sY_isNode g1 (x := y00 y) ⟨a1, a2⟩ (fun _ _ => ?_) (fun h => absurd h (by omega)))
    refine wp_e1 ?_
    refine wp_call (sY_isTick g2 (fun p1 p2 => ?_) (fun p1 => ?_))
    · refine wp_jp ?_
      refine wp_e1 ?_
      refine wp_call (sY_isTick g3 (fun q1 q2 => ?_) (fun q1 => ?_))
      · refine wp_e1 ?_
        refine wp_le (by omega) (by omega) (by omega) (by omega) (fun h => absurd h (by omega)) (fun _ => fin)
      · refine wp_e0 ?_
        exact fin
    · refine wp_jp ?_
      refine wp_e0 ?_
      exact fin
  refine wp_call (sX_isNode g1 (by omega) (fun n1 n2 => ?_) (fun n1 => ?_))
  · refine wp_e1 ?_
    refine wp_call (sX_isTick g2 (fun p1 p2 => ?_) (fun p1 => ?_))
    · refine wp_jp ?_
      refine wp_e1 ?_
      refine wp_call (sX_isTick g3 (fun q1 q2 => ?_) (fun q1 => ?_))
      · refine wp_e1 ?_
        refine wp_le (by omega) (by omega) (by omega) (by omega) (fun hc => ?_) (fun hc => ?_)
        · refine wp_jp ?_
          have ypre : ∀ (P : Int → XS → Prop) (K : XR), wp K P → K = (x_eq ((y00 y).1 6) 60 (x_call (f_X7_no (y00 y) 3) (fun r15 x16 => some (r15, x16))) (x_eq ((y00 y).1 5) 400 (x_call (f_X7_no (y00 y) 3) (fun r15 x16 => some (r15, x16))) (x_call (f_X7_logs (y00 y) 3 w1 w2 w3) (fun _ x18 => x_let (xpS x18 6 ((x18.1 6) + 1)) (fun x19 => some (1, x19)))))) → wp (f_X7_close y w1 w2 w3) P := by
            intro P K h hK
            subst hK
            refine wp_y00 ?_
            refine wp_call (sY_isNode g1 (x := y00 y) ⟨a1, a2⟩ (fun _ _ => ?_) (fun h => absurd h (by omega)))
            refine wp_e1 ?_
            refine wp_call (sY_isTick g2 (fun _ _ => ?_) (fun h => absurd h (by omega)))
            refine wp_jp ?_
            refine wp_e1 ?_
            refine wp_call (sY_isTick g3 (fun _ _ => ?_) (fun h => absurd h (by omega)))
            refine wp_e1 ?_
            refine wp_le (by omega) (by omega) (by omega) (by omega) (fun _ => ?_) (fun h => absurd hc (by omega))
            exact wp_jp h
          have full : (y.1 6 = 60 ∨ y.1 5 = 400) → wp (x_call (f_X6_deny x 3) (fun r13 x14 => some (r13, x14))) (fun r x' => wp (f_X7_close y w1 w2 w3) (fun r' y' => r = r' ∧ Inv x' y')) := by
            intro h
            refine wp_call (sX_deny (wp_ret ?_))
            refine ypre _ _ ?_ rfl
            have fin : wp (x_call (f_X7_no (y00 y) 3) (fun r9 x10 => some (r9, x10))) (fun r' y' => 0 = r' ∧ Inv (xpS x 1 3) y') := wp_call (sY_no (wp_ret ⟨rfl, Inv_no hI 3 (by decide) (by decide)⟩))
            refine wp_eq (by omega) (by omega) (by omega) (by omega) (fun _ => fin) (fun h1 => ?_)
            exact wp_eq (by omega) (by omega) (by omega) (by omega) (fun _ => fin) (fun h1 => absurd h (by omega))
          refine wp_le (by omega) (by omega) (by omega) (by omega) (fun hf => ?_) (fun hf => ?_)
          · exact full (by omega)
          · refine wp_call (sX_isFull (by omega) (fun hg => ?_) (fun hg => ?_))
            · refine wp_e1 ?_
              exact full (by omega)
            · refine wp_e0 ?_
              refine wp_call (sX_logadd (rg_lit (by omega) (by omega)) (by omega) (by omega) ?_)
              rw [if_pos rfl]
              refine wp_call (sX_agree (wp_ret ?_))
              refine ypre _ _ ?_ rfl
              refine wp_eq (by omega) (by omega) (by omega) (by omega) (fun h => absurd h (by omega)) (fun _ => ?_)
              refine wp_eq (by omega) (by omega) (by omega) (by omega) (fun h => absurd h (by omega)) (fun _ => ?_)
              refine wp_call (sY_logs (by omega) (by omega) (wp_let (wp_ret ⟨rfl, ?_⟩)))
              obtain ⟨u1, eu1⟩ : ∃ u, u = xpS (xpS (xlog x 3 w1 w2 w3) 6 (x.1 6 + 1)) 1 0 := ⟨_, rfl⟩
              obtain ⟨u2, eu2⟩ : ∃ u, u = xpS (ylog (y00 y) 3 w1 w2 w3) 6 ((ylog (y00 y) 3 w1 w2 w3).1 6 + 1) := ⟨_, rfl⟩
              rw [← eu1, ← eu2]
              have y9 : rd u2 9 (y.1 5) = 3 := by rw [eu2, rd_ps, ← e5, yl_9]
              have y10 : rd u2 10 (y.1 5) = w1 := by rw [eu2, rd_ps, ← e5, yl_10]
              have y11 : rd u2 11 (y.1 5) = w2 := by rw [eu2, rd_ps, ← e5, yl_11]
              have y12 : rd u2 12 (y.1 5) = w3 := by rw [eu2, rd_ps, ← e5, yl_12]
              have x13 : rd u1 13 (y.1 5) = 3 := by rw [eu1, rd_ps, rd_ps, ← b3, xl_13]
              have x14 : rd u1 14 (y.1 5) = w1 := by rw [eu1, rd_ps, rd_ps, ← b3, xl_14]
              have x15 : rd u1 15 (y.1 5) = w2 := by rw [eu1, rd_ps, rd_ps, ← b3, xl_15]
              have x16 : rd u1 16 (y.1 5) = w3 := by rw [eu1, rd_ps, rd_ps, ← b3, xl_16]
              have xk : ∀ k : Nat, k ≠ 1 → k ≠ 5 → k ≠ 6 → u1.1 k = x.1 k := fun k m1 m2 m3 => by rw [eu1, ps_ne m1, ps_ne m3, xl_ne m2]
              have yk : ∀ k : Nat, 2 ≤ k → k ≠ 5 → k ≠ 6 → u2.1 k = y.1 k := fun k m1 m2 m3 => by rw [eu2, ps_ne m3, yl_ne m2]; unfold y00; simp (disch := omega) only [rd_wr_eq, rd_wr_ne, rd_wr_j, rd_ps, wr_1, ps_eq, ps_ne]
              have xj : ∀ (j : Nat) (i : Int), (j < 13 ∨ 16 < j) → rd u1 j i = rd x j i := fun j i m => by rw [eu1, rd_ps, rd_ps, xl_j m]
              have yj : ∀ (j : Nat) (i : Int), (j < 9 ∨ 12 < j) → rd u2 j i = rd y j i := fun j i m => by rw [eu2, rd_ps, yl_j m]; rfl
              have x5 : u1.1 5 = y.1 5 + 1 := by rw [eu1, ps_ne (by decide), ps_ne (by decide), xl_5, b3]
              have y5 : u2.1 5 = y.1 5 + 1 := by rw [eu2, ps_ne (by decide), yl_5]; rfl
              have x6 : u1.1 6 = y.1 6 + 1 := by rw [eu1, ps_ne (by decide), ps_eq, b5]
              have y6 : u2.1 6 = y.1 6 + 1 := by rw [eu2, ps_eq, yl_ne (by decide)]; rfl
              obtain ⟨p1, p2⟩ := log_app (x := x) (y := y) (x' := u1) (y' := u2) hI (by omega) (yk 2 (by decide) (by decide) (by decide)) x5 y5
                (fun j i m1 m2 m3 m4 => by rw [eu1, rd_ps, rd_ps, xl_old m3 (by omega)]) (fun j i m1 m2 m3 m4 => by rw [eu2, rd_ps, yl_old m3 (by omega)]; rfl) (fun j i m1 m2 m3 m4 => yj j i (by omega))
                (by
                  unfold lgOK
                  rw [x13, x14, x15, x16, y9, y10, y11, y12, yk 2 (by decide) (by decide) (by decide)]
                  exact ⟨rfl, Or.inr (Or.inr (Or.inr ⟨rfl, rfl, rfl, rfl, by omega, by omega, by omega, by omega, by omega, by omega⟩))⟩)
                (by rw [y9, yk 3 (by decide) (by decide) (by decide)]; show y.1 3 = y.1 3 + 0; omega)
                (by omega) (by rw [y9, if_pos rfl]; exact y6) (by omega)
                (fun l m1 m2 => by
                  rw [yk 3 (by decide) (by decide) (by decide)] at m2
                  rw [xj 12 l (by omega), y9, if_neg (fun h => absurd h.1 (by decide)), if_pos m2])
              refine ⟨?_, ?_, p1, ?_, ⟨?_, ?_, ?_⟩, ?_⟩
              · exact iNod_c hI.1 (xk 2 (by decide) (by decide) (by decide)) (yk 2 (by decide) (by decide) (by decide)) (fun j i m1 m2 => xj j i (by omega)) (fun j i m1 => yj j i (by omega))
              · exact iLin_c hI.2.1 (Int.le_of_eq (yk 2 (by decide) (by decide) (by decide)).symm) (xk 3 (by decide) (by decide) (by decide)) (xk 4 (by decide) (by decide) (by decide)) (yk 3 (by decide) (by decide) (by decide)) (yk 4 (by decide) (by decide) (by decide)) (fun j i m1 m2 => xj j i (by omega)) (fun j i m1 m2 => yj j i (by omega))
              · exact iOut_c hI.2.2.2.1 (xk 0 (by decide) (by decide) (by decide)) (yk 8 (by decide) (by decide) (by decide)) (fun i => xj 0 i (by omega)) (fun i => yj 22 i (by omega))
              · rw [eu1, eu2, ps_eq]; rfl
              · rw [eu2]; exact z07.1
              · rw [eu2]; exact z07.2
              · exact iVw_c hI.2.2.2.2.2 (xk 8 (by decide) (by decide) (by decide)) (xk 9 (by decide) (by decide) (by decide)) (xk 10 (by decide) (by decide) (by decide)) (by omega) (fun j i m1 m2 m3 => xj j i (by omega)) p2
        · refine wp_call (sX_deny (wp_ret (no2 (by omega) n1 (by omega))))
      · refine wp_e0 ?_
        refine wp_call (sX_deny (wp_ret (no2 (by omega) n1 (by omega))))
    · refine wp_jp ?_
      refine wp_e0 ?_
      refine wp_call (sX_deny (wp_ret (no2 (by omega) n1 (by omega))))
  · refine wp_e0 ?_
    refine wp_call (sX_deny (wp_ret ?_))
    refine wp_y00 ?_
    refine wp_call (sY_isNode g1 (x := y00 y) ⟨a1, a2⟩ (fun h1 h2 => absurd n1 (by omega)) (fun h => ?_))
    refine wp_e0 ?_
    exact wp_call (sY_no (wp_ret ⟨rfl, Inv_no hI 1 (by decide) (by decide)⟩))
