theorem Inv_fin {z y t : XS} (h : Inv z y) (ht : exY y t) {a : Int} (ha : t.1 0 = a) (h0 : 0 ≤ a) (h7 : a ≤ 7) : Inv (xpS z 1 a) t := Inv_ex h (exX.ps z 1 a (by omega)) ht ⟨by rw [ps_eq, ha], by omega, by omega⟩
/-- behind known, on the state that a call begins with -/
theorem ex_known {y t : XS} (t1 : ∀ k : Nat, t.1 k = (y00 y).1 k) (tj : ∀ (j : Nat) (i : Int), j ≠ 13 → j ≠ 14 → rd t j i = rd (y00 y) j i) : exY y t := (y00_ex y).tr ⟨fun k a b c => t1 k, fun j i a => tj j i (by omega) (by omega)⟩
theorem ok_run (w1 w2 w3 w4 : Int) (g1 : rg w1) (g2 : rg w2) (g3 : rg w3) (g4 : rg w4) : stepOK Inv (fun x => f_X6_run x w1 w2 w3 w4) (fun y => f_X7_run y w1 w2 w3 w4) := by
  refine stepOK_of (fun x y hI => ?_)
  have hle := hI.2.2.1.2.1
  have hge := hI.2.2.1.1
  have hx5 := hI.2.2.1.2.2.1
  have e5 := y00_5 y
  have hln := hI.2.1.2.1
  have hln0 := hI.2.1.1
  refine wp_call (sX_isChange g3 (by omega) (fun v1 v2 => ?_) (fun v1 => ?_))
  · refine wp_e1 ?_
    have v3 : w3 ≤ y.1 5 := by omega
    have hnp := inv_np hI (c := w3.toNat) (by omega)
    have hnn := nput_nn y w3.toNat
    refine wp_call (sX_show hI v1 v3 (fun z hz hz10 hv => ?_))
    have z8 := hv.1
    -- Y, up to its tests
    have ystart : ∀ (P : Int → XS → Prop), (∀ t : XS, exY y t → t.1 0 = 0 → t.1 3 = y.1 3 → (∀ (j : Nat) (i : Int), j ≤ 12 → rd t j i = rd y j i) → (∀ l : Int, 0 ≤ l → l < y.1 3 → rd t 13 l = (if l < nput y w3.toNat then 1 else 0) ∧ rd t 14 l = skd y l w3.toNat) → wp (x_call (f_X7_isLine t w1) (fun r9 x10 => x_jp (fun (x12 : XS) => x_call (f_X7_refuse x12 1) (fun r13 x14 => some (r13, x14))) (fun jp11 => x_eq r9 0 (jp11 x10) (x_ld (x10.2 13) 100 w1 (fun v15 => x_eq v15 0 (jp11 x10) (x_lt w2 0 (jp11 x10) (x_ld (x10.2 7) 100 w1 (fun v16 => x_lt w2 v16 (x_jp (fun (x18 : XS) => x_call (f_X7_refuse x18 2) (fun r19 x20 => some (r19, x20))) (fun jp17 => x_lt w4 0 (jp17 x10) (x_le w4 2 (x_call (f_X7_leavesAt x10 w1 w2 w3) (fun r21 x22 => x_eq w4 0 (some (r21, x22)) (x_eq w4 1 (x_ld (x22.2 6) 100 w1 (fun v25 => some ((r21 + v25), x22))) (x_call (f_X7_stands x22 w1 r21 w3) (fun r23 x24 => x_eq r23 0 (some (0, x24)) (some (1, x24))))))) (jp17 x10)))) (jp11 x10)))))))) ) P) → wp (f_X7_run y w1 w2 w3 w4) P := by
      intro P h
      refine wp_y00 ?_
      refine wp_jp ?_
      refine wp_lt g3.1 g3.2 (by omega) (by omega) (fun h => absurd h (by omega)) (fun _ => ?_)
      refine wp_le g3.1 g3.2 (by omega) (by omega) (fun _ => ?_) (fun h => absurd h (by omega))
      refine wp_call (sY_known hI (u := y00 y) rfl (fun _ _ _ => rfl) v1 v3 (fun t t1 tj to => ?_))
      exact h t (ex_known t1 tj) ((t1 0).trans rfl) ((t1 3).trans rfl) (fun j i a => tj j i (by omega) (by omega)) to
    have no1 : (w1 < 0 ∨ nput y w3.toNat ≤ w1 ∨ w2 < 0 ∨ rd y 7 w1 ≤ w2) → wp (x_call (f_X6_refuse z 1) (fun r9 x10 => some (r9, x10))) (fun r x' => wp (f_X7_run y w1 w2 w3 w4) (fun r' y' => r = r' ∧ Inv x' y')) := by
      intro hn
      refine wp_call (sX_refuse (wp_ret (ystart _ (fun t ht t0 t3 tj to => ?_))))
      have fin : wp (x_call (f_X7_refuse t 1) (fun r13 x14 => some (r13, x14))) (fun r' y' => -1 = r' ∧ Inv (xpS z 1 1) y') := wp_call (sY_refuse (wp_ret ⟨rfl, Inv_fin hz (ht.tr (exY.ps t 0 1 (by omega))) ps_eq (by decide) (by decide)⟩))
      refine wp_call (sY_isLine g1 (by omega) (fun l1 l2 => ?_) (fun l1 => ?_))
      · refine wp_jp ?_
        refine wp_e1 ?_
        obtain ⟨b1, b2⟩ := to w1 l1 (by omega)
        have ht7 := inv_times hI l1 (by omega)
        refine wp_ld (by omega) (by omega) ?_
        rw [b1]
        by_cases hp : w1 < nput y w3.toNat
        · rw [if_pos hp]
          refine wp_e1 ?_
          refine wp_lt g2.1 g2.2 (by omega) (by omega) (fun _ => fin) (fun h2 => ?_)
          refine wp_ld (by omega) (by omega) ?_
          rw [tj 7 w1 (by decide)]
          refine wp_lt g2.1 g2.2 (by omega) (by omega) (fun h => absurd hn (by omega)) (fun _ => fin)
        · rw [if_neg hp]
          refine wp_e0 ?_
          exact fin
      · refine wp_jp ?_
        refine wp_e0 ?_
        exact fin
    refine wp_call (sX_isBetween g1 (rg_lit (by omega) (by omega)) (rg_lit (by omega) (by omega)) (fun l1 l2 => ?_) (fun l1 => ?_))
    · refine wp_jp ?_
      refine wp_e1 ?_
      have hl3 : w1 < y.1 3 := by omega
      have q1 := (hz.2.1.2.2.2.2.2.2 w1 l1 hl3).1
      have q2 := (hI.2.1.2.2.2.2.2.2 w1 l1 hl3).2
      unfold lnEQ at q1
      unfold lnOK at q2
      have e9 : rd z 9 w1 = rd y 7 w1 := q1.2.2.2.2.2.1
      have e11 : rd z 11 w1 = bs y w1.toNat := q1.2.2.2.2.2.2.2
      refine wp_ld (by omega) (by omega) ?_
      rw [e9]
      refine wp_call (sX_isBetween g2 (rg_lit (by omega) (by omega)) (rg_lit (by omega) (by omega)) (fun r1 r2 => ?_) (fun r1 => ?_))
      · refine wp_e1 ?_
        refine wp_call (sX_isBetween g4 (rg_lit (by omega) (by omega)) (rg_lit (by omega) (by omega)) (fun k1 k2 => ?_) (fun k1 => ?_))
        · refine wp_e1 ?_
          refine wp_ld (by omega) (by omega) ?_
          rw [e11]
          have hin := id_in hI l1 hl3 r1 (by omega)
          have hrg := lv_rg hI (v := w3.toNat) (by omega) l1 hl3 r1 (by omega)
          obtain ⟨c1, c2, c3, c4⟩ := hv.2.1 w1 w2 l1 (by omega) r1 (by omega)
          have h01 := stB_01 y w3.toNat w1 w2
          -- Y's answer
          have yans : ∀ a : Int, ((w4 = 0 ∧ a = lv y w3.toNat w1 w2) ∨ (w4 = 1 ∧ a = cm y w3.toNat w1 w2) ∨ (w4 = 2 ∧ a = stB y w3.toNat w1 w2)) → wp (x_call (f_X6_answer z a) (fun r19 x20 => some (r19, x20))) (fun r x' => wp (f_X7_run y w1 w2 w3 w4) (fun r' y' => r = r' ∧ Inv x' y')) := by
            intro a ha
            refine wp_call (sX_answer (wp_ret (ystart _ (fun t ht t0 t3 tj to => ?_))))
            have hfin : Inv (xpS z 1 0) t := Inv_fin hz ht t0 (by decide) (by decide)
            obtain ⟨b1, b2⟩ := to w1 l1 (by omega)
            rw [if_pos (by omega)] at b1
            refine wp_call (sY_isLine g1 (by omega) (fun _ _ => ?_) (fun h => absurd h (by omega)))
            refine wp_jp ?_
            refine wp_e1 ?_
            refine wp_ld (by omega) (by omega) ?_
            rw [b1]
            refine wp_e1 ?_
            refine wp_lt (by omega) (by omega) (by omega) (by omega) (fun h => absurd h (by omega)) (fun _ => ?_)
            refine wp_ld (by omega) (by omega) ?_
            rw [tj 7 w1 (by decide)]
            refine wp_lt (by omega) (by omega) (by omega) (by omega) (fun _ => ?_) (fun h => absurd h (by omega))
            refine wp_jp ?_
            refine wp_lt (by omega) (by omega) (by omega) (by omega) (fun h => absurd h (by omega)) (fun _ => ?_)
            refine wp_le (by omega) (by omega) (by omega) (by omega) (fun _ => ?_) (fun h => absurd h (by omega))
            refine wp_call (sY_leavesAt hI tj v1 v3 l1 hl3 r1 (by omega) ?_)
            refine wp_eq (by omega) (by omega) (by omega) (by omega) (fun k => wp_ret ⟨by omega, hfin⟩) (fun k => ?_)
            refine wp_eq (by omega) (by omega) (by omega) (by omega) (fun k' => ?_) (fun k' => ?_)
            · refine wp_ld (by omega) (by omega) ?_
              rw [tj 6 w1 (by decide)]
              refine wp_ret ⟨?_, hfin⟩
              have : cm y w3.toNat w1 w2 = lv y w3.toNat w1 w2 + rd y 6 w1 := rfl
              omega
            · refine wp_call (sY_stands hI tj v1 v3 l1 (by omega) r1 (by omega) b1 b2 ?_)
              rcases h01 with h | h
              · rw [h]
                refine wp_e0 ?_
                exact wp_ret ⟨by omega, hfin⟩
              · rw [h]
                refine wp_e1 ?_
                exact wp_ret ⟨by omega, hfin⟩
          refine wp_call ?_
          unfold f_X5_tell
          refine wp_eq (by omega) (by omega) (by omega) (by omega) (fun m0 => ?_) (fun m0 => ?_)
          · refine wp_ld hin.1 (by omega) ?_
            exact wp_ret (yans _ (by omega))
          refine wp_eq (by omega) (by omega) (by omega) (by omega) (fun m1 => ?_) (fun m1 => ?_)
          · refine wp_ld hin.1 (by omega) ?_
            exact wp_ret (yans _ (by omega))
          refine wp_ld hin.1 (by omega) ?_
          rw [c4]
          rcases h01 with h | h
          · rw [h]
            refine wp_e0 ?_
            exact wp_ret (yans _ (by omega))
          · rw [h]
            refine wp_e1 ?_
            exact wp_ret (yans _ (by omega))
        · refine wp_e0 ?_
          refine wp_call (sX_refuse (wp_ret (ystart _ (fun t ht t0 t3 tj to => ?_))))
          obtain ⟨b1, b2⟩ := to w1 l1 (by omega)
          rw [if_pos (by omega)] at b1
          have fin : wp (x_call (f_X7_refuse t 2) (fun r13 x14 => some (r13, x14))) (fun r' y' => -1 = r' ∧ Inv (xpS z 1 2) y') := wp_call (sY_refuse (wp_ret ⟨rfl, Inv_fin hz (ht.tr (exY.ps t 0 2 (by omega))) ps_eq (by decide) (by decide)⟩))
          refine wp_call (sY_isLine g1 (by omega) (fun _ _ => ?_) (fun h => absurd h (by omega)))
          refine wp_jp ?_
          refine wp_e1 ?_
          refine wp_ld (by omega) (by omega) ?_
          rw [b1]
          refine wp_e1 ?_
          refine wp_lt (by omega) (by omega) (by omega) (by omega) (fun h => absurd h (by omega)) (fun _ => ?_)
          refine wp_ld (by omega) (by omega) ?_
          rw [tj 7 w1 (by decide)]
          refine wp_lt (by omega) (by omega) (by omega) (by omega) (fun _ => ?_) (fun h => absurd h (by omega))
          refine wp_jp ?_
          refine wp_lt g4.1 g4.2 (by omega) (by omega) (fun _ => fin) (fun _ => ?_)
          exact wp_le g4.1 g4.2 (by omega) (by omega) (fun h => absurd k1 (by omega)) (fun _ => fin)
      · refine wp_e0 ?_
        exact no1 (by omega)
    · refine wp_jp ?_
      refine wp_e0 ?_
      exact no1 (by omega)
  · refine wp_e0 ?_
    refine wp_call (sX_refuse (wp_ret ?_))
    refine wp_y00 ?_
    refine wp_jp ?_
    have fin : wp (x_call (f_X7_refuse (y00 y) 6) (fun r5 x6 => some (r5, x6))) (fun r' y' => -1 = r' ∧ Inv (xpS x 1 6) y') := wp_call (sY_refuse (wp_ret ⟨rfl, Inv_no hI 6 (by decide) (by decide)⟩))
    refine wp_lt g3.1 g3.2 (by omega) (by omega) (fun _ => fin) (fun _ => ?_)
    exact wp_le g3.1 g3.2 (by omega) (by omega) (fun h => absurd v1 (by omega)) (fun _ => fin)
