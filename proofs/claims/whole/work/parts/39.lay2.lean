def ly (y z : XS) (v : Nat) (w : Int) : Prop :=
  (0 ≤ z.1 7 ∧ z.1 7 ≤ 1200 ∧ (w = -1 → z.1 7 = tot y v (nput y v).toNat)) ∧
  (∀ s : Int, 0 ≤ s → s < z.1 7 → ∃ l' r' : Int, 0 ≤ l' ∧ l' < nput y v ∧ 0 ≤ r' ∧ r' < rd y 7 l' ∧ l' ≠ w ∧ stB y v l' r' = 1 ∧ rd z 15 s = l' ∧ rd z 16 s = r' ∧ rd z 17 s = lv y v l' r' ∧ rd z 18 s = cm y v l' r') ∧
  (∀ l' r' : Int, 0 ≤ l' → l' < nput y v → 0 ≤ r' → r' < rd y 7 l' → l' ≠ w → stB y v l' r' = 1 → ∃ s : Int, 0 ≤ s ∧ s < z.1 7 ∧ rd z 15 s = l' ∧ rd z 16 s = r') ∧
  (∀ s s' : Int, 0 ≤ s → s < s' → s' < z.1 7 → rd z 17 s ≤ rd z 17 s')
theorem sY_lay {P : Int → XS → Prop} {x y : XS} (hI : Inv x y) {u : XS} (hu : ∀ k : Nat, 2 ≤ k → k ≠ 7 → u.1 k = y.1 k) (huj : ∀ (j : Nat) (i : Int), j ≤ 12 → rd u j i = rd y j i) {v w : Int} (h0 : 0 ≤ v) (h1 : v ≤ y.1 5) (gw : rg w)
    (h : ∀ z : XS, (∀ k : Nat, k ≠ 7 → z.1 k = u.1 k) → (∀ (j : Nat) (i : Int), (j ≤ 12 ∨ 18 < j) → rd z j i = rd u j i) → ly y z v.toNat w → P 0 z) : wp (f_X7_lay u v w) P := by
  have hnp := inv_np hI (c := v.toNat) (by omega)
  have hnn := nput_nn y v.toNat
  have hln := hI.2.1.2.1
  have hle := hI.2.2.1.2.1
  have ha5 := hI.2.1.2.2.2.2.1
  have ha6 := hI.2.1.2.2.2.2.2.1
  have hbs := bs_up hI (nput y v.toNat).toNat ((y.1 3).toNat - (nput y v.toNat).toNat) (by omega)
  rw [show (nput y v.toNat).toNat + ((y.1 3).toNat - (nput y v.toNat).toNat) = (y.1 3).toNat by omega] at hbs
  have hv : ((v.toNat : Nat) : Int) ≤ y.1 5 := by omega
  unfold f_X7_lay
  refine wp_call (sY_known hI (hu 3 (by omega) (by omega)) huj h0 h1 (fun z z1 zj zo => ?_))
  refine wp_let (wp_jp ?_)
  refine wp_loop1 (fun l t => (0 ≤ l ∧ l ≤ y.1 3) ∧ (∀ k : Nat, k ≠ 7 → t.1 k = u.1 k) ∧ (∀ (j : Nat) (i : Int), (j ≤ 14 ∨ 18 < j) → rd t j i = rd z j i) ∧ (l ≤ nput y v.toNat → lyp y t v.toNat w l 0) ∧ (nput y v.toNat ≤ l → lyp y t v.toNat w (nput y v.toNat) 0)) (fun l _ => (y.1 3 - l).toNat) (fun g l t hJ ih => ?_) x_fuel 0 _ ⟨⟨by omega, by omega⟩, fun k a => by rw [ps_ne a]; exact z1 k, fun _ _ _ => rfl, ?_, ?_⟩ (fu (by omega))
  · obtain ⟨⟨l1, l2⟩, t1, tj, ta, tb⟩ := hJ
    have t3 : t.1 3 = y.1 3 := (t1 3 (by decide)).trans (hu 3 (by omega) (by omega))
    have t12 : ∀ (j : Nat) (i : Int), j ≤ 12 → rd t j i = rd y j i := fun j i a => by rw [tj j i (by omega), zj j i (by omega) (by omega)]; exact huj j i a
    unfold b_X7_lay_12
    rw [t3]
    refine wp_le (by omega) (by omega) (by omega) (by omega) (fun hc => ?_) (fun hc => ?_)
    · have hf := tb (by omega)
      obtain ⟨⟨f1, f2, f3⟩, f4, f5, f6⟩ := hf
      refine wp_ret (h t t1 (fun j i a => by rw [tj j i (by omega)]; exact zj j i (by omega) (by omega)) ⟨⟨f1, by omega, fun a => ?_⟩, fun s a b => ?_, fun l' r' a1 a2 a3 a4 a5 a6 => f5 l' r' a1 a2 a3 a4 (dn_all a2) a5 a6, f6⟩)
      · have := f3 a
        have e : nst y v.toNat (nput y v.toNat) (0 : Int).toNat = 0 := rfl
        omega
      · obtain ⟨l', r', b1, b2, b3, b4, -, b6⟩ := f4 s a b
        exact ⟨l', r', b1, b2, b3, b4, b6⟩
    · obtain ⟨o1, o2⟩ := zo l l1 hc
      have ht := inv_times hI l1 hc
      refine wp_ld (by omega) (by omega) ?_
      rw [tj 13 l (by omega), o1]
      refine wp_jp ?_
      by_cases hp : l < nput y v.toNat
      · rw [if_pos hp]
        have hly := ta (by omega)
        refine wp_e1 ?_
        refine wp_eq (by omega) (by omega) gw.1 gw.2 (fun hw => ?_) (fun hw => ?_)
        · -- the line that is left out
          refine wp_let (ih (l + 1) t ⟨⟨by omega, by omega⟩, t1, tj, fun a => ?_, fun a => ?_⟩ (by omega))
          all_goals
            obtain ⟨⟨f1, f2, f3⟩, f4, f5, f6⟩ := hly
            have hb := bs_s (y := y) l1
          · refine ⟨⟨f1, by omega, fun a => absurd a (by omega)⟩, fun s a b => ?_, fun l' r' a1 a2 a3 a4 a5 a6 a7 => f5 l' r' a1 a2 a3 a4 (by unfold dn at a5 ⊢; omega) a6 a7, f6⟩
            obtain ⟨l', r', b1, b2, b3, b4, b5, b6⟩ := f4 s a b
            exact ⟨l', r', b1, b2, b3, b4, by unfold dn at b5 ⊢; omega, b6⟩
          · have el : nput y v.toNat = l + 1 := by omega
            rw [el]
            refine ⟨⟨f1, by omega, fun a => absurd a (by omega)⟩, fun s a b => ?_, fun l' r' a1 a2 a3 a4 a5 a6 a7 => f5 l' r' a1 a2 a3 a4 (by unfold dn at a5 ⊢; omega) a6 a7, f6⟩
            obtain ⟨l', r', b1, b2, b3, b4, b5, b6⟩ := f4 s a b
            exact ⟨l', r', b1, b2, b3, b4, by unfold dn at b5 ⊢; omega, b6⟩
        · refine wp_loop1 (fun r q => (0 ≤ r ∧ r ≤ rd y 7 l) ∧ (∀ k : Nat, k ≠ 7 → q.1 k = u.1 k) ∧ (∀ (j : Nat) (i : Int), (j ≤ 14 ∨ 18 < j) → rd q j i = rd z j i) ∧ lyp y q v.toNat w l r) (fun r _ => (rd y 7 l - r).toNat) (fun g2 r q hJ2 ih2 => ?_) x_fuel 0 t ⟨⟨by omega, by omega⟩, t1, tj, hly⟩ (fu (by omega))
          obtain ⟨⟨r1, r2⟩, q1, qj, q3⟩ := hJ2
          have q12 : ∀ (j : Nat) (i : Int), j ≤ 12 → rd q j i = rd y j i := fun j i a => by rw [qj j i (by omega), zj j i (by omega) (by omega)]; exact huj j i a
          unfold b_X7_lay_40
          refine wp_ld (by omega) (by omega) ?_
          rw [q12 7 l (by decide)]
          refine wp_le (by omega) (by omega) (by omega) (by omega) (fun hd => ?_) (fun hd => ?_)
          · have er : r = rd y 7 l := by omega
            have hnext : lyp y q v.toNat w (l + 1) 0 := by
              obtain ⟨⟨f1, f2, f3⟩, f4, f5, f6⟩ := q3
              have hb := bs_s (y := y) l1
              have htt := tot_s (y := y) (v := v.toNat) l1
              have e0 : nst y v.toNat (l + 1) (0 : Int).toNat = 0 := rfl
              refine ⟨⟨f1, by omega, fun a => ?_⟩, fun s a b => ?_, fun l' r' a1 a2 a3 a4 a5 a6 a7 => f5 l' r' a1 a2 a3 a4 ?_ a6 a7, f6⟩
              · have := f3 a
                rw [er] at this
                omega
              · obtain ⟨l', r', b1, b2, b3, b4, b5, b6⟩ := f4 s a b
                exact ⟨l', r', b1, b2, b3, b4, by unfold dn at b5 ⊢; omega, b6⟩
              · unfold dn at a5 ⊢
                by_cases hl : l' = l
                · subst hl; right; exact ⟨rfl, by omega⟩
                · left; omega
            refine wp_let (ih (l + 1) q ⟨⟨by omega, by omega⟩, q1, qj, fun a => hnext, fun a => ?_⟩ (by omega))
            have el : nput y v.toNat = l + 1 := by omega
            rw [el]
            exact hnext
          · have hr' : r < rd y 7 l := hd
            have e13 : rd q 13 l = 1 := by rw [qj 13 l (by omega), o1, if_pos hp]
            have e14 : rd q 14 l = skd y l v.toNat := by rw [qj 14 l (by omega)]; exact o2
            refine wp_call (sY_leavesAt hI q12 h0 h1 l1 hc r1 hr' ?_)
            refine wp_call (sY_stands hI q12 h0 h1 l1 hp r1 hr' e13 e14 ?_)
            refine wp_jp ?_
            rcases stB_01 y v.toNat l r with hs | hs
            · rw [hs]
              refine wp_e0 ?_
              refine wp_let (ih2 (r + 1) q ⟨⟨by omega, by omega⟩, q1, qj, ?_⟩ (by omega))
              obtain ⟨⟨f1, f2, f3⟩, f4, f5, f6⟩ := q3
              have hns := nst_s (y := y) (v := v.toNat) (l := l) r1
              refine ⟨⟨f1, by omega, fun a => ?_⟩, fun s a b => ?_, fun l' r' a1 a2 a3 a4 a5 a6 a7 => f5 l' r' a1 a2 a3 a4 ?_ a6 a7, f6⟩
              · have := f3 a
                omega
              · obtain ⟨l', r', b1, b2, b3, b4, b5, b6⟩ := f4 s a b
                exact ⟨l', r', b1, b2, b3, b4, by unfold dn at b5 ⊢; omega, b6⟩
              · unfold dn at a5 ⊢
                by_cases hl : l' = l ∧ r' = r
                · rw [hl.1, hl.2, hs] at a7; omega
                · omega
            · rw [hs]
              refine wp_e1 ?_
              refine sY_insert (K := fun q' => x_let (r + 1) (fun v23 => g2 v23 q')) hI hv l1 hp r1 hr' hw hs q3 q12 (fun q' f1 f2 f3 => ?_)
              exact wp_let (ih2 (r + 1) q' ⟨⟨by omega, by omega⟩, fun k a => (f1 k a).trans (q1 k a), fun j i a => (f2 j i a).trans (qj j i a), f3⟩ (by omega))
      · rw [if_neg hp]
        refine wp_e0 ?_
        refine wp_let (ih (l + 1) t ⟨⟨by omega, by omega⟩, t1, tj, fun a => absurd a (by omega), fun a => tb (by omega)⟩ (by omega))
  · intro _
    refine ⟨⟨by rw [ps_eq]; omega, by rw [ps_eq]; exact Int.le_refl 0, fun _ => by rw [ps_eq]; rfl⟩, fun s a b => ?_, fun l' r' a1 a2 a3 a4 a5 => ?_, fun s s' a b c => ?_⟩
    · rw [ps_eq] at b; omega
    · unfold dn at a5; omega
    · rw [ps_eq] at c; omega
  · intro hz0
    have e0 : nput y v.toNat = 0 := by omega
    rw [e0]
    refine ⟨⟨by rw [ps_eq]; omega, by rw [ps_eq]; exact Int.le_refl 0, fun _ => by rw [ps_eq]; rfl⟩, fun s a b => ?_, fun l' r' a1 a2 a3 a4 a5 => ?_, fun s s' a b c => ?_⟩
    · rw [ps_eq] at b; omega
    · omega
    · rw [ps_eq] at c; omega
theorem ok_stand (w1 : Int) (g1 : rg w1) : stepOK Inv (fun x => f_X6_stand x w1) (fun y => f_X7_stand y w1) := by
  refine stepOK_of (fun x y hI => ?_)
  have hle := hI.2.2.1.2.1
  have hge := hI.2.2.1.1
  have hx5 := hI.2.2.1.2.2.1
  have e5 := y00_5 y
  refine wp_call (sX_isChange g1 (by omega) (fun v1 v2 => ?_) (fun v1 => ?_))
  · refine wp_e1 ?_
    have v3 : w1 ≤ y.1 5 := by omega
    refine wp_call (sX_show hI v1 v3 (fun z hz hz10 hv => ?_))
    refine wp_call (sX_answer (wp_ret ?_))
    refine wp_y00 ?_
    refine wp_jp ?_
    refine wp_lt g1.1 g1.2 (by omega) (by omega) (fun h => absurd h (by omega)) (fun _ => ?_)
    refine wp_le g1.1 g1.2 (by omega) (by omega) (fun _ => ?_) (fun h => absurd h (by omega))
    refine wp_call (sY_lay hI (u := y00 y) (fun k a _ => by unfold y00; simp (disch := omega) only [rd_wr_eq, rd_wr_ne, rd_wr_j, rd_ps, wr_1, ps_eq, ps_ne]) (fun _ _ _ => rfl) v1 v3 (rg_lit (by omega) (by omega)) (fun t t1 tj ht => ?_))
    refine wp_ret ⟨?_, Inv_fin hz ((y00_ex y).tr ⟨fun k a b c => t1 k c, fun j i a => tj j i (by omega)⟩) (t1 0 (by decide)) (by decide) (by decide)⟩
    rw [hv.2.2.1.2.2, ht.1.2.2 rfl]
  · refine wp_e0 ?_
    refine wp_call (sX_refuse (wp_ret ?_))
    refine wp_y00 ?_
    refine wp_jp ?_
    have fin : wp (x_call (f_X7_refuse (y00 y) 6) (fun r5 x6 => some (r5, x6))) (fun r' y' => -1 = r' ∧ Inv (xpS x 1 6) y') := wp_call (sY_refuse (wp_ret ⟨rfl, Inv_no hI 6 (by decide) (by decide)⟩))
    refine wp_lt g1.1 g1.2 (by omega) (by omega) (fun _ => fin) (fun _ => ?_)
    exact wp_le g1.1 g1.2 (by omega) (by omega) (fun h => absurd v1 (by omega)) (fun _ => fin)
