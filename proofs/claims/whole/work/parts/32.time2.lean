theorem sX_timeRun {P : Int → XS → Prop} {x0 x y : XS} {v : Nat} (hI : Inv x0 y) (hv : (v : Int) ≤ y.1 5) {l r : Int} (h0 : 0 ≤ l) (h1 : l < nput y v) (h2 : 0 ≤ r) (h3 : r < rd y 7 l) (ht : tm x0 x y v l r) (h : ∀ x', tm x0 x' y v l (r + 1) → P 0 x') : wp (f_X5_timeRun x l r) P := by
  obtain ⟨hq, t1, t2, t3, t4⟩ := ht
  have hnp := inv_np hI hv
  have hl3 : l < y.1 3 := by omega
  have hln := hI.2.1.2.1
  have hn24 := hI.1.2.1
  obtain ⟨q1, q2⟩ := hI.2.1.2.2.2.2.2.2 l h0 hl3
  unfold lnEQ at q1
  unfold lnOK at q2
  have hin := id_in hI h0 hl3 h2 h3
  have hrg := lv_rg hI hv h0 hl3 h2 h3
  have r2 := hq.2.1
  have e11 : rd x 11 l = bs y l.toNat := by rw [r2 11 l (by omega)]; exact q1.2.2.2.2.2.2.2
  have hlate := hq.2.2.2.2.2.1 l r h0 hl3 h2 h3
  have hsk := hq.2.2.2.2.1 l h0 hl3
  have hs01 := skd_01 y l v
  have hst01 := stB_01 y v l r
  have hns := nst_s (y := y) (v := v) (l := l) h2
  have elv : lv y v l r = rd y 5 l + (if rd y 4 l = 1 then r * rd y 8 l else r) + late y l r v := rfl
  have ecm : cm y v l r = lv y v l r + rd y 6 l := rfl
  -- the new numbers of a run do not touch those of another
  have hne : ∀ l' r' : Int, 0 ≤ l' → l' < nput y v → 0 ≤ r' → r' < rd y 7 l' → dn l r l' r' → bs y l'.toNat + r' ≠ bs y l.toNat + r := by
    intro l' r' a1 a2 a3 a4 a5 e
    have := id_inj hI a1 (by omega) a3 a4 h0 hl3 h2 h3 e
    unfold dn at a5
    omega
  have hnn : ∀ l' r' : Int, 0 ≤ l' → l' < nput y v → 0 ≤ r' → r' < rd y 7 l' → 0 ≤ bs y l'.toNat + r' := fun l' r' a1 a2 a3 a4 => (id_in hI a1 (by omega) a3 a4).1
  obtain ⟨id, eid⟩ : ∃ q, q = bs y l.toNat + r := ⟨_, rfl⟩
  rw [← eid] at hin hlate
  have hne : ∀ l' r' : Int, 0 ≤ l' → l' < nput y v → 0 ≤ r' → r' < rd y 7 l' → dn l r l' r' → bs y l'.toNat + r' ≠ id := by rw [eid]; exact hne
  unfold f_X5_timeRun
  refine wp_ld (by omega) (by omega) ?_
  rw [e11]
  refine wp_let ?_
  rw [← eid]
  refine wp_st hin.1 (by omega) ?_
  refine wp_call (sX_planned hI (x := wr x 20 id l) (fun j i a => by rw [rd_wr_j (by omega)]; exact r2 j i (by omega)) h0 hl3 h2 h3 ?_)
  refine wp_ld hin.1 (by omega) ?_
  rw [rd_wr_j (by decide), hlate, ← elv]
  refine wp_st hin.1 (by omega) ?_
  refine wp_ld hin.1 (by omega) ?_
  rw [rd_wr_eq]
  refine wp_ld (by omega) (by omega) ?_
  rw [rd_wr_j (by decide), rd_wr_j (by decide), r2 8 l (by omega), q1.2.2.2.2.1, ← ecm]
  refine wp_st hin.1 (by omega) ?_
  obtain ⟨z, ez⟩ : ∃ z, z = wr (wr (wr x 20 id l) 21 id (lv y v l r)) 22 id (cm y v l r) := ⟨_, rfl⟩
  rw [← ez]
  have z1 : ∀ k : Nat, z.1 k = x.1 k := fun k => by rw [ez]; rfl
  have zj : ∀ (j : Nat) (i : Int), j ≠ 20 → j ≠ 21 → j ≠ 22 → rd z j i = rd x j i := fun j i a b c => by rw [ez, rd_wr_j c, rd_wr_j b, rd_wr_j a]
  have z20 : rd z 20 id = l := by rw [ez, rd_wr_j (by decide), rd_wr_j (by decide), rd_wr_eq]
  have z21 : rd z 21 id = lv y v l r := by rw [ez, rd_wr_j (by decide), rd_wr_eq]
  have z22 : rd z 22 id = cm y v l r := by rw [ez, rd_wr_eq]
  have zo : ∀ (j : Nat) (i : Int), 0 ≤ i → i ≠ id → rd z j i = rd x j i := by
    intro j i a b
    by_cases c1 : j = 20
    · subst c1; rw [ez, rd_wr_j (by decide), rd_wr_j (by decide), rd_wr_ne hin.1 a b]
    by_cases c2 : j = 21
    · subst c2; rw [ez, rd_wr_j (by decide), rd_wr_ne hin.1 a b, rd_wr_j (by decide)]
    by_cases c3 : j = 22
    · subst c3; rw [ez, rd_wr_ne hin.1 a b, rd_wr_j (by decide), rd_wr_j (by decide)]
    exact zj j i c1 c2 c3
  have zq : rq x0 z y v := rq_keep hq (fun k _ => z1 k) (fun j i a => zj j i (by omega) (by omega) (by omega))
  refine wp_ld (by omega) (by omega) ?_
  rw [zj 17 l (by decide) (by decide) (by decide), hsk]
  refine wp_jp ?_
  -- behind the test: sb tells whether it stands
  have hrest : ∀ sb : Int, sb = stB y v l r → wp (x_stb z 23 1200 id sb (fun x15 => x_ld (x15.2 23) 1200 id (fun v16 => x_eq v16 0 (some (0, x15)) (x_ld (x15.2 5) 100 l (fun v17 => x_ld (x15.2 22) 1200 id (fun v18 => x_st x15 26 1200 id ((v17 * 5001) + v18) (fun x19 => x_st x19 24 1200 (x19.1 9) id (fun x20 => x_st x20 25 1200 (x20.1 9) id (fun x21 => x_let (xpS x21 9 ((x21.1 9) + 1)) (fun x22 => some (0, x22))))))))))) P := by
    intro sb hsb
    refine wp_stb hin.1 (by omega) (by omega) ?_
    refine wp_ld hin.1 (by omega) ?_
    rw [rd_wr_eq]
    have dsp : ∀ l' r' : Int, 0 ≤ r' → dn l (r + 1) l' r' → dn l r l' r' ∨ (l' = l ∧ r' = r) := by
      intro l' r' a0 a
      unfold dn at a ⊢
      omega
    refine wp_eq (by omega) (by omega) (by omega) (by omega) (fun hz => ?_) (fun hz => ?_)
    · -- it does not stand
      refine wp_ret (h _ ⟨rq_keep zq (fun _ _ => rfl) (fun j i a => rd_wr_j (by omega)), ?_, ?_, ?_, ?_⟩)
      · intro l' r' a1 a2 a3 a4 a5
        rcases dsp l' r' a3 a5 with a6 | ⟨a6, a7⟩
        · have b1 := hnn l' r' a1 a2 a3 a4
          have b2 := hne l' r' a1 a2 a3 a4 a6
          rw [rd_wr_j (by decide), rd_wr_j (by decide), rd_wr_j (by decide), rd_wr_ne hin.1 b1 b2, rd_wr_j (by decide), zo _ _ b1 b2, zo _ _ b1 b2, zo _ _ b1 b2, zo _ _ b1 b2, zo _ _ b1 b2]
          exact t1 l' r' a1 a2 a3 a4 a6
        · subst a6
          subst a7
          rw [← eid, rd_wr_j (by decide), rd_wr_j (by decide), rd_wr_j (by decide), rd_wr_eq]
          exact ⟨z20, z21, z22, hsb, fun b => absurd b (by omega)⟩
      · rw [wr_1, z1]
        rw [hns]
        exact ⟨by omega, by omega, by omega⟩
      · intro i a1 a2
        rw [wr_1, z1] at a2
        obtain ⟨b0, l', r', b1, b2, b3, b4, b5, b6, b7⟩ := t3 i a1 a2
        rw [rd_wr_j (by decide), rd_wr_j (by decide), zj _ _ (by decide) (by decide) (by decide), zj _ _ (by decide) (by decide) (by decide)]
        refine ⟨b0, l', r', b1, b2, b3, b4, ?_, b6, b7⟩
        unfold dn at b5 ⊢
        omega
      · intro l' r' a1 a2 a3 a4 a5 a6
        rcases dsp l' r' a3 a5 with a7 | ⟨a7, a8⟩
        · obtain ⟨i, b1, b2, b3⟩ := t4 l' r' a1 a2 a3 a4 a7 a6
          exact ⟨i, b1, by rw [wr_1, z1]; exact b2, by rw [rd_wr_j (by decide), zj _ _ (by decide) (by decide) (by decide)]; exact b3⟩
        · subst a7
          subst a8
          omega
    · -- it stands
      have hb1 : stB y v l r = 1 := by omega
      have hsz : x.1 9 < 1200 := by
        have := bs_nn hI h0 (by omega)
        omega
      refine wp_ld (by omega) (by omega) ?_
      refine wp_ld hin.1 (by omega) ?_
      rw [rd_wr_j (by decide), rd_wr_j (by decide), zj 5 l (by decide) (by decide) (by decide), z22, r2 5 l (by omega), q1.2.1]
      refine wp_st hin.1 (by omega) ?_
      refine wp_st (by simp (disch := omega) only [rd_wr_eq, rd_wr_ne, rd_wr_j, rd_ps, wr_1, ps_eq, ps_ne]; rw [z1]; omega) (by simp (disch := omega) only [rd_wr_eq, rd_wr_ne, rd_wr_j, rd_ps, wr_1, ps_eq, ps_ne]; rw [z1]; omega) ?_
      refine wp_st (by simp (disch := omega) only [rd_wr_eq, rd_wr_ne, rd_wr_j, rd_ps, wr_1, ps_eq, ps_ne]; rw [z1]; omega) (by simp (disch := omega) only [rd_wr_eq, rd_wr_ne, rd_wr_j, rd_ps, wr_1, ps_eq, ps_ne]; rw [z1]; omega) ?_
      refine wp_let (wp_ret (h _ ?_))
      obtain ⟨s, es⟩ : ∃ s, s = x.1 9 := ⟨_, rfl⟩
      obtain ⟨u, eu⟩ : ∃ u, u = wr (wr (wr (wr z 23 id sb) 26 id (rd y 3 l * 5001 + cm y v l r)) 24 s id) 25 s id := ⟨_, rfl⟩
      have e9 : (wr (wr z 23 id sb) 26 id (rd y 3 l * 5001 + cm y v l r)).1 9 = s := by rw [wr_1, wr_1, z1, es]
      rw [e9]
      have e9' : (wr (wr (wr z 23 id sb) 26 id (rd y 3 l * 5001 + cm y v l r)) 24 s id).1 9 = s := by rw [wr_1]; exact e9
      rw [e9', ← eu]
      have e9'' : u.1 9 = s := by rw [eu, wr_1]; exact e9'
      rw [e9'']
      have u1 : ∀ k : Nat, u.1 k = x.1 k := fun k => by rw [eu]; exact z1 k
      have uj : ∀ (j : Nat) (i : Int), j ≠ 23 → j ≠ 24 → j ≠ 25 → j ≠ 26 → rd u j i = rd z j i := fun j i a b c d => by rw [eu, rd_wr_j c, rd_wr_j b, rd_wr_j d, rd_wr_j a]
      have u23 : rd u 23 id = sb := by rw [eu, rd_wr_j (by decide), rd_wr_j (by decide), rd_wr_j (by decide), rd_wr_eq]
      have u26 : rd u 26 id = rd y 3 l * 5001 + cm y v l r := by rw [eu, rd_wr_j (by decide), rd_wr_j (by decide), rd_wr_eq]
      have u24 : rd u 24 s = id := by rw [eu, rd_wr_j (by decide), rd_wr_eq]
      have u25 : rd u 25 s = id := by rw [eu, rd_wr_eq]
      have uo23 : ∀ i : Int, 0 ≤ i → i ≠ id → rd u 23 i = rd x 23 i := fun i a b => by rw [eu, rd_wr_j (by decide), rd_wr_j (by decide), rd_wr_j (by decide), rd_wr_ne hin.1 a b, zo _ _ a b]
      have uo26 : ∀ i : Int, 0 ≤ i → i ≠ id → rd u 26 i = rd x 26 i := fun i a b => by rw [eu, rd_wr_j (by decide), rd_wr_j (by decide), rd_wr_ne hin.1 a b, rd_wr_j (by decide), zo _ _ a b]
      have uo24 : ∀ i : Int, 0 ≤ i → i ≠ s → rd u 24 i = rd x 24 i := fun i a b => by rw [eu, rd_wr_j (by decide), rd_wr_ne (by omega) a b, rd_wr_j (by decide), rd_wr_j (by decide), zj _ _ (by decide) (by decide) (by decide)]
      have uo25 : ∀ i : Int, 0 ≤ i → i ≠ s → rd u 25 i = rd x 25 i := fun i a b => by rw [eu, rd_wr_ne (by omega) a b, rd_wr_j (by decide), rd_wr_j (by decide), rd_wr_j (by decide), zj _ _ (by decide) (by decide) (by decide)]
      refine ⟨rq_keep zq (fun k a => by rw [ps_ne a, u1, z1]) (fun j i a => by rw [rd_ps, uj _ _ (by omega) (by omega) (by omega) (by omega)]), ?_, ?_, ?_, ?_⟩
      · intro l' r' a1 a2 a3 a4 a5
        rw [rd_ps, rd_ps, rd_ps, rd_ps, rd_ps]
        rcases dsp l' r' a3 a5 with a6 | ⟨a6, a7⟩
        · have b1 := hnn l' r' a1 a2 a3 a4
          have b2 := hne l' r' a1 a2 a3 a4 a6
          rw [uj 20 _ (by decide) (by decide) (by decide) (by decide), uj 21 _ (by decide) (by decide) (by decide) (by decide), uj 22 _ (by decide) (by decide) (by decide) (by decide), uo23 _ b1 b2, uo26 _ b1 b2, zo _ _ b1 b2, zo _ _ b1 b2, zo _ _ b1 b2]
          exact t1 l' r' a1 a2 a3 a4 a6
        · subst a6
          subst a7
          rw [← eid, uj 20 _ (by decide) (by decide) (by decide) (by decide), uj 21 _ (by decide) (by decide) (by decide) (by decide), uj 22 _ (by decide) (by decide) (by decide) (by decide), u23, u26]
          exact ⟨z20, z21, z22, hsb, fun _ => rfl⟩
      · rw [ps_eq, hns]
        exact ⟨by omega, by omega, by omega⟩
      · intro i a1 a2
        rw [ps_eq] at a2
        rw [rd_ps, rd_ps]
        by_cases hi : i = s
        · rw [hi, u24, u25]
          refine ⟨rfl, l, r, h0, h1, h2, h3, ?_, hb1, eid⟩
          unfold dn
          omega
        · rw [uo24 i a1 hi, uo25 i a1 hi]
          obtain ⟨b0, l', r', b1, b2, b3, b4, b5, b6, b7⟩ := t3 i a1 (by omega)
          refine ⟨b0, l', r', b1, b2, b3, b4, ?_, b6, b7⟩
          unfold dn at b5 ⊢
          omega
      · intro l' r' a1 a2 a3 a4 a5 a6
        rcases dsp l' r' a3 a5 with a7 | ⟨a7, a8⟩
        · obtain ⟨i, b1, b2, b3⟩ := t4 l' r' a1 a2 a3 a4 a7 a6
          exact ⟨i, b1, by rw [ps_eq]; omega, by rw [rd_ps, uo24 i b1 (by omega)]; exact b3⟩
        · subst a7
          subst a8
          exact ⟨s, by omega, by rw [ps_eq]; omega, by rw [rd_ps, u24]; exact eid⟩
  refine wp_jp ?_
  have no : stB y v l r = 0 → wp (x_stb z 23 1200 id 0 (fun x15 => x_ld (x15.2 23) 1200 id (fun v16 => x_eq v16 0 (some (0, x15)) (x_ld (x15.2 5) 100 l (fun v17 => x_ld (x15.2 22) 1200 id (fun v18 => x_st x15 26 1200 id ((v17 * 5001) + v18) (fun x19 => x_st x19 24 1200 (x19.1 9) id (fun x20 => x_st x20 25 1200 (x20.1 9) id (fun x21 => x_let (xpS x21 9 ((x21.1 9) + 1)) (fun x22 => some (0, x22))))))))))) P := fun h => hrest 0 h.symm
  have estB : stB y v l r = if skd y l v = 0 ∧ cm y v l r ≤ 5000 ∧ clo y (rd y 2 l) (lv y v l r) v = 0 ∧ clo y (rd y 3 l) (cm y v l r) v = 0 then 1 else 0 := rfl
  refine wp_eq (by omega) (by omega) (by omega) (by omega) (fun hk => ?_) (fun hk => ?_)
  · refine wp_ld hin.1 (by omega) ?_
    rw [z22]
    refine wp_lt (by omega) (by omega) (by omega) (by omega) (fun hc => ?_) (fun hc => ?_)
    · exact no (by rw [estB, if_neg (by omega)])
    · refine wp_ld (by omega) (by omega) ?_
      refine wp_ld hin.1 (by omega) ?_
      rw [z21, zj 4 l (by decide) (by decide) (by decide), r2 4 l (by omega), q1.1]
      refine wp_call (sX_isClosed hI hv zq (rg_lit (by omega) (by omega)) (rg_lit (by omega) (by omega)) ?_)
      rcases clo_01 y (rd y 2 l) (lv y v l r) v with hc1 | hc1
      · rw [hc1]
        refine wp_e0 ?_
        refine wp_ld (by omega) (by omega) ?_
        refine wp_ld hin.1 (by omega) ?_
        rw [z22, zj 5 l (by decide) (by decide) (by decide), r2 5 l (by omega), q1.2.1]
        refine wp_call (sX_isClosed hI hv zq (rg_lit (by omega) (by omega)) (rg_lit (by omega) (by omega)) ?_)
        rcases clo_01 y (rd y 3 l) (cm y v l r) v with hc2 | hc2
        · rw [hc2]
          refine wp_e0 ?_
          exact hrest 1 (by rw [estB, if_pos ⟨hk, by omega, hc1, hc2⟩])
        · rw [hc2]
          refine wp_e1 ?_
          exact no (by rw [estB, if_neg (by omega)])
      · rw [hc1]
        refine wp_e1 ?_
        exact no (by rw [estB, if_neg (by omega)])
  · exact no (by rw [estB, if_neg (by omega)])
theorem tot_s {y : XS} {v : Nat} {l : Int} (h : 0 ≤ l) : tot y v (l + 1).toNat = tot y v l.toNat + nst y v l (rd y 7 l).toNat := by
  have e1 : (l + 1).toNat = l.toNat + 1 := by omega
  have e2 : ((l.toNat : Nat) : Int) = l := by omega
  rw [e1]
  show tot y v l.toNat + nst y v (l.toNat : Int) (rd y 7 (l.toNat : Int)).toNat = _
  rw [e2]
theorem sX_timeRuns {P : Int → XS → Prop} {x0 x y : XS} {v : Nat} (hI : Inv x0 y) (hv : (v : Int) ≤ y.1 5) (hq : rq x0 x y v) (h : ∀ x', tm x0 x' y v (nput y v) 0 → P 0 x') : wp (f_X5_timeRuns x) P := by
  have hnp := inv_np hI hv
  have hnn := nput_nn y v
  have hln := hI.2.1.2.1
  unfold f_X5_timeRuns
  refine wp_let (wp_jp ?_)
  refine wp_loop1 (fun l z => 0 ≤ l ∧ l ≤ nput y v ∧ tm x0 z y v l 0) (fun l _ => (nput y v - l).toNat) (fun g l z hJ ih => ?_) x_fuel 0 _ ⟨by omega, by omega, ?_⟩ (fu (by omega))
  · obtain ⟨l1, l2, l3⟩ := hJ
    have e8 : z.1 8 = nput y v := l3.1.2.2.1
    unfold b_X5_timeRuns_7
    refine wp_le (by omega) (by omega) (by omega) (by omega) (fun hc => ?_) (fun hc => ?_)
    · have : l = nput y v := by omega
      subst this
      exact wp_ret (h z l3)
    · refine wp_jp ?_
      have ht := inv_times hI (l := l) l1 (by omega)
      refine wp_loop1 (fun r w => 0 ≤ r ∧ r ≤ rd y 7 l ∧ tm x0 w y v l r) (fun r _ => (rd y 7 l - r).toNat) (fun g2 r w hJ2 ih2 => ?_) x_fuel 0 z ⟨by omega, by omega, l3⟩ (fu (by omega))
      obtain ⟨r1, r2, r3⟩ := hJ2
      have e9 : rd w 9 l = rd y 7 l := by
        rw [r3.1.2.1 9 l (by omega)]
        exact (hI.2.1.2.2.2.2.2.2 l l1 (by omega)).1.2.2.2.2.2.1
      unfold b_X5_timeRuns_17
      refine wp_ld (by omega) (by omega) ?_
      rw [e9]
      refine wp_le (by omega) (by omega) (by omega) (by omega) (fun hd => ?_) (fun hd => ?_)
      · have er : r = rd y 7 l := by omega
        refine wp_let (ih (l + 1) w ⟨by omega, by omega, ?_⟩ (by omega))
        obtain ⟨s1, s2, s3, s4, s5⟩ := r3
        have dd : ∀ l' r' : Int, 0 ≤ r' → r' < rd y 7 l' → (dn (l + 1) 0 l' r' ↔ dn l r l' r') := by
          intro l' r' a0 a
          unfold dn
          constructor
          · rintro (b | b)
            · by_cases hl : l' = l
              · subst hl; right; exact ⟨rfl, by omega⟩
              · left; omega
            · omega
          · rintro (b | b)
            · left; omega
            · left; omega
        refine ⟨s1, fun l' r' a1 a2 a3 a4 a5 => s2 l' r' a1 a2 a3 a4 ((dd l' r' a3 a4).mp a5), ?_, fun i a1 a2 => ?_, fun l' r' a1 a2 a3 a4 a5 a6 => s5 l' r' a1 a2 a3 a4 ((dd l' r' a3 a4).mp a5) a6⟩
        · rw [tot_s l1, bs_s l1]
          have : nst y v (l + 1) (0 : Int).toNat = 0 := rfl
          rw [this]
          rw [er] at s3
          omega
        · obtain ⟨b0, l', r', b1, b2, b3, b4, b5, b6, b7⟩ := s4 i a1 a2
          exact ⟨b0, l', r', b1, b2, b3, b4, (dd l' r' b3 b4).mpr b5, b6, b7⟩
      · refine wp_call (sX_timeRun hI hv l1 (by omega) r1 (by omega) r3 (fun w' hw' => ?_))
        exact wp_let (ih2 (r + 1) w' ⟨by omega, by omega, hw'⟩ (by omega))
  · refine ⟨rq_keep hq (fun k a => ps_ne a) (fun _ _ _ => rfl), fun l' r' a1 a2 a3 a4 a5 => ?_, ⟨rfl, Int.le_refl _, Int.le_refl _⟩, fun i a1 a2 => ?_, fun l' r' a1 a2 a3 a4 a5 => ?_⟩
    · unfold dn at a5; omega
    · rw [ps_eq] at a2; omega
    · unfold dn at a5; omega
