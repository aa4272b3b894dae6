/-- X's view behind c changes replayed; x0: the state ahead of it -/
def rp (x0 x y : XS) (c : Nat) : Prop := (∀ k : Nat, k ≠ 7 → k ≠ 8 → x.1 k = x0.1 k) ∧ (∀ (j : Nat) (i : Int), j ≠ 17 → j ≠ 18 → j ≠ 19 → rd x j i = rd x0 j i) ∧ x.1 8 = nput y c ∧ x.1 7 = nclo y c ∧
  (∀ l : Int, 0 ≤ l → l < y.1 3 → rd x 17 l = skd y l c) ∧ (∀ l r : Int, 0 ≤ l → l < y.1 3 → 0 ≤ r → r < rd y 7 l → rd x 19 (bs y l.toNat + r) = late y l r c) ∧
  (∀ k : Int, 0 ≤ k → k < nclo y c → 0 ≤ rd x 18 k ∧ rd x 18 k < c ∧ rd y 9 (rd x 18 k) = 3) ∧ (∀ d : Int, 0 ≤ d → d < c → rd y 9 d = 3 → ∃ k : Int, 0 ≤ k ∧ k < nclo y c ∧ rd x 18 k = d)
theorem sX_repeat {P : Int → XS → Prop} {x0 x y : XS} (hI : Inv x0 y) {c : Int} (h0 : 0 ≤ c) (h1 : c < y.1 5) (hr : rp x0 x y c.toNat) (h : ∀ x', rp x0 x' y (c + 1).toNat → P 0 x') : wp (f_X5_repeat x c) P := by
  obtain ⟨r1, r2, r3, r4, r5, r6, r7, r8⟩ := hr
  have hlg := hI.2.2.1.2.2.2.2.2.2.2.1 c h0 h1
  have hlr := inv_lg hI h0 h1
  have hnp := inv_np hI (c := c.toNat) (by omega)
  have hnn := nput_nn y c.toNat
  have hnc := inv_nc hI (c := c.toNat) (by omega)
  have hnc1 := inv_nc hI (c := (c + 1).toNat) (by omega)
  have s1 := nput_s (y := y) h0
  have s2 := nclo_s (y := y) h0
  have s3 : ∀ l : Int, skd y l (c + 1).toNat = if rd y 9 c = 1 ∧ rd y 10 c = l then 1 else skd y l c.toNat := fun l => skd_s h0
  have s4 : ∀ l r : Int, late y l r (c + 1).toNat = if rd y 9 c = 2 ∧ rd y 10 c = l ∧ rd y 11 c = r then rd y 12 c else late y l r c.toNat := fun l r => late_s h0
  have hle := hI.2.2.1.2.1
  have h3 := hI.2.1.2.1
  have e13 : rd x 13 c = rd y 9 c := by rw [r2 13 c (by decide) (by decide) (by decide)]; exact hlg.1
  have e14 := r2 14 c (by decide) (by decide) (by decide)
  have e15 := r2 15 c (by decide) (by decide) (by decide)
  have ec : ((c + 1).toNat : Int) = c + 1 := by omega
  have ec0 : (c.toNat : Int) = c := by omega
  unfold f_X5_repeat
  refine wp_ld (by omega) (by omega) ?_
  refine wp_ld (by omega) (by omega) ?_
  rw [e13, e14]
  refine wp_eq (by omega) (by omega) (by omega) (by omega) (fun k0 => ?_) (fun k0 => ?_)
  · refine wp_let (wp_ret (h _ ⟨?_, ?_, ?_, ?_, ?_, ?_, ?_, ?_⟩))
    · intro k m1 m2; rw [ps_ne m2]; exact r1 k m1 m2
    · intro j i m1 m2 m3; exact r2 j i m1 m2 m3
    · rw [ps_eq, s1, if_pos k0, r3]
    · rw [ps_ne (by decide), s2, if_neg (by omega), r4]; omega
    · intro l m1 m2; rw [rd_ps, s3, if_neg (by omega)]; exact r5 l m1 m2
    · intro l r m1 m2 m3 m4; rw [rd_ps, s4, if_neg (by omega)]; exact r6 l r m1 m2 m3 m4
    · intro k m1 m2
      rw [s2, if_neg (by omega)] at m2
      have := r7 k m1 (by omega)
      rw [rd_ps]
      exact ⟨this.1, by omega, this.2.2⟩
    · intro d m1 m2 m3
      by_cases hd : d = c
      · subst hd; omega
      · obtain ⟨k, q1, q2, q3⟩ := r8 d m1 (by omega) m3
        exact ⟨k, q1, by rw [s2, if_neg (by omega)]; omega, by rw [rd_ps]; exact q3⟩
  refine wp_eq (by omega) (by omega) (by omega) (by omega) (fun k1 => ?_) (fun k1 => ?_)
  · have q : rd x0 14 c = rd y 10 c ∧ 0 ≤ rd y 10 c ∧ rd y 10 c < nput y c.toNat := by
      obtain ⟨-, q | q | q | q⟩ := hlg
      · omega
      · exact ⟨q.2.1, q.2.2.1, q.2.2.2.1⟩
      · omega
      · omega
    rw [q.1]
    refine wp_stb (by omega) (by omega) (by omega) ?_
    refine wp_ret (h _ ⟨?_, ?_, ?_, ?_, ?_, ?_, ?_, ?_⟩)
    · intro k m1 m2; exact r1 k m1 m2
    · intro j i m1 m2 m3; rw [rd_wr_j m1]; exact r2 j i m1 m2 m3
    · rw [wr_1, s1, if_neg (by omega), r3]; omega
    · rw [wr_1, s2, if_neg (by omega), r4]; omega
    · intro l m1 m2
      rw [s3]
      by_cases hl : rd y 10 c = l
      · rw [if_pos ⟨k1, hl⟩, ← hl, rd_wr_eq]
      · rw [if_neg (fun q => hl q.2), rd_wr_ne q.2.1 m1 (fun q => hl q.symm)]; exact r5 l m1 m2
    · intro l r m1 m2 m3 m4; rw [rd_wr_j (by decide), s4, if_neg (by omega)]; exact r6 l r m1 m2 m3 m4
    · intro k m1 m2
      rw [s2, if_neg (by omega)] at m2
      have := r7 k m1 (by omega)
      rw [rd_wr_j (by decide)]
      exact ⟨this.1, by omega, this.2.2⟩
    · intro d m1 m2 m3
      by_cases hd : d = c
      · subst hd; omega
      · obtain ⟨k, q1, q2, q3⟩ := r8 d m1 (by omega) m3
        exact ⟨k, q1, by rw [s2, if_neg (by omega)]; omega, by rw [rd_wr_j (by decide)]; exact q3⟩
  refine wp_eq (by omega) (by omega) (by omega) (by omega) (fun k2 => ?_) (fun k2 => ?_)
  · have q : 0 ≤ rd y 10 c ∧ rd y 10 c < nput y c.toNat ∧ 0 ≤ rd y 11 c ∧ rd y 11 c < rd y 7 (rd y 10 c) ∧ rd x0 14 c = bs y (rd y 10 c).toNat + rd y 11 c ∧ rd x0 15 c = rd y 12 c := by
      obtain ⟨-, q | q | q | q⟩ := hlg
      · omega
      · omega
      · exact ⟨q.2.1, q.2.2.1, q.2.2.2.1, q.2.2.2.2.1, q.2.2.2.2.2.1, q.2.2.2.2.2.2.1⟩
      · omega
    have hin := id_in hI q.1 (by omega) q.2.2.1 q.2.2.2.1
    rw [q.2.2.2.2.1]
    refine wp_ld (by omega) (by omega) ?_
    rw [e15, q.2.2.2.2.2]
    refine wp_st hin.1 (by omega) ?_
    refine wp_ret (h _ ⟨?_, ?_, ?_, ?_, ?_, ?_, ?_, ?_⟩)
    · intro k m1 m2; exact r1 k m1 m2
    · intro j i m1 m2 m3; rw [rd_wr_j m3]; exact r2 j i m1 m2 m3
    · rw [wr_1, s1, if_neg (by omega), r3]; omega
    · rw [wr_1, s2, if_neg (by omega), r4]; omega
    · intro l m1 m2; rw [rd_wr_j (by decide), s3, if_neg (by omega)]; exact r5 l m1 m2
    · intro l r m1 m2 m3 m4
      rw [s4]
      by_cases hl : rd y 10 c = l ∧ rd y 11 c = r
      · rw [if_pos ⟨k2, hl⟩, ← hl.1, ← hl.2, rd_wr_eq]
      · rw [if_neg (fun q => hl q.2), rd_wr_ne hin.1 (id_in hI m1 m2 m3 m4).1 (fun q9 => ?_)]
        · exact r6 l r m1 m2 m3 m4
        · have := id_inj hI m1 m2 m3 m4 q.1 (by omega) q.2.2.1 q.2.2.2.1 q9
          exact hl ⟨this.1.symm, this.2.symm⟩
    · intro k m1 m2
      rw [s2, if_neg (by omega)] at m2
      have := r7 k m1 (by omega)
      rw [rd_wr_j (by decide)]
      exact ⟨this.1, by omega, this.2.2⟩
    · intro d m1 m2 m3
      by_cases hd : d = c
      · subst hd; omega
      · obtain ⟨k, q1, q2, q3⟩ := r8 d m1 (by omega) m3
        exact ⟨k, q1, by rw [s2, if_neg (by omega)]; omega, by rw [rd_wr_j (by decide)]; exact q3⟩
  · have k3 : rd y 9 c = 3 := by omega
    rw [if_pos k3] at s2
    rw [r4]
    refine wp_st (by omega) (by omega) ?_
    refine wp_let (wp_ret (h _ ⟨?_, ?_, ?_, ?_, ?_, ?_, ?_, ?_⟩))
    · intro k m1 m2; rw [ps_ne m1, wr_1]; exact r1 k m1 m2
    · intro j i m1 m2 m3; rw [rd_ps, rd_wr_j m2]; exact r2 j i m1 m2 m3
    · rw [ps_ne (by decide), wr_1, s1, if_neg (by omega), r3]; omega
    · rw [ps_eq, wr_1, s2, r4]
    · intro l m1 m2; rw [rd_ps, rd_wr_j (by decide), s3, if_neg (by omega)]; exact r5 l m1 m2
    · intro l r m1 m2 m3 m4; rw [rd_ps, rd_wr_j (by decide), s4, if_neg (by omega)]; exact r6 l r m1 m2 m3 m4
    · intro k m1 m2
      rw [rd_ps]
      by_cases hk : k = nclo y c.toNat
      · subst hk
        rw [rd_wr_eq]
        exact ⟨h0, by omega, k3⟩
      · rw [rd_wr_ne hnc.1 m1 hk]
        have := r7 k m1 (by omega)
        exact ⟨this.1, by omega, this.2.2⟩
    · intro d m1 m2 m3
      by_cases hd : d = c
      · exact ⟨nclo y c.toNat, hnc.1, by omega, by rw [rd_ps, rd_wr_eq, hd]⟩
      · obtain ⟨k, q1, q2, q3⟩ := r8 d m1 (by omega) m3
        exact ⟨k, q1, by omega, by rw [rd_ps, rd_wr_ne hnc.1 q1 (by omega)]; exact q3⟩
theorem sX_replay {P : Int → XS → Prop} {x y : XS} (hI : Inv x y) {v : Int} (h0 : 0 ≤ v) (h1 : v ≤ y.1 5) (h : ∀ x', rp x x' y v.toNat → P 0 x') : wp (f_X5_replay x v) P := by
  obtain ⟨a1, a2, a3, a4, a5, a6, a7⟩ := hI.2.1
  have hle := hI.2.2.1.2.1
  have h4 := bs_nn hI a1 (Int.le_refl _)
  rw [← a5] at h4
  unfold f_X5_replay
  refine wp_jp ?_
  refine wp_loop1 (fun i u => 0 ≤ i ∧ i ≤ y.1 3 ∧ (∀ k : Nat, u.1 k = x.1 k) ∧ (∀ (j : Nat) (i : Int), j ≠ 17 → rd u j i = rd x j i) ∧ ∀ l : Int, 0 ≤ l → l < i → rd u 17 l = 0) (fun i _ => (y.1 3 - i).toNat) (fun g i u hJ ih => ?_) x_fuel 0 x ⟨by omega, by omega, fun _ => rfl, fun _ _ _ => rfl, fun l m1 m2 => absurd m2 (by omega)⟩ (fu (by omega))
  obtain ⟨i1, i2, i3, i4, i5⟩ := hJ
  have u3 := i3 3
  unfold b_X5_replay_2
  refine wp_le (by omega) (by omega) (by omega) (by omega) (fun hc => ?_) (fun hc => ?_)
  · -- the delays
    have ei : i = y.1 3 := by omega
    subst ei
    refine wp_jp ?_
    refine wp_loop1 (fun j w => 0 ≤ j ∧ j ≤ y.1 4 ∧ (∀ k : Nat, w.1 k = x.1 k) ∧ (∀ (q : Nat) (i : Int), q ≠ 17 → q ≠ 19 → rd w q i = rd x q i) ∧ (∀ l : Int, 0 ≤ l → l < y.1 3 → rd w 17 l = 0) ∧ ∀ q : Int, 0 ≤ q → q < j → rd w 19 q = 0) (fun j _ => (y.1 4 - j).toNat) (fun g2 j w hJ2 ih2 => ?_) x_fuel 0 u ⟨by omega, by omega, i3, fun q i m _ => i4 q i m, i5, fun l m1 m2 => absurd m2 (by omega)⟩ (fu (by omega))
    obtain ⟨j1, j2, j3, j4, j5, j6⟩ := hJ2
    have w4 := j3 4
    unfold b_X5_replay_28
    refine wp_le (by omega) (by omega) (by omega) (by omega) (fun hd => ?_) (fun hd => ?_)
    · refine wp_let (wp_let (wp_jp ?_))
      have hst : rp x (xpS (xpS w 8 0) 7 0) y 0 := by
        refine ⟨?_, ?_, rfl, rfl, ?_, ?_, ?_, ?_⟩
        · intro k m1 m2; rw [ps_ne m1, ps_ne m2]; exact j3 k
        · intro q i m1 m2 m3; exact j4 q i m1 m3
        · intro l m1 m2; exact j5 l m1 m2
        · intro l r m1 m2 m3 m4
          have := id_in hI m1 m2 m3 m4
          exact j6 _ this.1 (by omega)
        · intro k m1 m2
          have : nclo y 0 = 0 := rfl
          omega
        · intro d m1 m2; omega
      refine wp_loop1 (fun c z => 0 ≤ c ∧ c ≤ v ∧ rp x z y c.toNat) (fun c _ => (v - c).toNat) (fun g3 c z hJ3 ih3 => ?_) x_fuel 0 _ ⟨by omega, by omega, hst⟩ (fu (by omega))
      obtain ⟨c1, c2, c3⟩ := hJ3
      unfold b_X5_replay_64
      refine wp_le (by omega) (by omega) (by omega) (by omega) (fun he => ?_) (fun he => ?_)
      · have ec : c = v := by omega
        subst ec
        exact wp_ret (h z c3)
      · refine wp_call (sX_repeat hI c1 (by omega) c3 (fun z' hz' => ?_))
        exact wp_let (ih3 (c + 1) z' ⟨by omega, by omega, hz'⟩ (by omega))
    · refine wp_st (by omega) (by omega) ?_
      refine wp_let (ih2 (j + 1) _ ⟨by omega, by omega, j3, fun q i m1 m2 => ?_, fun l m1 m2 => ?_, fun q m1 m2 => ?_⟩ (by omega))
      · rw [rd_wr_j m2]; exact j4 q i m1 m2
      · rw [rd_wr_j (by decide)]; exact j5 l m1 m2
      · by_cases hq : q = j
        · subst hq; rw [rd_wr_eq]
        · rw [rd_wr_ne j1 m1 hq]; exact j6 q m1 (by omega)
  · refine wp_stb (by omega) (by omega) (by omega) ?_
    refine wp_let (ih (i + 1) _ ⟨by omega, by omega, i3, fun j q m => ?_, fun l m1 m2 => ?_⟩ (by omega))
    · rw [rd_wr_j m]; exact i4 j q m
    · by_cases hq : l = i
      · subst hq; rw [rd_wr_eq]
      · rw [rd_wr_ne i1 m1 hq]; exact i5 l m1 (by omega)
