theorem dn_all {l' r' L : Int} (h : l' < L) : dn L 0 l' r' := Or.inl h
theorem sX_goalOf {P : Int → XS → Prop} {x : XS} {q : Int} (h0 : 0 ≤ q) (h1 : q < 1200) (h2 : 0 ≤ rd x 20 q) (h3 : rd x 20 q < 100) (h : P (rd x 5 (rd x 20 q)) x) : wp (f_X5_goalOf x q) P := by
  unfold f_X5_goalOf
  refine wp_ld h0 (by omega) ?_
  refine wp_ld h2 (by omega) ?_
  exact wp_ret h
theorem sX_orderRuns {P : Int → XS → Prop} {x0 x y : XS} {v : Nat} (hI : Inv x0 y) (hv : (v : Int) ≤ y.1 5) (ht : tm x0 x y v (nput y v) 0)
    (h : ∀ z : XS, (∀ k : Nat, k ≠ 7 → k ≠ 8 → k ≠ 9 → z.1 k = x0.1 k) → (∀ (j : Nat) (i : Int), j ≤ 16 → rd z j i = rd x0 j i) → vwOK z y v → P 0 z) : wp (f_X5_orderRuns x) P := by
  obtain ⟨hq, t1, t2, t3, t4⟩ := ht
  have hnp := inv_np hI hv
  have hnn := nput_nn y v
  have hln := hI.2.1.2.1
  have hn24 := hI.1.2.1
  have hbs := bs_up hI (nput y v).toNat ((y.1 3).toNat - (nput y v).toNat) (by omega)
  rw [show (nput y v).toNat + ((y.1 3).toNat - (nput y v).toNat) = (y.1 3).toNat by omega] at hbs
  have ha5 := hI.2.1.2.2.2.2.1
  have ha6 := hI.2.1.2.2.2.2.2.1
  have hsz : 0 ≤ x.1 9 ∧ x.1 9 ≤ 1200 := by omega
  have e9 : x.1 9 = tot y v (nput y v).toNat := by
    have : nst y v (nput y v) (0 : Int).toNat = 0 := rfl
    omega
  -- a run that stands: its words
  have key : ∀ l r : Int, 0 ≤ l → l < nput y v → 0 ≤ r → r < rd y 7 l → stB y v l r = 1 → (0 ≤ bs y l.toNat + r ∧ bs y l.toNat + r < 1200) ∧ rd x 20 (bs y l.toNat + r) = l ∧ rd x 21 (bs y l.toNat + r) = lv y v l r ∧ rd x 22 (bs y l.toNat + r) = cm y v l r ∧ rd x 23 (bs y l.toNat + r) = 1 ∧ rd x 26 (bs y l.toNat + r) = rd y 3 l * 5001 + cm y v l r ∧ (0 ≤ lv y v l r ∧ lv y v l r < cm y v l r ∧ cm y v l r ≤ 5000) ∧ (0 ≤ rd y 3 l ∧ rd y 3 l < y.1 2) := by
    intro l r a1 a2 a3 a4 a5
    obtain ⟨b1, b2, b3, b4, b5⟩ := t1 l r a1 a2 a3 a4 (dn_all a2)
    have hin := id_in hI a1 (by omega) a3 a4
    have hrg := lv_rg hI hv a1 (by omega) a3 a4
    have hl := (hI.2.1.2.2.2.2.2.2 l a1 (by omega)).2
    unfold lnOK at hl
    have hc : cm y v l r ≤ 5000 := by
      unfold stB at a5
      by_cases hh : skd y l v = 0 ∧ cm y v l r ≤ 5000 ∧ clo y (rd y 2 l) (lv y v l r) v = 0 ∧ clo y (rd y 3 l) (cm y v l r) v = 0
      · exact hh.2.1
      · rw [if_neg hh] at a5; omega
    exact ⟨⟨hin.1, hin.2.2⟩, b1, b2, b3, by omega, b5 a5, by omega, by omega⟩
  have it : ∀ i : Int, 0 ≤ i → i < x.1 9 → ∃ l r : Int, 0 ≤ l ∧ l < nput y v ∧ 0 ≤ r ∧ r < rd y 7 l ∧ stB y v l r = 1 ∧ rd x 24 i = bs y l.toNat + r := by
    intro i a b
    obtain ⟨-, l', r', b1, b2, b3, b4, -, b6, b7⟩ := t3 i a b
    exact ⟨l', r', b1, b2, b3, b4, b6, b7⟩
  unfold f_X5_orderRuns
  refine wp_call (sX_sort (j0 := 24) (j1 := 21) (by decide) (by decide) (by decide) hsz.1 hsz.2 (fun i a b => ?_) (fun i a b => ?_) (fun z z1 zj za zb zs => ?_))
  · obtain ⟨l, r, b1, b2, b3, b4, b5, b6⟩ := it i a b
    rw [b6]; exact (key l r b1 b2 b3 b4 b5).1
  · obtain ⟨l, r, b1, b2, b3, b4, b5, b6⟩ := it i a b
    have := key l r b1 b2 b3 b4 b5
    rw [b6, this.2.2.1]
    exact (rg_lit (by omega) (by omega))
  rw [z1 9]
  have z25 : ∀ i : Int, 0 ≤ i → i < x.1 9 → rd z 25 i = rd x 24 i := fun i a b => by rw [zj 25 i (by decide) (by decide)]; exact (t3 i a b).1
  refine wp_call (sX_sort (j0 := 25) (j1 := 26) (by decide) (by decide) (by decide) hsz.1 hsz.2 (fun i a b => ?_) (fun i a b => ?_) (fun u u1 uj ua ub us => ?_))
  · obtain ⟨l, r, b1, b2, b3, b4, b5, b6⟩ := it i a b
    rw [z25 i a b, b6]; exact (key l r b1 b2 b3 b4 b5).1
  · obtain ⟨l, r, b1, b2, b3, b4, b5, b6⟩ := it i a b
    have := key l r b1 b2 b3 b4 b5
    rw [z25 i a b, zj 26 _ (by decide) (by decide), b6, this.2.2.2.2.2.1]
    exact (rg_lit (by omega) (by omega))
  -- u: both orders made; w: the states behind that
  have uk : ∀ k : Nat, u.1 k = x.1 k := fun k => (u1 k).trans (z1 k)
  have uj2 : ∀ (j : Nat) (i : Int), j ≠ 34 → j ≠ 24 → j ≠ 25 → rd u j i = rd x j i := fun j i a b c => (uj j i a c).trans (zj j i a b)
  have u24 : ∀ i : Int, rd u 24 i = rd z 24 i := fun i => uj 24 i (by decide) (by decide)
  have itL : ∀ i : Int, 0 ≤ i → i < x.1 9 → ∃ l r : Int, 0 ≤ l ∧ l < nput y v ∧ 0 ≤ r ∧ r < rd y 7 l ∧ stB y v l r = 1 ∧ rd u 24 i = bs y l.toNat + r := by
    intro i a b
    obtain ⟨q, c1, c2, c3⟩ := za i a b
    obtain ⟨l, r, b1, b2, b3, b4, b5, b6⟩ := it q c1 c2
    exact ⟨l, r, b1, b2, b3, b4, b5, by rw [u24, c3, b6]⟩
  have itG : ∀ i : Int, 0 ≤ i → i < x.1 9 → ∃ l r : Int, 0 ≤ l ∧ l < nput y v ∧ 0 ≤ r ∧ r < rd y 7 l ∧ stB y v l r = 1 ∧ rd u 25 i = bs y l.toNat + r := by
    intro i a b
    obtain ⟨q, c1, c2, c3⟩ := ua i a b
    obtain ⟨l, r, b1, b2, b3, b4, b5, b6⟩ := it q c1 c2
    exact ⟨l, r, b1, b2, b3, b4, b5, by rw [c3, z25 q c1 c2, b6]⟩
  obtain ⟨go, ego⟩ : ∃ go : Int → Int, ∀ i, go i = rd y 3 (rd x 20 (rd u 25 i)) := ⟨_, fun _ => rfl⟩
  have goR : ∀ i : Int, 0 ≤ i → i < x.1 9 → 0 ≤ go i ∧ go i < 24 ∧ rd x 26 (rd u 25 i) = go i * 5001 + rd x 22 (rd u 25 i) ∧ 0 ≤ rd x 22 (rd u 25 i) ∧ rd x 22 (rd u 25 i) ≤ 5000 ∧ (0 ≤ rd u 25 i ∧ rd u 25 i < 1200) ∧ (0 ≤ rd x 20 (rd u 25 i) ∧ rd x 20 (rd u 25 i) < y.1 3) := by
    intro i a b
    obtain ⟨l, r, b1, b2, b3, b4, b5, b6⟩ := itG i a b
    have := key l r b1 b2 b3 b4 b5
    rw [ego, b6, this.2.1, this.2.2.2.1, this.2.2.2.2.2.1]
    omega
  have ks : ∀ i j : Int, 0 ≤ i → i < j → j < x.1 9 → rd x 26 (rd u 25 i) ≤ rd x 26 (rd u 25 j) := fun i j a b c => by
    have := us i j a b c
    rw [zj 26 _ (by decide) (by decide), zj 26 _ (by decide) (by decide)] at this
    exact this
  have goM : ∀ i j : Int, 0 ≤ i → i < j → j < x.1 9 → go i ≤ go j := by
    intro i j a b c
    have h1 := goR i a (by omega)
    have h2 := goR j (by omega) c
    have h3 := ks i j a b c
    omega
  refine wp_jp ?_
  refine wp_loop2 (fun en no w => (0 ≤ no ∧ no ≤ 24) ∧ (0 ≤ en ∧ en ≤ x.1 9) ∧ (∀ k : Nat, w.1 k = x.1 k) ∧ (∀ (j : Nat) (i : Int), j ≠ 27 → rd w j i = rd u j i) ∧ (∀ i : Int, 0 ≤ i → i < x.1 9 → (i < en ↔ go i < no)) ∧ (∀ m : Int, 0 ≤ m → m < no → 0 ≤ rd w 27 m ∧ rd w 27 m ≤ x.1 9 ∧ ∀ i : Int, 0 ≤ i → i < x.1 9 → (i < rd w 27 m ↔ go i ≤ m)))
    (fun _ no _ => (24 - no).toNat) (fun g en no w hJ ih => ?_) x_fuel 0 0 u ⟨⟨by omega, by omega⟩, ⟨by omega, by omega⟩, uk, fun _ _ _ => rfl, fun i a b => ⟨fun c => absurd c (by omega), fun c => absurd c (by have := goR i a b; omega)⟩, fun m a b => absurd b (by omega)⟩ (fu (by omega))
  obtain ⟨⟨n1, n2⟩, ⟨e1, e2⟩, w1, wj, we, wm⟩ := hJ
  unfold b_X5_orderRuns_42
  refine wp_le (by omega) (by omega) (by omega) (by omega) (fun hc => ?_) (fun hc => ?_)
  · have eno : no = 24 := by omega
    subst eno
    have wj2 : ∀ (j : Nat) (i : Int), j ≠ 34 → j ≠ 24 → j ≠ 25 → j ≠ 27 → rd w j i = rd x j i := fun j i a b c d => (wj j i d).trans (uj2 j i a b c)
    have w24 : ∀ i : Int, rd w 24 i = rd u 24 i := fun i => wj 24 i (by decide)
    have w25 : ∀ i : Int, rd w 25 i = rd u 25 i := fun i => wj 25 i (by decide)
    have w20 : ∀ i : Int, rd w 20 i = rd x 20 i := fun i => wj2 20 i (by decide) (by decide) (by decide) (by decide)
    have w21 : ∀ i : Int, rd w 21 i = rd x 21 i := fun i => wj2 21 i (by decide) (by decide) (by decide) (by decide)
    have w22 : ∀ i : Int, rd w 22 i = rd x 22 i := fun i => wj2 22 i (by decide) (by decide) (by decide) (by decide)
    have w23 : ∀ i : Int, rd w 23 i = rd x 23 i := fun i => wj2 23 i (by decide) (by decide) (by decide) (by decide)
    have seg : ∀ m i : Int, 0 ≤ m → m < 24 → 0 ≤ i → i < x.1 9 → (gB w m ≤ i ∧ i < rd w 27 m ↔ go i = m) := by
      intro m i a b c d
      have h1 := (wm m a b).2.2 i c d
      unfold gB
      by_cases hm : m = 0
      · rw [if_pos hm]
        have := goR i c d
        constructor
        · intro q; have := h1.mp q.2; omega
        · intro q; exact ⟨c, h1.mpr (by omega)⟩
      · rw [if_neg hm]
        have h2 := (wm (m - 1) (by omega) (by omega)).2.2 i c d
        constructor
        · rintro ⟨q1, q2⟩
          have := h1.mp q2
          have : ¬ go i ≤ m - 1 := fun q => absurd (h2.mpr q) (by omega)
          omega
        · intro q
          refine ⟨?_, h1.mpr (by omega)⟩
          have : ¬ i < rd w 27 (m - 1) := fun q' => absurd (h2.mp q') (by omega)
          omega
    have gbR : ∀ m : Int, 0 ≤ m → m < 24 → 0 ≤ gB w m ∧ gB w m ≤ rd w 27 m ∧ rd w 27 m ≤ x.1 9 := by
      intro m a b
      have h1 := wm m a b
      unfold gB
      by_cases hm : m = 0
      · rw [if_pos hm]; omega
      · rw [if_neg hm]
        have h2 := wm (m - 1) (by omega) (by omega)
        refine ⟨h2.1, ?_, h1.2.1⟩
        by_cases hlt : rd w 27 m < rd w 27 (m - 1)
        · have q1 := (h2.2.2 (rd w 27 m) h1.1 (by omega)).mp hlt
          have q2 := (h1.2.2 (rd w 27 m) h1.1 (by omega)).mpr (by omega)
          omega
        · omega
    refine wp_ret (h w (fun k a b c => by rw [w1]; exact hq.1 k a b c) (fun j i a => by rw [wj2 j i (by omega) (by omega) (by omega) (by omega)]; exact hq.2.1 j i (by omega)) ⟨?_, ?_, ?_, ?_, ?_, ?_, ?_, ?_, ?_, ?_⟩)
    · rw [w1]; exact hq.2.2.1
    · intro l r a1 a2 a3 a4
      rw [w20, w21, w22, w23]
      obtain ⟨b1, b2, b3, b4, -⟩ := t1 l r a1 a2 a3 a4 (dn_all a2)
      exact ⟨b1, b2, b3, b4⟩
    · rw [w1]; exact ⟨hsz.1, hsz.2, e9⟩
    · intro i a b
      rw [w1] at b
      obtain ⟨l, r, b1, b2, b3, b4, b5, b6⟩ := itL i a b
      rw [w24, w23, b6]
      exact ⟨⟨l, r, b1, b2, b3, b4, rfl⟩, (key l r b1 b2 b3 b4 b5).2.2.2.2.1⟩
    · rintro q ⟨l, r, b1, b2, b3, b4, rfl⟩ hst
      rw [w23, (t1 l r b1 b2 b3 b4 (dn_all b2)).2.2.2.1] at hst
      obtain ⟨i, c1, c2, c3⟩ := t4 l r b1 b2 b3 b4 (dn_all b2) hst
      obtain ⟨p, d1, d2, d3⟩ := zb i c1 c2
      exact ⟨p, d1, by rw [w1]; exact d2, by rw [w24, u24, d3, c3]⟩
    · intro i j a b c
      rw [w1] at c
      rw [w24, w24, w21, w21, u24, u24]
      exact zs i j a b c
    · intro m a b
      rw [w1]
      exact gbR m a b
    · intro m i a b c d
      have hb := gbR m a b
      have hm := (seg m i a b (by omega) (by omega)).mp ⟨c, d⟩
      obtain ⟨l, r, b1, b2, b3, b4, b5, b6⟩ := itG i (by omega) (by omega)
      rw [w25, w23, w20, ← ego]
      refine ⟨?_, ?_, hm⟩
      · rw [b6]; exact ⟨l, r, b1, b2, b3, b4, rfl⟩
      · rw [b6]; exact (key l r b1 b2 b3 b4 b5).2.2.2.2.1
    · rintro q ⟨l, r, b1, b2, b3, b4, rfl⟩ hst
      rw [w23, (t1 l r b1 b2 b3 b4 (dn_all b2)).2.2.2.1] at hst
      obtain ⟨i, c1, c2, c3⟩ := t4 l r b1 b2 b3 b4 (dn_all b2) hst
      obtain ⟨p, d1, d2, d3⟩ := ub i c1 c2
      have e : rd u 25 p = bs y l.toNat + r := by rw [d3, z25 i c1 c2, c3]
      have hg := goR p d1 d2
      have := (seg (go p) p hg.1 hg.2.1 d1 d2).mpr rfl
      rw [ego, e] at this
      rw [w20]
      exact ⟨p, this.1, this.2, by rw [w25]; exact e⟩
    · intro m i j a b c d e
      have hb := gbR m a b
      have h1 := (seg m i a b (by omega) (by omega)).mp ⟨c, by omega⟩
      have h2 := (seg m j a b (by omega) (by omega)).mp ⟨by omega, e⟩
      have h3 := ks i j (by omega) d (by omega)
      have h4 := goR i (by omega) (by omega)
      have h5 := goR j (by omega) (by omega)
      rw [w25, w25, w22, w22]
      omega
  · refine wp_jp ?_
    refine wp_loop1 (fun e t => t = w ∧ en ≤ e ∧ e ≤ x.1 9 ∧ ∀ i : Int, en ≤ i → i < e → go i = no) (fun e _ => (x.1 9 - e).toNat) (fun g2 e t hJ2 ih2 => ?_) x_fuel en w ⟨rfl, by omega, e2, fun i a b => absurd b (by omega)⟩ (fu (by omega))
    obtain ⟨rfl, f1, f2, f3⟩ := hJ2
    have fin : (∀ i : Int, e ≤ i → i < x.1 9 → no < go i) → wp (x_st t 27 24 no e (fun x14 => x_let (no + 1) (fun v15 => g e v15 x14))) P := by
      intro hlast
      refine wp_st (by omega) (by omega) ?_
      have both : ∀ i : Int, 0 ≤ i → i < x.1 9 → (i < e ↔ go i ≤ no) := by
        intro i a b
        constructor
        · intro c
          by_cases hi : i < en
          · have := (we i a b).mp hi; omega
          · have := f3 i (by omega) c; omega
        · intro c
          by_cases hi : e ≤ i
          · have := hlast i hi b; omega
          · omega
      refine wp_let (ih e (no + 1) _ ⟨⟨by omega, by omega⟩, ⟨by omega, by omega⟩, w1, fun j i a => ?_, fun i a b => ?_, fun m a b => ?_⟩ (by omega))
      · rw [rd_wr_j a]; exact wj j i a
      · rw [both i a b]; omega
      · by_cases hm : m = no
        · subst hm
          rw [rd_wr_eq]
          exact ⟨by omega, by omega, both⟩
        · rw [rd_wr_ne n1 a hm]
          exact wm m a (by omega)
    unfold b_X5_orderRuns_48
    rw [w1 9]
    refine wp_le (by omega) (by omega) (by omega) (by omega) (fun hd => ?_) (fun hd => ?_)
    · exact fin (fun i a b => absurd b (by omega))
    · have hg := goR e (by omega) (by omega)
      refine wp_ld (by omega) (by omega) ?_
      rw [wj 25 e (by decide)]
      have t20 : rd t 20 (rd u 25 e) = rd x 20 (rd u 25 e) := by rw [wj 20 _ (by decide), uj2 20 _ (by decide) (by decide) (by decide)]
      have t5 : rd t 5 (rd x 20 (rd u 25 e)) = go e := by
        rw [wj 5 _ (by decide), uj2 5 _ (by decide) (by decide) (by decide), hq.2.1 5 _ (by omega), ego]
        exact (hI.2.1.2.2.2.2.2.2 _ hg.2.2.2.2.2.2.1 hg.2.2.2.2.2.2.2).1.2.1
      refine wp_call (sX_goalOf hg.2.2.2.2.2.1.1 hg.2.2.2.2.2.1.2 (by rw [t20]; omega) (by rw [t20]; omega) ?_)
      rw [t20, t5]
      refine wp_eq (by omega) (by omega) (by omega) (by omega) (fun he => ?_) (fun he => ?_)
      · refine wp_let (ih2 (e + 1) t ⟨rfl, by omega, by omega, fun i a b => ?_⟩ (by omega))
        by_cases hi : i = e
        · rw [hi]; exact he
        · exact f3 i a (by omega)
      · refine fin (fun i a b => ?_)
        have h1 : ¬ go e < no := fun q => absurd ((we e (by omega) (by omega)).mpr q) (by omega)
        by_cases hi : i = e
        · rw [hi]; omega
        · have := goM e i (by omega) (by omega) b
          omega
theorem sX_show {P : Int → XS → Prop} {x y : XS} (hI : Inv x y) {v : Int} (h0 : 0 ≤ v) (h1 : v ≤ y.1 5) (h : ∀ z : XS, Inv z y → z.1 10 = v → vwOK z y v.toNat → P 0 z) : wp (f_X5_show x v) P := by
  have h5 := hI.2.2.1.2.1
  have h10 : -1 ≤ x.1 10 ∧ x.1 10 ≤ 400 := by
    rcases hI.2.2.2.2.2 with q | q
    · omega
    · omega
  unfold f_X5_show
  refine wp_eq (by omega) (by omega) (by omega) (by omega) (fun hc => ?_) (fun hc => ?_)
  · rcases hI.2.2.2.2.2 with q | q
    · omega
    · refine wp_ret (h x hI hc ?_)
      rw [← hc]
      exact q.2.2
  · refine wp_call (sX_replay hI h0 h1 (fun x1 hx1 => ?_))
    refine wp_call (sX_timeRuns hI (by omega) (rp_rq hx1) (fun x2 hx2 => ?_))
    refine wp_call (sX_orderRuns hI (by omega) hx2 (fun z z1 zj hz => ?_))
    refine wp_let (wp_ret (h _ ?_ ps_eq ?_))
    · have hz2 : vwOK (xpS z 10 v) y v.toNat := vw_cong (agr_all (fun _ _ _ _ => rfl) _) (fun j _ i => rfl) (ps_ne (by decide)) (ps_ne (by decide)) hz
      have zk : ∀ k : Nat, k ≠ 7 → k ≠ 8 → k ≠ 9 → k ≠ 10 → (xpS z 10 v).1 k = x.1 k := fun k a b c d => by rw [ps_ne d]; exact z1 k a b c
      refine ⟨iNod_c hI.1 (zk 2 (by decide) (by decide) (by decide) (by decide)) rfl (fun j i a b => zj j i (by omega)) (fun _ _ _ => rfl), iLin_c hI.2.1 (Int.le_refl _) (zk 3 (by decide) (by decide) (by decide) (by decide)) (zk 4 (by decide) (by decide) (by decide) (by decide)) rfl rfl (fun j i a b => zj j i (by omega)) (fun _ _ _ _ => rfl), iLog_c hI.2.2.1 (Int.le_refl _) (zk 5 (by decide) (by decide) (by decide) (by decide)) (zk 6 (by decide) (by decide) (by decide) (by decide)) rfl rfl rfl (fun j i a b => zj j i (by omega)) (fun _ _ _ _ => rfl), iOut_c hI.2.2.2.1 (zk 0 (by decide) (by decide) (by decide) (by decide)) rfl (fun i => zj 0 i (by omega)) (fun _ => rfl), ⟨?_, hI.2.2.2.2.1.2.1, hI.2.2.2.2.1.2.2⟩, Or.inr ⟨?_, ?_, ?_⟩⟩
      · rw [zk 1 (by decide) (by decide) (by decide) (by decide)]; exact hI.2.2.2.2.1.1
      · rw [ps_eq]; exact h0
      · rw [ps_eq]; exact h1
      · rw [ps_eq]; exact hz2
    · exact vw_cong (agr_all (fun _ _ _ _ => rfl) _) (fun j _ i => rfl) (ps_ne (by decide)) (ps_ne (by decide)) hz
