theorem qi_skip {t : XS} {c n N sg : Int} (h : qi t c n N sg) (hN : N < rd t 27 n) (hw : rd t 28 (rd t 25 N) = -1) : qi t c n (N + 1) sg := by
  obtain ⟨⟨q1, q2, q3, q4⟩, q5, q6, q7⟩ := h
  refine ⟨⟨q1, q2, by omega, by omega⟩, fun k a b => ?_, q6, fun m a b c1 d => ?_⟩
  · obtain ⟨m, c1, c2, c3, c4⟩ := q5 k a b
    exact ⟨m, c1, by omega, c3, c4⟩
  · by_cases hm : m = N
    · rw [hm] at c1; exact absurd hw c1
    · exact q7 m a (by omega) c1 d
/-- a queue's words look at these rows alone -/
theorem qi_keep {t t' : XS} {c n N sg : Int} (h : qi t c n N sg) (hb : 0 ≤ gB t n) (h22 : ∀ i : Int, rd t' 22 i = rd t 22 i) (h25 : ∀ i : Int, rd t' 25 i = rd t 25 i) (h27 : ∀ i : Int, rd t' 27 i = rd t 27 i) (h29 : ∀ i : Int, gB t n ≤ i → i < rd t 27 n → rd t' 29 i = rd t 29 i) (h30 : rd t' 30 n = rd t 30 n) (h31 : rd t' 31 n = rd t 31 n) (h28 : ∀ m : Int, gB t n ≤ m → m < N → rd t' 28 (rd t 25 m) = rd t 28 (rd t 25 m)) : qi t' c n N sg := by
  obtain ⟨⟨q1, q2, q3, q4⟩, q5, q6, q7⟩ := h
  have eg : gB t' n = gB t n := by unfold gB; rw [h27]
  have e29 : ∀ k : Int, rd t 30 n ≤ k → k < rd t 31 n → rd t' 29 k = rd t 29 k := fun k a b => h29 k (by omega) (by omega)
  have e28 : ∀ k : Int, rd t 30 n ≤ k → k < rd t 31 n → rd t' 28 (rd t 29 k) = rd t 28 (rd t 29 k) := fun k a b => by
    obtain ⟨m, c1, c2, c3, c4⟩ := q5 k a b
    rw [c3]; exact h28 m c1 c2
  refine ⟨?_, fun k a b => ?_, fun k k' a b d => ?_, fun m a b c1 d => ?_⟩
  · rw [eg, h30, h31, h27]; exact ⟨q1, q2, q3, q4⟩
  · rw [h30] at a
    rw [h31] at b
    obtain ⟨m, c1, c2, c3, c4⟩ := q5 k a b
    exact ⟨m, by rw [eg]; exact c1, c2, by rw [e29 k a b, h25]; exact c3, by rw [h25, h28 m c1 c2]; exact c4⟩
  · rw [h30] at a
    rw [h31] at d
    rw [e29 k a (by omega), e29 k' (by omega) d, e28 k a (by omega), e28 k' (by omega) d, h22, h22]
    exact q6 k k' a b d
  · rw [eg] at a
    rw [h25, h28 m a b] at c1
    rw [h25, h22] at d
    obtain ⟨k, f1, f2, f3, f4⟩ := q7 m a b c1 d
    exact ⟨k, by rw [h30]; exact f1, by rw [h31]; exact f2, by rw [h25, e29 k f1 f2, h22, h22]; exact f3, by rw [h25, e29 k f1 f2, h28 m a b, e28 k f1 f2]; exact f4⟩
theorem sX_takeIn {P : Int → XS → Prop} {x : XS} {n lat sg : Int} (hn : 0 ≤ n ∧ n < 24) (hc : x.1 11 = 0 ∨ x.1 11 = 1) (gl : rg lat) (hq : qi x (x.1 11) n (rd x 32 n) sg) (hb : 0 ≤ gB x n) (h27 : rd x 27 n ≤ 1200)
    (hr : ∀ m : Int, gB x n ≤ m → m < rd x 27 n → (0 ≤ rd x 25 m ∧ rd x 25 m < 1200) ∧ rg (rd x 22 (rd x 25 m)) ∧ ((m < rd x 32 n ∨ rd x 22 (rd x 25 m) ≤ lat) → rg (rd x 28 (rd x 25 m)))) (hs : ∀ m m' : Int, gB x n ≤ m → m < m' → m' < rd x 27 n → rd x 22 (rd x 25 m) ≤ rd x 22 (rd x 25 m'))
    (h : ∀ z : XS, (∀ k : Nat, z.1 k = x.1 k) → (∀ (j : Nat) (i : Int), j ≠ 29 → j ≠ 31 → j ≠ 32 → rd z j i = rd x j i) → (∀ i : Int, 0 ≤ i → (i < gB x n ∨ rd x 27 n ≤ i) → rd z 29 i = rd x 29 i) → (∀ i : Int, 0 ≤ i → i ≠ n → rd z 31 i = rd x 31 i ∧ rd z 32 i = rd x 32 i) → qi z (z.1 11) n (rd z 32 n) sg → rd x 32 n ≤ rd z 32 n → (∀ m : Int, rd x 32 n ≤ m → m < rd z 32 n → rd x 22 (rd x 25 m) ≤ lat) → (∀ m : Int, rd z 32 n ≤ m → m < rd x 27 n → lat < rd x 22 (rd x 25 m)) → P 0 z) : wp (f_X3_takeIn x n lat) P := by
  have hq0 := hq.1
  unfold f_X3_takeIn
  refine wp_ld (by omega) (by omega) ?_
  refine wp_jp ?_
  refine wp_loop1 (fun e u => (rd x 32 n ≤ e ∧ e ≤ rd x 27 n) ∧ (∀ k : Nat, u.1 k = x.1 k) ∧ (∀ (j : Nat) (i : Int), j ≠ 29 → j ≠ 31 → rd u j i = rd x j i) ∧ (∀ i : Int, 0 ≤ i → (i < gB x n ∨ rd x 27 n ≤ i) → rd u 29 i = rd x 29 i) ∧ (∀ i : Int, 0 ≤ i → i ≠ n → rd u 31 i = rd x 31 i) ∧ qi u (x.1 11) n e sg ∧ ∀ m : Int, rd x 32 n ≤ m → m < e → rd x 22 (rd x 25 m) ≤ lat) (fun e _ => (rd x 27 n - e).toNat) (fun g e u hJ ih => ?_) x_fuel _ x ⟨⟨by omega, by omega⟩, fun _ => rfl, fun _ _ _ _ => rfl, fun _ _ _ => rfl, fun _ _ _ => rfl, hq, fun m a b => absurd b (by omega)⟩ (fu (by omega))
  obtain ⟨⟨e1, e2⟩, u1, uj, u29, u31, uq, ul⟩ := hJ
  have v27 : ∀ i : Int, rd u 27 i = rd x 27 i := fun i => uj 27 i (by decide) (by decide)
  have v25 : ∀ i : Int, rd u 25 i = rd x 25 i := fun i => uj 25 i (by decide) (by decide)
  have v22 : ∀ i : Int, rd u 22 i = rd x 22 i := fun i => uj 22 i (by decide) (by decide)
  have v28 : ∀ i : Int, rd u 28 i = rd x 28 i := fun i => uj 28 i (by decide) (by decide)
  have vg : gB u n = gB x n := by unfold gB; rw [v27]
  have fin : (∀ m : Int, e ≤ m → m < rd x 27 n → lat < rd x 22 (rd x 25 m)) → wp (x_st u 32 24 n e (fun x5 => some (0, x5))) P := by
    intro hl
    refine wp_st (by omega) (by omega) ?_
    refine wp_ret (h _ (fun k => u1 k) (fun j i a b c => by rw [rd_wr_j c]; exact uj j i a b) (fun i a b => by rw [rd_wr_j (by decide)]; exact u29 i a b) (fun i a b => ⟨by rw [rd_wr_j (by decide)]; exact u31 i a b, by rw [rd_wr_ne (by omega) a b]; exact uj 32 i (by decide) (by decide)⟩) ?_ ?_ ?_ ?_)
    · rw [rd_wr_eq, wr_1, u1]
      exact qi_keep uq (by rw [vg]; exact hb) (fun i => rd_wr_j (by decide)) (fun i => rd_wr_j (by decide)) (fun i => rd_wr_j (by decide)) (fun i _ _ => rd_wr_j (by decide)) (rd_wr_j (by decide)) (rd_wr_j (by decide)) (fun m _ _ => rd_wr_j (by decide))
    · rw [rd_wr_eq]; exact e1
    · intro m a b
      rw [rd_wr_eq] at b
      exact ul m a b
    · intro m a b
      rw [rd_wr_eq] at a
      exact hl m a b
  unfold b_X3_takeIn_7
  refine wp_ld (by omega) (by omega) ?_
  rw [v27]
  refine wp_le (by omega) (by omega) (by omega) (by omega) (fun hd => fin (fun m a b => absurd b (by omega))) (fun hd => ?_)
  have hm := hr e (by omega) hd
  refine wp_ld (by omega) (by omega) ?_
  rw [v25]
  refine wp_ld hm.1.1 (by omega) ?_
  rw [v22]
  refine wp_lt gl.1 gl.2 hm.2.1.1 hm.2.1.2 (fun hl => fin (fun m a b => ?_)) (fun hl => ?_)
  · by_cases hme : m = e
    · rw [hme]; exact hl
    · have := hs e m (by omega) (by omega) b
      omega
  · refine wp_ld (by omega) (by omega) ?_
    rw [v25]
    refine wp_ld hm.1.1 (by omega) ?_
    rw [v28]
    refine wp_jp ?_
    have hm2 := hm.2.2 (Or.inr hl)
    refine wp_eq hm2.1 hm2.2 (by omega) (by omega) (fun hw => ?_) (fun hw => ?_)
    · refine wp_let (ih (e + 1) u ⟨⟨by omega, by omega⟩, u1, uj, u29, u31, qi_skip uq (by rw [v27]; exact hd) (by rw [v25, v28]; exact hw), fun m a b => ?_⟩ (by omega))
      by_cases hme : m = e
      · rw [hme]; exact hl
      · exact ul m a (by omega)
    · refine wp_ld (by omega) (by omega) ?_
      rw [v25]
      refine wp_call (sX_join (N := e) (sg := sg) hn (by rw [u1]; exact hc) (by rw [u1]; exact uq) (by rw [vg]; exact hb) (by rw [v27]; exact hd) (by rw [v27]; exact h27) (v25 e) (by rw [v28]; exact hw) (fun m a b => ?_) (fun m a b => ?_) (fun z z1 zj z29 z31 zq => ?_))
      · rw [vg] at a
        rw [v25, v28]
        refine ⟨(hr m a (by omega)).1, (hr m a (by omega)).2.2 ?_⟩
        by_cases hme : m = e
        · rw [hme]; exact Or.inr hl
        · by_cases hm32 : m < rd x 32 n
          · exact Or.inl hm32
          · exact Or.inr (ul m (by omega) (by omega))
      · rw [vg] at a
        rw [v25, v22, v22]
        exact hs m e a b hd
      · refine wp_let (ih (e + 1) z ⟨⟨by omega, by omega⟩, fun k => (z1 k).trans (u1 k), fun j i a b => (zj j i a b).trans (uj j i a b), fun i a b => ?_, fun i a b => (z31 i a b).trans (u31 i a b), ?_, fun m a b => ?_⟩ (by omega))
        · rw [z29 i a (by rw [vg, v27]; exact b)]; exact u29 i a b
        · rw [z1, u1] at zq; exact zq
        · by_cases hme : m = e
          · rw [hme]; exact hl
          · exact ul m a (by omega)
theorem sX_dropOld {P : Int → XS → Prop} {x : XS} {c n so N sg : Int} (hn : 0 ≤ n ∧ n < 24) (gs : rg so) (hq : qi x c n N sg) (hsg : sg ≤ so) (hb : 0 ≤ gB x n) (h27 : rd x 27 n ≤ 1200)
    (hr : ∀ m : Int, gB x n ≤ m → m < rd x 27 n → (0 ≤ rd x 25 m ∧ rd x 25 m < 1200) ∧ rg (rd x 22 (rd x 25 m)))
    (h : ∀ z : XS, (∀ k : Nat, z.1 k = x.1 k) → (∀ (j : Nat) (i : Int), j ≠ 30 → rd z j i = rd x j i) → (∀ i : Int, 0 ≤ i → i ≠ n → rd z 30 i = rd x 30 i) → qi z c n N so → (∀ k : Int, rd z 30 n ≤ k → k < rd z 31 n → so ≤ rd z 22 (rd z 29 k)) → P 0 z) : wp (f_X3_dropOld x n so) P := by
  obtain ⟨⟨q1, q2, q3, q4⟩, q5, q6, q7⟩ := hq
  unfold f_X3_dropOld
  refine wp_ld (by omega) (by omega) ?_
  refine wp_jp ?_
  refine wp_loop1 (fun e u => u = x ∧ (rd x 30 n ≤ e ∧ e ≤ rd x 31 n) ∧ ∀ k : Int, rd x 30 n ≤ k → k < e → rd x 22 (rd x 29 k) < so) (fun e _ => (rd x 31 n - e).toNat) (fun g e u hJ ih => ?_) x_fuel _ x ⟨rfl, ⟨by omega, by omega⟩, fun k a b => absurd b (by omega)⟩ (fu (by omega))
  obtain ⟨rfl, ⟨e1, e2⟩, e3⟩ := hJ
  have fin : (e = rd u 31 n ∨ so ≤ rd u 22 (rd u 29 e)) → wp (x_st u 30 24 n e (fun x5 => some (0, x5))) P := by
    intro he
    refine wp_st (by omega) (by omega) ?_
    have w30 : rd (wr u 30 n e) 30 n = e := rd_wr_eq
    have wj : ∀ (j : Nat) (i : Int), j ≠ 30 → rd (wr u 30 n e) j i = rd u j i := fun j i a => rd_wr_j a
    have wg : gB (wr u 30 n e) n = gB u n := by unfold gB; rw [wj 27 _ (by decide)]
    refine wp_ret (h _ (fun _ => rfl) wj (fun i a b => rd_wr_ne (by omega) a b) ⟨?_, ?_, ?_, ?_⟩ ?_)
    · rw [wg, w30, wj 31 _ (by decide), wj 27 _ (by decide)]; omega
    · intro k a b
      rw [w30] at a
      rw [wj 31 _ (by decide)] at b
      obtain ⟨m, c1, c2, c3, c4⟩ := q5 k (by omega) b
      exact ⟨m, by rw [wg]; exact c1, c2, by rw [wj 29 _ (by decide), wj 25 _ (by decide)]; exact c3, by rw [wj 25 _ (by decide), wj 28 _ (by decide)]; exact c4⟩
    · intro k k' a b d
      rw [w30] at a
      rw [wj 31 _ (by decide)] at d
      rw [wj 29 _ (by decide), wj 29 _ (by decide), wj 28 _ (by decide), wj 28 _ (by decide), wj 22 _ (by decide), wj 22 _ (by decide)]
      exact q6 k k' (by omega) b d
    · intro m a b c1 d
      rw [wg] at a
      rw [wj 25 _ (by decide), wj 28 _ (by decide)] at c1
      rw [wj 25 _ (by decide), wj 22 _ (by decide)] at d
      obtain ⟨k, f1, f2, f3, f4⟩ := q7 m a b c1 (by omega)
      have hke : e ≤ k := by
        by_cases hlt : k < e
        · have := e3 k f1 hlt
          omega
        · omega
      exact ⟨k, by rw [w30]; exact hke, by rw [wj 31 _ (by decide)]; exact f2, by rw [wj 25 _ (by decide), wj 22 _ (by decide), wj 29 _ (by decide), wj 22 _ (by decide)]; exact f3, by rw [wj 25 _ (by decide), wj 28 _ (by decide), wj 29 _ (by decide), wj 28 _ (by decide)]; exact f4⟩
    · intro k a b
      rw [w30] at a
      rw [wj 31 _ (by decide)] at b
      rw [wj 29 _ (by decide), wj 22 _ (by decide)]
      rcases he with q | q
      · omega
      · by_cases hk : k = e
        · rw [hk]; exact q
        · have := (q6 e k (by omega) (by omega) b).2
          omega
  unfold b_X3_dropOld_7
  refine wp_ld (by omega) (by omega) ?_
  refine wp_le (by omega) (by omega) (by omega) (by omega) (fun hd => fin (Or.inl (by omega))) (fun hd => ?_)
  obtain ⟨m, c1, c2, c3, c4⟩ := q5 e e1 hd
  have hm := hr m c1 (by omega)
  rw [← c3] at hm
  refine wp_ld (by omega) (by omega) ?_
  refine wp_ld hm.1.1 (by omega) ?_
  refine wp_le gs.1 gs.2 hm.2.1 hm.2.2 (fun hs => fin (Or.inr hs)) (fun hs => ?_)
  refine wp_let (ih (e + 1) u ⟨rfl, ⟨by omega, by omega⟩, fun k a b => ?_⟩ (by omega))
  by_cases hk : k = e
  · rw [hk]; exact hs
  · exact e3 k a (by omega)
