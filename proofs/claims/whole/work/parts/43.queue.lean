/-- a worth, greater is better -/
def vl (c wv : Int) : Int := if c = 0 then wv else -wv
/-- the queue of node n in t: N rows of its part of byGoal looked at (N: a place in byGoal), those with a coming ahead of sg forgotten -/
def qi (t : XS) (c n N sg : Int) : Prop :=
  (gB t n ≤ rd t 30 n ∧ rd t 30 n ≤ rd t 31 n ∧ rd t 31 n ≤ N ∧ N ≤ rd t 27 n) ∧
  (∀ k : Int, rd t 30 n ≤ k → k < rd t 31 n → ∃ m : Int, gB t n ≤ m ∧ m < N ∧ rd t 29 k = rd t 25 m ∧ rd t 28 (rd t 25 m) ≠ -1) ∧
  (∀ k k' : Int, rd t 30 n ≤ k → k < k' → k' < rd t 31 n → vl c (rd t 28 (rd t 29 k')) < vl c (rd t 28 (rd t 29 k)) ∧ rd t 22 (rd t 29 k) ≤ rd t 22 (rd t 29 k')) ∧
  (∀ m : Int, gB t n ≤ m → m < N → rd t 28 (rd t 25 m) ≠ -1 → sg ≤ rd t 22 (rd t 25 m) → ∃ k : Int, rd t 30 n ≤ k ∧ k < rd t 31 n ∧ rd t 22 (rd t 25 m) ≤ rd t 22 (rd t 29 k) ∧ vl c (rd t 28 (rd t 25 m)) ≤ vl c (rd t 28 (rd t 29 k)))
theorem sX_isBetter {P : Int → XS → Prop} {x : XS} {a b : Int} (ga : rg a) (gb : rg b) (hc : x.1 11 = 0 ∨ x.1 11 = 1) (h1 : vl (x.1 11) b < vl (x.1 11) a → P 1 x) (h0 : vl (x.1 11) a ≤ vl (x.1 11) b → P 0 x) : wp (f_X3_isBetter x a b) P := by
  unfold f_X3_isBetter
  unfold vl at h1 h0
  rcases hc with hc | hc
  · rw [hc] at h1 h0
    rw [if_pos rfl, if_pos rfl] at h1 h0
    rw [hc]
    refine wp_e0 ?_
    exact wp_le ga.1 ga.2 gb.1 gb.2 (fun h => wp_ret (h0 h)) (fun h => wp_ret (h1 h))
  · rw [hc] at h1 h0
    rw [if_neg (by decide), if_neg (by decide)] at h1 h0
    rw [hc]
    refine wp_e1 ?_
    exact wp_le gb.1 gb.2 ga.1 ga.2 (fun h => wp_ret (h0 (by omega))) (fun h => wp_ret (h1 (by omega)))
/-- one more run joins: the row at N of byGoal -/
theorem sX_join {P : Int → XS → Prop} {x : XS} {n N sg run : Int} (hn : 0 ≤ n ∧ n < 24) (hc : x.1 11 = 0 ∨ x.1 11 = 1) (hq : qi x (x.1 11) n N sg) (hb : 0 ≤ gB x n) (hN : N < rd x 27 n) (h27 : rd x 27 n ≤ 1200) (er : rd x 25 N = run) (hw : rd x 28 run ≠ -1)
    (hr : ∀ m : Int, gB x n ≤ m → m ≤ N → (0 ≤ rd x 25 m ∧ rd x 25 m < 1200) ∧ rg (rd x 28 (rd x 25 m))) (hs : ∀ m : Int, gB x n ≤ m → m < N → rd x 22 (rd x 25 m) ≤ rd x 22 run)
    (h : ∀ z : XS, (∀ k : Nat, z.1 k = x.1 k) → (∀ (j : Nat) (i : Int), j ≠ 29 → j ≠ 31 → rd z j i = rd x j i) → (∀ i : Int, 0 ≤ i → (i < gB x n ∨ rd x 27 n ≤ i) → rd z 29 i = rd x 29 i) → (∀ i : Int, 0 ≤ i → i ≠ n → rd z 31 i = rd x 31 i) → qi z (z.1 11) n (N + 1) sg → P 0 z) : wp (f_X3_join x n run) P := by
  obtain ⟨⟨q1, q2, q3, q4⟩, q5, q6, q7⟩ := hq
  have hrun := hr N (by omega) (Int.le_refl _)
  rw [er] at hrun
  unfold f_X3_join
  refine wp_ld (by omega) (by omega) ?_
  refine wp_jp ?_
  refine wp_loop1 (fun t z => z = x ∧ (rd x 30 n ≤ t ∧ t ≤ rd x 31 n) ∧ ∀ k : Int, t ≤ k → k < rd x 31 n → vl (x.1 11) (rd x 28 (rd x 29 k)) ≤ vl (x.1 11) (rd x 28 run)) (fun t _ => t.toNat) (fun g t z hJ ih => ?_) x_fuel _ x ⟨rfl, ⟨by omega, by omega⟩, fun k a b => absurd b (by omega)⟩ (fu (by omega))
  obtain ⟨rfl, ⟨t1, t2⟩, t3⟩ := hJ
  -- the tail is found
  have fin : (t = rd z 30 n ∨ vl (z.1 11) (rd z 28 run) < vl (z.1 11) (rd z 28 (rd z 29 (t - 1)))) → wp (x_st z 29 1200 t run (fun x5 => x_st x5 31 24 n (t + 1) (fun x6 => some (0, x6)))) P := by
    intro ht
    refine wp_st (by omega) (by omega) ?_
    refine wp_st (by omega) (by omega) ?_
    obtain ⟨u, eu⟩ : ∃ u, u = wr (wr z 29 t run) 31 n (t + 1) := ⟨_, rfl⟩
    rw [← eu]
    have u1 : ∀ k : Nat, u.1 k = z.1 k := fun k => by rw [eu]; rfl
    have uj : ∀ (j : Nat) (i : Int), j ≠ 29 → j ≠ 31 → rd u j i = rd z j i := fun j i a b => by rw [eu, rd_wr_j b, rd_wr_j a]
    have u29 : ∀ i : Int, 0 ≤ i → i ≠ t → rd u 29 i = rd z 29 i := fun i a b => by rw [eu, rd_wr_j (by decide), rd_wr_ne (by omega) a b]
    have u29t : rd u 29 t = run := by rw [eu, rd_wr_j (by decide), rd_wr_eq]
    have u31 : rd u 31 n = t + 1 := by rw [eu, rd_wr_eq]
    have ug : gB u n = gB z n := by unfold gB; rw [uj 27 _ (by decide) (by decide)]
    have v25 : ∀ i : Int, rd u 25 i = rd z 25 i := fun i => uj 25 i (by decide) (by decide)
    have v28 : ∀ i : Int, rd u 28 i = rd z 28 i := fun i => uj 28 i (by decide) (by decide)
    have v22 : ∀ i : Int, rd u 22 i = rd z 22 i := fun i => uj 22 i (by decide) (by decide)
    have v30 : ∀ i : Int, rd u 30 i = rd z 30 i := fun i => uj 30 i (by decide) (by decide)
    have v27 : ∀ i : Int, rd u 27 i = rd z 27 i := fun i => uj 27 i (by decide) (by decide)
    refine wp_ret (h u u1 uj (fun i a b => u29 i a (by omega)) (fun i a b => by rw [eu, rd_wr_ne (by omega) a b, rd_wr_j (by decide)]) ?_)
    rw [u1 11]
    refine ⟨?_, ?_, ?_, ?_⟩
    · rw [ug, v30, u31, v27]; omega
    · intro k a b
      rw [v30] at a
      rw [u31] at b
      by_cases hk : k = t
      · refine ⟨N, by rw [ug]; omega, by omega, ?_, ?_⟩
        · rw [hk, u29t, v25, er]
        · rw [v25, v28, er]; exact hw
      · obtain ⟨m, c1, c2, c3, c4⟩ := q5 k a (by omega)
        exact ⟨m, by rw [ug]; exact c1, by omega, by rw [u29 k (by omega) hk, v25]; exact c3, by rw [v25, v28]; exact c4⟩
    · intro k k' a b c
      rw [v30] at a
      rw [u31] at c
      by_cases hk : k' = t
      · rw [hk, u29t, u29 k (by omega) (by omega), v28, v28, v22, v22]
        obtain ⟨m, c1, c2, c3, c4⟩ := q5 k a (by omega)
        refine ⟨?_, by rw [c3]; exact hs m c1 c2⟩
        have h1 : vl (z.1 11) (rd z 28 run) < vl (z.1 11) (rd z 28 (rd z 29 (t - 1))) := by
          rcases ht with q | q
          · omega
          · exact q
        by_cases hk1 : k = t - 1
        · rw [hk1]; exact h1
        · have := (q6 k (t - 1) a (by omega) (by omega)).1
          omega
      · rw [u29 k (by omega) (by omega), u29 k' (by omega) hk, v28, v28, v22, v22]
        exact q6 k k' a b (by omega)
    · intro m a b c d
      rw [ug] at a
      rw [v25, v28] at c
      rw [v25, v22] at d
      rw [v25, v22, v28, v30, u31]
      by_cases hm : m = N
      · refine ⟨t, by omega, by omega, ?_, ?_⟩
        · rw [u29t, v22, hm, er]; exact Int.le_refl _
        · rw [u29t, v28, hm, er]; exact Int.le_refl _
      · obtain ⟨k, c1, c2, c3, c4⟩ := q7 m a (by omega) c d
        by_cases hk : k < t
        · exact ⟨k, c1, by omega, by rw [u29 k (by omega) (by omega), v22]; exact c3, by rw [u29 k (by omega) (by omega), v28]; exact c4⟩
        · refine ⟨t, by omega, by omega, ?_, ?_⟩
          · rw [u29t, v22]; exact hs m a (by omega)
          · rw [u29t, v28]
            have := t3 k (by omega) c2
            omega
  unfold b_X3_join_7
  refine wp_ld (by omega) (by omega) ?_
  refine wp_le (by omega) (by omega) (by omega) (by omega) (fun hd => fin (by omega)) (fun hd => ?_)
  obtain ⟨m, c1, c2, c3, c4⟩ := q5 (t - 1) (by omega) (by omega)
  have hm := hr m c1 (by omega)
  rw [← c3] at hm
  refine wp_ld (by omega) (by omega) ?_
  refine wp_ld hm.1.1 (by omega) ?_
  refine wp_ld hrun.1.1 (by omega) ?_
  refine wp_call (sX_isBetter hm.2 hrun.2 hc (fun hb1 => ?_) (fun hb0 => ?_))
  · refine wp_e1 ?_
    exact fin (Or.inr hb1)
  · refine wp_e0 ?_
    refine wp_let ?_
    rw [show t + (-1) = t - 1 by omega]
    refine ih (t - 1) z ⟨rfl, ⟨by omega, by omega⟩, fun k a b => ?_⟩ (by omega)
    by_cases hk : k = t - 1
    · rw [hk]; exact hb0
    · exact t3 k (by omega) b
