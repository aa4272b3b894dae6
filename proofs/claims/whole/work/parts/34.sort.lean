/-- of two multiples of w, one is at most the other's next -/
theorem mul_gap {w a b : Int} (hw : 0 < w) (h : a < b) : a * w + w ≤ b * w := by
  have h1 : (a + 1) * w ≤ b * w := Int.mul_le_mul_of_nonneg_right (by omega) (by omega)
  rw [Int.add_mul, Int.one_mul] at h1
  exact h1
theorem sX_sort {P : Int → XS → Prop} {x : XS} {j0 j1 : Nat} (hj0 : j0 ≠ 34) (hj1 : j1 ≠ 34) (hjj : j1 ≠ j0) {n : Int} (h0 : 0 ≤ n) (h1 : n ≤ 1200)
    (hr : ∀ i : Int, 0 ≤ i → i < n → 0 ≤ rd x j0 i ∧ rd x j0 i < 1200) (hk : ∀ i : Int, 0 ≤ i → i < n → rg (rd x j1 (rd x j0 i)))
    (h : ∀ z : XS, (∀ k : Nat, z.1 k = x.1 k) → (∀ (j : Nat) (i : Int), j ≠ 34 → j ≠ j0 → rd z j i = rd x j i) → (∀ p : Int, 0 ≤ p → p < n → ∃ q : Int, 0 ≤ q ∧ q < n ∧ rd z j0 p = rd x j0 q) → (∀ q : Int, 0 ≤ q → q < n → ∃ p : Int, 0 ≤ p ∧ p < n ∧ rd z j0 p = rd x j0 q) → (∀ i j : Int, 0 ≤ i → i < j → j < n → rd x j1 (rd z j0 i) ≤ rd x j1 (rd z j0 j)) → P 0 z) : wp (f_X4_sort j0 j1 x n) P := by
  unfold f_X4_sort
  refine wp_jp ?_
  refine wp_loop1 (fun w z => (1 ≤ w ∧ w ≤ 2400) ∧ (∀ k : Nat, z.1 k = x.1 k) ∧ (∀ (j : Nat) (i : Int), j ≠ 34 → j ≠ j0 → rd z j i = rd x j i) ∧ (∀ p : Int, 0 ≤ p → p < n → ∃ q : Int, 0 ≤ q ∧ q < n ∧ rd z j0 p = rd x j0 q) ∧ (∀ q : Int, 0 ≤ q → q < n → ∃ p : Int, 0 ≤ p ∧ p < n ∧ rd z j0 p = rd x j0 q) ∧ (∀ m i j : Int, 0 ≤ m * w → m * w ≤ i → i < j → j < m * w + w → j < n → rd x j1 (rd z j0 i) ≤ rd x j1 (rd z j0 j)))
    (fun w _ => (2400 - w).toNat) (fun g w z hJ ih => ?_) x_fuel 1 x ⟨⟨by omega, by omega⟩, fun _ => rfl, fun _ _ _ _ => rfl, fun p a b => ⟨p, a, b, rfl⟩, fun p a b => ⟨p, a, b, rfl⟩, fun m i j a b c d => absurd d (by omega)⟩ (fu (by omega))
  obtain ⟨⟨w1, w2⟩, z1, zj, c1, c2, c3⟩ := hJ
  unfold b_X4_sort_3
  refine wp_le (by omega) (by omega) (by omega) (by omega) (fun hc => ?_) (fun hc => ?_)
  · exact wp_ret (h z z1 zj c1 c2 (fun i j a b c => c3 0 i j (by omega) (by omega) b (by omega) c))
  refine wp_jp ?_
  have hzr : ∀ i : Int, 0 ≤ i → i < n → 0 ≤ rd z j0 i ∧ rd z j0 i < 1200 := by
    intro i a b
    obtain ⟨q, e1, e2, e3⟩ := c1 i a b
    rw [e3]
    exact hr q e1 e2
  have hzk : ∀ i : Int, 0 ≤ i → i < n → rg (rd z j1 (rd z j0 i)) := by
    intro i a b
    obtain ⟨q, e1, e2, e3⟩ := c1 i a b
    rw [zj j1 _ hj1 hjj, e3]
    exact hk q e1 e2
  -- the blocks, merged into the spare row
  refine wp_loop1 (fun lo u => (0 ≤ lo ∧ lo ≤ n + 4800 ∧ ∃ m : Int, lo = m * (2 * w)) ∧ (∀ k : Nat, u.1 k = x.1 k) ∧ (∀ (j : Nat) (i : Int), j ≠ 34 → rd u j i = rd z j i) ∧ (∀ p : Int, 0 ≤ p → p < lo → p < n → ∃ q : Int, 0 ≤ q ∧ q < n ∧ rd u 34 p = rd z j0 q) ∧ (∀ q : Int, 0 ≤ q → q < lo → q < n → ∃ p : Int, 0 ≤ p ∧ p < lo ∧ p < n ∧ rd u 34 p = rd z j0 q) ∧ (∀ m i j : Int, 0 ≤ m * (2 * w) → m * (2 * w) < lo → m * (2 * w) ≤ i → i < j → j < m * (2 * w) + 2 * w → j < n → rd x j1 (rd u 34 i) ≤ rd x j1 (rd u 34 j)))
    (fun lo _ => (n + 5000 - lo).toNat) (fun g2 lo u hJ2 ih2 => ?_) x_fuel 0 z ⟨⟨by omega, by omega, 0, by omega⟩, z1, fun _ _ _ => rfl, fun p a b => absurd b (by omega), fun p a b => absurd b (by omega), fun m i j a b => absurd b (by omega)⟩ (fu (by omega))
  obtain ⟨⟨l1, l0, m0, l2⟩, u1, uj, d1, d2, d3⟩ := hJ2
  unfold b_X4_sort_12
  refine wp_le (by omega) (by omega) (by omega) (by omega) (fun hd => ?_) (fun hd => ?_)
  · -- copied back
    refine wp_jp ?_
    refine wp_loop1 (fun i t => (0 ≤ i ∧ i ≤ n) ∧ (∀ k : Nat, t.1 k = x.1 k) ∧ (∀ (j : Nat) (q : Int), j ≠ j0 → rd t j q = rd u j q) ∧ (∀ q : Int, 0 ≤ q → q < i → rd t j0 q = rd u 34 q)) (fun i _ => (n - i).toNat) (fun g3 i t hJ3 ih3 => ?_) x_fuel 0 u ⟨⟨by omega, by omega⟩, u1, fun _ _ _ => rfl, fun q a b => absurd b (by omega)⟩ (fu (by omega))
    obtain ⟨⟨i1, i2⟩, t1, tj, to⟩ := hJ3
    unfold b_X4_sort_63
    refine wp_le (by omega) (by omega) (by omega) (by omega) (fun he => ?_) (fun he => ?_)
    · have ei : i = n := by omega
      refine wp_let (ih (w * 2) t ⟨⟨by omega, by omega⟩, t1, fun j q a b => ?_, fun p a b => ?_, fun q a b => ?_, fun m p q a b c d e => ?_⟩ (by omega))
      · rw [tj j q b, uj j q a]; exact zj j q a b
      · rw [to p a (by omega)]
        obtain ⟨q, e1, e2, e3⟩ := d1 p a (by omega) b
        obtain ⟨q', f1, f2, f3⟩ := c1 q e1 e2
        exact ⟨q', f1, f2, e3.trans f3⟩
      · obtain ⟨q', f1, f2, f3⟩ := c2 q a b
        obtain ⟨p, e1, e2, e3, e4⟩ := d2 q' f1 (by omega) f2
        exact ⟨p, e1, e3, by rw [to p e1 (by omega), e4]; exact f3⟩
      · have ew : w * 2 = 2 * w := Int.mul_comm w 2
        rw [ew] at a b d
        rw [to p (by omega) (by omega), to q (by omega) (by omega)]
        exact d3 m p q a (by omega) b c d e
    · refine wp_ld (by omega) (by omega) ?_
      rw [tj 34 i (fun e => hj0 e.symm)]
      refine wp_st (by omega) (by omega) ?_
      refine wp_let (ih3 (i + 1) _ ⟨⟨by omega, by omega⟩, t1, fun j q a => ?_, fun q a b => ?_⟩ (by omega))
      · rw [rd_wr_j a]; exact tj j q a
      · by_cases hq : q = i
        · subst hq; rw [rd_wr_eq]
        · rw [rd_wr_ne i1 a hq]; exact to q a (by omega)
  · refine wp_min (by omega) (by omega) (by omega) (by omega) (fun mid hmid => ?_)
    refine wp_min (by omega) (by omega) (by omega) (by omega) (fun top htop => ?_)
    have e1 : m0 * (2 * w) = (2 * m0) * w := by rw [← Int.mul_assoc, Int.mul_comm m0 2]
    have e2 : (2 * m0 + 1) * w = (2 * m0) * w + w := by rw [Int.add_mul, Int.one_mul]
    refine wp_call (sX_merge hj0 hj1 l1 (by omega) (by omega) (by omega) (fun i a b => by rw [uj j0 i hj0]; exact hzr i (by omega) (by omega)) (fun i a b => by rw [uj j0 i hj0, uj j1 _ hj1]; exact hzk i (by omega) (by omega)) (fun i j a b c => ?_) (fun i j a b c => ?_) (fun t t1 tj to s1 s2 s3 => ?_))
    · rw [uj j0 i hj0, uj j0 j hj0, uj j1 _ hj1, uj j1 _ hj1, zj j1 _ hj1 hjj, zj j1 _ hj1 hjj]
      exact c3 (2 * m0) i j (by omega) (by omega) b (by omega) (by omega)
    · rw [uj j0 i hj0, uj j0 j hj0, uj j1 _ hj1, uj j1 _ hj1, zj j1 _ hj1 hjj, zj j1 _ hj1 hjj]
      exact c3 (2 * m0 + 1) i j (by omega) (by omega) b (by omega) (by omega)
    · have ek : ∀ q : Int, rd u j1 q = rd x j1 q := fun q => by rw [uj j1 q hj1, zj j1 q hj1 hjj]
      refine wp_let (ih2 (lo + 2 * w) t ⟨⟨by omega, by omega, m0 + 1, by rw [Int.add_mul, Int.one_mul]; omega⟩, fun k => (t1 k).trans (u1 k), fun j i a => (tj j i a).trans (uj j i a), fun p a b c => ?_, fun q a b c => ?_, fun m i j a b c d e f => ?_⟩ (by omega))
      · by_cases hp : p < lo
        · rw [to p a (by omega)]; exact d1 p a hp c
        · obtain ⟨q, f1, f2, f3⟩ := s1 p (by omega) (by omega)
          exact ⟨q, by omega, by omega, by rw [f3, uj j0 q hj0]⟩
      · by_cases hq : q < lo
        · obtain ⟨p, f1, f2, f3, f4⟩ := d2 q a hq c
          exact ⟨p, f1, by omega, f3, by rw [to p f1 (by omega)]; exact f4⟩
        · obtain ⟨p, f1, f2, f3⟩ := s2 q (by omega) (by omega)
          exact ⟨p, by omega, by omega, by omega, by rw [f3, uj j0 q hj0]⟩
      · by_cases hm : m < m0
        · have := mul_gap (w := 2 * w) (a := m) (b := m0) (by omega) hm
          rw [to i (by omega) (by omega), to j (by omega) (by omega)]
          exact d3 m i j a (by omega) c d e f
        · have : ¬ m0 < m := fun hgt => by
            have := mul_gap (w := 2 * w) (a := m0) (b := m) (by omega) hgt
            omega
          have em : m = m0 := by omega
          subst em
          have := s3 i j (by omega) d (by omega)
          rw [ek, ek] at this
          exact this
