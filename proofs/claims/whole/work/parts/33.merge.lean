theorem sX_merge {P : Int → XS → Prop} {x : XS} {j0 j1 : Nat} (hj0 : j0 ≠ 34) (hj1 : j1 ≠ 34) {lo mi hi : Int} (h0 : 0 ≤ lo) (h1 : lo ≤ mi) (h2 : mi ≤ hi) (h3 : hi ≤ 1200)
    (hr : ∀ i : Int, lo ≤ i → i < hi → 0 ≤ rd x j0 i ∧ rd x j0 i < 1200) (hk : ∀ i : Int, lo ≤ i → i < hi → rg (rd x j1 (rd x j0 i)))
    (s1 : ∀ i j : Int, lo ≤ i → i < j → j < mi → rd x j1 (rd x j0 i) ≤ rd x j1 (rd x j0 j)) (s2 : ∀ i j : Int, mi ≤ i → i < j → j < hi → rd x j1 (rd x j0 i) ≤ rd x j1 (rd x j0 j))
    (h : ∀ z : XS, (∀ k : Nat, z.1 k = x.1 k) → (∀ (j : Nat) (i : Int), j ≠ 34 → rd z j i = rd x j i) → (∀ i : Int, 0 ≤ i → (i < lo ∨ hi ≤ i) → rd z 34 i = rd x 34 i) → (∀ p : Int, lo ≤ p → p < hi → ∃ q : Int, lo ≤ q ∧ q < hi ∧ rd z 34 p = rd x j0 q) → (∀ q : Int, lo ≤ q → q < hi → ∃ p : Int, lo ≤ p ∧ p < hi ∧ rd z 34 p = rd x j0 q) → (∀ i j : Int, lo ≤ i → i < j → j < hi → rd x j1 (rd z 34 i) ≤ rd x j1 (rd z 34 j)) → P 0 z) : wp (f_X4_merge j0 j1 x lo mi hi) P := by
  unfold f_X4_merge
  refine wp_jp ?_
  refine wp_loop3 (fun le ri i z => (lo ≤ le ∧ le ≤ mi ∧ mi ≤ ri ∧ ri ≤ hi ∧ i - lo = (le - lo) + (ri - mi)) ∧ (∀ k : Nat, z.1 k = x.1 k) ∧ (∀ (j : Nat) (q : Int), j ≠ 34 → rd z j q = rd x j q) ∧ (∀ q : Int, 0 ≤ q → (q < lo ∨ i ≤ q) → rd z 34 q = rd x 34 q) ∧
      (∀ p : Int, lo ≤ p → p < i → ∃ q : Int, ((lo ≤ q ∧ q < le) ∨ (mi ≤ q ∧ q < ri)) ∧ rd z 34 p = rd x j0 q) ∧ (∀ q : Int, ((lo ≤ q ∧ q < le) ∨ (mi ≤ q ∧ q < ri)) → ∃ p : Int, lo ≤ p ∧ p < i ∧ rd z 34 p = rd x j0 q) ∧
      (∀ p p' : Int, lo ≤ p → p < p' → p' < i → rd x j1 (rd z 34 p) ≤ rd x j1 (rd z 34 p')) ∧ (∀ p q : Int, lo ≤ p → p < i → ((le ≤ q ∧ q < mi) ∨ (ri ≤ q ∧ q < hi)) → rd x j1 (rd z 34 p) ≤ rd x j1 (rd x j0 q)))
    (fun _ _ i _ => (hi - i).toNat) (fun g le ri i z hJ ih => ?_) x_fuel lo mi lo x ⟨⟨by omega, by omega, by omega, by omega, by omega⟩, fun _ => rfl, fun _ _ _ => rfl, fun _ _ _ => rfl, fun p a b => absurd b (by omega), fun q a => absurd a (by omega), fun p p' a b c => absurd c (by omega), fun p q a b => absurd b (by omega)⟩ (fu (by omega))
  obtain ⟨⟨b1, b2, b3, b4, b5⟩, z1, zj, zo, c1, c2, c3, c4⟩ := hJ
  unfold b_X4_merge_10
  refine wp_le (by omega) (by omega) (by omega) (by omega) (fun hc => ?_) (fun hc => ?_)
  · have el : le = mi := by omega
    have er : ri = hi := by omega
    refine wp_ret (h z z1 zj (fun q a b => zo q a (by omega)) (fun p a b => ?_) (fun q a b => ?_) (fun p p' a b c => c3 p p' a b (by omega)))
    · obtain ⟨q, e1, e2⟩ := c1 p a (by omega)
      exact ⟨q, by omega, by omega, e2⟩
    · obtain ⟨p, e1, e2, e3⟩ := c2 q (by omega)
      exact ⟨p, e1, by omega, e3⟩
  · -- one more row taken, out of q0
    have step : ∀ (q0 le' ri' : Int), ((q0 = le ∧ le < mi ∧ le' = le + 1 ∧ ri' = ri) ∨ (q0 = ri ∧ ri < hi ∧ le' = le ∧ ri' = ri + 1)) → (∀ q : Int, ((le' ≤ q ∧ q < mi) ∨ (ri' ≤ q ∧ q < hi)) → rd x j1 (rd x j0 q0) ≤ rd x j1 (rd x j0 q)) → wp (g le' ri' (i + 1) (wr z 34 i (rd x j0 q0))) P := by
      intro q0 le' ri' hq hle
      have hq0 : ((le ≤ q0 ∧ q0 < mi) ∨ (ri ≤ q0 ∧ q0 < hi)) := by omega
      refine ih le' ri' (i + 1) _ ⟨⟨by omega, by omega, by omega, by omega, by omega⟩, fun k => z1 k, fun j q a => ?_, fun q a b => ?_, fun p a b => ?_, fun q a => ?_, fun p p' a b c => ?_, fun p q a b c => ?_⟩ (by omega)
      · rw [rd_wr_j a]; exact zj j q a
      · rw [rd_wr_ne (by omega) a (by omega)]; exact zo q a (by omega)
      · by_cases hp : p = i
        · subst hp
          rw [rd_wr_eq]
          exact ⟨q0, by omega, rfl⟩
        · rw [rd_wr_ne (by omega) (by omega) hp]
          obtain ⟨q, e1, e2⟩ := c1 p a (by omega)
          exact ⟨q, by omega, e2⟩
      · by_cases hq' : q = q0
        · subst hq'
          exact ⟨i, by omega, by omega, rd_wr_eq⟩
        · obtain ⟨p, e1, e2, e3⟩ := c2 q (by omega)
          exact ⟨p, e1, by omega, by rw [rd_wr_ne (by omega) (by omega) (by omega)]; exact e3⟩
      · by_cases hp : p' = i
        · subst hp
          rw [rd_wr_eq, rd_wr_ne (by omega) (by omega) (by omega)]
          exact c4 p q0 a b hq0
        · rw [rd_wr_ne (by omega) (by omega) hp, rd_wr_ne (by omega) (by omega) (by omega)]
          exact c3 p p' a b (by omega)
      · by_cases hp : p = i
        · subst hp
          rw [rd_wr_eq]
          exact hle q c
        · rw [rd_wr_ne (by omega) (by omega) hp]
          exact c4 p q a (by omega) (by omega)
    have goL : le < mi → (ri < hi → rd x j1 (rd x j0 le) ≤ rd x j1 (rd x j0 ri)) → wp (x_jp (fun (v12 : Int) (v13 : Int) (x14 : XS) => x_let (i + 1) (fun v15 => g v12 v13 v15 x14)) (fun jp11 => x_eq 1 0 (x_ld (z.2 j0) 1200 ri (fun v16 => x_st z 34 1200 i v16 (fun x17 => x_let (ri + 1) (fun v18 => jp11 le v18 x17)))) (x_ld (z.2 j0) 1200 le (fun v19 => x_st z 34 1200 i v19 (fun x20 => x_let (le + 1) (fun v21 => jp11 v21 ri x20)))))) P := by
      intro a b
      refine wp_jp ?_
      refine wp_e1 ?_
      refine wp_ld (by omega) (by omega) ?_
      rw [zj j0 le hj0]
      refine wp_st (by omega) (by omega) ?_
      refine wp_let (wp_let (step le (le + 1) ri (by omega) (fun q c => ?_)))
      rcases c with c | c
      · exact s1 le q (by omega) (by omega) (by omega)
      · have := b (by omega)
        by_cases hq : q = ri
        · subst hq; exact this
        · have := s2 ri q (by omega) (by omega) (by omega)
          omega
    have goR : ri < hi → (le < mi → rd x j1 (rd x j0 ri) ≤ rd x j1 (rd x j0 le)) → wp (x_jp (fun (v12 : Int) (v13 : Int) (x14 : XS) => x_let (i + 1) (fun v15 => g v12 v13 v15 x14)) (fun jp11 => x_eq 0 0 (x_ld (z.2 j0) 1200 ri (fun v16 => x_st z 34 1200 i v16 (fun x17 => x_let (ri + 1) (fun v18 => jp11 le v18 x17)))) (x_ld (z.2 j0) 1200 le (fun v19 => x_st z 34 1200 i v19 (fun x20 => x_let (le + 1) (fun v21 => jp11 v21 ri x20)))))) P := by
      intro a b
      refine wp_jp ?_
      refine wp_e0 ?_
      refine wp_ld (by omega) (by omega) ?_
      rw [zj j0 ri hj0]
      refine wp_st (by omega) (by omega) ?_
      refine wp_let (wp_let (step ri le (ri + 1) (by omega) (fun q c => ?_)))
      rcases c with c | c
      · have := b (by omega)
        by_cases hq : q = le
        · subst hq; exact this
        · have := s1 le q (by omega) (by omega) (by omega)
          omega
      · exact s2 ri q (by omega) (by omega) (by omega)
    refine wp_jp ?_
    refine wp_jp ?_
    refine wp_le (by omega) (by omega) (by omega) (by omega) (fun hd => ?_) (fun hd => ?_)
    · exact goL (by omega) (fun a => absurd a (by omega))
    · refine wp_jp ?_
      refine wp_le (by omega) (by omega) (by omega) (by omega) (fun he => ?_) (fun he => ?_)
      · exact goR (by omega) (fun a => absurd a (by omega))
      · have r1 := hr le (by omega) (by omega)
        have r2 := hr ri (by omega) (by omega)
        have k1 := hk le (by omega) (by omega)
        have k2 := hk ri (by omega) (by omega)
        refine wp_ld (by omega) (by omega) ?_
        rw [zj j0 le hj0]
        refine wp_ld r1.1 (by omega) ?_
        rw [zj j1 _ hj1]
        refine wp_ld (by omega) (by omega) ?_
        rw [zj j0 ri hj0]
        refine wp_ld r2.1 (by omega) ?_
        rw [zj j1 _ hj1]
        refine wp_lt k2.1 k2.2 k1.1 k1.2 (fun c => goR (by omega) (fun _ => by omega)) (fun c => goL (by omega) (fun _ => c))
