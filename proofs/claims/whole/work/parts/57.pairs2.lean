section PY
variable {P : Int → XS → Prop} {x y t z q : XS} {v : Nat} {w a tick b : Int} {Bf Cf F : Int → Int → Int}
theorem sY_p80 {n l c : Int} (hn : 0 ≤ n ∧ n ≤ 1200) (hr : ∀ k : Int, 0 ≤ k → k < n → (0 ≤ rd q 23 k ∧ rd q 23 k ≤ 5000) ∧ (0 ≤ rd q 24 k ∧ rd q 24 k ≤ 5000)) (hl : 0 ≤ l ∧ l ≤ 5000) (hc : 0 ≤ c ∧ c ≤ 5000) {K : Int → XS → XR} (h1 : (∃ k : Int, 0 ≤ k ∧ k < n ∧ l ≤ rd q 23 k ∧ rd q 24 k ≤ c) → wp (K 1 q) P) (h0 : (∀ k : Int, 0 ≤ k → k < n → ¬ (l ≤ rd q 23 k ∧ rd q 24 k ≤ c)) → wp (K 0 q) P) : wp (x_loop2 (b_X7_pairsOf_80 n K l c) x_fuel 0 0 q) P := by
  refine wp_loop2 (fun f k z => z = q ∧ (0 ≤ k ∧ k ≤ n) ∧ ((f = 0 ∧ ∀ k' : Int, 0 ≤ k' → k' < k → ¬ (l ≤ rd q 23 k' ∧ rd q 24 k' ≤ c)) ∨ (f = 1 ∧ ∃ k : Int, 0 ≤ k ∧ k < n ∧ l ≤ rd q 23 k ∧ rd q 24 k ≤ c))) (fun _ k _ => (n - k).toNat) (fun g f k z hJ ih => ?_) x_fuel 0 0 q ⟨rfl, ⟨by omega, by omega⟩, Or.inl ⟨rfl, fun k' p1 p2 => absurd p2 (by omega)⟩⟩ (fu (by omega))
  obtain ⟨rfl, ⟨k1, k2⟩, k3⟩ := hJ
  unfold b_X7_pairsOf_80
  refine wp_le (by omega) (by omega) (by omega) (by omega) (fun hd => ?_) (fun hd => ?_)
  · rcases k3 with ⟨e, e2⟩ | ⟨e, e2⟩
    · rw [e]; exact h0 (fun k' p1 p2 => e2 k' p1 (by omega))
    · rw [e]; exact h1 e2
  · have hk := hr k k1 hd
    refine wp_jp ?_
    refine wp_jp ?_
    rcases k3 with ⟨e, e2⟩ | ⟨e, e2⟩
    · rw [e]
      refine wp_e0 ?_
      refine wp_ld k1 (by omega) ?_
      refine wp_jp ?_
      have no : ¬ (l ≤ rd z 23 k ∧ rd z 24 k ≤ c) → wp (x_let (k + 1) (fun v66 => g 0 v66 z)) P := fun hn => wp_let (ih 0 (k + 1) z ⟨rfl, ⟨by omega, by omega⟩, Or.inl ⟨rfl, fun k' p1 p2 => by
        by_cases hkk : k' = k
        · rw [hkk]; exact hn
        · exact e2 k' p1 (by omega)⟩⟩ (by omega))
      refine wp_lt (by omega) (by omega) (by omega) (by omega) (fun p => no (by omega)) (fun p => ?_)
      refine wp_ld k1 (by omega) ?_
      refine wp_lt (by omega) (by omega) (by omega) (by omega) (fun p2 => no (by omega)) (fun p2 => ?_)
      exact wp_let (ih 1 (k + 1) z ⟨rfl, ⟨by omega, by omega⟩, Or.inr ⟨rfl, k, k1, hd, p, p2⟩⟩ (by omega))
    · rw [e]
      refine wp_e1 ?_
      exact wp_let (ih 1 (k + 1) z ⟨rfl, ⟨by omega, by omega⟩, Or.inr ⟨rfl, e2⟩⟩ (by omega))
theorem sY_p143 {n l c : Int} (hn : 0 ≤ n ∧ n ≤ 1200) (hr : ∀ k : Int, 0 ≤ k → k < n → (0 ≤ rd q 23 k ∧ rd q 23 k ≤ 5000) ∧ (0 ≤ rd q 24 k ∧ rd q 24 k ≤ 5000)) (hs : ∀ i j : Int, 0 ≤ i → i < j → j < n → rd q 23 i < rd q 23 j ∧ rd q 24 i < rd q 24 j) (hl : 0 ≤ l ∧ l ≤ 5000) (hc : 0 ≤ c ∧ c ≤ 5000) {K : Int → XS → XR}
    (h : ∀ (q' : XS) (left : Int), (∀ k : Nat, q'.1 k = q.1 k) → (∀ (j : Nat) (i : Int), j ≠ 23 → j ≠ 24 → rd q' j i = rd q j i) → (0 ≤ left ∧ left ≤ n) → (∀ i : Int, 0 ≤ i → i < left → ∃ i0 : Int, 0 ≤ i0 ∧ i0 < n ∧ rd q' 23 i = rd q 23 i0 ∧ rd q' 24 i = rd q 24 i0 ∧ ¬ (rd q 23 i0 ≤ l ∧ c ≤ rd q 24 i0)) → (∀ i0 : Int, 0 ≤ i0 → i0 < n → ¬ (rd q 23 i0 ≤ l ∧ c ≤ rd q 24 i0) → ∃ i : Int, 0 ≤ i ∧ i < left ∧ rd q' 23 i = rd q 23 i0 ∧ rd q' 24 i = rd q 24 i0) → (∀ i j : Int, 0 ≤ i → i < j → j < left → rd q' 23 i < rd q' 23 j ∧ rd q' 24 i < rd q' 24 j) → wp (K left q') P) : wp (x_loop2 (b_X7_pairsOf_143 n K l c) x_fuel 0 0 q) P := by
  refine wp_loop2 (fun left k z => (∀ k : Nat, z.1 k = q.1 k) ∧ (∀ (j : Nat) (i : Int), j ≠ 23 → j ≠ 24 → rd z j i = rd q j i) ∧ ((0 ≤ left ∧ left ≤ k) ∧ k ≤ n) ∧ (∀ i : Int, k ≤ i → rd z 23 i = rd q 23 i ∧ rd z 24 i = rd q 24 i) ∧ (∀ i : Int, 0 ≤ i → i < left → ∃ i0 : Int, 0 ≤ i0 ∧ i0 < k ∧ rd z 23 i = rd q 23 i0 ∧ rd z 24 i = rd q 24 i0 ∧ ¬ (rd q 23 i0 ≤ l ∧ c ≤ rd q 24 i0)) ∧ (∀ i0 : Int, 0 ≤ i0 → i0 < k → ¬ (rd q 23 i0 ≤ l ∧ c ≤ rd q 24 i0) → ∃ i : Int, 0 ≤ i ∧ i < left ∧ rd z 23 i = rd q 23 i0 ∧ rd z 24 i = rd q 24 i0) ∧ (∀ i j : Int, 0 ≤ i → i < j → j < left → rd z 23 i < rd z 23 j ∧ rd z 24 i < rd z 24 j)) (fun _ k _ => (n - k).toNat) (fun g left k z hJ ih => ?_) x_fuel 0 0 q ⟨fun _ => rfl, fun _ _ _ _ => rfl, ⟨⟨by omega, by omega⟩, by omega⟩, fun _ _ => ⟨rfl, rfl⟩, fun i p1 p2 => absurd p2 (by omega), fun i p1 p2 => absurd p2 (by omega), fun i j p1 p2 p3 => absurd p3 (by omega)⟩ (fu (by omega))
  obtain ⟨z1, zj, ⟨⟨l1, l2⟩, k2⟩, zr, F1, F2, F3⟩ := hJ
  unfold b_X7_pairsOf_143
  refine wp_le (by omega) (by omega) (by omega) (by omega) (fun hd => ?_) (fun hd => ?_)
  · have ek : k = n := by omega
    rw [ek] at F1 F2
    exact h z left z1 zj ⟨l1, by omega⟩ F1 F2 F3
  · have k1 : 0 ≤ k := by omega
    have hk := hr k k1 hd
    have zk := zr k (Int.le_refl _)
    refine wp_ld k1 (by omega) ?_
    rw [zk.1]
    refine wp_jp ?_
    refine wp_jp ?_
    have keep : ¬ (rd q 23 k ≤ l ∧ c ≤ rd q 24 k) → wp (x_ld (z.2 23) 1200 k (fun v53 => x_st z 23 1200 left v53 (fun x54 => x_ld (x54.2 24) 1200 k (fun v55 => x_st x54 24 1200 left v55 (fun x56 => x_let (left + 1) (fun v57 => x_let (k + 1) (fun v50 => g v57 v50 x56))))))) P := by
      intro hkp
      refine wp_ld k1 (by omega) ?_
      rw [zk.1]
      refine wp_st l1 (by omega) ?_
      refine wp_ld k1 (by omega) ?_
      rw [rd_wr_j (by decide), zk.2]
      refine wp_st l1 (by omega) ?_
      obtain ⟨s, es⟩ : ∃ s, s = wr (wr z 23 left (rd q 23 k)) 24 left (rd q 24 k) := ⟨_, rfl⟩
      rw [← es]
      have s23 : rd s 23 left = rd q 23 k := by rw [es, rd_wr_j (by decide), rd_wr_eq]
      have s24 : rd s 24 left = rd q 24 k := by rw [es, rd_wr_eq]
      have o23 : ∀ i : Int, 0 ≤ i → i ≠ left → rd s 23 i = rd z 23 i := fun i p1 p2 => by rw [es, rd_wr_j (by decide), rd_wr_ne l1 p1 p2]
      have o24 : ∀ i : Int, 0 ≤ i → i ≠ left → rd s 24 i = rd z 24 i := fun i p1 p2 => by rw [es, rd_wr_ne l1 p1 p2, rd_wr_j (by decide)]
      refine wp_let (wp_let (ih (left + 1) (k + 1) s ⟨fun k => by rw [es]; exact z1 k, fun j i p1 p2 => by rw [es, rd_wr_j p2, rd_wr_j p1]; exact zj j i p1 p2, ⟨⟨by omega, by omega⟩, by omega⟩, fun i p => ?_, fun i p1 p2 => ?_, fun i0 p1 p2 p3 => ?_, fun i j p1 p2 p3 => ?_⟩ (by omega)))
      · rw [o23 i (by omega) (by omega), o24 i (by omega) (by omega)]
        exact zr i (by omega)
      · by_cases hi : i = left
        · rw [hi]
          exact ⟨k, k1, by omega, s23, s24, hkp⟩
        · obtain ⟨i0, a1, a2, a3, a4, a5⟩ := F1 i p1 (by omega)
          rw [o23 i p1 hi, o24 i p1 hi]
          exact ⟨i0, a1, by omega, a3, a4, a5⟩
      · by_cases hi : i0 = k
        · rw [hi]
          exact ⟨left, l1, by omega, s23, s24⟩
        · obtain ⟨i, a1, a2, a3, a4⟩ := F2 i0 p1 (by omega) p3
          refine ⟨i, a1, by omega, ?_, ?_⟩
          · rw [o23 i a1 (by omega)]; exact a3
          · rw [o24 i a1 (by omega)]; exact a4
      · rw [o23 i p1 (by omega), o24 i p1 (by omega)]
        by_cases hj : j = left
        · rw [hj, s23, s24]
          obtain ⟨i0, a1, a2, a3, a4, a5⟩ := F1 i p1 (by omega)
          rw [a3, a4]
          exact hs i0 k a1 a2 hd
        · rw [o23 j (by omega) hj, o24 j (by omega) hj]
          exact F3 i j p1 p2 (by omega)
    refine wp_lt (by omega) (by omega) (by omega) (by omega) (fun p => keep (by omega)) (fun p => ?_)
    refine wp_ld k1 (by omega) ?_
    rw [zk.2]
    refine wp_lt (by omega) (by omega) (by omega) (by omega) (fun p2 => keep (by omega)) (fun p2 => ?_)
    refine wp_let (ih left (k + 1) z ⟨z1, zj, ⟨⟨by omega, by omega⟩, by omega⟩, fun i p => zr i (by omega), fun i q1 q2 => ?_, fun i0 q1 q2 q3 => ?_, F3⟩ (by omega))
    · obtain ⟨i0, a1, a2, a3⟩ := F1 i q1 q2
      exact ⟨i0, a1, by omega, a3⟩
    · by_cases hi : i0 = k
      · rw [hi] at q3
        exact absurd ⟨p, p2⟩ q3
      · exact F2 i0 q1 (by omega) q3
theorem sY_p218 {left l : Int} (hn : 0 ≤ left ∧ left < 1200) (hr : ∀ k : Int, 0 ≤ k → k < left → 0 ≤ rd q 23 k ∧ rd q 23 k ≤ 5000) (hl : 0 ≤ l ∧ l ≤ 5000) {K : Int → XS → XR}
    (h : ∀ (q' : XS) (k : Int), (∀ k : Nat, q'.1 k = q.1 k) → (∀ (j : Nat) (i : Int), j ≠ 23 → j ≠ 24 → rd q' j i = rd q j i) → (0 ≤ k ∧ k ≤ left) → (k = 0 ∨ rd q 23 (k - 1) ≤ l) → (∀ i : Int, 0 ≤ i → i < k → rd q' 23 i = rd q 23 i ∧ rd q' 24 i = rd q 24 i) → (∀ i : Int, k ≤ i → i < left → (rd q' 23 (i + 1) = rd q 23 i ∧ rd q' 24 (i + 1) = rd q 24 i) ∧ l < rd q 23 i) → wp (K k q') P) : wp (x_loop1 (b_X7_pairsOf_218 K l) x_fuel left q) P := by
  refine wp_loop1 (fun k z => (∀ k : Nat, z.1 k = q.1 k) ∧ (∀ (j : Nat) (i : Int), j ≠ 23 → j ≠ 24 → rd z j i = rd q j i) ∧ (0 ≤ k ∧ k ≤ left) ∧ (∀ i : Int, 0 ≤ i → i < k → rd z 23 i = rd q 23 i ∧ rd z 24 i = rd q 24 i) ∧ (∀ i : Int, k ≤ i → i < left → (rd z 23 (i + 1) = rd q 23 i ∧ rd z 24 (i + 1) = rd q 24 i) ∧ l < rd q 23 i)) (fun k _ => k.toNat) (fun g k z hJ ih => ?_) x_fuel left q ⟨fun _ => rfl, fun _ _ _ _ => rfl, ⟨by omega, by omega⟩, fun _ _ _ => ⟨rfl, rfl⟩, fun i p1 p2 => absurd p2 (by omega)⟩ (fu (by omega))
  obtain ⟨z1, zj, ⟨k1, k2⟩, za, zb⟩ := hJ
  unfold b_X7_pairsOf_218
  refine wp_le (by omega) (by omega) (by omega) (by omega) (fun p => h z k z1 zj ⟨k1, k2⟩ (Or.inl (by omega)) za zb) (fun p => ?_)
  have hk := hr (k - 1) (by omega) (by omega)
  have zk := za (k - 1) (by omega) (by omega)
  refine wp_ld (by omega) (by omega) ?_
  rw [zk.1]
  refine wp_le (by omega) (by omega) (by omega) (by omega) (fun p2 => h z k z1 zj ⟨k1, k2⟩ (Or.inr p2) za zb) (fun p2 => ?_)
  refine wp_ld (by omega) (by omega) ?_
  rw [zk.1]
  refine wp_st k1 (by omega) ?_
  refine wp_ld (by omega) (by omega) ?_
  rw [rd_wr_j (by decide), zk.2]
  refine wp_st k1 (by omega) ?_
  obtain ⟨s, es⟩ : ∃ s, s = wr (wr z 23 k (rd q 23 (k - 1))) 24 k (rd q 24 (k - 1)) := ⟨_, rfl⟩
  rw [← es]
  have s23 : rd s 23 k = rd q 23 (k - 1) := by rw [es, rd_wr_j (by decide), rd_wr_eq]
  have s24 : rd s 24 k = rd q 24 (k - 1) := by rw [es, rd_wr_eq]
  have o23 : ∀ i : Int, 0 ≤ i → i ≠ k → rd s 23 i = rd z 23 i := fun i p1 p2 => by rw [es, rd_wr_j (by decide), rd_wr_ne k1 p1 p2]
  have o24 : ∀ i : Int, 0 ≤ i → i ≠ k → rd s 24 i = rd z 24 i := fun i p1 p2 => by rw [es, rd_wr_ne k1 p1 p2, rd_wr_j (by decide)]
  refine wp_let (ih (k + -1) s ⟨fun k => by rw [es]; exact z1 k, fun j i p1 p2 => by rw [es, rd_wr_j p2, rd_wr_j p1]; exact zj j i p1 p2, ⟨by omega, by omega⟩, fun i p3 p4 => ?_, fun i p3 p4 => ?_⟩ (by omega))
  · rw [o23 i p3 (by omega), o24 i p3 (by omega)]
    exact za i p3 (by omega)
  · by_cases hi : i = k - 1
    · rw [hi, show k - 1 + 1 = k by omega]
      exact ⟨⟨s23, s24⟩, p2⟩
    · rw [o23 (i + 1) (by omega) (by omega), o24 (i + 1) (by omega) (by omega)]
      exact zb i (by omega) p4
theorem sY_pairsOf (hI : Inv x y) {v : Int} (h0 : 0 ≤ v) (h1 : v ≤ y.1 5) (hcw : cw y v.toNat (-1) a 0 Bf Cf) (ga : rg a) (gb : rg b) {u : XS} (hu : ∀ k : Nat, 2 ≤ k → k ≠ 7 → u.1 k = y.1 k) (huj : ∀ (j : Nat) (i : Int), j ≤ 12 → rd u j i = rd y j i)
    (h : ∀ (q : XS) (n : Int), (∀ k : Nat, k ≠ 7 → q.1 k = u.1 k) → (∀ (j : Nat) (i : Int), (j ≤ 12 ∨ j = 22) → rd q j i = rd u j i) → (0 ≤ n ∧ n ≤ 1200) → pr (pT y v.toNat Bf b) n (fun k => rd q 23 k) (fun k => rd q 24 k) → P n q) : wp (f_X7_pairsOf u a b v) P := by
  have hv : ((v.toNat : Nat) : Int) ≤ y.1 5 := by omega
  unfold f_X7_pairsOf
  refine sY_lg hI hu huj h0 h1 (rg_lit (by omega) (by omega)) ga (rg_lit (by omega) (by omega)) hcw (fun t t1 tj R => ?_)
  have hm := R.1
  have at_ := fun (s : Int) (h0 : 0 ≤ s) (h1 : s < t.1 7) => rY_at hI hv hcw R h0 h1
  refine wp_jp ?_
  refine wp_loop2 (fun n s q => (∀ k : Nat, q.1 k = t.1 k) ∧ (∀ (j : Nat) (i : Int), j ≠ 23 → j ≠ 24 → rd q j i = rd t j i) ∧ (0 ≤ s ∧ s ≤ t.1 7) ∧ (0 ≤ n ∧ n ≤ s) ∧ pr (fun L C => ∃ s' : Int, (0 ≤ s' ∧ s' < s) ∧ rd t 21 s' = 1 ∧ rd y 3 (rd t 15 s') = b ∧ rd t 19 s' = L ∧ rd t 18 s' = C) n (fun k => rd q 23 k) (fun k => rd q 24 k)) (fun _ s _ => (t.1 7 - s).toNat) (fun g n s q hJ ih => ?_) x_fuel 0 0 t ⟨fun _ => rfl, fun _ _ _ _ => rfl, ⟨by omega, by omega⟩, ⟨by omega, by omega⟩, fun k p1 p2 => absurd p2 (by omega), fun L C ⟨m', p1, p2⟩ => absurd p1 (by omega), fun i j p1 p2 p3 => absurd p3 (by omega)⟩ (fu (by omega))
  obtain ⟨q1, qj, ⟨s1, s2⟩, ⟨n1, n2⟩, hp⟩ := hJ
  unfold b_X7_pairsOf_18
  rw [q1 7]
  refine wp_le (by omega) (by omega) (by omega) (by omega) (fun hd => ?_) (fun hd => ?_)
  · have es : s = t.1 7 := by omega
    refine wp_ret (h q n (fun k p => (q1 k).trans (t1 k p)) (fun j i p => (qj j i (by omega) (by omega)).trans (tj j i (by omega))) ⟨n1, by omega⟩ (pr_cg hp (fun L C => ⟨?_, ?_⟩)))
    · rintro ⟨s', p1, p2, p3, p4, p5⟩
      have hs := at_ s' p1.1 (by omega)
      exact ⟨rd t 15 s', rd t 16 s', by omega, p3, by omega, by omega⟩
    · rintro ⟨l, r, p1, p2, p3, p4⟩
      obtain ⟨s', b1, b2, b3, b4⟩ := R.2.2.2 l r (cw_Sr hcw (Or.inl p1))
      have hs := at_ s' b1 b2
      rw [b3, b4] at hs
      exact ⟨s', ⟨b1, by omega⟩, by omega, by rw [b3]; exact p2, by omega, by omega⟩
  · have hs := at_ s s1 hd
    refine wp_ld s1 (by omega) ?_
    rw [qj 21 _ (by decide) (by decide)]
    refine wp_jp ?_
    have skip : ¬ (rd t 21 s = 1 ∧ rd y 3 (rd t 15 s) = b) → wp (x_let (s + 1) (fun v16 => g n v16 q)) P := by
      intro hno
      refine wp_let (ih n (s + 1) q ⟨q1, qj, ⟨by omega, by omega⟩, ⟨n1, by omega⟩, pr_cg hp (fun L C => ⟨?_, ?_⟩)⟩ (by omega))
      · rintro ⟨s', p1, p2⟩
        exact ⟨s', ⟨p1.1, by omega⟩, p2⟩
      · rintro ⟨s', p1, p2, p3, p4⟩
        by_cases he : s' = s
        · rw [he] at p2 p3
          exact absurd ⟨p2, p3⟩ hno
        · exact ⟨s', ⟨p1.1, by omega⟩, p2, p3, p4⟩
    refine wp_eq (by omega) (by omega) (by omega) (by omega) (fun p => skip (fun p' => by omega)) (fun p => ?_)
    refine wp_ld s1 (by omega) ?_
    rw [qj 15 _ (by decide) (by decide)]
    refine wp_ld hs.2.1.1 (by omega) ?_
    rw [qj 3 _ (by decide) (by decide), hs.2.2.2.1]
    refine wp_eq (by omega) (by omega) gb.1 gb.2 (fun p2 => ?_) (fun p2 => skip (fun p' => p2 p'.2))
    refine wp_ld s1 (by omega) ?_
    rw [qj 19 _ (by decide) (by decide)]
    refine wp_ld s1 (by omega) ?_
    rw [qj 18 _ (by decide) (by decide)]
    have h21 : rd t 21 s = 1 := by omega
    have hl : 0 ≤ rd t 19 s ∧ rd t 19 s ≤ 5000 := by omega
    have hc : 0 ≤ rd t 18 s ∧ rd t 18 s ≤ 5000 := by omega
    obtain ⟨l, el⟩ : ∃ l, l = rd t 19 s := ⟨_, rfl⟩
    obtain ⟨c, ec⟩ : ∃ c, c = rd t 18 s := ⟨_, rfl⟩
    rw [← el] at hl ⊢
    rw [← ec] at hc ⊢
    have hT : ∀ L C : Int, (∃ s' : Int, (0 ≤ s' ∧ s' < s + 1) ∧ rd t 21 s' = 1 ∧ rd y 3 (rd t 15 s') = b ∧ rd t 19 s' = L ∧ rd t 18 s' = C) ↔ ((∃ s' : Int, (0 ≤ s' ∧ s' < s) ∧ rd t 21 s' = 1 ∧ rd y 3 (rd t 15 s') = b ∧ rd t 19 s' = L ∧ rd t 18 s' = C) ∨ (L = l ∧ C = c)) := by
      intro L C
      constructor
      · rintro ⟨s', p1, p2, p3, p4, p5⟩
        by_cases he : s' = s
        · rw [he] at p4 p5
          exact Or.inr ⟨by omega, by omega⟩
        · exact Or.inl ⟨s', ⟨p1.1, by omega⟩, p2, p3, p4, p5⟩
      · rintro (⟨s', p1, p3⟩ | ⟨p3, p4⟩)
        · exact ⟨s', ⟨p1.1, by omega⟩, p3⟩
        · exact ⟨s, ⟨s1, by omega⟩, h21, p2, by omega, by omega⟩
    have hr : ∀ k : Int, 0 ≤ k → k < n → (0 ≤ rd q 23 k ∧ rd q 23 k ≤ 5000) ∧ (0 ≤ rd q 24 k ∧ rd q 24 k ≤ 5000) := by
      intro k p3 p4
      obtain ⟨s', c1, c2, c3, c4, c5⟩ := hp.1 k p3 p4
      have hs' := at_ s' c1.1 (by omega)
      have c4 : rd t 19 s' = rd q 23 k := c4
      have c5 : rd t 18 s' = rd q 24 k := c5
      omega
    refine wp_jp ?_
    refine sY_p80 ⟨n1, by omega⟩ hr hl hc (fun hbt => ?_) (fun hnb => ?_)
    · refine wp_e1 ?_
      refine wp_let (ih n (s + 1) q ⟨q1, qj, ⟨by omega, by omega⟩, ⟨n1, by omega⟩, pr_skip hp (fun L C hLC => (hT L C).mpr (Or.inl hLC)) (fun L C hLC => ?_)⟩ (by omega))
      rcases (hT L C).mp hLC with e | ⟨e1, e2⟩
      · exact Or.inl e
      · obtain ⟨k, b1, b2, b3, b4⟩ := hbt
        refine Or.inr ⟨k, b1, b2, ?_, ?_⟩
        · show L ≤ rd q 23 k
          omega
        · show rd q 24 k ≤ C
          omega
    · refine wp_e0 ?_
      refine wp_jp ?_
      refine sY_p143 ⟨n1, by omega⟩ hr hp.2.2 hl hc (fun d left d1 dj hleft F1 F2 F3 => ?_)
      refine wp_jp ?_
      have hrd : ∀ k : Int, 0 ≤ k → k < left → 0 ≤ rd d 23 k ∧ rd d 23 k ≤ 5000 := by
        intro k p3 p4
        obtain ⟨i0, c1, c2, c3, -, -⟩ := F1 k p3 p4
        have := (hr i0 c1 c2).1
        omega
      refine sY_p218 ⟨hleft.1, by omega⟩ hrd hl (fun e k e1 ej hk hk1 ea eb => ?_)
      refine wp_st hk.1 (by omega) ?_
      refine wp_st hk.1 (by omega) ?_
      obtain ⟨r, er⟩ : ∃ r, r = wr (wr e 23 k l) 24 k c := ⟨_, rfl⟩
      rw [← er]
      have r23 : rd r 23 k = l := by rw [er, rd_wr_j (by decide), rd_wr_eq]
      have r24 : rd r 24 k = c := by rw [er, rd_wr_eq]
      have o23 : ∀ i : Int, 0 ≤ i → i ≠ k → rd r 23 i = rd e 23 i := fun i p1 p2 => by rw [er, rd_wr_j (by decide), rd_wr_ne hk.1 p1 p2]
      have o24 : ∀ i : Int, 0 ≤ i → i ≠ k → rd r 24 i = rd e 24 i := fun i p1 p2 => by rw [er, rd_wr_ne hk.1 p1 p2, rd_wr_j (by decide)]
      refine wp_let (wp_let (ih (left + 1) (s + 1) r ⟨fun k => by rw [er]; exact (e1 k).trans ((d1 k).trans (q1 k)), fun j i p1 p2 => by rw [er, rd_wr_j p2, rd_wr_j p1, ej j i p1 p2, dj j i p1 p2]; exact qj j i p1 p2, ⟨by omega, by omega⟩, ⟨by omega, by omega⟩, pr_ins (p1 := fun i => rd d 23 i) (c1 := fun i => rd d 24 i) hp hT hnb F1 F2 F3 hk hk1 (fun i p1 p2 => (eb i p1 p2).2) (fun i p1 p2 => ?_) ⟨r23, r24⟩ (fun i p1 p2 => ?_)⟩ (by omega)))
      · show rd r 23 i = rd d 23 i ∧ rd r 24 i = rd d 24 i
        rw [o23 i p1 (by omega), o24 i p1 (by omega)]
        exact ea i p1 p2
      · show rd r 23 (i + 1) = rd d 23 i ∧ rd r 24 (i + 1) = rd d 24 i
        rw [o23 (i + 1) (by omega) (by omega), o24 (i + 1) (by omega) (by omega)]
        exact (eb i p1 p2).1
theorem ok_pairs (w1 w2 w3 : Int) (g1 : rg w1) (g2 : rg w2) (g3 : rg w3) : stepOK Inv (fun x => f_X6_pairs x w1 w2 w3) (fun y => f_X7_pairs y w1 w2 w3) := by
  refine stepOK_of (fun x y hI => ?_)
  refine q_way hI g1 g2 (rg_lit (by omega) (by omega)) (rg_lit (by omega) (by omega)) g3 (fun ha hb hab h3 _ h4 => ?_)
  have hn24 := hI.1.2.1
  have hv : ((w3.toNat : Nat) : Int) ≤ y.1 5 := by omega
  obtain ⟨Bf, Cf, hcw⟩ := cw_ex (v := w3.toNat) (w := -1) (a := w1) (tick := 0) hI hv (rg_lit (by omega) (by omega)) g1 (rg_lit (by omega) (by omega))
  refine wp_call (sX_explore hI h4.1 h4.2 g1 (rg_lit (by omega) (by omega)) hcw (Or.inl ⟨rfl, rfl⟩) (fun t ht ht10 htv htw => ?_))
  refine wp_call (sX_findBestPairs ht hv htv htw (cw_fB ht hv hcw) ⟨hb.1, by omega⟩ (fun z n z1 zj hn hn3 hp => ?_))
  have hzI : Inv z y := Inv_ex ht ⟨fun k _ _ _ => z1 k, fun j i _ _ _ _ => zj j i (by omega)⟩ (exY.rf y) (by
    have hst := ht.2.2.2.2.1
    unfold iSta at hst ⊢
    rw [z1 1]
    exact hst)
  refine wp_call (sX_answer (wp_ret ?_))
  refine wp_call (sY_pairsOf hI h4.1 h4.2 hcw g1 g2 (u := y00 y) (fun k p _ => by unfold y00; simp (disch := omega) only [rd_wr_eq, rd_wr_ne, rd_wr_j, rd_ps, wr_1, ps_eq, ps_ne]) (fun _ _ _ => rfl) (fun q n' q1 qj hn' hp' => ?_))
  exact wp_ret ⟨pr_n hp hp' hn.1 hn'.1, Inv_fin hzI ((y00_ex y).tr ⟨fun k p1 p2 p3 => q1 k p3, fun j i p => qj j i p⟩) (q1 0 (by decide)) (by decide) (by decide)⟩
theorem ok_pair (w1 w2 w3 w4 w5 : Int) (g1 : rg w1) (g2 : rg w2) (g3 : rg w3) (g4 : rg w4) (g5 : w5 = 0 ∨ w5 = 1) : stepOK Inv (fun x => f_X6_pair x w1 w2 w3 w4 w5) (fun y => f_X7_pair y w1 w2 w3 w4 w5) := by
  refine stepOK_of (fun x y hI => ?_)
  refine q_way hI g1 g2 (rg_lit (by omega) (by omega)) (rg_lit (by omega) (by omega)) g3 (fun ha hb hab h3 _ h4 => ?_)
  have hn24 := hI.1.2.1
  have hv : ((w3.toNat : Nat) : Int) ≤ y.1 5 := by omega
  obtain ⟨Bf, Cf, hcw⟩ := cw_ex (v := w3.toNat) (w := -1) (a := w1) (tick := 0) hI hv (rg_lit (by omega) (by omega)) g1 (rg_lit (by omega) (by omega))
  refine wp_call (sX_explore hI h4.1 h4.2 g1 (rg_lit (by omega) (by omega)) hcw (Or.inl ⟨rfl, rfl⟩) (fun t ht ht10 htv htw => ?_))
  refine wp_call (sX_findBestPairs ht hv htv htw (cw_fB ht hv hcw) ⟨hb.1, by omega⟩ (fun z n z1 zj hn hn3 hp => ?_))
  have hzI : Inv z y := Inv_ex ht ⟨fun k _ _ _ => z1 k, fun j i _ _ _ _ => zj j i (by omega)⟩ (exY.rf y) (by
    have hst := ht.2.2.2.2.1
    unfold iSta at hst ⊢
    rw [z1 1]
    exact hst)
  have refu : ∀ q : XS, exY y q → wp (x_call (f_X7_refuse q 7) (fun r7 x8 => some (r7, x8))) (fun r' y' => -1 = r' ∧ Inv (xpS z 1 7) y') := fun q hq => wp_call (sY_refuse (wp_ret ⟨rfl, Inv_fin hzI (hq.tr (exY.ps q 0 7 (by omega))) ps_eq (by decide) (by decide)⟩))
  refine wp_call (sX_isBetween g4 (rg_lit (by omega) (by omega)) (rg_lit (by omega) (by omega)) (fun k1 k2 => ?_) (fun k1 => ?_))
  · refine wp_e1 ?_
    refine wp_jp ?_
    have yg : ∀ f : Int, ((w5 = 0 ∧ f = rd z 28 (rd z 33 w4)) ∨ (w5 = 1 ∧ f = rd z 22 (rd z 33 w4))) → wp (x_jp (fun (x6 : XS) => x_call (f_X7_refuse x6 7) (fun r7 x8 => some (r7, x8))) (fun jp5 => x_lt w4 0 (jp5 (y00 y)) (x_call (f_X7_pairsOf (y00 y) w1 w2 w3) (fun r9 x10 => x_lt w4 r9 (x_eq w5 0 (x_ld (x10.2 23) 1200 w4 (fun v11 => some (v11, x10))) (x_ld (x10.2 24) 1200 w4 (fun v12 => some (v12, x10)))) (jp5 x10))))) (fun r' y' => f = r' ∧ Inv (xpS z 1 0) y') := by
      intro f hf
      refine wp_jp ?_
      refine wp_lt g4.1 g4.2 (by omega) (by omega) (fun p => absurd p (by omega)) (fun _ => ?_)
      refine wp_call (sY_pairsOf hI h4.1 h4.2 hcw g1 g2 (u := y00 y) (fun k p _ => by unfold y00; simp (disch := omega) only [rd_wr_eq, rd_wr_ne, rd_wr_j, rd_ps, wr_1, ps_eq, ps_ne]) (fun _ _ _ => rfl) (fun q n' q1 qj hn' hp' => ?_))
      have en := pr_n hp hp' hn.1 hn'.1
      have ea := pr_at hp hp' k1 (by omega)
      have hfin : Inv (xpS z 1 0) q := Inv_fin hzI ((y00_ex y).tr ⟨fun k p1 p2 p3 => q1 k p3, fun j i p => qj j i p⟩) (q1 0 (by decide)) (by decide) (by decide)
      have ea1 : rd q 23 w4 = rd z 28 (rd z 33 w4) := ea.2.1
      have ea2 : rd q 24 w4 = rd z 22 (rd z 33 w4) := ea.2.2
      refine wp_lt g4.1 g4.2 (by omega) (by omega) (fun _ => ?_) (fun p => absurd p (by omega))
      rcases hf with ⟨h5, hf⟩ | ⟨h5, hf⟩
      · rw [h5]
        refine wp_e0 ?_
        refine wp_ld k1 (by omega) (wp_ret ⟨by omega, hfin⟩)
      · rw [h5]
        refine wp_e1 ?_
        refine wp_ld k1 (by omega) (wp_ret ⟨by omega, hfin⟩)
    have hi := hn3 w4 k1 (by omega)
    rcases g5 with g5 | g5
    · have := yg _ (Or.inl ⟨g5, rfl⟩)
      rw [g5] at this ⊢
      refine wp_e0 ?_
      exact wp_call (sX_pairLeaving ⟨k1, by omega⟩ hi (wp_call (sX_answer (wp_ret this))))
    · have := yg _ (Or.inr ⟨g5, rfl⟩)
      rw [g5] at this ⊢
      refine wp_e1 ?_
      exact wp_call (sX_pairComing ⟨k1, by omega⟩ hi (wp_call (sX_answer (wp_ret this))))
  · refine wp_e0 ?_
    refine wp_call (sX_refuse (wp_ret ?_))
    refine wp_jp ?_
    refine wp_lt g4.1 g4.2 (by omega) (by omega) (fun p => refu _ (y00_ex y)) (fun p => ?_)
    refine wp_call (sY_pairsOf hI h4.1 h4.2 hcw g1 g2 (u := y00 y) (fun k p _ => by unfold y00; simp (disch := omega) only [rd_wr_eq, rd_wr_ne, rd_wr_j, rd_ps, wr_1, ps_eq, ps_ne]) (fun _ _ _ => rfl) (fun q n' q1 qj hn' hp' => ?_))
    have en := pr_n hp hp' hn.1 hn'.1
    exact wp_lt g4.1 g4.2 (by omega) (by omega) (fun p2 => absurd p2 (by omega)) (fun _ => refu q ((y00_ex y).tr ⟨fun k p1 p2 p3 => q1 k p3, fun j i p => qj j i p⟩))
end PY
