/-- what replay made, kept while the runs are timed -/
def rq (x0 x y : XS) (v : Nat) : Prop := (∀ k : Nat, k ≠ 7 → k ≠ 8 → k ≠ 9 → x.1 k = x0.1 k) ∧ (∀ (j : Nat) (i : Int), (j ≤ 16 ∨ 27 < j) → rd x j i = rd x0 j i) ∧ x.1 8 = nput y v ∧ x.1 7 = nclo y v ∧
  (∀ l : Int, 0 ≤ l → l < y.1 3 → rd x 17 l = skd y l v) ∧ (∀ l r : Int, 0 ≤ l → l < y.1 3 → 0 ≤ r → r < rd y 7 l → rd x 19 (bs y l.toNat + r) = late y l r v) ∧
  (∀ k : Int, 0 ≤ k → k < nclo y v → 0 ≤ rd x 18 k ∧ rd x 18 k < v ∧ rd y 9 (rd x 18 k) = 3) ∧ (∀ d : Int, 0 ≤ d → d < v → rd y 9 d = 3 → ∃ k : Int, 0 ≤ k ∧ k < nclo y v ∧ rd x 18 k = d)
theorem rp_rq {x0 x y : XS} {v : Nat} (h : rp x0 x y v) : rq x0 x y v :=
  ⟨fun k a b _ => h.1 k a b, fun j i a => h.2.1 j i (by omega) (by omega) (by omega), h.2.2.1, h.2.2.2.1, h.2.2.2.2.1, h.2.2.2.2.2.1, h.2.2.2.2.2.2.1, h.2.2.2.2.2.2.2⟩
/-- rq speaks of rows up to 19, and those behind 27 -/
theorem rq_keep {x0 x x' y : XS} {v : Nat} (h : rq x0 x y v) (h1 : ∀ k : Nat, k ≠ 9 → x'.1 k = x.1 k) (h2 : ∀ (j : Nat) (i : Int), (j ≤ 19 ∨ 27 < j) → rd x' j i = rd x j i) : rq x0 x' y v := by
  obtain ⟨r1, r2, r3, r4, r5, r6, r7, r8⟩ := h
  refine ⟨fun k a b c => (h1 k c).trans (r1 k a b c), fun j i a => (h2 j i (by omega)).trans (r2 j i a), (h1 8 (by decide)).trans r3, (h1 7 (by decide)).trans r4, fun l a b => (h2 17 l (by omega)).trans (r5 l a b), fun l r a b c d => (h2 19 _ (by omega)).trans (r6 l r a b c d), fun k a b => ?_, fun d a b c => ?_⟩
  · rw [h2 18 k (by omega)]; exact r7 k a b
  · obtain ⟨k, q1, q2, q3⟩ := r8 d a b c
    exact ⟨k, q1, q2, by rw [h2 18 k (by omega)]; exact q3⟩
theorem sX_isClosed {P : Int → XS → Prop} {x0 x y : XS} {v : Nat} (hI : Inv x0 y) (hv : (v : Int) ≤ y.1 5) (hr : rq x0 x y v) {n t : Int} (gn : rg n) (gt : rg t) (h : P (clo y n t v) x) : wp (f_X5_isClosed x n t) P := by
  obtain ⟨r1, r2, r3, r4, r5, r6, r7, r8⟩ := hr
  have hnc := inv_nc hI hv
  have hle := hI.2.2.1.2.1
  unfold f_X5_isClosed
  refine wp_jp ?_
  refine wp_loop1 (fun i z => z = x ∧ 0 ≤ i ∧ i ≤ nclo y v ∧ ∀ k : Int, 0 ≤ k → k < i → ¬ (rd y 10 (rd x 18 k) = n ∧ rd y 11 (rd x 18 k) ≤ t ∧ t ≤ rd y 12 (rd x 18 k))) (fun i _ => (nclo y v - i).toNat) (fun g i z hJ ih => ?_) x_fuel 0 x ⟨rfl, by omega, by omega, fun k a b => absurd b (by omega)⟩ (fu (by omega))
  obtain ⟨rfl, i1, i2, i3⟩ := hJ
  unfold b_X5_isClosed_2
  refine wp_le (by omega) (by omega) (by omega) (by omega) (fun hc => ?_) (fun hc => ?_)
  · have : clo y n t v = 0 := by
      rcases clo_01 y n t v with h | h
      · exact h
      · obtain ⟨c, c1, c2, c3⟩ := (clo_iff y n t v).mp h
        obtain ⟨k, q1, q2, q3⟩ := r8 c (by omega) (by omega) c2
        exact absurd (by rw [q3]; exact c3) (i3 k q1 (by omega))
    rw [this] at h
    exact wp_ret h
  · obtain ⟨q1, q2, q3⟩ := r7 i i1 (by omega)
    obtain ⟨c, ec⟩ : ∃ c, c = rd z 18 i := ⟨_, rfl⟩
    rw [← ec] at q1 q2 q3
    have hlg := hI.2.2.1.2.2.2.2.2.2.2.1 c q1 (by omega)
    have hlr := inv_lg hI (c := c) q1 (by omega)
    have e : rd x0 14 c = rd y 10 c ∧ rd x0 15 c = rd y 11 c ∧ rd x0 16 c = rd y 12 c := by
      obtain ⟨-, q | q | q | q⟩ := hlg
      · omega
      · omega
      · omega
      · exact ⟨q.2.1, q.2.2.1, q.2.2.2.1⟩
    refine wp_ld (by omega) (by omega) ?_
    rw [← ec]
    have e14 : rd z 14 c = rd y 10 c := by rw [r2 14 c (by omega)]; exact e.1
    have e15 : rd z 15 c = rd y 11 c := by rw [r2 15 c (by omega)]; exact e.2.1
    have e16 : rd z 16 c = rd y 12 c := by rw [r2 16 c (by omega)]; exact e.2.2
    have hno : ¬ (rd y 10 c = n ∧ rd y 11 c ≤ t ∧ t ≤ rd y 12 c) → wp (x_eq 0 0 (x_let (i + 1) (fun v9 => g v9 z)) (some (1, z))) P := by
      intro hn
      refine wp_e0 ?_
      refine wp_let (ih (i + 1) z ⟨rfl, by omega, by omega, fun k a b => ?_⟩ (by omega))
      by_cases hk : k = i
      · rw [hk, ← ec]; exact hn
      · exact i3 k a (by omega)
    refine wp_call ?_
    unfold f_X1_isClosing
    refine wp_ld (by omega) (by omega) ?_
    rw [e14]
    refine wp_eq (by omega) (by omega) gn.1 gn.2 (fun n1 => ?_) (fun n1 => wp_ret (hno (by omega)))
    refine wp_ld (by omega) (by omega) ?_
    rw [e15]
    refine wp_lt gt.1 gt.2 (by omega) (by omega) (fun n2 => wp_ret (hno (by omega))) (fun n2 => ?_)
    refine wp_ld (by omega) (by omega) ?_
    rw [e16]
    refine wp_lt (by omega) (by omega) gt.1 gt.2 (fun n3 => wp_ret (hno (by omega))) (fun n3 => wp_ret ?_)
    refine wp_e1 ?_
    have : clo y n t v = 1 := (clo_iff y n t v).mpr ⟨c.toNat, by omega, by rw [show ((c.toNat : Nat) : Int) = c by omega]; exact ⟨q3, n1, n2, n3⟩⟩
    rw [this] at h
    exact wp_ret h
theorem late_rg {x y : XS} (hI : Inv x y) (l r : Int) : ∀ v : Nat, (v : Int) ≤ y.1 5 → 0 ≤ late y l r v ∧ late y l r v ≤ 5000
  | 0, _ => ⟨Int.le_refl 0, by show (0 : Int) ≤ 5000; decide⟩
  | v + 1, hv => by
    have ih := late_rg hI l r v (by omega)
    have hlr := inv_lg hI (c := (v : Int)) (by omega) (by omega)
    unfold late
    split
    · omega
    · exact ih
theorem lv_rg {x y : XS} (hI : Inv x y) {v : Nat} (hv : (v : Int) ≤ y.1 5) {l r : Int} (h0 : 0 ≤ l) (h1 : l < y.1 3) (h2 : 0 ≤ r) (h3 : r < rd y 7 l) : 0 ≤ lv y v l r ∧ lv y v l r ≤ 50000 ∧ lv y v l r < cm y v l r ∧ cm y v l r ≤ 60000 ∧ 0 ≤ r * rd y 8 l ∧ r * rd y 8 l ≤ 30000 := by
  have hl := (hI.2.1.2.2.2.2.2.2 l h0 h1).2
  unfold lnOK at hl
  have hla := late_rg hI l r v hv
  have m1 : r * rd y 8 l ≤ 60 * 500 := Int.mul_le_mul (by omega) (by omega) (by omega) (by omega)
  have m2 : 0 ≤ r * rd y 8 l := Int.mul_nonneg h2 (by omega)
  unfold cm lv
  split <;> omega
theorem sX_planned {P : Int → XS → Prop} {x0 x y : XS} (hI : Inv x0 y) (he : ∀ (j : Nat) (i : Int), j ≤ 16 → rd x j i = rd x0 j i) {l r : Int} (h0 : 0 ≤ l) (h1 : l < y.1 3) (h2 : 0 ≤ r) (h3 : r < rd y 7 l) (h : P (rd y 5 l + (if rd y 4 l = 1 then r * rd y 8 l else r)) x) : wp (f_X0_plannedLeaving x l r) P := by
  obtain ⟨q1, q2⟩ := hI.2.1.2.2.2.2.2.2 l h0 h1
  have hln := hI.2.1.2.1
  unfold lnEQ at q1
  unfold lnOK at q2
  have e6 : rd x 6 l = rd y 4 l := by rw [he 6 l (by omega)]; exact q1.2.2.1
  have e7 : rd x 7 l = rd y 5 l := by rw [he 7 l (by omega)]; exact q1.2.2.2.1
  have e10 : rd x 10 l = rd y 8 l := by rw [he 10 l (by omega)]; exact q1.2.2.2.2.2.2.1
  unfold f_X0_plannedLeaving
  refine wp_ld (by omega) (by omega) ?_
  refine wp_jp ?_
  rw [e6]
  refine wp_eq (by omega) (by omega) (by omega) (by omega) (fun hk => ?_) (fun hk => ?_)
  · refine wp_ld (by omega) (by omega) ?_
    rw [e7]
    refine wp_ret ?_
    rw [if_neg (by omega)] at h
    rw [Int.mul_one]
    exact h
  · refine wp_ld (by omega) (by omega) ?_
    rw [e10]
    refine wp_ld (by omega) (by omega) ?_
    rw [e7]
    refine wp_ret ?_
    by_cases hk1 : rd y 4 l = 1
    · rw [if_pos hk1] at h
      exact h
    · rw [if_neg hk1] at h
      have hr0 : r = 0 := by omega
      rw [hr0, Int.zero_mul]
      rw [hr0] at h
      exact h
/-- processed: the lines ahead of l, and r runs of l -/
def dn (l r l' r' : Int) : Prop := l' < l ∨ (l' = l ∧ r' < r)
def tm (x0 x y : XS) (v : Nat) (l r : Int) : Prop := rq x0 x y v ∧
  (∀ l' r' : Int, 0 ≤ l' → l' < nput y v → 0 ≤ r' → r' < rd y 7 l' → dn l r l' r' → rd x 20 (bs y l'.toNat + r') = l' ∧ rd x 21 (bs y l'.toNat + r') = lv y v l' r' ∧ rd x 22 (bs y l'.toNat + r') = cm y v l' r' ∧ rd x 23 (bs y l'.toNat + r') = stB y v l' r' ∧ (stB y v l' r' = 1 → rd x 26 (bs y l'.toNat + r') = rd y 3 l' * 5001 + cm y v l' r')) ∧
  (x.1 9 = tot y v l.toNat + nst y v l r.toNat ∧ 0 ≤ x.1 9 ∧ x.1 9 ≤ bs y l.toNat + r) ∧
  (∀ i : Int, 0 ≤ i → i < x.1 9 → rd x 25 i = rd x 24 i ∧ ∃ l' r' : Int, 0 ≤ l' ∧ l' < nput y v ∧ 0 ≤ r' ∧ r' < rd y 7 l' ∧ dn l r l' r' ∧ stB y v l' r' = 1 ∧ rd x 24 i = bs y l'.toNat + r') ∧
  (∀ l' r' : Int, 0 ≤ l' → l' < nput y v → 0 ≤ r' → r' < rd y 7 l' → dn l r l' r' → stB y v l' r' = 1 → ∃ i : Int, 0 ≤ i ∧ i < x.1 9 ∧ rd x 24 i = bs y l'.toNat + r')
theorem stB_01 (y : XS) (v : Nat) (l r : Int) : stB y v l r = 0 ∨ stB y v l r = 1 := by
  unfold stB
  split
  · exact Or.inr rfl
  · exact Or.inl rfl
theorem nst_s {y : XS} {v : Nat} {l r : Int} (h : 0 ≤ r) : nst y v l (r + 1).toNat = nst y v l r.toNat + stB y v l r := by
  have e1 : (r + 1).toNat = r.toNat + 1 := by omega
  have e2 : ((r.toNat : Nat) : Int) = r := by omega
  rw [e1]
  show nst y v l r.toNat + stB y v l (r.toNat : Int) = _
  rw [e2]
