def kyY (t : XS) (s : Int) : Int := rd t 15 s * 100 + rd t 16 s
section WA
variable {P : Int → XS → Prop} {x y t z q : XS} {v : Nat} {w a tick b : Int} {Bf Cf : Int → Int → Int}
theorem sY_isLess {r s : Int} (hr : (0 ≤ r ∧ r < 1200) ∧ (0 ≤ rd q 15 r ∧ rd q 15 r < 100) ∧ (0 ≤ rd q 16 r ∧ rd q 16 r < 60)) (hs : s = -1 ∨ ((0 ≤ s ∧ s < 1200) ∧ (0 ≤ rd q 15 s ∧ rd q 15 s < 100) ∧ (0 ≤ rd q 16 s ∧ rd q 16 s < 60))) (h1 : (s ≠ -1 → kyY q r ≤ kyY q s) → P 1 q) (h0 : s ≠ -1 → kyY q s ≤ kyY q r → P 0 q) : wp (f_X7_isLess q r s) P := by
  unfold f_X7_isLess
  unfold kyY at h1 h0
  refine wp_jp ?_
  refine wp_lt (by omega) (by omega) (by omega) (by omega) (fun c => wp_ret (h1 (fun p => by omega))) (fun c => ?_)
  have hs' : (0 ≤ s ∧ s < 1200) ∧ (0 ≤ rd q 15 s ∧ rd q 15 s < 100) ∧ (0 ≤ rd q 16 s ∧ rd q 16 s < 60) := by
    rcases hs with e | e
    · omega
    · exact e
  refine wp_ld hr.1.1 (by omega) ?_
  refine wp_ld c (by omega) ?_
  refine wp_lt (by omega) (by omega) (by omega) (by omega) (fun c2 => wp_ret (h1 (fun p => by omega))) (fun c2 => ?_)
  refine wp_ld hr.1.1 (by omega) ?_
  refine wp_ld c (by omega) ?_
  refine wp_eq (by omega) (by omega) (by omega) (by omega) (fun c3 => ?_) (fun c3 => wp_ret (h0 (by omega) (by omega)))
  refine wp_ld hr.1.1 (by omega) ?_
  refine wp_ld c (by omega) ?_
  exact wp_le (by omega) (by omega) (by omega) (by omega) (fun c4 => wp_ret (h0 (by omega) (by omega))) (fun c4 => wp_ret (h1 (fun p => by omega)))
theorem Y_lst {S : Int → Prop} {T : Int → Int → Prop} {f : Int} (hI : Inv x y) (hv : (v : Int) ≤ y.1 5) (hcw : cw y v w a tick Bf Cf) (R : rY y t v w Bf Cf) (h1 : ∀ s : Int, 0 ≤ s → s < t.1 7 → (S s ↔ T (rd t 15 s) (rd t 16 s))) (h3 : ∀ l r : Int, T l r → Sr y v w l r) (hA : oA 0 (t.1 7) S (fun s => s) (kyY t) (-1) f) : (f = -1 ∧ ∀ l r : Int, ¬ T l r) ∨ ((0 ≤ f ∧ f < t.1 7) ∧ S f ∧ lst T (rd t 15 f) (rd t 16 f)) := by
  rcases hA with ⟨e1, e2⟩ | ⟨i, c1, c2, c3, c4, c5⟩
  · refine Or.inl ⟨e1, fun l r hT => ?_⟩
    obtain ⟨s, b1, b2, b3, b4⟩ := R.2.2.2 l r (h3 l r hT)
    exact e2 s b1 b2 ((h1 s b1 b2).mpr (by rw [b3, b4]; exact hT))
  · have c4 : i = f := c4
    subst c4
    refine Or.inr ⟨⟨c1, c2⟩, c3, (h1 i c1 c2).mp c3, fun l r hT => ?_⟩
    obtain ⟨s, b1, b2, b3, b4⟩ := R.2.2.2 l r (h3 l r hT)
    have := c5 s b1 b2 ((h1 s b1 b2).mpr (by rw [b3, b4]; exact hT))
    have hs := rY_at hI hv hcw R b1 b2
    have hi := rY_at hI hv hcw R c1 c2
    unfold kyY at this
    simp only [] at this
    rw [b3, b4] at this hs
    have h16 := hs.2.2.2.2.2.2.2
    have h16' := hi.2.2.2.2.2.2.2
    omega
theorem sY_ways29 (hI : Inv x y) (hv : (v : Int) ≤ y.1 5) (hcw : cw y v w a tick Bf Cf) (R : rY y t v w Bf Cf) (gb : rg b) {u : Int} (gu : rg u) {K : Int → XS → XR} (h : ∀ f : Int, oA 0 (t.1 7) (fun s => rd t 21 s = 1 ∧ rd y 3 (rd t 15 s) = b ∧ rd t 18 s = u) (fun s => rd t 20 s) idk 1000000 f → (f = 1000000 ∨ (1 ≤ f ∧ f ≤ 1200)) → wp (K f t) P) : wp (x_loop2 (b_X7_ways_29 K b u) x_fuel 1000000 0 t) P := by
  have hm := R.1
  have at_ := fun (s : Int) (h0 : 0 ≤ s) (h1 : s < t.1 7) => rY_at hI hv hcw R h0 h1
  refine wp_loop2 (fun f s z => z = t ∧ (0 ≤ s ∧ s ≤ t.1 7) ∧ (f = 1000000 ∨ (1 ≤ f ∧ f ≤ 1200)) ∧ oA 0 s (fun s => rd t 21 s = 1 ∧ rd y 3 (rd t 15 s) = b ∧ rd t 18 s = u) (fun s => rd t 20 s) idk 1000000 f) (fun _ s _ => (t.1 7 - s).toNat) (fun g f s z hJ ih => ?_) x_fuel _ _ t ⟨rfl, ⟨by omega, by omega⟩, Or.inl rfl, oA_ini⟩ (fu (by omega))
  obtain ⟨rfl, ⟨s1, s2⟩, s3, s4⟩ := hJ
  unfold b_X7_ways_29
  refine wp_le (by omega) (by omega) (by omega) (by omega) (fun hd => ?_) (fun hd => ?_)
  · have es : s = z.1 7 := by omega
    rw [es] at s4
    exact h f s4 s3
  · have hs := at_ s s1 hd
    refine wp_ld s1 (by omega) ?_
    refine wp_jp ?_
    have skip : ¬ (rd z 21 s = 1 ∧ rd y 3 (rd z 15 s) = b ∧ rd z 18 s = u) → wp (x_let (s + 1) (fun v12 => g f v12 z)) P := fun q => wp_let (ih f (s + 1) z ⟨rfl, ⟨by omega, by omega⟩, s3, oA_skip s4 q⟩ (by omega))
    refine wp_eq (by omega) (by omega) (by omega) (by omega) (fun q => skip (fun c => by omega)) (fun q => ?_)
    refine wp_ld s1 (by omega) ?_
    refine wp_ld hs.2.1.1 (by omega) ?_
    rw [hs.2.2.2.1]
    refine wp_eq (by omega) (by omega) gb.1 gb.2 (fun q2 => ?_) (fun q2 => skip (fun c => q2 c.2.1))
    refine wp_ld s1 (by omega) ?_
    refine wp_eq (by omega) (by omega) gu.1 gu.2 (fun q3 => ?_) (fun q3 => skip (fun c => q3 c.2.2))
    refine wp_ld s1 (by omega) ?_
    refine wp_min (by omega) (by omega) (by omega) (by omega) (fun n hn => ?_)
    refine wp_let ?_
    rcases hn with ⟨n1, n2⟩ | ⟨n1, n2⟩
    · rw [n2]
      exact ih _ (s + 1) z ⟨rfl, ⟨by omega, by omega⟩, by omega, oA_take (run := fun s => rd z 20 s) s4 s1 ⟨by omega, q2, q3⟩ (fun _ => by unfold idk; omega) (fun i c1 c2 c3 => by have := at_ i c1 (by omega); omega)⟩ (by omega)
    · rw [n2]
      exact ih _ (s + 1) z ⟨rfl, ⟨by omega, by omega⟩, s3, oA_keep s4 (by omega) n1⟩ (by omega)
theorem sY_ways102 (hI : Inv x y) (hv : (v : Int) ≤ y.1 5) (hcw : cw y v w a tick Bf Cf) (R : rY y t v w Bf Cf) (gb : rg b) {u n : Int} (gu : rg u) (gn : rg n) {K : Int → XS → XR} (h : ∀ f : Int, oA 0 (t.1 7) (fun s => rd t 21 s = 1 ∧ rd y 3 (rd t 15 s) = b ∧ rd t 18 s = u ∧ rd t 20 s = n) (fun s => s) (kyY t) (-1) f → wp (K f t) P) : wp (x_loop2 (b_X7_ways_102 K b u n) x_fuel (-1) 0 t) P := by
  have hm := R.1
  have at_ := fun (s : Int) (h0 : 0 ≤ s) (h1 : s < t.1 7) => rY_at hI hv hcw R h0 h1
  refine wp_loop2 (fun f s z => z = t ∧ (0 ≤ s ∧ s ≤ t.1 7) ∧ (f = -1 ∨ (0 ≤ f ∧ f < t.1 7)) ∧ oA 0 s (fun s => rd t 21 s = 1 ∧ rd y 3 (rd t 15 s) = b ∧ rd t 18 s = u ∧ rd t 20 s = n) (fun s => s) (kyY t) (-1) f) (fun _ s _ => (t.1 7 - s).toNat) (fun g f s z hJ ih => ?_) x_fuel _ _ t ⟨rfl, ⟨by omega, by omega⟩, Or.inl rfl, oA_ini⟩ (fu (by omega))
  obtain ⟨rfl, ⟨s1, s2⟩, s3, s4⟩ := hJ
  unfold b_X7_ways_102
  refine wp_le (by omega) (by omega) (by omega) (by omega) (fun hd => ?_) (fun hd => ?_)
  · have es : s = z.1 7 := by omega
    rw [es] at s4
    exact h f s4
  · have hs := at_ s s1 hd
    refine wp_ld s1 (by omega) ?_
    refine wp_jp ?_
    have skip : ¬ (rd z 21 s = 1 ∧ rd y 3 (rd z 15 s) = b ∧ rd z 18 s = u ∧ rd z 20 s = n) → wp (x_let (s + 1) (fun v12 => g f v12 z)) P := fun q => wp_let (ih f (s + 1) z ⟨rfl, ⟨by omega, by omega⟩, s3, oA_skip s4 q⟩ (by omega))
    refine wp_eq (by omega) (by omega) (by omega) (by omega) (fun q => skip (fun c => by omega)) (fun q => ?_)
    refine wp_ld s1 (by omega) ?_
    refine wp_ld hs.2.1.1 (by omega) ?_
    rw [hs.2.2.2.1]
    refine wp_eq (by omega) (by omega) gb.1 gb.2 (fun q2 => ?_) (fun q2 => skip (fun c => q2 c.2.1))
    refine wp_ld s1 (by omega) ?_
    refine wp_eq (by omega) (by omega) gu.1 gu.2 (fun q3 => ?_) (fun q3 => skip (fun c => q3 c.2.2.1))
    refine wp_ld s1 (by omega) ?_
    refine wp_eq (by omega) (by omega) gn.1 gn.2 (fun q4 => ?_) (fun q4 => skip (fun c => q4 c.2.2.2))
    have hfr : f = -1 ∨ ((0 ≤ f ∧ f < 1200) ∧ (0 ≤ rd z 15 f ∧ rd z 15 f < 100) ∧ (0 ≤ rd z 16 f ∧ rd z 16 f < 60)) := by
      rcases s3 with e | e
      · exact Or.inl e
      · have := at_ f e.1 e.2
        exact Or.inr ⟨by omega, this.2.1, this.2.2.2.2.2.2.2⟩
    refine wp_call (sY_isLess ⟨⟨s1, by omega⟩, hs.2.1, hs.2.2.2.2.2.2.2⟩ hfr (fun c => ?_) (fun c c2 => ?_))
    · refine wp_e1 ?_
      exact wp_let (ih s (s + 1) z ⟨rfl, ⟨by omega, by omega⟩, Or.inr ⟨s1, hd⟩, oA_take (run := fun s => s) s4 s1 ⟨by omega, q2, q3, q4⟩ c (fun i c1 c2 c3 => by show i ≠ -1; omega)⟩ (by omega))
    · refine wp_e0 ?_
      exact wp_let (ih f (s + 1) z ⟨rfl, ⟨by omega, by omega⟩, s3, oA_keep s4 c c2⟩ (by omega))
theorem sY_ways233 (hI : Inv x y) (hv : (v : Int) ≤ y.1 5) (hcw : cw y v w a tick Bf Cf) (R : rY y t v w Bf Cf) (hl : ly y z v w) (z12 : ∀ (j : Nat) (i : Int), j ≤ 12 → rd z j i = rd y j i) (t7 : t.1 7 = z.1 7) (tz : ∀ (j : Nat) (i : Int), j ≤ 18 → rd t j i = rd z j i) (q7 : q.1 7 = t.1 7) (qj : ∀ (j : Nat) (i : Int), j ≤ 21 → rd q j i = rd t j i) {k now : Int} (gk : 1 ≤ k ∧ k ≤ 1200) (hnow : 0 ≤ now ∧ now < t.1 7) {K : Int → XS → XR} (h : ∀ f : Int, oA 0 (t.1 7) (fun s => rd t 21 s = 1 ∧ rd t 20 s = k ∧ fw y v (rd t 15 s) (rd t 16 s) (rd t 15 now) (rd t 16 now)) (fun s => s) (kyY t) (-1) f → wp (K f q) P) : wp (x_loop2 (b_X7_ways_233 K k now) x_fuel (-1) 0 q) P := by
  have hm := R.1
  have at_ := fun (s : Int) (h0 : 0 ≤ s) (h1 : s < t.1 7) => rY_at hI hv hcw R h0 h1
  have ep : ∀ s : Int, pY z s = rd t 15 s := fun s => (tz 15 s (by decide)).symm
  have eq_ : ∀ s : Int, qY z s = rd t 16 s := fun s => (tz 16 s (by decide)).symm
  refine wp_loop2 (fun f s q' => q' = q ∧ (0 ≤ s ∧ s ≤ t.1 7) ∧ (f = -1 ∨ (0 ≤ f ∧ f < t.1 7)) ∧ oA 0 s (fun s => rd t 21 s = 1 ∧ rd t 20 s = k ∧ fw y v (rd t 15 s) (rd t 16 s) (rd t 15 now) (rd t 16 now)) (fun s => s) (kyY t) (-1) f) (fun _ s _ => (t.1 7 - s).toNat) (fun g f s q' hJ ih => ?_) x_fuel _ _ q ⟨rfl, ⟨by omega, by omega⟩, Or.inl rfl, oA_ini⟩ (fu (by omega))
  obtain ⟨rfl, ⟨s1, s2⟩, s3, s4⟩ := hJ
  unfold b_X7_ways_233
  rw [q7]
  refine wp_le (by omega) (by omega) (by omega) (by omega) (fun hd => ?_) (fun hd => ?_)
  · have es : s = t.1 7 := by omega
    rw [es] at s4
    exact h f s4
  · have hs := at_ s s1 hd
    refine wp_le (by omega) (by omega) (by omega) (by omega) (fun c => absurd c (by omega)) (fun _ => ?_)
    refine wp_ld s1 (by omega) ?_
    rw [qj 21 _ (by decide)]
    refine wp_jp ?_
    have skip : ¬ (rd t 21 s = 1 ∧ rd t 20 s = k ∧ fw y v (rd t 15 s) (rd t 16 s) (rd t 15 now) (rd t 16 now)) → wp (x_let (s + 1) (fun v12 => g f v12 q')) P := fun c => wp_let (ih f (s + 1) q' ⟨rfl, ⟨by omega, by omega⟩, s3, oA_skip s4 c⟩ (by omega))
    refine wp_eq (by omega) (by omega) (by omega) (by omega) (fun c => skip (fun c' => by omega)) (fun c => ?_)
    refine wp_ld s1 (by omega) ?_
    rw [qj 20 _ (by decide)]
    refine wp_eq (by omega) (by omega) (by omega) (by omega) (fun c2 => ?_) (fun c2 => skip (fun c' => c2 c'.2.1))
    refine wp_call (sY_follows hI hv hl (fun j i p => by rw [qj j i (by omega)]; exact tz j i p) z12 (r := s) (s := now) ⟨s1, by omega⟩ ⟨hnow.1, by omega⟩ (fun c3 => ?_) (fun c3 => ?_))
    · rw [ep, ep, eq_, eq_] at c3
      refine wp_e1 ?_
      have hfr : f = -1 ∨ ((0 ≤ f ∧ f < 1200) ∧ (0 ≤ rd q' 15 f ∧ rd q' 15 f < 100) ∧ (0 ≤ rd q' 16 f ∧ rd q' 16 f < 60)) := by
        rcases s3 with e | e
        · exact Or.inl e
        · have := at_ f e.1 e.2
          rw [qj 15 _ (by decide), qj 16 _ (by decide)]
          exact Or.inr ⟨by omega, this.2.1, this.2.2.2.2.2.2.2⟩
      have ek : ∀ s : Int, kyY q' s = kyY t s := fun s => by unfold kyY; rw [qj 15 _ (by decide), qj 16 _ (by decide)]
      refine wp_call (sY_isLess ⟨⟨s1, by omega⟩, by rw [qj 15 _ (by decide)]; exact hs.2.1, by rw [qj 16 _ (by decide)]; exact hs.2.2.2.2.2.2.2⟩ hfr (fun c4 => ?_) (fun c4 c5 => ?_))
      · rw [ek, ek] at c4
        refine wp_e1 ?_
        exact wp_let (ih s (s + 1) q' ⟨rfl, ⟨by omega, by omega⟩, Or.inr ⟨s1, hd⟩, oA_take (run := fun s => s) s4 s1 ⟨by omega, c2, c3⟩ c4 (fun i p1 p2 p3 => by show i ≠ -1; omega)⟩ (by omega))
      · rw [ek, ek] at c5
        refine wp_e0 ?_
        exact wp_let (ih f (s + 1) q' ⟨rfl, ⟨by omega, by omega⟩, s3, oA_keep s4 c4 c5⟩ (by omega))
    · rw [ep, ep, eq_, eq_] at c3
      refine wp_e0 ?_
      exact skip (fun c' => c3 c'.2.2)
theorem sY_ways233_0 {now : Int} (h7 : 0 ≤ q.1 7 ∧ q.1 7 ≤ 1200) {K : Int → XS → XR} (h : wp (K (-1) q) P) : wp (x_loop2 (b_X7_ways_233 K 0 now) x_fuel (-1) 0 q) P := by
  refine wp_loop2 (fun f s q' => q' = q ∧ s = 0 ∧ f = -1) (fun _ s _ => 0) (fun g f s q' hJ ih => ?_) x_fuel _ _ q ⟨rfl, rfl, rfl⟩ (fu (by omega))
  obtain ⟨rfl, rfl, rfl⟩ := hJ
  unfold b_X7_ways_233
  exact wp_le (by omega) (by omega) (by omega) (by omega) (fun _ => h) (fun _ => wp_le (by omega) (by omega) (by omega) (by omega) (fun _ => h) (fun c => absurd c (by omega)))
theorem sY_ways (hI : Inv x y) (hv : (v : Int) ≤ y.1 5) (hcw : cw y v w a tick Bf Cf) (hl : ly y z v w) (z12 : ∀ (j : Nat) (i : Int), j ≤ 12 → rd z j i = rd y j i) (ga : rg a) (gb : rg b) (gt : rg tick)
    (h0 : ∀ t : XS, (∀ k : Nat, t.1 k = z.1 k) → (∀ (j : Nat) (i : Int), (j ≤ 18 ∨ 21 < j) → rd t j i = rd z j i) → (∀ l r : Int, ¬ (Cf l r ≠ -1 ∧ rd y 3 l = b)) → P 0 t)
    (h1 : ∀ (t : XS) (n come : Int), fstC y v Cf b come → fewC y v Cf b come n → (1 ≤ n ∧ n ≤ 1200) → (∀ k : Nat, t.1 k = z.1 k) → (∀ (j : Nat) (i : Int), (j ≤ 18 ∨ 22 < j) → rd t j i = rd z j i) → wyK y v Cf b come n (fun q => rd t 22 q) 0 → P n t) : wp (f_X7_ways z a b tick) P := by
  unfold f_X7_ways
  refine wp_call (sY_goes hI hv hl z12 ga gt (fun t t1 tj ht => ?_))
  have R := rY_of hI hv hcw hl ht (t1 7) (fun j i p => tj j i (by omega)) z12
  have hm := R.1
  have at_ := fun (s : Int) (h0 : 0 ≤ s) (h1 : s < t.1 7) => rY_at hI hv hcw R h0 h1
  have bc : ∀ l r : Int, Cf l r ≠ -1 → Bf l r ≠ -1 := fun l r p p2 => p (((hcw.2.1 l r (cw_Sr hcw (Or.inr p))).2.2).mp p2)
  have cb : ∀ l r : Int, Bf l r ≠ -1 → Cf l r ≠ -1 := fun l r p p2 => p (((hcw.2.1 l r (cw_Sr hcw (Or.inl p))).2.2).mpr p2)
  refine wp_call (sY_firstOf hI hv hcw R gb (fun come hc hcr => ?_))
  refine wp_eq (by omega) (by omega) (by omega) (by omega) (fun p => ?_) (fun p => ?_)
  · refine wp_ret (h0 t t1 tj (fun l r hT => ?_))
    rcases hc with ⟨-, e⟩ | ⟨l', r', d1, d2, d3⟩
    · exact e l r ⟨bc l r hT.1, hT.2⟩
    · have d2 : cm y v l' r' = come := d2
      have := (Sr_rg hI hv (cw_Sr hcw (Or.inl d1.1))).1
      omega
  rcases hc with ⟨e, -⟩ | ⟨l0, r0, d1, d2, d3⟩
  · exact absurd e p
  have d2 : cm y v l0 r0 = come := d2
  have hfs : fstC y v Cf b come := ⟨⟨l0, r0, cb _ _ d1.1, d1.2, d2⟩, fun l r p1 p2 => d3 l r ⟨bc l r p1, p2⟩⟩
  refine wp_jp ?_
  refine sY_ways29 hI hv hcw R gb (rg_lit (by omega) (by omega)) (fun n hA hnr => ?_)
  -- the rows that end there
  have row : ∀ l r : Int, Cf l r ≠ -1 → rd y 3 l = b → cm y v l r = come → ∃ s : Int, (0 ≤ s ∧ s < t.1 7) ∧ (rd t 21 s = 1 ∧ rd y 3 (rd t 15 s) = b ∧ rd t 18 s = come) ∧ rd t 20 s = Cf l r := by
    intro l r p1 p2 p3
    obtain ⟨s, b1, b2, b3, b4⟩ := R.2.2.2 l r (cw_Sr hcw (Or.inr p1))
    have hs := at_ s b1 b2
    rw [b3, b4] at hs
    refine ⟨s, ⟨b1, b2⟩, ⟨by omega, by rw [b3]; exact p2, by omega⟩, by omega⟩
  have hfe : fewC y v Cf b come n ∧ (1 ≤ n ∧ n ≤ 1200) := by
    rcases hA with ⟨-, e⟩ | ⟨i, c1, c2, c3, c4, c5⟩
    · obtain ⟨s, b1, b2, b3⟩ := row l0 r0 (cb _ _ d1.1) d1.2 d2
      exact absurd b2 (e s b1.1 b1.2)
    · have hs := at_ i c1 c2
      have c4 : rd t 20 i = n := c4
      refine ⟨⟨⟨rd t 15 i, rd t 16 i, by omega, c3.2.1, by omega⟩, fun l r p1 p2 p3 => ?_⟩, by omega⟩
      obtain ⟨s, b1, b2, b3⟩ := row l r p1 p2 p3
      have : n ≤ rd t 20 s := c5 s b1.1 b1.2 b2
      omega
  obtain ⟨hfe, hn⟩ := hfe
  refine wp_jp ?_
  refine sY_ways102 hI hv hcw R gb (rg_lit (by omega) (by omega)) (rg_lit (by omega) (by omega)) (fun f hA2 => ?_)
  refine wp_let (wp_jp ?_)
  have hls := Y_lst (T := endE y v Cf b come n) hI hv hcw R (fun s p1 p2 => ?_) (fun l r p => cw_Sr hcw (Or.inr (by have := p.1; omega))) hA2
  rotate_left
  · have hs := at_ s p1 p2
    unfold endE
    constructor
    · rintro ⟨c1, c2, c3, c4⟩
      exact ⟨by omega, c2, by omega⟩
    · rintro ⟨c1, c2, c3⟩
      exact ⟨by omega, c2, by omega, by omega⟩
  rcases hls with ⟨-, e⟩ | ⟨hfr, hSf, hlst⟩
  · obtain ⟨⟨l, r, e1⟩, -⟩ := hfe
    exact absurd e1 (e l r)
  refine wp_loop2 (fun now k q => (∀ k : Nat, q.1 k = t.1 k) ∧ (∀ (j : Nat) (i : Int), (j ≤ 21 ∨ 22 < j) → rd q j i = rd t j i) ∧ (-1 ≤ k ∧ k < n) ∧ wyK y v Cf b come n (fun i => rd q 22 i) (k + 1) ∧ (0 ≤ k → (0 ≤ now ∧ now < t.1 7) ∧ rd t 21 now = 1 ∧ rd t 20 now = k + 1 ∧ nxt y v Cf b come n (fun i => rd q 22 i) k (rd t 15 now) (rd t 16 now))) (fun _ k _ => (k + 1).toNat) (fun g now k q hJ ih => ?_) x_fuel f (n - 1) t ⟨fun _ => rfl, fun _ _ _ => rfl, ⟨by omega, by omega⟩, fun k p1 p2 => absurd p2 (by omega), fun _ => ⟨hfr, hSf.1, by have := hSf.2.2.2; omega, Or.inl ⟨rfl, hlst⟩⟩⟩ (fu (by omega))
  obtain ⟨q1, qj, ⟨k1, k2⟩, k3, k4⟩ := hJ
  unfold b_X7_ways_188
  refine wp_lt (by omega) (by omega) (by omega) (by omega) (fun hk => wp_ret ?_) (fun hk => ?_)
  · have ek : k + 1 = 0 := by omega
    rw [ek] at k3
    exact h1 q n come hfs hfe hn (fun k => (q1 k).trans (t1 k)) (fun j i p => by rw [qj j i (by omega)]; exact tj j i (by omega)) k3
  obtain ⟨r1, r2, r3, r4⟩ := k4 hk
  have hs := at_ now r1.1 r1.2
  refine wp_ld r1.1 (by omega) ?_
  rw [qj 15 _ (by decide)]
  refine wp_st (by omega) (by omega) ?_
  refine wp_ld r1.1 (by omega) ?_
  rw [rd_wr_j (by decide), qj 16 _ (by decide)]
  refine wp_st (by omega) (by omega) ?_
  obtain ⟨q', eq'⟩ : ∃ q', q' = wr (wr q 22 (2 * k) (rd t 15 now)) 22 (2 * k + 1) (rd t 16 now) := ⟨_, rfl⟩
  rw [← eq']
  have q1' : ∀ k : Nat, q'.1 k = t.1 k := fun k => by rw [eq']; exact q1 k
  have qj' : ∀ (j : Nat) (i : Int), (j ≤ 21 ∨ 22 < j) → rd q' j i = rd t j i := fun j i p => by rw [eq', rd_wr_j (by omega), rd_wr_j (by omega)]; exact qj j i p
  have A0 : rd q' 22 (2 * k) = rd t 15 now := by rw [eq', rd_wr_ne (by omega) (by omega) (by omega), rd_wr_eq]
  have A1 : rd q' 22 (2 * k + 1) = rd t 16 now := by rw [eq', rd_wr_eq]
  have A2 : ∀ i : Int, 2 * k + 2 ≤ i → rd q' 22 i = rd q 22 i := fun i p => by rw [eq', rd_wr_ne (by omega) (by omega) (by omega), rd_wr_ne (by omega) (by omega) (by omega)]
  have hwy : wyK y v Cf b come n (fun i => rd q' 22 i) k := by
    intro k' p1 p2
    by_cases hkk : k' = k
    · subst hkk
      show nxt y v Cf b come n (fun i => rd q' 22 i) k' (rd q' 22 (2 * k')) (rd q' 22 (2 * k' + 1))
      rw [A0, A1]
      exact nxt_c r4 (A2 _ (by omega)) (A2 _ (by omega))
    · have := k3 k' (by omega) p2
      show nxt y v Cf b come n (fun i => rd q' 22 i) k' (rd q' 22 (2 * k')) (rd q' 22 (2 * k' + 1))
      rw [A2 _ (by omega), A2 _ (by omega)]
      exact nxt_c this (A2 _ (by omega)) (A2 _ (by omega))
  have ek : k + -1 + 1 = k := by omega
  refine wp_jp ?_
  by_cases hk0 : k = 0
  · subst hk0
    refine sY_ways233_0 (by rw [q1' 7]; exact hm) ?_
    exact wp_let (ih (-1) (0 + -1) q' ⟨q1', qj', ⟨by omega, by omega⟩, hwy, fun hk' => absurd hk' (by omega)⟩ (by omega))
  · refine sY_ways233 hI hv hcw R hl z12 (t1 7) (fun j i p => tj j i (by omega)) (q1' 7) (fun j i p => qj' j i (by omega)) ⟨by omega, by omega⟩ r1 (fun f' hA3 => ?_)
    have hls2 := Y_lst (T := fun l r => Cf l r = k ∧ fw y v l r (rd t 15 now) (rd t 16 now)) hI hv hcw R (fun s p1 p2 => ?_) (fun l r p => cw_Sr hcw (Or.inr (by have := p.1; omega))) hA3
    rotate_left
    · have hs := at_ s p1 p2
      constructor
      · rintro ⟨c1, c2, c3⟩
        exact ⟨by omega, c3⟩
      · rintro ⟨c1, c3⟩
        exact ⟨by omega, by omega, c3⟩
    rcases hls2 with ⟨-, e⟩ | ⟨hfr2, hSf2, hlst2⟩
    · obtain ⟨l', r', e1, e2, e3⟩ := hcw.2.2.1 (rd t 15 now) (rd t 16 now) (by omega) (by omega)
      exact absurd ⟨by omega, e1⟩ (e l' r')
    · refine wp_let (ih f' (k + -1) q' ⟨q1', qj', ⟨by omega, by omega⟩, by rw [ek]; exact hwy, fun hk' => ⟨hfr2, hSf2.1, by have := hSf2.2.1; omega, Or.inr ⟨by omega, ?_⟩⟩⟩ (by omega))
      rw [ek]
      show lst (fun l' r' => Cf l' r' = k ∧ fw y v l' r' (rd q' 22 (2 * k)) (rd q' 22 (2 * k + 1))) (rd t 15 f') (rd t 16 f')
      rw [A0, A1]
      exact hlst2
theorem Inv_ex2 {x' y' : XS} (h : Inv x y) (hx : ∀ k : Nat, 2 ≤ k → k ≤ 10 → k ≠ 7 → x'.1 k = x.1 k) (hxj : ∀ (j : Nat) (i : Int), 2 ≤ j → j ≤ 27 → (j ≤ 16 ∨ 20 ≤ j) → j ≠ 26 → rd x' j i = rd x j i) (hy : ∀ k : Nat, 2 ≤ k → k ≤ 6 → y'.1 k = y.1 k) (hyj : ∀ (j : Nat) (i : Int), j ≤ 12 → rd y' j i = rd y j i) (ho : iOut x' y') (hs : iSta x' y') : Inv x' y' := by
  obtain ⟨a1, a2, a3, a4, a5, a6⟩ := h
  have e2 := hy 2 (by omega) (by omega)
  have e5 := hy 5 (by omega) (by omega)
  refine ⟨iNod_c a1 (hx 2 (by omega) (by omega) (by omega)) e2 (fun j i b1 b2 => hxj j i b1 (by omega) (by omega) (by omega)) (fun j i b1 => hyj j i (by omega)), ?_, ?_, ho, hs, ?_⟩
  · exact iLin_c a2 (by omega) (hx 3 (by omega) (by omega) (by omega)) (hx 4 (by omega) (by omega) (by omega)) (hy 3 (by omega) (by omega)) (hy 4 (by omega) (by omega)) (fun j i b1 b2 => hxj j i (by omega) (by omega) (by omega) (by omega)) (fun j i b1 b2 => hyj j i (by omega))
  · exact iLog_c a3 (by omega) (hx 5 (by omega) (by omega) (by omega)) (hx 6 (by omega) (by omega) (by omega)) (hy 3 (by omega) (by omega)) e5 (hy 6 (by omega) (by omega)) (fun j i b1 b2 => hxj j i (by omega) (by omega) (by omega) (by omega)) (fun j i b1 b2 => hyj j i (by omega))
  · exact iVw_c a6 (hx 8 (by omega) (by omega) (by omega)) (hx 9 (by omega) (by omega) (by omega)) (hx 10 (by omega) (by omega) (by omega)) (by omega) (fun j i b1 b2 b3 => hxj j i (by omega) (by omega) (by omega) (by omega)) (fun v _ => agr_all (fun j i b1 b2 => hyj j i (by omega)) v)
theorem ok_way (w1 w2 w3 w4 : Int) (g1 : rg w1) (g2 : rg w2) (g3 : rg w3) (g4 : rg w4) : stepOK Inv (fun x => f_X6_way x w1 w2 w3 w4) (fun y => f_X7_way y w1 w2 w3 w4) := by
  refine stepOK_of (fun x y hI => ?_)
  refine q_way hI g1 g2 g3 g3 g4 (fun ha hb hab h3 _ h4 => ?_)
  have hn24 := hI.1.2.1
  have hv : ((w4.toNat : Nat) : Int) ≤ y.1 5 := by omega
  obtain ⟨Bf, Cf, hcw⟩ := cw_ex (v := w4.toNat) (w := -1) (a := w1) (tick := w3) hI hv (rg_lit (by omega) (by omega)) g1 g3
  refine wp_call (sX_explore hI h4.1 h4.2 g1 g3 hcw (Or.inr ⟨rfl, rfl⟩) (fun t ht ht10 htv htw => ?_))
  refine wp_call (sX_trace ht hv htv htw hcw ⟨hb.1, by omega⟩ (by decide) (fun hno => ?_) (fun z n come hfs hfe hn z1 zj hwy => ?_))
  · refine wp_jp ?_
    refine wp_eq (by omega) (by omega) (by omega) (by omega) (fun _ => ?_) (fun p => absurd rfl p)
    refine sX_aow (rg_lit (by omega) (by omega)) ?_
    rw [if_pos rfl]
    refine wp_call (sY_lay hI (u := y00 y) (fun k p _ => by unfold y00; simp (disch := omega) only [rd_wr_eq, rd_wr_ne, rd_wr_j, rd_ps, wr_1, ps_eq, ps_ne]) (fun _ _ _ => rfl) h4.1 h4.2 (rg_lit (by omega) (by omega)) (fun u u1 uj hu => ?_))
    refine wp_call (sY_ways hI hv hcw hu (fun j i p => uj j i (by omega)) g1 g2 g3 (fun s s1 sj _ => ?_) (fun s n come hfs _ _ _ _ _ => ?_))
    · refine wp_eq (by omega) (by omega) (by omega) (by omega) (fun _ => ?_) (fun p => absurd rfl p)
      refine wp_call (sY_refuse (wp_ret ⟨rfl, Inv_fin ht (((y00_ex y).tr ⟨fun k p1 p2 p3 => (s1 k).trans (u1 k p3), fun j i p => (sj j i (by omega)).trans (uj j i (by omega))⟩).tr (exY.ps s 0 5 (by omega))) ps_eq (by decide) (by decide)⟩))
    · obtain ⟨⟨l, r, e1, e2, -⟩, -⟩ := hfs
      exact absurd ⟨e1, e2⟩ (hno l r)
  · refine wp_jp ?_
    refine wp_eq (by omega) (by omega) (by omega) (by omega) (fun p => absurd p (by omega)) (fun _ => ?_)
    refine wp_let ?_
    refine sX_aow (rg_lit (by omega) (by omega)) ?_
    rw [if_neg (by omega)]
    refine wp_call (sY_lay hI (u := y00 y) (fun k p _ => by unfold y00; simp (disch := omega) only [rd_wr_eq, rd_wr_ne, rd_wr_j, rd_ps, wr_1, ps_eq, ps_ne]) (fun _ _ _ => rfl) h4.1 h4.2 (rg_lit (by omega) (by omega)) (fun u u1 uj hu => ?_))
    refine wp_call (sY_ways hI hv hcw hu (fun j i p => uj j i (by omega)) g1 g2 g3 (fun s s1 sj hno => ?_) (fun s n' come' hfs' hfe' hn' s1 sj hwy' => ?_))
    · obtain ⟨⟨l, r, e1, e2, -⟩, -⟩ := hfs
      exact absurd ⟨e1, e2⟩ (hno l r)
    · have ec := fstC_u hfs hfs'
      subst ec
      have e := fewC_u (by omega) (by omega) hfe hfe'
      subst e
      refine wp_eq (by omega) (by omega) (by omega) (by omega) (fun p => absurd p (by omega)) (fun _ => ?_)
      refine wp_let (wp_ret ⟨rfl, Inv_ex2 ht (fun k p1 p2 p3 => ?_) (fun j i p1 p2 p3 p4 => ?_) (fun k p1 p2 => ?_) (fun j i p => ?_) ⟨?_, ?_, ?_, fun k p1 p2 => ?_⟩ ⟨?_, ?_, ?_⟩⟩)
      · rw [ps_ne (by omega), ps_ne (by omega)]; exact z1 k
      · rw [rd_ps, rd_ps]; exact zj j i (by omega)
      · rw [ps_ne (by omega), s1 k, u1 k (by omega)]
        exact (y00_ex y).1 k p1 (by omega) (by omega)
      · rw [rd_ps, sj j i (by omega), uj j i (by omega)]; rfl
      · rw [ps_ne (by omega), ps_eq, ps_eq]
      · rw [ps_eq]; omega
      · rw [ps_eq]; omega
      · rw [ps_eq] at p2
        rw [rd_ps, rd_ps, rd_ps]
        have hu := wyK_u hwy hwy' 1200 (k / 2) (by omega) (by omega) (by omega)
        by_cases hev : k = 2 * (k / 2)
        · rw [hev]; exact hu.1
        · have hod : k = 2 * (k / 2) + 1 := by omega
          rw [hod]; exact hu.2
      · rw [ps_eq, ps_ne (by decide), s1 0, u1 0 (by decide)]; rfl
      · rw [ps_ne (by decide), s1 0, u1 0 (by decide)]; exact Int.le_refl 0
      · rw [ps_ne (by decide), s1 0, u1 0 (by decide)]
        show (0 : Int) ≤ 7
        decide
end WA
