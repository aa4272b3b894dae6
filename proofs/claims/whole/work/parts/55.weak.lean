/-- f: the first coming without the line w, 5001 if there is none -/
def vlW (y : XS) (v : Nat) (b : Int) (BB : Int → Int → Int → Int) (w f : Int) : Prop := oP (fun l r => BB w l r ≠ -1 ∧ rd y 3 l = b) (fun l r => cm y v l r) idk 5001 f
theorem vlW_u {y : XS} {v : Nat} {b : Int} {BB : Int → Int → Int → Int} {w f f' : Int} (h : vlW y v b BB w f) (h' : vlW y v b BB w f') : f = f' := by
  rcases oP_uniq idk_i h h' with ⟨e1, e2, -⟩ | ⟨e, -⟩
  · omega
  · exact e
/-- l: the least line in W whose want lets one come last -/
def wkB (W : Int → Prop) (V : Int → Int → Prop) (l : Int) : Prop := W l ∧ ∃ f : Int, V l f ∧ ∀ l' f' : Int, W l' → V l' f' → (f' < f ∨ (f' = f ∧ l ≤ l'))
theorem wkB_u {W W' : Int → Prop} {V : Int → Int → Prop} {l l' : Int} (hW : ∀ l, W l ↔ W' l) (h : wkB W V l) (h' : wkB W' V l') : l = l' := by
  obtain ⟨a1, f, a2, a3⟩ := h
  obtain ⟨b1, f', b2, b3⟩ := h'
  have h1 := a3 l' f' ((hW l').mpr b1) b2
  have h2 := b3 l f ((hW l).mp a1) a2
  omega
section WE
variable {P : Int → XS → Prop} {x y t z u : XS} {v : Nat} {w a tick b : Int} {Bf Cf : Int → Int → Int} {BB CC : Int → Int → Int → Int}
theorem wy_Sr {come n : Int} {A : Int → Int} (hcw : cw y v w a tick Bf Cf) (hn : 1 ≤ n) (h : wyK y v Cf b come n A 0) {k : Int} (h0 : 0 ≤ k) (h1 : k < n) : Sr y v w (A (2 * k)) (A (2 * k + 1)) := by
  rcases h k h0 h1 with ⟨-, q⟩ | ⟨-, q⟩
  · exact cw_Sr hcw (Or.inr (by have := q.1.1; omega))
  · exact cw_Sr hcw (Or.inr (by have := q.1.1; omega))
theorem q_way5 {t1 t2 : Int} {KX KY : XS → XR} (hI : Inv x y) (ga : rg a) (gb : rg b) (g1 : rg t1) (g2 : rg t2) (h : (0 ≤ a ∧ a < y.1 2) → (0 ≤ b ∧ b < y.1 2) → a ≠ b → (0 ≤ t1 ∧ t1 ≤ 5000) → (0 ≤ t2 ∧ t2 ≤ 5000) → wp (KX x) (fun r x' => wp (KY (y00 y)) (fun r' y' => r = r' ∧ Inv x' y'))) :
    wp (x_call (f_X6_wayFault x a b t1 t2 (x.1 5)) (fun r1 x2 => x_eq r1 0 (KX x2) (x_call (f_X6_refuse x2 r1) (fun r9 x10 => some (r9, x10))))) (fun r x' => wp (x_let (xpS y 1 0) (fun x1 => x_call (f_X7_asked x1 a b t1 t2 (x1.1 5)) (fun r2 x3 => x_let (xpS x3 0 r2) (fun x4 => x_le (x4.1 0) 0 (KY x4) (some (-1, x4)))))) (fun r' y' => r = r' ∧ Inv x' y')) := by
  have hc1 := hI.2.2.1.1
  have hc2 := hI.2.2.1.2.1
  rw [hI.2.2.1.2.2.1]
  exact q_way (v := y.1 5) hI ga gb g1 g2 (rg_lit (by omega) (by omega)) (fun p1 p2 p3 p4 p5 _ => h p1 p2 p3 p4 p5)
theorem sX_isIn {l n : Int} (gl : rg l) (hn : -1 ≤ n ∧ n ≤ 1200) (hr : ∀ k : Int, 0 ≤ k → k < n → rg (rd z 1 (2 * k))) (h1 : (∃ k : Int, 0 ≤ k ∧ k < n ∧ rd z 1 (2 * k) = l) → P 1 z) (h0 : ¬ (∃ k : Int, 0 ≤ k ∧ k < n ∧ rd z 1 (2 * k) = l) → P 0 z) : wp (f_X6_isInSpareRow z l n) P := by
  unfold f_X6_isInSpareRow
  refine wp_jp ?_
  refine wp_loop1 (fun i z' => z' = z ∧ (0 ≤ i ∧ i ≤ 1200) ∧ ∀ k : Int, 0 ≤ k → k < i → k < n → rd z 1 (2 * k) ≠ l) (fun i _ => (n + 1 - i).toNat) (fun g i z' hJ ih => ?_) x_fuel 0 z ⟨rfl, ⟨by omega, by omega⟩, fun k p1 p2 => absurd p2 (by omega)⟩ (fu (by omega))
  obtain ⟨rfl, ⟨i1, i2⟩, i3⟩ := hJ
  unfold b_X6_isInSpareRow_2
  refine wp_le (by omega) (by omega) (by omega) (by omega) (fun q => wp_ret (h0 ?_)) (fun q => ?_)
  · rintro ⟨k, p1, p2, p3⟩
    exact i3 k p1 (by omega) p2 p3
  · refine wp_ld (by omega) (by omega) ?_
    have hg := hr i i1 q
    refine wp_eq hg.1 hg.2 gl.1 gl.2 (fun p => wp_ret (h1 ⟨i, i1, q, p⟩)) (fun p => ?_)
    refine wp_let (ih (i + 1) z' ⟨rfl, ⟨by omega, by omega⟩, fun k p1 p2 p3 => ?_⟩ (by omega))
    by_cases hk : k = i
    · rw [hk]; exact p
    · exact i3 k p1 (by omega) p3
theorem sX_weak (hI : Inv z y) (hv : (((y.1 5).toNat : Nat) : Int) ≤ y.1 5) (h10 : z.1 10 = y.1 5) (H : vwOK z y (y.1 5).toNat) (ga : rg a) (gt : rg tick) (hb : 0 ≤ b ∧ b < 24) (hB : ∀ w : Int, rg w → cw y (y.1 5).toNat w a tick (BB w) (CC w)) {n : Int} (hn : -1 ≤ n ∧ n ≤ 1200) (hr : ∀ k : Int, 0 ≤ k → k < n → 0 ≤ rd z 1 (2 * k) ∧ rd z 1 (2 * k) < y.1 3) {K : Int → XS → XR}
    (h : ∀ (z' : XS) (f : Int), Inv z' y → ((f = -1 ∧ ∀ k : Int, 0 ≤ k → ¬ k < n) ∨ (0 ≤ f ∧ f < y.1 3 ∧ wkB (fun l => ∃ k : Int, 0 ≤ k ∧ k < n ∧ rd z 1 (2 * k) = l) (vlW y (y.1 5).toNat b BB) f)) → wp (K f z') P) : wp (x_loop3 (b_X6_weakest_66 K n a b tick) x_fuel (-1) (-1) 0 z) P := by
  have hl1 := hI.2.1.1
  have hl2 := hI.2.1.2.1
  have hc2 := hI.2.2.1.2.1
  have hc1 := hI.2.2.1.1
  refine wp_loop3 (fun f la m q => Inv q y ∧ q.1 10 = y.1 5 ∧ vwOK q y (y.1 5).toNat ∧ (∀ i : Int, rd q 1 i = rd z 1 i) ∧ (0 ≤ m ∧ m ≤ y.1 3) ∧ ((la = -1 ∧ f = -1 ∧ ∀ k : Int, 0 ≤ k → k < n → ¬ rd z 1 (2 * k) < m) ∨ ((0 ≤ f ∧ f < m) ∧ (0 ≤ la ∧ la ≤ 5001) ∧ (∃ k : Int, 0 ≤ k ∧ k < n ∧ rd z 1 (2 * k) = f) ∧ vlW y (y.1 5).toNat b BB f la ∧ ∀ l' f' : Int, l' < m → (∃ k : Int, 0 ≤ k ∧ k < n ∧ rd z 1 (2 * k) = l') → vlW y (y.1 5).toNat b BB l' f' → (f' < la ∨ (f' = la ∧ f ≤ l'))))) (fun _ _ m _ => (y.1 3 - m).toNat) (fun g f la m q hJ ih => ?_) x_fuel (-1) (-1) 0 z ⟨hI, h10, H, fun _ => rfl, ⟨by omega, by omega⟩, Or.inl ⟨rfl, rfl, fun k p1 p2 => by have := hr k p1 p2; omega⟩⟩ (fu (by omega))
  obtain ⟨qI, q10, qH, q1, ⟨m1, m2⟩, m3⟩ := hJ
  have q3 := qI.2.1.2.2.1
  have q5 := qI.2.2.1.2.2.1
  unfold b_X6_weakest_66
  rw [q3]
  refine wp_le (by omega) (by omega) (by omega) (by omega) (fun hd => ?_) (fun hd => ?_)
  · refine h q f qI ?_
    rcases m3 with ⟨e1, e2, e3⟩ | ⟨e1, e2, e3, e4, e5⟩
    · exact Or.inl ⟨e2, fun k p1 p2 => e3 k p1 p2 (by have := hr k p1 p2; omega)⟩
    · refine Or.inr ⟨e1.1, by omega, e3, la, e4, fun l' f' p1 p2 => e5 l' f' ?_ p1 p2⟩
      obtain ⟨k, c1, c2, c3⟩ := p1
      have := hr k c1 c2
      omega
  · refine wp_call (sX_isIn (rg_lit (by omega) (by omega)) hn (fun k p1 p2 => by rw [q1]; have := hr k p1 p2; exact (rg_lit (by omega) (by omega))) (fun hin => ?_) (fun hin => ?_))
    · simp only [q1] at hin
      refine wp_jp ?_
      refine wp_e1 ?_
      refine wp_call ?_
      unfold f_X6_comingWithout
      rw [q5]
      refine wp_call (sX_showSame (rg_lit (by omega) (by omega)) q10 ?_)
      refine sX_cwRest qI hv qH ga gt (rg_lit (by omega) (by omega)) hb (hB m (rg_lit (by omega) (by omega))) (fun s c s1 sj sI sH hc hcr => ?_)
      have s10 : s.1 10 = y.1 5 := (s1 10 (by decide)).trans q10
      have sr1 : ∀ i : Int, rd s 1 i = rd z 1 i := fun i => (sj 1 i (by omega)).trans (q1 i)
      have hcV : vlW y (y.1 5).toNat b BB m c := hc
      refine wp_jp ?_
      have hla : -1 ≤ la ∧ la ≤ 5001 := by omega
      refine wp_le (by omega) (by omega) (by omega) (by omega) (fun p => ?_) (fun p => ?_)
      · refine wp_let (ih f la (m + 1) s ⟨sI, s10, sH, sr1, ⟨by omega, by omega⟩, Or.inr ?_⟩ (by omega))
        rcases m3 with ⟨e1, e2, e3⟩ | ⟨e1, e2, e3, e4, e5⟩
        · omega
        · refine ⟨by omega, e2, e3, e4, fun l' f' p1 p2 p3 => ?_⟩
          by_cases hl : l' = m
          · rw [hl] at p3
            have := vlW_u p3 hcV
            omega
          · exact e5 l' f' (by omega) p2 p3
      · refine wp_let (ih m c (m + 1) s ⟨sI, s10, sH, sr1, ⟨by omega, by omega⟩, Or.inr ⟨by omega, by omega, hin, hcV, fun l' f' p1 p2 p3 => ?_⟩⟩ (by omega))
        by_cases hl : l' = m
        · rw [hl] at p3
          have := vlW_u p3 hcV
          omega
        · rcases m3 with ⟨e1, e2, e3⟩ | ⟨e1, e2, e3, e4, e5⟩
          · obtain ⟨k, c1, c2, c3⟩ := p2
            exact absurd (show rd z 1 (2 * k) < m by omega) (e3 k c1 c2)
          · have := e5 l' f' (by omega) p2 p3
            omega
    · simp only [q1] at hin
      refine wp_jp ?_
      refine wp_e0 ?_
      refine wp_jp ?_
      have hla : -1 ≤ la ∧ la ≤ 5001 := by omega
      refine wp_le (by omega) (by omega) (by omega) (by omega) (fun p => ?_) (fun p => absurd p (by omega))
      refine wp_let (ih f la (m + 1) q ⟨qI, q10, qH, q1, ⟨by omega, by omega⟩, ?_⟩ (by omega))
      rcases m3 with ⟨e1, e2, e3⟩ | ⟨e1, e2, e3, e4, e5⟩
      · refine Or.inl ⟨e1, e2, fun k p1 p2 p3 => ?_⟩
        have h1 := e3 k p1 p2
        exact hin ⟨k, p1, p2, by omega⟩
      · refine Or.inr ⟨by omega, e2, e3, e4, fun l' f' p1 p2 p3 => ?_⟩
        by_cases hl : l' = m
        · rw [hl] at p2
          exact absurd p2 hin
        · exact e5 l' f' (by omega) p2 p3
theorem sY_w33 {K : XS → XR} (h : ∀ u' : XS, (∀ k : Nat, u'.1 k = u.1 k) → (∀ (j : Nat) (i : Int), j ≠ 26 → rd u' j i = rd u j i) → (∀ k : Int, 0 ≤ k → k < 2400 → rd u' 26 k = rd u 22 k) → wp (K u') P) : wp (x_loop1 (b_X7_weakest_33 K) x_fuel 0 u) P := by
  refine wp_loop1 (fun m q => (0 ≤ m ∧ m ≤ 2400) ∧ (∀ k : Nat, q.1 k = u.1 k) ∧ (∀ (j : Nat) (i : Int), j ≠ 26 → rd q j i = rd u j i) ∧ (∀ k : Int, 0 ≤ k → k < m → rd q 26 k = rd u 22 k)) (fun m _ => (2400 - m).toNat) (fun g m q hJ ih => ?_) x_fuel 0 u ⟨⟨by omega, by omega⟩, fun _ => rfl, fun _ _ _ => rfl, fun k p1 p2 => absurd p2 (by omega)⟩ (fu (by omega))
  obtain ⟨⟨m1, m2⟩, q1, qj, qk⟩ := hJ
  unfold b_X7_weakest_33
  refine wp_le (by omega) (by omega) (by omega) (by omega) (fun hd => ?_) (fun hd => ?_)
  · exact h q q1 qj (fun k p1 p2 => qk k p1 (by omega))
  · refine wp_ld m1 (by omega) ?_
    rw [qj 22 _ (by decide)]
    refine wp_st m1 (by omega) ?_
    refine wp_let (ih (m + 1) _ ⟨⟨by omega, by omega⟩, q1, fun j i p => by rw [rd_wr_j p]; exact qj j i p, fun k p1 p2 => ?_⟩ (by omega))
    by_cases hk : k = m
    · rw [hk, rd_wr_eq]
    · rw [rd_wr_ne m1 p1 hk]; exact qk k p1 (by omega)
theorem sY_w82 {n : Int} (hn : 0 ≤ n ∧ n ≤ 1200) {K : XS → XR} (h : ∀ u' : XS, (∀ k : Nat, u'.1 k = u.1 k) → (∀ (j : Nat) (i : Int), j ≠ 25 → rd u' j i = rd u j i) → (∀ k : Int, 0 ≤ k → k < n → rd u' 25 k = rd u 22 (2 * k)) → wp (K u') P) : wp (x_loop1 (b_X7_weakest_82 n K) x_fuel 0 u) P := by
  refine wp_loop1 (fun m q => (0 ≤ m ∧ m ≤ n) ∧ (∀ k : Nat, q.1 k = u.1 k) ∧ (∀ (j : Nat) (i : Int), j ≠ 25 → rd q j i = rd u j i) ∧ (∀ k : Int, 0 ≤ k → k < m → rd q 25 k = rd u 22 (2 * k))) (fun m _ => (n - m).toNat) (fun g m q hJ ih => ?_) x_fuel 0 u ⟨⟨by omega, by omega⟩, fun _ => rfl, fun _ _ _ => rfl, fun k p1 p2 => absurd p2 (by omega)⟩ (fu (by omega))
  obtain ⟨⟨m1, m2⟩, q1, qj, qk⟩ := hJ
  unfold b_X7_weakest_82
  refine wp_le (by omega) (by omega) (by omega) (by omega) (fun hd => ?_) (fun hd => ?_)
  · exact h q q1 qj (fun k p1 p2 => qk k p1 (by omega))
  · refine wp_ld (by omega) (by omega) ?_
    rw [qj 22 _ (by decide)]
    refine wp_st m1 (by omega) ?_
    refine wp_let (ih (m + 1) _ ⟨⟨by omega, by omega⟩, q1, fun j i p => by rw [rd_wr_j p]; exact qj j i p, fun k p1 p2 => ?_⟩ (by omega))
    by_cases hk : k = m
    · rw [hk, rd_wr_eq]
    · rw [rd_wr_ne m1 p1 hk]; exact qk k p1 (by omega)
theorem sY_w114 {K : XS → XR} (h : ∀ u' : XS, (∀ k : Nat, u'.1 k = u.1 k) → (∀ (j : Nat) (i : Int), j ≠ 22 → rd u' j i = rd u j i) → (∀ k : Int, 0 ≤ k → k < 2400 → rd u' 22 k = rd u 26 k) → wp (K u') P) : wp (x_loop1 (b_X7_weakest_114 K) x_fuel 0 u) P := by
  refine wp_loop1 (fun m q => (0 ≤ m ∧ m ≤ 2400) ∧ (∀ k : Nat, q.1 k = u.1 k) ∧ (∀ (j : Nat) (i : Int), j ≠ 22 → rd q j i = rd u j i) ∧ (∀ k : Int, 0 ≤ k → k < m → rd q 22 k = rd u 26 k)) (fun m _ => (2400 - m).toNat) (fun g m q hJ ih => ?_) x_fuel 0 u ⟨⟨by omega, by omega⟩, fun _ => rfl, fun _ _ _ => rfl, fun k p1 p2 => absurd p2 (by omega)⟩ (fu (by omega))
  obtain ⟨⟨m1, m2⟩, q1, qj, qk⟩ := hJ
  unfold b_X7_weakest_114
  refine wp_le (by omega) (by omega) (by omega) (by omega) (fun hd => ?_) (fun hd => ?_)
  · exact h q q1 qj (fun k p1 p2 => qk k p1 (by omega))
  · refine wp_ld m1 (by omega) ?_
    rw [qj 26 _ (by decide)]
    refine wp_st m1 (by omega) ?_
    refine wp_let (ih (m + 1) _ ⟨⟨by omega, by omega⟩, q1, fun j i p => by rw [rd_wr_j p]; exact qj j i p, fun k p1 p2 => ?_⟩ (by omega))
    by_cases hk : k = m
    · rw [hk, rd_wr_eq]
    · rw [rd_wr_ne m1 p1 hk]; exact qk k p1 (by omega)
theorem sY_weak (hI : Inv x y) (hv : (((y.1 5).toNat : Nat) : Int) ≤ y.1 5) (hu : ∀ k : Nat, 2 ≤ k → k ≠ 7 → u.1 k = y.1 k) (huj : ∀ (j : Nat) (i : Int), j ≤ 12 → rd u j i = rd y j i) (ga : rg a) (gt : rg tick) (gb : rg b) (hB : ∀ w : Int, rg w → cw y (y.1 5).toNat w a tick (BB w) (CC w)) {n : Int} (hn : 1 ≤ n ∧ n ≤ 1200) (hr : ∀ k : Int, 0 ≤ k → k < n → 0 ≤ rd u 25 k ∧ rd u 25 k < y.1 3) {K : Int → XS → XR}
    (h : ∀ (u' : XS) (f : Int), (∀ k : Nat, k ≠ 7 → u'.1 k = u.1 k) → (∀ (j : Nat) (i : Int), (j ≤ 12 ∨ 21 < j) → rd u' j i = rd u j i) → wkB (fun l => ∃ k : Int, 0 ≤ k ∧ k < n ∧ rd u 25 k = l) (vlW y (y.1 5).toNat b BB) f → wp (K f u') P) : wp (x_loop3 (b_X7_weakest_162 n K a tick b) x_fuel (-1) (-1) 0 u) P := by
  have hl1 := hI.2.1.1
  have hl2 := hI.2.1.2.1
  have hc2 := hI.2.2.1.2.1
  have hc1 := hI.2.2.1.1
  refine wp_loop3 (fun la wk m q => (∀ k : Nat, k ≠ 7 → q.1 k = u.1 k) ∧ (∀ (j : Nat) (i : Int), (j ≤ 12 ∨ 21 < j) → rd q j i = rd u j i) ∧ (0 ≤ m ∧ m ≤ n) ∧ ((la = -1 ∧ wk = -1 ∧ m = 0) ∨ ∃ f : Int, ((f = 5001 ∧ la = 1000000) ∨ (f = la ∧ 0 ≤ la ∧ la ≤ 5000)) ∧ (0 ≤ wk ∧ wk < y.1 3) ∧ (∃ k : Int, 0 ≤ k ∧ k < n ∧ rd u 25 k = wk) ∧ vlW y (y.1 5).toNat b BB wk f ∧ ∀ k f' : Int, 0 ≤ k → k < m → vlW y (y.1 5).toNat b BB (rd u 25 k) f' → (f' < f ∨ (f' = f ∧ wk ≤ rd u 25 k)))) (fun _ _ m _ => (n - m).toNat) (fun g la wk m q hJ ih => ?_) x_fuel (-1) (-1) 0 u ⟨fun _ _ => rfl, fun _ _ _ => rfl, ⟨by omega, by omega⟩, Or.inl ⟨rfl, rfl, rfl⟩⟩ (fu (by omega))
  obtain ⟨q1, qj, ⟨m1, m2⟩, m3⟩ := hJ
  unfold b_X7_weakest_162
  refine wp_le (by omega) (by omega) (by omega) (by omega) (fun hd => ?_) (fun hd => ?_)
  · refine h q wk q1 qj ?_
    rcases m3 with ⟨e1, e2, e3⟩ | ⟨f, e1, e2, e3, e4, e5⟩
    · omega
    · refine ⟨e3, f, e4, fun l' f' p1 p2 => ?_⟩
      obtain ⟨k, c1, c2, c3⟩ := p1
      rw [← c3] at p2 ⊢
      exact e5 k f' c1 (by omega) p2
  · have hm := hr m m1 hd
    refine wp_ld m1 (by omega) ?_
    rw [qj 25 _ (by omega)]
    have q5 : q.1 5 = y.1 5 := (q1 5 (by decide)).trans (hu 5 (by decide) (by decide))
    rw [q5]
    have hcw := hB (rd u 25 m) (rg_lit (by omega) (by omega))
    refine sY_lg hI (u := q) (fun k p1 p2 => (q1 k p2).trans (hu k p1 p2)) (fun j i p => (qj j i (by omega)).trans (huj j i p)) hc1 (Int.le_refl _) (rg_lit (by omega) (by omega)) ga gt hcw (fun s s1 sj R => ?_)
    refine wp_call (sY_firstOf hI hv hcw R gb (fun c hc hcr => ?_))
    have s1' : ∀ k : Nat, k ≠ 7 → s.1 k = u.1 k := fun k p => (s1 k p).trans (q1 k p)
    have sj' : ∀ (j : Nat) (i : Int), (j ≤ 12 ∨ 21 < j) → rd s j i = rd u j i := fun j i p => (sj j i p).trans (qj j i p)
    -- the same in 5001
    have hf : ∃ f : Int, ((f = 5001 ∧ c = 1000000) ∨ (f = c ∧ 0 ≤ c ∧ c ≤ 5000)) ∧ vlW y (y.1 5).toNat b BB (rd u 25 m) f := by
      rcases hc with ⟨e1, e2⟩ | ⟨l, r, e1, e2, e3⟩
      · exact ⟨5001, Or.inl ⟨rfl, e1⟩, Or.inl ⟨rfl, e2⟩⟩
      · have e2' : cm y (y.1 5).toNat l r = c := e2
        have := (Sr_rg hI hv (cw_Sr hcw (Or.inl e1.1))).1
        exact ⟨c, Or.inr ⟨rfl, by omega, by omega⟩, Or.inr ⟨l, r, e1, e2, e3⟩⟩
    obtain ⟨f, hfc, hfV⟩ := hf
    refine wp_jp ?_
    have hla : -1 ≤ la ∧ la ≤ 1000000 := by
      rcases m3 with ⟨e1, -⟩ | ⟨f, e1, -⟩ <;> omega
    have hwk : -1 ≤ wk ∧ wk ≤ 100 := by
      rcases m3 with ⟨-, e1, -⟩ | ⟨f, -, e1, -⟩ <;> omega
    have keep : (∃ f0 : Int, ((f0 = 5001 ∧ la = 1000000) ∨ (f0 = la ∧ 0 ≤ la ∧ la ≤ 5000)) ∧ (f < f0 ∨ (f = f0 ∧ wk ≤ rd u 25 m))) → wp (x_let (m + 1) (fun v34 => g la wk v34 s)) P := by
      rintro ⟨f0, p1, p2⟩
      refine wp_let (ih la wk (m + 1) s ⟨s1', sj', ⟨by omega, by omega⟩, Or.inr ?_⟩ (by omega))
      rcases m3 with ⟨e1, e2, e3⟩ | ⟨f1, e1, e2, e3, e4, e5⟩
      · omega
      · have ef : f1 = f0 := by omega
        subst ef
        refine ⟨f1, e1, e2, e3, e4, fun k f' c1 c2 c3 => ?_⟩
        by_cases hk : k = m
        · rw [hk] at c3 ⊢
          have := vlW_u c3 hfV
          omega
        · exact e5 k f' c1 (by omega) c3
    have take : (la = -1 ∨ (∃ f0 : Int, ((f0 = 5001 ∧ la = 1000000) ∨ (f0 = la ∧ 0 ≤ la ∧ la ≤ 5000)) ∧ (f0 < f ∨ (f = f0 ∧ rd u 25 m < wk)))) → wp (x_ld (s.2 25) 1200 m (fun v37 => x_let (m + 1) (fun v34 => g c v37 v34 s))) P := by
      intro hp
      refine wp_ld m1 (by omega) ?_
      rw [sj' 25 _ (by omega)]
      refine wp_let (ih c (rd u 25 m) (m + 1) s ⟨s1', sj', ⟨by omega, by omega⟩, Or.inr ⟨f, hfc, hm, ⟨m, m1, hd, rfl⟩, hfV, fun k f' c1 c2 c3 => ?_⟩⟩ (by omega))
      by_cases hk : k = m
      · rw [hk] at c3 ⊢
        have := vlW_u c3 hfV
        omega
      · rcases m3 with ⟨e1, e2, e3⟩ | ⟨f1, e1, e2, e3, e4, e5⟩
        · omega
        · have h1 := e5 k f' c1 (by omega) c3
          rcases hp with p | ⟨f0, p1, p2⟩
          · omega
          · omega
    have hla2 : la = -1 ∨ ∃ f0 : Int, ((f0 = 5001 ∧ la = 1000000) ∨ (f0 = la ∧ 0 ≤ la ∧ la ≤ 5000)) := by
      rcases m3 with ⟨e1, -⟩ | ⟨f, e1, -⟩
      · exact Or.inl e1
      · exact Or.inr ⟨f, e1⟩
    refine wp_lt (by omega) (by omega) (by omega) (by omega) (fun p => ?_) (fun p => ?_)
    · rcases hla2 with e | ⟨f0, e⟩
      · omega
      · exact keep ⟨f0, e, by omega⟩
    · refine wp_jp ?_
      refine wp_eq (by omega) (by omega) (by omega) (by omega) (fun p2 => ?_) (fun p2 => take ?_)
      · refine wp_ld m1 (by omega) ?_
        rw [sj' 25 _ (by omega)]
        rcases hla2 with e | ⟨f0, e⟩
        · omega
        · exact wp_lt (by omega) (by omega) (by omega) (by omega) (fun p3 => take (Or.inr ⟨f0, e, by omega⟩)) (fun p3 => keep ⟨f0, e, by omega⟩)
      · rcases hla2 with e | ⟨f0, e⟩
        · exact Or.inl e
        · exact Or.inr ⟨f0, e, by omega⟩
theorem ok_weakest (w1 w2 w3 : Int) (g1 : rg w1) (g2 : rg w2) (g3 : rg w3) : stepOK Inv (fun x => f_X6_weakest x w1 w2 w3) (fun y => f_X7_weakest y w1 w2 w3) := by
  refine stepOK_of (fun x y hI => ?_)
  refine q_way5 hI g1 g2 g3 g3 (fun ha hb hab h3 _ => ?_)
  have hn24 := hI.1.2.1
  have hl2 := hI.2.1.2.1
  have ex5 := hI.2.2.1.2.2.1
  have hc1 := hI.2.2.1.1
  have hc2 := hI.2.2.1.2.1
  have hv : (((y.1 5).toNat : Nat) : Int) ≤ y.1 5 := by omega
  have hout := hI.2.2.2.1
  obtain ⟨Bf, Cf, hcw⟩ := cw_ex (v := (y.1 5).toNat) (w := -1) (a := w1) (tick := w3) hI hv (rg_lit (by omega) (by omega)) g1 g3
  have hch : ∃ BB CC : Int → Int → Int → Int, ∀ w : Int, rg w → cw y (y.1 5).toNat w w1 w3 (BB w) (CC w) := by
    have hex : ∀ w : Int, ∃ B C : Int → Int → Int, rg w → cw y (y.1 5).toNat w w1 w3 B C := by
      intro w
      by_cases hw : rg w
      · obtain ⟨B, C, h⟩ := cw_ex (v := (y.1 5).toNat) (w := w) (a := w1) (tick := w3) hI hv hw g1 g3
        exact ⟨B, C, fun _ => h⟩
      · exact ⟨fun _ _ => 0, fun _ _ => 0, fun q => absurd q hw⟩
    exact ⟨fun w => (hex w).choose, fun w => (hex w).choose_spec.choose, fun w hw => (hex w).choose_spec.choose_spec hw⟩
  obtain ⟨BB, CC, hB⟩ := hch
  rw [ex5]
  -- Y, up to its ways
  have ygo : ∀ {P : Int → XS → Prop}, (∀ u : XS, (∀ k : Nat, k ≠ 7 → u.1 k = (y00 y).1 k) → (∀ (j : Nat) (i : Int), (j ≤ 12 ∨ (21 < j ∧ j ≠ 26)) → rd u j i = rd y j i) → (∀ k : Int, 0 ≤ k → k < 2400 → rd u 26 k = rd y 22 k) → ly y u (y.1 5).toNat (-1) → wp (x_call (f_X7_ways u w1 w2 w3) (fun r9 x10 => x_jp (fun (x12 : XS) => x_jp (fun (x14 : XS) => x_eq r9 0 (x_call (f_X7_refuse x14 5) (fun r39 x40 => some (r39, x40))) (x_jp (fun (v16 : Int) (x17 : XS) => some (v16, x17)) (fun kx15 => x_loop3 (b_X7_weakest_162 r9 kx15 w1 w3 w2) x_fuel (-1) (-1) 0 x14))) (fun kx13 => x_loop1 (b_X7_weakest_114 kx13) x_fuel 0 x12)) (fun kx11 => x_loop1 (b_X7_weakest_82 r9 kx11) x_fuel 0 x10))) P) → wp (x_jp (fun (x6 : XS) => x_call (f_X7_lay x6 (x6.1 5) (-1)) (fun _ x8 => x_call (f_X7_ways x8 w1 w2 w3) (fun r9 x10 => x_jp (fun (x12 : XS) => x_jp (fun (x14 : XS) => x_eq r9 0 (x_call (f_X7_refuse x14 5) (fun r39 x40 => some (r39, x40))) (x_jp (fun (v16 : Int) (x17 : XS) => some (v16, x17)) (fun kx15 => x_loop3 (b_X7_weakest_162 r9 kx15 w1 w3 w2) x_fuel (-1) (-1) 0 x14))) (fun kx13 => x_loop1 (b_X7_weakest_114 kx13) x_fuel 0 x12)) (fun kx11 => x_loop1 (b_X7_weakest_82 r9 kx11) x_fuel 0 x10)))) (fun kx5 => x_loop1 (b_X7_weakest_33 kx5) x_fuel 0 (y00 y))) P := by
    intro P h
    refine wp_jp ?_
    refine sY_w33 (fun q q1 qj qk => ?_)
    have q5 : q.1 5 = y.1 5 := (q1 5).trans rfl
    rw [q5]
    refine wp_call (sY_lay hI (u := q) (fun k p _ => (q1 k).trans (by unfold y00; simp (disch := omega) only [rd_wr_eq, rd_wr_ne, rd_wr_j, rd_ps, wr_1, ps_eq, ps_ne])) (fun j i p => (qj j i (by omega)).trans rfl) hc1 (Int.le_refl _) (rg_lit (by omega) (by omega)) (fun u u1 uj hu => ?_))
    exact h u (fun k p => (u1 k p).trans (q1 k)) (fun j i p => (uj j i (by omega)).trans ((qj j i (by omega)).trans rfl)) (fun k p1 p2 => (uj 26 k (by omega)).trans ((qk k p1 p2).trans rfl)) hu
  refine wp_call (sX_explore hI hc1 (Int.le_refl _) g1 g3 hcw (Or.inr ⟨rfl, rfl⟩) (fun t ht ht10 htv htw => ?_))
  refine wp_call (sX_trace ht hv htv htw hcw ⟨hb.1, by omega⟩ (j1 := 1) (by decide) (fun hno => ?_) (fun z n come hfs hfe hn z1 zj hwy => ?_))
  · refine wp_jp ?_
    refine sX_weak ht hv ht10 htv g1 g3 ⟨hb.1, by omega⟩ hB (n := -1) (by omega) (fun k p1 p2 => absurd p2 (by omega)) (fun z f hz hf => ?_)
    have ef : f = -1 := by
      rcases hf with ⟨e, -⟩ | ⟨-, -, ⟨k, c1, c2, c3⟩, -⟩
      · exact e
      · omega
    subst ef
    refine sX_aow (rg_lit (by omega) (by omega)) ?_
    rw [if_pos rfl]
    refine ygo (fun u u1 uj uk hu => ?_)
    refine wp_call (sY_ways hI hv hcw hu (fun j i p => uj j i (by omega)) g1 g2 g3 (fun s s1 sj _ => ?_) (fun s n come hfs _ _ _ _ _ => ?_))
    · refine wp_jp ?_
      refine sY_w82 (by omega) (fun a a1 aj ak => ?_)
      refine wp_jp ?_
      refine sY_w114 (fun c c1 cj ck => ?_)
      refine wp_e0 ?_
      have cn : ∀ k : Nat, k ≠ 7 → c.1 k = (y00 y).1 k := fun k p => by rw [c1, a1, s1]; exact u1 k p
      have cr : ∀ (j : Nat) (i : Int), j ≤ 12 → rd c j i = rd y j i := fun j i p => by rw [cj j i (by omega), aj j i (by omega), sj j i (by omega)]; exact uj j i (by omega)
      have co : ∀ k : Int, 0 ≤ k → k < 2400 → rd c 22 k = rd y 22 k := fun k p1 p2 => by rw [ck k p1 p2, aj 26 k (by decide), sj 26 k (by omega)]; exact uk k p1 p2
      refine wp_call (sY_refuse (wp_ret ⟨rfl, Inv_ex2 hz (fun k p1 p2 p3 => ps_ne (by omega)) (fun j i p1 p2 p3 p4 => rd_ps) (fun k p1 p2 => ?_) (fun j i p => ?_) ?_ ⟨?_, ?_, ?_⟩⟩))
      · rw [ps_ne (by omega), cn k (by omega)]
        exact (y00_ex y).1 k p1 (by omega) (by omega)
      · rw [rd_ps]; exact cr j i p
      · have e8 : (xpS c 0 5).1 8 = y.1 8 := by
          rw [ps_ne (by decide), cn 8 (by decide)]; rfl
        have hzo := hz.2.2.2.1
        unfold iOut at hzo hout ⊢
        rw [e8, ps_ne (by decide)]
        refine ⟨hzo.1, hzo.2.1, hzo.2.2.1, fun k p1 p2 => ?_⟩
        rw [rd_ps, rd_ps, co k p1 (by omega)]
        exact hzo.2.2.2 k p1 p2
      · rw [ps_eq, ps_eq]
      · rw [ps_eq]; decide
      · rw [ps_eq]; decide
    · obtain ⟨⟨l, r, e1, e2, -⟩, -⟩ := hfs
      exact absurd ⟨e1, e2⟩ (hno l r)
  · have hex : exX t z := ⟨fun k _ _ _ => z1 k, fun j i _ _ p _ => zj j i p⟩
    have hzI : Inv z y := Inv_ex ht hex (exY.rf y) (by
      have hst := ht.2.2.2.2.1
      unfold iSta at hst ⊢
      rw [z1 1]
      exact hst)
    have hzv : vwOK z y (y.1 5).toNat := vw_cong (agr_all (fun _ _ _ _ => rfl) _) (fun j hj i => zj j i (by omega)) (z1 8) (z1 9) htv
    have hSr : ∀ k : Int, 0 ≤ k → k < n → 0 ≤ rd z 1 (2 * k) ∧ rd z 1 (2 * k) < y.1 3 := by
      intro k p1 p2
      have hS := wy_Sr hcw hn.1 hwy p1 p2
      have := Sr_rg hI hv hS
      exact ⟨hS.1, this.2.2.2.1⟩
    refine wp_jp ?_
    refine sX_weak hzI hv ((z1 10).trans ht10) hzv g1 g3 ⟨hb.1, by omega⟩ hB (n := n) (by omega) hSr (fun z' f hz hf => ?_)
    rcases hf with ⟨-, e⟩ | ⟨f1, f2, hwk⟩
    · exact absurd (show (0 : Int) < n by omega) (e 0 (by omega))
    refine sX_aow (rg_lit (by omega) (by omega)) ?_
    rw [if_neg (by omega)]
    refine ygo (fun u u1 uj uk hu => ?_)
    refine wp_call (sY_ways hI hv hcw hu (fun j i p => uj j i (by omega)) g1 g2 g3 (fun s s1 sj hno => ?_) (fun s n' come' hfs' hfe' hn' s1 sj hwy' => ?_))
    · obtain ⟨⟨l, r, e1, e2, -⟩, -⟩ := hfs
      exact absurd ⟨e1, e2⟩ (hno l r)
    · have ec := fstC_u hfs hfs'
      subst ec
      have e := fewC_u (by omega) (by omega) hfe hfe'
      subst e
      have hsame : ∀ k : Int, 0 ≤ k → k < n → rd z 1 (2 * k) = rd s 22 (2 * k) := fun k p1 p2 => (wyK_u hwy hwy' 1200 k p1 p2 (by omega)).1
      refine wp_jp ?_
      refine sY_w82 (by omega) (fun a a1 aj ak => ?_)
      refine wp_jp ?_
      refine sY_w114 (fun c c1 cj ck => ?_)
      refine wp_eq (by omega) (by omega) (by omega) (by omega) (fun p => absurd p (by omega)) (fun _ => ?_)
      have cn : ∀ k : Nat, k ≠ 7 → c.1 k = (y00 y).1 k := fun k p => by rw [c1, a1, s1]; exact u1 k p
      have cr : ∀ (j : Nat) (i : Int), j ≤ 12 → rd c j i = rd y j i := fun j i p => by rw [cj j i (by omega), aj j i (by omega), sj j i (by omega)]; exact uj j i (by omega)
      have co : ∀ k : Int, 0 ≤ k → k < 2400 → rd c 22 k = rd y 22 k := fun k p1 p2 => by rw [ck k p1 p2, aj 26 k (by decide), sj 26 k (by omega)]; exact uk k p1 p2
      have cw25 : ∀ k : Int, 0 ≤ k → k < n → rd c 25 k = rd z 1 (2 * k) := fun k p1 p2 => by rw [cj 25 k (by decide), ak k p1 p2]; exact (hsame k p1 p2).symm
      refine wp_jp ?_
      refine sY_weak hI hv (fun k p1 p2 => (cn k p2).trans (by unfold y00; simp (disch := omega) only [rd_wr_eq, rd_wr_ne, rd_wr_j, rd_ps, wr_1, ps_eq, ps_ne])) cr g1 g3 g2 hB hn (fun k p1 p2 => by rw [cw25 k p1 p2]; exact hSr k p1 p2) (fun d f' d1 dj hwk' => ?_)
      have ef : f = f' := wkB_u (fun l => ⟨fun ⟨k, p1, p2, p3⟩ => ⟨k, p1, p2, by rw [cw25 k p1 p2]; exact p3⟩, fun ⟨k, p1, p2, p3⟩ => ⟨k, p1, p2, by rw [← cw25 k p1 p2]; exact p3⟩⟩) hwk hwk'
      have e0 : d.1 0 = 0 := by rw [d1 0 (by decide), cn 0 (by decide)]; rfl
      refine wp_ret ⟨ef, Inv_ex2 hz (fun k p1 p2 p3 => ps_ne (by omega)) (fun j i p1 p2 p3 p4 => rd_ps) (fun k p1 p2 => ?_) (fun j i p => ?_) ?_ ⟨?_, ?_, ?_⟩⟩
      · by_cases hk7 : k = 7
        · omega
        · rw [d1 k hk7, cn k hk7]
          exact (y00_ex y).1 k p1 (by omega) hk7
      · rw [dj j i (by omega)]; exact cr j i p
      · have e8 : d.1 8 = y.1 8 := by
          rw [d1 8 (by decide), cn 8 (by decide)]; rfl
        have hzo := hz.2.2.2.1
        unfold iOut at hzo hout ⊢
        rw [e8, ps_ne (by decide)]
        refine ⟨hzo.1, hzo.2.1, hzo.2.2.1, fun k p1 p2 => ?_⟩
        rw [rd_ps, dj 22 k (by omega), co k p1 (by omega)]
        exact hzo.2.2.2 k p1 p2
      · rw [ps_eq, e0]
      · rw [e0]; decide
      · rw [e0]; decide
end WE
