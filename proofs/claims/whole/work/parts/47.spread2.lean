/-- the worth of run i as it must be -/
def okW (x y t : XS) (v : Nat) (w a tick c i : Int) : Prop :=
  (rd t 28 i = -1 ∨ (0 ≤ rd t 28 i ∧ rd t 28 i ≤ rd x 21 i + c)) ∧ (rd x 20 i = w → rd t 28 i = -1) ∧
  (rd x 20 i ≠ w → (stt y v a tick (pX x i) (qX x y i) → rd t 28 i = if c = 0 then rd x 21 i else 1) ∧
    (¬ stt y v a tick (pX x i) (qX x y i) → (rd t 28 i = -1 ∧ ∀ j, DX x y v w j → fw y v (pX x j) (qX x y j) (pX x i) (qX x y i) → rd t 28 j = -1) ∨ (rd t 28 i ≠ -1 ∧ (∃ j, DX x y v w j ∧ fw y v (pX x j) (qX x y j) (pX x i) (qX x y i) ∧ rd t 28 j ≠ -1 ∧ rd t 28 i = rd t 28 j + c) ∧ ∀ j, DX x y v w j → fw y v (pX x j) (qX x y j) (pX x i) (qX x y i) → rd t 28 j ≠ -1 → vl c (rd t 28 j + c) ≤ vl c (rd t 28 i))))
section SQ
variable {P : Int → XS → Prop} {x y : XS} {v : Nat} {w : Int}
theorem X_fwlt (hI : Inv x y) (hv : (v : Int) ≤ y.1 5) (H : vwOK x y v) {i j : Int} (hi : isR y v i) (hi1 : rd x 23 i = 1) (hj : DX x y v w j) (hf : fw y v (pX x j) (qX x y j) (pX x i) (qX x y i)) : rd x 21 j < rd x 21 i := by
  have h1 := X_at hI hv H hi hi1
  have h2 := X_at hI hv H hj.1 hj.2.1
  have := fw_lt hI hv ((X_cov hI hv H).1 j hj) hf
  unfold pX at this
  omega
theorem okW_keep (hI : Inv x y) (hv : (v : Int) ≤ y.1 5) (H : vwOK x y v) {t t' : XS} {a tick c i : Int} (hi : isR y v i) (hi1 : rd x 23 i = 1) (h : okW x y t v w a tick c i) (e : rd t' 28 i = rd t 28 i) (ej : ∀ j : Int, isR y v j → rd x 23 j = 1 → rd x 21 j < rd x 21 i → rd t' 28 j = rd t 28 j) : okW x y t' v w a tick c i := by
  have ef : ∀ j, DX x y v w j → fw y v (pX x j) (qX x y j) (pX x i) (qX x y i) → rd t' 28 j = rd t 28 j := fun j hj hf => ej j hj.1 hj.2.1 (X_fwlt hI hv H hi hi1 hj hf)
  obtain ⟨h1, h2, h3⟩ := h
  refine ⟨by rw [e]; exact h1, by rw [e]; exact h2, fun hw => ⟨by rw [e]; exact (h3 hw).1, fun hn => ?_⟩⟩
  rw [e]
  rcases (h3 hw).2 hn with ⟨a1, a2⟩ | ⟨a1, ⟨j, b1, b2, b3, b4⟩, a3⟩
  · exact Or.inl ⟨a1, fun j hj hf => by rw [ef j hj hf]; exact a2 j hj hf⟩
  · refine Or.inr ⟨a1, ⟨j, b1, b2, by rw [ef j b1 b2]; exact b3, by rw [ef j b1 b2]; exact b4⟩, fun j hj hf => ?_⟩
    rw [ef j hj hf]
    exact a3 j hj hf
theorem gE_mono (H : vwOK x y v) : ∀ (d : Nat) (n : Int), 0 ≤ n → n + 1 + d < 24 → rd x 27 n ≤ gB x (n + 1 + d)
  | 0, n, h0, h1 => by
    unfold gB
    rw [if_neg (by omega), show n + 1 + ((0 : Nat) : Int) - 1 = n by omega]
    exact Int.le_refl _
  | d + 1, n, h0, h1 => by
    have h2 := gE_mono H d n h0 (by omega)
    have h3 := (H.2.2.2.2.2.2.1 (n + 1 + d) (by omega) (by omega)).2.1
    have e : gB x (n + 1 + ((d + 1 : Nat) : Int)) = rd x 27 (n + 1 + d) := by
      unfold gB
      rw [if_neg (by omega), show n + 1 + ((d + 1 : Nat) : Int) - 1 = n + 1 + d by omega]
    omega
theorem gE_le (H : vwOK x y v) {n m : Int} (h0 : 0 ≤ n) (h1 : n < m) (h2 : m < 24) : rd x 27 n ≤ gB x m := by
  have := gE_mono H (m - n - 1).toNat n h0 (by omega)
  rw [show n + 1 + (((m - n - 1).toNat : Nat) : Int) = m by omega] at this
  exact this
theorem sX_spread (hI : Inv x y) (hv : (v : Int) ≤ y.1 5) (H : vwOK x y v) {a tick c : Int} (hc : c = 0 ∨ c = 1) (ga : rg a) (gt : rg tick) (gw : rg w)
    (h : ∀ t : XS, (∀ k : Nat, k ≠ 11 → t.1 k = x.1 k) → (∀ (j : Nat) (q : Int), (j < 28 ∨ 32 < j) → rd t j q = rd x j q) → (∀ i : Int, isR y v i → rd x 23 i = 1 → okW x y t v w a tick c i) → P 0 t) : wp (f_X3_spread x a tick w c) P := by
  have hsz := H.2.2.1
  have hn24 := hI.1.2.1
  have hl100 := hI.2.1.2.1
  unfold f_X3_spread
  refine wp_let ?_
  have H0 : vwOK (xpS x 11 c) y v := vw_cong (agr_all (fun _ _ _ _ => rfl) _) (fun j _ i => rfl) (ps_ne (by decide)) (ps_ne (by decide)) H
  refine wp_call (sX_emptyQueues (fun x0 x1 xj xo => ?_))
  have x11 : x0.1 11 = c := by rw [x1]; exact ps_eq
  have xk : ∀ k : Nat, k ≠ 11 → x0.1 k = x.1 k := fun k hk => by rw [x1]; exact ps_ne hk
  have xg : ∀ n : Int, gB (xpS x 11 c) n = gB x n := fun n => rfl
  have xr : ∀ (j : Nat) (q : Int), j ≠ 30 → j ≠ 31 → j ≠ 32 → rd x0 j q = rd x j q := fun j q b1 b2 b3 => by rw [xj j q b1 b2 b3]; rfl
  refine wp_jp ?_
  refine wp_loop1 (fun i t => (0 ≤ i ∧ i ≤ x.1 9) ∧ (∀ k : Nat, k ≠ 11 → t.1 k = x.1 k) ∧ t.1 11 = c ∧ (∀ (j : Nat) (q : Int), (j < 28 ∨ 32 < j) → rd t j q = rd x j q) ∧ (∀ k : Int, 0 ≤ k → k < i → okW x y t v w a tick c (rd x 24 k)) ∧ (∀ n : Int, 0 ≤ n → n < 24 → ∃ tau : Int, (∀ k : Int, i ≤ k → k < x.1 9 → tau ≤ rd x 21 (rd x 24 k)) ∧ nq x y t c tau n)) (fun i _ => (x.1 9 - i).toNat) (fun g i t hJ ih => ?_) x_fuel 0 x0 ⟨⟨by omega, by omega⟩, xk, x11, fun j q b => xr j q (by omega) (by omega) (by omega), fun k b1 b2 => absurd b2 (by omega), fun n n0 n1 => ⟨0, fun k b1 b2 => ?_, ?_⟩⟩ (fu (by omega))
  rotate_left
  · obtain ⟨c1, c2⟩ := H.2.2.2.1 k b1 b2
    exact (X_at hI hv H c1 c2).2.2.2.2.2.2.1.1
  · obtain ⟨c1, c2, c3⟩ := xo n n0 n1
    rw [xg] at c1 c2 c3
    have eg : gB x0 n = gB x n := by unfold gB; rw [xr 27 _ (by decide) (by decide) (by decide)]
    have hsg := H.2.2.2.2.2.2.1 n n0 n1
    refine ⟨fun m b1 b2 => absurd b2 (by omega), ⟨?_, fun k b1 b2 => absurd b2 (by omega), fun k k' b1 b2 b3 => absurd b3 (by omega), fun m b1 b2 => absurd b2 (by omega)⟩⟩
    rw [eg, c1, c2, c3, xr 27 _ (by decide) (by decide) (by decide)]
    omega
  obtain ⟨⟨i1, i2⟩, t1, t11, tj, tdone, tq⟩ := hJ
  unfold b_X3_spread_13
  rw [t1 9 (by decide)]
  refine wp_le (by omega) (by omega) (by omega) (by omega) (fun hd => ?_) (fun hd => ?_)
  · have ei : i = x.1 9 := by omega
    refine wp_ret (h t t1 tj (fun q b1 b2 => ?_))
    obtain ⟨k, c1, c2, c3⟩ := H.2.2.2.2.1 q b1 b2
    rw [← c3]
    exact tdone k c1 (by omega)
  · obtain ⟨hi, hi1⟩ := H.2.2.2.1 i i1 hd
    obtain ⟨o, eo⟩ : ∃ o, o = rd x 24 i := ⟨_, rfl⟩
    rw [← eo] at hi hi1
    have hA := X_at hI hv H hi hi1
    have hln := (hI.2.1.2.2.2.2.2.2 (rd x 20 o) hA.1.1 hA.1.2.2).1
    -- those that left sooner are done
    have early : ∀ j : Int, isR y v j → rd x 23 j = 1 → rd x 21 j < rd x 21 o → okW x y t v w a tick c j := by
      intro j hj hj1 hlt
      obtain ⟨k, c1, c2, c3⟩ := H.2.2.2.2.1 j hj hj1
      rw [← c3]
      refine tdone k c1 ?_
      by_cases hk : k < i
      · exact hk
      · by_cases hki : k = i
        · rw [← c3, hki, ← eo] at hlt
          omega
        · have := H.2.2.2.2.2.1 i k i1 (by omega) c2
          rw [c3, ← eo] at this
          omega
    have later : ∀ k : Int, i ≤ k → k < x.1 9 → rd x 21 o ≤ rd x 21 (rd x 24 k) := by
      intro k b1 b2
      by_cases hki : k = i
      · rw [hki, eo]; exact Int.le_refl _
      · have := H.2.2.2.2.2.1 i k i1 (by omega) b2
        rw [← eo] at this
        exact this
    have sooner : ∀ k : Int, 0 ≤ k → k < i → rd x 21 (rd x 24 k) ≤ rd x 21 o := by
      intro k b1 b2
      have := H.2.2.2.2.2.1 k i b1 b2 hd
      rw [← eo] at this
      exact this
    -- the worth is set
    have put : ∀ (z : XS) (r : Int), (∀ k : Nat, z.1 k = t.1 k) → (∀ (j : Nat) (q : Int), (j < 29 ∨ 32 < j) → rd z j q = rd t j q) → (∀ n : Int, 0 ≤ n → n < 24 → ∃ tau : Int, (∀ k : Int, i ≤ k → k < x.1 9 → tau ≤ rd x 21 (rd x 24 k)) ∧ nq x y z c tau n) → okW x y (wr z 28 o r) v w a tick c o → wp (x_st z 28 1200 o r (fun x20 => x_let (i + 1) (fun v13 => g v13 x20))) P := by
      intro z r z1 zj zq zo
      refine wp_st hA.2.2.2.2.2.1.1 (by omega) ?_
      have e28 : ∀ j : Int, 0 ≤ j → j ≠ o → rd (wr z 28 o r) 28 j = rd t 28 j := fun j b1 b2 => by rw [rd_wr_ne (by omega) b1 b2]; exact zj 28 j (by omega)
      refine wp_let (ih (i + 1) _ ⟨⟨by omega, by omega⟩, fun k hk => (z1 k).trans (t1 k hk), (z1 11).trans t11, fun j q b => ?_, fun k b1 b2 => ?_, fun n n0 n1 => ?_⟩ (by omega))
      · rw [rd_wr_j (by omega), zj j q (by omega)]; exact tj j q b
      · obtain ⟨hk, hk1⟩ := H.2.2.2.1 k b1 (by omega)
        by_cases hko : rd x 24 k = o
        · rw [hko]; exact zo
        · have hki : k < i := by
            by_cases hki : k = i
            · rw [hki] at hko; exact absurd eo.symm hko
            · omega
          have hle := sooner k b1 hki
          have hkA := X_at hI hv H hk hk1
          refine okW_keep hI hv H hk hk1 (tdone k b1 hki) (e28 _ hkA.2.2.2.2.2.1.1 hko) (fun j hj hj1 hlt => e28 j ?_ (fun e => ?_))
          · exact (X_at hI hv H hj hj1).2.2.2.2.2.1.1
          · rw [e] at hlt; omega
      · obtain ⟨tau, b1, b2, b3⟩ := zq n n0 n1
        refine ⟨tau, fun k c1 c2 => b1 k (by omega) c2, fun m c1 c2 => ?_, ?_⟩
        · rw [rd_wr_j (by decide)] at c2
          exact b2 m c1 c2
        · rw [rd_wr_j (by decide)]
          have zg : gB z n = gB x n := by unfold gB; rw [zj 27 _ (by omega), tj 27 _ (by omega)]
          have hsg := H.2.2.2.2.2.2.1 n n0 n1
          refine qi_keep b3 (by rw [zg]; exact hsg.1) (fun q => rd_wr_j (by decide)) (fun q => rd_wr_j (by decide)) (fun q => rd_wr_j (by decide)) (fun q _ _ => rd_wr_j (by decide)) (rd_wr_j (by decide)) (rd_wr_j (by decide)) (fun m c1 c2 => ?_)
          rw [zg] at c1
          have hmN := b3.1.2.2.2
          rw [zj 27 _ (by omega), tj 27 _ (by omega)] at hmN
          obtain ⟨d1, d2, d3⟩ := H.2.2.2.2.2.2.2.1 n m n0 n1 c1 (by omega)
          have hmA := X_at hI hv H d1 d2
          rw [zj 25 _ (by omega), tj 25 _ (by omega)]
          refine rd_wr_ne hA.2.2.2.2.2.1.1 hmA.2.2.2.2.2.1.1 (fun e => ?_)
          have h1 := b2 m c1 c2
          have h2 := b1 i (Int.le_refl _) hd
          rw [← eo, ← e] at h2
          have h3 := hI.1.2.2.2 n n0 (by have := hmA.2.2.2.2.2.2.2.2.1; omega)
          omega
    -- the worth of run o now
    have okO : ∀ (z : XS) (r : Int), (∀ q : Int, rd z 28 q = rd t 28 q) → (r = -1 ∨ (0 ≤ r ∧ r ≤ rd x 21 o + c)) → (rd x 20 o = w → r = -1) → (rd x 20 o ≠ w → (stt y v a tick (pX x o) (qX x y o) → r = if c = 0 then rd x 21 o else 1) ∧ (¬ stt y v a tick (pX x o) (qX x y o) → (r = -1 ∧ ∀ j, DX x y v w j → fw y v (pX x j) (qX x y j) (pX x o) (qX x y o) → rd t 28 j = -1) ∨ (r ≠ -1 ∧ (∃ j, DX x y v w j ∧ fw y v (pX x j) (qX x y j) (pX x o) (qX x y o) ∧ rd t 28 j ≠ -1 ∧ r = rd t 28 j + c) ∧ ∀ j, DX x y v w j → fw y v (pX x j) (qX x y j) (pX x o) (qX x y o) → rd t 28 j ≠ -1 → vl c (rd t 28 j + c) ≤ vl c r))) → okW x y (wr z 28 o r) v w a tick c o := by
      intro z r hz b1 b2 b3
      have ef : ∀ j, DX x y v w j → fw y v (pX x j) (qX x y j) (pX x o) (qX x y o) → rd (wr z 28 o r) 28 j = rd t 28 j := by
        intro j hj hf
        have := X_fwlt hI hv H hi hi1 hj hf
        rw [rd_wr_ne hA.2.2.2.2.2.1.1 (X_at hI hv H hj.1 hj.2.1).2.2.2.2.2.1.1 (fun e => by rw [e] at this; omega)]
        exact hz j
      refine ⟨by rw [rd_wr_eq]; exact b1, by rw [rd_wr_eq]; exact b2, fun hw => ⟨by rw [rd_wr_eq]; exact (b3 hw).1, fun hn => ?_⟩⟩
      rw [rd_wr_eq]
      rcases (b3 hw).2 hn with ⟨a1, a2⟩ | ⟨a1, ⟨j, d1, d2, d3, d4⟩, a3⟩
      · exact Or.inl ⟨a1, fun j hj hf => by rw [ef j hj hf]; exact a2 j hj hf⟩
      · refine Or.inr ⟨a1, ⟨j, d1, d2, by rw [ef j d1 d2]; exact d3, by rw [ef j d1 d2]; exact d4⟩, fun j hj hf => ?_⟩
        rw [ef j hj hf]
        exact a3 j hj hf
    refine wp_ld i1 (by omega) ?_
    rw [tj 24 _ (by omega), ← eo]
    refine wp_ld hA.2.2.2.2.2.1.1 (by omega) ?_
    rw [tj 20 _ (by omega)]
    refine wp_jp ?_
    refine wp_eq (by omega) (by omega) gw.1 gw.2 (fun hw => ?_) (fun hw => ?_)
    · exact put t (-1) (fun _ => rfl) (fun _ _ _ => rfl) tq (okO t (-1) (fun _ => rfl) (Or.inl rfl) (fun _ => rfl) (fun q => absurd hw q))
    · have rest : ¬ stt y v a tick (pX x o) (qX x y o) → wp (x_call (f_X3_worthBehindOthers t o) (fun r18 x19 => x_st x19 28 1200 o r18 (fun x20 => x_let (i + 1) (fun v13 => g v13 x20)))) P := by
        intro hns
        obtain ⟨n, en⟩ : ∃ n, n = rd y 2 (rd x 20 o) := ⟨_, rfl⟩
        have hn : 0 ≤ n ∧ n < y.1 2 := by rw [en]; exact hA.2.2.2.2.2.2.2.1
        obtain ⟨tau, b1, b2⟩ := tq n hn.1 (by omega)
        have htau := b1 i (Int.le_refl _) hd
        rw [← eo] at htau
        refine wp_call (sX_worth hI hv H (w := w) hc t11 tj hi hi1 (fun j hj hj1 hlt => ⟨(early j hj hj1 hlt).1, (early j hj hj1 hlt).2.1⟩) htau (by rw [← en]; exact b2) (fun r z z1 zj z30 z29 zq hr => ?_))
        rw [← en] at z30 z29 zq
        refine put z r z1 zj (fun m m0 m1 => ?_) (okO z r (fun q => zj 28 q (by omega)) ?_ (fun q => absurd q hw) (fun _ => ⟨fun q => absurd q hns, fun _ => hr⟩))
        · by_cases hmn : m = n
          · rw [hmn]; exact ⟨_, later, zq⟩
          · obtain ⟨tau', d1, d2, d3⟩ := tq m m0 m1
            obtain ⟨e1, e2, e3⟩ := z30 m m0 hmn
            have tg : gB t m = gB x m := by unfold gB; rw [tj 27 _ (by omega)]
            have hsg := H.2.2.2.2.2.2.1 m m0 m1
            refine ⟨tau', d1, fun q f1 f2 => d2 q f1 (by rw [e3] at f2; exact f2), ?_⟩
            rw [e3]
            refine qi_keep d3 (by rw [tg]; exact hsg.1) (fun q => zj 22 q (by omega)) (fun q => zj 25 q (by omega)) (fun q => zj 27 q (by omega)) (fun q f1 f2 => z29 q ?_ ?_) e1 e2 (fun q _ _ => zj 28 _ (by omega))
            · rw [tg] at f1; omega
            · rw [tg] at f1
              rw [tj 27 _ (by omega)] at f2
              rcases Int.lt_or_gt_of_ne hmn with q1 | q1
              · have := gE_le H m0 q1 (by omega)
                omega
              · have := gE_le H hn.1 q1 m1
                omega
        · rcases hr with ⟨q1, q2⟩ | ⟨q1, ⟨j, d1, d2, d3, d4⟩, q3⟩
          · exact Or.inl q1
          · have hlt := X_fwlt hI hv H hi hi1 d1 d2
            have := (early j d1.1 d1.2.1 hlt).1
            exact Or.inr (by omega)
      refine wp_call (sX_startOf hA.2.2.2.2.2.1.1 hA.2.2.2.2.2.1.2 (by rw [tj 20 _ (by omega)]; exact hA.1.1) (by rw [tj 20 _ (by omega)]; omega) ?_)
      rw [tj 20 _ (by omega), tj 4 _ (by omega), hln.1]
      refine wp_jp ?_
      have hst : stt y v a tick (pX x o) (qX x y o) ↔ rd y 2 (rd x 20 o) = a ∧ tick ≤ rd x 21 o := by
        rw [hA.2.2.2.1]
        exact Iff.rfl
      refine wp_eq (by omega) (by omega) ga.1 ga.2 (fun ha => ?_) (fun ha => rest (fun q => ha (hst.mp q).1))
      refine wp_ld hA.2.2.2.2.2.1.1 (by omega) ?_
      rw [tj 21 _ (by omega)]
      refine wp_lt (by omega) (by omega) gt.1 gt.2 (fun hb => rest (fun q => absurd (hst.mp q).2 (by omega))) (fun hb => ?_)
      have hs := hst.mpr ⟨ha, hb⟩
      refine wp_jp ?_
      rcases hc with hc0 | hc1
      · rw [hc0]
        refine wp_e0 ?_
        refine wp_ld hA.2.2.2.2.2.1.1 (by omega) ?_
        rw [tj 21 _ (by omega)]
        exact put t _ (fun _ => rfl) (fun _ _ _ => rfl) tq (okO t _ (fun _ => rfl) (Or.inr (by omega)) (fun q => absurd q hw) (fun _ => ⟨fun _ => by rw [if_pos hc0], fun q => absurd hs q⟩))
      · rw [hc1]
        refine wp_e1 ?_
        exact put t _ (fun _ => rfl) (fun _ _ _ => rfl) tq (okO t _ (fun _ => rfl) (Or.inr (by omega)) (fun q => absurd q hw) (fun _ => ⟨fun _ => by rw [if_neg (by omega)], fun q => absurd hs q⟩))
end SQ
