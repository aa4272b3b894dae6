theorem sY_known {P : Int → XS → Prop} {x y : XS} (hI : Inv x y) {u : XS} (hu : u.1 3 = y.1 3) (huj : ∀ (j : Nat) (i : Int), j ≤ 12 → rd u j i = rd y j i) {v : Int} (h0 : 0 ≤ v) (h1 : v ≤ y.1 5)
    (h : ∀ z : XS, (∀ k : Nat, z.1 k = u.1 k) → (∀ (j : Nat) (i : Int), j ≠ 13 → j ≠ 14 → rd z j i = rd u j i) → (∀ l : Int, 0 ≤ l → l < y.1 3 → rd z 13 l = (if l < nput y v.toNat then 1 else 0) ∧ rd z 14 l = skd y l v.toNat) → P 0 z) : wp (f_X7_known u v) P := by
  obtain ⟨a1, a2, a3, a4, a5, a6, a7⟩ := hI.2.1
  have hle := hI.2.2.1.2.1
  have u3 := hu
  unfold f_X7_known
  refine wp_jp ?_
  refine wp_loop1 (fun i z => (0 ≤ i ∧ i ≤ y.1 3) ∧ (∀ k : Nat, z.1 k = u.1 k) ∧ (∀ (j : Nat) (q : Int), j ≠ 13 → j ≠ 14 → rd z j q = rd u j q) ∧ ∀ l : Int, 0 ≤ l → l < i → rd z 13 l = 0 ∧ rd z 14 l = 0) (fun i _ => (y.1 3 - i).toNat) (fun g i z hJ ih => ?_) x_fuel 0 u ⟨⟨by omega, by omega⟩, fun _ => rfl, fun _ _ _ _ => rfl, fun l a b => absurd b (by omega)⟩ (fu (by omega))
  obtain ⟨⟨i1, i2⟩, z1, zj, zo⟩ := hJ
  have z3 := z1 3
  unfold b_X7_known_2
  refine wp_le (by omega) (by omega) (by omega) (by omega) (fun hc => ?_) (fun hc => ?_)
  · have ei : i = y.1 3 := by omega
    subst ei
    refine wp_jp ?_
    refine wp_loop1 (fun c t => (0 ≤ c ∧ c ≤ v) ∧ (∀ k : Nat, t.1 k = u.1 k) ∧ (∀ (j : Nat) (q : Int), j ≠ 13 → j ≠ 14 → rd t j q = rd u j q) ∧ ∀ l : Int, 0 ≤ l → l < y.1 3 → rd t 13 l = (if l < nput y c.toNat then 1 else 0) ∧ rd t 14 l = skd y l c.toNat) (fun c _ => (v - c).toNat) (fun g2 c t hJ2 ih2 => ?_) x_fuel 0 z ⟨⟨by omega, by omega⟩, z1, zj, fun l a b => ?_⟩ (fu (by omega))
    · obtain ⟨⟨c1, c2⟩, t1, tj, to⟩ := hJ2
      unfold b_X7_known_32
      refine wp_le (by omega) (by omega) (by omega) (by omega) (fun hd => ?_) (fun hd => ?_)
      · have ec : c = v := by omega
        subst ec
        exact wp_ret (h t t1 tj to)
      · have hlg := hI.2.2.1.2.2.2.2.2.2.2.1 c c1 (by omega)
        have hlr := inv_lg hI c1 (by omega)
        have hnp := inv_np hI (c := c.toNat) (by omega)
        have hnp1 := inv_np hI (c := (c + 1).toNat) (by omega)
        have hnn := nput_nn y c.toNat
        have s1 := nput_s (y := y) c1
        have s3 : ∀ l : Int, skd y l (c + 1).toNat = if rd y 9 c = 1 ∧ rd y 10 c = l then 1 else skd y l c.toNat := fun l => skd_s c1
        have e9 : rd t 9 c = rd y 9 c := by rw [tj 9 c (by decide) (by decide)]; exact huj 9 c (by decide)
        have e10 : rd t 10 c = rd y 10 c := by rw [tj 10 c (by decide) (by decide)]; exact huj 10 c (by decide)
        refine wp_ld (by omega) (by omega) ?_
        rw [e9]
        refine wp_jp ?_
        refine wp_eq (by omega) (by omega) (by omega) (by omega) (fun k0 => ?_) (fun k0 => ?_)
        · have q : rd y 10 c = nput y c.toNat := by
            obtain ⟨-, q | q | q | q⟩ := hlg
            · exact q.2.2
            · omega
            · omega
            · omega
          rw [if_pos k0] at s1
          refine wp_ld (by omega) (by omega) ?_
          rw [e10]
          refine wp_stb (by omega) (by omega) (by omega) ?_
          refine wp_ld (by omega) (by omega) ?_
          rw [rd_wr_j (by decide), e9]
          refine wp_jp ?_
          refine wp_eq (by omega) (by omega) (by omega) (by omega) (fun k1 => absurd k1 (by omega)) (fun _ => ?_)
          refine wp_let (ih2 (c + 1) _ ⟨⟨by omega, by omega⟩, t1, fun j q a b => ?_, fun l a b => ?_⟩ (by omega))
          · rw [rd_wr_j a]; exact tj j q a b
          · obtain ⟨b1, b2⟩ := to l a b
            refine ⟨?_, ?_⟩
            rotate_left
            · rw [rd_wr_j (by decide), s3, if_neg (by omega), b2]
            rw [s1]
            by_cases hl : l = rd y 10 c
            · rw [hl, rd_wr_eq, if_pos (by omega)]
            · rw [rd_wr_ne (by omega) a hl, b1]
              by_cases hl2 : l < nput y c.toNat
              · rw [if_pos hl2, if_pos (by omega)]
              · rw [if_neg hl2, if_neg (by omega)]
        · rw [if_neg k0] at s1
          refine wp_ld (by omega) (by omega) ?_
          rw [e9]
          refine wp_jp ?_
          refine wp_eq (by omega) (by omega) (by omega) (by omega) (fun k1 => ?_) (fun k1 => ?_)
          · have q : 0 ≤ rd y 10 c ∧ rd y 10 c < nput y c.toNat := by
              obtain ⟨-, q | q | q | q⟩ := hlg
              · omega
              · exact ⟨q.2.2.1, q.2.2.2.1⟩
              · omega
              · omega
            refine wp_ld (by omega) (by omega) ?_
            rw [e10]
            refine wp_stb (by omega) (by omega) (by omega) ?_
            refine wp_let (ih2 (c + 1) _ ⟨⟨by omega, by omega⟩, t1, fun j q a b => ?_, fun l a b => ?_⟩ (by omega))
            · rw [rd_wr_j b]; exact tj j q a b
            · obtain ⟨b1, b2⟩ := to l a b
              refine ⟨?_, ?_⟩
              · rw [rd_wr_j (by decide), b1, show nput y (c + 1).toNat = nput y c.toNat by omega]
              rw [s3]
              by_cases hl : rd y 10 c = l
              · rw [if_pos ⟨k1, hl⟩, ← hl, rd_wr_eq]
              · rw [if_neg (fun q => hl q.2), rd_wr_ne q.1 a (fun q => hl q.symm), b2]
          · refine wp_let (ih2 (c + 1) _ ⟨⟨by omega, by omega⟩, t1, tj, fun l a b => ?_⟩ (by omega))
            obtain ⟨b1, b2⟩ := to l a b
            refine ⟨?_, ?_⟩
            · rw [b1, show nput y (c + 1).toNat = nput y c.toNat by omega]
            · rw [s3, if_neg (fun q => k1 q.1), b2]
    · obtain ⟨b1, b2⟩ := zo l a b
      rw [b1, b2]
      refine ⟨?_, rfl⟩
      rw [if_neg]
      show ¬ l < 0
      omega
  · refine wp_stb (by omega) (by omega) (by omega) ?_
    refine wp_stb (by omega) (by omega) (by omega) ?_
    refine wp_let (ih (i + 1) _ ⟨⟨by omega, by omega⟩, z1, fun j q a b => ?_, fun l a b => ?_⟩ (by omega))
    · rw [rd_wr_j b, rd_wr_j a]; exact zj j q a b
    · by_cases hl : l = i
      · subst hl
        rw [rd_wr_j (by decide), rd_wr_eq, rd_wr_eq]
        exact ⟨rfl, rfl⟩
      · rw [rd_wr_j (by decide), rd_wr_ne i1 a hl, rd_wr_ne i1 a hl, rd_wr_j (by decide)]
        exact zo l a (by omega)
section YL
variable {P : Int → XS → Prop} {x y z : XS}
theorem sY_leavesAt (hI : Inv x y) (hz : ∀ (j : Nat) (i : Int), j ≤ 12 → rd z j i = rd y j i) {v l r : Int} (h0 : 0 ≤ v) (h1 : v ≤ y.1 5) (l0 : 0 ≤ l) (l1 : l < y.1 3) (r0 : 0 ≤ r) (r1 : r < rd y 7 l) (h : P (lv y v.toNat l r) z) : wp (f_X7_leavesAt z l r v) P := by
  have hle := hI.2.2.1.2.1
  have hln := hI.2.1.2.1
  have q2 := (hI.2.1.2.2.2.2.2.2 l l0 l1).2
  unfold lnOK at q2
  unfold f_X7_leavesAt
  refine wp_jp ?_
  refine wp_loop2 (fun a c t => t = z ∧ (0 ≤ c ∧ c ≤ v) ∧ a = late y l r c.toNat) (fun _ c _ => (v - c).toNat) (fun g a c t hJ ih => ?_) x_fuel 0 0 z ⟨rfl, ⟨by omega, by omega⟩, rfl⟩ (fu (by omega))
  obtain ⟨rfl, ⟨c1, c2⟩, c3⟩ := hJ
  unfold b_X7_leavesAt_6
  refine wp_le (by omega) (by omega) (by omega) (by omega) (fun hd => ?_) (fun hd => ?_)
  · have ec : c = v := by omega
    subst ec
    refine wp_ld (by omega) (by omega) ?_
    refine wp_ld (by omega) (by omega) ?_
    rw [hz 5 l (by decide), hz 4 l (by decide)]
    refine wp_jp ?_
    unfold lv at h
    rw [← c3] at h
    refine wp_eq (by omega) (by omega) (by omega) (by omega) (fun hk => ?_) (fun hk => ?_)
    · refine wp_ld (by omega) (by omega) ?_
      rw [hz 8 l (by decide)]
      rw [if_pos hk] at h
      exact wp_ret h
    · rw [if_neg hk] at h
      exact wp_ret h
  · have hlr := inv_lg hI c1 (by omega)
    have s4 := late_s (y := y) (l := l) (r := r) c1
    have e9 := hz 9 c (by decide)
    have e10 := hz 10 c (by decide)
    have e11 := hz 11 c (by decide)
    have e12 := hz 12 c (by decide)
    refine wp_ld (by omega) (by omega) ?_
    rw [e9]
    refine wp_jp ?_
    have hno : ¬ (rd y 9 c = 2 ∧ rd y 10 c = l ∧ rd y 11 c = r) → wp (x_let (c + 1) (fun v18 => g a v18 t)) P := by
      intro hn
      rw [if_neg hn] at s4
      exact wp_let (ih a (c + 1) t ⟨rfl, ⟨by omega, by omega⟩, by rw [s4]; exact c3⟩ (by omega))
    refine wp_eq (by omega) (by omega) (by omega) (by omega) (fun k2 => ?_) (fun k2 => ?_)
    · refine wp_ld (by omega) (by omega) ?_
      rw [e10]
      refine wp_eq (by omega) (by omega) (by omega) (by omega) (fun k3 => ?_) (fun k3 => hno (by omega))
      refine wp_ld (by omega) (by omega) ?_
      rw [e11]
      refine wp_eq (by omega) (by omega) (by omega) (by omega) (fun k4 => ?_) (fun k4 => hno (by omega))
      refine wp_ld (by omega) (by omega) ?_
      rw [e12]
      rw [if_pos ⟨k2, k3, k4⟩] at s4
      exact wp_let (ih _ (c + 1) t ⟨rfl, ⟨by omega, by omega⟩, s4.symm⟩ (by omega))
    · exact hno (by omega)
theorem clo_up {y : XS} {n t : Int} {a : Nat} (h : clo y n t a = 1) (b : Nat) (hb : a ≤ b) : clo y n t b = 1 := by
  obtain ⟨c, h1, h2⟩ := (clo_iff y n t a).mp h
  exact (clo_iff y n t b).mpr ⟨c, by omega, h2⟩
theorem sY_isClosed (hI : Inv x y) (hz : ∀ (j : Nat) (i : Int), j ≤ 12 → rd z j i = rd y j i) {v n t : Int} (h0 : 0 ≤ v) (h1 : v ≤ y.1 5) (gn : rg n) (gt : rg t) (h : P (clo y n t v.toNat) z) : wp (f_X7_isClosed z n t v) P := by
  have hle := hI.2.2.1.2.1
  unfold f_X7_isClosed
  refine wp_jp ?_
  refine wp_loop1 (fun c u => u = z ∧ (0 ≤ c ∧ c ≤ v) ∧ clo y n t c.toNat = 0) (fun c _ => (v - c).toNat) (fun g c u hJ ih => ?_) x_fuel 0 z ⟨rfl, ⟨by omega, by omega⟩, rfl⟩ (fu (by omega))
  obtain ⟨rfl, ⟨c1, c2⟩, c3⟩ := hJ
  unfold b_X7_isClosed_3
  refine wp_le (by omega) (by omega) (by omega) (by omega) (fun hd => ?_) (fun hd => ?_)
  · have ec : c = v := by omega
    subst ec
    rw [c3] at h
    exact wp_ret h
  · have hlr := inv_lg hI c1 (by omega)
    have s4 := clo_s (y := y) (n := n) (t := t) c1
    have e9 := hz 9 c (by decide)
    have e10 := hz 10 c (by decide)
    have e11 := hz 11 c (by decide)
    have e12 := hz 12 c (by decide)
    refine wp_ld (by omega) (by omega) ?_
    rw [e9]
    refine wp_jp ?_
    have hno : ¬ (rd y 9 c = 3 ∧ rd y 10 c = n ∧ rd y 11 c ≤ t ∧ t ≤ rd y 12 c) → wp (x_let (c + 1) (fun v9 => g v9 u)) P := by
      intro hn
      rw [if_neg hn, c3] at s4
      exact wp_let (ih (c + 1) u ⟨rfl, ⟨by omega, by omega⟩, s4⟩ (by omega))
    refine wp_eq (by omega) (by omega) (by omega) (by omega) (fun k3 => ?_) (fun k3 => ?_)
    · refine wp_ld (by omega) (by omega) ?_
      rw [e10]
      refine wp_eq (by omega) (by omega) gn.1 gn.2 (fun k4 => ?_) (fun k4 => hno (by omega))
      refine wp_ld (by omega) (by omega) ?_
      rw [e11]
      refine wp_lt gt.1 gt.2 (by omega) (by omega) (fun k5 => hno (by omega)) (fun k5 => ?_)
      refine wp_ld (by omega) (by omega) ?_
      rw [e12]
      refine wp_lt (by omega) (by omega) gt.1 gt.2 (fun k6 => hno (by omega)) (fun k6 => ?_)
      rw [if_pos ⟨k3, k4, k5, k6⟩] at s4
      rw [clo_up s4 v.toNat (by omega)] at h
      exact wp_ret h
    · exact hno (by omega)
theorem sY_stands (hI : Inv x y) (hz : ∀ (j : Nat) (i : Int), j ≤ 12 → rd z j i = rd y j i) {v l r : Int} (h0 : 0 ≤ v) (h1 : v ≤ y.1 5) (l0 : 0 ≤ l) (l1 : l < nput y v.toNat) (r0 : 0 ≤ r) (r1 : r < rd y 7 l) (e13 : rd z 13 l = 1) (e14 : rd z 14 l = skd y l v.toNat) (h : P (stB y v.toNat l r) z) : wp (f_X7_stands z l (lv y v.toNat l r) v) P := by
  have hnp := inv_np hI (c := v.toNat) (by omega)
  have hln := hI.2.1.2.1
  have hn24 := hI.1.2.1
  have q2 := (hI.2.1.2.2.2.2.2.2 l l0 (by omega)).2
  unfold lnOK at q2
  have hrg := lv_rg hI (v := v.toNat) (by omega) l0 (by omega) r0 r1
  have hs01 := skd_01 y l v.toNat
  have estB : stB y v.toNat l r = if skd y l v.toNat = 0 ∧ cm y v.toNat l r ≤ 5000 ∧ clo y (rd y 2 l) (lv y v.toNat l r) v.toNat = 0 ∧ clo y (rd y 3 l) (cm y v.toNat l r) v.toNat = 0 then 1 else 0 := rfl
  have no : ¬ (skd y l v.toNat = 0 ∧ cm y v.toNat l r ≤ 5000 ∧ clo y (rd y 2 l) (lv y v.toNat l r) v.toNat = 0 ∧ clo y (rd y 3 l) (cm y v.toNat l r) v.toNat = 0) → wp (some (0, z)) P := fun hn => by
    rw [estB, if_neg hn] at h
    exact wp_ret h
  unfold f_X7_stands
  refine wp_ld (by omega) (by omega) ?_
  refine wp_let ?_
  rw [hz 6 l (by decide), show lv y v.toNat l r + rd y 6 l = cm y v.toNat l r from rfl]
  refine wp_ld (by omega) (by omega) ?_
  rw [e13]
  refine wp_e1 ?_
  refine wp_ld (by omega) (by omega) ?_
  rw [e14]
  refine wp_eq (by omega) (by omega) (by omega) (by omega) (fun k0 => ?_) (fun k0 => ?_)
  · refine wp_lt (by omega) (by omega) (by omega) (by omega) (fun k1 => ?_) (fun k1 => ?_)
    · exact no (by omega)
    refine wp_lt (by omega) (by omega) (by omega) (by omega) (fun k2 => ?_) (fun k2 => ?_)
    · exact no (by omega)
    refine wp_ld (by omega) (by omega) ?_
    rw [hz 2 l (by decide)]
    refine wp_call (sY_isClosed hI hz h0 h1 (rg_lit (by omega) (by omega)) (rg_lit (by omega) (by omega)) ?_)
    rcases clo_01 y (rd y 2 l) (lv y v.toNat l r) v.toNat with hc1 | hc1
    · rw [hc1]
      refine wp_e0 ?_
      refine wp_ld (by omega) (by omega) ?_
      rw [hz 3 l (by decide)]
      refine wp_call (sY_isClosed hI hz h0 h1 (rg_lit (by omega) (by omega)) (rg_lit (by omega) (by omega)) ?_)
      rcases clo_01 y (rd y 3 l) (cm y v.toNat l r) v.toNat with hc2 | hc2
      · rw [hc2]
        refine wp_e0 ?_
        rw [estB, if_pos ⟨k0, by omega, hc1, hc2⟩] at h
        exact wp_ret h
      · rw [hc2]
        refine wp_e1 ?_
        exact no (by omega)
    · rw [hc1]
      refine wp_e1 ?_
      exact no (by omega)
  · exact no (by omega)
end YL
