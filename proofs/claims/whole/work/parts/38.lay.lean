/-- Y's row of standing runs, so far -/
def lyp (y z : XS) (v : Nat) (w l r : Int) : Prop :=
  (0 ≤ z.1 7 ∧ z.1 7 ≤ bs y l.toNat + r ∧ (w = -1 → z.1 7 = tot y v l.toNat + nst y v l r.toNat)) ∧
  (∀ s : Int, 0 ≤ s → s < z.1 7 → ∃ l' r' : Int, 0 ≤ l' ∧ l' < nput y v ∧ 0 ≤ r' ∧ r' < rd y 7 l' ∧ dn l r l' r' ∧ l' ≠ w ∧ stB y v l' r' = 1 ∧ rd z 15 s = l' ∧ rd z 16 s = r' ∧ rd z 17 s = lv y v l' r' ∧ rd z 18 s = cm y v l' r') ∧
  (∀ l' r' : Int, 0 ≤ l' → l' < nput y v → 0 ≤ r' → r' < rd y 7 l' → dn l r l' r' → l' ≠ w → stB y v l' r' = 1 → ∃ s : Int, 0 ≤ s ∧ s < z.1 7 ∧ rd z 15 s = l' ∧ rd z 16 s = r') ∧
  (∀ s s' : Int, 0 ≤ s → s < s' → s' < z.1 7 → rd z 17 s ≤ rd z 17 s')
/-- one more run put in -/
theorem sY_insert {P : Int → XS → Prop} {x y u : XS} {v : Nat} (hI : Inv x y) (hv : (v : Int) ≤ y.1 5) {w l r : Int} (l0 : 0 ≤ l) (l1 : l < nput y v) (r0 : 0 ≤ r) (r1 : r < rd y 7 l) (hw : l ≠ w) (hst : stB y v l r = 1) (hu : lyp y u v w l r) (hj : ∀ (j : Nat) (i : Int), j ≤ 12 → rd u j i = rd y j i) {K : XS → XR}
    (h : ∀ z : XS, (∀ k : Nat, k ≠ 7 → z.1 k = u.1 k) → (∀ (j : Nat) (i : Int), (j ≤ 14 ∨ 18 < j) → rd z j i = rd u j i) → lyp y z v w l (r + 1) → wp (K z) P) :
    wp (x_let (u.1 7) (fun v24 => x_jp (fun (v26 : Int) (x27 : XS) => x_st x27 15 1200 v26 l (fun x28 => x_st x28 16 1200 v26 r (fun x29 => x_st x29 17 1200 v26 (lv y v l r) (fun x30 => x_ld (x30.2 6) 100 l (fun v31 => x_st x30 18 1200 v26 ((lv y v l r) + v31) (fun x32 => x_let (xpS x32 7 ((x32.1 7) + 1)) (fun x33 => K x33))))))) (fun kx25 => x_loop1 (b_X7_lay_81 kx25 (lv y v l r)) x_fuel v24 u))) P := by
  obtain ⟨⟨u1, u2, u3⟩, u4, u5, u6⟩ := hu
  have hnp := inv_np hI hv
  have hl3 : l < y.1 3 := by omega
  have hln := hI.2.1.2.1
  have hin := id_in hI l0 hl3 r0 r1
  have hrg := lv_rg hI hv l0 hl3 r0 r1
  have hns := nst_s (y := y) (v := v) (l := l) r0
  have q2 := (hI.2.1.2.2.2.2.2.2 l l0 hl3).2
  unfold lnOK at q2
  have hlvs : ∀ s : Int, 0 ≤ s → s < u.1 7 → 0 ≤ rd u 17 s ∧ rd u 17 s ≤ 60000 := by
    intro s a b
    obtain ⟨l', r', b1, b2, b3, b4, -, -, -, -, -, b10, -⟩ := u4 s a b
    have := lv_rg hI hv b1 (by omega) b3 b4
    omega
  obtain ⟨n, en⟩ : ∃ n, n = u.1 7 := ⟨_, rfl⟩
  rw [← en] at u1 u2 u3 u4 u5 u6 hlvs
  refine wp_let (wp_jp ?_)
  rw [← en]
  refine wp_loop1 (fun k t => (0 ≤ k ∧ k ≤ n) ∧ (∀ q : Nat, t.1 q = u.1 q) ∧ (∀ (j : Nat) (i : Int), (j ≤ 14 ∨ 18 < j) → rd t j i = rd u j i) ∧ (∀ (j : Nat) (i : Int), 15 ≤ j → j ≤ 18 → 0 ≤ i → i < k → rd t j i = rd u j i) ∧ (∀ (j : Nat) (i : Int), 15 ≤ j → j ≤ 18 → k < i → i ≤ n → rd t j i = rd u j (i - 1)) ∧ (∀ i : Int, k ≤ i → i < n → lv y v l r < rd u 17 i)) (fun k _ => k.toNat) (fun g k t hJ ih => ?_) x_fuel n u ⟨⟨by omega, by omega⟩, fun _ => rfl, fun _ _ _ => rfl, fun _ _ _ _ _ _ => rfl, fun j i a b c d => absurd d (by omega), fun i a b => absurd b (by omega)⟩ (fu (by omega))
  obtain ⟨⟨k1, k2⟩, t1, tj, ta, tb, tc⟩ := hJ
  -- the place is found
  have fin : (k = 0 ∨ rd u 17 (k - 1) ≤ lv y v l r) → wp (x_st t 15 1200 k l (fun x28 => x_st x28 16 1200 k r (fun x29 => x_st x29 17 1200 k (lv y v l r) (fun x30 => x_ld (x30.2 6) 100 l (fun v31 => x_st x30 18 1200 k ((lv y v l r) + v31) (fun x32 => x_let (xpS x32 7 ((x32.1 7) + 1)) (fun x33 => K x33))))))) P := by
    intro hk
    refine wp_st (by omega) (by omega) ?_
    refine wp_st (by omega) (by omega) ?_
    refine wp_st (by omega) (by omega) ?_
    refine wp_ld (by omega) (by omega) ?_
    rw [rd_wr_j (by decide), rd_wr_j (by decide), rd_wr_j (by decide), tj 6 l (by omega), hj 6 l (by decide), show lv y v l r + rd y 6 l = cm y v l r from rfl]
    refine wp_st (by omega) (by omega) ?_
    refine wp_let (h _ ?_ ?_ ?_)
    · intro q a; rw [ps_ne a]; exact t1 q
    · intro j i a
      rw [rd_ps, rd_wr_j (by omega), rd_wr_j (by omega), rd_wr_j (by omega), rd_wr_j (by omega)]
      exact tj j i a
    obtain ⟨z, ez⟩ : ∃ z, z = xpS (wr (wr (wr (wr t 15 k l) 16 k r) 17 k (lv y v l r)) 18 k (cm y v l r)) 7 ((wr (wr (wr (wr t 15 k l) 16 k r) 17 k (lv y v l r)) 18 k (cm y v l r)).1 7 + 1) := ⟨_, rfl⟩
    rw [← ez]
    have z7 : z.1 7 = n + 1 := by rw [ez, ps_eq, wr_1, wr_1, wr_1, wr_1, t1, en]
    have zk : rd z 15 k = l ∧ rd z 16 k = r ∧ rd z 17 k = lv y v l r ∧ rd z 18 k = cm y v l r := by
      rw [ez]
      refine ⟨?_, ?_, ?_, ?_⟩
      · rw [rd_ps, rd_wr_j (by decide), rd_wr_j (by decide), rd_wr_j (by decide), rd_wr_eq]
      · rw [rd_ps, rd_wr_j (by decide), rd_wr_j (by decide), rd_wr_eq]
      · rw [rd_ps, rd_wr_j (by decide), rd_wr_eq]
      · rw [rd_ps, rd_wr_eq]
    have zo : ∀ (j : Nat) (i : Int), 15 ≤ j → j ≤ 18 → 0 ≤ i → i ≠ k → rd z j i = rd t j i := by
      intro j i a b c d
      have : j = 15 ∨ j = 16 ∨ j = 17 ∨ j = 18 := by omega
      rw [ez, rd_ps]
      rcases this with q | q | q | q <;> subst q
      · rw [rd_wr_j (by decide), rd_wr_j (by decide), rd_wr_j (by decide), rd_wr_ne k1 c d]
      · rw [rd_wr_j (by decide), rd_wr_j (by decide), rd_wr_ne k1 c d, rd_wr_j (by decide)]
      · rw [rd_wr_j (by decide), rd_wr_ne k1 c d, rd_wr_j (by decide), rd_wr_j (by decide)]
      · rw [rd_wr_ne k1 c d, rd_wr_j (by decide), rd_wr_j (by decide), rd_wr_j (by decide)]
    have zlo : ∀ (j : Nat) (i : Int), 15 ≤ j → j ≤ 18 → 0 ≤ i → i < k → rd z j i = rd u j i := fun j i a b c d => by rw [zo j i a b c (by omega)]; exact ta j i a b c d
    have zhi : ∀ (j : Nat) (i : Int), 15 ≤ j → j ≤ 18 → k < i → i ≤ n → rd z j i = rd u j (i - 1) := fun j i a b c d => by rw [zo j i a b (by omega) (by omega)]; exact tb j i a b c d
    have dsp : ∀ l' r' : Int, dn l (r + 1) l' r' → dn l r l' r' ∨ (l' = l ∧ r' = r) := by
      intro l' r' a
      unfold dn at a ⊢
      omega
    have dup : ∀ l' r' : Int, dn l r l' r' → dn l (r + 1) l' r' := by
      intro l' r' a
      unfold dn at a ⊢
      omega
    refine ⟨⟨by omega, by omega, fun a => ?_⟩, fun s a b => ?_, fun l' r' a1 a2 a3 a4 a5 a6 a7 => ?_, fun s s' a b c => ?_⟩
    · have := u3 a
      rw [hns, hst]
      omega
    · by_cases hs : s = k
      · subst hs
        refine ⟨l, r, l0, l1, r0, r1, ?_, hw, hst, zk.1, zk.2.1, zk.2.2.1, zk.2.2.2⟩
        unfold dn
        omega
      · by_cases hlt : s < k
        · obtain ⟨l', r', b1, b2, b3, b4, b5, b6, b7, b8, b9, b10, b11⟩ := u4 s a (by omega)
          exact ⟨l', r', b1, b2, b3, b4, dup _ _ b5, b6, b7, by rw [zlo 15 s (by omega) (by omega) a hlt]; exact b8, by rw [zlo 16 s (by omega) (by omega) a hlt]; exact b9, by rw [zlo 17 s (by omega) (by omega) a hlt]; exact b10, by rw [zlo 18 s (by omega) (by omega) a hlt]; exact b11⟩
        · obtain ⟨l', r', b1, b2, b3, b4, b5, b6, b7, b8, b9, b10, b11⟩ := u4 (s - 1) (by omega) (by omega)
          exact ⟨l', r', b1, b2, b3, b4, dup _ _ b5, b6, b7, by rw [zhi 15 s (by omega) (by omega) (by omega) (by omega)]; exact b8, by rw [zhi 16 s (by omega) (by omega) (by omega) (by omega)]; exact b9, by rw [zhi 17 s (by omega) (by omega) (by omega) (by omega)]; exact b10, by rw [zhi 18 s (by omega) (by omega) (by omega) (by omega)]; exact b11⟩
    · rcases dsp l' r' a5 with q | ⟨q, q'⟩
      · obtain ⟨s, b1, b2, b3, b4⟩ := u5 l' r' a1 a2 a3 a4 q a6 a7
        by_cases hlt : s < k
        · exact ⟨s, b1, by omega, by rw [zlo 15 s (by omega) (by omega) b1 hlt]; exact b3, by rw [zlo 16 s (by omega) (by omega) b1 hlt]; exact b4⟩
        · exact ⟨s + 1, by omega, by omega, by rw [zhi 15 (s + 1) (by omega) (by omega) (by omega) (by omega), show s + 1 - 1 = s by omega]; exact b3, by rw [zhi 16 (s + 1) (by omega) (by omega) (by omega) (by omega), show s + 1 - 1 = s by omega]; exact b4⟩
      · subst q
        subst q'
        exact ⟨k, k1, by omega, zk.1, zk.2.1⟩
    · rw [z7] at c
      by_cases h1 : s < k
      · rw [zlo 17 s (by omega) (by omega) a h1]
        by_cases h2 : s' < k
        · rw [zlo 17 s' (by omega) (by omega) (by omega) h2]
          exact u6 s s' a b (by omega)
        · have hk1 : rd u 17 s ≤ lv y v l r := by
            have : rd u 17 (k - 1) ≤ lv y v l r := by omega
            by_cases hs : s = k - 1
            · rw [hs]; exact this
            · have := u6 s (k - 1) a (by omega) (by omega)
              omega
          by_cases h3 : s' = k
          · rw [h3, zk.2.2.1]; exact hk1
          · rw [zhi 17 s' (by omega) (by omega) (by omega) (by omega)]
            have := tc (s' - 1) (by omega) (by omega)
            omega
      · rw [zhi 17 s' (by omega) (by omega) (by omega) (by omega)]
        by_cases h3 : s = k
        · rw [h3, zk.2.2.1]
          have := tc (s' - 1) (by omega) (by omega)
          omega
        · rw [zhi 17 s (by omega) (by omega) (by omega) (by omega)]
          exact u6 (s - 1) (s' - 1) (by omega) (by omega) (by omega)
  unfold b_X7_lay_81
  refine wp_le (by omega) (by omega) (by omega) (by omega) (fun hc => ?_) (fun hc => ?_)
  · exact fin (by omega)
  · have hp := hlvs (k - 1) (by omega) (by omega)
    have e17 := ta 17 (k - 1) (by omega) (by omega) (by omega) (by omega)
    refine wp_ld (by omega) (by omega) ?_
    rw [e17]
    refine wp_le (by omega) (by omega) (by omega) (by omega) (fun hd => ?_) (fun hd => ?_)
    · exact fin (by omega)
    · refine wp_ld (by omega) (by omega) ?_
      rw [ta 15 (k - 1) (by omega) (by omega) (by omega) (by omega)]
      refine wp_st (by omega) (by omega) ?_
      refine wp_ld (by omega) (by omega) ?_
      rw [rd_wr_j (by decide), ta 16 (k - 1) (by omega) (by omega) (by omega) (by omega)]
      refine wp_st (by omega) (by omega) ?_
      refine wp_ld (by omega) (by omega) ?_
      rw [rd_wr_j (by decide), rd_wr_j (by decide), e17]
      refine wp_st (by omega) (by omega) ?_
      refine wp_ld (by omega) (by omega) ?_
      rw [rd_wr_j (by decide), rd_wr_j (by decide), rd_wr_j (by decide), ta 18 (k - 1) (by omega) (by omega) (by omega) (by omega)]
      refine wp_st (by omega) (by omega) ?_
      refine wp_let ?_
      rw [show k + (-1) = k - 1 by omega]
      obtain ⟨t', et⟩ : ∃ t', t' = wr (wr (wr (wr t 15 k (rd u 15 (k - 1))) 16 k (rd u 16 (k - 1))) 17 k (rd u 17 (k - 1))) 18 k (rd u 18 (k - 1)) := ⟨_, rfl⟩
      rw [← et]
      have tk : ∀ j : Nat, 15 ≤ j → j ≤ 18 → rd t' j k = rd u j (k - 1) := by
        intro j a b
        have : j = 15 ∨ j = 16 ∨ j = 17 ∨ j = 18 := by omega
        rw [et]
        rcases this with q | q | q | q <;> subst q
        · rw [rd_wr_j (by decide), rd_wr_j (by decide), rd_wr_j (by decide), rd_wr_eq]
        · rw [rd_wr_j (by decide), rd_wr_j (by decide), rd_wr_eq]
        · rw [rd_wr_j (by decide), rd_wr_eq]
        · rw [rd_wr_eq]
      have to : ∀ (j : Nat) (i : Int), 15 ≤ j → j ≤ 18 → 0 ≤ i → i ≠ k → rd t' j i = rd t j i := by
        intro j i a b c d
        have : j = 15 ∨ j = 16 ∨ j = 17 ∨ j = 18 := by omega
        rw [et]
        rcases this with q | q | q | q <;> subst q
        · rw [rd_wr_j (by decide), rd_wr_j (by decide), rd_wr_j (by decide), rd_wr_ne k1 c d]
        · rw [rd_wr_j (by decide), rd_wr_j (by decide), rd_wr_ne k1 c d, rd_wr_j (by decide)]
        · rw [rd_wr_j (by decide), rd_wr_ne k1 c d, rd_wr_j (by decide), rd_wr_j (by decide)]
        · rw [rd_wr_ne k1 c d, rd_wr_j (by decide), rd_wr_j (by decide), rd_wr_j (by decide)]
      refine ih (k - 1) t' ⟨⟨by omega, by omega⟩, fun q => by rw [et]; exact t1 q, fun j i a => ?_, fun j i a b c d => ?_, fun j i a b c d => ?_, fun i a b => ?_⟩ (by omega)
      · rw [et, rd_wr_j (by omega), rd_wr_j (by omega), rd_wr_j (by omega), rd_wr_j (by omega)]; exact tj j i a
      · rw [to j i a b c (by omega)]; exact ta j i a b c (by omega)
      · by_cases hi : i = k
        · rw [hi]; exact tk j a b
        · rw [to j i a b (by omega) hi]; exact tb j i a b (by omega) d
      · by_cases hi : i = k - 1
        · rw [hi]; omega
        · exact tc i (by omega) b
