theorem skd_01 (y : XS) (l : Int) : ∀ n : Nat, skd y l n = 0 ∨ skd y l n = 1
  | 0 => Or.inl rfl
  | n + 1 => by
    unfold skd
    split
    · exact Or.inr rfl
    · exact skd_01 y l n
theorem skd_up {y : XS} {l : Int} {a : Nat} (h : skd y l a = 1) : ∀ d : Nat, skd y l (a + d) = 1
  | 0 => h
  | d + 1 => by
    show skd y l (a + d + 1) = 1
    unfold skd
    split
    · rfl
    · exact skd_up h d
theorem skd_s {y : XS} {l : Int} {c : Int} (hc : 0 ≤ c) : skd y l (c + 1).toNat = if rd y 9 c = 1 ∧ rd y 10 c = l then 1 else skd y l c.toNat := by
  have e1 : (c + 1).toNat = c.toNat + 1 := by omega
  have e2 : ((c.toNat : Nat) : Int) = c := by omega
  rw [e1]
  show (if rd y 9 (c.toNat : Int) = 1 ∧ rd y 10 (c.toNat : Int) = l then 1 else skd y l c.toNat) = _
  rw [e2]
theorem nput_s {y : XS} {c : Int} (hc : 0 ≤ c) : nput y (c + 1).toNat = nput y c.toNat + (if rd y 9 c = 0 then 1 else 0) := by
  have e1 : (c + 1).toNat = c.toNat + 1 := by omega
  have e2 : ((c.toNat : Nat) : Int) = c := by omega
  rw [e1]
  show nput y c.toNat + (if rd y 9 (c.toNat : Int) = 0 then 1 else 0) = _
  rw [e2]
theorem nclo_s {y : XS} {c : Int} (hc : 0 ≤ c) : nclo y (c + 1).toNat = nclo y c.toNat + (if rd y 9 c = 3 then 1 else 0) := by
  have e1 : (c + 1).toNat = c.toNat + 1 := by omega
  have e2 : ((c.toNat : Nat) : Int) = c := by omega
  rw [e1]
  show nclo y c.toNat + (if rd y 9 (c.toNat : Int) = 3 then 1 else 0) = _
  rw [e2]
theorem bs_s {y : XS} {c : Int} (hc : 0 ≤ c) : bs y (c + 1).toNat = bs y c.toNat + rd y 7 c := by
  have e1 : (c + 1).toNat = c.toNat + 1 := by omega
  have e2 : ((c.toNat : Nat) : Int) = c := by omega
  rw [e1]
  show bs y c.toNat + rd y 7 (c.toNat : Int) = _
  rw [e2]
theorem nput_le (y : XS) : ∀ n : Nat, nput y n ≤ n
  | 0 => by unfold nput; omega
  | n + 1 => by
    have := nput_le y n
    unfold nput
    split <;> omega
theorem nput_mono (y : XS) (a : Nat) : ∀ d : Nat, nput y a ≤ nput y (a + d)
  | 0 => Int.le_refl _
  | d + 1 => by
    have := nput_mono y a d
    have e : nput y (a + (d + 1)) = nput y (a + d) + (if rd y 9 ((a + d : Nat) : Int) = 0 then 1 else 0) := rfl
    rw [e]
    split <;> omega
/-- a change's entry: its numbers are small -/
theorem lgOK_rg {x y : XS} {c : Int} (hn : y.1 2 ≤ 24) (hc : c ≤ 400) (h0 : 0 ≤ c) (h : lgOK x y c) (ht : ∀ l, 0 ≤ l → l < nput y c.toNat → rd y 7 l ≤ 60) : 0 ≤ rd y 9 c ∧ rd y 9 c ≤ 3 ∧ 0 ≤ rd y 10 c ∧ rd y 10 c ≤ 400 ∧ (2 ≤ rd y 9 c → 0 ≤ rd y 11 c ∧ rd y 11 c ≤ 5000 ∧ 0 ≤ rd y 12 c ∧ rd y 12 c ≤ 5000) := by
  have hle := nput_le y c.toNat
  have hnn := nput_nn y c.toNat
  obtain ⟨-, h | h | h | h⟩ := h
  · omega
  · omega
  · have := ht (rd y 10 c) (by omega) (by omega)
    omega
  · omega
theorem sY_isStruckNow {P : Int → XS → Prop} {y : XS} {l : Int} (hl : rg l) (h5 : 0 ≤ y.1 5 ∧ y.1 5 ≤ 400) (hr : ∀ c : Int, 0 ≤ c → c < y.1 5 → (0 ≤ rd y 9 c ∧ rd y 9 c ≤ 3 ∧ 0 ≤ rd y 10 c ∧ rd y 10 c ≤ 400)) (h : P (skd y l (y.1 5).toNat) y) : wp (f_X7_isStruckNow y l) P := by
  unfold f_X7_isStruckNow
  refine wp_jp ?_
  refine wp_loop1 (fun i x => x = y ∧ 0 ≤ i ∧ i ≤ y.1 5 ∧ skd y l i.toNat = 0) (fun i _ => (y.1 5 - i).toNat) (fun g i x hI ih => ?_) x_fuel 0 y ⟨rfl, by omega, by omega, rfl⟩ (fu (by omega))
  obtain ⟨rfl, b1, b2, b3⟩ := hI
  unfold b_X7_isStruckNow_2
  refine wp_le (by omega) (by omega) (by omega) (by omega) (fun hc => ?_) (fun hc => ?_)
  · have : i = x.1 5 := by omega
    subst this
    rw [b3] at h
    exact wp_ret h
  · obtain ⟨d1, d2, d3, d4⟩ := hr i b1 hc
    have hs := skd_s (y := x) (l := l) b1
    refine wp_ld (by omega) (by omega) ?_
    refine wp_jp ?_
    have hno : ¬ (rd x 9 i = 1 ∧ rd x 10 i = l) → wp (x_let (i + 1) (fun v9 => g v9 x)) P := by
      intro hn
      refine wp_let ?_
      rw [if_neg hn, b3] at hs
      exact ih (i + 1) x ⟨rfl, by omega, by omega, hs⟩ (by omega)
    refine wp_eq (by omega) (by omega) (by omega) (by omega) (fun hw => ?_) (fun hw => ?_)
    · refine wp_ld (by omega) (by omega) ?_
      refine wp_eq (by omega) (by omega) hl.1 hl.2 (fun ho => ?_) (fun ho => hno (by omega))
      rw [if_pos ⟨hw, ho⟩] at hs
      have := skd_up hs (x.1 5 - (i + 1)).toNat
      rw [show (i + 1).toNat + (x.1 5 - (i + 1)).toNat = (x.1 5).toNat by omega] at this
      rw [this] at h
      exact wp_ret h
    · exact hno (by omega)
section IV
variable {x y : XS}
theorem inv_times (h : Inv x y) {l : Int} (h0 : 0 ≤ l) (h1 : l < y.1 3) : 1 ≤ rd y 7 l ∧ rd y 7 l ≤ 60 := by
  have := (h.2.1.2.2.2.2.2.2 l h0 h1).2
  unfold lnOK at this
  omega
theorem inv_np (h : Inv x y) {c : Nat} (h1 : (c : Int) ≤ y.1 5) : nput y c ≤ y.1 3 := by
  have h2 := h.2.2.1.2.2.2.1
  have h3 := nput_mono y c ((y.1 5).toNat - c)
  rw [show c + ((y.1 5).toNat - c) = (y.1 5).toNat by omega, h2] at h3
  exact h3
theorem inv_lg (h : Inv x y) {c : Int} (h0 : 0 ≤ c) (h1 : c < y.1 5) : 0 ≤ rd y 9 c ∧ rd y 9 c ≤ 3 ∧ 0 ≤ rd y 10 c ∧ rd y 10 c ≤ 400 ∧ (2 ≤ rd y 9 c → 0 ≤ rd y 11 c ∧ rd y 11 c ≤ 5000 ∧ 0 ≤ rd y 12 c ∧ rd y 12 c ≤ 5000) := by
  have h2 := h.2.2.1
  refine lgOK_rg h.1.2.1 (by have := h2.2.1; omega) h0 (h2.2.2.2.2.2.2.2.1 c h0 h1) (fun l b1 b2 => ?_)
  have h3 := inv_np h (c := c.toNat) (by omega)
  exact (inv_times h b1 (by omega)).2
end IV
theorem skd_00 (y : XS) (l : Int) (n : Nat) : skd (y00 y) l n = skd y l n := skd_c (fun c _ => ⟨rfl, rfl⟩)
theorem ok_told (w1 w2 : Int) (g1 : rg w1) (g2 : rg w2) : stepOK Inv (fun x => f_X6_told x w1 w2) (fun y => f_X7_told y w1 w2) := by
  refine stepOK_of (fun x y hI => ?_)
  obtain ⟨a1, a2, a3, a4, a5, a6, a7⟩ := hI.2.1
  have e3 := y00_3 y
  have hn2 := hI.1.2.1
  refine wp_call (sX_isLine g1 (by omega) (fun b1 b2 => ?_) (fun b1 => ?_))
  · refine wp_e1 ?_
    obtain ⟨c1, c2⟩ := a7 w1 b1 (by omega)
    unfold lnEQ at c1
    unfold lnOK at c2
    obtain ⟨d1, d2, d3, d4, d5, d6, d7, d8⟩ := c1
    have hsk := hI.2.2.1.2.2.2.2.2.2.2.2 w1 b1 (by omega)
    have hyl : ∀ (P : Int → XS → Prop), P 1 (y00 y) → wp (f_X7_isLine (y00 y) w1) P := fun P h => sY_isLine g1 ⟨a1, a2⟩ (fun _ _ => h) (fun h => absurd h (by omega))
    refine wp_call (sX_isBetween g2 (rg_lit (by omega) (by omega)) (rg_lit (by omega) (by omega)) (fun m1 m2 => ?_) (fun m1 => ?_))
    · refine wp_e1 ?_
      refine wp_call ?_
      have fin : ∀ v : Int, (rg v) → wp (f_X7_told y w1 w2) (fun r' y' => v = r' ∧ y' = y00 y) → wp (x_call (f_X6_answer x v) (fun r7 x8 => some (r7, x8))) (fun r x' => wp (f_X7_told y w1 w2) (fun r' y' => r = r' ∧ Inv x' y')) := by
        intro v hv hw
        refine wp_call (sX_answer (wp_ret ?_))
        refine wp_mono hw (fun r' y' h => ?_)
        rw [h.2]
        exact ⟨h.1, Inv_ok hI⟩
      unfold f_X0_tell
      refine wp_eq (by omega) (by omega) (by omega) (by omega) (fun k0 => ?_) (fun k0 => ?_)
      · refine wp_ld (by omega) (by omega) ?_
        refine wp_ret (fin _ (by rw [d1]; exact (rg_lit (by omega) (by omega))) (wp_y00 (wp_call (hyl _ (wp_e1 ?_)))))
        refine wp_eq (by omega) (by omega) (by omega) (by omega) (fun _ => ?_) (fun h => absurd k0 h)
        refine wp_ld (by omega) (by omega) ?_
        exact wp_ret ⟨d1, rfl⟩
      refine wp_eq (by omega) (by omega) (by omega) (by omega) (fun k1 => ?_) (fun k1 => ?_)
      · refine wp_ld (by omega) (by omega) ?_
        refine wp_ret (fin _ (by rw [d2]; exact (rg_lit (by omega) (by omega))) (wp_y00 (wp_call (hyl _ (wp_e1 ?_)))))
        refine wp_eq (by omega) (by omega) (by omega) (by omega) (fun h => absurd h k0) (fun _ => ?_)
        refine wp_eq (by omega) (by omega) (by omega) (by omega) (fun _ => ?_) (fun h => absurd k1 h)
        refine wp_ld (by omega) (by omega) ?_
        exact wp_ret ⟨d2, rfl⟩
      refine wp_eq (by omega) (by omega) (by omega) (by omega) (fun k2 => ?_) (fun k2 => ?_)
      · refine wp_ld (by omega) (by omega) ?_
        refine wp_ret (fin _ (by rw [d3]; exact (rg_lit (by omega) (by omega))) (wp_y00 (wp_call (hyl _ (wp_e1 ?_)))))
        refine wp_eq (by omega) (by omega) (by omega) (by omega) (fun h => absurd h k0) (fun _ => ?_)
        refine wp_eq (by omega) (by omega) (by omega) (by omega) (fun h => absurd h k1) (fun _ => ?_)
        refine wp_eq (by omega) (by omega) (by omega) (by omega) (fun _ => ?_) (fun h => absurd k2 h)
        refine wp_ld (by omega) (by omega) ?_
        exact wp_ret ⟨d3, rfl⟩
      refine wp_eq (by omega) (by omega) (by omega) (by omega) (fun k3 => ?_) (fun k3 => ?_)
      · refine wp_ld (by omega) (by omega) ?_
        refine wp_ret (fin _ (by rw [d4]; exact (rg_lit (by omega) (by omega))) (wp_y00 (wp_call (hyl _ (wp_e1 ?_)))))
        refine wp_eq (by omega) (by omega) (by omega) (by omega) (fun h => absurd h k0) (fun _ => ?_)
        refine wp_eq (by omega) (by omega) (by omega) (by omega) (fun h => absurd h k1) (fun _ => ?_)
        refine wp_eq (by omega) (by omega) (by omega) (by omega) (fun h => absurd h k2) (fun _ => ?_)
        refine wp_eq (by omega) (by omega) (by omega) (by omega) (fun _ => ?_) (fun h => absurd k3 h)
        refine wp_ld (by omega) (by omega) ?_
        exact wp_ret ⟨d4, rfl⟩
      refine wp_eq (by omega) (by omega) (by omega) (by omega) (fun k4 => ?_) (fun k4 => ?_)
      · refine wp_ld (by omega) (by omega) ?_
        refine wp_ret (fin _ (by rw [d5]; exact (rg_lit (by omega) (by omega))) (wp_y00 (wp_call (hyl _ (wp_e1 ?_)))))
        refine wp_eq (by omega) (by omega) (by omega) (by omega) (fun h => absurd h k0) (fun _ => ?_)
        refine wp_eq (by omega) (by omega) (by omega) (by omega) (fun h => absurd h k1) (fun _ => ?_)
        refine wp_eq (by omega) (by omega) (by omega) (by omega) (fun h => absurd h k2) (fun _ => ?_)
        refine wp_eq (by omega) (by omega) (by omega) (by omega) (fun h => absurd h k3) (fun _ => ?_)
        refine wp_eq (by omega) (by omega) (by omega) (by omega) (fun _ => ?_) (fun h => absurd k4 h)
        refine wp_ld (by omega) (by omega) ?_
        exact wp_ret ⟨d5, rfl⟩
      refine wp_eq (by omega) (by omega) (by omega) (by omega) (fun k5 => ?_) (fun k5 => ?_)
      · refine wp_ld (by omega) (by omega) ?_
        refine wp_ret (fin _ (by rw [d6]; exact (rg_lit (by omega) (by omega))) (wp_y00 (wp_call (hyl _ (wp_e1 ?_)))))
        refine wp_eq (by omega) (by omega) (by omega) (by omega) (fun h => absurd h k0) (fun _ => ?_)
        refine wp_eq (by omega) (by omega) (by omega) (by omega) (fun h => absurd h k1) (fun _ => ?_)
        refine wp_eq (by omega) (by omega) (by omega) (by omega) (fun h => absurd h k2) (fun _ => ?_)
        refine wp_eq (by omega) (by omega) (by omega) (by omega) (fun h => absurd h k3) (fun _ => ?_)
        refine wp_eq (by omega) (by omega) (by omega) (by omega) (fun h => absurd h k4) (fun _ => ?_)
        refine wp_eq (by omega) (by omega) (by omega) (by omega) (fun _ => ?_) (fun h => absurd k5 h)
        refine wp_ld (by omega) (by omega) ?_
        exact wp_ret ⟨d6, rfl⟩
      refine wp_eq (by omega) (by omega) (by omega) (by omega) (fun k6 => ?_) (fun k6 => ?_)
      · refine wp_ld (by omega) (by omega) ?_
        refine wp_ret (fin _ (by rw [d7]; exact (rg_lit (by omega) (by omega))) (wp_y00 (wp_call (hyl _ (wp_e1 ?_)))))
        refine wp_eq (by omega) (by omega) (by omega) (by omega) (fun h => absurd h k0) (fun _ => ?_)
        refine wp_eq (by omega) (by omega) (by omega) (by omega) (fun h => absurd h k1) (fun _ => ?_)
        refine wp_eq (by omega) (by omega) (by omega) (by omega) (fun h => absurd h k2) (fun _ => ?_)
        refine wp_eq (by omega) (by omega) (by omega) (by omega) (fun h => absurd h k3) (fun _ => ?_)
        refine wp_eq (by omega) (by omega) (by omega) (by omega) (fun h => absurd h k4) (fun _ => ?_)
        refine wp_eq (by omega) (by omega) (by omega) (by omega) (fun h => absurd h k5) (fun _ => ?_)
        refine wp_eq (by omega) (by omega) (by omega) (by omega) (fun _ => ?_) (fun h => absurd k6 h)
        refine wp_ld (by omega) (by omega) ?_
        exact wp_ret ⟨d7, rfl⟩
      have k7 : w2 = 7 := by omega
      have h01 := skd_01 y w1 (y.1 5).toNat
      refine wp_ld (by omega) (by omega) ?_
      have ylast : ∀ v : Int, v = skd y w1 (y.1 5).toNat → wp (f_X7_told y w1 w2) (fun r' y' => v = r' ∧ y' = y00 y) := by
        intro v hv
        refine wp_y00 (wp_call (hyl _ (wp_e1 ?_)))
        refine wp_eq (by omega) (by omega) (by omega) (by omega) (fun h => absurd h k0) (fun _ => ?_)
        refine wp_eq (by omega) (by omega) (by omega) (by omega) (fun h => absurd h k1) (fun _ => ?_)
        refine wp_eq (by omega) (by omega) (by omega) (by omega) (fun h => absurd h k2) (fun _ => ?_)
        refine wp_eq (by omega) (by omega) (by omega) (by omega) (fun h => absurd h k3) (fun _ => ?_)
        refine wp_eq (by omega) (by omega) (by omega) (by omega) (fun h => absurd h k4) (fun _ => ?_)
        refine wp_eq (by omega) (by omega) (by omega) (by omega) (fun h => absurd h k5) (fun _ => ?_)
        refine wp_eq (by omega) (by omega) (by omega) (by omega) (fun h => absurd h k6) (fun _ => ?_)
        refine wp_eq (by omega) (by omega) (by omega) (by omega) (fun _ => ?_) (fun h => absurd k7 h)
        refine wp_call (sY_isStruckNow g1 (by have := hI.2.2.1; exact ⟨this.1, this.2.1⟩) (fun c m1 m2 => by
          have := inv_lg hI m1 m2
          rw [y00_rd, y00_rd]
          omega) ?_)
        rw [skd_00, y00_5]
        rcases h01 with h | h
        · rw [h]
          refine wp_e0 ?_
          exact wp_ret ⟨by omega, rfl⟩
        · rw [h]
          refine wp_e1 ?_
          exact wp_ret ⟨by omega, rfl⟩
      rw [hsk]
      rcases h01 with h | h
      · rw [h]
        refine wp_e0 ?_
        exact wp_ret (fin _ (rg_lit (by omega) (by omega)) (ylast 0 h.symm))
      · rw [h]
        refine wp_e1 ?_
        exact wp_ret (fin _ (rg_lit (by omega) (by omega)) (ylast 1 h.symm))
    · refine wp_e0 ?_
      refine wp_call (sX_refuse (wp_ret ?_))
      refine wp_y00 ?_
      refine wp_call (hyl _ ?_)
      refine wp_e1 ?_
      refine wp_eq g2.1 g2.2 (by omega) (by omega) (fun h => absurd m1 (by omega)) (fun _ => ?_)
      refine wp_eq g2.1 g2.2 (by omega) (by omega) (fun h => absurd m1 (by omega)) (fun _ => ?_)
      refine wp_eq g2.1 g2.2 (by omega) (by omega) (fun h => absurd m1 (by omega)) (fun _ => ?_)
      refine wp_eq g2.1 g2.2 (by omega) (by omega) (fun h => absurd m1 (by omega)) (fun _ => ?_)
      refine wp_eq g2.1 g2.2 (by omega) (by omega) (fun h => absurd m1 (by omega)) (fun _ => ?_)
      refine wp_eq g2.1 g2.2 (by omega) (by omega) (fun h => absurd m1 (by omega)) (fun _ => ?_)
      refine wp_eq g2.1 g2.2 (by omega) (by omega) (fun h => absurd m1 (by omega)) (fun _ => ?_)
      refine wp_eq g2.1 g2.2 (by omega) (by omega) (fun h => absurd m1 (by omega)) (fun _ => ?_)
      exact wp_call (sY_refuse (wp_ret ⟨rfl, Inv_no hI 2 (by decide) (by decide)⟩))
  · refine wp_e0 ?_
    refine wp_call (sX_refuse (wp_ret ?_))
    refine wp_y00 ?_
    refine wp_call (sY_isLine g1 (x := y00 y) ⟨a1, a2⟩ (fun h1 h2 => absurd b1 (by omega)) (fun h => ?_))
    refine wp_e0 ?_
    exact wp_call (sY_refuse (wp_ret ⟨rfl, Inv_no hI 1 (by decide) (by decide)⟩))
