theorem skd_new {x y : XS} (hI : Inv x y) {l : Int} (hl : y.1 3 ≤ l) : ∀ n : Nat, (n : Int) ≤ y.1 5 → skd y l n = 0
  | 0, _ => rfl
  | n + 1, hn => by
    have h1 := skd_new hI hl n (by omega)
    have h2 := hI.2.2.1.2.2.2.2.2.2.2.1 n (by omega) (by omega)
    have h3 := inv_np hI (c := n) (by omega)
    unfold skd
    rw [h1]
    split
    · next h =>
      obtain ⟨-, q | q | q | q⟩ := h2
      · omega
      · rw [show ((n : Int)).toNat = n by omega] at q
        omega
      · omega
      · omega
    · rfl
section LA
variable {x y x' y' : XS}
theorem log_app (hI : Inv x y) (h5 : y.1 5 < 400) (n2 : y'.1 2 = y.1 2) (e5 : x'.1 5 = y.1 5 + 1) (f5 : y'.1 5 = y.1 5 + 1)
    (ex : ∀ (j : Nat) (i : Int), 13 ≤ j → j ≤ 16 → 0 ≤ i → i < y.1 5 → rd x' j i = rd x j i)
    (ey : ∀ (j : Nat) (i : Int), 9 ≤ j → j ≤ 12 → 0 ≤ i → i < y.1 5 → rd y' j i = rd y j i)
    (el : ∀ (j : Nat) (i : Int), 2 ≤ j → j ≤ 8 → 0 ≤ i → i < y.1 3 → rd y' j i = rd y j i)
    (new : lgOK x' y' (y.1 5)) (f3 : y'.1 3 = y.1 3 + (if rd y' 9 (y.1 5) = 0 then 1 else 0))
    (e6 : x'.1 6 = y'.1 6) (f6 : y'.1 6 = y.1 6 + (if rd y' 9 (y.1 5) = 3 then 1 else 0)) (g6 : y'.1 6 ≤ 60)
    (es : ∀ l : Int, 0 ≤ l → l < y'.1 3 → rd x' 12 l = if rd y' 9 (y.1 5) = 1 ∧ rd y' 10 (y.1 5) = l then 1 else (if l < y.1 3 then rd x 12 l else 0)) :
    iLog x' y' ∧ ∀ v : Nat, (v : Int) ≤ y.1 5 → agr y y' v := by
  have hlog := hI.2.2.1
  obtain ⟨a1, a2, a3, a4, a5, a6, a7, a8, a9⟩ := hlog
  have enp : ∀ n : Nat, (n : Int) ≤ y.1 5 → nput y' n = nput y n := fun n hn => nput_c (fun c hc => ey 9 c (by omega) (by omega) (by omega) (by omega))
  have enc : ∀ n : Nat, (n : Int) ≤ y.1 5 → nclo y' n = nclo y n := fun n hn => nclo_c (fun c hc => ey 9 c (by omega) (by omega) (by omega) (by omega))
  have esk : ∀ (l : Int) (n : Nat), (n : Int) ≤ y.1 5 → skd y' l n = skd y l n := fun l n hn => skd_c (fun c hc => ⟨ey 9 c (by omega) (by omega) (by omega) (by omega), ey 10 c (by omega) (by omega) (by omega) (by omega)⟩)
  have ebs : ∀ n : Nat, (n : Int) ≤ y.1 3 → bs y' n = bs y n := fun n hn => bs_c (fun c hc => el 7 c (by omega) (by omega) (by omega) (by omega))
  refine ⟨⟨by omega, by omega, by omega, ?_, e6, ?_, g6, fun c b1 b2 => ?_, fun l b1 b2 => ?_⟩, fun v hv => ⟨fun c hc => ⟨ey 9 c (by omega) (by omega) (by omega) (by omega), ey 10 c (by omega) (by omega) (by omega) (by omega), ey 11 c (by omega) (by omega) (by omega) (by omega), ey 12 c (by omega) (by omega) (by omega) (by omega)⟩, fun l m1 m2 => ?_⟩⟩
  · rw [f5, nput_s a1, enp _ (by omega), a4, f3]
  · rw [f5, nclo_s a1, enc _ (by omega), ← a6, f6]
  · by_cases hc : c = y.1 5
    · rw [hc]; exact new
    · have h := a8 c b1 (by omega)
      have hnp := inv_np hI (c := c.toNat) (by omega)
      unfold lgOK at h ⊢
      rw [ex 13 c (by omega) (by omega) b1 (by omega), ex 14 c (by omega) (by omega) b1 (by omega), ex 15 c (by omega) (by omega) b1 (by omega), ex 16 c (by omega) (by omega) b1 (by omega), ey 9 c (by omega) (by omega) b1 (by omega), ey 10 c (by omega) (by omega) b1 (by omega), ey 11 c (by omega) (by omega) b1 (by omega), ey 12 c (by omega) (by omega) b1 (by omega), enp _ (by omega), esk _ _ (by omega), n2]
      refine ⟨h.1, ?_⟩
      rcases h.2 with q | q | q | q
      · exact Or.inl q
      · exact Or.inr (Or.inl q)
      · refine Or.inr (Or.inr (Or.inl ?_))
        rw [el 7 _ (by omega) (by omega) (by omega) (by omega), ebs _ (by omega)]
        exact q
      · exact Or.inr (Or.inr (Or.inr q))
  · rw [es l b1 b2, f5, skd_s a1, esk _ _ (by omega)]
    by_cases hw : rd y' 9 (y.1 5) = 1 ∧ rd y' 10 (y.1 5) = l
    · rw [if_pos hw, if_pos hw]
    · rw [if_neg hw, if_neg hw]
      by_cases hl : l < y.1 3
      · rw [if_pos hl]; exact a9 l b1 hl
      · rw [if_neg hl, skd_new hI (by omega) _ (by omega)]
  · have hnp := inv_np hI hv
    exact ⟨el 2 l (by omega) (by omega) m1 (by omega), el 3 l (by omega) (by omega) m1 (by omega), el 4 l (by omega) (by omega) m1 (by omega), el 5 l (by omega) (by omega) m1 (by omega), el 6 l (by omega) (by omega) m1 (by omega), el 7 l (by omega) (by omega) m1 (by omega), el 8 l (by omega) (by omega) m1 (by omega)⟩
end LA
/-- X's log row, put -/
def xlog (x : XS) (a b c d : Int) : XS := xpS (wr (wr (wr (wr x 13 (x.1 5) a) 14 (x.1 5) b) 15 (x.1 5) c) 16 (x.1 5) d) 5 (x.1 5 + 1)
def ylog (y : XS) (a b c d : Int) : XS := xpS (wr (wr (wr (wr y 9 (y.1 5) a) 10 (y.1 5) b) 11 (y.1 5) c) 12 (y.1 5) d) 5 (y.1 5 + 1)
theorem sX_logadd {P : Int → XS → Prop} {x : XS} {a b c d : Int} (ha : rg a) (h5 : 0 ≤ x.1 5) (h6 : x.1 5 < 400) (h : P 0 (if a = 3 then xpS (xlog x a b c d) 6 (x.1 6 + 1) else xlog x a b c d)) : wp (f_X1_add x a b c d) P := by
  unfold f_X1_add
  refine wp_st (by omega) (by omega) ?_
  refine wp_st (by simp (disch := omega) only [rd_wr_eq, rd_wr_ne, rd_wr_j, rd_ps, wr_1, ps_eq, ps_ne]; omega) (by simp (disch := omega) only [rd_wr_eq, rd_wr_ne, rd_wr_j, rd_ps, wr_1, ps_eq, ps_ne]; omega) ?_
  refine wp_st (by simp (disch := omega) only [rd_wr_eq, rd_wr_ne, rd_wr_j, rd_ps, wr_1, ps_eq, ps_ne]; omega) (by simp (disch := omega) only [rd_wr_eq, rd_wr_ne, rd_wr_j, rd_ps, wr_1, ps_eq, ps_ne]; omega) ?_
  refine wp_st (by simp (disch := omega) only [rd_wr_eq, rd_wr_ne, rd_wr_j, rd_ps, wr_1, ps_eq, ps_ne]; omega) (by simp (disch := omega) only [rd_wr_eq, rd_wr_ne, rd_wr_j, rd_ps, wr_1, ps_eq, ps_ne]; omega) ?_
  refine wp_let ?_
  refine wp_eq ha.1 ha.2 (by omega) (by omega) (fun h3 => ?_) (fun h3 => ?_)
  · rw [if_pos h3] at h
    exact wp_let (wp_ret h)
  · rw [if_neg h3] at h
    exact wp_ret h
theorem sY_logs {P : Int → XS → Prop} {y : XS} {a b c d : Int} (h5 : 0 ≤ y.1 5) (h6 : y.1 5 < 400) (h : P 0 (ylog y a b c d)) : wp (f_X7_logs y a b c d) P := by
  unfold f_X7_logs
  refine wp_st (by omega) (by omega) ?_
  refine wp_st (by simp (disch := omega) only [rd_wr_eq, rd_wr_ne, rd_wr_j, rd_ps, wr_1, ps_eq, ps_ne]; omega) (by simp (disch := omega) only [rd_wr_eq, rd_wr_ne, rd_wr_j, rd_ps, wr_1, ps_eq, ps_ne]; omega) ?_
  refine wp_st (by simp (disch := omega) only [rd_wr_eq, rd_wr_ne, rd_wr_j, rd_ps, wr_1, ps_eq, ps_ne]; omega) (by simp (disch := omega) only [rd_wr_eq, rd_wr_ne, rd_wr_j, rd_ps, wr_1, ps_eq, ps_ne]; omega) ?_
  refine wp_st (by simp (disch := omega) only [rd_wr_eq, rd_wr_ne, rd_wr_j, rd_ps, wr_1, ps_eq, ps_ne]; omega) (by simp (disch := omega) only [rd_wr_eq, rd_wr_ne, rd_wr_j, rd_ps, wr_1, ps_eq, ps_ne]; omega) ?_
  exact wp_let (wp_ret h)
section LR
variable {x y : XS} {a b c d : Int}
theorem xl_ne {k : Nat} (h : k ≠ 5) : (xlog x a b c d).1 k = x.1 k := by unfold xlog; simp (disch := omega) only [rd_wr_eq, rd_wr_ne, rd_wr_j, rd_ps, wr_1, ps_eq, ps_ne]
theorem xl_5 : (xlog x a b c d).1 5 = x.1 5 + 1 := by unfold xlog; simp (disch := omega) only [rd_wr_eq, rd_wr_ne, rd_wr_j, rd_ps, wr_1, ps_eq, ps_ne]
theorem yl_ne {k : Nat} (h : k ≠ 5) : (ylog x a b c d).1 k = x.1 k := by unfold ylog; simp (disch := omega) only [rd_wr_eq, rd_wr_ne, rd_wr_j, rd_ps, wr_1, ps_eq, ps_ne]
theorem yl_5 : (ylog x a b c d).1 5 = x.1 5 + 1 := by unfold ylog; simp (disch := omega) only [rd_wr_eq, rd_wr_ne, rd_wr_j, rd_ps, wr_1, ps_eq, ps_ne]
theorem xl_j {j : Nat} {i : Int} (h : j < 13 ∨ 16 < j) : rd (xlog x a b c d) j i = rd x j i := by unfold xlog; simp (disch := omega) only [rd_wr_eq, rd_wr_ne, rd_wr_j, rd_ps, wr_1, ps_eq, ps_ne]
theorem yl_j {j : Nat} {i : Int} (h : j < 9 ∨ 12 < j) : rd (ylog x a b c d) j i = rd x j i := by unfold ylog; simp (disch := omega) only [rd_wr_eq, rd_wr_ne, rd_wr_j, rd_ps, wr_1, ps_eq, ps_ne]
theorem xl_old {j : Nat} {i : Int} (h0 : 0 ≤ i) (h : i < x.1 5) : rd (xlog x a b c d) j i = rd x j i := by
  unfold xlog
  by_cases h1 : j = 13
  · subst h1; simp (disch := omega) only [rd_wr_eq, rd_wr_ne, rd_wr_j, rd_ps, wr_1, ps_eq, ps_ne]
  by_cases h2 : j = 14
  · subst h2; simp (disch := omega) only [rd_wr_eq, rd_wr_ne, rd_wr_j, rd_ps, wr_1, ps_eq, ps_ne]
  by_cases h3 : j = 15
  · subst h3; simp (disch := omega) only [rd_wr_eq, rd_wr_ne, rd_wr_j, rd_ps, wr_1, ps_eq, ps_ne]
  by_cases h4 : j = 16
  · subst h4; simp (disch := omega) only [rd_wr_eq, rd_wr_ne, rd_wr_j, rd_ps, wr_1, ps_eq, ps_ne]
  simp (disch := omega) only [rd_wr_eq, rd_wr_ne, rd_wr_j, rd_ps, wr_1, ps_eq, ps_ne]
theorem yl_old {j : Nat} {i : Int} (h0 : 0 ≤ i) (h : i < x.1 5) : rd (ylog x a b c d) j i = rd x j i := by
  unfold ylog
  by_cases h1 : j = 9
  · subst h1; simp (disch := omega) only [rd_wr_eq, rd_wr_ne, rd_wr_j, rd_ps, wr_1, ps_eq, ps_ne]
  by_cases h2 : j = 10
  · subst h2; simp (disch := omega) only [rd_wr_eq, rd_wr_ne, rd_wr_j, rd_ps, wr_1, ps_eq, ps_ne]
  by_cases h3 : j = 11
  · subst h3; simp (disch := omega) only [rd_wr_eq, rd_wr_ne, rd_wr_j, rd_ps, wr_1, ps_eq, ps_ne]
  by_cases h4 : j = 12
  · subst h4; simp (disch := omega) only [rd_wr_eq, rd_wr_ne, rd_wr_j, rd_ps, wr_1, ps_eq, ps_ne]
  simp (disch := omega) only [rd_wr_eq, rd_wr_ne, rd_wr_j, rd_ps, wr_1, ps_eq, ps_ne]
theorem xl_13 : rd (xlog x a b c d) 13 (x.1 5) = a := by unfold xlog; simp (disch := omega) only [rd_wr_eq, rd_wr_ne, rd_wr_j, rd_ps, wr_1, ps_eq, ps_ne]
theorem xl_14 : rd (xlog x a b c d) 14 (x.1 5) = b := by unfold xlog; simp (disch := omega) only [rd_wr_eq, rd_wr_ne, rd_wr_j, rd_ps, wr_1, ps_eq, ps_ne]
theorem xl_15 : rd (xlog x a b c d) 15 (x.1 5) = c := by unfold xlog; simp (disch := omega) only [rd_wr_eq, rd_wr_ne, rd_wr_j, rd_ps, wr_1, ps_eq, ps_ne]
theorem xl_16 : rd (xlog x a b c d) 16 (x.1 5) = d := by unfold xlog; simp (disch := omega) only [rd_wr_eq, rd_wr_ne, rd_wr_j, rd_ps, wr_1, ps_eq, ps_ne]
theorem yl_9 : rd (ylog x a b c d) 9 (x.1 5) = a := by unfold ylog; simp (disch := omega) only [rd_wr_eq, rd_wr_ne, rd_wr_j, rd_ps, wr_1, ps_eq, ps_ne]
theorem yl_10 : rd (ylog x a b c d) 10 (x.1 5) = b := by unfold ylog; simp (disch := omega) only [rd_wr_eq, rd_wr_ne, rd_wr_j, rd_ps, wr_1, ps_eq, ps_ne]
theorem yl_11 : rd (ylog x a b c d) 11 (x.1 5) = c := by unfold ylog; simp (disch := omega) only [rd_wr_eq, rd_wr_ne, rd_wr_j, rd_ps, wr_1, ps_eq, ps_ne]
theorem yl_12 : rd (ylog x a b c d) 12 (x.1 5) = d := by unfold ylog; simp (disch := omega) only [rd_wr_eq, rd_wr_ne, rd_wr_j, rd_ps, wr_1, ps_eq, ps_ne]
end LR
theorem ok_strike (w1 : Int) (g1 : rg w1) : stepOK Inv (fun x => f_X6_strike x w1) (fun y => f_X7_strike y w1) := by
  refine stepOK_of (fun x y hI => ?_)
  obtain ⟨a1, a2, a3, a4, a5, a6, a7⟩ := hI.2.1
  obtain ⟨b1, b2, b3, b4, b5, b6, b7, b8, b9⟩ := hI.2.2.1
  have e3 := y00_3 y
  have e5 := y00_5 y
  refine wp_call (sX_isLine g1 (by omega) (fun l1 l2 => ?_) (fun l1 => ?_))
  · refine wp_e1 ?_
    have hyl : ∀ (P : Int → XS → Prop), P 1 (y00 y) → wp (f_X7_isLine (y00 y) w1) P := fun P h => sY_isLine g1 ⟨a1, a2⟩ (fun _ _ => h) (fun h => absurd h (by omega))
    have hsn : ∀ (P : Int → XS → Prop), P (skd y w1 (y.1 5).toNat) (y00 y) → wp (f_X7_isStruckNow (y00 y) w1) P := fun P h => sY_isStruckNow g1 ⟨b1, b2⟩ (fun c m1 m2 => by
        have := inv_lg hI m1 m2
        rw [y00_rd, y00_rd]
        omega) (by rw [skd_00]; exact h)
    have hsk := b9 w1 l1 (by omega)
    have h01 := skd_01 y w1 (y.1 5).toNat
    refine wp_call (sX_isFull (by omega) (fun c1 => ?_) (fun c1 => ?_))
    · refine wp_e1 ?_
      refine wp_call (sX_deny (wp_ret ?_))
      refine wp_y00 ?_
      refine wp_call (hyl _ ?_)
      refine wp_e1 ?_
      refine wp_eq (by omega) (by omega) (by omega) (by omega) (fun h => ?_) (fun h => absurd c1 (by rw [e5] at h; omega))
      exact wp_call (sY_no (wp_ret ⟨rfl, Inv_no hI 3 (by decide) (by decide)⟩))
    · refine wp_e0 ?_
      refine wp_ld (by omega) (by omega) ?_
      refine wp_eq (by omega) (by omega) (by omega) (by omega) (fun hs => ?_) (fun hs => ?_)
      · refine wp_stb (by omega) (by omega) (by omega) ?_
        refine wp_call (sX_logadd (rg_lit (by omega) (by omega)) (by simp (disch := omega) only [rd_wr_eq, rd_wr_ne, rd_wr_j, rd_ps, wr_1, ps_eq, ps_ne]; omega) (by simp (disch := omega) only [rd_wr_eq, rd_wr_ne, rd_wr_j, rd_ps, wr_1, ps_eq, ps_ne]; omega) ?_)
        rw [if_neg (by decide)]
        refine wp_call (sX_agree (wp_ret ?_))
        refine wp_y00 ?_
        refine wp_call (hyl _ ?_)
        refine wp_e1 ?_
        refine wp_eq (by omega) (by omega) (by omega) (by omega) (fun h => absurd c1 (by rw [e5] at h; omega)) (fun h => ?_)
        refine wp_call (hsn _ ?_)
        rw [← hsk, hs]
        refine wp_e0 ?_
        refine wp_call (sY_logs (by omega) (by omega) (wp_ret ⟨rfl, ?_⟩))
        have hx5 : (wr x 12 w1 1).1 5 = y.1 5 := b3
        obtain ⟨p1, p2⟩ := log_app (x := x) (y := y) (x' := xpS (xlog (wr x 12 w1 1) 1 w1 0 0) 1 0) (y' := ylog (y00 y) 1 w1 0 0) hI (by omega) (yl_ne (by decide)) (by simp (disch := omega) only [rd_wr_eq, rd_wr_ne, rd_wr_j, rd_ps, wr_1, ps_eq, ps_ne, xl_5]; omega) (by rw [yl_5]; rfl)
          (fun j i m1 m2 m3 m4 => by rw [rd_ps, xl_old m3 (by omega)]; simp (disch := omega) only [rd_wr_eq, rd_wr_ne, rd_wr_j, rd_ps, wr_1, ps_eq, ps_ne]) (fun j i m1 m2 m3 m4 => by rw [yl_old m3 (by omega)]; rfl) (fun j i m1 m2 m3 m4 => by rw [yl_j (by omega)]; rfl)
          (by
            unfold lgOK
            have q1 := yl_9 (x := y00 y) (a := 1) (b := w1) (c := 0) (d := 0)
            have q2 := yl_10 (x := y00 y) (a := 1) (b := w1) (c := 0) (d := 0)
            have q3 := xl_13 (x := wr x 12 w1 1) (a := 1) (b := w1) (c := 0) (d := 0)
            have q4 := xl_14 (x := wr x 12 w1 1) (a := 1) (b := w1) (c := 0) (d := 0)
            rw [e5] at q1 q2
            rw [hx5] at q3 q4
            rw [rd_ps, rd_ps, q1, q2, q3, q4]
            refine ⟨rfl, Or.inr (Or.inl ⟨rfl, rfl, l1, ?_, ?_⟩)⟩
            · rw [nput_c (y := y) (fun c hc => by rw [yl_old (by omega) (by omega)]; rfl), b4]
              omega
            · rw [skd_c (y := y) (fun c hc => by rw [yl_old (by omega) (by omega), yl_old (by omega) (by omega)]; exact ⟨rfl, rfl⟩), ← hsk, hs])
          (by
            have q1 := yl_9 (x := y00 y) (a := 1) (b := w1) (c := 0) (d := 0)
            rw [e5] at q1
            rw [q1, yl_ne (by decide)]
            show y.1 3 = y.1 3 + 0
            omega)
          (by rw [ps_ne (by decide), xl_ne (by decide), yl_ne (by decide)]; exact b5)
          (by
            have q1 := yl_9 (x := y00 y) (a := 1) (b := w1) (c := 0) (d := 0)
            rw [e5] at q1
            rw [q1, yl_ne (by decide)]
            show y.1 6 = y.1 6 + 0
            omega)
          (by rw [yl_ne (by decide)]; exact b7)
          (fun l m1 m2 => by
            rw [yl_ne (by decide)] at m2
            have q1 := yl_9 (x := y00 y) (a := 1) (b := w1) (c := 0) (d := 0)
            have q2 := yl_10 (x := y00 y) (a := 1) (b := w1) (c := 0) (d := 0)
            rw [e5] at q1 q2
            rw [rd_ps, xl_j (by decide), q1, q2, if_pos (show l < y.1 3 by omega)]
            by_cases hl : l = w1
            · subst hl
              rw [if_pos ⟨rfl, rfl⟩]
              simp (disch := omega) only [rd_wr_eq, rd_wr_ne, rd_wr_j, rd_ps, wr_1, ps_eq, ps_ne]
            · rw [if_neg (fun h => hl h.2.symm)]
              simp (disch := omega) only [rd_wr_eq, rd_wr_ne, rd_wr_j, rd_ps, wr_1, ps_eq, ps_ne])
        refine ⟨?_, ?_, p1, ?_, ⟨rfl, z07.1, z07.2⟩, ?_⟩
        · exact iNod_c hI.1 (by rw [ps_ne (by decide), xl_ne (by decide)]; rfl) (by rw [yl_ne (by decide)]; rfl) (fun j i m1 m2 => by rw [rd_ps, xl_j (by omega)]; simp (disch := omega) only [rd_wr_eq, rd_wr_ne, rd_wr_j, rd_ps, wr_1, ps_eq, ps_ne]) (fun j i m1 => by rw [yl_j (by omega)]; rfl)
        · exact iLin_c hI.2.1 (by rw [yl_ne (by decide)]; exact Int.le_refl _) (by rw [ps_ne (by decide), xl_ne (by decide)]; rfl) (by rw [ps_ne (by decide), xl_ne (by decide)]; rfl) (by rw [yl_ne (by decide)]; rfl) (by rw [yl_ne (by decide)]; rfl) (fun j i m1 m2 => by rw [rd_ps, xl_j (by omega)]; simp (disch := omega) only [rd_wr_eq, rd_wr_ne, rd_wr_j, rd_ps, wr_1, ps_eq, ps_ne]) (fun j i m1 m2 => by rw [yl_j (by omega)]; rfl)
        · exact iOut_c hI.2.2.2.1 (by rw [ps_ne (by decide), xl_ne (by decide)]; rfl) (by rw [yl_ne (by decide)]; rfl) (fun i => by rw [rd_ps, xl_j (by omega)]; simp (disch := omega) only [rd_wr_eq, rd_wr_ne, rd_wr_j, rd_ps, wr_1, ps_eq, ps_ne]) (fun i => by rw [yl_j (by omega)]; rfl)
        · exact iVw_c hI.2.2.2.2.2 (by rw [ps_ne (by decide), xl_ne (by decide)]; rfl) (by rw [ps_ne (by decide), xl_ne (by decide)]; rfl) (by rw [ps_ne (by decide), xl_ne (by decide)]; rfl) (by rw [yl_5]; show y.1 5 ≤ y.1 5 + 1; omega) (fun j i m1 m2 m3 => by rw [rd_ps, xl_j (by omega)]; simp (disch := omega) only [rd_wr_eq, rd_wr_ne, rd_wr_j, rd_ps, wr_1, ps_eq, ps_ne]) p2
      · refine wp_call (sX_deny (wp_ret ?_))
        refine wp_y00 ?_
        refine wp_call (hyl _ ?_)
        refine wp_e1 ?_
        refine wp_eq (by omega) (by omega) (by omega) (by omega) (fun h => absurd c1 (by rw [e5] at h; omega)) (fun h => ?_)
        refine wp_call (hsn _ ?_)
        rw [show skd y w1 (y.1 5).toNat = 1 by omega]
        refine wp_e1 ?_
        exact wp_call (sY_no (wp_ret ⟨rfl, Inv_no hI 4 (by decide) (by decide)⟩))
  · refine wp_e0 ?_
    refine wp_call (sX_deny (wp_ret ?_))
    refine wp_y00 ?_
    refine wp_call (sY_isLine g1 (x := y00 y) ⟨a1, a2⟩ (fun h1 h2 => absurd l1 (by omega)) (fun h => ?_))
    refine wp_e0 ?_
    exact wp_call (sY_no (wp_ret ⟨rfl, Inv_no hI 1 (by decide) (by decide)⟩))
