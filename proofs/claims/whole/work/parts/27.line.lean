def xadd (x : XS) (a b c d e f g : Int) : XS := xpS (xpS (wr (wr (wr (wr (wr (wr (wr (wr (wr x 4 (x.1 3) a) 5 (x.1 3) b) 6 (x.1 3) c) 7 (x.1 3) d) 8 (x.1 3) e) 9 (x.1 3) f) 10 (x.1 3) g) 11 (x.1 3) (x.1 4)) 12 (x.1 3) 0) 3 (x.1 3 + 1)) 4 (x.1 4 + f)
def yadd (y : XS) (a b c d e f g : Int) : XS := wr (wr (wr (wr (wr (wr (wr y 2 (y.1 3) a) 3 (y.1 3) b) 4 (y.1 3) c) 5 (y.1 3) d) 6 (y.1 3) e) 7 (y.1 3) f) 8 (y.1 3) g
theorem sX_linadd {P : Int → XS → Prop} {x : XS} {a b c d e f g : Int} (h3 : 0 ≤ x.1 3) (h4 : x.1 3 < 100) (h : P (x.1 3) (xadd x a b c d e f g)) : wp (f_X0_add x a b c d e f g) P := by
  unfold f_X0_add
  refine wp_let ?_
  refine wp_st (by omega) (by omega) ?_
  refine wp_st (by omega) (by omega) ?_
  refine wp_st (by omega) (by omega) ?_
  refine wp_st (by omega) (by omega) ?_
  refine wp_st (by omega) (by omega) ?_
  refine wp_st (by omega) (by omega) ?_
  refine wp_st (by omega) (by omega) ?_
  refine wp_st (by omega) (by omega) ?_
  refine wp_stb (by omega) (by omega) (by omega) ?_
  exact wp_let (wp_let (wp_ret h))
section LN
variable {x y : XS} {a b c d e f g : Int}
theorem xa_ne {k : Nat} (h : k ≠ 3) (h' : k ≠ 4) : (xadd x a b c d e f g).1 k = x.1 k := by unfold xadd; simp (disch := omega) only [rd_wr_eq, rd_wr_ne, rd_wr_j, rd_ps, wr_1, ps_eq, ps_ne]
theorem xa_3 : (xadd x a b c d e f g).1 3 = x.1 3 + 1 := by unfold xadd; simp (disch := omega) only [rd_wr_eq, rd_wr_ne, rd_wr_j, rd_ps, wr_1, ps_eq, ps_ne]
theorem xa_4 : (xadd x a b c d e f g).1 4 = x.1 4 + f := by unfold xadd; simp (disch := omega) only [rd_wr_eq, rd_wr_ne, rd_wr_j, rd_ps, wr_1, ps_eq, ps_ne]
theorem xa_j {j : Nat} {i : Int} (h : j < 4 ∨ 12 < j) : rd (xadd x a b c d e f g) j i = rd x j i := by unfold xadd; simp (disch := omega) only [rd_wr_eq, rd_wr_ne, rd_wr_j, rd_ps, wr_1, ps_eq, ps_ne]
theorem xa_old {j : Nat} {i : Int} (h0 : 0 ≤ i) (h : i < x.1 3) : rd (xadd x a b c d e f g) j i = rd x j i := by
  by_cases hj : j < 4 ∨ 12 < j
  · exact xa_j hj
  · have : j = 4 ∨ j = 5 ∨ j = 6 ∨ j = 7 ∨ j = 8 ∨ j = 9 ∨ j = 10 ∨ j = 11 ∨ j = 12 := by omega
    unfold xadd
    rcases this with q | q | q | q | q | q | q | q | q <;> subst q <;> simp (disch := omega) only [rd_wr_eq, rd_wr_ne, rd_wr_j, rd_ps, wr_1, ps_eq, ps_ne]
theorem xa_new : rd (xadd x a b c d e f g) 4 (x.1 3) = a ∧ rd (xadd x a b c d e f g) 5 (x.1 3) = b ∧ rd (xadd x a b c d e f g) 6 (x.1 3) = c ∧ rd (xadd x a b c d e f g) 7 (x.1 3) = d ∧ rd (xadd x a b c d e f g) 8 (x.1 3) = e ∧ rd (xadd x a b c d e f g) 9 (x.1 3) = f ∧ rd (xadd x a b c d e f g) 10 (x.1 3) = g ∧ rd (xadd x a b c d e f g) 11 (x.1 3) = x.1 4 ∧ rd (xadd x a b c d e f g) 12 (x.1 3) = 0 := by
  unfold xadd
  simp (disch := omega) only [rd_wr_eq, rd_wr_ne, rd_wr_j, rd_ps, wr_1, ps_eq, ps_ne]
  exact ⟨trivial, trivial, trivial, trivial, trivial, trivial, trivial, trivial, trivial⟩
theorem ya_1 {k : Nat} : (yadd y a b c d e f g).1 k = y.1 k := rfl
theorem ya_j {j : Nat} {i : Int} (h : j < 2 ∨ 8 < j) : rd (yadd y a b c d e f g) j i = rd y j i := by unfold yadd; simp (disch := omega) only [rd_wr_eq, rd_wr_ne, rd_wr_j, rd_ps, wr_1, ps_eq, ps_ne]
theorem ya_old {j : Nat} {i : Int} (h0 : 0 ≤ i) (h : i < y.1 3) : rd (yadd y a b c d e f g) j i = rd y j i := by
  by_cases hj : j < 2 ∨ 8 < j
  · exact ya_j hj
  · have : j = 2 ∨ j = 3 ∨ j = 4 ∨ j = 5 ∨ j = 6 ∨ j = 7 ∨ j = 8 := by omega
    unfold yadd
    rcases this with q | q | q | q | q | q | q <;> subst q <;> simp (disch := omega) only [rd_wr_eq, rd_wr_ne, rd_wr_j, rd_ps, wr_1, ps_eq, ps_ne]
theorem ya_new : rd (yadd y a b c d e f g) 2 (y.1 3) = a ∧ rd (yadd y a b c d e f g) 3 (y.1 3) = b ∧ rd (yadd y a b c d e f g) 4 (y.1 3) = c ∧ rd (yadd y a b c d e f g) 5 (y.1 3) = d ∧ rd (yadd y a b c d e f g) 6 (y.1 3) = e ∧ rd (yadd y a b c d e f g) 7 (y.1 3) = f ∧ rd (yadd y a b c d e f g) 8 (y.1 3) = g := by
  unfold yadd
  simp (disch := omega) only [rd_wr_eq, rd_wr_ne, rd_wr_j, rd_ps, wr_1, ps_eq, ps_ne]
  exact ⟨trivial, trivial, trivial, trivial, trivial, trivial, trivial⟩
end LN
/-- the new line, put on both sides -/
theorem inv_line {x y : XS} (hI : Inv x y) {a b c d e f g : Int} (hl : y.1 3 < 100) (hr : y.1 4 + f ≤ 1200) (h5 : y.1 5 < 400) (ha : 0 ≤ a ∧ a < y.1 2) (hb : 0 ≤ b ∧ b < y.1 2) (hc : 0 ≤ c ∧ c ≤ 2) (hd : 0 ≤ d ∧ d ≤ 5000) (he : 1 ≤ e ∧ e ≤ 500) (hf : 1 ≤ f ∧ f ≤ 60) (hg : 0 ≤ g ∧ g ≤ 500) (hk : c = 0 → f = 1)
    (u1 u2 : XS) (eu1 : u1 = xpS (xlog (xadd x a b c d e f g) 0 (x.1 3) 0 0) 1 0) (eu2 : u2 = xpS (xpS (ylog (yadd (y00 y) a b c d e f g) 0 (y.1 3) 0 0) 3 (y.1 3 + 1)) 4 (y.1 4 + f)) : Inv u1 u2 := by
  obtain ⟨a1, a2, a3, a4, a5, a6, a7⟩ := hI.2.1
  obtain ⟨b1, b2, b3, b4, b5, b6, b7, b8, b9⟩ := hI.2.2.1
  have x5 : (xadd x a b c d e f g).1 5 = y.1 5 := by rw [xa_ne (by decide) (by decide), b3]
  have yy5 : (yadd (y00 y) a b c d e f g).1 5 = y.1 5 := rfl
  have yy3 : (y00 y).1 3 = y.1 3 := rfl
  have y9 : rd u2 9 (y.1 5) = 0 := by rw [eu2, rd_ps, rd_ps, ← yy5, yl_9]
  have y10 : rd u2 10 (y.1 5) = y.1 3 := by rw [eu2, rd_ps, rd_ps, ← yy5, yl_10]
  have x13 : rd u1 13 (y.1 5) = 0 := by rw [eu1, rd_ps, ← x5, xl_13]
  have x14 : rd u1 14 (y.1 5) = y.1 3 := by rw [eu1, rd_ps, ← x5, xl_14, a3]
  have xk : ∀ k : Nat, k ≠ 1 → k ≠ 3 → k ≠ 4 → k ≠ 5 → u1.1 k = x.1 k := fun k m1 m2 m3 m4 => by rw [eu1, ps_ne m1, xl_ne m4, xa_ne m2 m3]
  have yk : ∀ k : Nat, 2 ≤ k → k ≠ 3 → k ≠ 4 → k ≠ 5 → u2.1 k = y.1 k := fun k m1 m2 m3 m4 => by rw [eu2, ps_ne m3, ps_ne m2, yl_ne m4, ya_1]; unfold y00; simp (disch := omega) only [rd_wr_eq, rd_wr_ne, rd_wr_j, rd_ps, wr_1, ps_eq, ps_ne]
  have x3 : u1.1 3 = y.1 3 + 1 := by rw [eu1, ps_ne (by decide), xl_ne (by decide), xa_3, a3]
  have x4 : u1.1 4 = y.1 4 + f := by rw [eu1, ps_ne (by decide), xl_ne (by decide), xa_4, a4]
  have y3 : u2.1 3 = y.1 3 + 1 := by rw [eu2, ps_ne (by decide), ps_eq]
  have y4 : u2.1 4 = y.1 4 + f := by rw [eu2, ps_eq]
  have xj : ∀ (j : Nat) (i : Int), (j < 4 ∨ 16 < j) → rd u1 j i = rd x j i := fun j i m => by rw [eu1, rd_ps, xl_j (by omega), xa_j (by omega)]
  have yj : ∀ (j : Nat) (i : Int), (j < 2 ∨ 12 < j) → rd u2 j i = rd y j i := fun j i m => by rw [eu2, rd_ps, rd_ps, yl_j (by omega), ya_j (by omega)]; rfl
  have xo : ∀ (j : Nat) (i : Int), 4 ≤ j → j ≤ 12 → 0 ≤ i → i < y.1 3 → rd u1 j i = rd x j i := fun j i m1 m2 m3 m4 => by rw [eu1, rd_ps, xl_j (by omega), xa_old m3 (by omega)]
  have yo : ∀ (j : Nat) (i : Int), 2 ≤ j → j ≤ 8 → 0 ≤ i → i < y.1 3 → rd u2 j i = rd y j i := fun j i m1 m2 m3 m4 => by rw [eu2, rd_ps, rd_ps, yl_j (by omega), ya_old m3 (by rw [yy3]; omega)]; rfl
  have xn : ∀ j : Nat, 4 ≤ j → j ≤ 12 → rd u1 j (y.1 3) = rd (xadd x a b c d e f g) j (x.1 3) := fun j m1 m2 => by rw [eu1, rd_ps, xl_j (by omega), a3]
  have yn : ∀ j : Nat, 2 ≤ j → j ≤ 8 → rd u2 j (y.1 3) = rd (yadd (y00 y) a b c d e f g) j ((y00 y).1 3) := fun j m1 m2 => by rw [eu2, rd_ps, rd_ps, yl_j (by omega), yy3]
  have xx5 : u1.1 5 = y.1 5 + 1 := by rw [eu1, ps_ne (by decide), xl_5, x5]
  have yy55 : u2.1 5 = y.1 5 + 1 := by rw [eu2, ps_ne (by decide), ps_ne (by decide), yl_5]; rfl
  have enp : nput u2 (y.1 5).toNat = nput y (y.1 5).toNat := nput_c (fun c hc => by rw [eu2, rd_ps, rd_ps, yl_old (by omega) (by omega), ya_j (by omega)]; rfl)
  have ebs : ∀ n : Nat, (n : Int) ≤ y.1 3 → bs u2 n = bs y n := fun n hn => bs_c (fun c hc => yo 7 c (by omega) (by omega) (by omega) (by omega))
  obtain ⟨xn4, xn5, xn6, xn7, xn8, xn9, xn10, xn11, xn12⟩ := xa_new (x := x) (a := a) (b := b) (c := c) (d := d) (e := e) (f := f) (g := g)
  obtain ⟨yn2, yn3, yn4, yn5, yn6, yn7, yn8⟩ := ya_new (y := y00 y) (a := a) (b := b) (c := c) (d := d) (e := e) (f := f) (g := g)
  obtain ⟨p1, p2⟩ := log_app (x := x) (y := y) (x' := u1) (y' := u2) hI h5 (yk 2 (by decide) (by decide) (by decide) (by decide)) xx5 yy55
    (fun j i m1 m2 m3 m4 => by rw [eu1, rd_ps, xl_old m3 (by omega), xa_j (by omega)]) (fun j i m1 m2 m3 m4 => by rw [eu2, rd_ps, rd_ps, yl_old m3 (by omega), ya_j (by omega)]; rfl) yo
    (by
      unfold lgOK
      rw [x13, x14, y9, y10, enp, b4]
      exact ⟨rfl, Or.inl ⟨rfl, rfl, rfl⟩⟩)
    (by rw [y9, if_pos rfl]; exact y3)
    (by rw [xk 6 (by decide) (by decide) (by decide) (by decide), yk 6 (by decide) (by decide) (by decide) (by decide)]; exact b5) (by rw [y9, yk 6 (by decide) (by decide) (by decide) (by decide)]; show y.1 6 = y.1 6 + 0; omega) (by rw [yk 6 (by decide) (by decide) (by decide) (by decide)]; exact b7)
    (fun l m1 m2 => by
      rw [y9, if_neg (fun h => absurd h.1 (by decide))]
      by_cases hl : l < y.1 3
      · rw [if_pos hl, xo 12 l (by omega) (by omega) m1 hl]
      · rw [if_neg hl, show l = y.1 3 by omega, xn 12 (by omega) (by omega), xn12])
  refine ⟨?_, ⟨by omega, by omega, by omega, by omega, ?_, by omega, fun l m1 m2 => ?_⟩, p1, ?_, ⟨?_, ?_, ?_⟩, ?_⟩
  · exact iNod_c hI.1 (xk 2 (by decide) (by decide) (by decide) (by decide)) (yk 2 (by decide) (by decide) (by decide) (by decide)) (fun j i m1 m2 => xj j i (by omega)) (fun j i m1 => yj j i (by omega))
  · rw [y4, y3, bs_s a1, ebs _ (by omega), yn 7 (by omega) (by omega), yn7, a5]
  · by_cases hl2 : l < y.1 3
    · obtain ⟨d1, d2⟩ := a7 l m1 hl2
      unfold lnEQ lnOK at *
      rw [xo 4 l (by omega) (by omega) m1 hl2, xo 5 l (by omega) (by omega) m1 hl2, xo 6 l (by omega) (by omega) m1 hl2, xo 7 l (by omega) (by omega) m1 hl2, xo 8 l (by omega) (by omega) m1 hl2, xo 9 l (by omega) (by omega) m1 hl2, xo 10 l (by omega) (by omega) m1 hl2, xo 11 l (by omega) (by omega) m1 hl2, yo 2 l (by omega) (by omega) m1 hl2, yo 3 l (by omega) (by omega) m1 hl2, yo 4 l (by omega) (by omega) m1 hl2, yo 5 l (by omega) (by omega) m1 hl2, yo 6 l (by omega) (by omega) m1 hl2, yo 7 l (by omega) (by omega) m1 hl2, yo 8 l (by omega) (by omega) m1 hl2, ebs _ (by omega), yk 2 (by decide) (by decide) (by decide) (by decide)]
      exact ⟨d1, d2⟩
    · have el : l = y.1 3 := by omega
      subst el
      unfold lnEQ lnOK
      rw [xn 4 (by omega) (by omega), xn 5 (by omega) (by omega), xn 6 (by omega) (by omega), xn 7 (by omega) (by omega), xn 8 (by omega) (by omega), xn 9 (by omega) (by omega), xn 10 (by omega) (by omega), xn 11 (by omega) (by omega), yn 2 (by omega) (by omega), yn 3 (by omega) (by omega), yn 4 (by omega) (by omega), yn 5 (by omega) (by omega), yn 6 (by omega) (by omega), yn 7 (by omega) (by omega), yn 8 (by omega) (by omega), ebs _ (by omega), yk 2 (by decide) (by decide) (by decide) (by decide), xn4, xn5, xn6, xn7, xn8, xn9, xn10, xn11, yn2, yn3, yn4, yn5, yn6, yn7, yn8]
      exact ⟨⟨rfl, rfl, rfl, rfl, rfl, rfl, rfl, by omega⟩, by omega⟩
  · exact iOut_c hI.2.2.2.1 (xk 0 (by decide) (by decide) (by decide) (by decide)) (yk 8 (by decide) (by decide) (by decide) (by decide)) (fun i => xj 0 i (by omega)) (fun i => yj 22 i (by omega))
  · rw [eu1, eu2, ps_eq]; rfl
  · rw [eu2]; exact z07.1
  · rw [eu2]; exact z07.2
  · exact iVw_c hI.2.2.2.2.2 (xk 8 (by decide) (by decide) (by decide) (by decide)) (xk 9 (by decide) (by decide) (by decide) (by decide)) (xk 10 (by decide) (by decide) (by decide) (by decide)) (by omega) (fun j i m1 m2 m3 => xj j i (by omega)) p2
