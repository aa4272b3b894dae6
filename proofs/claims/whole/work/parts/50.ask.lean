/-- r: the fault of a question about ways -/
def flt (n c a b t1 t2 v r : Int) : Prop := (r = 1 ∧ (a < 0 ∨ n ≤ a ∨ b < 0 ∨ n ≤ b ∨ a = b)) ∨ (((0 ≤ a ∧ a < n) ∧ (0 ≤ b ∧ b < n) ∧ a ≠ b) ∧ ((r = 2 ∧ (t1 < 0 ∨ 5000 < t1 ∨ t2 < 0 ∨ 5000 < t2)) ∨ (((0 ≤ t1 ∧ t1 ≤ 5000) ∧ (0 ≤ t2 ∧ t2 ≤ 5000)) ∧ ((r = 6 ∧ (v < 0 ∨ c < v)) ∨ (r = 0 ∧ 0 ≤ v ∧ v ≤ c)))))
def fltR (n c a b t1 t2 v r : Int) : Prop := (r = 1 ∧ (a < 0 ∨ n ≤ a ∨ b < 0 ∨ n ≤ b)) ∨ (((0 ≤ a ∧ a < n) ∧ (0 ≤ b ∧ b < n)) ∧ ((r = 2 ∧ (t1 < 0 ∨ 5000 < t1 ∨ t2 < 0 ∨ 5000 < t2)) ∨ (((0 ≤ t1 ∧ t1 ≤ 5000) ∧ (0 ≤ t2 ∧ t2 ≤ 5000)) ∧ ((r = 6 ∧ (v < 0 ∨ c < v)) ∨ (r = 0 ∧ 0 ≤ v ∧ v ≤ c)))))
theorem flt_rg {n c a b t1 t2 v r : Int} (h : flt n c a b t1 t2 v r) : 0 ≤ r ∧ r ≤ 6 := by unfold flt at h; omega
theorem fltR_rg {n c a b t1 t2 v r : Int} (h : fltR n c a b t1 t2 v r) : 0 ≤ r ∧ r ≤ 6 := by unfold fltR at h; omega
theorem flt_u {n c a b t1 t2 v r r' : Int} (h : flt n c a b t1 t2 v r) (h' : flt n c a b t1 t2 v r') : r' = r := by unfold flt at h h'; omega
theorem fltR_u {n c a b t1 t2 v r r' : Int} (h : fltR n c a b t1 t2 v r) (h' : fltR n c a b t1 t2 v r') : r' = r := by unfold fltR at h h'; omega
section AS
variable {P : Int → XS → Prop} {x : XS} {a b t1 t2 v : Int}
theorem sX_reachFault (ga : rg a) (gb : rg b) (g1 : rg t1) (g2 : rg t2) (gv : rg v) (hn : 0 ≤ x.1 2 ∧ x.1 2 ≤ 24) (hc : 0 ≤ x.1 5 ∧ x.1 5 ≤ 400) (h : ∀ r : Int, fltR (x.1 2) (x.1 5) a b t1 t2 v r → P r x) : wp (f_X6_reachFault x a b t1 t2 v) P := by
  unfold f_X6_reachFault
  unfold fltR at h
  refine wp_call (sX_isNode ga hn (fun a1 a2 => ?_) (fun a1 => ?_))
  · refine wp_e1 ?_
    refine wp_call (sX_isNode gb hn (fun b1 b2 => ?_) (fun b1 => ?_))
    · refine wp_e1 ?_
      refine wp_call (sX_isTick g1 (fun c1 c2 => ?_) (fun c1 => ?_))
      · refine wp_e1 ?_
        refine wp_call (sX_isTick g2 (fun d1 d2 => ?_) (fun d1 => ?_))
        · refine wp_e1 ?_
          refine wp_call (sX_isChange gv hc (fun e1 e2 => ?_) (fun e1 => ?_))
          · refine wp_e1 ?_
            exact wp_ret (h 0 (by omega))
          · refine wp_e0 ?_
            exact wp_ret (h 6 (by omega))
        · refine wp_e0 ?_
          exact wp_ret (h 2 (by omega))
      · refine wp_e0 ?_
        exact wp_ret (h 2 (by omega))
    · refine wp_e0 ?_
      exact wp_ret (h 1 (by omega))
  · refine wp_e0 ?_
    exact wp_ret (h 1 (by omega))
theorem sX_wayFault (ga : rg a) (gb : rg b) (g1 : rg t1) (g2 : rg t2) (gv : rg v) (hn : 0 ≤ x.1 2 ∧ x.1 2 ≤ 24) (hc : 0 ≤ x.1 5 ∧ x.1 5 ≤ 400) (h : ∀ r : Int, flt (x.1 2) (x.1 5) a b t1 t2 v r → P r x) : wp (f_X6_wayFault x a b t1 t2 v) P := by
  unfold f_X6_wayFault
  refine wp_call (sX_areEnds ga gb hn (fun a1 a2 b1 b2 hab => ?_) (fun a1 => ?_))
  · refine wp_e1 ?_
    refine wp_call (sX_reachFault ga gb g1 g2 gv hn hc (fun r hr => wp_ret (h r ?_)))
    unfold fltR at hr
    unfold flt
    omega
  · refine wp_e0 ?_
    refine wp_ret (h 1 ?_)
    unfold flt
    omega
theorem sY_askedReach (ga : rg a) (gb : rg b) (g1 : rg t1) (g2 : rg t2) (gv : rg v) (hn : 0 ≤ x.1 2 ∧ x.1 2 ≤ 24) (hc : 0 ≤ x.1 5 ∧ x.1 5 ≤ 400) (h : ∀ r : Int, fltR (x.1 2) (x.1 5) a b t1 t2 v r → P r x) : wp (f_X7_askedReach x a b t1 t2 v) P := by
  unfold f_X7_askedReach
  unfold fltR at h
  refine wp_call (sY_isNode ga hn (fun a1 a2 => ?_) (fun a1 => ?_))
  · refine wp_e1 ?_
    refine wp_call (sY_isNode gb hn (fun b1 b2 => ?_) (fun b1 => ?_))
    · refine wp_e1 ?_
      refine wp_call (sY_isTick g1 (fun c1 c2 => ?_) (fun c1 => ?_))
      · refine wp_e1 ?_
        refine wp_call (sY_isTick g2 (fun d1 d2 => ?_) (fun d1 => ?_))
        · refine wp_e1 ?_
          refine wp_jp ?_
          refine wp_lt gv.1 gv.2 (by omega) (by omega) (fun q => wp_ret (h 6 (by omega))) (fun q => ?_)
          exact wp_le gv.1 gv.2 (by omega) (by omega) (fun q' => wp_ret (h 0 (by omega))) (fun q' => wp_ret (h 6 (by omega)))
        · refine wp_e0 ?_
          exact wp_ret (h 2 (by omega))
      · refine wp_e0 ?_
        exact wp_ret (h 2 (by omega))
    · refine wp_e0 ?_
      exact wp_ret (h 1 (by omega))
  · refine wp_e0 ?_
    exact wp_ret (h 1 (by omega))
theorem sY_asked (ga : rg a) (gb : rg b) (g1 : rg t1) (g2 : rg t2) (gv : rg v) (hn : 0 ≤ x.1 2 ∧ x.1 2 ≤ 24) (hc : 0 ≤ x.1 5 ∧ x.1 5 ≤ 400) (h : ∀ r : Int, flt (x.1 2) (x.1 5) a b t1 t2 v r → P r x) : wp (f_X7_asked x a b t1 t2 v) P := by
  unfold f_X7_asked
  unfold flt at h
  refine wp_call (sY_isNode ga hn (fun a1 a2 => ?_) (fun a1 => ?_))
  · refine wp_e1 ?_
    refine wp_call (sY_isNode gb hn (fun b1 b2 => ?_) (fun b1 => ?_))
    · refine wp_e1 ?_
      refine wp_eq ga.1 ga.2 gb.1 gb.2 (fun q => wp_ret (h 1 (by omega))) (fun hab => ?_)
      refine wp_call (sY_isTick g1 (fun c1 c2 => ?_) (fun c1 => ?_))
      · refine wp_e1 ?_
        refine wp_call (sY_isTick g2 (fun d1 d2 => ?_) (fun d1 => ?_))
        · refine wp_e1 ?_
          refine wp_jp ?_
          refine wp_lt gv.1 gv.2 (by omega) (by omega) (fun q => wp_ret (h 6 (by omega))) (fun q => ?_)
          exact wp_le gv.1 gv.2 (by omega) (by omega) (fun q' => wp_ret (h 0 (by omega))) (fun q' => wp_ret (h 6 (by omega)))
        · refine wp_e0 ?_
          exact wp_ret (h 2 (by omega))
      · refine wp_e0 ?_
        exact wp_ret (h 2 (by omega))
    · refine wp_e0 ?_
      exact wp_ret (h 1 (by omega))
  · refine wp_e0 ?_
    exact wp_ret (h 1 (by omega))
end AS
theorem Inv_no1 {x y : XS} (h : Inv x y) (a : Int) (ha : 0 ≤ a) (hb : a ≤ 7) : Inv (xpS x 1 a) (xpS (xpS y 1 0) 0 a) :=
  Inv_ex h (exX.ps x 1 a (by omega)) ((exY.ps y 1 0 (by omega)).tr (exY.ps _ 0 a (by omega))) ⟨by rw [ps_eq, ps_eq], by rw [ps_eq]; exact ha, by rw [ps_eq]; exact hb⟩
section QW
variable {x y : XS} {a b t1 t2 v : Int} {KX KY : XS → XR}
theorem q_way (hI : Inv x y) (ga : rg a) (gb : rg b) (g1 : rg t1) (g2 : rg t2) (gv : rg v) (h : (0 ≤ a ∧ a < y.1 2) → (0 ≤ b ∧ b < y.1 2) → a ≠ b → (0 ≤ t1 ∧ t1 ≤ 5000) → (0 ≤ t2 ∧ t2 ≤ 5000) → (0 ≤ v ∧ v ≤ y.1 5) → wp (KX x) (fun r x' => wp (KY (y00 y)) (fun r' y' => r = r' ∧ Inv x' y'))) :
    wp (x_call (f_X6_wayFault x a b t1 t2 v) (fun r1 x2 => x_eq r1 0 (KX x2) (x_call (f_X6_refuse x2 r1) (fun r9 x10 => some (r9, x10))))) (fun r x' => wp (x_let (xpS y 1 0) (fun x1 => x_call (f_X7_asked x1 a b t1 t2 v) (fun r2 x3 => x_let (xpS x3 0 r2) (fun x4 => x_le (x4.1 0) 0 (KY x4) (some (-1, x4)))))) (fun r' y' => r = r' ∧ Inv x' y')) := by
  have hn := hI.1
  have hc := hI.2.2.1
  have ex2 := hn.2.2.1
  have ex5 := hc.2.2.1
  have ey2 : (xpS y 1 0).1 2 = y.1 2 := rfl
  have ey5 : (xpS y 1 0).1 5 = y.1 5 := rfl
  have hn1 := hn.1
  have hn2 := hn.2.1
  have hc1 := hc.1
  have hc2 := hc.2.1
  refine wp_call (sX_wayFault ga gb g1 g2 gv (by omega) (by omega) (fun r hr => ?_))
  rw [ex2, ex5] at hr
  have hr2 := flt_rg hr
  refine wp_eq (by omega) (by omega) (by omega) (by omega) (fun hz => ?_) (fun hz => ?_)
  · have hr3 := hr
    unfold flt at hr3
    refine wp_mono (h (by omega) (by omega) (by omega) (by omega) (by omega) (by omega)) (fun r1 x1 hw => ?_)
    refine wp_let (wp_call (sY_asked ga gb g1 g2 gv (by omega) (by omega) (fun r' hr' => ?_)))
    rw [ey2, ey5] at hr'
    have e : r' = 0 := (flt_u hr hr').trans hz
    subst e
    refine wp_let ?_
    have e0 : (xpS (xpS y 1 0) 0 0).1 0 = 0 := ps_eq
    exact wp_le (by omega) (by omega) (by omega) (by omega) (fun _ => hw) (fun q => absurd q (by omega))
  · refine wp_call (sX_refuse (wp_ret ?_))
    refine wp_let (wp_call (sY_asked ga gb g1 g2 gv (by omega) (by omega) (fun r' hr' => ?_)))
    rw [ey2, ey5] at hr'
    have e := flt_u hr hr'
    subst e
    refine wp_let ?_
    have e0 : (xpS (xpS y 1 0) 0 r').1 0 = r' := ps_eq
    exact wp_le (by omega) (by omega) (by omega) (by omega) (fun q => absurd q (by omega)) (fun _ => wp_ret ⟨rfl, Inv_no1 hI r' (by omega) (by omega)⟩)
theorem q_reach (hI : Inv x y) (ga : rg a) (gb : rg b) (g1 : rg t1) (g2 : rg t2) (gv : rg v) (h : (0 ≤ a ∧ a < y.1 2) → (0 ≤ b ∧ b < y.1 2) → (0 ≤ t1 ∧ t1 ≤ 5000) → (0 ≤ t2 ∧ t2 ≤ 5000) → (0 ≤ v ∧ v ≤ y.1 5) → wp (KX x) (fun r x' => wp (KY (y00 y)) (fun r' y' => r = r' ∧ Inv x' y'))) :
    wp (x_call (f_X6_reachFault x a b t1 t2 v) (fun r1 x2 => x_eq r1 0 (KX x2) (x_call (f_X6_refuse x2 r1) (fun r9 x10 => some (r9, x10))))) (fun r x' => wp (x_let (xpS y 1 0) (fun x1 => x_call (f_X7_askedReach x1 a b t1 t2 v) (fun r2 x3 => x_let (xpS x3 0 r2) (fun x4 => x_le (x4.1 0) 0 (KY x4) (some (-1, x4)))))) (fun r' y' => r = r' ∧ Inv x' y')) := by
  have hn := hI.1
  have hc := hI.2.2.1
  have ex2 := hn.2.2.1
  have ex5 := hc.2.2.1
  have ey2 : (xpS y 1 0).1 2 = y.1 2 := rfl
  have ey5 : (xpS y 1 0).1 5 = y.1 5 := rfl
  have hn1 := hn.1
  have hn2 := hn.2.1
  have hc1 := hc.1
  have hc2 := hc.2.1
  refine wp_call (sX_reachFault ga gb g1 g2 gv (by omega) (by omega) (fun r hr => ?_))
  rw [ex2, ex5] at hr
  have hr2 := fltR_rg hr
  refine wp_eq (by omega) (by omega) (by omega) (by omega) (fun hz => ?_) (fun hz => ?_)
  · have hr3 := hr
    unfold fltR at hr3
    refine wp_mono (h (by omega) (by omega) (by omega) (by omega) (by omega)) (fun r1 x1 hw => ?_)
    refine wp_let (wp_call (sY_askedReach ga gb g1 g2 gv (by omega) (by omega) (fun r' hr' => ?_)))
    rw [ey2, ey5] at hr'
    have e : r' = 0 := (fltR_u hr hr').trans hz
    subst e
    refine wp_let ?_
    have e0 : (xpS (xpS y 1 0) 0 0).1 0 = 0 := ps_eq
    exact wp_le (by omega) (by omega) (by omega) (by omega) (fun _ => hw) (fun q => absurd q (by omega))
  · refine wp_call (sX_refuse (wp_ret ?_))
    refine wp_let (wp_call (sY_askedReach ga gb g1 g2 gv (by omega) (by omega) (fun r' hr' => ?_)))
    rw [ey2, ey5] at hr'
    have e := fltR_u hr hr'
    subst e
    refine wp_let ?_
    have e0 : (xpS (xpS y 1 0) 0 r').1 0 = r' := ps_eq
    exact wp_le (by omega) (by omega) (by omega) (by omega) (fun q => absurd q (by omega)) (fun _ => wp_ret ⟨rfl, Inv_no1 hI r' (by omega) (by omega)⟩)
end QW
/-- the rows of the reference behind lay and goes -/
def rY (y t : XS) (v : Nat) (w : Int) (Bf Cf : Int → Int → Int) : Prop :=
  (0 ≤ t.1 7 ∧ t.1 7 ≤ 1200) ∧ (∀ (j : Nat) (i : Int), j ≤ 12 → rd t j i = rd y j i) ∧
  (∀ s : Int, 0 ≤ s → s < t.1 7 → Sr y v w (rd t 15 s) (rd t 16 s) ∧ rd t 17 s = lv y v (rd t 15 s) (rd t 16 s) ∧ rd t 18 s = cm y v (rd t 15 s) (rd t 16 s) ∧ ((rd t 21 s = 0 ∧ Bf (rd t 15 s) (rd t 16 s) = -1 ∧ Cf (rd t 15 s) (rd t 16 s) = -1) ∨ (rd t 21 s = 1 ∧ Bf (rd t 15 s) (rd t 16 s) = rd t 19 s ∧ Cf (rd t 15 s) (rd t 16 s) = rd t 20 s ∧ rd t 19 s ≠ -1 ∧ rd t 20 s ≠ -1))) ∧
  (∀ l r : Int, Sr y v w l r → ∃ s : Int, 0 ≤ s ∧ s < t.1 7 ∧ rd t 15 s = l ∧ rd t 16 s = r)
section RY
variable {P : Int → XS → Prop} {x y z t u : XS} {v : Nat} {w a tick b : Int} {Bf Cf : Int → Int → Int}
theorem rY_of (hI : Inv x y) (hv : (v : Int) ≤ y.1 5) (hcw : cw y v w a tick Bf Cf) (hl : ly y z v w) (ht : gd y z t v a tick) (h7 : t.1 7 = z.1 7) (hj : ∀ (j : Nat) (i : Int), j ≤ 18 → rd t j i = rd z j i) (hz : ∀ (j : Nat) (i : Int), j ≤ 12 → rd z j i = rd y j i) : rY y t v w Bf Cf := by
  have hm := hl.1
  refine ⟨by omega, fun j i q => by rw [hj j i (by omega)]; exact hz j i q, fun s s0 s1 => ?_, fun l r hS => ?_⟩
  · have hs : DY z s := ⟨s0, by omega⟩
    rw [hj 15 s (by decide), hj 16 s (by decide), hj 17 s (by decide), hj 18 s (by decide)]
    exact ⟨(ly_cov hl).1 s hs, (ly_at hl hs).1, (ly_at hl hs).2, cw_Y hI hv hcw hl ht hs⟩
  · obtain ⟨s, hs, e1, e2⟩ := (ly_cov hl).2 l r hS
    exact ⟨s, hs.1, by rw [h7]; exact hs.2, by rw [hj 15 s (by decide)]; exact e1, by rw [hj 16 s (by decide)]; exact e2⟩
theorem rY_at (hI : Inv x y) (hv : (v : Int) ≤ y.1 5) (hcw : cw y v w a tick Bf Cf) (R : rY y t v w Bf Cf) {s : Int} (h0 : 0 ≤ s) (h1 : s < t.1 7) : s < 1200 ∧ (0 ≤ rd t 15 s ∧ rd t 15 s < 100) ∧ (0 ≤ rd t 17 s ∧ rd t 17 s < rd t 18 s ∧ rd t 18 s ≤ 5000) ∧ rd t 3 (rd t 15 s) = rd y 3 (rd t 15 s) ∧ (0 ≤ rd y 3 (rd t 15 s) ∧ rd y 3 (rd t 15 s) < 24) ∧ rd t 18 s = cm y v (rd t 15 s) (rd t 16 s) ∧ ((rd t 21 s = 0 ∧ Bf (rd t 15 s) (rd t 16 s) = -1 ∧ Cf (rd t 15 s) (rd t 16 s) = -1) ∨ (rd t 21 s = 1 ∧ Bf (rd t 15 s) (rd t 16 s) = rd t 19 s ∧ Cf (rd t 15 s) (rd t 16 s) = rd t 20 s ∧ (0 ≤ rd t 19 s ∧ rd t 19 s ≤ rd t 17 s) ∧ (1 ≤ rd t 20 s ∧ rd t 20 s ≤ 1200))) ∧ (0 ≤ rd t 16 s ∧ rd t 16 s < 60) := by
  obtain ⟨R1, R2, R3, R4⟩ := R
  obtain ⟨a1, a2, a3, a4⟩ := R3 s h0 h1
  have hS := Sr_rg hI hv a1
  have hc := hcw.2.1 _ _ a1
  have hn24 := hI.1.2.1
  have hl100 := hI.2.1.2.1
  have h15 := a1.1
  have hln := (hI.2.1.2.2.2.2.2.2 _ h15 hS.2.2.2.1).2
  unfold lnOK at hln
  have h16 := a1.2.2.1
  have h16' := a1.2.2.2.1
  refine ⟨by omega, by omega, by omega, R2 3 _ (by decide), by omega, a3, ?_, by omega⟩
  rcases a4 with q | ⟨q1, q2, q3, q4, q5⟩
  · exact Or.inl q
  · rw [q2, q3] at hc
    exact Or.inr ⟨q1, q2, q3, by omega, by omega⟩
theorem Y_oP {S : Int → Prop} {T : Int → Int → Prop} {g : Int → Int → Int} {G key : Int → Int} {none f : Int} (R : rY y t v w Bf Cf) (h1 : ∀ s, 0 ≤ s → s < t.1 7 → S s → T (rd t 15 s) (rd t 16 s) ∧ g (rd t 15 s) (rd t 16 s) = G s) (h2 : ∀ s, 0 ≤ s → s < t.1 7 → T (rd t 15 s) (rd t 16 s) → S s) (h3 : ∀ l r, T l r → Sr y v w l r) (hA : oA 0 (t.1 7) S G key none f) : oP T g key none f := by
  refine oA_oP (p := fun s => rd t 15 s) (q := fun s => rd t 16 s) hA h1 (fun l r hT => ?_)
  obtain ⟨s, b1, b2, b3, b4⟩ := R.2.2.2 l r (h3 l r hT)
  exact ⟨s, b1, b2, h2 s b1 b2 (by rw [b3, b4]; exact hT), b3, b4⟩
theorem sY_lg {K : XS → XR} (hI : Inv x y) (hu : ∀ k : Nat, 2 ≤ k → k ≠ 7 → u.1 k = y.1 k) (huj : ∀ (j : Nat) (i : Int), j ≤ 12 → rd u j i = rd y j i) {v : Int} (h0 : 0 ≤ v) (h1 : v ≤ y.1 5) (gw : rg w) (ga : rg a) (gt : rg tick) (hcw : cw y v.toNat w a tick Bf Cf) (h : ∀ t : XS, (∀ k : Nat, k ≠ 7 → t.1 k = u.1 k) → (∀ (j : Nat) (i : Int), (j ≤ 12 ∨ 21 < j) → rd t j i = rd u j i) → rY y t v.toNat w Bf Cf → wp (K t) P) : wp (x_call (f_X7_lay u v w) (fun _ x6 => x_call (f_X7_goes x6 a tick) (fun _ x8 => K x8))) P := by
  have e0 : ((v.toNat : Nat) : Int) ≤ y.1 5 := by omega
  refine wp_call (sY_lay hI hu huj h0 h1 gw (fun z z1 zj hz => ?_))
  have z12 : ∀ (j : Nat) (i : Int), j ≤ 12 → rd z j i = rd y j i := fun j i q => by rw [zj j i (by omega)]; exact huj j i q
  refine wp_call (sY_goes hI e0 hz z12 ga gt (fun t t1 tj ht => ?_))
  exact h t (fun k q => (t1 k).trans (z1 k q)) (fun j i q => by rw [tj j i (by omega)]; exact zj j i (by omega)) (rY_of hI e0 hcw hz ht (t1 7) (fun j i q => tj j i (by omega)) z12)
end RY
