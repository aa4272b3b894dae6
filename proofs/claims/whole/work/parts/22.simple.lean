theorem wp_e1 {A B : XR} {P : Int → XS → Prop} (h : wp B P) : wp (x_eq 1 0 A B) P := wp_eq (by omega) (by omega) (by omega) (by omega) (fun h => absurd h (by decide)) (fun _ => h)
theorem wp_e0 {A B : XR} {P : Int → XS → Prop} (h : wp A P) : wp (x_eq 0 0 A B) P := wp_eq (by omega) (by omega) (by omega) (by omega) (fun _ => h) (fun h => absurd rfl h)
theorem stepOK_of {fx fy : XS → XR} (h : ∀ x y, Inv x y → wp (fx x) (fun r x' => wp (fy y) (fun r' y' => r = r' ∧ Inv x' y'))) : stepOK Inv fx fy := by
  intro x y hI
  obtain ⟨r, x', e1, r', y', e2, e3, e4⟩ := h x y hI
  subst e3
  exact ⟨r, x', y', e1, e2, e4⟩
def exX (x x' : XS) : Prop := (∀ k : Nat, k ≤ 10 → k ≠ 1 → k ≠ 7 → x'.1 k = x.1 k) ∧ (∀ (j : Nat) (i : Int), j ≤ 27 → (j ≤ 16 ∨ 20 ≤ j) → j ≠ 1 → j ≠ 26 → rd x' j i = rd x j i)
def exY (y y' : XS) : Prop := (∀ k : Nat, 2 ≤ k → k ≤ 8 → k ≠ 7 → y'.1 k = y.1 k) ∧ (∀ (j : Nat) (i : Int), (j ≤ 12 ∨ j = 22) → rd y' j i = rd y j i)
theorem exX.rf (x : XS) : exX x x := ⟨fun _ _ _ _ => rfl, fun _ _ _ _ _ _ => rfl⟩
theorem exY.rf (x : XS) : exY x x := ⟨fun _ _ _ _ => rfl, fun _ _ _ => rfl⟩
theorem exX.tr {x x' x'' : XS} (h1 : exX x x') (h2 : exX x' x'') : exX x x'' := ⟨fun k a b c => (h2.1 k a b c).trans (h1.1 k a b c), fun j i a b c d => (h2.2 j i a b c d).trans (h1.2 j i a b c d)⟩
theorem exY.tr {x x' x'' : XS} (h1 : exY x x') (h2 : exY x' x'') : exY x x'' := ⟨fun k a b c => (h2.1 k a b c).trans (h1.1 k a b c), fun j i a => (h2.2 j i a).trans (h1.2 j i a)⟩
theorem exX.ps (x : XS) (k : Nat) (v : Int) (h : k = 1 ∨ k = 7 ∨ 10 < k) : exX x (xpS x k v) := ⟨fun k' a b c => ps_ne (by omega), fun _ _ _ _ _ _ => rfl⟩
theorem exY.ps (x : XS) (k : Nat) (v : Int) (h : k < 2 ∨ k = 7 ∨ 8 < k) : exY x (xpS x k v) := ⟨fun k' a b c => ps_ne (by omega), fun _ _ _ => rfl⟩
theorem exX.wr (x : XS) (j : Nat) (i v : Int) (h : j = 1 ∨ j = 26 ∨ (16 < j ∧ j < 20) ∨ 27 < j) : exX x (wr x j i v) := ⟨fun _ _ _ _ => rfl, fun j' i' a b c d => rd_wr_j (by omega)⟩
theorem exY.wr (x : XS) (j : Nat) (i v : Int) (h : 12 < j ∧ j ≠ 22) : exY x (wr x j i v) := ⟨fun _ _ _ _ => rfl, fun j' i' a => rd_wr_j (by omega)⟩
-- the parts of the invariant under changes elsewhere
section CG
variable {x x' y y' : XS}
theorem iLin_c (h : iLin x y) (h2 : y.1 2 ≤ y'.1 2) (e3 : x'.1 3 = x.1 3) (e4 : x'.1 4 = x.1 4) (f3 : y'.1 3 = y.1 3) (f4 : y'.1 4 = y.1 4) (ex : ∀ (j : Nat) (i : Int), 4 ≤ j → j ≤ 11 → rd x' j i = rd x j i) (ey : ∀ (j : Nat) (i : Int), 2 ≤ j → j ≤ 8 → rd y' j i = rd y j i) : iLin x' y' := by
  obtain ⟨a1, a2, a3, a4, a5, a6, a7⟩ := h
  have eb : ∀ n : Nat, bs y' n = bs y n := fun n => bs_c (fun c _ => ey 7 c (by omega) (by omega))
  refine ⟨by omega, by omega, by omega, by omega, ?_, by omega, fun l b1 b2 => ?_⟩
  · rw [f4, f3, eb]; exact a5
  · rw [f3] at b2
    obtain ⟨c1, c2⟩ := a7 l b1 b2
    unfold lnEQ lnOK at *
    rw [ex 4 l (by omega) (by omega), ex 5 l (by omega) (by omega), ex 6 l (by omega) (by omega), ex 7 l (by omega) (by omega), ex 8 l (by omega) (by omega), ex 9 l (by omega) (by omega), ex 10 l (by omega) (by omega), ex 11 l (by omega) (by omega), ey 2 l (by omega) (by omega), ey 3 l (by omega) (by omega), ey 4 l (by omega) (by omega), ey 5 l (by omega) (by omega), ey 6 l (by omega) (by omega), ey 7 l (by omega) (by omega), ey 8 l (by omega) (by omega), eb]
    exact ⟨c1, by omega⟩
theorem iLog_c (h : iLog x y) (h2 : y.1 2 ≤ y'.1 2) (e5 : x'.1 5 = x.1 5) (e6 : x'.1 6 = x.1 6) (f3 : y'.1 3 = y.1 3) (f5 : y'.1 5 = y.1 5) (f6 : y'.1 6 = y.1 6) (ex : ∀ (j : Nat) (i : Int), 12 ≤ j → j ≤ 16 → rd x' j i = rd x j i) (ey : ∀ (j : Nat) (i : Int), 2 ≤ j → j ≤ 12 → rd y' j i = rd y j i) : iLog x' y' := by
  obtain ⟨a1, a2, a3, a4, a5, a6, a7, a8, a9⟩ := h
  have eb : ∀ n : Nat, bs y' n = bs y n := fun n => bs_c (fun c _ => ey 7 c (by omega) (by omega))
  have en : ∀ n : Nat, nput y' n = nput y n := fun n => nput_c (fun c _ => ey 9 c (by omega) (by omega))
  have ec : ∀ n : Nat, nclo y' n = nclo y n := fun n => nclo_c (fun c _ => ey 9 c (by omega) (by omega))
  refine ⟨by omega, by omega, by omega, ?_, by omega, ?_, by omega, fun c b1 b2 => ?_, fun l b1 b2 => ?_⟩
  · rw [f5, f3, en]; exact a4
  · rw [f6, f5, ec]; exact a6
  · rw [f5] at b2
    have := a8 c b1 b2
    unfold lgOK at *
    rw [ex 13 c (by omega) (by omega), ex 14 c (by omega) (by omega), ex 15 c (by omega) (by omega), ex 16 c (by omega) (by omega), ey 9 c (by omega) (by omega), ey 10 c (by omega) (by omega), ey 11 c (by omega) (by omega), ey 12 c (by omega) (by omega), ey 7 _ (by omega) (by omega), eb, en, skd_c (y := y) (y' := y') (fun c _ => ⟨ey 9 c (by omega) (by omega), ey 10 c (by omega) (by omega)⟩)]
    omega
  · rw [f3] at b2
    rw [ex 12 l (by omega) (by omega), f5, skd_c (fun c _ => ⟨ey 9 c (by omega) (by omega), ey 10 c (by omega) (by omega)⟩)]
    exact a9 l b1 b2
theorem iVw_c (h : iVw x y) (e8 : x'.1 8 = x.1 8) (e9 : x'.1 9 = x.1 9) (e10 : x'.1 10 = x.1 10) (h5 : y.1 5 ≤ y'.1 5) (ex : ∀ (j : Nat) (i : Int), 20 ≤ j → j ≤ 27 → j ≠ 26 → rd x' j i = rd x j i) (ey : ∀ v : Nat, (v : Int) ≤ y.1 5 → agr y y' v) : iVw x' y' := by
  rcases h with h | ⟨h1, h2, h3⟩
  · exact Or.inl (by omega)
  · refine Or.inr ⟨by omega, by omega, ?_⟩
    rw [e10]
    exact vw_cong (ey _ (by omega)) (fun j hj i => ex j i (by omega) (by omega) (by omega)) e8 e9 h3
theorem agr_all (ey : ∀ (j : Nat) (i : Int), 2 ≤ j → j ≤ 12 → rd y' j i = rd y j i) (v : Nat) : agr y y' v :=
  ⟨fun c _ => ⟨ey 9 c (by omega) (by omega), ey 10 c (by omega) (by omega), ey 11 c (by omega) (by omega), ey 12 c (by omega) (by omega)⟩, fun l _ _ => ⟨ey 2 l (by omega) (by omega), ey 3 l (by omega) (by omega), ey 4 l (by omega) (by omega), ey 5 l (by omega) (by omega), ey 6 l (by omega) (by omega), ey 7 l (by omega) (by omega), ey 8 l (by omega) (by omega)⟩⟩
theorem iOut_c (h : iOut x y) (e0 : x'.1 0 = x.1 0) (f8 : y'.1 8 = y.1 8) (ex : ∀ i : Int, rd x' 0 i = rd x 0 i) (ey : ∀ i : Int, rd y' 22 i = rd y 22 i) : iOut x' y' := by
  obtain ⟨a1, a2, a3, a4⟩ := h
  refine ⟨by omega, by omega, by omega, fun k b1 b2 => ?_⟩
  rw [f8] at b2
  rw [ex, ey]
  exact a4 k b1 b2
theorem iNod_c (h : iNod x y) (e2 : x'.1 2 = x.1 2) (f2 : y'.1 2 = y.1 2) (ex : ∀ (j : Nat) (i : Int), 2 ≤ j → j ≤ 3 → rd x' j i = rd x j i) (ey : ∀ (j : Nat) (i : Int), j ≤ 1 → rd y' j i = rd y j i) : iNod x' y' := by
  obtain ⟨a1, a2, a3, a4⟩ := h
  refine ⟨by omega, by omega, by omega, fun k b1 b2 => ?_⟩
  rw [f2] at b2
  rw [ex 2 k (by omega) (by omega), ex 3 k (by omega) (by omega), ey 0 k (by omega), ey 1 k (by omega)]
  exact a4 k b1 b2
theorem Inv_ex (h : Inv x y) (hx : exX x x') (hy : exY y y') (hs : iSta x' y') : Inv x' y' := by
  obtain ⟨a1, a2, a3, a4, a5, a6⟩ := h
  refine ⟨iNod_c a1 (hx.1 2 (by omega) (by omega) (by omega)) (hy.1 2 (by omega) (by omega) (by omega)) (fun j i b1 b2 => hx.2 j i (by omega) (by omega) (by omega) (by omega)) (fun j i b1 => hy.2 j i (by omega)), ?_, ?_, ?_, hs, ?_⟩
  · exact iLin_c a2 (Int.le_of_eq (hy.1 2 (by omega) (by omega) (by omega)).symm) (hx.1 3 (by omega) (by omega) (by omega)) (hx.1 4 (by omega) (by omega) (by omega)) (hy.1 3 (by omega) (by omega) (by omega)) (hy.1 4 (by omega) (by omega) (by omega)) (fun j i b1 b2 => hx.2 j i (by omega) (by omega) (by omega) (by omega)) (fun j i b1 b2 => hy.2 j i (by omega))
  · exact iLog_c a3 (Int.le_of_eq (hy.1 2 (by omega) (by omega) (by omega)).symm) (hx.1 5 (by omega) (by omega) (by omega)) (hx.1 6 (by omega) (by omega) (by omega)) (hy.1 3 (by omega) (by omega) (by omega)) (hy.1 5 (by omega) (by omega) (by omega)) (hy.1 6 (by omega) (by omega) (by omega)) (fun j i b1 b2 => hx.2 j i (by omega) (by omega) (by omega) (by omega)) (fun j i b1 b2 => hy.2 j i (by omega))
  · exact iOut_c a4 (hx.1 0 (by omega) (by omega) (by omega)) (hy.1 8 (by omega) (by omega) (by omega)) (fun i => hx.2 0 i (by omega) (by omega) (by omega) (by omega)) (fun i => hy.2 22 i (by omega))
  · exact iVw_c a6 (hx.1 8 (by omega) (by omega) (by omega)) (hx.1 9 (by omega) (by omega) (by omega)) (hx.1 10 (by omega) (by omega) (by omega)) (Int.le_of_eq (hy.1 5 (by omega) (by omega) (by omega)).symm) (fun j i b1 b2 b3 => hx.2 j i (by omega) (by omega) (by omega) (by omega)) (fun v _ => agr_all (fun j i b1 b2 => hy.2 j i (by omega)) v)
end CG
/-- the state of Y behind 'thrown = 0; status = 0' -/
def y00 (y : XS) : XS := xpS (xpS y 1 0) 0 0
theorem y00_ex (y : XS) : exY y (y00 y) := (exY.ps y 1 0 (by omega)).tr (exY.ps _ 0 0 (by omega))
theorem z07 : (0 : Int) ≤ 0 ∧ (0 : Int) ≤ 7 := by decide
theorem wp_y00 {P : Int → XS → Prop} {y : XS} {k : XS → XR} (h : wp (k (y00 y)) P) : wp (x_let (xpS y 1 0) (fun x1 => x_let (xpS x1 0 0) k)) P := h
theorem y00_2 (y : XS) : (y00 y).1 2 = y.1 2 := rfl
theorem y00_3 (y : XS) : (y00 y).1 3 = y.1 3 := rfl
theorem y00_4 (y : XS) : (y00 y).1 4 = y.1 4 := rfl
theorem y00_5 (y : XS) : (y00 y).1 5 = y.1 5 := rfl
theorem y00_6 (y : XS) : (y00 y).1 6 = y.1 6 := rfl
theorem y00_0 (y : XS) : (y00 y).1 0 = 0 := rfl
theorem y00_rd (y : XS) (j : Nat) (i : Int) : rd (y00 y) j i = rd y j i := rfl
/-- a call that is refused, or only read -/
theorem Inv_no {x y : XS} (h : Inv x y) (a : Int) (ha : 0 ≤ a) (hb : a ≤ 7) : Inv (xpS x 1 a) (xpS (y00 y) 0 a) :=
  Inv_ex h (exX.ps x 1 a (by omega)) ((y00_ex y).tr (exY.ps _ 0 a (by omega))) ⟨rfl, ha, hb⟩
theorem Inv_ok {x y : XS} (h : Inv x y) : Inv (xpS x 1 0) (y00 y) :=
  Inv_ex h (exX.ps x 1 0 (by omega)) (y00_ex y) ⟨rfl, z07.1, z07.2⟩
theorem ok_status : stepOK Inv (fun x => f_X6_status x) (fun y => f_X7_status y) := by
  refine stepOK_of (fun x y hI => ?_)
  refine wp_ret ?_
  refine wp_let (wp_ret ⟨?_, Inv_ex hI (exX.rf x) (exY.ps y 1 0 (by omega)) ?_⟩)
  · exact hI.2.2.2.2.1.1
  · exact hI.2.2.2.2.1
theorem ok_changes : stepOK Inv (fun x => f_X6_changes x) (fun y => f_X7_changes y) := by
  refine stepOK_of (fun x y hI => ?_)
  refine wp_call (sX_answer (wp_ret ?_))
  refine wp_y00 (wp_ret ⟨?_, Inv_ok hI⟩)
  exact hI.2.2.1.2.2.1
theorem ok_out (w1 : Int) (g1 : rg w1) : stepOK Inv (fun x => f_X6_out x w1) (fun y => f_X7_out y w1) := by
  refine stepOK_of (fun x y hI => ?_)
  obtain ⟨a1, a2, a3, a4⟩ := hI.2.2.2.1
  have hI2 : Inv x (xpS y 1 0) := Inv_ex hI (exX.rf x) (exY.ps y 1 0 (by omega)) hI.2.2.2.2.1
  have e8 : (xpS y 1 0).1 8 = y.1 8 := rfl
  refine wp_call (sX_isBetween g1 (rg_lit (by omega) (by omega)) (rg_lit (by omega) (by omega)) (fun b1 b2 => ?_) (fun b1 => ?_))
  · refine wp_e1 ?_
    refine wp_ld (by omega) (by omega) ?_
    refine wp_ret ?_
    refine wp_let ?_
    refine wp_lt g1.1 g1.2 (by omega) (by omega) (fun h => absurd h (by omega)) (fun _ => ?_)
    refine wp_le (by omega) (by omega) g1.1 g1.2 (fun h => absurd h (by omega)) (fun _ => ?_)
    refine wp_ld (by omega) (by omega) ?_
    exact wp_ret ⟨a4 w1 (by omega) (by omega), hI2⟩
  · refine wp_e0 ?_
    refine wp_ret ?_
    refine wp_let ?_
    refine wp_lt g1.1 g1.2 (by omega) (by omega) (fun h => wp_ret ⟨rfl, hI2⟩) (fun _ => ?_)
    refine wp_le (by omega) (by omega) g1.1 g1.2 (fun h => wp_ret ⟨rfl, hI2⟩) (fun _ => absurd b1 (by omega))
theorem ok_waits (w1 w2 w3 : Int) (g1 : rg w1) (g2 : rg w2) (g3 : rg w3) : stepOK Inv (fun x => f_X6_waits x w1 w2 w3) (fun y => f_X7_waits y w1 w2 w3) := by
  refine stepOK_of (fun x y hI => ?_)
  obtain ⟨a1, a2, a3, a4⟩ := hI.1
  refine wp_call (sX_isNode g1 (by omega) (fun b1 b2 => ?_) (fun b1 => ?_))
  · refine wp_e1 ?_
    refine wp_call (sX_areWaits g2 g3 (fun c1 c2 c3 => ?_) (fun c1 => ?_))
    · refine wp_e1 ?_
      refine wp_call ?_
      refine wp_st (by omega) (by omega) ?_
      refine wp_st (by omega) (by omega) ?_
      refine wp_ret ?_
      refine wp_call (sX_agree (wp_ret ?_))
      refine wp_y00 ?_
      refine wp_call (sY_isNode g1 (x := y00 y) ⟨a1, a2⟩ (fun _ _ => ?_) (fun h => absurd h (by rw [y00_2]; omega)))
      refine wp_e1 ?_
      refine wp_call (sY_areWaits g2 g3 (fun _ _ _ => ?_) (fun h => absurd h (by omega)))
      refine wp_e1 ?_
      refine wp_st (by omega) (by omega) ?_
      refine wp_st (by omega) (by omega) ?_
      refine wp_ret ⟨rfl, ?_, ?_, ?_, ?_, ⟨rfl, z07.1, z07.2⟩, ?_⟩
      · refine ⟨a1, a2, a3, fun i d1 d2 => ?_⟩
        have d2 : i < y.1 2 := d2
        obtain ⟨e1, e2, e3, e4, e5, e6⟩ := a4 i d1 d2
        by_cases hi : i = w1
        · subst hi
          simp (disch := omega) only [rd_wr_eq, rd_wr_ne, rd_wr_j, rd_ps, wr_1, ps_eq, ps_ne]
          exact ⟨trivial, trivial, by omega, by omega, by omega, by omega⟩
        · simp (disch := omega) only [rd_wr_eq, rd_wr_ne, rd_wr_j, rd_ps, wr_1, ps_eq, ps_ne, y00_rd]
          exact ⟨e1, e2, e3, e4, e5, e6⟩
      · exact iLin_c hI.2.1 (Int.le_refl _) rfl rfl rfl rfl (fun j i d1 d2 => by simp (disch := omega) only [rd_wr_eq, rd_wr_ne, rd_wr_j, rd_ps, wr_1, ps_eq, ps_ne]) (fun j i d1 d2 => by simp (disch := omega) only [rd_wr_eq, rd_wr_ne, rd_wr_j, rd_ps, wr_1, ps_eq, ps_ne, y00_rd])
      · exact iLog_c hI.2.2.1 (Int.le_refl _) rfl rfl rfl rfl rfl (fun j i d1 d2 => by simp (disch := omega) only [rd_wr_eq, rd_wr_ne, rd_wr_j, rd_ps, wr_1, ps_eq, ps_ne]) (fun j i d1 d2 => by simp (disch := omega) only [rd_wr_eq, rd_wr_ne, rd_wr_j, rd_ps, wr_1, ps_eq, ps_ne, y00_rd])
      · exact iOut_c hI.2.2.2.1 rfl rfl (fun i => by simp (disch := omega) only [rd_wr_eq, rd_wr_ne, rd_wr_j, rd_ps, wr_1, ps_eq, ps_ne]) (fun i => by simp (disch := omega) only [rd_wr_eq, rd_wr_ne, rd_wr_j, rd_ps, wr_1, ps_eq, ps_ne, y00_rd])
      · exact iVw_c hI.2.2.2.2.2 rfl rfl rfl (Int.le_refl _) (fun j i d1 d2 d3 => by simp (disch := omega) only [rd_wr_eq, rd_wr_ne, rd_wr_j, rd_ps, wr_1, ps_eq, ps_ne]) (fun v _ => agr_all (fun j i d1 d2 => by simp (disch := omega) only [rd_wr_eq, rd_wr_ne, rd_wr_j, rd_ps, wr_1, ps_eq, ps_ne, y00_rd]) v)
    · refine wp_e0 ?_
      refine wp_call (sX_deny (wp_ret ?_))
      refine wp_y00 ?_
      refine wp_call (sY_isNode g1 (x := y00 y) ⟨a1, a2⟩ (fun _ _ => ?_) (fun h => absurd h (by rw [y00_2]; omega)))
      refine wp_e1 ?_
      refine wp_call (sY_areWaits g2 g3 (fun _ _ _ => absurd c1 (by omega)) (fun h => ?_))
      refine wp_e0 ?_
      refine wp_call (sY_no (wp_ret ⟨rfl, Inv_no hI 2 (by decide) (by decide)⟩))
  · refine wp_e0 ?_
    refine wp_call (sX_deny (wp_ret ?_))
    refine wp_y00 ?_
    refine wp_call (sY_isNode g1 (x := y00 y) ⟨a1, a2⟩ (fun h1 h2 => absurd b1 (by rw [y00_2] at h2; omega)) (fun h => ?_))
    refine wp_e0 ?_
    refine wp_call (sY_no (wp_ret ⟨rfl, Inv_no hI 1 (by decide) (by decide)⟩))
theorem ok_node (w1 w2 : Int) (g1 : rg w1) (g2 : rg w2) : stepOK Inv (fun x => f_X6_node x w1 w2) (fun y => f_X7_node y w1 w2) := by
  refine stepOK_of (fun x y hI => ?_)
  obtain ⟨a1, a2, a3, a4⟩ := hI.1
  have e2 := y00_2 y
  refine wp_call (sX_areWaits g1 g2 (fun c1 c2 c3 => ?_) (fun c1 => ?_))
  · refine wp_e1 ?_
    refine wp_lt (by omega) (by omega) (by omega) (by omega) (fun hn => ?_) (fun hn => ?_)
    · refine wp_call ?_
      refine wp_call ?_
      refine wp_st (by omega) (by omega) ?_
      refine wp_st (by omega) (by omega) ?_
      refine wp_ret ?_
      refine wp_let ?_
      refine wp_ret ?_
      refine wp_call (sX_answer (wp_ret ?_))
      refine wp_y00 ?_
      refine wp_call (sY_areWaits g1 g2 (fun _ _ _ => ?_) (fun h => absurd h (by omega)))
      refine wp_e1 ?_
      refine wp_eq (by omega) (by omega) (by omega) (by omega) (fun h => absurd h (by omega)) (fun _ => ?_)
      refine wp_st (by omega) (by omega) ?_
      refine wp_st (by simp (disch := omega) only [rd_wr_eq, rd_wr_ne, rd_wr_j, rd_ps, wr_1, ps_eq, ps_ne]; omega) (by simp (disch := omega) only [rd_wr_eq, rd_wr_ne, rd_wr_j, rd_ps, wr_1, ps_eq, ps_ne]; omega) ?_
      refine wp_let ?_
      refine wp_ret ⟨?_, ?_, ?_, ?_, ?_, ⟨rfl, z07.1, z07.2⟩, ?_⟩
      · simp (disch := omega) only [rd_wr_eq, rd_wr_ne, rd_wr_j, rd_ps, wr_1, ps_eq, ps_ne]
        omega
      · refine ⟨?_, ?_, ?_, fun i d1 d2 => ?_⟩
        · simp (disch := omega) only [rd_wr_eq, rd_wr_ne, rd_wr_j, rd_ps, wr_1, ps_eq, ps_ne]; omega
        · simp (disch := omega) only [rd_wr_eq, rd_wr_ne, rd_wr_j, rd_ps, wr_1, ps_eq, ps_ne]; omega
        · simp (disch := omega) only [rd_wr_eq, rd_wr_ne, rd_wr_j, rd_ps, wr_1, ps_eq, ps_ne]; omega
        · simp (disch := omega) only [rd_wr_eq, rd_wr_ne, rd_wr_j, rd_ps, wr_1, ps_eq, ps_ne] at d2
          by_cases hi : i = y.1 2
          · subst hi
            rw [a3]
            simp (disch := omega) only [rd_wr_eq, rd_wr_ne, rd_wr_j, rd_ps, wr_1, ps_eq, ps_ne, y00_2]
            exact ⟨trivial, trivial, by omega, by omega, by omega, by omega⟩
          · rw [a3]
            simp (disch := omega) only [rd_wr_eq, rd_wr_ne, rd_wr_j, rd_ps, wr_1, ps_eq, ps_ne, y00_2, y00_rd]
            exact a4 i d1 (by omega)
      · exact iLin_c hI.2.1 (by simp (disch := omega) only [rd_wr_eq, rd_wr_ne, rd_wr_j, rd_ps, wr_1, ps_eq, ps_ne]; omega) rfl rfl rfl rfl (fun j i d1 d2 => by simp (disch := omega) only [rd_wr_eq, rd_wr_ne, rd_wr_j, rd_ps, wr_1, ps_eq, ps_ne]) (fun j i d1 d2 => by simp (disch := omega) only [rd_wr_eq, rd_wr_ne, rd_wr_j, rd_ps, wr_1, ps_eq, ps_ne, y00_rd])
      · exact iLog_c hI.2.2.1 (by simp (disch := omega) only [rd_wr_eq, rd_wr_ne, rd_wr_j, rd_ps, wr_1, ps_eq, ps_ne]; omega) rfl rfl rfl rfl rfl (fun j i d1 d2 => by simp (disch := omega) only [rd_wr_eq, rd_wr_ne, rd_wr_j, rd_ps, wr_1, ps_eq, ps_ne]) (fun j i d1 d2 => by simp (disch := omega) only [rd_wr_eq, rd_wr_ne, rd_wr_j, rd_ps, wr_1, ps_eq, ps_ne, y00_rd])
      · exact iOut_c hI.2.2.2.1 rfl rfl (fun i => by simp (disch := omega) only [rd_wr_eq, rd_wr_ne, rd_wr_j, rd_ps, wr_1, ps_eq, ps_ne]) (fun i => by simp (disch := omega) only [rd_wr_eq, rd_wr_ne, rd_wr_j, rd_ps, wr_1, ps_eq, ps_ne, y00_rd])
      · exact iVw_c hI.2.2.2.2.2 rfl rfl rfl (Int.le_refl _) (fun j i d1 d2 d3 => by simp (disch := omega) only [rd_wr_eq, rd_wr_ne, rd_wr_j, rd_ps, wr_1, ps_eq, ps_ne]) (fun v _ => agr_all (fun j i d1 d2 => by simp (disch := omega) only [rd_wr_eq, rd_wr_ne, rd_wr_j, rd_ps, wr_1, ps_eq, ps_ne, y00_rd]) v)
    · refine wp_call (sX_refuse (wp_ret ?_))
      refine wp_y00 ?_
      refine wp_call (sY_areWaits g1 g2 (fun _ _ _ => ?_) (fun h => absurd h (by omega)))
      refine wp_e1 ?_
      refine wp_eq (by omega) (by omega) (by omega) (by omega) (fun h => ?_) (fun h => absurd e2 (by omega))
      refine wp_call (sY_refuse (wp_ret ⟨rfl, Inv_no hI 3 (by decide) (by decide)⟩))
  · refine wp_e0 ?_
    refine wp_call (sX_refuse (wp_ret ?_))
    refine wp_y00 ?_
    refine wp_call (sY_areWaits g1 g2 (fun _ _ _ => absurd c1 (by omega)) (fun h => ?_))
    refine wp_e0 ?_
    refine wp_call (sY_refuse (wp_ret ⟨rfl, Inv_no hI 2 (by decide) (by decide)⟩))
