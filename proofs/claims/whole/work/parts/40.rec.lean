/-- the runs that stand, but for those of the line w -/
def Sr (y : XS) (v : Nat) (w l r : Int) : Prop := 0 ≤ l ∧ l < nput y v ∧ 0 ≤ r ∧ r < rd y 7 l ∧ l ≠ w ∧ stB y v l r = 1
/-- one may go on from (l, r) with (l', r') -/
def fw (y : XS) (v : Nat) (l r l' r' : Int) : Prop := rd y 2 l' = rd y 3 l ∧ rd y 0 (rd y 3 l) ≤ lv y v l' r' - cm y v l r ∧ (rd y 1 (rd y 3 l) < 0 ∨ lv y v l' r' - cm y v l r ≤ rd y 1 (rd y 3 l))
def stt (y : XS) (v : Nat) (a tick l r : Int) : Prop := rd y 2 l = a ∧ tick ≤ lv y v l r
/-- rows i of D name the runs (p i, q i) -/
def cov (y : XS) (v : Nat) (w : Int) (D : Int → Prop) (p q : Int → Int) : Prop := (∀ i, D i → Sr y v w (p i) (q i)) ∧ ∀ l r, Sr y v w l r → ∃ i, D i ∧ p i = l ∧ q i = r
def rcB (y : XS) (v : Nat) (a tick : Int) (D : Int → Prop) (p q B : Int → Int) : Prop := ∀ i, D i →
  (stt y v a tick (p i) (q i) → B i = lv y v (p i) (q i)) ∧
  (¬ stt y v a tick (p i) (q i) → (B i = -1 ∧ ∀ j, D j → fw y v (p j) (q j) (p i) (q i) → B j = -1) ∨ (B i ≠ -1 ∧ (∃ j, D j ∧ fw y v (p j) (q j) (p i) (q i) ∧ B j = B i) ∧ ∀ j, D j → fw y v (p j) (q j) (p i) (q i) → B j ≤ B i))
def rcC (y : XS) (v : Nat) (a tick : Int) (D : Int → Prop) (p q C : Int → Int) : Prop := ∀ i, D i →
  (stt y v a tick (p i) (q i) → C i = 1) ∧
  (¬ stt y v a tick (p i) (q i) → (C i = -1 ∧ ∀ j, D j → fw y v (p j) (q j) (p i) (q i) → C j = -1) ∨ (C i ≠ -1 ∧ (∃ j, D j ∧ fw y v (p j) (q j) (p i) (q i) ∧ C j ≠ -1 ∧ C i = C j + 1) ∧ ∀ j, D j → fw y v (p j) (q j) (p i) (q i) → C j ≠ -1 → C i ≤ C j + 1))
section RC
variable {x y : XS} {v : Nat}
theorem Sr_rg (hI : Inv x y) (hv : (v : Int) ≤ y.1 5) {w l r : Int} (h : Sr y v w l r) : (0 ≤ lv y v l r ∧ lv y v l r < cm y v l r ∧ cm y v l r ≤ 5000) ∧ (0 ≤ rd y 2 l ∧ rd y 2 l < y.1 2) ∧ (0 ≤ rd y 3 l ∧ rd y 3 l < y.1 2) ∧ l < y.1 3 ∧ (0 ≤ bs y l.toNat + r ∧ bs y l.toNat + r < 1200) := by
  obtain ⟨a1, a2, a3, a4, a5, a6⟩ := h
  have hnp := inv_np hI hv
  have hrg := lv_rg hI hv a1 (by omega) a3 a4
  have hl := (hI.2.1.2.2.2.2.2.2 l a1 (by omega)).2
  have hin := id_in hI a1 (by omega) a3 a4
  unfold lnOK at hl
  have hc : cm y v l r ≤ 5000 := by
    unfold stB at a6
    by_cases hh : skd y l v = 0 ∧ cm y v l r ≤ 5000 ∧ clo y (rd y 2 l) (lv y v l r) v = 0 ∧ clo y (rd y 3 l) (cm y v l r) v = 0
    · exact hh.2.1
    · rw [if_neg hh] at a6; omega
  omega
theorem fw_lt (hI : Inv x y) (hv : (v : Int) ≤ y.1 5) {w l r l' r' : Int} (h : Sr y v w l r) (hf : fw y v l r l' r') : cm y v l r ≤ lv y v l' r' ∧ lv y v l r < lv y v l' r' := by
  have h1 := Sr_rg hI hv h
  have h2 := hI.1.2.2.2 (rd y 3 l) h1.2.2.1.1 h1.2.2.1.2
  unfold fw at hf
  omega
theorem rcB_uniq (hI : Inv x y) (hv : (v : Int) ≤ y.1 5) {w a tick : Int} {D1 D2 : Int → Prop} {p1 q1 B1 p2 q2 B2 : Int → Int} (c1 : cov y v w D1 p1 q1) (c2 : cov y v w D2 p2 q2) (r1 : rcB y v a tick D1 p1 q1 B1) (r2 : rcB y v a tick D2 p2 q2 B2) :
    ∀ (n : Nat) (i j : Int), D1 i → D2 j → p1 i = p2 j → q1 i = q2 j → lv y v (p1 i) (q1 i) < n → B1 i = B2 j
  | 0, i, j, hi, hj, e1, e2, hn => by
    have := (Sr_rg hI hv (c1.1 i hi)).1
    omega
  | n + 1, i, j, hi, hj, e1, e2, hn => by
    have k1 := r1 i hi
    have k2 := r2 j hj
    rw [← e1, ← e2] at k2
    by_cases hs : stt y v a tick (p1 i) (q1 i)
    · rw [k1.1 hs, k2.1 hs]
    · -- the rows ahead name the same runs
      have m12 : ∀ i', D1 i' → fw y v (p1 i') (q1 i') (p1 i) (q1 i) → ∃ j', D2 j' ∧ fw y v (p2 j') (q2 j') (p1 i) (q1 i) ∧ B1 i' = B2 j' := by
        intro i' hi' hf
        obtain ⟨j', hj', f1, f2⟩ := c2.2 _ _ (c1.1 i' hi')
        have hlt := fw_lt hI hv (c1.1 i' hi') hf
        exact ⟨j', hj', by rw [f1, f2]; exact hf, rcB_uniq hI hv c1 c2 r1 r2 n i' j' hi' hj' f1.symm f2.symm (by omega)⟩
      have m21 : ∀ j', D2 j' → fw y v (p2 j') (q2 j') (p1 i) (q1 i) → ∃ i', D1 i' ∧ fw y v (p1 i') (q1 i') (p1 i) (q1 i) ∧ B1 i' = B2 j' := by
        intro j' hj' hf
        obtain ⟨i', hi', f1, f2⟩ := c1.2 _ _ (c2.1 j' hj')
        have hlt := fw_lt hI hv (c2.1 j' hj') hf
        exact ⟨i', hi', by rw [f1, f2]; exact hf, rcB_uniq hI hv c1 c2 r1 r2 n i' j' hi' hj' f1 f2 (by rw [f1, f2]; omega)⟩
      rcases k1.2 hs with ⟨x1, x2⟩ | ⟨x1, ⟨i', x2, x3, x4⟩, x5⟩
      · rcases k2.2 hs with ⟨y1, y2⟩ | ⟨y1, ⟨j', y2, y3, y4⟩, y5⟩
        · rw [x1, y1]
        · obtain ⟨i', g1, g2, g3⟩ := m21 j' y2 y3
          have := x2 i' g1 g2
          omega
      · obtain ⟨j', g1, g2, g3⟩ := m12 i' x2 x3
        rcases k2.2 hs with ⟨y1, y2⟩ | ⟨y1, ⟨j2, y2, y3, y4⟩, y5⟩
        · have := y2 j' g1 g2
          omega
        · obtain ⟨i2, f1, f2, f3⟩ := m21 j2 y2 y3
          have h1 := x5 i2 f1 f2
          have h2 := y5 j' g1 g2
          omega
theorem rcC_uniq (hI : Inv x y) (hv : (v : Int) ≤ y.1 5) {w a tick : Int} {D1 D2 : Int → Prop} {p1 q1 C1 p2 q2 C2 : Int → Int} (c1 : cov y v w D1 p1 q1) (c2 : cov y v w D2 p2 q2) (r1 : rcC y v a tick D1 p1 q1 C1) (r2 : rcC y v a tick D2 p2 q2 C2) :
    ∀ (n : Nat) (i j : Int), D1 i → D2 j → p1 i = p2 j → q1 i = q2 j → lv y v (p1 i) (q1 i) < n → C1 i = C2 j
  | 0, i, j, hi, hj, e1, e2, hn => by
    have := (Sr_rg hI hv (c1.1 i hi)).1
    omega
  | n + 1, i, j, hi, hj, e1, e2, hn => by
    have k1 := r1 i hi
    have k2 := r2 j hj
    rw [← e1, ← e2] at k2
    by_cases hs : stt y v a tick (p1 i) (q1 i)
    · rw [k1.1 hs, k2.1 hs]
    · have m12 : ∀ i', D1 i' → fw y v (p1 i') (q1 i') (p1 i) (q1 i) → ∃ j', D2 j' ∧ fw y v (p2 j') (q2 j') (p1 i) (q1 i) ∧ C1 i' = C2 j' := by
        intro i' hi' hf
        obtain ⟨j', hj', f1, f2⟩ := c2.2 _ _ (c1.1 i' hi')
        have hlt := fw_lt hI hv (c1.1 i' hi') hf
        exact ⟨j', hj', by rw [f1, f2]; exact hf, rcC_uniq hI hv c1 c2 r1 r2 n i' j' hi' hj' f1.symm f2.symm (by omega)⟩
      have m21 : ∀ j', D2 j' → fw y v (p2 j') (q2 j') (p1 i) (q1 i) → ∃ i', D1 i' ∧ fw y v (p1 i') (q1 i') (p1 i) (q1 i) ∧ C1 i' = C2 j' := by
        intro j' hj' hf
        obtain ⟨i', hi', f1, f2⟩ := c1.2 _ _ (c2.1 j' hj')
        have hlt := fw_lt hI hv (c2.1 j' hj') hf
        exact ⟨i', hi', by rw [f1, f2]; exact hf, rcC_uniq hI hv c1 c2 r1 r2 n i' j' hi' hj' f1 f2 (by rw [f1, f2]; omega)⟩
      rcases k1.2 hs with ⟨x1, x2⟩ | ⟨x1, ⟨i', x2, x3, x4, x4'⟩, x5⟩
      · rcases k2.2 hs with ⟨y1, y2⟩ | ⟨y1, ⟨j', y2, y3, y4, y4'⟩, y5⟩
        · rw [x1, y1]
        · obtain ⟨i', g1, g2, g3⟩ := m21 j' y2 y3
          have := x2 i' g1 g2
          omega
      · obtain ⟨j', g1, g2, g3⟩ := m12 i' x2 x3
        rcases k2.2 hs with ⟨y1, y2⟩ | ⟨y1, ⟨j2, y2, y3, y4, y4'⟩, y5⟩
        · have := y2 j' g1 g2
          omega
        · obtain ⟨i2, f1, f2, f3⟩ := m21 j2 y2 y3
          have h1 := x5 i2 f1 f2 (by omega)
          have h2 := y5 j' g1 g2 (by omega)
          omega
/-- no way ends there, by either worth -/
theorem rcB_rcC (hI : Inv x y) (hv : (v : Int) ≤ y.1 5) {w a tick : Int} (ha : 0 ≤ tick) {D : Int → Prop} {p q B C : Int → Int} (c : cov y v w D p q) (r1 : rcB y v a tick D p q B) (r2 : rcC y v a tick D p q C) :
    ∀ (n : Nat) (i : Int), D i → lv y v (p i) (q i) < n → ((B i = -1 ↔ C i = -1) ∧ (B i = -1 ∨ (0 ≤ B i ∧ B i ≤ lv y v (p i) (q i))) ∧ (C i = -1 ∨ 1 ≤ C i))
  | 0, i, hi, hn => by
    have := (Sr_rg hI hv (c.1 i hi)).1
    omega
  | n + 1, i, hi, hn => by
    have k1 := r1 i hi
    have k2 := r2 i hi
    have h0 := (Sr_rg hI hv (c.1 i hi)).1
    by_cases hs : stt y v a tick (p i) (q i)
    · have e1 := k1.1 hs
      have e2 := k2.1 hs
      omega
    · have m : ∀ j, D j → fw y v (p j) (q j) (p i) (q i) → ((B j = -1 ↔ C j = -1) ∧ (B j = -1 ∨ (0 ≤ B j ∧ B j ≤ lv y v (p j) (q j))) ∧ (C j = -1 ∨ 1 ≤ C j)) ∧ lv y v (p j) (q j) < lv y v (p i) (q i) := by
        intro j hj hf
        have hlt := fw_lt hI hv (c.1 j hj) hf
        exact ⟨rcB_rcC hI hv ha c r1 r2 n j hj (by omega), hlt.2⟩
      rcases k1.2 hs with ⟨x1, x2⟩ | ⟨x1, ⟨i', x2, x3, x4⟩, x5⟩
      · rcases k2.2 hs with ⟨y1, y2⟩ | ⟨y1, ⟨j', y2, y3, y4, y4'⟩, y5⟩
        · omega
        · have h1 := x2 j' y2 y3
          have h2 := m j' y2 y3
          omega
      · have h1 := m i' x2 x3
        rcases k2.2 hs with ⟨y1, y2⟩ | ⟨y1, ⟨j', y2, y3, y4, y4'⟩, y5⟩
        · have h2 := y2 i' x2 x3
          omega
        · have h2 := m j' y2 y3
          omega
end RC
