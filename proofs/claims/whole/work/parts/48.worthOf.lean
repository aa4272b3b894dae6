/-- the worths of the runs (latest leaving, fewest runs), as the reference makes them -/
def cw (y : XS) (v : Nat) (w a tick : Int) (Bf Cf : Int → Int → Int) : Prop :=
  (∀ l r : Int, ¬ Sr y v w l r → Bf l r = -1 ∧ Cf l r = -1) ∧
  (∀ l r : Int, Sr y v w l r → (Bf l r = -1 ∨ (0 ≤ Bf l r ∧ Bf l r ≤ lv y v l r)) ∧ (Cf l r = -1 ∨ (1 ≤ Cf l r ∧ Cf l r ≤ 1200)) ∧ (Bf l r = -1 ↔ Cf l r = -1)) ∧
  (∀ l r : Int, Cf l r ≠ -1 → Cf l r ≠ 1 → ∃ l' r' : Int, fw y v l' r' l r ∧ Cf l' r' = Cf l r - 1 ∧ Cf l' r' ≠ -1) ∧
  ∃ (D : Int → Prop) (p q : Int → Int), cov y v w D p q ∧ rcB y v a tick D p q (fun i => Bf (p i) (q i)) ∧ rcC y v a tick D p q (fun i => Cf (p i) (q i))
section CW
variable {x y : XS} {v : Nat} {w a tick : Int} {Bf Cf : Int → Int → Int}
theorem cw_ex (hI : Inv x y) (hv : (v : Int) ≤ y.1 5) (gw : rg w) (ga : rg a) (gt : rg tick) : ∃ Bf Cf, cw y v w a tick Bf Cf := by
  have e0 : ((v : Int)).toNat = v := by omega
  have h1 : ∃ z, (∀ (j : Nat) (i : Int), j ≤ 12 → rd z j i = rd y j i) ∧ ly y z v w := by
    obtain ⟨r, z, -, h⟩ := sY_lay (P := fun _ z => (∀ (j : Nat) (i : Int), j ≤ 12 → rd z j i = rd y j i) ∧ ly y z v w) hI (u := y) (fun _ _ _ => rfl) (fun _ _ _ => rfl) (v := (v : Int)) (by omega) hv gw (fun z z1 zj hz => ⟨fun j i q => zj j i (Or.inl q), by rw [e0] at hz; exact hz⟩)
    exact ⟨z, h⟩
  obtain ⟨z, zj, hl⟩ := h1
  have h2 : ∃ t, gd y z t v a tick := by
    obtain ⟨r, t, -, h⟩ := sY_goes (P := fun _ t => gd y z t v a tick) hI hv hl zj ga gt (fun t _ _ h => h)
    exact ⟨t, h⟩
  obtain ⟨t, ht⟩ := h2
  have hcov := ly_cov hl
  have hex : ∀ l r : Int, ∃ s : Int, Sr y v w l r → DY z s ∧ pY z s = l ∧ qY z s = r := by
    intro l r
    by_cases hs : Sr y v w l r
    · obtain ⟨s, h1, h2, h3⟩ := hcov.2 l r hs
      exact ⟨s, fun _ => ⟨h1, h2, h3⟩⟩
    · exact ⟨0, fun q => absurd q hs⟩
  have hch : ∃ sf : Int → Int → Int, ∀ l r : Int, Sr y v w l r → DY z (sf l r) ∧ pY z (sf l r) = l ∧ qY z (sf l r) = r :=
    ⟨fun l r => (hex l r).choose, fun l r => (hex l r).choose_spec⟩
  obtain ⟨sf, hsf⟩ := hch
  have hF : ∃ Bf Cf : Int → Int → Int, (∀ l r : Int, ¬ Sr y v w l r → Bf l r = -1 ∧ Cf l r = -1) ∧ (∀ l r : Int, Sr y v w l r → Bf l r = rd t 19 (sf l r) ∧ Cf l r = (if rd t 21 (sf l r) = 0 then -1 else rd t 20 (sf l r))) := by
    have hb : ∀ (l r : Int), ∃ b c : Int, (¬ Sr y v w l r → b = -1 ∧ c = -1) ∧ (Sr y v w l r → b = rd t 19 (sf l r) ∧ c = (if rd t 21 (sf l r) = 0 then -1 else rd t 20 (sf l r))) := by
      intro l r
      by_cases hs : Sr y v w l r
      · exact ⟨_, _, fun q => absurd hs q, fun _ => ⟨rfl, rfl⟩⟩
      · exact ⟨-1, -1, fun _ => ⟨rfl, rfl⟩, fun q => absurd q hs⟩
    exact ⟨fun l r => (hb l r).choose, fun l r => (hb l r).choose_spec.choose, fun l r => (hb l r).choose_spec.choose_spec.1, fun l r => (hb l r).choose_spec.choose_spec.2⟩
  obtain ⟨Bf, Cf, f1, f2⟩ := hF
  -- at a row of the reference
  have atB : ∀ s, DY z s → Bf (pY z s) (qY z s) = rd t 19 s ∧ Cf (pY z s) (qY z s) = (if rd t 21 s = 0 then -1 else rd t 20 s) := by
    intro s hs
    have hS := hcov.1 s hs
    obtain ⟨g1, g2, g3⟩ := hsf _ _ hS
    obtain ⟨b1, b2⟩ := f2 _ _ hS
    have hlr := Sr_rg hI hv hS
    rw [b1, b2]
    exact ⟨rcB_uniq hI hv hcov hcov ht.1 ht.1 (lv y v (pY z s) (qY z s) + 1).toNat _ _ g1 hs g2 g3 (by rw [g2, g3]; omega), rcC_uniq hI hv hcov hcov ht.2.1 ht.2.1 (lv y v (pY z s) (qY z s) + 1).toNat _ _ g1 hs g2 g3 (by rw [g2, g3]; omega)⟩
  have rB : rcB y v a tick (DY z) (pY z) (qY z) (fun i => Bf (pY z i) (qY z i)) := by
    intro i hi
    have := ht.1 i hi
    simp only [] at this ⊢
    rw [(atB i hi).1]
    refine ⟨this.1, fun hn => ?_⟩
    rcases this.2 hn with ⟨b1, b2⟩ | ⟨b1, ⟨j, c1, c2, c3⟩, b3⟩
    · exact Or.inl ⟨b1, fun j hj hf => by rw [(atB j hj).1]; exact b2 j hj hf⟩
    · exact Or.inr ⟨b1, ⟨j, c1, c2, by rw [(atB j c1).1]; exact c3⟩, fun j hj hf => by rw [(atB j hj).1]; exact b3 j hj hf⟩
  have rC : rcC y v a tick (DY z) (pY z) (qY z) (fun i => Cf (pY z i) (qY z i)) := by
    intro i hi
    have := ht.2.1 i hi
    simp only [] at this ⊢
    rw [(atB i hi).2]
    refine ⟨this.1, fun hn => ?_⟩
    rcases this.2 hn with ⟨b1, b2⟩ | ⟨b1, ⟨j, c1, c2, c3, c4⟩, b3⟩
    · exact Or.inl ⟨b1, fun j hj hf => by rw [(atB j hj).2]; exact b2 j hj hf⟩
    · exact Or.inr ⟨b1, ⟨j, c1, c2, by rw [(atB j c1).2]; exact c3, by rw [(atB j c1).2]; exact c4⟩, fun j hj hf => by rw [(atB j hj).2]; exact b3 j hj hf⟩
  refine ⟨Bf, Cf, f1, fun l r hS => ?_, fun l r h1 h2 => ?_, DY z, pY z, qY z, hcov, rB, rC⟩
  · obtain ⟨g1, g2, g3⟩ := hsf l r hS
    obtain ⟨b1, b2⟩ := f2 l r hS
    have := ht.2.2 _ g1
    rw [g2, g3] at this
    rw [b1, b2]
    rcases this with ⟨q1, q2, q3⟩ | ⟨q1, q2, q3⟩
    · rw [if_pos q1]; omega
    · rw [if_neg (by omega)]; omega
  · have hS : Sr y v w l r := by
      by_cases hs : Sr y v w l r
      · exact hs
      · exact absurd (f1 l r hs).2 h1
    obtain ⟨g1, g2, g3⟩ := hsf l r hS
    have k := rC _ g1
    simp only [] at k
    rw [g2, g3] at k
    by_cases hst : stt y v a tick l r
    · exact absurd (k.1 hst) h2
    · rcases k.2 hst with ⟨b1, b2⟩ | ⟨b1, ⟨j, c1, c2, c3, c4⟩, b3⟩
      · exact absurd b1 h1
      · exact ⟨_, _, c2, by omega, c3⟩
theorem cw_Sr (h : cw y v w a tick Bf Cf) {l r : Int} (h1 : Bf l r ≠ -1 ∨ Cf l r ≠ -1) : Sr y v w l r := by
  by_cases hs : Sr y v w l r
  · exact hs
  · have := h.1 l r hs
    omega
/-- what goes has made is that -/
theorem cw_Y (hI : Inv x y) (hv : (v : Int) ≤ y.1 5) (h : cw y v w a tick Bf Cf) {z t : XS} (hl : ly y z v w) (ht : gd y z t v a tick) {s : Int} (hs : DY z s) :
    (rd t 21 s = 0 ∧ Bf (pY z s) (qY z s) = -1 ∧ Cf (pY z s) (qY z s) = -1) ∨ (rd t 21 s = 1 ∧ Bf (pY z s) (qY z s) = rd t 19 s ∧ Cf (pY z s) (qY z s) = rd t 20 s ∧ rd t 19 s ≠ -1 ∧ rd t 20 s ≠ -1) := by
  obtain ⟨D, p, q, c1, c2, c3⟩ := h.2.2.2
  have hS := (ly_cov hl).1 s hs
  obtain ⟨i, d1, d2, d3⟩ := c1.2 _ _ hS
  have hlr := Sr_rg hI hv hS
  have e1 := rcB_uniq hI hv c1 (ly_cov hl) c2 ht.1 (lv y v (pY z s) (qY z s) + 1).toNat i s d1 hs d2 d3 (by rw [d2, d3]; omega)
  have e2 := rcC_uniq hI hv c1 (ly_cov hl) c3 ht.2.1 (lv y v (pY z s) (qY z s) + 1).toNat i s d1 hs d2 d3 (by rw [d2, d3]; omega)
  rw [d2, d3] at e1 e2
  rcases ht.2.2 s hs with ⟨q1, q2, q3⟩ | ⟨q1, q2, q3⟩
  · rw [if_pos q1] at e2
    exact Or.inl ⟨q1, by omega, e2⟩
  · rw [if_neg (by omega)] at e2
    exact Or.inr ⟨q1, e1, e2, by omega, by omega⟩
/-- the worths in X -/
def wv (t y : XS) (v : Nat) (F : Int → Int → Int) : Prop := ∀ i : Int, isR y v i → rd t 23 i = 1 → rd t 28 i = F (rd t 20 i) (qX t y i)
theorem okW_B (hI : Inv x y) (hv : (v : Int) ≤ y.1 5) (H : vwOK x y v) (h : cw y v w a tick Bf Cf) {t : XS} (ho : ∀ i : Int, isR y v i → rd x 23 i = 1 → okW x y t v w a tick 0 i) {i : Int} (hi : isR y v i) (hi1 : rd x 23 i = 1) : rd t 28 i = Bf (rd x 20 i) (qX x y i) := by
  by_cases hw : rd x 20 i = w
  · rw [(ho i hi hi1).2.1 hw]
    exact (h.1 _ _ (fun q => q.2.2.2.2.1 hw)).1.symm
  · obtain ⟨D, p, q, c1, c2, c3⟩ := h.2.2.2
    have hcx := X_cov (w := w) hI hv H
    have hD : DX x y v w i := ⟨hi, hi1, hw⟩
    have hr : rcB y v a tick (DX x y v w) (pX x) (qX x y) (fun i => rd t 28 i) := by
      intro k hk
      have hA := X_at hI hv H hk.1 hk.2.1
      obtain ⟨b1, b2, b3⟩ := ho k hk.1 hk.2.1
      obtain ⟨b4, b5⟩ := b3 hk.2.2
      rw [if_pos rfl] at b4
      refine ⟨fun hs => ?_, fun hn => ?_⟩
      · exact (b4 hs).trans hA.2.2.2.1
      · rcases b5 hn with ⟨q1, q2⟩ | ⟨q1, ⟨j, d1, d2, d3, d4⟩, q3⟩
        · exact Or.inl ⟨q1, q2⟩
        · refine Or.inr ⟨q1, ⟨j, d1, d2, show rd t 28 j = rd t 28 k by omega⟩, fun j hj hf => ?_⟩
          by_cases hm : rd t 28 j = -1
          · show rd t 28 j ≤ rd t 28 k
            omega
          · have := q3 j hj hf hm
            unfold vl at this
            rw [if_pos rfl, if_pos rfl] at this
            show rd t 28 j ≤ rd t 28 k
            omega
    have hS := hcx.1 i hD
    obtain ⟨k, d1, d2, d3⟩ := c1.2 _ _ hS
    have hlr := Sr_rg hI hv hS
    have e1 := rcB_uniq hI hv hcx c1 hr c2 (lv y v (pX x i) (qX x y i) + 1).toNat i k hD d1 d2.symm d3.symm (by omega)
    rw [d2, d3] at e1
    exact e1
theorem okW_C (hI : Inv x y) (hv : (v : Int) ≤ y.1 5) (H : vwOK x y v) (h : cw y v w a tick Bf Cf) {t : XS} (ho : ∀ i : Int, isR y v i → rd x 23 i = 1 → okW x y t v w a tick 1 i) {i : Int} (hi : isR y v i) (hi1 : rd x 23 i = 1) : rd t 28 i = Cf (rd x 20 i) (qX x y i) := by
  by_cases hw : rd x 20 i = w
  · rw [(ho i hi hi1).2.1 hw]
    exact (h.1 _ _ (fun q => q.2.2.2.2.1 hw)).2.symm
  · obtain ⟨D, p, q, c1, c2, c3⟩ := h.2.2.2
    have hcx := X_cov (w := w) hI hv H
    have hD : DX x y v w i := ⟨hi, hi1, hw⟩
    have hr : rcC y v a tick (DX x y v w) (pX x) (qX x y) (fun i => rd t 28 i) := by
      intro k hk
      obtain ⟨b1, b2, b3⟩ := ho k hk.1 hk.2.1
      obtain ⟨b4, b5⟩ := b3 hk.2.2
      rw [if_neg (by decide)] at b4
      refine ⟨b4, fun hn => ?_⟩
      rcases b5 hn with ⟨q1, q2⟩ | ⟨q1, ⟨j, d1, d2, d3, d4⟩, q3⟩
      · exact Or.inl ⟨q1, q2⟩
      · refine Or.inr ⟨q1, ⟨j, d1, d2, d3, d4⟩, fun j hj hf hm => ?_⟩
        have := q3 j hj hf hm
        unfold vl at this
        rw [if_neg (by decide), if_neg (by decide)] at this
        show rd t 28 k ≤ rd t 28 j + 1
        omega
    have hS := hcx.1 i hD
    obtain ⟨k, d1, d2, d3⟩ := c1.2 _ _ hS
    have hlr := Sr_rg hI hv hS
    have e1 := rcC_uniq hI hv hcx c1 hr c3 (lv y v (pX x i) (qX x y i) + 1).toNat i k hD d1 d2.symm d3.symm (by omega)
    rw [d2, d3] at e1
    exact e1
variable {P : Int → XS → Prop}
theorem sX_spreadF (hI : Inv x y) (hv : (v : Int) ≤ y.1 5) (H : vwOK x y v) (ga : rg a) (gt : rg tick) (gw : rg w) (hcw : cw y v w a tick Bf Cf) {c : Int} {F : Int → Int → Int} (hF : (c = 0 ∧ F = Bf) ∨ (c = 1 ∧ F = Cf))
    (h : ∀ t : XS, (∀ k : Nat, k ≠ 11 → t.1 k = x.1 k) → (∀ (j : Nat) (q : Int), (j < 28 ∨ 32 < j) → rd t j q = rd x j q) → Inv t y → vwOK t y v → wv t y v F → P 0 t) : wp (f_X3_spread x a tick w c) P := by
  refine sX_spread hI hv H (by omega) ga gt gw (fun t t1 tj ho => ?_)
  have hex : exX x t := ⟨fun k b1 b2 b3 => t1 k (by omega), fun j i b1 b2 b3 b4 => tj j i (by omega)⟩
  refine h t t1 tj (Inv_ex hI hex (exY.rf y) ?_) (vw_cong (agr_all (fun _ _ _ _ => rfl) _) (fun j hj i => tj j i (by omega)) (t1 8 (by decide)) (t1 9 (by decide)) H) (fun i hi hi1 => ?_)
  · refine ⟨?_, hI.2.2.2.2.1.2.1, hI.2.2.2.2.1.2.2⟩
    rw [t1 1 (by decide)]
    exact hI.2.2.2.2.1.1
  · rw [tj 23 _ (by omega)] at hi1
    have eq : qX t y i = qX x y i := by unfold qX; rw [tj 20 _ (by omega)]
    rw [eq, tj 20 _ (by omega)]
    rcases hF with ⟨hc, hF⟩ | ⟨hc, hF⟩
    · rw [hF]
      rw [hc] at ho
      exact okW_B hI hv H hcw ho hi hi1
    · rw [hF]
      rw [hc] at ho
      exact okW_C hI hv H hcw ho hi hi1
theorem sX_showSame {v : Int} (gv : rg v) (h10 : x.1 10 = v) (h : P 0 x) : wp (f_X5_show x v) P := by
  unfold f_X5_show
  rw [h10]
  exact wp_eq gv.1 gv.2 gv.1 gv.2 (fun _ => wp_ret h) (fun q => absurd rfl q)
theorem sX_explore (hI : Inv x y) {v : Int} (h0 : 0 ≤ v) (h1 : v ≤ y.1 5) (ga : rg a) (gt : rg tick) (hcw : cw y v.toNat (-1) a tick Bf Cf) {c : Int} {F : Int → Int → Int} (hF : (c = 0 ∧ F = Bf) ∨ (c = 1 ∧ F = Cf))
    (h : ∀ t : XS, Inv t y → t.1 10 = v → vwOK t y v.toNat → wv t y v.toNat F → P 0 t) : wp (f_X6_explore x a tick v c) P := by
  unfold f_X6_explore
  refine wp_call (sX_show hI h0 h1 (fun z hz hz10 hv => ?_))
  refine wp_call (sX_spreadF hz (by omega) hv ga gt (rg_lit (by omega) (by omega)) hcw hF (fun t t1 tj ht htv htw => ?_))
  exact wp_ret (h t ht (by rw [t1 10 (by decide)]; exact hz10) htv htw)
end CW
