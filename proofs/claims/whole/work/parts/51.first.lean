section YQ
variable {P : Int → XS → Prop} {x y t : XS} {v : Nat} {w a tick b : Int} {Bf Cf : Int → Int → Int}
theorem sY_firstOf (hI : Inv x y) (hv : (v : Int) ≤ y.1 5) (hcw : cw y v w a tick Bf Cf) (R : rY y t v w Bf Cf) (gb : rg b) (h : ∀ f : Int, oP (fun l r => Bf l r ≠ -1 ∧ rd y 3 l = b) (fun l r => cm y v l r) idk 1000000 f → (f = 1000000 ∨ (0 ≤ f ∧ f ≤ 5000)) → P f t) : wp (f_X7_firstOf t b) P := by
  have hm := R.1
  have at_ := fun (s : Int) (h0 : 0 ≤ s) (h1 : s < t.1 7) => rY_at hI hv hcw R h0 h1
  unfold f_X7_firstOf
  refine wp_jp ?_
  refine wp_loop2 (fun f s z => z = t ∧ (0 ≤ s ∧ s ≤ t.1 7) ∧ (f = 1000000 ∨ (0 ≤ f ∧ f ≤ 5000)) ∧ oA 0 s (fun s => rd t 21 s = 1 ∧ rd y 3 (rd t 15 s) = b) (fun s => rd t 18 s) idk 1000000 f) (fun _ s _ => (t.1 7 - s).toNat) (fun g f s z hJ ih => ?_) x_fuel _ _ t ⟨rfl, ⟨by omega, by omega⟩, Or.inl rfl, oA_ini⟩ (fu (by omega))
  obtain ⟨rfl, ⟨s1, s2⟩, s3, s4⟩ := hJ
  unfold b_X7_firstOf_5
  refine wp_le (by omega) (by omega) (by omega) (by omega) (fun hd => ?_) (fun hd => ?_)
  · have es : s = z.1 7 := by omega
    rw [es] at s4
    refine wp_ret (h f (Y_oP R (fun s p1 p2 p3 => ?_) (fun s p1 p2 p3 => ?_) (fun l r p => cw_Sr hcw (Or.inl p.1)) s4) s3)
    · have hs := at_ s p1 p2
      exact ⟨⟨by omega, p3.2⟩, hs.2.2.2.2.2.1.symm⟩
    · have hs := at_ s p1 p2
      refine ⟨?_, p3.2⟩
      have := p3.1
      omega
  · have hs := at_ s s1 hd
    refine wp_ld s1 (by omega) ?_
    refine wp_jp ?_
    have skip : ¬ (rd z 21 s = 1 ∧ rd y 3 (rd z 15 s) = b) → wp (x_let (s + 1) (fun v12 => g f v12 z)) P := fun q => wp_let (ih f (s + 1) z ⟨rfl, ⟨by omega, by omega⟩, s3, oA_skip s4 q⟩ (by omega))
    refine wp_eq (by omega) (by omega) (by omega) (by omega) (fun q => skip (fun c => by omega)) (fun q => ?_)
    refine wp_ld s1 (by omega) ?_
    refine wp_ld hs.2.1.1 (by omega) ?_
    rw [hs.2.2.2.1]
    refine wp_eq (by omega) (by omega) gb.1 gb.2 (fun q2 => ?_) (fun q2 => skip (fun c => q2 c.2))
    refine wp_ld s1 (by omega) ?_
    refine wp_min (by omega) (by omega) (by omega) (by omega) (fun n hn => ?_)
    refine wp_let ?_
    rcases hn with ⟨n1, n2⟩ | ⟨n1, n2⟩
    · rw [n2]
      exact ih _ (s + 1) z ⟨rfl, ⟨by omega, by omega⟩, by omega, oA_take (run := fun s => rd z 18 s) s4 s1 ⟨by omega, q2⟩ (fun _ => by unfold idk; omega) (fun i c1 c2 c3 => by have := at_ i c1 (by omega); omega)⟩ (by omega)
    · rw [n2]
      exact ih _ (s + 1) z ⟨rfl, ⟨by omega, by omega⟩, s3, oA_keep s4 (by omega) n1⟩ (by omega)
theorem sX_aow {f : Int} (gf : rg f) (h : P f (xpS t 1 (if f = -1 then 5 else 0))) : wp (x_call (f_X6_answerOfWay t f) (fun r7 x8 => some (r7, x8))) P := by
  refine wp_call ?_
  unfold f_X6_answerOfWay
  refine wp_eq gf.1 gf.2 (by omega) (by omega) (fun q => ?_) (fun q => ?_)
  · rw [if_pos q, q] at h
    exact wp_call (sX_refuse (wp_ret (wp_ret h)))
  · rw [if_neg q] at h
    exact wp_call (sX_answer (wp_ret (wp_ret h)))
theorem q_fin {z : XS} {f f' : Int} (hI : Inv t y) (hz : exY y z) (hz0 : z.1 0 = 0) (hff : (f = -1 ∧ (f' = 1000000 ∨ f' = -1)) ∨ (f = f' ∧ 0 ≤ f ∧ f ≤ 5000)) : wp (x_call (f_X7_best z f') (fun r11 x12 => some (r11, x12))) (fun r' y' => f = r' ∧ Inv (xpS t 1 (if f = -1 then 5 else 0)) y') := by
  refine wp_call ?_
  unfold f_X7_best
  refine wp_jp ?_
  rcases hff with ⟨e, e'⟩ | ⟨e, h0, h1⟩
  · rw [if_pos e]
    have no : wp (x_call (f_X7_refuse z 5) (fun r3 x4 => some (r3, x4))) (fun r x => wp (some (r, x)) (fun r' y' => f = r' ∧ Inv (xpS t 1 5) y')) := wp_call (sY_refuse (wp_ret (wp_ret ⟨e, Inv_fin hI (hz.tr (exY.ps z 0 5 (by omega))) ps_eq (by decide) (by decide)⟩)))
    exact wp_eq (by omega) (by omega) (by omega) (by omega) (fun _ => no) (fun _ => wp_le (by omega) (by omega) (by omega) (by omega) (fun q => absurd q (by omega)) (fun _ => no))
  · rw [if_neg (by omega)]
    refine wp_eq (by omega) (by omega) (by omega) (by omega) (fun q => absurd q (by omega)) (fun _ => wp_le (by omega) (by omega) (by omega) (by omega) (fun _ => ?_) (fun q => absurd q (by omega)))
    exact wp_ret (wp_ret ⟨e, Inv_fin hI hz hz0 (by decide) (by decide)⟩)
theorem ok_first (w1 w2 w3 w4 : Int) (g1 : rg w1) (g2 : rg w2) (g3 : rg w3) (g4 : rg w4) : stepOK Inv (fun x => f_X6_first x w1 w2 w3 w4) (fun y => f_X7_first y w1 w2 w3 w4) := by
  refine stepOK_of (fun x y hI => ?_)
  refine q_way hI g1 g2 g3 g3 g4 (fun ha hb hab h3 _ h4 => ?_)
  have hn24 := hI.1.2.1
  have hv : ((w4.toNat : Nat) : Int) ≤ y.1 5 := by omega
  obtain ⟨Bf, Cf, hcw⟩ := cw_ex (v := w4.toNat) (w := -1) (a := w1) (tick := w3) hI hv (rg_lit (by omega) (by omega)) g1 g3
  refine wp_call (sX_explore hI h4.1 h4.2 g1 g3 hcw (Or.inl ⟨rfl, rfl⟩) (fun t ht ht10 htv htw => ?_))
  refine wp_call (sX_firstComing ht hv htv htw (cw_fB ht hv hcw) ⟨hb.1, by omega⟩ (fun f hf hfr => ?_))
  refine sX_aow (rg_lit (by omega) (by omega)) ?_
  refine sY_lg hI (u := y00 y) (fun k q _ => by unfold y00; simp (disch := omega) only [rd_wr_eq, rd_wr_ne, rd_wr_j, rd_ps, wr_1, ps_eq, ps_ne]) (fun _ _ _ => rfl) h4.1 h4.2 (rg_lit (by omega) (by omega)) g1 g3 hcw (fun z z1 zj R => ?_)
  refine wp_call (sY_firstOf hI hv hcw R g2 (fun f' hf' hfr' => ?_))
  refine q_fin ht ((y00_ex y).tr ⟨fun k p q r => z1 k r, fun j i q => zj j i (by omega)⟩) (z1 0 (by decide)) ?_
  rcases oP_uniq idk_i hf hf' with ⟨e1, e2, e3⟩ | ⟨e1, l, r, e2, e3⟩
  · omega
  · have := (Sr_rg hI hv (cw_Sr hcw (Or.inl e2.1))).1
    omega
theorem sY_last (hI : Inv x y) (hv : (v : Int) ≤ y.1 5) (hcw : cw y v w a tick Bf Cf) (R : rY y t v w Bf Cf) (gb : rg b) {u : Int} (gu : rg u) {K : Int → XS → XR} (h : ∀ f : Int, oP (eT y v Bf b u) Bf ngk (-1) f → (f = -1 ∨ (0 ≤ f ∧ f ≤ 5000)) → wp (K f t) P) : wp (x_loop2 (b_X7_last_47 K b u) x_fuel (-1) 0 t) P := by
  have hm := R.1
  have at_ := fun (s : Int) (h0 : 0 ≤ s) (h1 : s < t.1 7) => rY_at hI hv hcw R h0 h1
  refine wp_loop2 (fun f s z => z = t ∧ (0 ≤ s ∧ s ≤ t.1 7) ∧ (f = -1 ∨ (0 ≤ f ∧ f ≤ 5000)) ∧ oA 0 s (fun s => rd t 21 s = 1 ∧ rd y 3 (rd t 15 s) = b ∧ rd t 18 s ≤ u) (fun s => rd t 19 s) ngk (-1) f) (fun _ s _ => (t.1 7 - s).toNat) (fun g f s z hJ ih => ?_) x_fuel _ _ t ⟨rfl, ⟨by omega, by omega⟩, Or.inl rfl, oA_ini⟩ (fu (by omega))
  obtain ⟨rfl, ⟨s1, s2⟩, s3, s4⟩ := hJ
  unfold b_X7_last_47
  refine wp_le (by omega) (by omega) (by omega) (by omega) (fun hd => ?_) (fun hd => ?_)
  · have es : s = z.1 7 := by omega
    rw [es] at s4
    refine h f (Y_oP R (fun s p1 p2 p3 => ?_) (fun s p1 p2 p3 => ?_) (fun l r p => cw_Sr hcw (Or.inl p.1)) s4) s3
    · have hs := at_ s p1 p2
      exact ⟨⟨by omega, p3.2.1, by omega⟩, by omega⟩
    · have hs := at_ s p1 p2
      have p4 := p3.1
      have p5 := p3.2.2
      exact ⟨by omega, p3.2.1, by omega⟩
  · have hs := at_ s s1 hd
    refine wp_ld s1 (by omega) ?_
    refine wp_jp ?_
    have skip : ¬ (rd z 21 s = 1 ∧ rd y 3 (rd z 15 s) = b ∧ rd z 18 s ≤ u) → wp (x_let (s + 1) (fun v12 => g f v12 z)) P := fun q => wp_let (ih f (s + 1) z ⟨rfl, ⟨by omega, by omega⟩, s3, oA_skip s4 q⟩ (by omega))
    refine wp_eq (by omega) (by omega) (by omega) (by omega) (fun q => skip (fun c => by omega)) (fun q => ?_)
    refine wp_ld s1 (by omega) ?_
    refine wp_ld hs.2.1.1 (by omega) ?_
    rw [hs.2.2.2.1]
    refine wp_eq (by omega) (by omega) gb.1 gb.2 (fun q2 => ?_) (fun q2 => skip (fun c => q2 c.2.1))
    refine wp_ld s1 (by omega) ?_
    refine wp_lt gu.1 gu.2 (by omega) (by omega) (fun q3 => skip (fun c => by omega)) (fun q3 => ?_)
    refine wp_ld s1 (by omega) ?_
    refine wp_max (by omega) (by omega) (by omega) (by omega) (fun n hn => ?_)
    refine wp_let ?_
    rcases hn with ⟨n1, n2⟩ | ⟨n1, n2⟩
    · rw [n2]
      exact ih _ (s + 1) z ⟨rfl, ⟨by omega, by omega⟩, by omega, oA_take (run := fun s => rd z 19 s) s4 s1 ⟨by omega, q2, q3⟩ (fun _ => by unfold ngk; omega) (fun i c1 c2 c3 => by have := at_ i c1 (by omega); omega)⟩ (by omega)
    · rw [n2]
      exact ih _ (s + 1) z ⟨rfl, ⟨by omega, by omega⟩, s3, oA_keep s4 (by omega) (by unfold ngk; omega)⟩ (by omega)
theorem ok_last (w1 w2 w3 w4 : Int) (g1 : rg w1) (g2 : rg w2) (g3 : rg w3) (g4 : rg w4) : stepOK Inv (fun x => f_X6_last x w1 w2 w3 w4) (fun y => f_X7_last y w1 w2 w3 w4) := by
  refine stepOK_of (fun x y hI => ?_)
  refine q_way hI g1 g2 g3 g3 g4 (fun ha hb hab h3 _ h4 => ?_)
  have hn24 := hI.1.2.1
  have hv : ((w4.toNat : Nat) : Int) ≤ y.1 5 := by omega
  obtain ⟨Bf, Cf, hcw⟩ := cw_ex (v := w4.toNat) (w := -1) (a := w1) (tick := 0) hI hv (rg_lit (by omega) (by omega)) g1 (rg_lit (by omega) (by omega))
  refine wp_call (sX_explore hI h4.1 h4.2 g1 (rg_lit (by omega) (by omega)) hcw (Or.inl ⟨rfl, rfl⟩) (fun t ht ht10 htv htw => ?_))
  refine wp_call (sX_lastLeaving ht hv htv htw (cw_fB ht hv hcw) ⟨hb.1, by omega⟩ g3 (fun f hf hfr => ?_))
  refine sX_aow (rg_lit (by omega) (by omega)) ?_
  refine sY_lg hI (u := y00 y) (fun k q _ => by unfold y00; simp (disch := omega) only [rd_wr_eq, rd_wr_ne, rd_wr_j, rd_ps, wr_1, ps_eq, ps_ne]) (fun _ _ _ => rfl) h4.1 h4.2 (rg_lit (by omega) (by omega)) g1 (rg_lit (by omega) (by omega)) hcw (fun z z1 zj R => ?_)
  refine wp_jp ?_
  refine sY_last hI hv hcw R g2 g3 (fun f' hf' hfr' => ?_)
  refine q_fin ht ((y00_ex y).tr ⟨fun k p q r => z1 k r, fun j i q => zj j i (by omega)⟩) (z1 0 (by decide)) ?_
  rcases oP_uniq ngk_i hf hf' with ⟨e1, e2, e3⟩ | ⟨e1, l, r, e2, e3⟩
  · omega
  · have := e2.1
    omega
theorem sY_quickest (hI : Inv x y) (hv : (v : Int) ≤ y.1 5) (hcw : cw y v w a tick Bf Cf) (R : rY y t v w Bf Cf) (gb : rg b) {u : Int} (gu : rg u) {K : Int → XS → XR} (h : ∀ f : Int, oP (eT y v Bf b u) (fun l r => cm y v l r - Bf l r) idk 1000000 f → (f = 1000000 ∨ (0 ≤ f ∧ f ≤ 5000)) → wp (K f t) P) : wp (x_loop2 (b_X7_quickest_49 K b u) x_fuel 1000000 0 t) P := by
  have hm := R.1
  have at_ := fun (s : Int) (h0 : 0 ≤ s) (h1 : s < t.1 7) => rY_at hI hv hcw R h0 h1
  refine wp_loop2 (fun f s z => z = t ∧ (0 ≤ s ∧ s ≤ t.1 7) ∧ (f = 1000000 ∨ (0 ≤ f ∧ f ≤ 5000)) ∧ oA 0 s (fun s => rd t 21 s = 1 ∧ rd y 3 (rd t 15 s) = b ∧ rd t 18 s ≤ u) (fun s => rd t 18 s - rd t 19 s) idk 1000000 f) (fun _ s _ => (t.1 7 - s).toNat) (fun g f s z hJ ih => ?_) x_fuel _ _ t ⟨rfl, ⟨by omega, by omega⟩, Or.inl rfl, oA_ini⟩ (fu (by omega))
  obtain ⟨rfl, ⟨s1, s2⟩, s3, s4⟩ := hJ
  unfold b_X7_quickest_49
  refine wp_le (by omega) (by omega) (by omega) (by omega) (fun hd => ?_) (fun hd => ?_)
  · have es : s = z.1 7 := by omega
    rw [es] at s4
    refine h f (Y_oP R (fun s p1 p2 p3 => ?_) (fun s p1 p2 p3 => ?_) (fun l r p => cw_Sr hcw (Or.inl p.1)) s4) s3
    · have hs := at_ s p1 p2
      exact ⟨⟨by omega, p3.2.1, by omega⟩, by omega⟩
    · have hs := at_ s p1 p2
      have p4 := p3.1
      have p5 := p3.2.2
      exact ⟨by omega, p3.2.1, by omega⟩
  · have hs := at_ s s1 hd
    refine wp_ld s1 (by omega) ?_
    refine wp_jp ?_
    have skip : ¬ (rd z 21 s = 1 ∧ rd y 3 (rd z 15 s) = b ∧ rd z 18 s ≤ u) → wp (x_let (s + 1) (fun v12 => g f v12 z)) P := fun q => wp_let (ih f (s + 1) z ⟨rfl, ⟨by omega, by omega⟩, s3, oA_skip s4 q⟩ (by omega))
    refine wp_eq (by omega) (by omega) (by omega) (by omega) (fun q => skip (fun c => by omega)) (fun q => ?_)
    refine wp_ld s1 (by omega) ?_
    refine wp_ld hs.2.1.1 (by omega) ?_
    rw [hs.2.2.2.1]
    refine wp_eq (by omega) (by omega) gb.1 gb.2 (fun q2 => ?_) (fun q2 => skip (fun c => q2 c.2.1))
    refine wp_ld s1 (by omega) ?_
    refine wp_lt gu.1 gu.2 (by omega) (by omega) (fun q3 => skip (fun c => by omega)) (fun q3 => ?_)
    refine wp_ld s1 (by omega) ?_
    refine wp_ld s1 (by omega) ?_
    refine wp_min (by omega) (by omega) (by omega) (by omega) (fun n hn => ?_)
    refine wp_let ?_
    rcases hn with ⟨n1, n2⟩ | ⟨n1, n2⟩
    · rw [n2]
      exact ih _ (s + 1) z ⟨rfl, ⟨by omega, by omega⟩, by omega, oA_take (run := fun s => rd z 18 s - rd z 19 s) s4 s1 ⟨by omega, q2, q3⟩ (fun _ => by unfold idk; omega) (fun i c1 c2 c3 => by have := at_ i c1 (by omega); omega)⟩ (by omega)
    · rw [n2]
      exact ih _ (s + 1) z ⟨rfl, ⟨by omega, by omega⟩, s3, oA_keep s4 (by omega) n1⟩ (by omega)
theorem ok_quickest (w1 w2 w3 w4 w5 : Int) (g1 : rg w1) (g2 : rg w2) (g3 : rg w3) (g4 : rg w4) (g5 : rg w5) : stepOK Inv (fun x => f_X6_quickest x w1 w2 w3 w4 w5) (fun y => f_X7_quickest y w1 w2 w3 w4 w5) := by
  refine stepOK_of (fun x y hI => ?_)
  refine q_way hI g1 g2 g3 g4 g5 (fun ha hb hab h3 _ h4 => ?_)
  have hn24 := hI.1.2.1
  have hv : ((w5.toNat : Nat) : Int) ≤ y.1 5 := by omega
  obtain ⟨Bf, Cf, hcw⟩ := cw_ex (v := w5.toNat) (w := -1) (a := w1) (tick := w3) hI hv (rg_lit (by omega) (by omega)) g1 g3
  have hlt : ∀ l r : Int, Bf l r ≠ -1 → 0 ≤ Bf l r ∧ Bf l r < cm y w5.toNat l r ∧ cm y w5.toNat l r ≤ 5000 := by
    intro l r q
    have hS := cw_Sr hcw (Or.inl q)
    have h1 := (Sr_rg hI hv hS).1
    have h2 := (hcw.2.1 l r hS).1
    omega
  refine wp_call (sX_explore hI h4.1 h4.2 g1 g3 hcw (Or.inl ⟨rfl, rfl⟩) (fun t ht ht10 htv htw => ?_))
  refine wp_call (sX_leastTicks ht hv htv htw (cw_fB ht hv hcw) (fun l r q => (hlt l r q).2.1) ⟨hb.1, by omega⟩ g4 (fun f hf hfr => ?_))
  refine sX_aow (rg_lit (by omega) (by omega)) ?_
  refine sY_lg hI (u := y00 y) (fun k q _ => by unfold y00; simp (disch := omega) only [rd_wr_eq, rd_wr_ne, rd_wr_j, rd_ps, wr_1, ps_eq, ps_ne]) (fun _ _ _ => rfl) h4.1 h4.2 (rg_lit (by omega) (by omega)) g1 g3 hcw (fun z z1 zj R => ?_)
  refine wp_jp ?_
  refine sY_quickest hI hv hcw R g2 g4 (fun f' hf' hfr' => ?_)
  refine q_fin ht ((y00_ex y).tr ⟨fun k p q r => z1 k r, fun j i q => zj j i (by omega)⟩) (z1 0 (by decide)) ?_
  rcases oP_uniq idk_i hf hf' with ⟨e1, e2, e3⟩ | ⟨e1, l, r, e2, e3⟩
  · omega
  · have := hlt l r e2.1
    omega
theorem sY_fewest (hI : Inv x y) (hv : (v : Int) ≤ y.1 5) (hcw : cw y v w a tick Bf Cf) (R : rY y t v w Bf Cf) (gb : rg b) {u : Int} (gu : rg u) {K : Int → XS → XR} (h : ∀ f : Int, oP (eT y v Cf b u) Cf idk 1000000 f → (f = 1000000 ∨ (0 ≤ f ∧ f ≤ 5000)) → wp (K f t) P) : wp (x_loop2 (b_X7_fewest_49 K b u) x_fuel 1000000 0 t) P := by
  have hm := R.1
  have at_ := fun (s : Int) (h0 : 0 ≤ s) (h1 : s < t.1 7) => rY_at hI hv hcw R h0 h1
  refine wp_loop2 (fun f s z => z = t ∧ (0 ≤ s ∧ s ≤ t.1 7) ∧ (f = 1000000 ∨ (0 ≤ f ∧ f ≤ 5000)) ∧ oA 0 s (fun s => rd t 21 s = 1 ∧ rd y 3 (rd t 15 s) = b ∧ rd t 18 s ≤ u) (fun s => rd t 20 s) idk 1000000 f) (fun _ s _ => (t.1 7 - s).toNat) (fun g f s z hJ ih => ?_) x_fuel _ _ t ⟨rfl, ⟨by omega, by omega⟩, Or.inl rfl, oA_ini⟩ (fu (by omega))
  obtain ⟨rfl, ⟨s1, s2⟩, s3, s4⟩ := hJ
  unfold b_X7_fewest_49
  refine wp_le (by omega) (by omega) (by omega) (by omega) (fun hd => ?_) (fun hd => ?_)
  · have es : s = z.1 7 := by omega
    rw [es] at s4
    refine h f (Y_oP R (fun s p1 p2 p3 => ?_) (fun s p1 p2 p3 => ?_) (fun l r p => cw_Sr hcw (Or.inr p.1)) s4) s3
    · have hs := at_ s p1 p2
      exact ⟨⟨by omega, p3.2.1, by omega⟩, by omega⟩
    · have hs := at_ s p1 p2
      have p4 := p3.1
      have p5 := p3.2.2
      exact ⟨by omega, p3.2.1, by omega⟩
  · have hs := at_ s s1 hd
    refine wp_ld s1 (by omega) ?_
    refine wp_jp ?_
    have skip : ¬ (rd z 21 s = 1 ∧ rd y 3 (rd z 15 s) = b ∧ rd z 18 s ≤ u) → wp (x_let (s + 1) (fun v12 => g f v12 z)) P := fun q => wp_let (ih f (s + 1) z ⟨rfl, ⟨by omega, by omega⟩, s3, oA_skip s4 q⟩ (by omega))
    refine wp_eq (by omega) (by omega) (by omega) (by omega) (fun q => skip (fun c => by omega)) (fun q => ?_)
    refine wp_ld s1 (by omega) ?_
    refine wp_ld hs.2.1.1 (by omega) ?_
    rw [hs.2.2.2.1]
    refine wp_eq (by omega) (by omega) gb.1 gb.2 (fun q2 => ?_) (fun q2 => skip (fun c => q2 c.2.1))
    refine wp_ld s1 (by omega) ?_
    refine wp_lt gu.1 gu.2 (by omega) (by omega) (fun q3 => skip (fun c => by omega)) (fun q3 => ?_)
    refine wp_ld s1 (by omega) ?_
    refine wp_min (by omega) (by omega) (by omega) (by omega) (fun n hn => ?_)
    refine wp_let ?_
    rcases hn with ⟨n1, n2⟩ | ⟨n1, n2⟩
    · rw [n2]
      exact ih _ (s + 1) z ⟨rfl, ⟨by omega, by omega⟩, by omega, oA_take (run := fun s => rd z 20 s) s4 s1 ⟨by omega, q2, q3⟩ (fun _ => by unfold idk; omega) (fun i c1 c2 c3 => by have := at_ i c1 (by omega); omega)⟩ (by omega)
    · rw [n2]
      exact ih _ (s + 1) z ⟨rfl, ⟨by omega, by omega⟩, s3, oA_keep s4 (by omega) n1⟩ (by omega)
theorem ok_fewest (w1 w2 w3 w4 w5 : Int) (g1 : rg w1) (g2 : rg w2) (g3 : rg w3) (g4 : rg w4) (g5 : rg w5) : stepOK Inv (fun x => f_X6_fewest x w1 w2 w3 w4 w5) (fun y => f_X7_fewest y w1 w2 w3 w4 w5) := by
  refine stepOK_of (fun x y hI => ?_)
  refine q_way hI g1 g2 g3 g4 g5 (fun ha hb hab h3 _ h4 => ?_)
  have hn24 := hI.1.2.1
  have hv : ((w5.toNat : Nat) : Int) ≤ y.1 5 := by omega
  obtain ⟨Bf, Cf, hcw⟩ := cw_ex (v := w5.toNat) (w := -1) (a := w1) (tick := w3) hI hv (rg_lit (by omega) (by omega)) g1 g3
  refine wp_call (sX_explore hI h4.1 h4.2 g1 g3 hcw (Or.inr ⟨rfl, rfl⟩) (fun t ht ht10 htv htw => ?_))
  refine wp_call (sX_leastRuns ht hv htv htw (cw_fC hcw) ⟨hb.1, by omega⟩ g4 (fun f hf hfr => ?_))
  refine sX_aow (rg_lit (by omega) (by omega)) ?_
  refine sY_lg hI (u := y00 y) (fun k q _ => by unfold y00; simp (disch := omega) only [rd_wr_eq, rd_wr_ne, rd_wr_j, rd_ps, wr_1, ps_eq, ps_ne]) (fun _ _ _ => rfl) h4.1 h4.2 (rg_lit (by omega) (by omega)) g1 g3 hcw (fun z z1 zj R => ?_)
  refine wp_jp ?_
  refine sY_fewest hI hv hcw R g2 g4 (fun f' hf' hfr' => ?_)
  refine q_fin ht ((y00_ex y).tr ⟨fun k p q r => z1 k r, fun j i q => zj j i (by omega)⟩) (z1 0 (by decide)) ?_
  rcases oP_uniq idk_i hf hf' with ⟨e1, e2, e3⟩ | ⟨e1, l, r, e2, e3⟩
  · omega
  · have := e2.1
    omega
end YQ
