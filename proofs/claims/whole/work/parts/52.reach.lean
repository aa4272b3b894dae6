/-- how many of the first n are in R -/
def cnt (R : Int → Prop) : Nat → Int → Prop
  | 0, c => c = 0
  | n + 1, c => (R n ∧ cnt R n (c - 1)) ∨ (¬ R n ∧ cnt R n c)
theorem cnt_u {R : Int → Prop} : ∀ (n : Nat) (c c' : Int), cnt R n c → cnt R n c' → c = c'
  | 0, c, c', h, h' => by
    unfold cnt at h h'
    omega
  | n + 1, c, c', h, h' => by
    unfold cnt at h h'
    rcases h with ⟨a1, a2⟩ | ⟨a1, a2⟩
    · rcases h' with ⟨b1, b2⟩ | ⟨b1, b2⟩
      · have := cnt_u n _ _ a2 b2
        omega
      · exact absurd a1 b1
    · rcases h' with ⟨b1, b2⟩ | ⟨b1, b2⟩
      · exact absurd b1 a1
      · exact cnt_u n _ _ a2 b2
theorem cnt_1 {R : Int → Prop} {b c : Int} (h : cnt R b.toNat c) (hb : 0 ≤ b) (hR : R b) : cnt R (b + 1).toNat (c + 1) := by
  have e1 : (b + 1).toNat = b.toNat + 1 := by omega
  have e2 : ((b.toNat : Nat) : Int) = b := by omega
  rw [e1]
  unfold cnt
  rw [e2]
  exact Or.inl ⟨hR, by rw [show c + 1 - 1 = c by omega]; exact h⟩
theorem cnt_0 {R : Int → Prop} {b c : Int} (h : cnt R b.toNat c) (hb : 0 ≤ b) (hR : ¬ R b) : cnt R (b + 1).toNat c := by
  have e1 : (b + 1).toNat = b.toNat + 1 := by omega
  have e2 : ((b.toNat : Nat) : Int) = b := by omega
  rw [e1]
  unfold cnt
  rw [e2]
  exact Or.inr ⟨hR, h⟩
def rch (y : XS) (v : Nat) (F : Int → Int → Int) (a u b : Int) : Prop := a = b ∨ ∃ l r : Int, eT y v F b u l r
section RE
variable {P : Int → XS → Prop} {x y t : XS} {v : Nat} {w a tick b u : Int} {Bf Cf F : Int → Int → Int}
theorem sX_isComing (hI : Inv t y) (hv : (v : Int) ≤ y.1 5) (H : vwOK t y v) (hw : wv t y v F) (hf : fo y v w F) (hb : 0 ≤ b ∧ b < 24) (gu : rg u) (h1 : (∃ l r : Int, eT y v F b u l r) → P 1 t) (h0 : (∀ l r : Int, ¬ eT y v F b u l r) → P 0 t) : wp (f_X3_isComing t b u) P := by
  unfold f_X3_isComing
  refine wp_call (sX_firstComing hI hv H hw hf hb (fun f hF hfr => ?_))
  refine wp_eq (by omega) (by omega) (by omega) (by omega) (fun q => wp_ret (h0 (fun l r hT => ?_))) (fun q => ?_)
  · rcases hF with ⟨-, e⟩ | ⟨l', r', e1, e2, e3⟩
    · exact e l r ⟨hT.1, hT.2.1⟩
    · have e2 : cm y v l' r' = f := e2
      have := (Sr_rg hI hv (hf.1 l' r' e1.1)).1
      omega
  · rcases hF with ⟨e, -⟩ | ⟨l', r', e1, e2, e3⟩
    · exact absurd e q
    · have e2 : cm y v l' r' = f := e2
      refine wp_lt gu.1 gu.2 (by omega) (by omega) (fun q2 => wp_ret (h0 (fun l r hT => ?_))) (fun q2 => wp_ret (h1 ⟨l', r', e1.1, e1.2, by omega⟩))
      have h3 : f ≤ cm y v l r := e3 l r ⟨hT.1, hT.2.1⟩
      have h4 := hT.2.2
      omega
theorem sX_isFound (hI : Inv t y) (hv : (v : Int) ≤ y.1 5) (H : vwOK t y v) (hw : wv t y v F) (hf : fo y v w F) (ga : rg a) (hb : 0 ≤ b ∧ b < 24) (gu : rg u) (h1 : rch y v F a u b → P 1 t) (h0 : ¬ rch y v F a u b → P 0 t) : wp (f_X6_isFound t a b u) P := by
  unfold f_X6_isFound
  refine wp_jp ?_
  refine wp_eq ga.1 ga.2 (by omega) (by omega) (fun q => wp_ret (h1 (Or.inl q))) (fun q => ?_)
  refine wp_call (sX_isComing hI hv H hw hf hb gu (fun q2 => ?_) (fun q2 => ?_))
  · refine wp_e1 ?_
    exact wp_ret (h1 (Or.inr q2))
  · refine wp_e0 ?_
    refine wp_ret (h0 (fun q3 => ?_))
    rcases q3 with q3 | ⟨l, r, q3⟩
    · exact q q3
    · exact q2 l r q3
theorem sY_isReachedBy (hI : Inv x y) (hv : (v : Int) ≤ y.1 5) (hcw : cw y v w a tick Bf Cf) (R : rY y t v w Bf Cf) (ga : rg a) (gb : rg b) (gu : rg u) (h1 : rch y v Bf a u b → P 1 t) (h0 : ¬ rch y v Bf a u b → P 0 t) : wp (f_X7_isReachedBy t b a u) P := by
  have hm := R.1
  have at_ := fun (s : Int) (h0 : 0 ≤ s) (h1 : s < t.1 7) => rY_at hI hv hcw R h0 h1
  unfold f_X7_isReachedBy
  refine wp_eq gb.1 gb.2 ga.1 ga.2 (fun q => wp_ret (h1 (Or.inl q.symm))) (fun q => ?_)
  refine wp_jp ?_
  refine wp_loop1 (fun s z => z = t ∧ (0 ≤ s ∧ s ≤ t.1 7) ∧ ∀ s' : Int, 0 ≤ s' → s' < s → ¬ (rd t 21 s' = 1 ∧ rd y 3 (rd t 15 s') = b ∧ rd t 18 s' ≤ u)) (fun s _ => (t.1 7 - s).toNat) (fun g s z hJ ih => ?_) x_fuel _ t ⟨rfl, ⟨by omega, by omega⟩, fun s' c1 c2 => absurd c2 (by omega)⟩ (fu (by omega))
  obtain ⟨rfl, ⟨s1, s2⟩, s3⟩ := hJ
  unfold b_X7_isReachedBy_10
  refine wp_le (by omega) (by omega) (by omega) (by omega) (fun hd => ?_) (fun hd => ?_)
  · refine wp_ret (h0 (fun q3 => ?_))
    rcases q3 with q3 | ⟨l, r, q3⟩
    · exact q q3.symm
    · obtain ⟨s', b1, b2, b3, b4⟩ := R.2.2.2 l r (cw_Sr hcw (Or.inl q3.1))
      have hs := at_ s' b1 b2
      refine s3 s' b1 (by omega) ?_
      obtain ⟨c1, c2, c3⟩ := q3
      rw [b3, b4] at hs
      rw [b3]
      exact ⟨by omega, c2, by omega⟩
  · have hs := at_ s s1 hd
    refine wp_ld s1 (by omega) ?_
    refine wp_jp ?_
    have skip : ¬ (rd z 21 s = 1 ∧ rd y 3 (rd z 15 s) = b ∧ rd z 18 s ≤ u) → wp (x_let (s + 1) (fun v12 => g v12 z)) P := fun q => wp_let (ih (s + 1) z ⟨rfl, ⟨by omega, by omega⟩, fun s' c1 c2 => by
      by_cases hss : s' = s
      · rw [hss]; exact q
      · exact s3 s' c1 (by omega)⟩ (by omega))
    refine wp_eq (by omega) (by omega) (by omega) (by omega) (fun q => skip (fun c => by omega)) (fun q1 => ?_)
    refine wp_ld s1 (by omega) ?_
    refine wp_ld hs.2.1.1 (by omega) ?_
    rw [hs.2.2.2.1]
    refine wp_eq (by omega) (by omega) gb.1 gb.2 (fun q2 => ?_) (fun q2 => skip (fun c => q2 c.2.1))
    refine wp_ld s1 (by omega) ?_
    refine wp_lt gu.1 gu.2 (by omega) (by omega) (fun q3 => skip (fun c => by omega)) (fun q3 => wp_ret (h1 (Or.inr ⟨rd z 15 s, rd z 16 s, by omega, q2, by omega⟩)))
theorem ok_isReached (w1 w2 w3 w4 w5 : Int) (g1 : rg w1) (g2 : rg w2) (g3 : rg w3) (g4 : rg w4) (g5 : rg w5) : stepOK Inv (fun x => f_X6_isReached x w1 w2 w3 w4 w5) (fun y => f_X7_isReached y w1 w2 w3 w4 w5) := by
  refine stepOK_of (fun x y hI => ?_)
  refine q_reach hI g1 g2 g3 g4 g5 (fun ha hb h3 _ h4 => ?_)
  have hn24 := hI.1.2.1
  have hv : ((w5.toNat : Nat) : Int) ≤ y.1 5 := by omega
  obtain ⟨Bf, Cf, hcw⟩ := cw_ex (v := w5.toNat) (w := -1) (a := w1) (tick := w3) hI hv (rg_lit (by omega) (by omega)) g1 g3
  refine wp_call (sX_explore hI h4.1 h4.2 g1 g3 hcw (Or.inl ⟨rfl, rfl⟩) (fun t ht ht10 htv htw => ?_))
  refine wp_call (sX_isFound ht hv htv htw (cw_fB ht hv hcw) g1 ⟨hb.1, by omega⟩ g4 (fun hR => ?_) (fun hR => ?_))
  · refine wp_jp ?_
    refine wp_e1 ?_
    refine wp_call (sX_answer (wp_ret ?_))
    refine sY_lg hI (u := y00 y) (fun k q _ => by unfold y00; simp (disch := omega) only [rd_wr_eq, rd_wr_ne, rd_wr_j, rd_ps, wr_1, ps_eq, ps_ne]) (fun _ _ _ => rfl) h4.1 h4.2 (rg_lit (by omega) (by omega)) g1 g3 hcw (fun z z1 zj R => ?_)
    refine wp_call (sY_isReachedBy hI hv hcw R g1 g2 g4 (fun q => ?_) (fun q => absurd hR q))
    refine wp_e1 ?_
    exact wp_ret ⟨rfl, Inv_fin ht ((y00_ex y).tr ⟨fun k p q r => z1 k r, fun j i q => zj j i (by omega)⟩) (z1 0 (by decide)) (by decide) (by decide)⟩
  · refine wp_jp ?_
    refine wp_e0 ?_
    refine wp_call (sX_answer (wp_ret ?_))
    refine sY_lg hI (u := y00 y) (fun k q _ => by unfold y00; simp (disch := omega) only [rd_wr_eq, rd_wr_ne, rd_wr_j, rd_ps, wr_1, ps_eq, ps_ne]) (fun _ _ _ => rfl) h4.1 h4.2 (rg_lit (by omega) (by omega)) g1 g3 hcw (fun z z1 zj R => ?_)
    refine wp_call (sY_isReachedBy hI hv hcw R g1 g2 g4 (fun q => absurd q hR) (fun q => ?_))
    refine wp_e0 ?_
    exact wp_ret ⟨rfl, Inv_fin ht ((y00_ex y).tr ⟨fun k p q r => z1 k r, fun j i q => zj j i (by omega)⟩) (z1 0 (by decide)) (by decide) (by decide)⟩
theorem ok_reached (w1 w2 w3 w4 : Int) (g1 : rg w1) (g2 : rg w2) (g3 : rg w3) (g4 : rg w4) : stepOK Inv (fun x => f_X6_reached x w1 w2 w3 w4) (fun y => f_X7_reached y w1 w2 w3 w4) := by
  refine stepOK_of (fun x y hI => ?_)
  refine q_reach hI g1 g1 g2 g3 g4 (fun ha hb h3 _ h4 => ?_)
  have hn24 := hI.1.2.1
  have hn0 := hI.1.1
  have hv : ((w4.toNat : Nat) : Int) ≤ y.1 5 := by omega
  obtain ⟨Bf, Cf, hcw⟩ := cw_ex (v := w4.toNat) (w := -1) (a := w1) (tick := w2) hI hv (rg_lit (by omega) (by omega)) g1 g2
  refine wp_call (sX_explore hI h4.1 h4.2 g1 g2 hcw (Or.inl ⟨rfl, rfl⟩) (fun t ht ht10 htv htw => ?_))
  have t2 := ht.1.2.2.1
  refine wp_jp ?_
  refine wp_loop2 (fun c b z => z = t ∧ (0 ≤ b ∧ b ≤ y.1 2) ∧ (0 ≤ c ∧ c ≤ b) ∧ cnt (rch y w4.toNat Bf w1 w3) b.toNat c) (fun _ b _ => (y.1 2 - b).toNat) (fun g c b z hJ ih => ?_) x_fuel _ _ t ⟨rfl, ⟨by omega, by omega⟩, ⟨by omega, by omega⟩, rfl⟩ (fu (by omega))
  obtain ⟨rfl, ⟨b1, b2⟩, ⟨c1, c2⟩, c3⟩ := hJ
  unfold b_X6_reached_39
  rw [t2]
  refine wp_le (by omega) (by omega) (by omega) (by omega) (fun hd => ?_) (fun hd => ?_)
  · have eb : b = y.1 2 := by omega
    rw [eb] at c3
    refine wp_call (sX_answer (wp_ret ?_))
    refine sY_lg hI (u := y00 y) (fun k q _ => by unfold y00; simp (disch := omega) only [rd_wr_eq, rd_wr_ne, rd_wr_j, rd_ps, wr_1, ps_eq, ps_ne]) (fun _ _ _ => rfl) h4.1 h4.2 (rg_lit (by omega) (by omega)) g1 g2 hcw (fun t t1 tj R => ?_)
    have t2' : t.1 2 = y.1 2 := t1 2 (by decide)
    refine wp_jp ?_
    refine wp_loop2 (fun c b z => z = t ∧ (0 ≤ b ∧ b ≤ y.1 2) ∧ (0 ≤ c ∧ c ≤ b) ∧ cnt (rch y w4.toNat Bf w1 w3) b.toNat c) (fun _ b _ => (y.1 2 - b).toNat) (fun g' c' b' z' hJ ih' => ?_) x_fuel _ _ t ⟨rfl, ⟨by omega, by omega⟩, ⟨by omega, by omega⟩, rfl⟩ (fu (by omega))
    obtain ⟨rfl, ⟨b1', b2'⟩, ⟨c1', c2'⟩, c3'⟩ := hJ
    unfold b_X7_reached_47
    rw [t2']
    refine wp_le (by omega) (by omega) (by omega) (by omega) (fun hd' => ?_) (fun hd' => ?_)
    · have eb' : b' = y.1 2 := by omega
      rw [eb'] at c3'
      exact wp_ret ⟨cnt_u _ _ _ c3 c3', Inv_fin ht ((y00_ex y).tr ⟨fun k p q r => t1 k r, fun j i q => tj j i (by omega)⟩) (t1 0 (by decide)) (by decide) (by decide)⟩
    · refine wp_call (sY_isReachedBy hI hv hcw R g1 (rg_lit (by omega) (by omega)) g3 (fun q => ?_) (fun q => ?_))
      · refine wp_jp ?_
        refine wp_e1 ?_
        exact wp_let (wp_let (ih' (c' + 1) (b' + 1) z' ⟨rfl, ⟨by omega, by omega⟩, ⟨by omega, by omega⟩, cnt_1 c3' b1' q⟩ (by omega)))
      · refine wp_jp ?_
        refine wp_e0 ?_
        refine wp_let (wp_let (ih' (c' + 0) (b' + 1) z' ⟨rfl, ⟨by omega, by omega⟩, ⟨by omega, by omega⟩, ?_⟩ (by omega)))
        rw [Int.add_zero]
        exact cnt_0 c3' b1' q
  · refine wp_call (sX_isFound ht hv htv htw (cw_fB ht hv hcw) g1 ⟨b1, by omega⟩ g3 (fun q => ?_) (fun q => ?_))
    · refine wp_jp ?_
      refine wp_e1 ?_
      exact wp_let (wp_let (ih (c + 1) (b + 1) z ⟨rfl, ⟨by omega, by omega⟩, ⟨by omega, by omega⟩, cnt_1 c3 b1 q⟩ (by omega)))
    · refine wp_jp ?_
      refine wp_e0 ?_
      exact wp_let (ih c (b + 1) z ⟨rfl, ⟨by omega, by omega⟩, ⟨by omega, by omega⟩, cnt_0 c3 b1 q⟩ (by omega))
theorem sX_cwRest (hI : Inv x y) (hv : (v : Int) ≤ y.1 5) (H : vwOK x y v) (ga : rg a) (gt : rg tick) (gw : rg w) (hb : 0 ≤ b ∧ b < 24) (hcw : cw y v w a tick Bf Cf) (h : ∀ (t : XS) (f : Int), (∀ k : Nat, k ≠ 11 → t.1 k = x.1 k) → (∀ (j : Nat) (q : Int), (j < 28 ∨ 32 < j) → rd t j q = rd x j q) → Inv t y → vwOK t y v → oP (fun l r => Bf l r ≠ -1 ∧ rd y 3 l = b) (fun l r => cm y v l r) idk 5001 f → (f = 5001 ∨ (0 ≤ f ∧ f ≤ 5000)) → P f t) : wp (x_call (f_X3_spread x a tick w 0) (fun _ x4 => x_call (f_X3_firstComing x4 b) (fun r5 x6 => x_eq r5 (-1) (some (5001, x6)) (some (r5, x6))))) P := by
  refine wp_call (sX_spreadF hI hv H ga gt gw hcw (Or.inl ⟨rfl, rfl⟩) (fun t t1 tj ht htv htw => ?_))
  refine wp_call (sX_firstComing ht hv htv htw (cw_fB ht hv hcw) hb (fun f hf hfr => ?_))
  refine wp_eq (by omega) (by omega) (by omega) (by omega) (fun q => wp_ret (h t _ t1 tj ht htv ?_ (Or.inl rfl))) (fun q => wp_ret (h t f t1 tj ht htv ?_ (by omega)))
  · rcases hf with ⟨-, e⟩ | ⟨l', r', e1, e2, e3⟩
    · exact Or.inl ⟨rfl, e⟩
    · have e2 : cm y v l' r' = f := e2
      have := (Sr_rg hI hv (cw_Sr hcw (Or.inl e1.1))).1
      omega
  · rcases hf with ⟨e, -⟩ | e
    · exact absurd e q
    · exact Or.inr e
theorem ok_without (w1 w2 w3 w4 : Int) (g1 : rg w1) (g2 : rg w2) (g3 : rg w3) (g4 : rg w4) : stepOK Inv (fun x => f_X6_without x w1 w2 w3 w4) (fun y => f_X7_without y w1 w2 w3 w4) := by
  refine stepOK_of (fun x y hI => ?_)
  have hn1 := hI.1.1
  have hn2 := hI.1.2.1
  have hc1 := hI.2.2.1.1
  have hc2 := hI.2.2.1.2.1
  have hl1 := hI.2.1.1
  have hl2 := hI.2.1.2.1
  have ex2 := hI.1.2.2.1
  have ex3 := hI.2.1.2.2.1
  have ex5 := hI.2.2.1.2.2.1
  have ey2 : (xpS y 1 0).1 2 = y.1 2 := rfl
  have ey3 : (xpS y 1 0).1 3 = y.1 3 := rfl
  have ey5 : (xpS y 1 0).1 5 = y.1 5 := rfl
  -- Y is asked
  have yas : ∀ {P : Int → XS → Prop}, (∀ r : Int, ((r = 1 ∧ (w4 < 0 ∨ y.1 3 ≤ w4)) ∨ ((0 ≤ w4 ∧ w4 < y.1 3) ∧ flt (y.1 2) (y.1 5) w1 w2 w3 w3 (y.1 5) r)) → wp (x_let (xpS (xpS y 1 0) 0 r) (fun x7 => x_le (x7.1 0) 0 (x_call (f_X7_lay x7 (x7.1 5) w4) (fun _ x9 => x_call (f_X7_goes x9 w1 w3) (fun _ x11 => x_call (f_X7_firstOf x11 w2) (fun r12 x13 => x_call (f_X7_best x13 r12) (fun r14 x15 => some (r14, x15)))))) (some ((-1), x7)))) P) → wp (f_X7_without y w1 w2 w3 w4) P := by
    intro P h
    unfold f_X7_without
    refine wp_let (wp_call (sY_isLine g4 (by omega) (fun l1 l2 => ?_) (fun l1 => ?_)))
    · refine wp_jp ?_
      refine wp_e1 ?_
      refine wp_call (sY_asked g1 g2 g3 g3 (rg_lit (by omega) (by omega)) (by omega) (by omega) (fun r hr => h r (Or.inr ⟨by omega, ?_⟩)))
      rw [ey2, ey5] at hr
      exact hr
    · refine wp_jp ?_
      refine wp_e0 ?_
      exact h 1 (Or.inl ⟨rfl, by omega⟩)
  have no : ∀ r : Int, (1 ≤ r ∧ r ≤ 6) → ((r = 1 ∧ (w4 < 0 ∨ y.1 3 ≤ w4)) ∨ ((0 ≤ w4 ∧ w4 < y.1 3) ∧ flt (y.1 2) (y.1 5) w1 w2 w3 w3 (y.1 5) r)) → wp (x_call (f_X6_refuse x r) (fun r5 x6 => some (r5, x6))) (fun r x' => wp (f_X7_without y w1 w2 w3 w4) (fun r' y' => r = r' ∧ Inv x' y')) := by
    intro r hr1 hr
    refine wp_call (sX_refuse (wp_ret (yas (fun r' hr' => ?_))))
    have e : r' = r := by
      rcases hr with ⟨q1, q2⟩ | ⟨q1, q2⟩
      · rcases hr' with ⟨p1, p2⟩ | ⟨p1, p2⟩
        · omega
        · omega
      · rcases hr' with ⟨p1, p2⟩ | ⟨p1, p2⟩
        · omega
        · exact flt_u q2 p2
    subst e
    refine wp_let ?_
    have e0 : (xpS (xpS y 1 0) 0 r').1 0 = r' := ps_eq
    exact wp_le (by omega) (by omega) (by omega) (by omega) (fun q => absurd q (by omega)) (fun _ => wp_ret ⟨rfl, Inv_no1 hI r' (by omega) (by omega)⟩)
  unfold f_X6_without
  refine wp_call (sX_areEnds g1 g2 (by omega) (fun a1 a2 b1 b2 hab => ?_) (fun a1 => ?_))
  · refine wp_jp ?_
    refine wp_e1 ?_
    refine wp_call (sX_isLine g4 (by omega) (fun l1 l2 => ?_) (fun l1 => ?_))
    · refine wp_e1 ?_
      refine wp_call (sX_isTick g3 (fun c1 c2 => ?_) (fun c1 => ?_))
      · refine wp_e1 ?_
        have hv : (((y.1 5).toNat : Nat) : Int) ≤ y.1 5 := by omega
        obtain ⟨Bf, Cf, hcw⟩ := cw_ex (v := (y.1 5).toNat) (w := w4) (a := w1) (tick := w3) hI hv g4 g1 g3
        refine wp_call ?_
        unfold f_X6_comingWithout
        rw [ex5]
        refine wp_call (sX_show hI hc1 (Int.le_refl _) (fun z hz hz10 hzv => ?_))
        refine sX_cwRest hz hv hzv g1 g3 g4 ⟨b1, by omega⟩ hcw (fun t f t1 tj ht htv hf hfr => ?_)
        have go : ∀ f1 : Int, ((f1 = -1 ∧ f = 5001) ∨ (f1 = f ∧ f ≠ 5001)) → wp (f_X7_without y w1 w2 w3 w4) (fun r' y' => f1 = r' ∧ Inv (xpS t 1 (if f1 = -1 then 5 else 0)) y') := by
          intro f1 hf1
          refine yas (fun r' hr' => ?_)
          have e : r' = 0 := by
            rcases hr' with ⟨p1, p2⟩ | ⟨p1, p2⟩
            · omega
            · unfold flt at p2
              omega
          subst e
          refine wp_let ?_
          have e0 : (xpS (xpS y 1 0) 0 0).1 0 = 0 := ps_eq
          refine wp_le (by omega) (by omega) (by omega) (by omega) (fun _ => ?_) (fun q => absurd q (by omega))
          have e5 : (xpS (xpS y 1 0) 0 0).1 5 = y.1 5 := rfl
          rw [e5]
          refine sY_lg hI (u := y00 y) (fun k q _ => by unfold y00; simp (disch := omega) only [rd_wr_eq, rd_wr_ne, rd_wr_j, rd_ps, wr_1, ps_eq, ps_ne]) (fun _ _ _ => rfl) hc1 (Int.le_refl _) g4 g1 g3 hcw (fun z z1 zj R => ?_)
          refine wp_call (sY_firstOf hI hv hcw R g2 (fun f' hf' hfr' => ?_))
          refine q_fin ht ((y00_ex y).tr ⟨fun k p q r => z1 k r, fun j i q => zj j i (by omega)⟩) (z1 0 (by decide)) ?_
          rcases oP_uniq idk_i hf hf' with ⟨e1, e2, e3⟩ | ⟨e1, l, r, e2, e3⟩
          · omega
          · have e3 : cm y (y.1 5).toNat l r = f := e3
            have := (Sr_rg hI hv (cw_Sr hcw (Or.inl e2.1))).1
            omega
        refine wp_eq (by omega) (by omega) (by omega) (by omega) (fun q => ?_) (fun q => ?_)
        · have := go (-1) (by omega)
          rw [if_pos rfl] at this
          exact wp_call (sX_refuse (wp_ret this))
        · have := go f (by omega)
          rw [if_neg (by omega)] at this
          exact wp_call (sX_answer (wp_ret this))
      · refine wp_e0 ?_
        refine no 2 (by omega) (Or.inr ⟨by omega, ?_⟩)
        unfold flt
        omega
    · refine wp_e0 ?_
      exact no 1 (by omega) (Or.inl ⟨rfl, by omega⟩)
  · refine wp_jp ?_
    refine wp_e0 ?_
    refine no 1 (by omega) ?_
    by_cases hl : w4 < 0 ∨ y.1 3 ≤ w4
    · exact Or.inl ⟨rfl, hl⟩
    · refine Or.inr ⟨by omega, ?_⟩
      unfold flt
      omega
end RE
