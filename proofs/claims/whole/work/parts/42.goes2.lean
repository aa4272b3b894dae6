/-- what goes has made -/
def gd (y z t : XS) (v : Nat) (a tick : Int) : Prop := rcB y v a tick (DY z) (pY z) (qY z) (fun s => rd t 19 s) ∧ rcC y v a tick (DY z) (pY z) (qY z) (fun s => if rd t 21 s = 0 then -1 else rd t 20 s) ∧
  ∀ s, DY z s → (rd t 21 s = 0 ∧ rd t 19 s = -1 ∧ rd t 20 s = 1000000) ∨ (rd t 21 s = 1 ∧ (0 ≤ rd t 19 s ∧ rd t 19 s ≤ lv y v (pY z s) (qY z s)) ∧ (1 ≤ rd t 20 s ∧ rd t 20 s ≤ 1200))
theorem pe_gd {x y z t : XS} {v : Nat} {w a tick : Int} (hI : Inv x y) (hv : (v : Int) ≤ y.1 5) (hl : ly y z v w) (h : ∀ s, DY z s → pe y z t v a tick s s (rd t 21 s) (rd t 19 s) (rd t 20 s)) : gd y z t v a tick := by
  have hm := hl.1.2.1
  refine ⟨fun s hs => ⟨fun h1 => ((h s hs).2.1 h1).2.1, fun h1 => ?_⟩, fun s hs => ⟨fun h1 => ?_, fun h1 => ?_⟩, fun s hs => ?_⟩
  · have hp := h s hs
    rcases hp.2.2.1 h1 with ⟨a1, a2, a3, a4⟩ | ⟨a1, ⟨j, b1, b2, b3, b4, b5⟩, a3, a4, a5⟩
    · refine Or.inl ⟨a2, fun j hj hf => ?_⟩
      have h0 := a4 j hj.1 (ly_lt hI hv hl hj hs hf) hf
      exact ((h j hj).2.2.2.2 h0).1
    · have hb := (hp.2.2.2.1 a1)
      refine Or.inr ⟨(show rd t 19 s ≠ -1 by omega), ⟨j, ⟨b1, by have := hs.2; omega⟩, b3, b5⟩, fun j' hj' hf => ?_⟩
      have hlt := ly_lt hI hv hl hj' hs hf
      rcases (h j' hj').1 with h0 | h0
      · have := ((h j' hj').2.2.2.2 h0).1
        show rd t 19 j' ≤ rd t 19 s
        omega
      · exact a3 j' hj'.1 hlt hf h0
  · obtain ⟨a1, a2, a3⟩ := (h s hs).2.1 h1
    show (if rd t 21 s = 0 then -1 else rd t 20 s) = 1
    rw [if_neg (by omega)]
    exact a3
  · have hp := h s hs
    rcases hp.2.2.1 h1 with ⟨a1, a2, a3, a4⟩ | ⟨a1, a2, a3, ⟨j, b1, b2, b3, b4, b5⟩, a5⟩
    · refine Or.inl ⟨?_, fun j hj hf => ?_⟩
      · show (if rd t 21 s = 0 then -1 else rd t 20 s) = -1
        rw [if_pos a1]
      · show (if rd t 21 j = 0 then -1 else rd t 20 j) = -1
        rw [if_pos (a4 j hj.1 (ly_lt hI hv hl hj hs hf) hf)]
    · have hb := (hp.2.2.2.1 a1)
      have e : (if rd t 21 s = 0 then -1 else rd t 20 s) = rd t 20 s := if_neg (by omega)
      have hj : DY z j := ⟨b1, by have := hs.2; omega⟩
      have hbj := (h j hj).2.2.2.1 b4
      refine Or.inr ⟨?_, ⟨j, hj, b3, ?_, ?_⟩, fun j' hj' hf hne => ?_⟩
      · show (if rd t 21 s = 0 then -1 else rd t 20 s) ≠ -1
        rw [e]; omega
      · show (if rd t 21 j = 0 then -1 else rd t 20 j) ≠ -1
        rw [if_neg (by omega)]; omega
      · show (if rd t 21 s = 0 then -1 else rd t 20 s) = (if rd t 21 j = 0 then -1 else rd t 20 j) + 1
        rw [e, if_neg (by omega)]
        exact b5
      · show (if rd t 21 s = 0 then -1 else rd t 20 s) ≤ (if rd t 21 j' = 0 then -1 else rd t 20 j') + 1
        have hlt := ly_lt hI hv hl hj' hs hf
        rcases (h j' hj').1 with h0 | h0
        · exact absurd (show (if rd t 21 j' = 0 then -1 else rd t 20 j') = -1 from if_pos h0) hne
        · rw [e, if_neg (by omega)]
          exact a5 j' hj'.1 hlt hf h0
  · have hp := h s hs
    have hs2 := hs.2
    rcases hp.1 with h0 | h0
    · exact Or.inl ⟨h0, (hp.2.2.2.2 h0).1, (hp.2.2.2.2 h0).2⟩
    · have := hp.2.2.2.1 h0
      exact Or.inr ⟨h0, ⟨this.1, this.2.1⟩, ⟨this.2.2.1, by omega⟩⟩
theorem sY_goes {P : Int → XS → Prop} {x y z : XS} {v : Nat} {w a tick : Int} (hI : Inv x y) (hv : (v : Int) ≤ y.1 5) (hl : ly y z v w) (hz : ∀ (j : Nat) (i : Int), j ≤ 12 → rd z j i = rd y j i) (ga : rg a) (gt : rg tick)
    (h : ∀ t : XS, (∀ k : Nat, t.1 k = z.1 k) → (∀ (j : Nat) (i : Int), (j ≤ 18 ∨ 21 < j) → rd t j i = rd z j i) → gd y z t v a tick → P 0 t) : wp (f_X7_goes z a tick) P := by
  have hm0 := hl.1.1
  have hm := hl.1.2.1
  have hln := hI.2.1.2.1
  have hn24 := hI.1.2.1
  unfold f_X7_goes
  refine wp_jp ?_
  refine wp_loop1 (fun s t => (0 ≤ s ∧ s ≤ z.1 7) ∧ (∀ k : Nat, t.1 k = z.1 k) ∧ (∀ (j : Nat) (i : Int), (j ≤ 18 ∨ 21 < j) → rd t j i = rd z j i) ∧ ∀ i : Int, 0 ≤ i → i < s → pe y z t v a tick i i (rd t 21 i) (rd t 19 i) (rd t 20 i)) (fun s _ => (z.1 7 - s).toNat) (fun g s t hJ ih => ?_) x_fuel 0 z ⟨⟨by omega, by omega⟩, fun _ => rfl, fun _ _ _ => rfl, fun i a b => absurd b (by omega)⟩ (fu (by omega))
  obtain ⟨⟨s1, s2⟩, t1, tj, tp⟩ := hJ
  unfold b_X7_goes_2
  rw [t1 7]
  refine wp_le (by omega) (by omega) (by omega) (by omega) (fun hc => ?_) (fun hc => ?_)
  · have es : s = z.1 7 := by omega
    exact wp_ret (h t t1 tj (pe_gd hI hv hl (fun i hi => tp i hi.1 (by have := hi.2; omega))))
  · have hs : DY z s := ⟨s1, hc⟩
    have cs := Sr_rg hI hv ((ly_cov hl).1 s hs)
    have bs0 := ((ly_cov hl).1 s hs).1
    have a2 := ly_at hl hs
    have e15 : rd t 15 s = pY z s := tj 15 s (by omega)
    have e2 : rd t 2 (pY z s) = rd y 2 (pY z s) := by rw [tj 2 _ (by omega), hz 2 _ (by decide)]
    have e17 : rd t 17 s = lv y v (pY z s) (qY z s) := by rw [tj 17 s (by omega)]; exact a2.1
    refine wp_ld (by omega) (by omega) ?_
    rw [e15]
    refine wp_ld (by omega) (by omega) ?_
    rw [e2]
    refine wp_jp ?_
    -- the row's own worth laid, then the rows ahead
    have main : ∀ f : Int, (f = 0 ∨ f = 1) → (f = 1 ↔ stt y v a tick (pY z s) (qY z s)) → wp (x_stb t 21 1200 s f (fun x11 => x_ld (x11.2 21) 1200 s (fun v12 => x_jp (fun (v14 : Int) (x15 : XS) => x_st x15 19 1200 s v14 (fun x16 => x_ld (x16.2 21) 1200 s (fun v17 => x_jp (fun (v19 : Int) (x20 : XS) => x_st x20 20 1200 s v19 (fun x21 => x_jp (fun (x23 : XS) => x_let (s + 1) (fun v24 => g v24 x23)) (fun kx22 => x_loop1 (b_X7_goes_95 s kx22) x_fuel 0 x21))) (fun jp18 => x_eq v17 0 (jp18 1000000 x16) (jp18 1 x16))))) (fun jp13 => x_eq v12 0 (jp13 (-1) x11) (x_ld (x11.2 17) 1200 s (fun v43 => jp13 v43 x11)))))) P := by
      intro f hf hst
      refine wp_stb s1 (by omega) hf ?_
      refine wp_ld s1 (by omega) ?_
      rw [rd_wr_eq]
      refine wp_jp ?_
      -- behind begun and steps
      have rest : ∀ b c : Int, (f = 0 → b = -1 ∧ c = 1000000) → (f = 1 → b = lv y v (pY z s) (qY z s) ∧ c = 1) → wp (x_st (wr (wr t 21 s f) 19 s b) 20 1200 s c (fun x21 => x_jp (fun (x23 : XS) => x_let (s + 1) (fun v24 => g v24 x23)) (fun kx22 => x_loop1 (b_X7_goes_95 s kx22) x_fuel 0 x21))) P := by
        intro b c hb0 hb1
        refine wp_st s1 (by omega) ?_
        refine wp_jp ?_
        refine wp_loop1 (fun r u => (0 ≤ r ∧ r ≤ s) ∧ (∀ k : Nat, u.1 k = z.1 k) ∧ (∀ (j : Nat) (i : Int), (j ≤ 18 ∨ 21 < j) → rd u j i = rd z j i) ∧ (∀ (j : Nat) (i : Int), 19 ≤ j → j ≤ 21 → 0 ≤ i → i < s → rd u j i = rd t j i) ∧ pe y z u v a tick s r (rd u 21 s) (rd u 19 s) (rd u 20 s)) (fun r _ => (s - r).toNat) (fun g2 r u hJ2 ih2 => ?_) x_fuel 0 _ ⟨⟨by omega, by omega⟩, t1, fun j i q => ?_, fun j i q1 q2 q3 q4 => ?_, ?_⟩ (fu (by omega))
        · obtain ⟨⟨r1, r2⟩, u1, uj, uo, up⟩ := hJ2
          unfold b_X7_goes_95
          refine wp_le (by omega) (by omega) (by omega) (by omega) (fun hd => ?_) (fun hd => ?_)
          · have er : r = s := by omega
            subst er
            refine wp_let (ih (r + 1) u ⟨⟨by omega, by omega⟩, u1, uj, fun i q1 q2 => ?_⟩ (by omega))
            by_cases hi : i = r
            · rw [hi]; exact up
            · have hp := tp i q1 (by omega)
              rw [uo 21 i (by omega) (by omega) q1 (by omega), uo 19 i (by omega) (by omega) q1 (by omega), uo 20 i (by omega) (by omega) q1 (by omega)]
              exact pe_keep hp (fun q j c1 c2 c3 c4 => uo q j c1 c2 c3 (by omega))
          · have hr : DY z r := ⟨r1, by omega⟩
            have hpr := tp r r1 hd
            have hlr := (Sr_rg hI hv ((ly_cov hl).1 r hr)).1
            have er21 := uo 21 r (by omega) (by omega) r1 hd
            have er19 := uo 19 r (by omega) (by omega) r1 hd
            have er20 := uo 20 r (by omega) (by omega) r1 hd
            -- nothing new
            have skip : (rd t 21 r = 0 ∨ ¬ fw y v (pY z r) (qY z r) (pY z s) (qY z s)) → wp (x_let (r + 1) (fun v31 => g2 v31 u)) P := by
              intro hsk
              refine wp_let (ih2 (r + 1) u ⟨⟨by omega, by omega⟩, u1, uj, uo, ?_⟩ (by omega))
              obtain ⟨p1, p2, p3, p4⟩ := up
              refine ⟨p1, p2, fun hn => ?_, p4⟩
              rcases p3 hn with ⟨b1, b2, b3, b4⟩ | ⟨b1, ⟨j, d1, d2, d3⟩, b3, ⟨j', f1, f2, f3⟩, b5⟩
              · refine Or.inl ⟨b1, b2, b3, fun j c1 c2 c3 => ?_⟩
                by_cases hj : j = r
                · subst hj
                  rcases hsk with q | q
                  · rw [er21]; exact q
                  · exact absurd c3 q
                · exact b4 j c1 (by omega) c3
              · refine Or.inr ⟨b1, ⟨j, d1, by omega, d3⟩, fun j c1 c2 c3 c4 => ?_, ⟨j', f1, by omega, f3⟩, fun j c1 c2 c3 c4 => ?_⟩
                · by_cases hj : j = r
                  · subst hj
                    rcases hsk with q | q
                    · rw [er21] at c4; omega
                    · exact absurd c3 q
                  · exact b3 j c1 (by omega) c3 c4
                · by_cases hj : j = r
                  · subst hj
                    rcases hsk with q | q
                    · rw [er21] at c4; omega
                    · exact absurd c3 q
                  · exact b5 j c1 (by omega) c3 c4
            refine wp_ld r1 (by omega) ?_
            rw [er21]
            refine wp_jp ?_
            have h01 := hpr.1
            refine wp_eq (by omega) (by omega) (by omega) (by omega) (fun h0 => skip (Or.inl h0)) (fun h0 => ?_)
            have hr1 : rd t 21 r = 1 := by omega
            have hbr := hpr.2.2.2.1 hr1
            refine wp_call (sY_follows hI hv hl (t := u) (fun j i q => uj j i (by omega)) hz hr hs (fun hf => ?_) (fun hf => ?_))
            · refine wp_e1 ?_
              refine wp_stb s1 (by omega) (by omega) ?_
              have hfl := fw_lt hI hv ((ly_cov hl).1 r hr) hf
              obtain ⟨p1, p2, p3, p4, p5⟩ := up
              have pb : (rd u 21 s = 0 ∧ rd u 19 s = -1 ∧ rd u 20 s = 1000000) ∨ (rd u 21 s = 1 ∧ 0 ≤ rd u 19 s ∧ rd u 19 s ≤ lv y v (pY z s) (qY z s) ∧ 1 ≤ rd u 20 s ∧ rd u 20 s ≤ s + 1) := by
                rcases p1 with q | q
                · exact Or.inl ⟨q, p5 q⟩
                · exact Or.inr ⟨q, p4 q⟩
              refine wp_ld s1 (by omega) ?_
              rw [rd_wr_j (by decide)]
              refine wp_ld r1 (by omega) ?_
              rw [rd_wr_j (by decide), er19]
              refine wp_max (by omega) (by omega) (by omega) (by omega) (fun nb hnb => ?_)
              refine wp_st s1 (by omega) ?_
              refine wp_ld s1 (by omega) ?_
              rw [rd_wr_j (by decide), rd_wr_j (by decide)]
              refine wp_ld r1 (by omega) ?_
              rw [rd_wr_j (by decide), rd_wr_j (by decide), er20]
              refine wp_min (by omega) (by omega) (by omega) (by omega) (fun nc hnc => ?_)
              refine wp_st s1 (by omega) ?_
              obtain ⟨u', eu⟩ : ∃ u', u' = wr (wr (wr u 21 s 1) 19 s nb) 20 s nc := ⟨_, rfl⟩
              rw [← eu]
              have e21 : rd u' 21 s = 1 := by rw [eu, rd_wr_j (by decide), rd_wr_j (by decide), rd_wr_eq]
              have e19 : rd u' 19 s = nb := by rw [eu, rd_wr_j (by decide), rd_wr_eq]
              have e20 : rd u' 20 s = nc := by rw [eu, rd_wr_eq]
              have eo : ∀ (j : Nat) (i : Int), 19 ≤ j → j ≤ 21 → 0 ≤ i → i < s → rd u' j i = rd u j i := by
                intro j i q1 q2 q3 q4
                have : j = 19 ∨ j = 20 ∨ j = 21 := by omega
                rw [eu]
                rcases this with q | q | q <;> subst q
                · rw [rd_wr_j (by decide), rd_wr_ne s1 q3 (by omega), rd_wr_j (by decide)]
                · rw [rd_wr_ne s1 q3 (by omega), rd_wr_j (by decide), rd_wr_j (by decide)]
                · rw [rd_wr_j (by decide), rd_wr_j (by decide), rd_wr_ne s1 q3 (by omega)]
              refine wp_let (ih2 (r + 1) u' ⟨⟨by omega, by omega⟩, fun k => by rw [eu]; exact u1 k, fun j i q => ?_, fun j i q1 q2 q3 q4 => (eo j i q1 q2 q3 q4).trans (uo j i q1 q2 q3 q4), ?_⟩ (by omega))
              · rw [eu, rd_wr_j (by omega), rd_wr_j (by omega), rd_wr_j (by omega)]; exact uj j i q
              · rw [e21, e19, e20]
                have v21 := eo 21 r (by omega) (by omega) r1 hd
                have v19 := eo 19 r (by omega) (by omega) r1 hd
                have v20 := eo 20 r (by omega) (by omega) r1 hd
                refine ⟨Or.inr rfl, fun hs1 => ?_, fun hn => Or.inr ⟨rfl, ?_, fun j c1 c2 c3 c4 => ?_, ?_, fun j c1 c2 c3 c4 => ?_⟩, fun _ => ?_, fun q => absurd q (by decide)⟩
                · have := p2 hs1
                  omega
                · rcases p3 hn with ⟨b1, b2, b3, b4⟩ | ⟨b1, ⟨j, d1, d2, d3, d4, d5⟩, b3, b4, b5⟩
                  · exact ⟨r, r1, by omega, hf, by omega, by omega⟩
                  · by_cases hlt : rd u 19 s < rd t 19 r
                    · exact ⟨r, r1, by omega, hf, by omega, by omega⟩
                    · exact ⟨j, d1, by omega, d3, by rw [eo 21 j (by omega) (by omega) d1 (by omega)]; exact d4, by rw [eo 19 j (by omega) (by omega) d1 (by omega)]; omega⟩
                · rw [eo 21 j (by omega) (by omega) c1 (by omega)] at c4
                  rw [eo 19 j (by omega) (by omega) c1 (by omega)]
                  by_cases hj : j = r
                  · subst hj; omega
                  · rcases p3 hn with ⟨b1, b2, b3, b4⟩ | ⟨b1, b2, b3, b4, b5⟩
                    · have := b4 j c1 (by omega) c3
                      omega
                    · have := b3 j c1 (by omega) c3 c4
                      omega
                · rcases p3 hn with ⟨b1, b2, b3, b4⟩ | ⟨b1, b2, b3, ⟨j, d1, d2, d3, d4, d5⟩, b5⟩
                  · exact ⟨r, r1, by omega, hf, by omega, by omega⟩
                  · by_cases hlt : rd t 20 r + 1 < rd u 20 s
                    · exact ⟨r, r1, by omega, hf, by omega, by omega⟩
                    · exact ⟨j, d1, by omega, d3, by rw [eo 21 j (by omega) (by omega) d1 (by omega)]; exact d4, by rw [eo 20 j (by omega) (by omega) d1 (by omega)]; omega⟩
                · rw [eo 21 j (by omega) (by omega) c1 (by omega)] at c4
                  rw [eo 20 j (by omega) (by omega) c1 (by omega)]
                  by_cases hj : j = r
                  · subst hj; omega
                  · rcases p3 hn with ⟨b1, b2, b3, b4⟩ | ⟨b1, b2, b3, b4, b5⟩
                    · have := b4 j c1 (by omega) c3
                      omega
                    · have := b5 j c1 (by omega) c3 c4
                      omega
                · omega
            · refine wp_e0 ?_
              exact skip (Or.inr hf)
        · rw [rd_wr_j (by omega), rd_wr_j (by omega), rd_wr_j (by omega)]; exact tj j i q
        · have : j = 19 ∨ j = 20 ∨ j = 21 := by omega
          rcases this with q | q | q <;> subst q
          · rw [rd_wr_j (by decide), rd_wr_ne s1 q3 (by omega), rd_wr_j (by decide)]
          · rw [rd_wr_ne s1 q3 (by omega), rd_wr_j (by decide), rd_wr_j (by decide)]
          · rw [rd_wr_j (by decide), rd_wr_j (by decide), rd_wr_ne s1 q3 (by omega)]
        · have q21 : rd (wr (wr (wr t 21 s f) 19 s b) 20 s c) 21 s = f := by rw [rd_wr_j (by decide), rd_wr_j (by decide), rd_wr_eq]
          have q19 : rd (wr (wr (wr t 21 s f) 19 s b) 20 s c) 19 s = b := by rw [rd_wr_j (by decide), rd_wr_eq]
          have q20 : rd (wr (wr (wr t 21 s f) 19 s b) 20 s c) 20 s = c := rd_wr_eq
          rw [q21, q19, q20]
          refine ⟨hf, fun hs1 => ?_, fun hn => Or.inl ?_, fun hf1 => ?_, hb0⟩
          · have := hst.mpr hs1
            exact ⟨this, hb1 this⟩
          · have hf0 : f = 0 := by
              rcases hf with q | q
              · exact q
              · exact absurd (hst.mp q) hn
            exact ⟨hf0, (hb0 hf0).1, (hb0 hf0).2, fun j c1 c2 => absurd c2 (by omega)⟩
          · have := hb1 hf1
            omega
      rcases hf with q | q
      · rw [q]
        refine wp_e0 ?_
        refine wp_st s1 (by omega) ?_
        refine wp_ld s1 (by omega) ?_
        rw [rd_wr_j (by decide), rd_wr_eq]
        refine wp_jp ?_
        refine wp_e0 ?_
        have := rest (-1) 1000000 (fun _ => ⟨rfl, rfl⟩) (fun h => absurd h (by omega))
        rw [q] at this
        exact this
      · rw [q]
        refine wp_e1 ?_
        refine wp_ld s1 (by omega) ?_
        rw [rd_wr_j (by decide), e17]
        refine wp_st s1 (by omega) ?_
        refine wp_ld s1 (by omega) ?_
        rw [rd_wr_j (by decide), rd_wr_eq]
        refine wp_jp ?_
        refine wp_e1 ?_
        have := rest (lv y v (pY z s) (qY z s)) 1 (fun h => absurd h (by omega)) (fun _ => ⟨rfl, rfl⟩)
        rw [q] at this
        exact this
    refine wp_jp ?_
    refine wp_eq (by omega) (by omega) ga.1 ga.2 (fun k1 => ?_) (fun k1 => main 0 (Or.inl rfl) ⟨fun q => absurd q (by decide), fun q => absurd q.1 k1⟩)
    refine wp_ld s1 (by omega) ?_
    rw [e17]
    refine wp_lt (by omega) (by omega) gt.1 gt.2 (fun k2 => main 0 (Or.inl rfl) ⟨fun q => absurd q (by decide), fun q => absurd q.2 (by omega)⟩) (fun k2 => main 1 (Or.inr rfl) ⟨fun _ => ⟨k1, k2⟩, fun _ => rfl⟩)
