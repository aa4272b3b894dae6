section L2
variable {P : Int → XS → Prop} {x y : XS} {a b k l t n q : Int}
theorem sY_line (hI : Inv x y) (ga : rg a) (gb : rg b) (gk : rg k) (gl : rg l) (gt : rg t) (gn : rg n) (gq : rg q)
    (h1 : (a < 0 ∨ y.1 2 ≤ a ∨ b < 0 ∨ y.1 2 ≤ b ∨ a = b) → P (-1) (xpS (y00 y) 0 1))
    (h2 : (0 ≤ a ∧ a < y.1 2 ∧ 0 ≤ b ∧ b < y.1 2 ∧ a ≠ b) → ¬ ((0 ≤ k ∧ k ≤ 2) ∧ (0 ≤ l ∧ l ≤ 5000) ∧ (1 ≤ t ∧ t ≤ 500) ∧ (k = 0 ∨ (2 ≤ n ∧ n ≤ 60)) ∧ (k = 1 → (1 ≤ q ∧ q ≤ 500))) → P (-1) (xpS (y00 y) 0 2))
    (h3 : (0 ≤ a ∧ a < y.1 2 ∧ 0 ≤ b ∧ b < y.1 2 ∧ a ≠ b) → ((0 ≤ k ∧ k ≤ 2) ∧ (0 ≤ l ∧ l ≤ 5000) ∧ (1 ≤ t ∧ t ≤ 500) ∧ (k = 0 ∨ (2 ≤ n ∧ n ≤ 60)) ∧ (k = 1 → (1 ≤ q ∧ q ≤ 500))) → (y.1 3 = 100 ∨ 1200 < y.1 4 + (if k = 0 then 1 else n) ∨ y.1 5 = 400) → P (-1) (xpS (y00 y) 0 3))
    (h0 : (0 ≤ a ∧ a < y.1 2 ∧ 0 ≤ b ∧ b < y.1 2 ∧ a ≠ b) → ((0 ≤ k ∧ k ≤ 2) ∧ (0 ≤ l ∧ l ≤ 5000) ∧ (1 ≤ t ∧ t ≤ 500) ∧ (k = 0 ∨ (2 ≤ n ∧ n ≤ 60)) ∧ (k = 1 → (1 ≤ q ∧ q ≤ 500))) → ¬ (y.1 3 = 100 ∨ 1200 < y.1 4 + (if k = 0 then 1 else n) ∨ y.1 5 = 400) → P (y.1 3) (xpS (xpS (ylog (yadd (y00 y) a b k l t (if k = 0 then 1 else n) (if k = 1 then q else 0)) 0 (y.1 3) 0 0) 3 (y.1 3 + 1)) 4 (y.1 4 + (if k = 0 then 1 else n)))) : wp (f_X7_line y a b k l t n q) P := by
  obtain ⟨a1, a2, a3, a4, a5, a6, a7⟩ := hI.2.1
  obtain ⟨b1, b2, b3, b4, b5, b6, b7, b8, b9⟩ := hI.2.2.1
  have c1 := hI.1.1
  have c2 := hI.1.2.1
  have e2 := y00_2 y
  have e3 := y00_3 y
  have e4 := y00_4 y
  have e5 := y00_5 y
  have h4 : 0 ≤ y.1 4 := by
    have : ∀ m : Nat, (m : Int) ≤ y.1 3 → 0 ≤ bs y m := by
      intro m
      induction m with
      | zero => intro _; exact Int.le_refl _
      | succ m ih =>
        intro hm
        have e : bs y (m + 1) = bs y m + rd y 7 (m : Int) := rfl
        have := ih (by omega)
        have := inv_times hI (l := (m : Int)) (by omega) (by omega)
        rw [e]
        omega
    rw [a5]; exact this _ (by omega)
  refine wp_y00 ?_
  have no1 : (a < 0 ∨ y.1 2 ≤ a ∨ b < 0 ∨ y.1 2 ≤ b ∨ a = b) → wp (x_call (f_X7_refuse (y00 y) 1) (fun r7 x8 => some (r7, x8))) P := fun h => wp_call (sY_refuse (wp_ret (h1 h)))
  refine wp_call (sY_isNode ga (x := y00 y) ⟨c1, c2⟩ (fun n1 n2 => ?_) (fun n1 => ?_))
  · refine wp_jp ?_
    refine wp_e1 ?_
    refine wp_call (sY_isNode gb (x := y00 y) ⟨c1, c2⟩ (fun n3 n4 => ?_) (fun n3 => ?_))
    · refine wp_e1 ?_
      refine wp_eq (by omega) (by omega) (by omega) (by omega) (fun hab => ?_) (fun hab => ?_)
      · exact no1 (by omega)
      refine wp_jp ?_
      have no2 : ¬ ((0 ≤ k ∧ k ≤ 2) ∧ (0 ≤ l ∧ l ≤ 5000) ∧ (1 ≤ t ∧ t ≤ 500) ∧ (k = 0 ∨ (2 ≤ n ∧ n ≤ 60)) ∧ (k = 1 → (1 ≤ q ∧ q ≤ 500))) → wp (x_call (f_X7_refuse (y00 y) 2) (fun r7 x8 => some (r7, x8))) P := fun h => wp_call (sY_refuse (wp_ret (h2 (by omega) h)))
      refine wp_lt gk.1 gk.2 (by omega) (by omega) (fun h => no2 (by omega)) (fun k1 => ?_)
      refine wp_lt (by omega) (by omega) gk.1 gk.2 (fun h => no2 (by omega)) (fun k2 => ?_)
      refine wp_call (sY_isTick gl (fun l1 l2 => ?_) (fun l1 => ?_))
      · refine wp_e1 ?_
        refine wp_lt gt.1 gt.2 (by omega) (by omega) (fun h => no2 (by omega)) (fun t1 => ?_)
        refine wp_le gt.1 gt.2 (by omega) (by omega) (fun t2 => ?_) (fun h => no2 (by omega))
        refine wp_jp ?_
        refine wp_jp ?_
        have hrest : (k = 0 ∨ (2 ≤ n ∧ n ≤ 60)) → (k = 1 → (1 ≤ q ∧ q ≤ 500)) → ∀ its : Int, its = (if k = 0 then 1 else n) → wp (x_jp (fun (x29 : XS) => x_call (f_X7_refuse x29 3) (fun r30 x31 => some (r30, x31))) (fun jp28 => x_eq ((y00 y).1 3) 100 (jp28 (y00 y)) (x_lt 1200 (((y00 y).1 4) + its) (jp28 (y00 y)) (x_eq ((y00 y).1 5) 400 (jp28 (y00 y)) (x_st (y00 y) 2 100 ((y00 y).1 3) a (fun x32 => x_st x32 3 100 (x32.1 3) b (fun x33 => x_st x33 4 100 (x33.1 3) k (fun x34 => x_st x34 5 100 (x34.1 3) l (fun x35 => x_st x35 6 100 (x35.1 3) t (fun x36 => x_st x36 7 100 (x36.1 3) its (fun x37 => x_jp (fun (v39 : Int) (x40 : XS) => x_st x40 8 100 (x37.1 3) v39 (fun x41 => x_call (f_X7_logs x41 0 (x41.1 3) 0 0) (fun _ x43 => x_let (xpS x43 3 ((x43.1 3) + 1)) (fun x44 => x_let (xpS x44 4 ((x44.1 4) + its)) (fun x45 => some (((x45.1 3) - 1), x45)))))) (fun jp38 => x_eq k 1 (jp38 q x37) (jp38 0 x37))))))))))))) P := by
          intro hn hq its hits
          have its1 : 1 ≤ its ∧ its ≤ 60 := by
            rw [hits]
            split <;> omega
          rw [← hits] at h3 h0
          have h3 := h3 (by omega) (by omega)
          have h0 := h0 (by omega) (by omega)
          have no3 : (y.1 3 = 100 ∨ 1200 < y.1 4 + its ∨ y.1 5 = 400) → wp (x_call (f_X7_refuse (y00 y) 3) (fun r7 x8 => some (r7, x8))) P := fun h => wp_call (sY_refuse (wp_ret (h3 h)))
          refine wp_jp ?_
          refine wp_eq (by omega) (by omega) (by omega) (by omega) (fun h => no3 (by omega)) (fun f1 => ?_)
          refine wp_lt (by omega) (by omega) (by omega) (by omega) (fun h => no3 (by omega)) (fun f2 => ?_)
          refine wp_eq (by omega) (by omega) (by omega) (by omega) (fun h => no3 (by omega)) (fun f3 => ?_)
          refine wp_st (by omega) (by omega) ?_
          refine wp_st (by simp (disch := omega) only [rd_wr_eq, rd_wr_ne, rd_wr_j, rd_ps, wr_1, ps_eq, ps_ne]; omega) (by simp (disch := omega) only [rd_wr_eq, rd_wr_ne, rd_wr_j, rd_ps, wr_1, ps_eq, ps_ne]; omega) ?_
          refine wp_st (by simp (disch := omega) only [rd_wr_eq, rd_wr_ne, rd_wr_j, rd_ps, wr_1, ps_eq, ps_ne]; omega) (by simp (disch := omega) only [rd_wr_eq, rd_wr_ne, rd_wr_j, rd_ps, wr_1, ps_eq, ps_ne]; omega) ?_
          refine wp_st (by simp (disch := omega) only [rd_wr_eq, rd_wr_ne, rd_wr_j, rd_ps, wr_1, ps_eq, ps_ne]; omega) (by simp (disch := omega) only [rd_wr_eq, rd_wr_ne, rd_wr_j, rd_ps, wr_1, ps_eq, ps_ne]; omega) ?_
          refine wp_st (by simp (disch := omega) only [rd_wr_eq, rd_wr_ne, rd_wr_j, rd_ps, wr_1, ps_eq, ps_ne]; omega) (by simp (disch := omega) only [rd_wr_eq, rd_wr_ne, rd_wr_j, rd_ps, wr_1, ps_eq, ps_ne]; omega) ?_
          refine wp_st (by simp (disch := omega) only [rd_wr_eq, rd_wr_ne, rd_wr_j, rd_ps, wr_1, ps_eq, ps_ne]; omega) (by simp (disch := omega) only [rd_wr_eq, rd_wr_ne, rd_wr_j, rd_ps, wr_1, ps_eq, ps_ne]; omega) ?_
          refine wp_jp ?_
          have last : ∀ g : Int, g = (if k = 1 then q else 0) → wp (x_st (wr (wr (wr (wr (wr (wr (y00 y) 2 (y.1 3) a) 3 (y.1 3) b) 4 (y.1 3) k) 5 (y.1 3) l) 6 (y.1 3) t) 7 (y.1 3) its) 8 100 (y.1 3) g (fun x41 => x_call (f_X7_logs x41 0 (x41.1 3) 0 0) (fun _ x43 => x_let (xpS x43 3 ((x43.1 3) + 1)) (fun x44 => x_let (xpS x44 4 ((x44.1 4) + its)) (fun x45 => some (((x45.1 3) - 1), x45)))))) P := by
            intro g hg
            rw [← hg] at h0
            refine wp_st (by omega) (by omega) ?_
            refine wp_call (sY_logs (by simp (disch := omega) only [rd_wr_eq, rd_wr_ne, rd_wr_j, rd_ps, wr_1, ps_eq, ps_ne]; omega) (by simp (disch := omega) only [rd_wr_eq, rd_wr_ne, rd_wr_j, rd_ps, wr_1, ps_eq, ps_ne]; omega) (wp_let (wp_let (wp_ret ?_))))
            have := h0 (by omega)
            have e : (y.1 3 + 1) - 1 = y.1 3 := by omega
            show P ((y.1 3 + 1) - 1) (xpS (xpS (ylog (yadd (y00 y) a b k l t its g) 0 (y.1 3) 0 0) 3 (y.1 3 + 1)) 4 (y.1 4 + its))
            rw [e]
            exact this
          refine wp_eq gk.1 gk.2 (by omega) (by omega) (fun h => last q (by rw [if_pos h])) (fun h => last 0 (by rw [if_neg h]))
        have hper : (k = 0 ∨ (2 ≤ n ∧ n ≤ 60)) → wp (x_jp (fun (x24 : XS) => x_jp (fun (v26 : Int) (x27 : XS) => x_jp (fun (x29 : XS) => x_call (f_X7_refuse x29 3) (fun r30 x31 => some (r30, x31))) (fun jp28 => x_eq (x27.1 3) 100 (jp28 x27) (x_lt 1200 ((x27.1 4) + v26) (jp28 x27) (x_eq (x27.1 5) 400 (jp28 x27) (x_st x27 2 100 (x27.1 3) a (fun x32 => x_st x32 3 100 (x32.1 3) b (fun x33 => x_st x33 4 100 (x33.1 3) k (fun x34 => x_st x34 5 100 (x34.1 3) l (fun x35 => x_st x35 6 100 (x35.1 3) t (fun x36 => x_st x36 7 100 (x36.1 3) v26 (fun x37 => x_jp (fun (v39 : Int) (x40 : XS) => x_st x40 8 100 (x37.1 3) v39 (fun x41 => x_call (f_X7_logs x41 0 (x41.1 3) 0 0) (fun _ x43 => x_let (xpS x43 3 ((x43.1 3) + 1)) (fun x44 => x_let (xpS x44 4 ((x44.1 4) + v26)) (fun x45 => some (((x45.1 3) - 1), x45)))))) (fun jp38 => x_eq k 1 (jp38 q x37) (jp38 0 x37))))))))))))) (fun jp25 => x_eq k 0 (jp25 1 x24) (jp25 n x24))) (fun jp23 => x_eq k 1 (x_lt q 1 (x_call (f_X7_refuse (y00 y) 2) (fun r7 x8 => some (r7, x8))) (x_le q 500 (jp23 (y00 y)) (x_call (f_X7_refuse (y00 y) 2) (fun r7 x8 => some (r7, x8))))) (jp23 (y00 y)))) P := by
          intro hn
          refine wp_jp ?_
          have go : (k = 1 → (1 ≤ q ∧ q ≤ 500)) → wp (x_jp (fun (v26 : Int) (x27 : XS) => x_jp (fun (x29 : XS) => x_call (f_X7_refuse x29 3) (fun r30 x31 => some (r30, x31))) (fun jp28 => x_eq (x27.1 3) 100 (jp28 x27) (x_lt 1200 ((x27.1 4) + v26) (jp28 x27) (x_eq (x27.1 5) 400 (jp28 x27) (x_st x27 2 100 (x27.1 3) a (fun x32 => x_st x32 3 100 (x32.1 3) b (fun x33 => x_st x33 4 100 (x33.1 3) k (fun x34 => x_st x34 5 100 (x34.1 3) l (fun x35 => x_st x35 6 100 (x35.1 3) t (fun x36 => x_st x36 7 100 (x36.1 3) v26 (fun x37 => x_jp (fun (v39 : Int) (x40 : XS) => x_st x40 8 100 (x37.1 3) v39 (fun x41 => x_call (f_X7_logs x41 0 (x41.1 3) 0 0) (fun _ x43 => x_let (xpS x43 3 ((x43.1 3) + 1)) (fun x44 => x_let (xpS x44 4 ((x44.1 4) + v26)) (fun x45 => some (((x45.1 3) - 1), x45)))))) (fun jp38 => x_eq k 1 (jp38 q x37) (jp38 0 x37))))))))))))) (fun jp25 => x_eq k 0 (jp25 1 (y00 y)) (jp25 n (y00 y)))) P := by
            intro hq
            refine wp_jp ?_
            exact wp_eq gk.1 gk.2 (by omega) (by omega) (fun h => hrest hn hq 1 (by rw [if_pos h])) (fun h => hrest hn hq n (by rw [if_neg h]))
          refine wp_eq gk.1 gk.2 (by omega) (by omega) (fun h => ?_) (fun h => go (fun h' => absurd h' h))
          refine wp_lt gq.1 gq.2 (by omega) (by omega) (fun h => no2 (by omega)) (fun q1 => ?_)
          exact wp_le gq.1 gq.2 (by omega) (by omega) (fun q2 => go (fun _ => ⟨q1, q2⟩)) (fun h => no2 (by omega))
        refine wp_jp ?_
        refine wp_le gk.1 gk.2 (by omega) (by omega) (fun h => hper (by omega)) (fun h => ?_)
        refine wp_lt gn.1 gn.2 (by omega) (by omega) (fun h => no2 (by omega)) (fun m1 => ?_)
        exact wp_lt (by omega) (by omega) gn.1 gn.2 (fun h => no2 (by omega)) (fun m2 => hper (by omega))
      · refine wp_e0 ?_
        exact no2 (by omega)
    · refine wp_e0 ?_
      exact no1 (by omega)
  · refine wp_jp ?_
    refine wp_e0 ?_
    exact no1 (by omega)
end L2
theorem ok_line (a b k l t n q : Int) (ga : rg a) (gb : rg b) (gk : rg k) (gl : rg l) (gt : rg t) (gn : rg n) (gq : rg q) : stepOK Inv (fun x => f_X6_line x a b k l t n q) (fun y => f_X7_line y a b k l t n q) := by
  refine stepOK_of (fun x y hI => ?_)
  obtain ⟨a1, a2, a3, a4, a5, a6, a7⟩ := hI.2.1
  obtain ⟨b1, b2, b3, b4, b5, b6, b7, b8, b9⟩ := hI.2.2.1
  have c1 := hI.1.1
  have c2 := hI.1.2.1
  have c3 := hI.1.2.2.1
  have h4 : 0 ≤ y.1 4 := by
    have : ∀ m : Nat, (m : Int) ≤ y.1 3 → 0 ≤ bs y m := by
      intro m
      induction m with
      | zero => intro _; exact Int.le_refl _
      | succ m ih =>
        intro hm
        have e : bs y (m + 1) = bs y m + rd y 7 (m : Int) := rfl
        have := ih (by omega)
        have := inv_times hI (l := (m : Int)) (by omega) (by omega)
        rw [e]
        omega
    rw [a5]; exact this _ (by omega)
  refine wp_call (sX_areEnds ga gb (by omega) (fun n1 n2 n3 n4 hab => ?_) (fun n1 => ?_))
  · refine wp_e1 ?_
    have no2 : ¬ ((0 ≤ k ∧ k ≤ 2) ∧ (0 ≤ l ∧ l ≤ 5000) ∧ (1 ≤ t ∧ t ≤ 500) ∧ (k = 0 ∨ (2 ≤ n ∧ n ≤ 60)) ∧ (k = 1 → (1 ≤ q ∧ q ≤ 500))) → wp (x_call (f_X6_refuse x 2) (fun r7 x8 => some (r7, x8))) (fun r x' => wp (f_X7_line y a b k l t n q) (fun r' y' => r = r' ∧ Inv x' y')) := by
      intro h
      refine wp_call (sX_refuse (wp_ret ?_))
      exact sY_line hI ga gb gk gl gt gn gq (fun h' => absurd h' (by omega)) (fun _ _ => ⟨rfl, Inv_no hI 2 (by decide) (by decide)⟩) (fun _ h' => absurd h' h) (fun _ h' => absurd h' h)
    refine wp_call (sX_isBetween gl (rg_lit (by omega) (by omega)) (rg_lit (by omega) (by omega)) (fun l1 l2 => ?_) (fun l1 => ?_))
    · refine wp_jp ?_
      refine wp_e1 ?_
      refine wp_call (sX_isBetween gt (rg_lit (by omega) (by omega)) (rg_lit (by omega) (by omega)) (fun t1 t2 => ?_) (fun t1 => ?_))
      · refine wp_e1 ?_
        refine wp_call (sX_isPlan gk gn gq (fun k1 => ?_) (fun k1 => ?_))
        · refine wp_e1 ?_
          refine wp_jp ?_
          have hrest : ∀ its : Int, its = (if k = 0 then 1 else n) → wp (x_jp (fun (x17 : XS) => x_call (f_X6_refuse x17 3) (fun r18 x19 => some (r18, x19))) (fun jp16 => x_le 100 (x.1 3) (jp16 x) (x_lt 1200 ((x.1 4) + its) (jp16 x) (x_call (f_X1_isFull x) (fun r20 x21 => x_eq r20 0 (x_jp (fun (v23 : Int) (x24 : XS) => x_call (f_X0_add x24 a b k l t its v23) (fun r25 x26 => x_call (f_X1_add x26 0 r25 0 0) (fun _ x28 => x_call (f_X6_answer x28 r25) (fun r29 x30 => some (r29, x30))))) (fun jp22 => x_eq k 1 (jp22 q x21) (jp22 0 x21))) (jp16 x21)))))) (fun r x' => wp (f_X7_line y a b k l t n q) (fun r' y' => r = r' ∧ Inv x' y')) := by
            intro its hits
            have its1 : 1 ≤ its ∧ its ≤ 60 ∧ (k = 0 → its = 1) := by
              rw [hits]
              split <;> omega
            refine wp_jp ?_
            have no3 : (y.1 3 = 100 ∨ 1200 < y.1 4 + its ∨ y.1 5 = 400) → wp (x_call (f_X6_refuse x 3) (fun r7 x8 => some (r7, x8))) (fun r x' => wp (f_X7_line y a b k l t n q) (fun r' y' => r = r' ∧ Inv x' y')) := by
              intro h
              rw [hits] at h
              refine wp_call (sX_refuse (wp_ret ?_))
              exact sY_line hI ga gb gk gl gt gn gq (fun h' => absurd h' (by omega)) (fun _ h' => absurd (by omega) h') (fun _ _ _ => ⟨rfl, Inv_no hI 3 (by decide) (by decide)⟩) (fun _ _ h' => absurd h h')
            refine wp_le (by omega) (by omega) (by omega) (by omega) (fun h => no3 (by omega)) (fun f1 => ?_)
            refine wp_lt (by omega) (by omega) (by omega) (by omega) (fun h => no3 (by omega)) (fun f2 => ?_)
            refine wp_call (sX_isFull (by omega) (fun h => ?_) (fun f3 => ?_))
            · refine wp_e1 ?_
              exact no3 (by omega)
            · refine wp_e0 ?_
              refine wp_jp ?_
              have last : ∀ g : Int, g = (if k = 1 then q else 0) → wp (x_call (f_X0_add x a b k l t its g) (fun r25 x26 => x_call (f_X1_add x26 0 r25 0 0) (fun _ x28 => x_call (f_X6_answer x28 r25) (fun r29 x30 => some (r29, x30))))) (fun r x' => wp (f_X7_line y a b k l t n q) (fun r' y' => r = r' ∧ Inv x' y')) := by
                intro g hg
                have hg1 : 0 ≤ g ∧ g ≤ 500 := by
                  rw [hg]
                  split <;> omega
                refine wp_call (sX_linadd (by omega) (by omega) ?_)
                refine wp_call (sX_logadd (rg_lit (by omega) (by omega)) (by rw [xa_ne (by decide) (by decide)]; omega) (by rw [xa_ne (by decide) (by decide)]; omega) ?_)
                rw [if_neg (by decide)]
                refine wp_call (sX_answer (wp_ret ?_))
                refine sY_line hI ga gb gk gl gt gn gq (fun h' => absurd h' (by omega)) (fun _ h' => absurd (by omega) h') (fun _ _ h' => absurd h' (by rw [← hits]; omega)) (fun _ _ _ => ⟨a3, ?_⟩)
                rw [← hits, ← hg]
                exact inv_line hI (by omega) (by omega) (by omega) (by omega) (by omega) (by omega) (by omega) (by omega) (by omega) (by omega) (by omega) _ _ rfl rfl
              exact wp_eq gk.1 gk.2 (by omega) (by omega) (fun h => last q (by rw [if_pos h])) (fun h => last 0 (by rw [if_neg h]))
          exact wp_eq gk.1 gk.2 (by omega) (by omega) (fun h => hrest 1 (by rw [if_pos h])) (fun h => hrest n (by rw [if_neg h]))
        · refine wp_e0 ?_
          exact no2 (by omega)
      · refine wp_e0 ?_
        exact no2 (by omega)
    · refine wp_jp ?_
      refine wp_e0 ?_
      exact no2 (by omega)
  · refine wp_e0 ?_
    refine wp_call (sX_refuse (wp_ret ?_))
    exact sY_line hI ga gb gk gl gt gn gq (fun _ => ⟨rfl, Inv_no hI 1 (by decide) (by decide)⟩) (fun h' => absurd h' (by omega)) (fun h' => absurd h' (by omega)) (fun h' => absurd h' (by omega))
