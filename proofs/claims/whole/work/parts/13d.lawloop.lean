def LawOK (Inv : XS → XS → Prop) : Prop :=
  (stepOK Inv (fun x => f_X6_status x) (fun y => f_X7_status y)) ∧
  (∀ (w1 w2 : Int), rg w1 → rg w2 → stepOK Inv (fun x => f_X6_node x w1 w2) (fun y => f_X7_node y w1 w2)) ∧
  (∀ (w1 w2 w3 : Int), rg w1 → rg w2 → rg w3 → stepOK Inv (fun x => f_X6_waits x w1 w2 w3) (fun y => f_X7_waits y w1 w2 w3)) ∧
  (∀ (w1 w2 w3 w4 w5 w6 w7 : Int), rg w1 → rg w2 → rg w3 → rg w4 → rg w5 → rg w6 → rg w7 → stepOK Inv (fun x => f_X6_line x w1 w2 w3 w4 w5 w6 w7) (fun y => f_X7_line y w1 w2 w3 w4 w5 w6 w7)) ∧
  (∀ (w1 : Int), rg w1 → stepOK Inv (fun x => f_X6_strike x w1) (fun y => f_X7_strike y w1)) ∧
  (∀ (w1 w2 w3 : Int), rg w1 → rg w2 → rg w3 → stepOK Inv (fun x => f_X6_delay x w1 w2 w3) (fun y => f_X7_delay y w1 w2 w3)) ∧
  (∀ (w1 w2 w3 : Int), rg w1 → rg w2 → rg w3 → stepOK Inv (fun x => f_X6_close x w1 w2 w3) (fun y => f_X7_close y w1 w2 w3)) ∧
  (stepOK Inv (fun x => f_X6_changes x) (fun y => f_X7_changes y)) ∧
  (stepOK Inv (fun x => f_X6_undo x) (fun y => f_X7_undo y)) ∧
  (∀ (w1 w2 : Int), rg w1 → rg w2 → stepOK Inv (fun x => f_X6_told x w1 w2) (fun y => f_X7_told y w1 w2)) ∧
  (∀ (w1 w2 w3 w4 : Int), rg w1 → rg w2 → rg w3 → rg w4 → stepOK Inv (fun x => f_X6_run x w1 w2 w3 w4) (fun y => f_X7_run y w1 w2 w3 w4)) ∧
  (∀ (w1 w2 w3 w4 : Int), rg w1 → rg w2 → rg w3 → rg w4 → stepOK Inv (fun x => f_X6_first x w1 w2 w3 w4) (fun y => f_X7_first y w1 w2 w3 w4)) ∧
  (∀ (w1 w2 w3 w4 : Int), rg w1 → rg w2 → rg w3 → rg w4 → stepOK Inv (fun x => f_X6_last x w1 w2 w3 w4) (fun y => f_X7_last y w1 w2 w3 w4)) ∧
  (∀ (w1 w2 w3 w4 w5 : Int), rg w1 → rg w2 → rg w3 → rg w4 → rg w5 → stepOK Inv (fun x => f_X6_quickest x w1 w2 w3 w4 w5) (fun y => f_X7_quickest y w1 w2 w3 w4 w5)) ∧
  (∀ (w1 w2 w3 w4 w5 : Int), rg w1 → rg w2 → rg w3 → rg w4 → rg w5 → stepOK Inv (fun x => f_X6_fewest x w1 w2 w3 w4 w5) (fun y => f_X7_fewest y w1 w2 w3 w4 w5)) ∧
  (∀ (w1 w2 w3 w4 : Int), rg w1 → rg w2 → rg w3 → rg w4 → stepOK Inv (fun x => f_X6_way x w1 w2 w3 w4) (fun y => f_X7_way y w1 w2 w3 w4)) ∧
  (∀ (w1 : Int), rg w1 → stepOK Inv (fun x => f_X6_out x w1) (fun y => f_X7_out y w1)) ∧
  (∀ (w1 w2 w3 : Int), rg w1 → rg w2 → rg w3 → stepOK Inv (fun x => f_X6_pairs x w1 w2 w3) (fun y => f_X7_pairs y w1 w2 w3)) ∧
  (∀ (w1 w2 w3 w4 w5 : Int), rg w1 → rg w2 → rg w3 → rg w4 → (w5 = 0 ∨ w5 = 1) → stepOK Inv (fun x => f_X6_pair x w1 w2 w3 w4 w5) (fun y => f_X7_pair y w1 w2 w3 w4 w5)) ∧
  (∀ (w1 w2 w3 w4 : Int), rg w1 → rg w2 → rg w3 → rg w4 → stepOK Inv (fun x => f_X6_reached x w1 w2 w3 w4) (fun y => f_X7_reached y w1 w2 w3 w4)) ∧
  (∀ (w1 w2 w3 w4 w5 : Int), rg w1 → rg w2 → rg w3 → rg w4 → rg w5 → stepOK Inv (fun x => f_X6_isReached x w1 w2 w3 w4 w5) (fun y => f_X7_isReached y w1 w2 w3 w4 w5)) ∧
  (∀ (w1 w2 w3 w4 : Int), rg w1 → rg w2 → rg w3 → rg w4 → stepOK Inv (fun x => f_X6_without x w1 w2 w3 w4) (fun y => f_X7_without y w1 w2 w3 w4)) ∧
  (∀ (w1 w2 w3 : Int), rg w1 → rg w2 → rg w3 → stepOK Inv (fun x => f_X6_weakest x w1 w2 w3) (fun y => f_X7_weakest y w1 w2 w3)) ∧
  (∀ (w1 : Int), rg w1 → stepOK Inv (fun x => f_X6_stand x w1) (fun y => f_X7_stand y w1))
theorem x_out24 {x : Int32} (h0 : ¬ x = 0) (h1 : ¬ x = 1) (h2 : ¬ x = 2) (h3 : ¬ x = 3) (h4 : ¬ x = 4) (h5 : ¬ x = 5) (h6 : ¬ x = 6) (h7 : ¬ x = 7) (h8 : ¬ x = 8) (h9 : ¬ x = 9) (h10 : ¬ x = 10) (h11 : ¬ x = 11) (h12 : ¬ x = 12) (h13 : ¬ x = 13) (h14 : ¬ x = 14) (h15 : ¬ x = 15) (h16 : ¬ x = 16) (h17 : ¬ x = 17) (h18 : ¬ x = 18) (h19 : ¬ x = 19) (h20 : ¬ x = 20) (h21 : ¬ x = 21) (h22 : ¬ x = 22) (h23 : ¬ x = 23) : x.toInt < 0 ∨ (23 : Int) < x.toInt := by
  have g0 : ¬ x.toInt = 0 := fun q => h0 (Int32.toInt_inj.mp (by rw [q]; rfl))
  have g1 : ¬ x.toInt = 1 := fun q => h1 (Int32.toInt_inj.mp (by rw [q]; rfl))
  have g2 : ¬ x.toInt = 2 := fun q => h2 (Int32.toInt_inj.mp (by rw [q]; rfl))
  have g3 : ¬ x.toInt = 3 := fun q => h3 (Int32.toInt_inj.mp (by rw [q]; rfl))
  have g4 : ¬ x.toInt = 4 := fun q => h4 (Int32.toInt_inj.mp (by rw [q]; rfl))
  have g5 : ¬ x.toInt = 5 := fun q => h5 (Int32.toInt_inj.mp (by rw [q]; rfl))
  have g6 : ¬ x.toInt = 6 := fun q => h6 (Int32.toInt_inj.mp (by rw [q]; rfl))
  have g7 : ¬ x.toInt = 7 := fun q => h7 (Int32.toInt_inj.mp (by rw [q]; rfl))
  have g8 : ¬ x.toInt = 8 := fun q => h8 (Int32.toInt_inj.mp (by rw [q]; rfl))
  have g9 : ¬ x.toInt = 9 := fun q => h9 (Int32.toInt_inj.mp (by rw [q]; rfl))
  have g10 : ¬ x.toInt = 10 := fun q => h10 (Int32.toInt_inj.mp (by rw [q]; rfl))
  have g11 : ¬ x.toInt = 11 := fun q => h11 (Int32.toInt_inj.mp (by rw [q]; rfl))
  have g12 : ¬ x.toInt = 12 := fun q => h12 (Int32.toInt_inj.mp (by rw [q]; rfl))
  have g13 : ¬ x.toInt = 13 := fun q => h13 (Int32.toInt_inj.mp (by rw [q]; rfl))
  have g14 : ¬ x.toInt = 14 := fun q => h14 (Int32.toInt_inj.mp (by rw [q]; rfl))
  have g15 : ¬ x.toInt = 15 := fun q => h15 (Int32.toInt_inj.mp (by rw [q]; rfl))
  have g16 : ¬ x.toInt = 16 := fun q => h16 (Int32.toInt_inj.mp (by rw [q]; rfl))
  have g17 : ¬ x.toInt = 17 := fun q => h17 (Int32.toInt_inj.mp (by rw [q]; rfl))
  have g18 : ¬ x.toInt = 18 := fun q => h18 (Int32.toInt_inj.mp (by rw [q]; rfl))
  have g19 : ¬ x.toInt = 19 := fun q => h19 (Int32.toInt_inj.mp (by rw [q]; rfl))
  have g20 : ¬ x.toInt = 20 := fun q => h20 (Int32.toInt_inj.mp (by rw [q]; rfl))
  have g21 : ¬ x.toInt = 21 := fun q => h21 (Int32.toInt_inj.mp (by rw [q]; rfl))
  have g22 : ¬ x.toInt = 22 := fun q => h22 (Int32.toInt_inj.mp (by rw [q]; rfl))
  have g23 : ¬ x.toInt = 23 := fun q => h23 (Int32.toInt_inj.mp (by rw [q]; rfl))
  omega
set_option maxHeartbeats 4000000 in
set_option maxRecDepth 100000 in
theorem law_loop {Inv : XS → XS → Prop} (hO : LawOK Inv) {D : va_G} {T : ClassId × ClassId} {a q : Nat → Nat} {A : Nat → Prop} {b L : Nat} {xs : Nat → Int32} {p : Program} {l : Launch} {e : Env} {s : State} {m : MethodId} {below : List Frame} {meth : Method} {c : Code} (K : lcx D T a q A b L xs p s m meth c) (hL : L ≤ 4096) (hr : meth.sig.returnType = ret) (hAs : ∀ q, A q → s.heap.size ≤ q) :
    ∀ (n i : Nat) (x3 : Int32), i ≤ L → L + 1 ≤ i + n → x3 = nI i → ∀ (x y : XS) (H : Heap) (locs : List Loc) (ls : Array Slot), Inv x y → lmm D T a q A s H locs x y → lv_has ls 4 [(0, .ref b), (1, .ref (a 0)), (2, .ref (q 0)), (3, .int x3)] → W p l e room_1 s m #[Value.ref b] below meth c H locs 70 41445 (lw_Z below #[Value.ref b] s) (F0 m 18 ls []) := by
  have hx := K.1.1
  have hb := K.1.2.1
  have hlocks : meth.locks = false := K.1.2.2.2.2.2.2.2.2.1
  intro n
  induction n with
  | zero =>
    intro i x3 h1 h2
    exact absurd h2 (by omega)
  | succ n ih =>
    intro i x3 hi hin e3 x y H locs ls hI M hl
    refine lv_iload_n hx hb dL_law_18 rfl (lv_at hl 3 rfl) ?_
    refine lv_aload_n hx hb dL_law_19 rfl (lv_at hl 0 rfl) ?_
    refine l_slen K M dL_law_20 ?_
    refine lv_bipush (v := 8) hx hb dL_law_21 (by decide) ?_
    refine lv_isub hx hb dL_law_23 ?_
    refine lv_icmp_gt (tgt := 1212) hx hb dL_law_24 (by decide) (fun hc => ?_) (fun hc => ?_)
    · refine lv_iconst (v := 1) hx hb dL_law_1212 (by decide) ?_
      refine va_forget (fun q hq => hAs _ (M.2.2.2.2 q hq)) ?_
      exact lw_ret hx hb hr hlocks dL_law_1213
    · have hi8 : i + 8 ≤ L := by
        have h1 : (nI L - nI 8).toInt = (L : Int) - 8 := pk_sub_toInt (by omega) (by omega)
        have h2 : (nI i).toInt = (i : Int) := nI_toInt (by omega)
        have h3 : ¬ (nI L - nI 8).toInt < (nI i).toInt := fun q => hc (by rw [e3]; exact Int32.lt_iff_toInt_lt.mpr q)
        omega
      have hgo : ∀ (x y : XS) (H : Heap) (locs : List Loc) (ls : Array Slot), Inv x y → lmm D T a q A s H locs x y → lv_has ls 4 [(0, .ref b), (1, .ref (a 0)), (2, .ref (q 0)), (3, .int x3)] → W p l e room_1 s m #[Value.ref b] below meth c H locs 70 41445 (lw_Z below #[Value.ref b] s) (F0 m 1206 ls []) := by
        intro x y H locs ls hI M hl
        obtain ⟨x4, e4⟩ : ∃ y : Int32, y = x3 + 8 := ⟨_, rfl⟩
        refine lv_iinc (v := x4) (lv' := [(3, .int x4), (0, .ref b), (1, .ref (a 0)), (2, .ref (q 0))]) hx hb dL_law_1206 hl (k := 3) rfl (by rw [e4]; rfl) (by decide) rfl (fun ls hl => ?_)
        refine lv_goto (tgt := 18) hx hb dL_law_1209 (by decide) ?_
        exact ih (i + 8) x4 hi8 (by omega) (by rw [e4, e3]; exact nI_add i 8) x y H locs ls hI M (lv_sub hl [1, 2, 3, 0] rfl)
      refine lv_aload_n hx hb dL_law_27 rfl (lv_at hl 0 rfl) ?_
      refine lv_iload_n hx hb dL_law_28 rfl (lv_at hl 3 rfl) ?_
      refine l_sld K M (by rw [e3]; exact vp_in_nI (by omega) (by omega)) (oI_of _) dL_law_29 ?_
      refine lv_bipush (v := 31) hx hb dL_law_30 (by decide) ?_
      refine lv_iand hx hb dL_law_32 ?_
      refine lv_topi (fun v ev => ?_)
      by_cases hs0 : v = 0
      · refine lv_tableIn (off := 111) (tgt := 144) hx hb dL_law_33 (by rw [hs0]; decide) (by rw [hs0]; decide) (by rw [hs0]; rfl) (by decide) ?_
        exact law_case0 (hO.1) K hL hi8 e3 hI M hl hgo
      by_cases hs1 : v = 1
      · refine lv_tableIn (off := 124) (tgt := 157) hx hb dL_law_33 (by rw [hs1]; decide) (by rw [hs1]; decide) (by rw [hs1]; rfl) (by decide) ?_
        exact law_case1 (hO.2.1) K hL hi8 e3 (oI_of _) (rg_of _) (oI_of _) (rg_of _) hI M hl hgo
      by_cases hs2 : v = 2
      · refine lv_tableIn (off := 157) (tgt := 190) hx hb dL_law_33 (by rw [hs2]; decide) (by rw [hs2]; decide) (by rw [hs2]; rfl) (by decide) ?_
        exact law_case2 (hO.2.2.1) K hL hi8 e3 (oI_of _) (rg_of _) (oI_of _) (rg_of _) (oI_of _) (rg_of _) hI M hl hgo
      by_cases hs3 : v = 3
      · refine lv_tableIn (off := 200) (tgt := 233) hx hb dL_law_33 (by rw [hs3]; decide) (by rw [hs3]; decide) (by rw [hs3]; rfl) (by decide) ?_
        exact law_case3 (hO.2.2.2.1) K hL hi8 e3 (oI_of _) (rg_of _) (oI_of _) (rg_of _) (oI_of _) (rg_of _) (oI_of _) (rg_of _) (oI_of _) (rg_of _) (oI_of _) (rg_of _) (oI_of _) (rg_of _) hI M hl hgo
      by_cases hs4 : v = 4
      · refine lv_tableIn (off := 287) (tgt := 320) hx hb dL_law_33 (by rw [hs4]; decide) (by rw [hs4]; decide) (by rw [hs4]; rfl) (by decide) ?_
        exact law_case4 (hO.2.2.2.2.1) K hL hi8 e3 (oI_of _) (rg_of _) hI M hl hgo
      by_cases hs5 : v = 5
      · refine lv_tableIn (off := 310) (tgt := 343) hx hb dL_law_33 (by rw [hs5]; decide) (by rw [hs5]; decide) (by rw [hs5]; rfl) (by decide) ?_
        exact law_case5 (hO.2.2.2.2.2.1) K hL hi8 e3 (oI_of _) (rg_of _) (oI_of _) (rg_of _) (oI_of _) (rg_of _) hI M hl hgo
      by_cases hs6 : v = 6
      · refine lv_tableIn (off := 353) (tgt := 386) hx hb dL_law_33 (by rw [hs6]; decide) (by rw [hs6]; decide) (by rw [hs6]; rfl) (by decide) ?_
        exact law_case6 (hO.2.2.2.2.2.2.1) K hL hi8 e3 (oI_of _) (rg_of _) (oI_of _) (rg_of _) (oI_of _) (rg_of _) hI M hl hgo
      by_cases hs7 : v = 7
      · refine lv_tableIn (off := 396) (tgt := 429) hx hb dL_law_33 (by rw [hs7]; decide) (by rw [hs7]; decide) (by rw [hs7]; rfl) (by decide) ?_
        exact law_case7 (hO.2.2.2.2.2.2.2.1) K hL hi8 e3 hI M hl hgo
      by_cases hs8 : v = 8
      · refine lv_tableIn (off := 409) (tgt := 442) hx hb dL_law_33 (by rw [hs8]; decide) (by rw [hs8]; decide) (by rw [hs8]; rfl) (by decide) ?_
        exact law_case8 (hO.2.2.2.2.2.2.2.2.1) K hL hi8 e3 hI M hl hgo
      by_cases hs9 : v = 9
      · refine lv_tableIn (off := 422) (tgt := 455) hx hb dL_law_33 (by rw [hs9]; decide) (by rw [hs9]; decide) (by rw [hs9]; rfl) (by decide) ?_
        exact law_case9 (hO.2.2.2.2.2.2.2.2.2.1) K hL hi8 e3 (oI_of _) (rg_of _) (oI_of _) (rg_of _) hI M hl hgo
      by_cases hs10 : v = 10
      · refine lv_tableIn (off := 455) (tgt := 488) hx hb dL_law_33 (by rw [hs10]; decide) (by rw [hs10]; decide) (by rw [hs10]; rfl) (by decide) ?_
        exact law_case10 (hO.2.2.2.2.2.2.2.2.2.2.1) K hL hi8 e3 (oI_of _) (rg_of _) (oI_of _) (rg_of _) (oI_of _) (rg_of _) (oI_of _) (rg_of _) hI M hl hgo
      by_cases hs11 : v = 11
      · refine lv_tableIn (off := 508) (tgt := 541) hx hb dL_law_33 (by rw [hs11]; decide) (by rw [hs11]; decide) (by rw [hs11]; rfl) (by decide) ?_
        exact law_case11 (hO.2.2.2.2.2.2.2.2.2.2.2.1) K hL hi8 e3 (oI_of _) (rg_of _) (oI_of _) (rg_of _) (oI_of _) (rg_of _) (oI_of _) (rg_of _) hI M hl hgo
      by_cases hs12 : v = 12
      · refine lv_tableIn (off := 561) (tgt := 594) hx hb dL_law_33 (by rw [hs12]; decide) (by rw [hs12]; decide) (by rw [hs12]; rfl) (by decide) ?_
        exact law_case12 (hO.2.2.2.2.2.2.2.2.2.2.2.2.1) K hL hi8 e3 (oI_of _) (rg_of _) (oI_of _) (rg_of _) (oI_of _) (rg_of _) (oI_of _) (rg_of _) hI M hl hgo
      by_cases hs13 : v = 13
      · refine lv_tableIn (off := 614) (tgt := 647) hx hb dL_law_33 (by rw [hs13]; decide) (by rw [hs13]; decide) (by rw [hs13]; rfl) (by decide) ?_
        exact law_case13 (hO.2.2.2.2.2.2.2.2.2.2.2.2.2.1) K hL hi8 e3 (oI_of _) (rg_of _) (oI_of _) (rg_of _) (oI_of _) (rg_of _) (oI_of _) (rg_of _) (oI_of _) (rg_of _) hI M hl hgo
      by_cases hs14 : v = 14
      · refine lv_tableIn (off := 677) (tgt := 710) hx hb dL_law_33 (by rw [hs14]; decide) (by rw [hs14]; decide) (by rw [hs14]; rfl) (by decide) ?_
        exact law_case14 (hO.2.2.2.2.2.2.2.2.2.2.2.2.2.2.1) K hL hi8 e3 (oI_of _) (rg_of _) (oI_of _) (rg_of _) (oI_of _) (rg_of _) (oI_of _) (rg_of _) (oI_of _) (rg_of _) hI M hl hgo
      by_cases hs15 : v = 15
      · refine lv_tableIn (off := 740) (tgt := 773) hx hb dL_law_33 (by rw [hs15]; decide) (by rw [hs15]; decide) (by rw [hs15]; rfl) (by decide) ?_
        exact law_case15 (hO.2.2.2.2.2.2.2.2.2.2.2.2.2.2.2.1) K hL hi8 e3 (oI_of _) (rg_of _) (oI_of _) (rg_of _) (oI_of _) (rg_of _) (oI_of _) (rg_of _) hI M hl hgo
      by_cases hs16 : v = 16
      · refine lv_tableIn (off := 793) (tgt := 826) hx hb dL_law_33 (by rw [hs16]; decide) (by rw [hs16]; decide) (by rw [hs16]; rfl) (by decide) ?_
        exact law_case16 (hO.2.2.2.2.2.2.2.2.2.2.2.2.2.2.2.2.1) K hL hi8 e3 (oI_of _) (rg_of _) hI M hl hgo
      by_cases hs17 : v = 17
      · refine lv_tableIn (off := 816) (tgt := 849) hx hb dL_law_33 (by rw [hs17]; decide) (by rw [hs17]; decide) (by rw [hs17]; rfl) (by decide) ?_
        exact law_case17 (hO.2.2.2.2.2.2.2.2.2.2.2.2.2.2.2.2.2.1) K hL hi8 e3 (oI_of _) (rg_of _) (oI_of _) (rg_of _) (oI_of _) (rg_of _) hI M hl hgo
      by_cases hs18 : v = 18
      · refine lv_tableIn (off := 859) (tgt := 892) hx hb dL_law_33 (by rw [hs18]; decide) (by rw [hs18]; decide) (by rw [hs18]; rfl) (by decide) ?_
        exact law_case18 (hO.2.2.2.2.2.2.2.2.2.2.2.2.2.2.2.2.2.2.1) K hL hi8 e3 (oI_of _) (rg_of _) (oI_of _) (rg_of _) (oI_of _) (rg_of _) (oI_of _) (rg_of _) (oI_of _) (rg_of _) hI M hl hgo
      by_cases hs19 : v = 19
      · refine lv_tableIn (off := 938) (tgt := 971) hx hb dL_law_33 (by rw [hs19]; decide) (by rw [hs19]; decide) (by rw [hs19]; rfl) (by decide) ?_
        exact law_case19 (hO.2.2.2.2.2.2.2.2.2.2.2.2.2.2.2.2.2.2.2.1) K hL hi8 e3 (oI_of _) (rg_of _) (oI_of _) (rg_of _) (oI_of _) (rg_of _) (oI_of _) (rg_of _) hI M hl hgo
      by_cases hs20 : v = 20
      · refine lv_tableIn (off := 991) (tgt := 1024) hx hb dL_law_33 (by rw [hs20]; decide) (by rw [hs20]; decide) (by rw [hs20]; rfl) (by decide) ?_
        exact law_case20 (hO.2.2.2.2.2.2.2.2.2.2.2.2.2.2.2.2.2.2.2.2.1) K hL hi8 e3 (oI_of _) (rg_of _) (oI_of _) (rg_of _) (oI_of _) (rg_of _) (oI_of _) (rg_of _) (oI_of _) (rg_of _) hI M hl hgo
      by_cases hs21 : v = 21
      · refine lv_tableIn (off := 1054) (tgt := 1087) hx hb dL_law_33 (by rw [hs21]; decide) (by rw [hs21]; decide) (by rw [hs21]; rfl) (by decide) ?_
        exact law_case21 (hO.2.2.2.2.2.2.2.2.2.2.2.2.2.2.2.2.2.2.2.2.2.1) K hL hi8 e3 (oI_of _) (rg_of _) (oI_of _) (rg_of _) (oI_of _) (rg_of _) (oI_of _) (rg_of _) hI M hl hgo
      by_cases hs22 : v = 22
      · refine lv_tableIn (off := 1107) (tgt := 1140) hx hb dL_law_33 (by rw [hs22]; decide) (by rw [hs22]; decide) (by rw [hs22]; rfl) (by decide) ?_
        exact law_case22 (hO.2.2.2.2.2.2.2.2.2.2.2.2.2.2.2.2.2.2.2.2.2.2.1) K hL hi8 e3 (oI_of _) (rg_of _) (oI_of _) (rg_of _) (oI_of _) (rg_of _) hI M hl hgo
      by_cases hs23 : v = 23
      · refine lv_tableIn (off := 1150) (tgt := 1183) hx hb dL_law_33 (by rw [hs23]; decide) (by rw [hs23]; decide) (by rw [hs23]; rfl) (by decide) ?_
        exact law_case23 (hO.2.2.2.2.2.2.2.2.2.2.2.2.2.2.2.2.2.2.2.2.2.2.2) K hL hi8 e3 (oI_of _) (rg_of _) hI M hl hgo
      refine lv_tableOut (tgt := 1206) hx hb dL_law_33 (x_out24 hs0 hs1 hs2 hs3 hs4 hs5 hs6 hs7 hs8 hs9 hs10 hs11 hs12 hs13 hs14 hs15 hs16 hs17 hs18 hs19 hs20 hs21 hs22 hs23) (by decide) ?_
      exact hgo x y H locs ls hI M hl
theorem l_arr {args : Array Value} {s : State} {ty : FieldType} (h : (Cond.arrayClass ty).before args s = true) : ∃ cA : ClassId, ArrOfT s cA ty ∧ s.vm.findClass ("[" ++ ty.toString) = some cA := by
  obtain ⟨cA, kA, comp, hfind, hk, hkind⟩ := Cond.arrayClass_spec h
  exact ⟨cA, fun n z => ⟨fun k h => (by cases h), kA, hk, comp, hkind⟩, hfind⟩
theorem xW_D {T : ClassId × ClassId} {a : Nat → Nat} {A : Nat → Prop} {x : XS} (h : va_D A (xW T a x)) : ∀ x', va_D A (xW T a x') := by
  intro x'
  have hm := xW_ad T a x' x
  have key : ∀ (k : Nat) (u : Nat × va_E), (xW T a x')[k]? = some u → ∃ v, (xW T a x)[k]? = some v ∧ v.1 = u.1 := by
    intro k u hu
    have h1 : ((xW T a x').map Prod.fst)[k]? = some u.1 := by rw [List.getElem?_map, hu]; rfl
    rw [hm, List.getElem?_map] at h1
    cases h2 : (xW T a x)[k]? with
    | none => rw [h2] at h1; cases h1
    | some v => rw [h2] at h1; exact ⟨v, rfl, Option.some.inj h1⟩
  refine ⟨fun i j u v hu hv huv => ?_, fun k u hu => ?_⟩
  · obtain ⟨u2, g1, g2⟩ := key i u hu
    obtain ⟨v2, g3, g4⟩ := key j v hv
    exact h.1 i j u2 v2 g1 g3 (g2.trans (huv.trans g4.symm))
  · obtain ⟨u2, g1, g2⟩ := key k u hu
    rw [← g2]; exact h.2 k u2 g1
theorem yW_D {T : ClassId × ClassId} {a : Nat → Nat} {A : Nat → Prop} {x : XS} (h : va_D A (yW T a x)) : ∀ x', va_D A (yW T a x') := by
  intro x'
  have hm := yW_ad T a x' x
  have key : ∀ (k : Nat) (u : Nat × va_E), (yW T a x')[k]? = some u → ∃ v, (yW T a x)[k]? = some v ∧ v.1 = u.1 := by
    intro k u hu
    have h1 : ((yW T a x').map Prod.fst)[k]? = some u.1 := by rw [List.getElem?_map, hu]; rfl
    rw [hm, List.getElem?_map] at h1
    cases h2 : (yW T a x)[k]? with
    | none => rw [h2] at h1; cases h1
    | some v => rw [h2] at h1; exact ⟨v, rfl, Option.some.inj h1⟩
  refine ⟨fun i j u v hu hv huv => ?_, fun k u hu => ?_⟩
  · obtain ⟨u2, g1, g2⟩ := key i u hu
    obtain ⟨v2, g3, g4⟩ := key j v hv
    exact h.1 i j u2 v2 g1 g3 (g2.trans (huv.trans g4.symm))
  · obtain ⟨u2, g1, g2⟩ := key k u hu
    rw [← g2]; exact h.2 k u2 g1
theorem xy_ap {T : ClassId × ClassId} {a q : Nat → Nat} {A : Nat → Prop} {x0 y0 : XS} (h : va_D A (xW T a x0 ++ yW T q y0)) : ∀ (x y : XS) (i j : Nat) (u v : Nat × va_E), (xW T a x)[i]? = some u → (yW T q y)[j]? = some v → u.1 ≠ v.1 := by
  intro x y i j u v hu hv huv
  have k1 : ∃ u2, (xW T a x0)[i]? = some u2 ∧ u2.1 = u.1 := by
    have h1 : ((xW T a x).map Prod.fst)[i]? = some u.1 := by rw [List.getElem?_map, hu]; rfl
    rw [xW_ad T a x x0, List.getElem?_map] at h1
    cases h2 : (xW T a x0)[i]? with
    | none => rw [h2] at h1; cases h1
    | some v => rw [h2] at h1; exact ⟨v, rfl, Option.some.inj h1⟩
  have k2 : ∃ v2, (yW T q y0)[j]? = some v2 ∧ v2.1 = v.1 := by
    have h1 : ((yW T q y).map Prod.fst)[j]? = some v.1 := by rw [List.getElem?_map, hv]; rfl
    rw [yW_ad T q y y0, List.getElem?_map] at h1
    cases h2 : (yW T q y0)[j]? with
    | none => rw [h2] at h1; cases h1
    | some v => rw [h2] at h1; exact ⟨v, rfl, Option.some.inj h1⟩
  obtain ⟨u2, g1, g2⟩ := k1
  obtain ⟨v2, g3, g4⟩ := k2
  have hl : i < (xW T a x0).length := (List.getElem?_eq_some_iff.mp g1).1
  have e1 : (xW T a x0 ++ yW T q y0)[i]? = some u2 := by rw [List.getElem?_append_left hl]; exact g1
  have e2 : (xW T a x0 ++ yW T q y0)[(xW T a x0).length + j]? = some v2 := by rw [List.getElem?_append_right (by omega), Nat.add_sub_cancel_left]; exact g3
  have := h.1 _ _ u2 v2 e1 e2 (g2.trans (huv.trans g4.symm))
  omega
theorem k_callL {own : String} {cc : ByteArray} {nL : Nat} {D : va_G} {T : ClassId × ClassId} {A : Nat → Prop} {p : Program} {l : Launch} {e : Env} {R : Room} {s : State} {m : MethodId} {args : Array Value} {below : List Frame} {meth : Method} {c : Code} {H : Heap} {locs : List Loc} {Q : State → Prop} {pc : Nat} {ls : Array Slot} {rest : List Value} {ws : va_W} {cells slots : Nat} (hx : p.tables.exec = Jvm.exec) (hb : c.code = cc) (hml : c.maxLocals = nL) (hown : s.vm.findClass own = some m.cls) (hts : ∀ w ∈ xg_big, w.before args s = true) (hN : ∀ w ∈ xg_nest, va_Nw w s) (hK : va_K D vwCl [(T.1, .int), (T.2, .boolean)] s) (hA : ∀ q, s.heap.size ≤ q → A q) {h0 ci index mLy n mc ms : Nat} {fs : List Value} {y : MethodName} {cy : ByteArray} {rm : Room} {As : List Value} {st : List Value} {wI : (Nat → Nat) → va_W} (hP : va_P D vwCl (ws ++ [(h0, .inr (ci, fs))]) H) (hD : va_D A (ws ++ [(h0, .inr (ci, fs))])) (hS : va_S A s.heap H locs) (hM : ∀ sz, kMet l y cy mLy rm D T [(h0, .inr (ci, fs))] sz (.ref h0 :: As) wI mc ms) (hcode : Cond.code y cy mLy none ∈ xg_big) (hlink : Cond.methodLink own index y ∈ xg_big) (hinst : Cond.instanceMethod y ∈ xg_big) (hini : Cond.initialized y.cls ∈ xg_big) (hy1 : y.name = "<init>") (hnn : As.length = n) (hd : y.cls ≠ "java/lang/invoke/MethodHandle" ∧ y.cls ≠ "java/lang/invoke/VarHandle" ∧ (parseMethodDescriptor y.desc).map (fun d => d.parameters.length) = some n) (hrm : rm.cells = mc ∧ rm.slots = ms) (hR : rm.frames + 1 ≤ R.frames ∧ 8 + (mLy + 11) + rm.locals ≤ R.locals) (hsz : ls.size = nL) (hst : st = As.reverse ++ .ref h0 :: rest) (hrest : (rest.map fun v => v.category).sum ≤ 8) (hf : cells + mc ≤ R.cells ∧ slots + ms ≤ R.slots) (hdg : decode cc pc = .ok (.invokespecial index, 3))
    (kk : ∀ (u : Nat → Nat) (H1 : Heap) (locs1 : List Loc), va_P D vwCl (ws ++ wI u) H1 → va_D A (ws ++ wI u) → va_S A s.heap H1 locs1 → W p l e R s m args below meth c H1 locs1 (cells + mc) (slots + ms) Q (F0 m (pc + 3) ls rest)) : W p l e R s m args below meth c H locs cells slots Q (F0 m pc ls st) := by
  have hl : (ws ++ [(h0, Sum.inr (ci, fs))])[ws.length]? = some (h0, (Sum.inr (ci, fs) : va_E)) := by rw [List.getElem?_append_right (Nat.le_refl _), Nat.sub_self]; rfl
  have hP0 : va_P D vwCl [(h0, .inr (ci, fs))] H := fun k q hq => by
    have hk2 : k = 0 := by
      have := (List.getElem?_eq_some_iff.mp hq).1
      simp at this
      exact this
    subst hk2
    cases hq
    exact hP _ _ hl
  have hD0 : va_D (fun _ => True) [(h0, (Sum.inr (ci, fs) : va_E))] := ⟨fun i j x y hi hj _ => by
    have h1 := (List.getElem?_eq_some_iff.mp hi).1
    have h2 := (List.getElem?_eq_some_iff.mp hj).1
    simp at h1 h2
    omega, fun _ _ _ => trivial⟩
  have hF : ∀ q, va_A [(h0, (Sum.inr (ci, fs) : va_E))] H.size q → A q := by
    intro q h
    rcases h with ⟨k, e, h⟩ | h
    · have hk2 : k = 0 := by
        have := (List.getElem?_eq_some_iff.mp h).1
        simp at this
        exact this
      subst hk2
      cases h
      exact hD.2 _ _ hl
    · exact hA q (Nat.le_trans hS.1 h)
  have cw : CallB R s args own index y cy mLy none (.code y cy mLy none :: xg_big) rm mc ms n := by
    refine ⟨hrm.1, hrm.2, hR.1, hR.2, xb_pay hts hcode, List.mem_cons_self, hts _ hcode, hts _ hini, ⟨hd.1, hd.2.1⟩, fun sig h => ?_, hts _ hlink⟩
    have h2 := hd.2.2
    rw [h] at h2
    exact (Option.some.inj h2).symm
  refine va_callv (va_runI (As := As) (rest := rest) ⟨hx, hb, hml, hown, hts⟩ (hM H.size) ⟨cw, hy1, hts _ hinst⟩ ⟨k_blind, fun U hU hW => ⟨rfl, by rw [hU], by rw [hU]; exact hP0, hD0, va_K.moved hW.alike hK, fun w hw => xb_nw hw hW (hN w hw)⟩⟩ rfl hnn hsz hst (lv_room hrest) hdg hf) hS (fun q _ h => hF q h) hF (fun u t H1 locs1 ht hvm hw hB hz1 hk1 hS => ?_)
  rw [ht] at hB
  obtain ⟨hP1, hD1⟩ := k_join hP hD hF hk1 hB.1 hB.2
  exact kk u H1 locs1 hP1 hD1 hS
set_option maxHeartbeats 8000000 in
set_option maxRecDepth 100000 in
theorem law_start {Inv : XS → XS → Prop} (hO : LawOK Inv) (hI0 : Inv x_ini y_ini) {p : Program} {e : Env} {s : State} {m : MethodId} {below : List Frame} {meth : Method} {c : Code} (l : Launch) {b L : Nat} {xs : Nat → Int32} (hL : L ≤ 4096) (C0 : lw_At p s m meth c b L xs) : W p l e room_1 s m #[Value.ref b] below meth c s.heap [] 0 0 (lw_Z below #[Value.ref b] s) (entryFrame m ([Value.ref b] : List Value).toArray 4) := by
  obtain ⟨hx, hb, hr, hml, hown, hts, hX, hbl, hlocks, hgv⟩ := C0
  have hA : ∀ q : Nat, s.heap.size ≤ q → (fun q : Nat => s.heap.size ≤ q) q := fun _ h => h
  have hbA : ¬ (fun q : Nat => s.heap.size ≤ q) b := Nat.not_le.mpr hbl
  have hbig : ∀ w ∈ xg_big, w.before #[Value.ref b] s = true := fun w hw => hts w (List.mem_filter.mp hw).1
  have hnest : ∀ w ∈ xg_nest, va_Nw w s := fun w hw => va_Nw.of (xb_non hw) (hts w (List.mem_filter.mp hw).1)
  obtain ⟨c0, iS0, hKn0⟩ := u_known (C := RX0) (T := TX0) (N := 11) (n := 11) hbig inX0 (hbig _ bw_120)
  obtain ⟨c1, iS1, hKn1⟩ := u_known (C := RX1) (T := TX1) (N := 6) (n := 6) hbig inX1 (hbig _ bw_173)
  obtain ⟨c2, iS2, hKn2⟩ := u_known (C := RX2) (T := TX2) (N := 3) (n := 3) hbig inX2 (hbig _ bw_102)
  obtain ⟨c3, iS3, hKn3⟩ := u_known (C := RX3) (T := TX3) (N := 9) (n := 9) hbig inX3 (hbig _ bw_285)
  obtain ⟨c4, iS4, hKn4⟩ := u_known (C := RX4) (T := TX4) (N := 1) (n := 1) hbig inX4 (hbig _ bw_211)
  obtain ⟨c5, iS5, hKn5⟩ := u_known (C := RX5) (T := TX5) (N := 18) (n := 18) hbig inX5 (hbig _ bw_205)
  obtain ⟨c6, iS6, hKn6⟩ := u_known (C := RX6) (T := TX6) (N := 9) (n := 9) hbig inX6 (hbig _ bw_94)
  obtain ⟨c7, iS7, hKn7⟩ := u_known (C := RX7) (T := TX7) (N := 36) (n := 36) hbig inX7 (hbig _ bw_713)
  obtain ⟨tI, hI1, hI2⟩ := l_arr (hbig _ bw_118)
  obtain ⟨tZ, hZ1, hZ2⟩ := l_arr (hbig _ bw_171)
  obtain ⟨dC, dI, hKc⟩ : ∃ (dC : Nat → ClassId) (dI : Nat → Nat → Nat), ∀ (k : Nat) (q : vw_C), vwCl[k]? = some q → u_Kn s q.1 q.2.1 q.2.2 (dC k) (dI k) := by
    refine ⟨fun k => if k = 0 then c0 else if k = 1 then c1 else if k = 2 then c2 else if k = 3 then c3 else if k = 4 then c4 else if k = 5 then c5 else if k = 6 then c6 else c7, fun k => if k = 0 then iS0 else if k = 1 then iS1 else if k = 2 then iS2 else if k = 3 then iS3 else if k = 4 then iS4 else if k = 5 then iS5 else if k = 6 then iS6 else iS7, ?_⟩
    intro k q hq
    match k, hq with
    | 0, hq => cases hq; exact hKn0
    | 1, hq => cases hq; exact hKn1
    | 2, hq => cases hq; exact hKn2
    | 3, hq => cases hq; exact hKn3
    | 4, hq => cases hq; exact hKn4
    | 5, hq => cases hq; exact hKn5
    | 6, hq => cases hq; exact hKn6
    | 7, hq => cases hq; exact hKn7
    | k + 8, hq => simp [vwCl] at hq
  obtain ⟨T, eT⟩ : ∃ T : ClassId × ClassId, T = (tI, tZ) := ⟨_, rfl⟩
  have hK : va_K (dC, dI) vwCl [(T.1, .int), (T.2, .boolean)] s := by
    subst eT
    refine ⟨hKc, fun k q h => ?_⟩
    match k, h with
    | 0, h => cases h; exact ⟨hI1, hI2⟩
    | 1, h => cases h; exact ⟨hZ1, hZ2⟩
    | k + 2, h => simp at h
  have hS : va_S (fun q : Nat => s.heap.size ≤ q) s.heap s.heap [] := va_S.rf
  have hP : va_P (dC, dI) vwCl [] s.heap := fun k q h => by simp at h
  have hD : va_D (fun q : Nat => s.heap.size ≤ q) [] := ⟨fun i j p q h => by simp at h, fun k q h => by simp at h⟩
  have hl := lv_entry ([.ref b]) (n := 4) (Nat.le_of_ble_eq_true rfl)
  rw [lg_entry_eq]
  generalize (lg_sl ([.ref b]) ++ List.replicate (4 - (lg_sl ([.ref b])).length) Slot.unset).toArray = ls at hl ⊢
  have hl : lv_has ls 4 [(0, .ref b)] := hl
  refine va_new (ci := 6) (fs := [.null, .null, .null, .null, .null, .null, .null, .int 0, .int 0]) (C := RX6) (T := TX6) (N := 9) hx hb hbig inX6 tyX6 tyX6_ok hown (hbig _ bw_93) (hbig _ bw_94) (hbig _ bw_84) hK hP hD hS hA rfl (fun j hj => by rcases (show j = 0 ∨ j = 1 ∨ j = 2 ∨ j = 3 ∨ j = 4 ∨ j = 5 ∨ j = 6 ∨ j = 7 ∨ j = 8 by omega) with rfl | rfl | rfl | rfl | rfl | rfl | rfl | rfl | rfl <;> rfl) (Nat.le_of_ble_eq_true rfl) (Nat.le_of_ble_eq_true rfl) dL_law_0 (fun h6 H hP hD hS => ?_)
  have hP : va_P (dC, dI) vwCl ([] ++ [(h6, .inr (6, [.null, .null, .null, .null, .null, .null, .null, .int 0, .int 0]))]) H := hP
  have hD : va_D (fun q : Nat => s.heap.size ≤ q) ([] ++ [(h6, .inr (6, [.null, .null, .null, .null, .null, .null, .null, .int 0, .int 0]))]) := hD
  refine lv_dup hx hb dL_law_3 rfl ?_
  refine k_callL (ws := []) (n := 0) (As := []) hx hb hml hown hbig hnest hK hA hP hD hS (fun sz => k_X6_init h6 sz) bw_97 bw_95 bw_96 bw_84 rfl rfl (by decide +kernel) ⟨rfl, rfl⟩ ⟨Nat.le_of_ble_eq_true rfl, Nat.le_of_ble_eq_true rfl⟩ hl.1 rfl (Nat.le_of_ble_eq_true rfl) ⟨Nat.le_of_ble_eq_true rfl, Nat.le_of_ble_eq_true rfl⟩ dL_law_4 (fun u6 H locs hP hD hS => ?_)
  obtain ⟨a, ea⟩ : ∃ a : Nat → Nat, a = (fun k => cond (Nat.beq k 0) h6 (u6 k)) := ⟨_, rfl⟩
  have ha0 : h6 = a 0 := by rw [ea]; rfl
  have hP : va_P (dC, dI) vwCl (xW T a x_ini) H := by rw [ea]; exact hP
  have hD : va_D (fun q : Nat => s.heap.size ≤ q) (xW T a x_ini) := by rw [ea]; exact hD
  rw [ha0]
  refine W.widen (k := 42) (n := 22061) (by omega) (by omega) ?_
  refine lv_astore_n (lv' := [(1, .ref (a 0)), (0, .ref b)]) hx hb dL_law_7 rfl hl (by decide) rfl (fun ls hl => ?_)
  refine va_new (ci := 7) (fs := [.int 0, .int 0, .int 0, .int 0, .int 0, .int 0, .int 0, .null, .null, .null, .null, .null, .null, .null, .null, .null, .null, .null, .null, .null, .null, .null, .int 0, .null, .null, .null, .null, .null, .null, .null, .null, .int 0, .null, .null, .null, .null]) (C := RX7) (T := TX7) (N := 36) hx hb hbig inX7 tyX7 tyX7_ok hown (hbig _ bw_712) (hbig _ bw_713) (hbig _ bw_91) hK hP hD hS hA rfl (fun j hj => by rcases (show j = 0 ∨ j = 1 ∨ j = 2 ∨ j = 3 ∨ j = 4 ∨ j = 5 ∨ j = 6 ∨ j = 7 ∨ j = 8 ∨ j = 9 ∨ j = 10 ∨ j = 11 ∨ j = 12 ∨ j = 13 ∨ j = 14 ∨ j = 15 ∨ j = 16 ∨ j = 17 ∨ j = 18 ∨ j = 19 ∨ j = 20 ∨ j = 21 ∨ j = 22 ∨ j = 23 ∨ j = 24 ∨ j = 25 ∨ j = 26 ∨ j = 27 ∨ j = 28 ∨ j = 29 ∨ j = 30 ∨ j = 31 ∨ j = 32 ∨ j = 33 ∨ j = 34 ∨ j = 35 by omega) with rfl | rfl | rfl | rfl | rfl | rfl | rfl | rfl | rfl | rfl | rfl | rfl | rfl | rfl | rfl | rfl | rfl | rfl | rfl | rfl | rfl | rfl | rfl | rfl | rfl | rfl | rfl | rfl | rfl | rfl | rfl | rfl | rfl | rfl | rfl | rfl <;> rfl) (Nat.le_of_ble_eq_true rfl) (Nat.le_of_ble_eq_true rfl) dL_law_8 (fun h7 H hP hD hS => ?_)
  refine lv_dup hx hb dL_law_11 rfl ?_
  refine k_callL (ws := xW T a x_ini) (n := 0) (As := []) hx hb hml hown hbig hnest hK hA hP hD hS (fun sz => k_X7_init h7 sz) bw_716 bw_714 bw_715 bw_91 rfl rfl (by decide +kernel) ⟨rfl, rfl⟩ ⟨Nat.le_of_ble_eq_true rfl, Nat.le_of_ble_eq_true rfl⟩ hl.1 rfl (Nat.le_of_ble_eq_true rfl) ⟨Nat.le_of_ble_eq_true rfl, Nat.le_of_ble_eq_true rfl⟩ dL_law_12 (fun u7 H locs hP hD hS => ?_)
  obtain ⟨q, eq⟩ : ∃ a : Nat → Nat, a = (fun k => cond (Nat.beq k 0) h7 (u7 k)) := ⟨_, rfl⟩
  have hq0 : h7 = q 0 := by rw [eq]; rfl
  have hP : va_P (dC, dI) vwCl (xW T a x_ini ++ yW T q y_ini) H := by rw [eq]; exact hP
  have hD : va_D (fun q : Nat => s.heap.size ≤ q) (xW T a x_ini ++ yW T q y_ini) := by rw [eq]; exact hD
  rw [hq0]
  refine W.widen (k := 70) (n := 41445) (by omega) (by omega) ?_
  refine lv_astore_n (lv' := [(2, .ref (q 0)), (1, .ref (a 0)), (0, .ref b)]) hx hb dL_law_15 rfl hl (by decide) rfl (fun ls hl => ?_)
  refine lv_iconst (v := 0) hx hb dL_law_16 (by decide) ?_
  refine lv_istore_n (lv' := [(3, .int 0), (2, .ref (q 0)), (1, .ref (a 0)), (0, .ref b)]) hx hb dL_law_17 rfl hl (by decide) rfl (fun ls hl => ?_)
  have inL : ∀ (k : Nat) (u : Nat × va_E), (xW T a x_ini)[k]? = some u → (xW T a x_ini ++ yW T q y_ini)[k]? = some u := fun k u h => by
    rw [List.getElem?_append_left (List.getElem?_eq_some_iff.mp h).1]; exact h
  have inR : ∀ (k : Nat) (u : Nat × va_E), (yW T q y_ini)[k]? = some u → (xW T a x_ini ++ yW T q y_ini)[(xW T a x_ini).length + k]? = some u := fun k u h => by
    rw [List.getElem?_append_right (by omega), Nat.add_sub_cancel_left]; exact h
  have hDx : va_D (fun q : Nat => s.heap.size ≤ q) (xW T a x_ini) := ⟨fun i j u v hu hv huv => hD.1 i j u v (inL i u hu) (inL j v hv) huv, fun k u hu => hD.2 k u (inL k u hu)⟩
  have hDy : va_D (fun q : Nat => s.heap.size ≤ q) (yW T q y_ini) := ⟨fun i j u v hu hv huv => by
    have := hD.1 _ _ u v (inR i u hu) (inR j v hv) huv
    omega, fun k u hu => hD.2 _ u (inR k u hu)⟩
  exact law_loop hO (D := (dC, dI)) (T := T) (a := a) (q := q) (A := (fun q : Nat => s.heap.size ≤ q)) (xs := xs) ⟨⟨hx, hb, hml, hown, hbig, hnest, hK, xW_D hDx, hlocks, hA⟩, ⟨hx, hb, hml, hown, hbig, hnest, hK, yW_D hDy, hlocks, hA⟩, xy_ap hD, hX, hbl, hbA⟩ hL hr (fun _ h => h) (L + 1) 0 0 (Nat.zero_le L) (by omega) nI_0.symm x_ini y_ini H locs ls hI0 ⟨fun k u hu => hP k u (inL k u hu), fun k u hu => hP _ u (inR k u hu), hS⟩ (lv_sub hl [3, 2, 1, 0] rfl)
