set_option maxHeartbeats 4000000 in
set_option maxRecDepth 100000 in
theorem c_X7_last {l : Launch} {D : va_G} {T : ClassId × ClassId} {a : Nat → Nat} {x : XS} {p1 : Int} {p2 : Int} {p3 : Int} {p4 : Int} {z : Int × XS} (h : f_X7_last x p1 p2 p3 p4 = some z) (sz : Nat) : xMetI l yX7_last cX7_last 7 .int { frames := 3, cells := 0, slots := 0, locals := 74 } D T (yW T a) sz [.ref (a 0), .int (oI p1), .int (oI p2), .int (oI p3), .int (oI p4)] x z := by
  refine xMetI_of (by decide) (Nat.le_of_ble_eq_true rfl) (yW_ad T a) ?_
  intro p e s m args below meth c A ls C hr M hl
  have hx := C.1
  have hb := C.2.1
  have hl : lv_has ls 7 [(0, .ref (a 0)), (1, .int (oI p1)), (2, .int (oI p2)), (3, .int (oI p3)), (4, .int (oI p4))] := hl
  have C : xcx RX7 cX7_last 7 D T (yW T a) A p s m args meth c := C
  revert hl M
  generalize ([] : List Loc) = locs
  generalize s.heap = H
  intro M hl
  unfold f_X7_last at h
  refine lv_aload_n hx hb dX7_last_0 rfl (lv_at hl 0 rfl) ?_
  refine lv_iconst (v := oI 0) hx hb dX7_last_1 (by decide) ?_
  refine pf_X7_92 C M dX7_last_2 h (fun H locs x1 M h => ?_)
  refine lv_aload_n hx hb dX7_last_5 rfl (lv_at hl 0 rfl) ?_
  refine lv_aload_n hx hb dX7_last_6 rfl (lv_at hl 0 rfl) ?_
  refine lv_iload_n hx hb dX7_last_7 rfl (lv_at hl 1 rfl) ?_
  refine lv_iload_n hx hb dX7_last_8 rfl (lv_at hl 2 rfl) ?_
  refine lv_iload_n hx hb dX7_last_9 rfl (lv_at hl 3 rfl) ?_
  refine lv_iload_n hx hb dX7_last_10 rfl (lv_at hl 3 rfl) ?_
  refine lv_iload hx hb dX7_last_11 (lv_at hl 4 rfl) ?_
  refine ci_X7_173 C M h ⟨Nat.le_of_ble_eq_true rfl, Nat.le_of_ble_eq_true rfl⟩ hl.1 (Nat.le_of_ble_eq_true rfl) dX7_last_13 (fun r2 H locs x3 M nr2 h => ?_)
  refine pf_X7_96 C M dX7_last_16 h (fun H locs x4 M h => ?_)
  refine lv_aload_n hx hb dX7_last_19 rfl (lv_at hl 0 rfl) ?_
  refine gf_X7_96 C M dX7_last_20 ?_
  refine z_if_le (tgt := 28) hx hb dX7_last_23 (by decide) h (fun h => ?_) (fun h => ?_)
  · refine lv_aload_n hx hb dX7_last_28 rfl (lv_at hl 0 rfl) ?_
    refine lv_iload hx hb dX7_last_29 (lv_at hl 4 rfl) ?_
    refine lv_iconst (v := oI (-1)) hx hb dX7_last_31 (by decide) ?_
    refine ci_X7_177 C M h ⟨Nat.le_of_ble_eq_true rfl, Nat.le_of_ble_eq_true rfl⟩ hl.1 (Nat.le_of_ble_eq_true rfl) dX7_last_32 (fun H locs x6 M h => ?_)
    refine lv_aload_n hx hb dX7_last_35 rfl (lv_at hl 0 rfl) ?_
    refine lv_iload_n hx hb dX7_last_36 rfl (lv_at hl 1 rfl) ?_
    refine lv_iconst (v := oI 0) hx hb dX7_last_37 (by decide) ?_
    refine ci_X7_181 C M h ⟨Nat.le_of_ble_eq_true rfl, Nat.le_of_ble_eq_true rfl⟩ hl.1 (Nat.le_of_ble_eq_true rfl) dX7_last_38 (fun H locs x8 M h => ?_)
    refine lv_iconst (v := oI (-1)) hx hb dX7_last_41 (by decide) ?_
    refine lv_istore (lv' := [(5, .int (oI (-1))), (0, .ref (a 0)), (1, .int (oI p1)), (2, .int (oI p2)), (3, .int (oI p3)), (4, .int (oI p4))]) hx hb dX7_last_42 hl (by decide) rfl (fun ls hl => ?_)
    refine lv_iconst (v := oI 0) hx hb dX7_last_44 (by decide) ?_
    refine lv_istore (lv' := [(6, .int (oI 0)), (5, .int (oI (-1))), (0, .ref (a 0)), (1, .int (oI p1)), (2, .int (oI p2)), (3, .int (oI p3)), (4, .int (oI p4))]) hx hb dX7_last_45 hl (by decide) rfl (fun ls hl => ?_)
    refine x_jp_el h (fun kx9 ekx9 h => ?_)
    have hkx9 : ∀ (v10 : Int) (x11 : XS) (H : Heap) (locs : List Loc) (ls : Array Slot), kx9 v10 x11 = some z → xmm D (yW T a) A s H locs x11 → lv_has ls 7 [(0, .ref (a 0)), (5, .int (oI v10))] → W p l e { frames := 3, cells := 0, slots := 0, locals := 74 } s m args below meth c H locs 0 0 (xQI below args s D (yW T a) .int z A) (F0 m 113 ls []) := by
      intro v10 x11 H locs ls h M hl
      rw [ekx9] at h
      dsimp only at h
      refine lv_aload_n hx hb dX7_last_113 rfl (lv_at hl 0 rfl) ?_
      refine lv_iload hx hb dX7_last_114 (lv_at hl 1 rfl) ?_
      refine ci_X7_187 C M h ⟨Nat.le_of_ble_eq_true rfl, Nat.le_of_ble_eq_true rfl⟩ hl.1 (Nat.le_of_ble_eq_true rfl) dX7_last_116 (fun r12 H locs x13 M nr12 h => ?_)
      exact xretI C hr M h rfl dX7_last_119
    refine x_loop2_ind (P := fun v14 v15 x16 => ∀ (H : Heap) (locs : List Loc) (ls : Array Slot), xmm D (yW T a) A s H locs x16 → lv_has ls 7 [(0, .ref (a 0)), (2, .int (oI p2)), (3, .int (oI p3)), (5, .int (oI v14)), (6, .int (oI v15))] → W p l e { frames := 3, cells := 0, slots := 0, locals := 74 } s m args below meth c H locs 0 0 (xQI below args s D (yW T a) .int z A) (F0 m 47 ls [])) (fun g17 ig17 v14 v15 x16 h => ?_) x_fuel (-1) 0 x8 h H locs ls M (lv_sub hl [2, 4, 5, 1, 0] rfl)
    intro H locs ls M hl
    unfold b_X7_last_47 at h
    refine lv_iload hx hb dX7_last_47 (lv_at hl 4 rfl) ?_
    refine lv_aload_n hx hb dX7_last_49 rfl (lv_at hl 0 rfl) ?_
    refine gf_X7_150 C M dX7_last_50 ?_
    refine z_icmp_ge (tgt := 113) hx hb dX7_last_53 (by decide) h (fun h => ?_) (fun h => ?_)
    · exact hkx9 v14 x16 H locs ls h M (lv_sub hl [0, 3] rfl)
    · refine lv_aload_n hx hb dX7_last_56 rfl (lv_at hl 0 rfl) ?_
      refine gf_X7_74 C M dX7_last_57 ?_
      refine lv_iload hx hb dX7_last_60 (lv_at hl 4 rfl) ?_
      refine al_y_22 C M dX7_last_62 h (fun v18 h => ?_)
      refine x_jp_el h (fun jp19 ejp19 h => ?_)
      have hjp19 : ∀ (v20 : Int) (x21 : XS) (H : Heap) (locs : List Loc) (ls : Array Slot), jp19 v20 x21 = some z → xmm D (yW T a) A s H locs x21 → lv_has ls 7 [(0, .ref (a 0)), (2, .int (oI p2)), (3, .int (oI p3)), (5, .int (oI v20)), (6, .int (oI v15))] → W p l e { frames := 3, cells := 0, slots := 0, locals := 74 } s m args below meth c H locs 0 0 (xQI below args s D (yW T a) .int z A) (F0 m 107 ls []) := by
        intro v20 x21 H locs ls h M hl
        rw [ejp19] at h
        dsimp only at h
        refine x_nm h (fun v22 ev22 h => ?_)
        refine lv_iinc (v := oI v22) (lv' := [(6, .int (oI v22)), (0, .ref (a 0)), (2, .int (oI p2)), (3, .int (oI p3)), (5, .int (oI v20))]) hx hb dX7_last_107 hl (k := 4) rfl (by rw [ev22]; exact oI_add _ _) (by decide) rfl (fun ls hl => ?_)
        refine lv_goto (tgt := 47) hx hb dX7_last_110 (by decide) ?_
        exact ig17 v20 v22 x21 h H locs ls M (lv_sub hl [1, 2, 3, 4, 0] rfl)
      refine z_if_eq (tgt := 107) hx hb dX7_last_63 (by decide) h (fun h => ?_) (fun h => ?_)
      · exact hjp19 v14 x16 H locs ls h M (lv_sub hl [0, 1, 2, 3, 4] rfl)
      · refine lv_aload_n hx hb dX7_last_66 rfl (lv_at hl 0 rfl) ?_
        refine gf_X7_19 C M dX7_last_67 ?_
        refine lv_aload_n hx hb dX7_last_70 rfl (lv_at hl 0 rfl) ?_
        refine gf_X7_56 C M dX7_last_71 ?_
        refine lv_iload hx hb dX7_last_74 (lv_at hl 4 rfl) ?_
        refine al_y_16 C M dX7_last_76 h (fun v23 h => ?_)
        refine al_y_4 C M dX7_last_77 h (fun v24 h => ?_)
        refine lv_iload_n hx hb dX7_last_78 rfl (lv_at hl 1 rfl) ?_
        refine z_icmp_ne (tgt := 107) hx hb dX7_last_79 (by decide) h (fun h => ?_) (fun h => ?_)
        · exact hjp19 v14 x16 H locs ls h M (lv_sub hl [0, 1, 2, 3, 4] rfl)
        · refine lv_aload_n hx hb dX7_last_82 rfl (lv_at hl 0 rfl) ?_
          refine gf_X7_65 C M dX7_last_83 ?_
          refine lv_iload hx hb dX7_last_86 (lv_at hl 4 rfl) ?_
          refine al_y_19 C M dX7_last_88 h (fun v25 h => ?_)
          refine lv_iload_n hx hb dX7_last_89 rfl (lv_at hl 2 rfl) ?_
          refine z_icmp_gt (tgt := 107) hx hb dX7_last_90 (by decide) h (fun h => ?_) (fun h => ?_)
          · exact hjp19 v14 x16 H locs ls h M (lv_sub hl [0, 1, 2, 3, 4] rfl)
          · refine lv_iload hx hb dX7_last_93 (lv_at hl 3 rfl) ?_
            refine lv_aload_n hx hb dX7_last_95 rfl (lv_at hl 0 rfl) ?_
            refine gf_X7_68 C M dX7_last_96 ?_
            refine lv_iload hx hb dX7_last_99 (lv_at hl 4 rfl) ?_
            refine al_y_20 C M dX7_last_101 h (fun v26 h => ?_)
            refine va_mmax (own := RX7) hx hb (C.2.2.1.trans hl.1.symm) C.2.2.2.1 (C.2.2.2.2.1 _ bw_934) (C.2.2.2.2.1 _ bw_607) (C.2.2.2.2.1 _ bw_92) (C.2.2.2.2.1 _ bw_608) (Nat.le_of_ble_eq_true rfl) (Nat.le_of_ble_eq_true rfl) (Nat.zero_le _) (Nat.zero_le _) dX7_last_102 ?_
            refine x_topM h (fun v27 h => ?_)
            refine lv_istore (lv' := [(5, .int (oI v27)), (0, .ref (a 0)), (2, .int (oI p2)), (3, .int (oI p3)), (6, .int (oI v15))]) hx hb dX7_last_105 hl (by decide) rfl (fun ls hl => ?_)
            exact hjp19 v27 x16 H locs ls h M (lv_sub hl [1, 2, 3, 0, 4] rfl)
  · refine lv_iconst (v := oI (-1)) hx hb dX7_last_26 (by decide) ?_
    exact xretI C hr M h rfl dX7_last_27
set_option maxHeartbeats 4000000 in
set_option maxRecDepth 100000 in
theorem c_X7_quickest {l : Launch} {D : va_G} {T : ClassId × ClassId} {a : Nat → Nat} {x : XS} {p1 : Int} {p2 : Int} {p3 : Int} {p4 : Int} {p5 : Int} {z : Int × XS} (h : f_X7_quickest x p1 p2 p3 p4 p5 = some z) (sz : Nat) : xMetI l yX7_quickest cX7_quickest 8 .int { frames := 3, cells := 0, slots := 0, locals := 74 } D T (yW T a) sz [.ref (a 0), .int (oI p1), .int (oI p2), .int (oI p3), .int (oI p4), .int (oI p5)] x z := by
  refine xMetI_of (by decide) (Nat.le_of_ble_eq_true rfl) (yW_ad T a) ?_
  intro p e s m args below meth c A ls C hr M hl
  have hx := C.1
  have hb := C.2.1
  have hl : lv_has ls 8 [(0, .ref (a 0)), (1, .int (oI p1)), (2, .int (oI p2)), (3, .int (oI p3)), (4, .int (oI p4)), (5, .int (oI p5))] := hl
  have C : xcx RX7 cX7_quickest 8 D T (yW T a) A p s m args meth c := C
  revert hl M
  generalize ([] : List Loc) = locs
  generalize s.heap = H
  intro M hl
  unfold f_X7_quickest at h
  refine lv_aload_n hx hb dX7_quickest_0 rfl (lv_at hl 0 rfl) ?_
  refine lv_iconst (v := oI 0) hx hb dX7_quickest_1 (by decide) ?_
  refine pf_X7_92 C M dX7_quickest_2 h (fun H locs x1 M h => ?_)
  refine lv_aload_n hx hb dX7_quickest_5 rfl (lv_at hl 0 rfl) ?_
  refine lv_aload_n hx hb dX7_quickest_6 rfl (lv_at hl 0 rfl) ?_
  refine lv_iload_n hx hb dX7_quickest_7 rfl (lv_at hl 1 rfl) ?_
  refine lv_iload_n hx hb dX7_quickest_8 rfl (lv_at hl 2 rfl) ?_
  refine lv_iload_n hx hb dX7_quickest_9 rfl (lv_at hl 3 rfl) ?_
  refine lv_iload hx hb dX7_quickest_10 (lv_at hl 4 rfl) ?_
  refine lv_iload hx hb dX7_quickest_12 (lv_at hl 5 rfl) ?_
  refine ci_X7_173 C M h ⟨Nat.le_of_ble_eq_true rfl, Nat.le_of_ble_eq_true rfl⟩ hl.1 (Nat.le_of_ble_eq_true rfl) dX7_quickest_14 (fun r2 H locs x3 M nr2 h => ?_)
  refine pf_X7_96 C M dX7_quickest_17 h (fun H locs x4 M h => ?_)
  refine lv_aload_n hx hb dX7_quickest_20 rfl (lv_at hl 0 rfl) ?_
  refine gf_X7_96 C M dX7_quickest_21 ?_
  refine z_if_le (tgt := 29) hx hb dX7_quickest_24 (by decide) h (fun h => ?_) (fun h => ?_)
  · refine lv_aload_n hx hb dX7_quickest_29 rfl (lv_at hl 0 rfl) ?_
    refine lv_iload hx hb dX7_quickest_30 (lv_at hl 5 rfl) ?_
    refine lv_iconst (v := oI (-1)) hx hb dX7_quickest_32 (by decide) ?_
    refine ci_X7_177 C M h ⟨Nat.le_of_ble_eq_true rfl, Nat.le_of_ble_eq_true rfl⟩ hl.1 (Nat.le_of_ble_eq_true rfl) dX7_quickest_33 (fun H locs x6 M h => ?_)
    refine lv_aload_n hx hb dX7_quickest_36 rfl (lv_at hl 0 rfl) ?_
    refine lv_iload_n hx hb dX7_quickest_37 rfl (lv_at hl 1 rfl) ?_
    refine lv_iload_n hx hb dX7_quickest_38 rfl (lv_at hl 3 rfl) ?_
    refine ci_X7_181 C M h ⟨Nat.le_of_ble_eq_true rfl, Nat.le_of_ble_eq_true rfl⟩ hl.1 (Nat.le_of_ble_eq_true rfl) dX7_quickest_39 (fun H locs x8 M h => ?_)
    refine lv_ldc (own := RX7) (v := oI 1000000) hx hb C.2.2.2.1 (by rw [← oI_M]; exact C.2.2.2.2.1 _ bw_929) dX7_quickest_42 ?_
    refine lv_istore (lv' := [(6, .int (oI 1000000)), (0, .ref (a 0)), (1, .int (oI p1)), (2, .int (oI p2)), (3, .int (oI p3)), (4, .int (oI p4)), (5, .int (oI p5))]) hx hb dX7_quickest_44 hl (by decide) rfl (fun ls hl => ?_)
    refine lv_iconst (v := oI 0) hx hb dX7_quickest_46 (by decide) ?_
    refine lv_istore (lv' := [(7, .int (oI 0)), (6, .int (oI 1000000)), (0, .ref (a 0)), (1, .int (oI p1)), (2, .int (oI p2)), (3, .int (oI p3)), (4, .int (oI p4)), (5, .int (oI p5))]) hx hb dX7_quickest_47 hl (by decide) rfl (fun ls hl => ?_)
    refine x_jp_el h (fun kx9 ekx9 h => ?_)
    have hkx9 : ∀ (v10 : Int) (x11 : XS) (H : Heap) (locs : List Loc) (ls : Array Slot), kx9 v10 x11 = some z → xmm D (yW T a) A s H locs x11 → lv_has ls 8 [(0, .ref (a 0)), (6, .int (oI v10))] → W p l e { frames := 3, cells := 0, slots := 0, locals := 74 } s m args below meth c H locs 0 0 (xQI below args s D (yW T a) .int z A) (F0 m 124 ls []) := by
      intro v10 x11 H locs ls h M hl
      rw [ekx9] at h
      dsimp only at h
      refine lv_aload_n hx hb dX7_quickest_124 rfl (lv_at hl 0 rfl) ?_
      refine lv_iload hx hb dX7_quickest_125 (lv_at hl 1 rfl) ?_
      refine ci_X7_187 C M h ⟨Nat.le_of_ble_eq_true rfl, Nat.le_of_ble_eq_true rfl⟩ hl.1 (Nat.le_of_ble_eq_true rfl) dX7_quickest_127 (fun r12 H locs x13 M nr12 h => ?_)
      exact xretI C hr M h rfl dX7_quickest_130
    refine x_loop2_ind (P := fun v14 v15 x16 => ∀ (H : Heap) (locs : List Loc) (ls : Array Slot), xmm D (yW T a) A s H locs x16 → lv_has ls 8 [(0, .ref (a 0)), (2, .int (oI p2)), (4, .int (oI p4)), (6, .int (oI v14)), (7, .int (oI v15))] → W p l e { frames := 3, cells := 0, slots := 0, locals := 74 } s m args below meth c H locs 0 0 (xQI below args s D (yW T a) .int z A) (F0 m 49 ls [])) (fun g17 ig17 v14 v15 x16 h => ?_) x_fuel 1000000 0 x8 h H locs ls M (lv_sub hl [2, 4, 6, 1, 0] rfl)
    intro H locs ls M hl
    unfold b_X7_quickest_49 at h
    refine lv_iload hx hb dX7_quickest_49 (lv_at hl 4 rfl) ?_
    refine lv_aload_n hx hb dX7_quickest_51 rfl (lv_at hl 0 rfl) ?_
    refine gf_X7_150 C M dX7_quickest_52 ?_
    refine z_icmp_ge (tgt := 124) hx hb dX7_quickest_55 (by decide) h (fun h => ?_) (fun h => ?_)
    · exact hkx9 v14 x16 H locs ls h M (lv_sub hl [0, 3] rfl)
    · refine lv_aload_n hx hb dX7_quickest_58 rfl (lv_at hl 0 rfl) ?_
      refine gf_X7_74 C M dX7_quickest_59 ?_
      refine lv_iload hx hb dX7_quickest_62 (lv_at hl 4 rfl) ?_
      refine al_y_22 C M dX7_quickest_64 h (fun v18 h => ?_)
      refine x_jp_el h (fun jp19 ejp19 h => ?_)
      have hjp19 : ∀ (v20 : Int) (x21 : XS) (H : Heap) (locs : List Loc) (ls : Array Slot), jp19 v20 x21 = some z → xmm D (yW T a) A s H locs x21 → lv_has ls 8 [(0, .ref (a 0)), (2, .int (oI p2)), (4, .int (oI p4)), (6, .int (oI v20)), (7, .int (oI v15))] → W p l e { frames := 3, cells := 0, slots := 0, locals := 74 } s m args below meth c H locs 0 0 (xQI below args s D (yW T a) .int z A) (F0 m 118 ls []) := by
        intro v20 x21 H locs ls h M hl
        rw [ejp19] at h
        dsimp only at h
        refine x_nm h (fun v22 ev22 h => ?_)
        refine lv_iinc (v := oI v22) (lv' := [(7, .int (oI v22)), (0, .ref (a 0)), (2, .int (oI p2)), (4, .int (oI p4)), (6, .int (oI v20))]) hx hb dX7_quickest_118 hl (k := 4) rfl (by rw [ev22]; exact oI_add _ _) (by decide) rfl (fun ls hl => ?_)
        refine lv_goto (tgt := 49) hx hb dX7_quickest_121 (by decide) ?_
        exact ig17 v20 v22 x21 h H locs ls M (lv_sub hl [1, 2, 3, 4, 0] rfl)
      refine z_if_eq (tgt := 118) hx hb dX7_quickest_65 (by decide) h (fun h => ?_) (fun h => ?_)
      · exact hjp19 v14 x16 H locs ls h M (lv_sub hl [0, 1, 2, 3, 4] rfl)
      · refine lv_aload_n hx hb dX7_quickest_68 rfl (lv_at hl 0 rfl) ?_
        refine gf_X7_19 C M dX7_quickest_69 ?_
        refine lv_aload_n hx hb dX7_quickest_72 rfl (lv_at hl 0 rfl) ?_
        refine gf_X7_56 C M dX7_quickest_73 ?_
        refine lv_iload hx hb dX7_quickest_76 (lv_at hl 4 rfl) ?_
        refine al_y_16 C M dX7_quickest_78 h (fun v23 h => ?_)
        refine al_y_4 C M dX7_quickest_79 h (fun v24 h => ?_)
        refine lv_iload_n hx hb dX7_quickest_80 rfl (lv_at hl 1 rfl) ?_
        refine z_icmp_ne (tgt := 118) hx hb dX7_quickest_81 (by decide) h (fun h => ?_) (fun h => ?_)
        · exact hjp19 v14 x16 H locs ls h M (lv_sub hl [0, 1, 2, 3, 4] rfl)
        · refine lv_aload_n hx hb dX7_quickest_84 rfl (lv_at hl 0 rfl) ?_
          refine gf_X7_65 C M dX7_quickest_85 ?_
          refine lv_iload hx hb dX7_quickest_88 (lv_at hl 4 rfl) ?_
          refine al_y_19 C M dX7_quickest_90 h (fun v25 h => ?_)
          refine lv_iload hx hb dX7_quickest_91 (lv_at hl 2 rfl) ?_
          refine z_icmp_gt (tgt := 118) hx hb dX7_quickest_93 (by decide) h (fun h => ?_) (fun h => ?_)
          · exact hjp19 v14 x16 H locs ls h M (lv_sub hl [0, 1, 2, 3, 4] rfl)
          · refine lv_iload hx hb dX7_quickest_96 (lv_at hl 3 rfl) ?_
            refine lv_aload_n hx hb dX7_quickest_98 rfl (lv_at hl 0 rfl) ?_
            refine gf_X7_65 C M dX7_quickest_99 ?_
            refine lv_iload hx hb dX7_quickest_102 (lv_at hl 4 rfl) ?_
            refine al_y_19 C M dX7_quickest_104 h (fun v26 h => ?_)
            refine lv_aload_n hx hb dX7_quickest_105 rfl (lv_at hl 0 rfl) ?_
            refine gf_X7_68 C M dX7_quickest_106 ?_
            refine lv_iload hx hb dX7_quickest_109 (lv_at hl 4 rfl) ?_
            refine al_y_20 C M dX7_quickest_111 h (fun v27 h => ?_)
            refine z_isub hx hb dX7_quickest_112 ?_
            refine va_mmin (own := RX7) hx hb (C.2.2.1.trans hl.1.symm) C.2.2.2.1 (C.2.2.2.2.1 _ bw_935) (C.2.2.2.2.1 _ bw_512) (C.2.2.2.2.1 _ bw_92) (C.2.2.2.2.1 _ bw_513) (Nat.le_of_ble_eq_true rfl) (Nat.le_of_ble_eq_true rfl) (Nat.zero_le _) (Nat.zero_le _) dX7_quickest_113 ?_
            refine x_topm h (fun v28 h => ?_)
            refine lv_istore (lv' := [(6, .int (oI v28)), (0, .ref (a 0)), (2, .int (oI p2)), (4, .int (oI p4)), (7, .int (oI v15))]) hx hb dX7_quickest_116 hl (by decide) rfl (fun ls hl => ?_)
            exact hjp19 v28 x16 H locs ls h M (lv_sub hl [1, 2, 3, 0, 4] rfl)
  · refine lv_iconst (v := oI (-1)) hx hb dX7_quickest_27 (by decide) ?_
    exact xretI C hr M h rfl dX7_quickest_28
set_option maxHeartbeats 4000000 in
set_option maxRecDepth 100000 in
theorem c_X7_fewest {l : Launch} {D : va_G} {T : ClassId × ClassId} {a : Nat → Nat} {x : XS} {p1 : Int} {p2 : Int} {p3 : Int} {p4 : Int} {p5 : Int} {z : Int × XS} (h : f_X7_fewest x p1 p2 p3 p4 p5 = some z) (sz : Nat) : xMetI l yX7_fewest cX7_fewest 8 .int { frames := 3, cells := 0, slots := 0, locals := 74 } D T (yW T a) sz [.ref (a 0), .int (oI p1), .int (oI p2), .int (oI p3), .int (oI p4), .int (oI p5)] x z := by
  refine xMetI_of (by decide) (Nat.le_of_ble_eq_true rfl) (yW_ad T a) ?_
  intro p e s m args below meth c A ls C hr M hl
  have hx := C.1
  have hb := C.2.1
  have hl : lv_has ls 8 [(0, .ref (a 0)), (1, .int (oI p1)), (2, .int (oI p2)), (3, .int (oI p3)), (4, .int (oI p4)), (5, .int (oI p5))] := hl
  have C : xcx RX7 cX7_fewest 8 D T (yW T a) A p s m args meth c := C
  revert hl M
  generalize ([] : List Loc) = locs
  generalize s.heap = H
  intro M hl
  unfold f_X7_fewest at h
  refine lv_aload_n hx hb dX7_fewest_0 rfl (lv_at hl 0 rfl) ?_
  refine lv_iconst (v := oI 0) hx hb dX7_fewest_1 (by decide) ?_
  refine pf_X7_92 C M dX7_fewest_2 h (fun H locs x1 M h => ?_)
  refine lv_aload_n hx hb dX7_fewest_5 rfl (lv_at hl 0 rfl) ?_
  refine lv_aload_n hx hb dX7_fewest_6 rfl (lv_at hl 0 rfl) ?_
  refine lv_iload_n hx hb dX7_fewest_7 rfl (lv_at hl 1 rfl) ?_
  refine lv_iload_n hx hb dX7_fewest_8 rfl (lv_at hl 2 rfl) ?_
  refine lv_iload_n hx hb dX7_fewest_9 rfl (lv_at hl 3 rfl) ?_
  refine lv_iload hx hb dX7_fewest_10 (lv_at hl 4 rfl) ?_
  refine lv_iload hx hb dX7_fewest_12 (lv_at hl 5 rfl) ?_
  refine ci_X7_173 C M h ⟨Nat.le_of_ble_eq_true rfl, Nat.le_of_ble_eq_true rfl⟩ hl.1 (Nat.le_of_ble_eq_true rfl) dX7_fewest_14 (fun r2 H locs x3 M nr2 h => ?_)
  refine pf_X7_96 C M dX7_fewest_17 h (fun H locs x4 M h => ?_)
  refine lv_aload_n hx hb dX7_fewest_20 rfl (lv_at hl 0 rfl) ?_
  refine gf_X7_96 C M dX7_fewest_21 ?_
  refine z_if_le (tgt := 29) hx hb dX7_fewest_24 (by decide) h (fun h => ?_) (fun h => ?_)
  · refine lv_aload_n hx hb dX7_fewest_29 rfl (lv_at hl 0 rfl) ?_
    refine lv_iload hx hb dX7_fewest_30 (lv_at hl 5 rfl) ?_
    refine lv_iconst (v := oI (-1)) hx hb dX7_fewest_32 (by decide) ?_
    refine ci_X7_177 C M h ⟨Nat.le_of_ble_eq_true rfl, Nat.le_of_ble_eq_true rfl⟩ hl.1 (Nat.le_of_ble_eq_true rfl) dX7_fewest_33 (fun H locs x6 M h => ?_)
    refine lv_aload_n hx hb dX7_fewest_36 rfl (lv_at hl 0 rfl) ?_
    refine lv_iload_n hx hb dX7_fewest_37 rfl (lv_at hl 1 rfl) ?_
    refine lv_iload_n hx hb dX7_fewest_38 rfl (lv_at hl 3 rfl) ?_
    refine ci_X7_181 C M h ⟨Nat.le_of_ble_eq_true rfl, Nat.le_of_ble_eq_true rfl⟩ hl.1 (Nat.le_of_ble_eq_true rfl) dX7_fewest_39 (fun H locs x8 M h => ?_)
    refine lv_ldc (own := RX7) (v := oI 1000000) hx hb C.2.2.2.1 (by rw [← oI_M]; exact C.2.2.2.2.1 _ bw_929) dX7_fewest_42 ?_
    refine lv_istore (lv' := [(6, .int (oI 1000000)), (0, .ref (a 0)), (1, .int (oI p1)), (2, .int (oI p2)), (3, .int (oI p3)), (4, .int (oI p4)), (5, .int (oI p5))]) hx hb dX7_fewest_44 hl (by decide) rfl (fun ls hl => ?_)
    refine lv_iconst (v := oI 0) hx hb dX7_fewest_46 (by decide) ?_
    refine lv_istore (lv' := [(7, .int (oI 0)), (6, .int (oI 1000000)), (0, .ref (a 0)), (1, .int (oI p1)), (2, .int (oI p2)), (3, .int (oI p3)), (4, .int (oI p4)), (5, .int (oI p5))]) hx hb dX7_fewest_47 hl (by decide) rfl (fun ls hl => ?_)
    refine x_jp_el h (fun kx9 ekx9 h => ?_)
    have hkx9 : ∀ (v10 : Int) (x11 : XS) (H : Heap) (locs : List Loc) (ls : Array Slot), kx9 v10 x11 = some z → xmm D (yW T a) A s H locs x11 → lv_has ls 8 [(0, .ref (a 0)), (6, .int (oI v10))] → W p l e { frames := 3, cells := 0, slots := 0, locals := 74 } s m args below meth c H locs 0 0 (xQI below args s D (yW T a) .int z A) (F0 m 116 ls []) := by
      intro v10 x11 H locs ls h M hl
      rw [ekx9] at h
      dsimp only at h
      refine lv_aload_n hx hb dX7_fewest_116 rfl (lv_at hl 0 rfl) ?_
      refine lv_iload hx hb dX7_fewest_117 (lv_at hl 1 rfl) ?_
      refine ci_X7_187 C M h ⟨Nat.le_of_ble_eq_true rfl, Nat.le_of_ble_eq_true rfl⟩ hl.1 (Nat.le_of_ble_eq_true rfl) dX7_fewest_119 (fun r12 H locs x13 M nr12 h => ?_)
      exact xretI C hr M h rfl dX7_fewest_122
    refine x_loop2_ind (P := fun v14 v15 x16 => ∀ (H : Heap) (locs : List Loc) (ls : Array Slot), xmm D (yW T a) A s H locs x16 → lv_has ls 8 [(0, .ref (a 0)), (2, .int (oI p2)), (4, .int (oI p4)), (6, .int (oI v14)), (7, .int (oI v15))] → W p l e { frames := 3, cells := 0, slots := 0, locals := 74 } s m args below meth c H locs 0 0 (xQI below args s D (yW T a) .int z A) (F0 m 49 ls [])) (fun g17 ig17 v14 v15 x16 h => ?_) x_fuel 1000000 0 x8 h H locs ls M (lv_sub hl [2, 4, 6, 1, 0] rfl)
    intro H locs ls M hl
    unfold b_X7_fewest_49 at h
    refine lv_iload hx hb dX7_fewest_49 (lv_at hl 4 rfl) ?_
    refine lv_aload_n hx hb dX7_fewest_51 rfl (lv_at hl 0 rfl) ?_
    refine gf_X7_150 C M dX7_fewest_52 ?_
    refine z_icmp_ge (tgt := 116) hx hb dX7_fewest_55 (by decide) h (fun h => ?_) (fun h => ?_)
    · exact hkx9 v14 x16 H locs ls h M (lv_sub hl [0, 3] rfl)
    · refine lv_aload_n hx hb dX7_fewest_58 rfl (lv_at hl 0 rfl) ?_
      refine gf_X7_74 C M dX7_fewest_59 ?_
      refine lv_iload hx hb dX7_fewest_62 (lv_at hl 4 rfl) ?_
      refine al_y_22 C M dX7_fewest_64 h (fun v18 h => ?_)
      refine x_jp_el h (fun jp19 ejp19 h => ?_)
      have hjp19 : ∀ (v20 : Int) (x21 : XS) (H : Heap) (locs : List Loc) (ls : Array Slot), jp19 v20 x21 = some z → xmm D (yW T a) A s H locs x21 → lv_has ls 8 [(0, .ref (a 0)), (2, .int (oI p2)), (4, .int (oI p4)), (6, .int (oI v20)), (7, .int (oI v15))] → W p l e { frames := 3, cells := 0, slots := 0, locals := 74 } s m args below meth c H locs 0 0 (xQI below args s D (yW T a) .int z A) (F0 m 110 ls []) := by
        intro v20 x21 H locs ls h M hl
        rw [ejp19] at h
        dsimp only at h
        refine x_nm h (fun v22 ev22 h => ?_)
        refine lv_iinc (v := oI v22) (lv' := [(7, .int (oI v22)), (0, .ref (a 0)), (2, .int (oI p2)), (4, .int (oI p4)), (6, .int (oI v20))]) hx hb dX7_fewest_110 hl (k := 4) rfl (by rw [ev22]; exact oI_add _ _) (by decide) rfl (fun ls hl => ?_)
        refine lv_goto (tgt := 49) hx hb dX7_fewest_113 (by decide) ?_
        exact ig17 v20 v22 x21 h H locs ls M (lv_sub hl [1, 2, 3, 4, 0] rfl)
      refine z_if_eq (tgt := 110) hx hb dX7_fewest_65 (by decide) h (fun h => ?_) (fun h => ?_)
      · exact hjp19 v14 x16 H locs ls h M (lv_sub hl [0, 1, 2, 3, 4] rfl)
      · refine lv_aload_n hx hb dX7_fewest_68 rfl (lv_at hl 0 rfl) ?_
        refine gf_X7_19 C M dX7_fewest_69 ?_
        refine lv_aload_n hx hb dX7_fewest_72 rfl (lv_at hl 0 rfl) ?_
        refine gf_X7_56 C M dX7_fewest_73 ?_
        refine lv_iload hx hb dX7_fewest_76 (lv_at hl 4 rfl) ?_
        refine al_y_16 C M dX7_fewest_78 h (fun v23 h => ?_)
        refine al_y_4 C M dX7_fewest_79 h (fun v24 h => ?_)
        refine lv_iload_n hx hb dX7_fewest_80 rfl (lv_at hl 1 rfl) ?_
        refine z_icmp_ne (tgt := 110) hx hb dX7_fewest_81 (by decide) h (fun h => ?_) (fun h => ?_)
        · exact hjp19 v14 x16 H locs ls h M (lv_sub hl [0, 1, 2, 3, 4] rfl)
        · refine lv_aload_n hx hb dX7_fewest_84 rfl (lv_at hl 0 rfl) ?_
          refine gf_X7_65 C M dX7_fewest_85 ?_
          refine lv_iload hx hb dX7_fewest_88 (lv_at hl 4 rfl) ?_
          refine al_y_19 C M dX7_fewest_90 h (fun v25 h => ?_)
          refine lv_iload hx hb dX7_fewest_91 (lv_at hl 2 rfl) ?_
          refine z_icmp_gt (tgt := 110) hx hb dX7_fewest_93 (by decide) h (fun h => ?_) (fun h => ?_)
          · exact hjp19 v14 x16 H locs ls h M (lv_sub hl [0, 1, 2, 3, 4] rfl)
          · refine lv_iload hx hb dX7_fewest_96 (lv_at hl 3 rfl) ?_
            refine lv_aload_n hx hb dX7_fewest_98 rfl (lv_at hl 0 rfl) ?_
            refine gf_X7_71 C M dX7_fewest_99 ?_
            refine lv_iload hx hb dX7_fewest_102 (lv_at hl 4 rfl) ?_
            refine al_y_21 C M dX7_fewest_104 h (fun v26 h => ?_)
            refine va_mmin (own := RX7) hx hb (C.2.2.1.trans hl.1.symm) C.2.2.2.1 (C.2.2.2.2.1 _ bw_935) (C.2.2.2.2.1 _ bw_512) (C.2.2.2.2.1 _ bw_92) (C.2.2.2.2.1 _ bw_513) (Nat.le_of_ble_eq_true rfl) (Nat.le_of_ble_eq_true rfl) (Nat.zero_le _) (Nat.zero_le _) dX7_fewest_105 ?_
            refine x_topm h (fun v27 h => ?_)
            refine lv_istore (lv' := [(6, .int (oI v27)), (0, .ref (a 0)), (2, .int (oI p2)), (4, .int (oI p4)), (7, .int (oI v15))]) hx hb dX7_fewest_108 hl (by decide) rfl (fun ls hl => ?_)
            exact hjp19 v27 x16 H locs ls h M (lv_sub hl [1, 2, 3, 0, 4] rfl)
  · refine lv_iconst (v := oI (-1)) hx hb dX7_fewest_27 (by decide) ?_
    exact xretI C hr M h rfl dX7_fewest_28
set_option maxHeartbeats 4000000 in
set_option maxRecDepth 100000 in
theorem c_X7_isLess {l : Launch} {D : va_G} {T : ClassId × ClassId} {a : Nat → Nat} {x : XS} {p1 : Int} {p2 : Int} {z : Int × XS} (h : f_X7_isLess x p1 p2 = some z) (sz : Nat) : xMetI l yX7_isLess cX7_isLess 3 .boolean { frames := 0, cells := 0, slots := 0, locals := 0 } D T (yW T a) sz [.ref (a 0), .int (oI p1), .int (oI p2)] x z := by
  refine xMetI_of (by decide) (Nat.le_of_ble_eq_true rfl) (yW_ad T a) ?_
  intro p e s m args below meth c A ls C hr M hl
  have hx := C.1
  have hb := C.2.1
  have hl : lv_has ls 3 [(0, .ref (a 0)), (1, .int (oI p1)), (2, .int (oI p2))] := hl
  have C : xcx RX7 cX7_isLess 3 D T (yW T a) A p s m args meth c := C
  revert hl M
  generalize ([] : List Loc) = locs
  generalize s.heap = H
  intro M hl
  unfold f_X7_isLess at h
  refine lv_iload_n hx hb dX7_isLess_0 rfl (lv_at hl 2 rfl) ?_
  refine x_jp_el h (fun jp1 ejp1 h => ?_)
  have hjp1 : ∀ (x2 : XS) (H : Heap) (locs : List Loc) (ls : Array Slot), jp1 x2 = some z → xmm D (yW T a) A s H locs x2 → lv_has ls 3 [] → W p l e { frames := 0, cells := 0, slots := 0, locals := 0 } s m args below meth c H locs 0 0 (xQI below args s D (yW T a) .boolean z A) (F0 m 49 ls []) := by
    intro x2 H locs ls h M hl
    rw [ejp1] at h
    dsimp only at h
    refine lv_iconst (v := oI 1) hx hb dX7_isLess_49 (by decide) ?_
    refine lv_goto (tgt := 54) hx hb dX7_isLess_50 (by decide) ?_
    exact xretI C hr M h nb_1 dX7_isLess_54
  refine z_if_lt (tgt := 49) hx hb dX7_isLess_1 (by decide) h (fun h => ?_) (fun h => ?_)
  · exact hjp1 x H locs ls h M (lv_sub hl [] rfl)
  · refine lv_aload_n hx hb dX7_isLess_4 rfl (lv_at hl 0 rfl) ?_
    refine gf_X7_56 C M dX7_isLess_5 ?_
    refine lv_iload_n hx hb dX7_isLess_8 rfl (lv_at hl 1 rfl) ?_
    refine al_y_16 C M dX7_isLess_9 h (fun v3 h => ?_)
    refine lv_aload_n hx hb dX7_isLess_10 rfl (lv_at hl 0 rfl) ?_
    refine gf_X7_56 C M dX7_isLess_11 ?_
    refine lv_iload_n hx hb dX7_isLess_14 rfl (lv_at hl 2 rfl) ?_
    refine al_y_16 C M dX7_isLess_15 h (fun v4 h => ?_)
    refine z_icmp_lt (tgt := 49) hx hb dX7_isLess_16 (by decide) h (fun h => ?_) (fun h => ?_)
    · exact hjp1 x H locs ls h M (lv_sub hl [] rfl)
    · refine lv_aload_n hx hb dX7_isLess_19 rfl (lv_at hl 0 rfl) ?_
      refine gf_X7_56 C M dX7_isLess_20 ?_
      refine lv_iload_n hx hb dX7_isLess_23 rfl (lv_at hl 1 rfl) ?_
      refine al_y_16 C M dX7_isLess_24 h (fun v5 h => ?_)
      refine lv_aload_n hx hb dX7_isLess_25 rfl (lv_at hl 0 rfl) ?_
      refine gf_X7_56 C M dX7_isLess_26 ?_
      refine lv_iload_n hx hb dX7_isLess_29 rfl (lv_at hl 2 rfl) ?_
      refine al_y_16 C M dX7_isLess_30 h (fun v6 h => ?_)
      refine z_icmp_ne (tgt := 53) hx hb dX7_isLess_31 (by decide) h (fun h => ?_) (fun h => ?_)
      · refine lv_iconst (v := oI 0) hx hb dX7_isLess_53 (by decide) ?_
        exact xretI C hr M h nb_0 dX7_isLess_54
      · refine lv_aload_n hx hb dX7_isLess_34 rfl (lv_at hl 0 rfl) ?_
        refine gf_X7_59 C M dX7_isLess_35 ?_
        refine lv_iload_n hx hb dX7_isLess_38 rfl (lv_at hl 1 rfl) ?_
        refine al_y_17 C M dX7_isLess_39 h (fun v7 h => ?_)
        refine lv_aload_n hx hb dX7_isLess_40 rfl (lv_at hl 0 rfl) ?_
        refine gf_X7_59 C M dX7_isLess_41 ?_
        refine lv_iload_n hx hb dX7_isLess_44 rfl (lv_at hl 2 rfl) ?_
        refine al_y_17 C M dX7_isLess_45 h (fun v8 h => ?_)
        refine z_icmp_ge (tgt := 53) hx hb dX7_isLess_46 (by decide) h (fun h => ?_) (fun h => ?_)
        · refine lv_iconst (v := oI 0) hx hb dX7_isLess_53 (by decide) ?_
          exact xretI C hr M h nb_0 dX7_isLess_54
        · exact hjp1 x H locs ls h M (lv_sub hl [] rfl)
theorem ci_X7_190 {cc : ByteArray} {nL : Nat} {D : va_G} {T : ClassId × ClassId} {a : Nat → Nat} {A : Nat → Prop} {p : Program} {l : Launch} {e : Env} {R : Room} {s : State} {m : MethodId} {args : Array Value} {below : List Frame} {meth : Method} {c : Code} {H : Heap} {locs : List Loc} {Q : State → Prop} {x : XS} {z : Int × XS} {pc : Nat} {ls : Array Slot} {rest : List Value} (C : xcx RX7 cc nL D T (yW T a) A p s m args meth c) (M : xmm D (yW T a) A s H locs x) {p1 p2 : Int} {K : Int → XS → XR} (h : x_call (f_X7_isLess x p1 p2) K = some z) (hR : 0 + 1 ≤ R.frames ∧ 8 + (3 + 11) + 0 ≤ R.locals) (hsz : ls.size = nL) (hrest : (rest.map fun v => v.category).sum ≤ 8) (hdg : decode cc pc = .ok (.invokevirtual 190, 3)) (kk : ∀ (r : Int) (H1 : Heap) (locs1 : List Loc) (x1 : XS), xmm D (yW T a) A s H1 locs1 x1 → narrow .boolean (.int (oI r)) = .int (oI r) → K r x1 = some z → W p l e R s m args below meth c H1 locs1 0 0 Q (F0 m (pc + 3) ls (.int (oI r) :: rest))) : W p l e R s m args below meth c H locs 0 0 Q (F0 m pc ls (.int (oI p2) :: .int (oI p1) :: .ref (a 0) :: rest)) :=
  xcallI_V (As := [.int (oI p1), .int (oI p2)]) (n := 2) C M (fun zc sz ho => c_X7_isLess ho sz) bw_967 bw_964 bw_966 bw_79 bw_91 rfl (by decide +kernel) 0 rfl rfl ⟨rfl, rfl⟩ hR hsz rfl hrest hdg h kk
set_option maxHeartbeats 4000000 in
set_option maxRecDepth 100000 in
theorem c_X7_ways {l : Launch} {D : va_G} {T : ClassId × ClassId} {a : Nat → Nat} {x : XS} {p1 : Int} {p2 : Int} {p3 : Int} {z : Int × XS} (h : f_X7_ways x p1 p2 p3 = some z) (sz : Nat) : xMetI l yX7_ways cX7_ways 10 .int { frames := 2, cells := 0, slots := 0, locals := 48 } D T (yW T a) sz [.ref (a 0), .int (oI p1), .int (oI p2), .int (oI p3)] x z := by
  refine xMetI_of (by decide) (Nat.le_of_ble_eq_true rfl) (yW_ad T a) ?_
  intro p e s m args below meth c A ls C hr M hl
  have hx := C.1
  have hb := C.2.1
  have hl : lv_has ls 10 [(0, .ref (a 0)), (1, .int (oI p1)), (2, .int (oI p2)), (3, .int (oI p3))] := hl
  have C : xcx RX7 cX7_ways 10 D T (yW T a) A p s m args meth c := C
  revert hl M
  generalize ([] : List Loc) = locs
  generalize s.heap = H
  intro M hl
  unfold f_X7_ways at h
  refine lv_aload_n hx hb dX7_ways_0 rfl (lv_at hl 0 rfl) ?_
  refine lv_iload_n hx hb dX7_ways_1 rfl (lv_at hl 1 rfl) ?_
  refine lv_iload_n hx hb dX7_ways_2 rfl (lv_at hl 3 rfl) ?_
  refine ci_X7_181 C M h ⟨Nat.le_of_ble_eq_true rfl, Nat.le_of_ble_eq_true rfl⟩ hl.1 (Nat.le_of_ble_eq_true rfl) dX7_ways_3 (fun H locs x2 M h => ?_)
  refine lv_aload_n hx hb dX7_ways_6 rfl (lv_at hl 0 rfl) ?_
  refine lv_iload_n hx hb dX7_ways_7 rfl (lv_at hl 2 rfl) ?_
  refine ci_X7_184 C M h ⟨Nat.le_of_ble_eq_true rfl, Nat.le_of_ble_eq_true rfl⟩ hl.1 (Nat.le_of_ble_eq_true rfl) dX7_ways_8 (fun r3 H locs x4 M nr3 h => ?_)
  refine lv_istore (lv' := [(4, .int (oI r3)), (0, .ref (a 0)), (1, .int (oI p1)), (2, .int (oI p2)), (3, .int (oI p3))]) hx hb dX7_ways_11 hl (by decide) rfl (fun ls hl => ?_)
  refine lv_iload hx hb dX7_ways_13 (lv_at hl 0 rfl) ?_
  refine lv_ldc (own := RX7) (v := oI 1000000) hx hb C.2.2.2.1 (by rw [← oI_M]; exact C.2.2.2.2.1 _ bw_929) dX7_ways_15 ?_
  refine z_icmp_ne (tgt := 22) hx hb dX7_ways_17 (by decide) h (fun h => ?_) (fun h => ?_)
  · refine lv_ldc (own := RX7) (v := oI 1000000) hx hb C.2.2.2.1 (by rw [← oI_M]; exact C.2.2.2.2.1 _ bw_929) dX7_ways_22 ?_
    refine lv_istore (lv' := [(5, .int (oI 1000000)), (4, .int (oI r3)), (0, .ref (a 0)), (1, .int (oI p1)), (2, .int (oI p2)), (3, .int (oI p3))]) hx hb dX7_ways_24 hl (by decide) rfl (fun ls hl => ?_)
    refine lv_iconst (v := oI 0) hx hb dX7_ways_26 (by decide) ?_
    refine lv_istore (lv' := [(6, .int (oI 0)), (5, .int (oI 1000000)), (4, .int (oI r3)), (0, .ref (a 0)), (1, .int (oI p1)), (2, .int (oI p2)), (3, .int (oI p3))]) hx hb dX7_ways_27 hl (by decide) rfl (fun ls hl => ?_)
    refine x_jp_el h (fun kx5 ekx5 h => ?_)
    have hkx5 : ∀ (v6 : Int) (x7 : XS) (H : Heap) (locs : List Loc) (ls : Array Slot), kx5 v6 x7 = some z → xmm D (yW T a) A s H locs x7 → lv_has ls 10 [(0, .ref (a 0)), (2, .int (oI p2)), (4, .int (oI r3)), (5, .int (oI v6))] → W p l e { frames := 2, cells := 0, slots := 0, locals := 48 } s m args below meth c H locs 0 0 (xQI below args s D (yW T a) .int z A) (F0 m 96 ls []) := by
      intro v6 x7 H locs ls h M hl
      rw [ekx5] at h
      dsimp only at h
      refine lv_iconst (v := oI (-1)) hx hb dX7_ways_96 (by decide) ?_
      refine lv_istore (lv' := [(6, .int (oI (-1))), (0, .ref (a 0)), (2, .int (oI p2)), (4, .int (oI r3)), (5, .int (oI v6))]) hx hb dX7_ways_97 hl (by decide) rfl (fun ls hl => ?_)
      refine lv_iconst (v := oI 0) hx hb dX7_ways_99 (by decide) ?_
      refine lv_istore (lv' := [(7, .int (oI 0)), (6, .int (oI (-1))), (0, .ref (a 0)), (2, .int (oI p2)), (4, .int (oI r3)), (5, .int (oI v6))]) hx hb dX7_ways_100 hl (by decide) rfl (fun ls hl => ?_)
      refine x_jp_el h (fun kx8 ekx8 h => ?_)
      have hkx8 : ∀ (v9 : Int) (x10 : XS) (H : Heap) (locs : List Loc) (ls : Array Slot), kx8 v9 x10 = some z → xmm D (yW T a) A s H locs x10 → lv_has ls 10 [(0, .ref (a 0)), (5, .int (oI v6)), (6, .int (oI v9))] → W p l e { frames := 2, cells := 0, slots := 0, locals := 48 } s m args below meth c H locs 0 0 (xQI below args s D (yW T a) .int z A) (F0 m 182 ls []) := by
        intro v9 x10 H locs ls h M hl
        rw [ekx8] at h
        dsimp only at h
        refine lv_iload hx hb dX7_ways_182 (lv_at hl 1 rfl) ?_
        refine lv_iconst (v := oI 1) hx hb dX7_ways_184 (by decide) ?_
        refine z_isub hx hb dX7_ways_185 ?_
        refine x_top h (fun v11 h => ?_)
        refine lv_istore (lv' := [(7, .int (oI v11)), (0, .ref (a 0)), (5, .int (oI v6)), (6, .int (oI v9))]) hx hb dX7_ways_186 hl (by decide) rfl (fun ls hl => ?_)
        refine x_jp_el h (fun kx12 ekx12 h => ?_)
        have hkx12 : ∀ (x13 : XS) (H : Heap) (locs : List Loc) (ls : Array Slot), kx12 x13 = some z → xmm D (yW T a) A s H locs x13 → lv_has ls 10 [(5, .int (oI v6))] → W p l e { frames := 2, cells := 0, slots := 0, locals := 48 } s m args below meth c H locs 0 0 (xQI below args s D (yW T a) .int z A) (F0 m 311 ls []) := by
          intro x13 H locs ls h M hl
          rw [ekx12] at h
          dsimp only at h
          refine lv_iload hx hb dX7_ways_311 (lv_at hl 0 rfl) ?_
          exact xretI C hr M h rfl dX7_ways_313
        refine x_loop2_ind (P := fun v14 v15 x16 => ∀ (H : Heap) (locs : List Loc) (ls : Array Slot), xmm D (yW T a) A s H locs x16 → lv_has ls 10 [(0, .ref (a 0)), (5, .int (oI v6)), (6, .int (oI v14)), (7, .int (oI v15))] → W p l e { frames := 2, cells := 0, slots := 0, locals := 48 } s m args below meth c H locs 0 0 (xQI below args s D (yW T a) .int z A) (F0 m 188 ls [])) (fun g17 ig17 v14 v15 x16 h => ?_) x_fuel v9 v11 x10 h H locs ls M (lv_sub hl [1, 2, 3, 0] rfl)
        intro H locs ls M hl
        unfold b_X7_ways_188 at h
        refine lv_iload hx hb dX7_ways_188 (lv_at hl 3 rfl) ?_
        refine z_if_lt (tgt := 311) hx hb dX7_ways_190 (by decide) h (fun h => ?_) (fun h => ?_)
        · exact hkx12 x16 H locs ls h M (lv_sub hl [1] rfl)
        · refine lv_aload_n hx hb dX7_ways_193 rfl (lv_at hl 0 rfl) ?_
          refine gf_X7_77 C M dX7_ways_194 ?_
          refine lv_iconst (v := oI 2) hx hb dX7_ways_197 (by decide) ?_
          refine lv_iload hx hb dX7_ways_198 (lv_at hl 3 rfl) ?_
          refine z_imul hx hb dX7_ways_200 ?_
          refine lv_aload_n hx hb dX7_ways_201 rfl (lv_at hl 0 rfl) ?_
          refine gf_X7_56 C M dX7_ways_202 ?_
          refine lv_iload hx hb dX7_ways_205 (lv_at hl 2 rfl) ?_
          refine al_y_16 C M dX7_ways_207 h (fun v18 h => ?_)
          refine as_y_23 C M dX7_ways_208 h (fun H locs x19 M h => ?_)
          refine lv_aload_n hx hb dX7_ways_209 rfl (lv_at hl 0 rfl) ?_
          refine gf_X7_77 C M dX7_ways_210 ?_
          refine lv_iconst (v := oI 2) hx hb dX7_ways_213 (by decide) ?_
          refine lv_iload hx hb dX7_ways_214 (lv_at hl 3 rfl) ?_
          refine z_imul hx hb dX7_ways_216 ?_
          refine lv_iconst (v := oI 1) hx hb dX7_ways_217 (by decide) ?_
          refine z_iadd hx hb dX7_ways_218 ?_
          refine lv_aload_n hx hb dX7_ways_219 rfl (lv_at hl 0 rfl) ?_
          refine gf_X7_59 C M dX7_ways_220 ?_
          refine lv_iload hx hb dX7_ways_223 (lv_at hl 2 rfl) ?_
          refine al_y_17 C M dX7_ways_225 h (fun v20 h => ?_)
          refine as_y_23 C M dX7_ways_226 h (fun H locs x21 M h => ?_)
          refine lv_iconst (v := oI (-1)) hx hb dX7_ways_227 (by decide) ?_
          refine lv_istore (lv' := [(8, .int (oI (-1))), (0, .ref (a 0)), (5, .int (oI v6)), (6, .int (oI v14)), (7, .int (oI v15))]) hx hb dX7_ways_228 hl (by decide) rfl (fun ls hl => ?_)
          refine lv_iconst (v := oI 0) hx hb dX7_ways_230 (by decide) ?_
          refine lv_istore (lv' := [(9, .int (oI 0)), (8, .int (oI (-1))), (0, .ref (a 0)), (5, .int (oI v6)), (6, .int (oI v14)), (7, .int (oI v15))]) hx hb dX7_ways_231 hl (by decide) rfl (fun ls hl => ?_)
          refine x_jp_el h (fun kx22 ekx22 h => ?_)
          have hkx22 : ∀ (v23 : Int) (x24 : XS) (H : Heap) (locs : List Loc) (ls : Array Slot), kx22 v23 x24 = some z → xmm D (yW T a) A s H locs x24 → lv_has ls 10 [(0, .ref (a 0)), (5, .int (oI v6)), (7, .int (oI v15)), (8, .int (oI v23))] → W p l e { frames := 2, cells := 0, slots := 0, locals := 48 } s m args below meth c H locs 0 0 (xQI below args s D (yW T a) .int z A) (F0 m 301 ls []) := by
            intro v23 x24 H locs ls h M hl
            rw [ekx22] at h
            dsimp only at h
            refine lv_iload hx hb dX7_ways_301 (lv_at hl 3 rfl) ?_
            refine lv_istore (lv' := [(6, .int (oI v23)), (0, .ref (a 0)), (5, .int (oI v6)), (7, .int (oI v15)), (8, .int (oI v23))]) hx hb dX7_ways_303 hl (by decide) rfl (fun ls hl => ?_)
            refine x_nm h (fun v25 ev25 h => ?_)
            refine lv_iinc (v := oI v25) (lv' := [(7, .int (oI v25)), (6, .int (oI v23)), (0, .ref (a 0)), (5, .int (oI v6)), (8, .int (oI v23))]) hx hb dX7_ways_305 hl (k := 3) rfl (by rw [ev25]; exact oI_add _ _) (by decide) rfl (fun ls hl => ?_)
            refine lv_goto (tgt := 188) hx hb dX7_ways_308 (by decide) ?_
            exact ig17 v23 v25 x24 h H locs ls M (lv_sub hl [2, 3, 1, 0] rfl)
          refine x_loop2_ind (P := fun v26 v27 x28 => ∀ (H : Heap) (locs : List Loc) (ls : Array Slot), xmm D (yW T a) A s H locs x28 → lv_has ls 10 [(0, .ref (a 0)), (5, .int (oI v6)), (6, .int (oI v14)), (7, .int (oI v15)), (8, .int (oI v26)), (9, .int (oI v27))] → W p l e { frames := 2, cells := 0, slots := 0, locals := 48 } s m args below meth c H locs 0 0 (xQI below args s D (yW T a) .int z A) (F0 m 233 ls [])) (fun g29 ig29 v26 v27 x28 h => ?_) x_fuel (-1) 0 x21 h H locs ls M (lv_sub hl [2, 3, 4, 5, 1, 0] rfl)
          intro H locs ls M hl
          unfold b_X7_ways_233 at h
          refine lv_iload hx hb dX7_ways_233 (lv_at hl 5 rfl) ?_
          refine lv_aload_n hx hb dX7_ways_235 rfl (lv_at hl 0 rfl) ?_
          refine gf_X7_150 C M dX7_ways_236 ?_
          refine z_icmp_ge (tgt := 301) hx hb dX7_ways_239 (by decide) h (fun h => ?_) (fun h => ?_)
          · exact hkx22 v26 x28 H locs ls h M (lv_sub hl [0, 1, 3, 4] rfl)
          · refine lv_iload hx hb dX7_ways_242 (lv_at hl 3 rfl) ?_
            refine z_if_le (tgt := 301) hx hb dX7_ways_244 (by decide) h (fun h => ?_) (fun h => ?_)
            · exact hkx22 v26 x28 H locs ls h M (lv_sub hl [0, 1, 3, 4] rfl)
            · refine lv_aload_n hx hb dX7_ways_247 rfl (lv_at hl 0 rfl) ?_
              refine gf_X7_74 C M dX7_ways_248 ?_
              refine lv_iload hx hb dX7_ways_251 (lv_at hl 5 rfl) ?_
              refine al_y_22 C M dX7_ways_253 h (fun v30 h => ?_)
              refine x_jp_el h (fun jp31 ejp31 h => ?_)
              have hjp31 : ∀ (v32 : Int) (x33 : XS) (H : Heap) (locs : List Loc) (ls : Array Slot), jp31 v32 x33 = some z → xmm D (yW T a) A s H locs x33 → lv_has ls 10 [(0, .ref (a 0)), (5, .int (oI v6)), (6, .int (oI v14)), (7, .int (oI v15)), (8, .int (oI v32)), (9, .int (oI v27))] → W p l e { frames := 2, cells := 0, slots := 0, locals := 48 } s m args below meth c H locs 0 0 (xQI below args s D (yW T a) .int z A) (F0 m 295 ls []) := by
                intro v32 x33 H locs ls h M hl
                rw [ejp31] at h
                dsimp only at h
                refine x_nm h (fun v34 ev34 h => ?_)
                refine lv_iinc (v := oI v34) (lv' := [(9, .int (oI v34)), (0, .ref (a 0)), (5, .int (oI v6)), (6, .int (oI v14)), (7, .int (oI v15)), (8, .int (oI v32))]) hx hb dX7_ways_295 hl (k := 5) rfl (by rw [ev34]; exact oI_add _ _) (by decide) rfl (fun ls hl => ?_)
                refine lv_goto (tgt := 233) hx hb dX7_ways_298 (by decide) ?_
                exact ig29 v32 v34 x33 h H locs ls M (lv_sub hl [1, 2, 3, 4, 5, 0] rfl)
              refine z_if_eq (tgt := 295) hx hb dX7_ways_254 (by decide) h (fun h => ?_) (fun h => ?_)
              · exact hjp31 v26 x28 H locs ls h M (lv_sub hl [0, 1, 2, 3, 4, 5] rfl)
              · refine lv_aload_n hx hb dX7_ways_257 rfl (lv_at hl 0 rfl) ?_
                refine gf_X7_71 C M dX7_ways_258 ?_
                refine lv_iload hx hb dX7_ways_261 (lv_at hl 5 rfl) ?_
                refine al_y_21 C M dX7_ways_263 h (fun v35 h => ?_)
                refine lv_iload hx hb dX7_ways_264 (lv_at hl 3 rfl) ?_
                refine z_icmp_ne (tgt := 295) hx hb dX7_ways_266 (by decide) h (fun h => ?_) (fun h => ?_)
                · exact hjp31 v26 x28 H locs ls h M (lv_sub hl [0, 1, 2, 3, 4, 5] rfl)
                · refine lv_aload_n hx hb dX7_ways_269 rfl (lv_at hl 0 rfl) ?_
                  refine lv_iload hx hb dX7_ways_270 (lv_at hl 5 rfl) ?_
                  refine lv_iload hx hb dX7_ways_272 (lv_at hl 2 rfl) ?_
                  refine ci_X7_161 C M h ⟨Nat.le_of_ble_eq_true rfl, Nat.le_of_ble_eq_true rfl⟩ hl.1 (Nat.le_of_ble_eq_true rfl) dX7_ways_274 (fun r36 H locs x37 M nr36 h => ?_)
                  refine z_if_eq (tgt := 295) hx hb dX7_ways_277 (by decide) h (fun h => ?_) (fun h => ?_)
                  · exact hjp31 v26 x37 H locs ls h M (lv_sub hl [0, 1, 2, 3, 4, 5] rfl)
                  · refine lv_aload_n hx hb dX7_ways_280 rfl (lv_at hl 0 rfl) ?_
                    refine lv_iload hx hb dX7_ways_281 (lv_at hl 5 rfl) ?_
                    refine lv_iload hx hb dX7_ways_283 (lv_at hl 4 rfl) ?_
                    refine ci_X7_190 C M h ⟨Nat.le_of_ble_eq_true rfl, Nat.le_of_ble_eq_true rfl⟩ hl.1 (Nat.le_of_ble_eq_true rfl) dX7_ways_285 (fun r38 H locs x39 M nr38 h => ?_)
                    refine z_if_eq (tgt := 295) hx hb dX7_ways_288 (by decide) h (fun h => ?_) (fun h => ?_)
                    · exact hjp31 v26 x39 H locs ls h M (lv_sub hl [0, 1, 2, 3, 4, 5] rfl)
                    · refine lv_iload hx hb dX7_ways_291 (lv_at hl 5 rfl) ?_
                      refine lv_istore (lv' := [(8, .int (oI v27)), (0, .ref (a 0)), (5, .int (oI v6)), (6, .int (oI v14)), (7, .int (oI v15)), (9, .int (oI v27))]) hx hb dX7_ways_293 hl (by decide) rfl (fun ls hl => ?_)
                      exact hjp31 v27 x39 H locs ls h M (lv_sub hl [1, 2, 3, 4, 0, 5] rfl)
      refine x_loop2_ind (P := fun v40 v41 x42 => ∀ (H : Heap) (locs : List Loc) (ls : Array Slot), xmm D (yW T a) A s H locs x42 → lv_has ls 10 [(0, .ref (a 0)), (2, .int (oI p2)), (4, .int (oI r3)), (5, .int (oI v6)), (6, .int (oI v40)), (7, .int (oI v41))] → W p l e { frames := 2, cells := 0, slots := 0, locals := 48 } s m args below meth c H locs 0 0 (xQI below args s D (yW T a) .int z A) (F0 m 102 ls [])) (fun g43 ig43 v40 v41 x42 h => ?_) x_fuel (-1) 0 x7 h H locs ls M (lv_sub hl [2, 3, 4, 5, 1, 0] rfl)
      intro H locs ls M hl
      unfold b_X7_ways_102 at h
      refine lv_iload hx hb dX7_ways_102 (lv_at hl 5 rfl) ?_
      refine lv_aload_n hx hb dX7_ways_104 rfl (lv_at hl 0 rfl) ?_
      refine gf_X7_150 C M dX7_ways_105 ?_
      refine z_icmp_ge (tgt := 182) hx hb dX7_ways_108 (by decide) h (fun h => ?_) (fun h => ?_)
      · exact hkx8 v40 x42 H locs ls h M (lv_sub hl [0, 3, 4] rfl)
      · refine lv_aload_n hx hb dX7_ways_111 rfl (lv_at hl 0 rfl) ?_
        refine gf_X7_74 C M dX7_ways_112 ?_
        refine lv_iload hx hb dX7_ways_115 (lv_at hl 5 rfl) ?_
        refine al_y_22 C M dX7_ways_117 h (fun v44 h => ?_)
        refine x_jp_el h (fun jp45 ejp45 h => ?_)
        have hjp45 : ∀ (v46 : Int) (x47 : XS) (H : Heap) (locs : List Loc) (ls : Array Slot), jp45 v46 x47 = some z → xmm D (yW T a) A s H locs x47 → lv_has ls 10 [(0, .ref (a 0)), (2, .int (oI p2)), (4, .int (oI r3)), (5, .int (oI v6)), (6, .int (oI v46)), (7, .int (oI v41))] → W p l e { frames := 2, cells := 0, slots := 0, locals := 48 } s m args below meth c H locs 0 0 (xQI below args s D (yW T a) .int z A) (F0 m 176 ls []) := by
          intro v46 x47 H locs ls h M hl
          rw [ejp45] at h
          dsimp only at h
          refine x_nm h (fun v48 ev48 h => ?_)
          refine lv_iinc (v := oI v48) (lv' := [(7, .int (oI v48)), (0, .ref (a 0)), (2, .int (oI p2)), (4, .int (oI r3)), (5, .int (oI v6)), (6, .int (oI v46))]) hx hb dX7_ways_176 hl (k := 5) rfl (by rw [ev48]; exact oI_add _ _) (by decide) rfl (fun ls hl => ?_)
          refine lv_goto (tgt := 102) hx hb dX7_ways_179 (by decide) ?_
          exact ig43 v46 v48 x47 h H locs ls M (lv_sub hl [1, 2, 3, 4, 5, 0] rfl)
        refine z_if_eq (tgt := 176) hx hb dX7_ways_118 (by decide) h (fun h => ?_) (fun h => ?_)
        · exact hjp45 v40 x42 H locs ls h M (lv_sub hl [0, 1, 2, 3, 4, 5] rfl)
        · refine lv_aload_n hx hb dX7_ways_121 rfl (lv_at hl 0 rfl) ?_
          refine gf_X7_19 C M dX7_ways_122 ?_
          refine lv_aload_n hx hb dX7_ways_125 rfl (lv_at hl 0 rfl) ?_
          refine gf_X7_56 C M dX7_ways_126 ?_
          refine lv_iload hx hb dX7_ways_129 (lv_at hl 5 rfl) ?_
          refine al_y_16 C M dX7_ways_131 h (fun v49 h => ?_)
          refine al_y_4 C M dX7_ways_132 h (fun v50 h => ?_)
          refine lv_iload_n hx hb dX7_ways_133 rfl (lv_at hl 1 rfl) ?_
          refine z_icmp_ne (tgt := 176) hx hb dX7_ways_134 (by decide) h (fun h => ?_) (fun h => ?_)
          · exact hjp45 v40 x42 H locs ls h M (lv_sub hl [0, 1, 2, 3, 4, 5] rfl)
          · refine lv_aload_n hx hb dX7_ways_137 rfl (lv_at hl 0 rfl) ?_
            refine gf_X7_65 C M dX7_ways_138 ?_
            refine lv_iload hx hb dX7_ways_141 (lv_at hl 5 rfl) ?_
            refine al_y_19 C M dX7_ways_143 h (fun v51 h => ?_)
            refine lv_iload hx hb dX7_ways_144 (lv_at hl 2 rfl) ?_
            refine z_icmp_ne (tgt := 176) hx hb dX7_ways_146 (by decide) h (fun h => ?_) (fun h => ?_)
            · exact hjp45 v40 x42 H locs ls h M (lv_sub hl [0, 1, 2, 3, 4, 5] rfl)
            · refine lv_aload_n hx hb dX7_ways_149 rfl (lv_at hl 0 rfl) ?_
              refine gf_X7_71 C M dX7_ways_150 ?_
              refine lv_iload hx hb dX7_ways_153 (lv_at hl 5 rfl) ?_
              refine al_y_21 C M dX7_ways_155 h (fun v52 h => ?_)
              refine lv_iload hx hb dX7_ways_156 (lv_at hl 3 rfl) ?_
              refine z_icmp_ne (tgt := 176) hx hb dX7_ways_158 (by decide) h (fun h => ?_) (fun h => ?_)
              · exact hjp45 v40 x42 H locs ls h M (lv_sub hl [0, 1, 2, 3, 4, 5] rfl)
              · refine lv_aload_n hx hb dX7_ways_161 rfl (lv_at hl 0 rfl) ?_
                refine lv_iload hx hb dX7_ways_162 (lv_at hl 5 rfl) ?_
                refine lv_iload hx hb dX7_ways_164 (lv_at hl 4 rfl) ?_
                refine ci_X7_190 C M h ⟨Nat.le_of_ble_eq_true rfl, Nat.le_of_ble_eq_true rfl⟩ hl.1 (Nat.le_of_ble_eq_true rfl) dX7_ways_166 (fun r53 H locs x54 M nr53 h => ?_)
                refine z_if_eq (tgt := 176) hx hb dX7_ways_169 (by decide) h (fun h => ?_) (fun h => ?_)
                · exact hjp45 v40 x54 H locs ls h M (lv_sub hl [0, 1, 2, 3, 4, 5] rfl)
                · refine lv_iload hx hb dX7_ways_172 (lv_at hl 5 rfl) ?_
                  refine lv_istore (lv' := [(6, .int (oI v41)), (0, .ref (a 0)), (2, .int (oI p2)), (4, .int (oI r3)), (5, .int (oI v6)), (7, .int (oI v41))]) hx hb dX7_ways_174 hl (by decide) rfl (fun ls hl => ?_)
                  exact hjp45 v41 x54 H locs ls h M (lv_sub hl [1, 2, 3, 4, 0, 5] rfl)
    refine x_loop2_ind (P := fun v55 v56 x57 => ∀ (H : Heap) (locs : List Loc) (ls : Array Slot), xmm D (yW T a) A s H locs x57 → lv_has ls 10 [(0, .ref (a 0)), (2, .int (oI p2)), (4, .int (oI r3)), (5, .int (oI v55)), (6, .int (oI v56))] → W p l e { frames := 2, cells := 0, slots := 0, locals := 48 } s m args below meth c H locs 0 0 (xQI below args s D (yW T a) .int z A) (F0 m 29 ls [])) (fun g58 ig58 v55 v56 x57 h => ?_) x_fuel 1000000 0 x4 h H locs ls M (lv_sub hl [3, 5, 2, 1, 0] rfl)
    intro H locs ls M hl
    unfold b_X7_ways_29 at h
    refine lv_iload hx hb dX7_ways_29 (lv_at hl 4 rfl) ?_
    refine lv_aload_n hx hb dX7_ways_31 rfl (lv_at hl 0 rfl) ?_
    refine gf_X7_150 C M dX7_ways_32 ?_
    refine z_icmp_ge (tgt := 96) hx hb dX7_ways_35 (by decide) h (fun h => ?_) (fun h => ?_)
    · exact hkx5 v55 x57 H locs ls h M (lv_sub hl [0, 1, 2, 3] rfl)
    · refine lv_aload_n hx hb dX7_ways_38 rfl (lv_at hl 0 rfl) ?_
      refine gf_X7_74 C M dX7_ways_39 ?_
      refine lv_iload hx hb dX7_ways_42 (lv_at hl 4 rfl) ?_
      refine al_y_22 C M dX7_ways_44 h (fun v59 h => ?_)
      refine x_jp_el h (fun jp60 ejp60 h => ?_)
      have hjp60 : ∀ (v61 : Int) (x62 : XS) (H : Heap) (locs : List Loc) (ls : Array Slot), jp60 v61 x62 = some z → xmm D (yW T a) A s H locs x62 → lv_has ls 10 [(0, .ref (a 0)), (2, .int (oI p2)), (4, .int (oI r3)), (5, .int (oI v61)), (6, .int (oI v56))] → W p l e { frames := 2, cells := 0, slots := 0, locals := 48 } s m args below meth c H locs 0 0 (xQI below args s D (yW T a) .int z A) (F0 m 90 ls []) := by
        intro v61 x62 H locs ls h M hl
        rw [ejp60] at h
        dsimp only at h
        refine x_nm h (fun v63 ev63 h => ?_)
        refine lv_iinc (v := oI v63) (lv' := [(6, .int (oI v63)), (0, .ref (a 0)), (2, .int (oI p2)), (4, .int (oI r3)), (5, .int (oI v61))]) hx hb dX7_ways_90 hl (k := 4) rfl (by rw [ev63]; exact oI_add _ _) (by decide) rfl (fun ls hl => ?_)
        refine lv_goto (tgt := 29) hx hb dX7_ways_93 (by decide) ?_
        exact ig58 v61 v63 x62 h H locs ls M (lv_sub hl [1, 2, 3, 4, 0] rfl)
      refine z_if_eq (tgt := 90) hx hb dX7_ways_45 (by decide) h (fun h => ?_) (fun h => ?_)
      · exact hjp60 v55 x57 H locs ls h M (lv_sub hl [0, 1, 2, 3, 4] rfl)
      · refine lv_aload_n hx hb dX7_ways_48 rfl (lv_at hl 0 rfl) ?_
        refine gf_X7_19 C M dX7_ways_49 ?_
        refine lv_aload_n hx hb dX7_ways_52 rfl (lv_at hl 0 rfl) ?_
        refine gf_X7_56 C M dX7_ways_53 ?_
        refine lv_iload hx hb dX7_ways_56 (lv_at hl 4 rfl) ?_
        refine al_y_16 C M dX7_ways_58 h (fun v64 h => ?_)
        refine al_y_4 C M dX7_ways_59 h (fun v65 h => ?_)
        refine lv_iload_n hx hb dX7_ways_60 rfl (lv_at hl 1 rfl) ?_
        refine z_icmp_ne (tgt := 90) hx hb dX7_ways_61 (by decide) h (fun h => ?_) (fun h => ?_)
        · exact hjp60 v55 x57 H locs ls h M (lv_sub hl [0, 1, 2, 3, 4] rfl)
        · refine lv_aload_n hx hb dX7_ways_64 rfl (lv_at hl 0 rfl) ?_
          refine gf_X7_65 C M dX7_ways_65 ?_
          refine lv_iload hx hb dX7_ways_68 (lv_at hl 4 rfl) ?_
          refine al_y_19 C M dX7_ways_70 h (fun v66 h => ?_)
          refine lv_iload hx hb dX7_ways_71 (lv_at hl 2 rfl) ?_
          refine z_icmp_ne (tgt := 90) hx hb dX7_ways_73 (by decide) h (fun h => ?_) (fun h => ?_)
          · exact hjp60 v55 x57 H locs ls h M (lv_sub hl [0, 1, 2, 3, 4] rfl)
          · refine lv_iload hx hb dX7_ways_76 (lv_at hl 3 rfl) ?_
            refine lv_aload_n hx hb dX7_ways_78 rfl (lv_at hl 0 rfl) ?_
            refine gf_X7_71 C M dX7_ways_79 ?_
            refine lv_iload hx hb dX7_ways_82 (lv_at hl 4 rfl) ?_
            refine al_y_21 C M dX7_ways_84 h (fun v67 h => ?_)
            refine va_mmin (own := RX7) hx hb (C.2.2.1.trans hl.1.symm) C.2.2.2.1 (C.2.2.2.2.1 _ bw_935) (C.2.2.2.2.1 _ bw_512) (C.2.2.2.2.1 _ bw_92) (C.2.2.2.2.1 _ bw_513) (Nat.le_of_ble_eq_true rfl) (Nat.le_of_ble_eq_true rfl) (Nat.zero_le _) (Nat.zero_le _) dX7_ways_85 ?_
            refine x_topm h (fun v68 h => ?_)
            refine lv_istore (lv' := [(5, .int (oI v68)), (0, .ref (a 0)), (2, .int (oI p2)), (4, .int (oI r3)), (6, .int (oI v56))]) hx hb dX7_ways_88 hl (by decide) rfl (fun ls hl => ?_)
            exact hjp60 v68 x57 H locs ls h M (lv_sub hl [1, 2, 3, 0, 4] rfl)
  · refine lv_iconst (v := oI 0) hx hb dX7_ways_20 (by decide) ?_
    exact xretI C hr M h rfl dX7_ways_21
theorem ci_X7_193 {cc : ByteArray} {nL : Nat} {D : va_G} {T : ClassId × ClassId} {a : Nat → Nat} {A : Nat → Prop} {p : Program} {l : Launch} {e : Env} {R : Room} {s : State} {m : MethodId} {args : Array Value} {below : List Frame} {meth : Method} {c : Code} {H : Heap} {locs : List Loc} {Q : State → Prop} {x : XS} {z : Int × XS} {pc : Nat} {ls : Array Slot} {rest : List Value} (C : xcx RX7 cc nL D T (yW T a) A p s m args meth c) (M : xmm D (yW T a) A s H locs x) {p1 p2 p3 : Int} {K : Int → XS → XR} (h : x_call (f_X7_ways x p1 p2 p3) K = some z) (hR : 2 + 1 ≤ R.frames ∧ 8 + (10 + 11) + 48 ≤ R.locals) (hsz : ls.size = nL) (hrest : (rest.map fun v => v.category).sum ≤ 8) (hdg : decode cc pc = .ok (.invokevirtual 193, 3)) (kk : ∀ (r : Int) (H1 : Heap) (locs1 : List Loc) (x1 : XS), xmm D (yW T a) A s H1 locs1 x1 → narrow .int (.int (oI r)) = .int (oI r) → K r x1 = some z → W p l e R s m args below meth c H1 locs1 0 0 Q (F0 m (pc + 3) ls (.int (oI r) :: rest))) : W p l e R s m args below meth c H locs 0 0 Q (F0 m pc ls (.int (oI p3) :: .int (oI p2) :: .int (oI p1) :: .ref (a 0) :: rest)) :=
  xcallI_V (As := [.int (oI p1), .int (oI p2), .int (oI p3)]) (n := 3) C M (fun zc sz ho => c_X7_ways ho sz) bw_963 bw_960 bw_962 bw_78 bw_91 rfl (by decide +kernel) 0 rfl rfl ⟨rfl, rfl⟩ hR hsz rfl hrest hdg h kk
set_option maxHeartbeats 4000000 in
set_option maxRecDepth 100000 in
theorem c_X7_way {l : Launch} {D : va_G} {T : ClassId × ClassId} {a : Nat → Nat} {x : XS} {p1 : Int} {p2 : Int} {p3 : Int} {p4 : Int} {z : Int × XS} (h : f_X7_way x p1 p2 p3 p4 = some z) (sz : Nat) : xMetI l yX7_way cX7_way 6 .int { frames := 3, cells := 0, slots := 0, locals := 77 } D T (yW T a) sz [.ref (a 0), .int (oI p1), .int (oI p2), .int (oI p3), .int (oI p4)] x z := by
  refine xMetI_of (by decide) (Nat.le_of_ble_eq_true rfl) (yW_ad T a) ?_
  intro p e s m args below meth c A ls C hr M hl
  have hx := C.1
  have hb := C.2.1
  have hl : lv_has ls 6 [(0, .ref (a 0)), (1, .int (oI p1)), (2, .int (oI p2)), (3, .int (oI p3)), (4, .int (oI p4))] := hl
  have C : xcx RX7 cX7_way 6 D T (yW T a) A p s m args meth c := C
  revert hl M
  generalize ([] : List Loc) = locs
  generalize s.heap = H
  intro M hl
  unfold f_X7_way at h
  refine lv_aload_n hx hb dX7_way_0 rfl (lv_at hl 0 rfl) ?_
  refine lv_iconst (v := oI 0) hx hb dX7_way_1 (by decide) ?_
  refine pf_X7_92 C M dX7_way_2 h (fun H locs x1 M h => ?_)
  refine lv_aload_n hx hb dX7_way_5 rfl (lv_at hl 0 rfl) ?_
  refine lv_aload_n hx hb dX7_way_6 rfl (lv_at hl 0 rfl) ?_
  refine lv_iload_n hx hb dX7_way_7 rfl (lv_at hl 1 rfl) ?_
  refine lv_iload_n hx hb dX7_way_8 rfl (lv_at hl 2 rfl) ?_
  refine lv_iload_n hx hb dX7_way_9 rfl (lv_at hl 3 rfl) ?_
  refine lv_iload_n hx hb dX7_way_10 rfl (lv_at hl 3 rfl) ?_
  refine lv_iload hx hb dX7_way_11 (lv_at hl 4 rfl) ?_
  refine ci_X7_173 C M h ⟨Nat.le_of_ble_eq_true rfl, Nat.le_of_ble_eq_true rfl⟩ hl.1 (Nat.le_of_ble_eq_true rfl) dX7_way_13 (fun r2 H locs x3 M nr2 h => ?_)
  refine pf_X7_96 C M dX7_way_16 h (fun H locs x4 M h => ?_)
  refine lv_aload_n hx hb dX7_way_19 rfl (lv_at hl 0 rfl) ?_
  refine gf_X7_96 C M dX7_way_20 ?_
  refine z_if_le (tgt := 28) hx hb dX7_way_23 (by decide) h (fun h => ?_) (fun h => ?_)
  · refine lv_aload_n hx hb dX7_way_28 rfl (lv_at hl 0 rfl) ?_
    refine lv_iload hx hb dX7_way_29 (lv_at hl 4 rfl) ?_
    refine lv_iconst (v := oI (-1)) hx hb dX7_way_31 (by decide) ?_
    refine ci_X7_177 C M h ⟨Nat.le_of_ble_eq_true rfl, Nat.le_of_ble_eq_true rfl⟩ hl.1 (Nat.le_of_ble_eq_true rfl) dX7_way_32 (fun H locs x6 M h => ?_)
    refine lv_aload_n hx hb dX7_way_35 rfl (lv_at hl 0 rfl) ?_
    refine lv_iload_n hx hb dX7_way_36 rfl (lv_at hl 1 rfl) ?_
    refine lv_iload_n hx hb dX7_way_37 rfl (lv_at hl 2 rfl) ?_
    refine lv_iload_n hx hb dX7_way_38 rfl (lv_at hl 3 rfl) ?_
    refine ci_X7_193 C M h ⟨Nat.le_of_ble_eq_true rfl, Nat.le_of_ble_eq_true rfl⟩ hl.1 (Nat.le_of_ble_eq_true rfl) dX7_way_39 (fun r7 H locs x8 M nr7 h => ?_)
    refine lv_istore (lv' := [(5, .int (oI r7)), (0, .ref (a 0)), (1, .int (oI p1)), (2, .int (oI p2)), (3, .int (oI p3)), (4, .int (oI p4))]) hx hb dX7_way_42 hl (by decide) rfl (fun ls hl => ?_)
    refine lv_iload hx hb dX7_way_44 (lv_at hl 0 rfl) ?_
    refine z_if_ne (tgt := 55) hx hb dX7_way_46 (by decide) h (fun h => ?_) (fun h => ?_)
    · refine lv_aload_n hx hb dX7_way_55 rfl (lv_at hl 1 rfl) ?_
      refine lv_iconst (v := oI 2) hx hb dX7_way_56 (by decide) ?_
      refine lv_iload hx hb dX7_way_57 (lv_at hl 0 rfl) ?_
      refine z_imul hx hb dX7_way_59 ?_
      refine pf_X7_196 C M dX7_way_60 h (fun H locs x9 M h => ?_)
      refine lv_iload hx hb dX7_way_63 (lv_at hl 0 rfl) ?_
      exact xretI C hr M h rfl dX7_way_65
    · refine lv_aload_n hx hb dX7_way_49 rfl (lv_at hl 1 rfl) ?_
      refine lv_iconst (v := oI 5) hx hb dX7_way_50 (by decide) ?_
      refine ci_X7_109 C M h ⟨Nat.le_of_ble_eq_true rfl, Nat.le_of_ble_eq_true rfl⟩ hl.1 (Nat.le_of_ble_eq_true rfl) dX7_way_51 (fun r10 H locs x11 M nr10 h => ?_)
      exact xretI C hr M h rfl dX7_way_54
  · refine lv_iconst (v := oI (-1)) hx hb dX7_way_26 (by decide) ?_
    exact xretI C hr M h rfl dX7_way_27
