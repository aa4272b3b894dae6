set_option maxHeartbeats 4000000 in
set_option maxRecDepth 100000 in
theorem c_X7_close {l : Launch} {D : va_G} {T : ClassId × ClassId} {a : Nat → Nat} {x : XS} {p1 : Int} {p2 : Int} {p3 : Int} {z : Int × XS} (h : f_X7_close x p1 p2 p3 = some z) (sz : Nat) : xMetI l yX7_close cX7_close 4 .boolean { frames := 1, cells := 0, slots := 0, locals := 24 } D T (yW T a) sz [.ref (a 0), .int (oI p1), .int (oI p2), .int (oI p3)] x z := by
  refine xMetI_of (by decide) (Nat.le_of_ble_eq_true rfl) (yW_ad T a) ?_
  intro p e s m args below meth c A ls C hr M hl
  have hx := C.1
  have hb := C.2.1
  have hl : lv_has ls 4 [(0, .ref (a 0)), (1, .int (oI p1)), (2, .int (oI p2)), (3, .int (oI p3))] := hl
  have C : xcx RX7 cX7_close 4 D T (yW T a) A p s m args meth c := C
  revert hl M
  generalize ([] : List Loc) = locs
  generalize s.heap = H
  intro M hl
  unfold f_X7_close at h
  refine lv_aload_n hx hb dX7_close_0 rfl (lv_at hl 0 rfl) ?_
  refine lv_iconst (v := oI 0) hx hb dX7_close_1 (by decide) ?_
  refine pf_X7_92 C M dX7_close_2 h (fun H locs x1 M h => ?_)
  refine lv_aload_n hx hb dX7_close_5 rfl (lv_at hl 0 rfl) ?_
  refine lv_iconst (v := oI 0) hx hb dX7_close_6 (by decide) ?_
  refine pf_X7_96 C M dX7_close_7 h (fun H locs x2 M h => ?_)
  refine lv_aload_n hx hb dX7_close_10 rfl (lv_at hl 0 rfl) ?_
  refine lv_iload_n hx hb dX7_close_11 rfl (lv_at hl 1 rfl) ?_
  refine ci_X7_113 C M h ⟨Nat.le_of_ble_eq_true rfl, Nat.le_of_ble_eq_true rfl⟩ hl.1 (Nat.le_of_ble_eq_true rfl) dX7_close_12 (fun r3 H locs x4 M nr3 h => ?_)
  refine z_if_ne (tgt := 24) hx hb dX7_close_15 (by decide) h (fun h => ?_) (fun h => ?_)
  · refine lv_iload_n hx hb dX7_close_24 rfl (lv_at hl 2 rfl) ?_
    refine ci_X7_123 C M h ⟨Nat.le_of_ble_eq_true rfl, Nat.le_of_ble_eq_true rfl⟩ hl.1 (Nat.le_of_ble_eq_true rfl) dX7_close_25 (fun r5 H locs x6 M nr5 h => ?_)
    refine x_jp_el h (fun jp7 ejp7 h => ?_)
    have hjp7 : ∀ (x8 : XS) (H : Heap) (locs : List Loc) (ls : Array Slot), jp7 x8 = some z → xmm D (yW T a) A s H locs x8 → lv_has ls 4 [(0, .ref (a 0))] → W p l e { frames := 1, cells := 0, slots := 0, locals := 24 } s m args below meth c H locs 0 0 (xQI below args s D (yW T a) .boolean z A) (F0 m 43 ls []) := by
      intro x8 H locs ls h M hl
      rw [ejp7] at h
      dsimp only at h
      refine lv_aload_n hx hb dX7_close_43 rfl (lv_at hl 0 rfl) ?_
      refine lv_iconst (v := oI 2) hx hb dX7_close_44 (by decide) ?_
      refine ci_X7_117 C M h ⟨Nat.le_of_ble_eq_true rfl, Nat.le_of_ble_eq_true rfl⟩ hl.1 (Nat.le_of_ble_eq_true rfl) dX7_close_45 (fun r9 H locs x10 M nr9 h => ?_)
      exact xretI C hr M h nr9 dX7_close_48
    refine z_if_eq (tgt := 43) hx hb dX7_close_28 (by decide) h (fun h => ?_) (fun h => ?_)
    · exact hjp7 x6 H locs ls h M (lv_sub hl [0] rfl)
    · refine lv_iload_n hx hb dX7_close_31 rfl (lv_at hl 3 rfl) ?_
      refine ci_X7_123 C M h ⟨Nat.le_of_ble_eq_true rfl, Nat.le_of_ble_eq_true rfl⟩ hl.1 (Nat.le_of_ble_eq_true rfl) dX7_close_32 (fun r11 H locs x12 M nr11 h => ?_)
      refine z_if_eq (tgt := 43) hx hb dX7_close_35 (by decide) h (fun h => ?_) (fun h => ?_)
      · exact hjp7 x12 H locs ls h M (lv_sub hl [0] rfl)
      · refine lv_iload_n hx hb dX7_close_38 rfl (lv_at hl 2 rfl) ?_
        refine lv_iload_n hx hb dX7_close_39 rfl (lv_at hl 3 rfl) ?_
        refine z_icmp_le (tgt := 49) hx hb dX7_close_40 (by decide) h (fun h => ?_) (fun h => ?_)
        · refine lv_aload_n hx hb dX7_close_49 rfl (lv_at hl 0 rfl) ?_
          refine gf_X7_139 C M dX7_close_50 ?_
          refine lv_bipush (v := oI 60) hx hb dX7_close_53 (by decide) ?_
          refine x_jp_el h (fun jp13 ejp13 h => ?_)
          have hjp13 : ∀ (x14 : XS) (H : Heap) (locs : List Loc) (ls : Array Slot), jp13 x14 = some z → xmm D (yW T a) A s H locs x14 → lv_has ls 4 [(0, .ref (a 0))] → W p l e { frames := 1, cells := 0, slots := 0, locals := 24 } s m args below meth c H locs 0 0 (xQI below args s D (yW T a) .boolean z A) (F0 m 68 ls []) := by
            intro x14 H locs ls h M hl
            rw [ejp13] at h
            dsimp only at h
            refine lv_aload_n hx hb dX7_close_68 rfl (lv_at hl 0 rfl) ?_
            refine lv_iconst (v := oI 3) hx hb dX7_close_69 (by decide) ?_
            refine ci_X7_117 C M h ⟨Nat.le_of_ble_eq_true rfl, Nat.le_of_ble_eq_true rfl⟩ hl.1 (Nat.le_of_ble_eq_true rfl) dX7_close_70 (fun r15 H locs x16 M nr15 h => ?_)
            exact xretI C hr M h nr15 dX7_close_73
          refine z_icmp_eq (tgt := 68) hx hb dX7_close_55 (by decide) h (fun h => ?_) (fun h => ?_)
          · exact hjp13 x12 H locs ls h M (lv_sub hl [0] rfl)
          · refine lv_aload_n hx hb dX7_close_58 rfl (lv_at hl 0 rfl) ?_
            refine gf_X7_120 C M dX7_close_59 ?_
            refine lv_sipush (v := oI 400) hx hb dX7_close_62 (by decide) ?_
            refine z_icmp_ne (tgt := 74) hx hb dX7_close_65 (by decide) h (fun h => ?_) (fun h => ?_)
            · refine lv_aload_n hx hb dX7_close_74 rfl (lv_at hl 0 rfl) ?_
              refine lv_iconst (v := oI 3) hx hb dX7_close_75 (by decide) ?_
              refine lv_iload_n hx hb dX7_close_76 rfl (lv_at hl 1 rfl) ?_
              refine lv_iload_n hx hb dX7_close_77 rfl (lv_at hl 2 rfl) ?_
              refine lv_iload_n hx hb dX7_close_78 rfl (lv_at hl 3 rfl) ?_
              refine ci_X7_129 C M h ⟨Nat.le_of_ble_eq_true rfl, Nat.le_of_ble_eq_true rfl⟩ hl.1 (Nat.le_of_ble_eq_true rfl) dX7_close_79 (fun H locs x18 M h => ?_)
              refine lv_aload_n hx hb dX7_close_82 rfl (lv_at hl 0 rfl) ?_
              refine lv_dup hx hb dX7_close_83 rfl ?_
              refine gf_X7_139 C M dX7_close_84 ?_
              refine lv_iconst (v := oI 1) hx hb dX7_close_87 (by decide) ?_
              refine z_iadd hx hb dX7_close_88 ?_
              refine pf_X7_139 C M dX7_close_89 h (fun H locs x19 M h => ?_)
              refine lv_iconst (v := oI 1) hx hb dX7_close_92 (by decide) ?_
              exact xretI C hr M h nb_1 dX7_close_93
            · exact hjp13 x12 H locs ls h M (lv_sub hl [0] rfl)
        · exact hjp7 x12 H locs ls h M (lv_sub hl [0] rfl)
  · refine lv_aload_n hx hb dX7_close_18 rfl (lv_at hl 0 rfl) ?_
    refine lv_iconst (v := oI 1) hx hb dX7_close_19 (by decide) ?_
    refine ci_X7_117 C M h ⟨Nat.le_of_ble_eq_true rfl, Nat.le_of_ble_eq_true rfl⟩ hl.1 (Nat.le_of_ble_eq_true rfl) dX7_close_20 (fun r20 H locs x21 M nr20 h => ?_)
    exact xretI C hr M h nr20 dX7_close_23
set_option maxHeartbeats 4000000 in
set_option maxRecDepth 100000 in
theorem c_X7_changes {l : Launch} {D : va_G} {T : ClassId × ClassId} {a : Nat → Nat} {x : XS} {z : Int × XS} (h : f_X7_changes x = some z) (sz : Nat) : xMetI l yX7_changes cX7_changes 1 .int { frames := 0, cells := 0, slots := 0, locals := 0 } D T (yW T a) sz [.ref (a 0)] x z := by
  refine xMetI_of (by decide) (Nat.le_of_ble_eq_true rfl) (yW_ad T a) ?_
  intro p e s m args below meth c A ls C hr M hl
  have hx := C.1
  have hb := C.2.1
  have hl : lv_has ls 1 [(0, .ref (a 0))] := hl
  have C : xcx RX7 cX7_changes 1 D T (yW T a) A p s m args meth c := C
  revert hl M
  generalize ([] : List Loc) = locs
  generalize s.heap = H
  intro M hl
  unfold f_X7_changes at h
  refine lv_aload_n hx hb dX7_changes_0 rfl (lv_at hl 0 rfl) ?_
  refine lv_iconst (v := oI 0) hx hb dX7_changes_1 (by decide) ?_
  refine pf_X7_92 C M dX7_changes_2 h (fun H locs x1 M h => ?_)
  refine lv_aload_n hx hb dX7_changes_5 rfl (lv_at hl 0 rfl) ?_
  refine lv_iconst (v := oI 0) hx hb dX7_changes_6 (by decide) ?_
  refine pf_X7_96 C M dX7_changes_7 h (fun H locs x2 M h => ?_)
  refine lv_aload_n hx hb dX7_changes_10 rfl (lv_at hl 0 rfl) ?_
  refine gf_X7_120 C M dX7_changes_11 ?_
  exact xretI C hr M h rfl dX7_changes_14
set_option maxHeartbeats 4000000 in
set_option maxRecDepth 100000 in
theorem c_X7_undo {l : Launch} {D : va_G} {T : ClassId × ClassId} {a : Nat → Nat} {x : XS} {z : Int × XS} (h : f_X7_undo x = some z) (sz : Nat) : xMetI l yX7_undo cX7_undo 1 .boolean { frames := 1, cells := 0, slots := 0, locals := 21 } D T (yW T a) sz [.ref (a 0)] x z := by
  refine xMetI_of (by decide) (Nat.le_of_ble_eq_true rfl) (yW_ad T a) ?_
  intro p e s m args below meth c A ls C hr M hl
  have hx := C.1
  have hb := C.2.1
  have hl : lv_has ls 1 [(0, .ref (a 0))] := hl
  have C : xcx RX7 cX7_undo 1 D T (yW T a) A p s m args meth c := C
  revert hl M
  generalize ([] : List Loc) = locs
  generalize s.heap = H
  intro M hl
  unfold f_X7_undo at h
  refine lv_aload_n hx hb dX7_undo_0 rfl (lv_at hl 0 rfl) ?_
  refine lv_iconst (v := oI 0) hx hb dX7_undo_1 (by decide) ?_
  refine pf_X7_92 C M dX7_undo_2 h (fun H locs x1 M h => ?_)
  refine lv_aload_n hx hb dX7_undo_5 rfl (lv_at hl 0 rfl) ?_
  refine lv_iconst (v := oI 0) hx hb dX7_undo_6 (by decide) ?_
  refine pf_X7_96 C M dX7_undo_7 h (fun H locs x2 M h => ?_)
  refine lv_aload_n hx hb dX7_undo_10 rfl (lv_at hl 0 rfl) ?_
  refine gf_X7_120 C M dX7_undo_11 ?_
  refine z_if_ne (tgt := 24) hx hb dX7_undo_14 (by decide) h (fun h => ?_) (fun h => ?_)
  · refine lv_aload_n hx hb dX7_undo_24 rfl (lv_at hl 0 rfl) ?_
    refine lv_dup hx hb dX7_undo_25 rfl ?_
    refine gf_X7_120 C M dX7_undo_26 ?_
    refine lv_iconst (v := oI 1) hx hb dX7_undo_29 (by decide) ?_
    refine z_isub hx hb dX7_undo_30 ?_
    refine pf_X7_120 C M dX7_undo_31 h (fun H locs x3 M h => ?_)
    refine lv_aload_n hx hb dX7_undo_34 rfl (lv_at hl 0 rfl) ?_
    refine gf_X7_37 C M dX7_undo_35 ?_
    refine lv_aload_n hx hb dX7_undo_38 rfl (lv_at hl 0 rfl) ?_
    refine gf_X7_120 C M dX7_undo_39 ?_
    refine al_y_10 C M dX7_undo_42 h (fun v4 h => ?_)
    refine lv_iconst (v := oI 3) hx hb dX7_undo_43 (by decide) ?_
    refine x_jp_el h (fun jp5 ejp5 h => ?_)
    have hjp5 : ∀ (x6 : XS) (H : Heap) (locs : List Loc) (ls : Array Slot), jp5 x6 = some z → xmm D (yW T a) A s H locs x6 → lv_has ls 1 [(0, .ref (a 0))] → W p l e { frames := 1, cells := 0, slots := 0, locals := 21 } s m args below meth c H locs 0 0 (xQI below args s D (yW T a) .boolean z A) (F0 m 57 ls []) := by
      intro x6 H locs ls h M hl
      rw [ejp5] at h
      dsimp only at h
      refine lv_aload_n hx hb dX7_undo_57 rfl (lv_at hl 0 rfl) ?_
      refine gf_X7_37 C M dX7_undo_58 ?_
      refine lv_aload_n hx hb dX7_undo_61 rfl (lv_at hl 0 rfl) ?_
      refine gf_X7_120 C M dX7_undo_62 ?_
      refine al_y_10 C M dX7_undo_65 h (fun v7 h => ?_)
      refine z_if_ne (tgt := 97) hx hb dX7_undo_66 (by decide) h (fun h => ?_) (fun h => ?_)
      · refine lv_iconst (v := oI 1) hx hb dX7_undo_97 (by decide) ?_
        exact xretI C hr M h nb_1 dX7_undo_98
      · refine lv_aload_n hx hb dX7_undo_69 rfl (lv_at hl 0 rfl) ?_
        refine lv_dup hx hb dX7_undo_70 rfl ?_
        refine gf_X7_102 C M dX7_undo_71 ?_
        refine lv_iconst (v := oI 1) hx hb dX7_undo_74 (by decide) ?_
        refine z_isub hx hb dX7_undo_75 ?_
        refine pf_X7_102 C M dX7_undo_76 h (fun H locs x8 M h => ?_)
        refine lv_aload_n hx hb dX7_undo_79 rfl (lv_at hl 0 rfl) ?_
        refine lv_dup hx hb dX7_undo_80 rfl ?_
        refine gf_X7_126 C M dX7_undo_81 ?_
        refine lv_aload_n hx hb dX7_undo_84 rfl (lv_at hl 0 rfl) ?_
        refine gf_X7_31 C M dX7_undo_85 ?_
        refine lv_aload_n hx hb dX7_undo_88 rfl (lv_at hl 0 rfl) ?_
        refine gf_X7_102 C M dX7_undo_89 ?_
        refine al_y_8 C M dX7_undo_92 h (fun v9 h => ?_)
        refine z_isub hx hb dX7_undo_93 ?_
        refine pf_X7_126 C M dX7_undo_94 h (fun H locs x10 M h => ?_)
        refine lv_iconst (v := oI 1) hx hb dX7_undo_97 (by decide) ?_
        exact xretI C hr M h nb_1 dX7_undo_98
    refine z_icmp_ne (tgt := 57) hx hb dX7_undo_44 (by decide) h (fun h => ?_) (fun h => ?_)
    · exact hjp5 x3 H locs ls h M (lv_sub hl [0] rfl)
    · refine lv_aload_n hx hb dX7_undo_47 rfl (lv_at hl 0 rfl) ?_
      refine lv_dup hx hb dX7_undo_48 rfl ?_
      refine gf_X7_139 C M dX7_undo_49 ?_
      refine lv_iconst (v := oI 1) hx hb dX7_undo_52 (by decide) ?_
      refine z_isub hx hb dX7_undo_53 ?_
      refine pf_X7_139 C M dX7_undo_54 h (fun H locs x11 M h => ?_)
      exact hjp5 x11 H locs ls h M (lv_sub hl [0] rfl)
  · refine lv_aload_n hx hb dX7_undo_17 rfl (lv_at hl 0 rfl) ?_
    refine lv_bipush (v := oI 6) hx hb dX7_undo_18 (by decide) ?_
    refine ci_X7_117 C M h ⟨Nat.le_of_ble_eq_true rfl, Nat.le_of_ble_eq_true rfl⟩ hl.1 (Nat.le_of_ble_eq_true rfl) dX7_undo_20 (fun r12 H locs x13 M nr12 h => ?_)
    exact xretI C hr M h nr12 dX7_undo_23
set_option maxHeartbeats 4000000 in
set_option maxRecDepth 100000 in
theorem c_X7_told {l : Launch} {D : va_G} {T : ClassId × ClassId} {a : Nat → Nat} {x : XS} {p1 : Int} {p2 : Int} {z : Int × XS} (h : f_X7_told x p1 p2 = some z) (sz : Nat) : xMetI l yX7_told cX7_told 3 .int { frames := 1, cells := 0, slots := 0, locals := 22 } D T (yW T a) sz [.ref (a 0), .int (oI p1), .int (oI p2)] x z := by
  refine xMetI_of (by decide) (Nat.le_of_ble_eq_true rfl) (yW_ad T a) ?_
  intro p e s m args below meth c A ls C hr M hl
  have hx := C.1
  have hb := C.2.1
  have hl : lv_has ls 3 [(0, .ref (a 0)), (1, .int (oI p1)), (2, .int (oI p2))] := hl
  have C : xcx RX7 cX7_told 3 D T (yW T a) A p s m args meth c := C
  revert hl M
  generalize ([] : List Loc) = locs
  generalize s.heap = H
  intro M hl
  unfold f_X7_told at h
  refine lv_aload_n hx hb dX7_told_0 rfl (lv_at hl 0 rfl) ?_
  refine lv_iconst (v := oI 0) hx hb dX7_told_1 (by decide) ?_
  refine pf_X7_92 C M dX7_told_2 h (fun H locs x1 M h => ?_)
  refine lv_aload_n hx hb dX7_told_5 rfl (lv_at hl 0 rfl) ?_
  refine lv_iconst (v := oI 0) hx hb dX7_told_6 (by decide) ?_
  refine pf_X7_96 C M dX7_told_7 h (fun H locs x2 M h => ?_)
  refine lv_aload_n hx hb dX7_told_10 rfl (lv_at hl 0 rfl) ?_
  refine lv_iload_n hx hb dX7_told_11 rfl (lv_at hl 1 rfl) ?_
  refine ci_X7_133 C M h ⟨Nat.le_of_ble_eq_true rfl, Nat.le_of_ble_eq_true rfl⟩ hl.1 (Nat.le_of_ble_eq_true rfl) dX7_told_12 (fun r3 H locs x4 M nr3 h => ?_)
  refine z_if_ne (tgt := 24) hx hb dX7_told_15 (by decide) h (fun h => ?_) (fun h => ?_)
  · refine lv_iload_n hx hb dX7_told_24 rfl (lv_at hl 2 rfl) ?_
    refine x_ts_el h (fun hs0 h => ?_) (fun hrg hs0 h => ?_)
    · refine lv_tableIn (off := 47) (tgt := 72) hx hb dX7_told_25 (by rw [hs0]; decide) (by rw [hs0]; decide) (by rw [hs0]; rfl) (by decide) ?_
      refine lv_aload_n hx hb dX7_told_72 rfl (lv_at hl 0 rfl) ?_
      refine gf_X7_16 C M dX7_told_73 ?_
      refine lv_iload_n hx hb dX7_told_76 rfl (lv_at hl 1 rfl) ?_
      refine al_y_3 C M dX7_told_77 h (fun v5 h => ?_)
      exact xretI C hr M h rfl dX7_told_78
    refine x_ts_el h (fun hs1 h => ?_) (fun hrg hs1 h => ?_)
    · refine lv_tableIn (off := 54) (tgt := 79) hx hb dX7_told_25 (by rw [hs1]; decide) (by rw [hs1]; decide) (by rw [hs1]; rfl) (by decide) ?_
      refine lv_aload_n hx hb dX7_told_79 rfl (lv_at hl 0 rfl) ?_
      refine gf_X7_19 C M dX7_told_80 ?_
      refine lv_iload_n hx hb dX7_told_83 rfl (lv_at hl 1 rfl) ?_
      refine al_y_4 C M dX7_told_84 h (fun v6 h => ?_)
      exact xretI C hr M h rfl dX7_told_85
    refine x_ts_el h (fun hs2 h => ?_) (fun hrg hs2 h => ?_)
    · refine lv_tableIn (off := 61) (tgt := 86) hx hb dX7_told_25 (by rw [hs2]; decide) (by rw [hs2]; decide) (by rw [hs2]; rfl) (by decide) ?_
      refine lv_aload_n hx hb dX7_told_86 rfl (lv_at hl 0 rfl) ?_
      refine gf_X7_22 C M dX7_told_87 ?_
      refine lv_iload_n hx hb dX7_told_90 rfl (lv_at hl 1 rfl) ?_
      refine al_y_5 C M dX7_told_91 h (fun v7 h => ?_)
      exact xretI C hr M h rfl dX7_told_92
    refine x_ts_el h (fun hs3 h => ?_) (fun hrg hs3 h => ?_)
    · refine lv_tableIn (off := 68) (tgt := 93) hx hb dX7_told_25 (by rw [hs3]; decide) (by rw [hs3]; decide) (by rw [hs3]; rfl) (by decide) ?_
      refine lv_aload_n hx hb dX7_told_93 rfl (lv_at hl 0 rfl) ?_
      refine gf_X7_25 C M dX7_told_94 ?_
      refine lv_iload_n hx hb dX7_told_97 rfl (lv_at hl 1 rfl) ?_
      refine al_y_6 C M dX7_told_98 h (fun v8 h => ?_)
      exact xretI C hr M h rfl dX7_told_99
    refine x_ts_el h (fun hs4 h => ?_) (fun hrg hs4 h => ?_)
    · refine lv_tableIn (off := 75) (tgt := 100) hx hb dX7_told_25 (by rw [hs4]; decide) (by rw [hs4]; decide) (by rw [hs4]; rfl) (by decide) ?_
      refine lv_aload_n hx hb dX7_told_100 rfl (lv_at hl 0 rfl) ?_
      refine gf_X7_28 C M dX7_told_101 ?_
      refine lv_iload_n hx hb dX7_told_104 rfl (lv_at hl 1 rfl) ?_
      refine al_y_7 C M dX7_told_105 h (fun v9 h => ?_)
      exact xretI C hr M h rfl dX7_told_106
    refine x_ts_el h (fun hs5 h => ?_) (fun hrg hs5 h => ?_)
    · refine lv_tableIn (off := 82) (tgt := 107) hx hb dX7_told_25 (by rw [hs5]; decide) (by rw [hs5]; decide) (by rw [hs5]; rfl) (by decide) ?_
      refine lv_aload_n hx hb dX7_told_107 rfl (lv_at hl 0 rfl) ?_
      refine gf_X7_31 C M dX7_told_108 ?_
      refine lv_iload_n hx hb dX7_told_111 rfl (lv_at hl 1 rfl) ?_
      refine al_y_8 C M dX7_told_112 h (fun v10 h => ?_)
      exact xretI C hr M h rfl dX7_told_113
    refine x_ts_el h (fun hs6 h => ?_) (fun hrg hs6 h => ?_)
    · refine lv_tableIn (off := 89) (tgt := 114) hx hb dX7_told_25 (by rw [hs6]; decide) (by rw [hs6]; decide) (by rw [hs6]; rfl) (by decide) ?_
      refine lv_aload_n hx hb dX7_told_114 rfl (lv_at hl 0 rfl) ?_
      refine gf_X7_34 C M dX7_told_115 ?_
      refine lv_iload_n hx hb dX7_told_118 rfl (lv_at hl 1 rfl) ?_
      refine al_y_9 C M dX7_told_119 h (fun v11 h => ?_)
      exact xretI C hr M h rfl dX7_told_120
    refine x_ts_el h (fun hs7 h => ?_) (fun hrg hs7 h => ?_)
    · refine lv_tableIn (off := 96) (tgt := 121) hx hb dX7_told_25 (by rw [hs7]; decide) (by rw [hs7]; decide) (by rw [hs7]; rfl) (by decide) ?_
      refine lv_aload_n hx hb dX7_told_121 rfl (lv_at hl 0 rfl) ?_
      refine lv_iload_n hx hb dX7_told_122 rfl (lv_at hl 1 rfl) ?_
      refine ci_X7_136 C M h ⟨Nat.le_of_ble_eq_true rfl, Nat.le_of_ble_eq_true rfl⟩ hl.1 (Nat.le_of_ble_eq_true rfl) dX7_told_123 (fun r12 H locs x13 M nr12 h => ?_)
      refine z_if_eq (tgt := 133) hx hb dX7_told_126 (by decide) h (fun h => ?_) (fun h => ?_)
      · refine lv_iconst (v := oI 0) hx hb dX7_told_133 (by decide) ?_
        exact xretI C hr M h rfl dX7_told_134
      · refine lv_iconst (v := oI 1) hx hb dX7_told_129 (by decide) ?_
        refine lv_goto (tgt := 134) hx hb dX7_told_130 (by decide) ?_
        exact xretI C hr M h rfl dX7_told_134
    refine lv_tableOut (tgt := 135) hx hb dX7_told_25 (x_out8 hrg hs0 hs1 hs2 hs3 hs4 hs5 hs6 hs7) (by decide) ?_
    refine lv_aload_n hx hb dX7_told_135 rfl (lv_at hl 0 rfl) ?_
    refine lv_iconst (v := oI 2) hx hb dX7_told_136 (by decide) ?_
    refine ci_X7_109 C M h ⟨Nat.le_of_ble_eq_true rfl, Nat.le_of_ble_eq_true rfl⟩ hl.1 (Nat.le_of_ble_eq_true rfl) dX7_told_137 (fun r14 H locs x15 M nr14 h => ?_)
    exact xretI C hr M h rfl dX7_told_140
  · refine lv_aload_n hx hb dX7_told_18 rfl (lv_at hl 0 rfl) ?_
    refine lv_iconst (v := oI 1) hx hb dX7_told_19 (by decide) ?_
    refine ci_X7_109 C M h ⟨Nat.le_of_ble_eq_true rfl, Nat.le_of_ble_eq_true rfl⟩ hl.1 (Nat.le_of_ble_eq_true rfl) dX7_told_20 (fun r16 H locs x17 M nr16 h => ?_)
    exact xretI C hr M h rfl dX7_told_23
set_option maxHeartbeats 4000000 in
set_option maxRecDepth 100000 in
theorem c_X7_known {l : Launch} {D : va_G} {T : ClassId × ClassId} {a : Nat → Nat} {x : XS} {p1 : Int} {z : Int × XS} (h : f_X7_known x p1 = some z) (sz : Nat) : xMetV l yX7_known cX7_known 3 { frames := 0, cells := 0, slots := 0, locals := 0 } D T (yW T a) sz [.ref (a 0), .int (oI p1)] x z := by
  refine xMetV_of (by decide) (Nat.le_of_ble_eq_true rfl) (yW_ad T a) ?_
  intro p e s m args below meth c A ls C hr M hl
  have hx := C.1
  have hb := C.2.1
  have hl : lv_has ls 3 [(0, .ref (a 0)), (1, .int (oI p1))] := hl
  have C : xcx RX7 cX7_known 3 D T (yW T a) A p s m args meth c := C
  revert hl M
  generalize ([] : List Loc) = locs
  generalize s.heap = H
  intro M hl
  unfold f_X7_known at h
  refine lv_iconst (v := oI 0) hx hb dX7_known_0 (by decide) ?_
  refine lv_istore_n (lv' := [(2, .int (oI 0)), (0, .ref (a 0)), (1, .int (oI p1))]) hx hb dX7_known_1 rfl hl (by decide) rfl (fun ls hl => ?_)
  refine x_jp_el h (fun kx1 ekx1 h => ?_)
  have hkx1 : ∀ (x2 : XS) (H : Heap) (locs : List Loc) (ls : Array Slot), kx1 x2 = some z → xmm D (yW T a) A s H locs x2 → lv_has ls 3 [(0, .ref (a 0)), (1, .int (oI p1))] → W p l e { frames := 0, cells := 0, slots := 0, locals := 0 } s m args below meth c H locs 0 0 (xQV below args s D (yW T a) z A) (F0 m 30 ls []) := by
    intro x2 H locs ls h M hl
    rw [ekx1] at h
    dsimp only at h
    refine lv_iconst (v := oI 0) hx hb dX7_known_30 (by decide) ?_
    refine lv_istore_n (lv' := [(2, .int (oI 0)), (0, .ref (a 0)), (1, .int (oI p1))]) hx hb dX7_known_31 rfl hl (by decide) rfl (fun ls hl => ?_)
    refine x_jp_el h (fun kx3 ekx3 h => ?_)
    have hkx3 : ∀ (x4 : XS) (H : Heap) (locs : List Loc) (ls : Array Slot), kx3 x4 = some z → xmm D (yW T a) A s H locs x4 → lv_has ls 3 [] → W p l e { frames := 0, cells := 0, slots := 0, locals := 0 } s m args below meth c H locs 0 0 (xQV below args s D (yW T a) z A) (F0 m 86 ls []) := by
      intro x4 H locs ls h M hl
      rw [ekx3] at h
      dsimp only at h
      exact xretV C hr M h dX7_known_86
    refine x_loop1_ind (P := fun v5 x6 => ∀ (H : Heap) (locs : List Loc) (ls : Array Slot), xmm D (yW T a) A s H locs x6 → lv_has ls 3 [(0, .ref (a 0)), (1, .int (oI p1)), (2, .int (oI v5))] → W p l e { frames := 0, cells := 0, slots := 0, locals := 0 } s m args below meth c H locs 0 0 (xQV below args s D (yW T a) z A) (F0 m 32 ls [])) (fun g7 ig7 v5 x6 h => ?_) x_fuel 0 x2 h H locs ls M (lv_sub hl [1, 2, 0] rfl)
    intro H locs ls M hl
    unfold b_X7_known_32 at h
    refine lv_iload_n hx hb dX7_known_32 rfl (lv_at hl 2 rfl) ?_
    refine lv_iload_n hx hb dX7_known_33 rfl (lv_at hl 1 rfl) ?_
    refine z_icmp_ge (tgt := 86) hx hb dX7_known_34 (by decide) h (fun h => ?_) (fun h => ?_)
    · exact hkx3 x6 H locs ls h M (lv_sub hl [] rfl)
    · refine lv_aload_n hx hb dX7_known_37 rfl (lv_at hl 0 rfl) ?_
      refine gf_X7_37 C M dX7_known_38 ?_
      refine lv_iload_n hx hb dX7_known_41 rfl (lv_at hl 2 rfl) ?_
      refine al_y_10 C M dX7_known_42 h (fun v8 h => ?_)
      refine x_jp_el h (fun jp9 ejp9 h => ?_)
      have hjp9 : ∀ (x10 : XS) (H : Heap) (locs : List Loc) (ls : Array Slot), jp9 x10 = some z → xmm D (yW T a) A s H locs x10 → lv_has ls 3 [(0, .ref (a 0)), (1, .int (oI p1)), (2, .int (oI v5))] → W p l e { frames := 0, cells := 0, slots := 0, locals := 0 } s m args below meth c H locs 0 0 (xQV below args s D (yW T a) z A) (F0 m 58 ls []) := by
        intro x10 H locs ls h M hl
        rw [ejp9] at h
        dsimp only at h
        refine lv_aload_n hx hb dX7_known_58 rfl (lv_at hl 0 rfl) ?_
        refine gf_X7_37 C M dX7_known_59 ?_
        refine lv_iload_n hx hb dX7_known_62 rfl (lv_at hl 2 rfl) ?_
        refine al_y_10 C M dX7_known_63 h (fun v11 h => ?_)
        refine lv_iconst (v := oI 1) hx hb dX7_known_64 (by decide) ?_
        refine x_jp_el h (fun jp12 ejp12 h => ?_)
        have hjp12 : ∀ (x13 : XS) (H : Heap) (locs : List Loc) (ls : Array Slot), jp12 x13 = some z → xmm D (yW T a) A s H locs x13 → lv_has ls 3 [(0, .ref (a 0)), (1, .int (oI p1)), (2, .int (oI v5))] → W p l e { frames := 0, cells := 0, slots := 0, locals := 0 } s m args below meth c H locs 0 0 (xQV below args s D (yW T a) z A) (F0 m 80 ls []) := by
          intro x13 H locs ls h M hl
          rw [ejp12] at h
          dsimp only at h
          refine x_nm h (fun v14 ev14 h => ?_)
          refine lv_iinc (v := oI v14) (lv' := [(2, .int (oI v14)), (0, .ref (a 0)), (1, .int (oI p1))]) hx hb dX7_known_80 hl (k := 2) rfl (by rw [ev14]; exact oI_add _ _) (by decide) rfl (fun ls hl => ?_)
          refine lv_goto (tgt := 32) hx hb dX7_known_83 (by decide) ?_
          exact ig7 v14 x13 h H locs ls M (lv_sub hl [1, 2, 0] rfl)
        refine z_icmp_ne (tgt := 80) hx hb dX7_known_65 (by decide) h (fun h => ?_) (fun h => ?_)
        · exact hjp12 x10 H locs ls h M (lv_sub hl [0, 1, 2] rfl)
        · refine lv_aload_n hx hb dX7_known_68 rfl (lv_at hl 0 rfl) ?_
          refine gf_X7_53 C M dX7_known_69 ?_
          refine lv_aload_n hx hb dX7_known_72 rfl (lv_at hl 0 rfl) ?_
          refine gf_X7_40 C M dX7_known_73 ?_
          refine lv_iload_n hx hb dX7_known_76 rfl (lv_at hl 2 rfl) ?_
          refine al_y_11 C M dX7_known_77 h (fun v15 h => ?_)
          refine lv_iconst (v := oI 1) hx hb dX7_known_78 (by decide) ?_
          refine as_y_15 C M dX7_known_79 h (fun H locs x16 M h => ?_)
          exact hjp12 x16 H locs ls h M (lv_sub hl [0, 1, 2] rfl)
      refine z_if_ne (tgt := 58) hx hb dX7_known_43 (by decide) h (fun h => ?_) (fun h => ?_)
      · exact hjp9 x6 H locs ls h M (lv_sub hl [0, 1, 2] rfl)
      · refine lv_aload_n hx hb dX7_known_46 rfl (lv_at hl 0 rfl) ?_
        refine gf_X7_49 C M dX7_known_47 ?_
        refine lv_aload_n hx hb dX7_known_50 rfl (lv_at hl 0 rfl) ?_
        refine gf_X7_40 C M dX7_known_51 ?_
        refine lv_iload_n hx hb dX7_known_54 rfl (lv_at hl 2 rfl) ?_
        refine al_y_11 C M dX7_known_55 h (fun v17 h => ?_)
        refine lv_iconst (v := oI 1) hx hb dX7_known_56 (by decide) ?_
        refine as_y_14 C M dX7_known_57 h (fun H locs x18 M h => ?_)
        exact hjp9 x18 H locs ls h M (lv_sub hl [0, 1, 2] rfl)
  refine x_loop1_ind (P := fun v19 x20 => ∀ (H : Heap) (locs : List Loc) (ls : Array Slot), xmm D (yW T a) A s H locs x20 → lv_has ls 3 [(0, .ref (a 0)), (1, .int (oI p1)), (2, .int (oI v19))] → W p l e { frames := 0, cells := 0, slots := 0, locals := 0 } s m args below meth c H locs 0 0 (xQV below args s D (yW T a) z A) (F0 m 2 ls [])) (fun g21 ig21 v19 x20 h => ?_) x_fuel 0 x h H locs ls M (lv_sub hl [1, 2, 0] rfl)
  intro H locs ls M hl
  unfold b_X7_known_2 at h
  refine lv_iload_n hx hb dX7_known_2 rfl (lv_at hl 2 rfl) ?_
  refine lv_aload_n hx hb dX7_known_3 rfl (lv_at hl 0 rfl) ?_
  refine gf_X7_102 C M dX7_known_4 ?_
  refine z_icmp_ge (tgt := 30) hx hb dX7_known_7 (by decide) h (fun h => ?_) (fun h => ?_)
  · exact hkx1 x20 H locs ls h M (lv_sub hl [0, 1] rfl)
  · refine lv_aload_n hx hb dX7_known_10 rfl (lv_at hl 0 rfl) ?_
    refine gf_X7_49 C M dX7_known_11 ?_
    refine lv_iload_n hx hb dX7_known_14 rfl (lv_at hl 2 rfl) ?_
    refine lv_iconst (v := oI 0) hx hb dX7_known_15 (by decide) ?_
    refine as_y_14 C M dX7_known_16 h (fun H locs x22 M h => ?_)
    refine lv_aload_n hx hb dX7_known_17 rfl (lv_at hl 0 rfl) ?_
    refine gf_X7_53 C M dX7_known_18 ?_
    refine lv_iload_n hx hb dX7_known_21 rfl (lv_at hl 2 rfl) ?_
    refine lv_iconst (v := oI 0) hx hb dX7_known_22 (by decide) ?_
    refine as_y_15 C M dX7_known_23 h (fun H locs x23 M h => ?_)
    refine x_nm h (fun v24 ev24 h => ?_)
    refine lv_iinc (v := oI v24) (lv' := [(2, .int (oI v24)), (0, .ref (a 0)), (1, .int (oI p1))]) hx hb dX7_known_24 hl (k := 2) rfl (by rw [ev24]; exact oI_add _ _) (by decide) rfl (fun ls hl => ?_)
    refine lv_goto (tgt := 2) hx hb dX7_known_27 (by decide) ?_
    exact ig21 v24 x23 h H locs ls M (lv_sub hl [1, 2, 0] rfl)
set_option maxHeartbeats 4000000 in
set_option maxRecDepth 100000 in
theorem c_X7_leavesAt {l : Launch} {D : va_G} {T : ClassId × ClassId} {a : Nat → Nat} {x : XS} {p1 : Int} {p2 : Int} {p3 : Int} {z : Int × XS} (h : f_X7_leavesAt x p1 p2 p3 = some z) (sz : Nat) : xMetI l yX7_leavesAt cX7_leavesAt 6 .int { frames := 0, cells := 0, slots := 0, locals := 0 } D T (yW T a) sz [.ref (a 0), .int (oI p1), .int (oI p2), .int (oI p3)] x z := by
  refine xMetI_of (by decide) (Nat.le_of_ble_eq_true rfl) (yW_ad T a) ?_
  intro p e s m args below meth c A ls C hr M hl
  have hx := C.1
  have hb := C.2.1
  have hl : lv_has ls 6 [(0, .ref (a 0)), (1, .int (oI p1)), (2, .int (oI p2)), (3, .int (oI p3))] := hl
  have C : xcx RX7 cX7_leavesAt 6 D T (yW T a) A p s m args meth c := C
  revert hl M
  generalize ([] : List Loc) = locs
  generalize s.heap = H
  intro M hl
  unfold f_X7_leavesAt at h
  refine lv_iconst (v := oI 0) hx hb dX7_leavesAt_0 (by decide) ?_
  refine lv_istore (lv' := [(4, .int (oI 0)), (0, .ref (a 0)), (1, .int (oI p1)), (2, .int (oI p2)), (3, .int (oI p3))]) hx hb dX7_leavesAt_1 hl (by decide) rfl (fun ls hl => ?_)
  refine lv_iconst (v := oI 0) hx hb dX7_leavesAt_3 (by decide) ?_
  refine lv_istore (lv' := [(5, .int (oI 0)), (4, .int (oI 0)), (0, .ref (a 0)), (1, .int (oI p1)), (2, .int (oI p2)), (3, .int (oI p3))]) hx hb dX7_leavesAt_4 hl (by decide) rfl (fun ls hl => ?_)
  refine x_jp_el h (fun kx1 ekx1 h => ?_)
  have hkx1 : ∀ (v2 : Int) (x3 : XS) (H : Heap) (locs : List Loc) (ls : Array Slot), kx1 v2 x3 = some z → xmm D (yW T a) A s H locs x3 → lv_has ls 6 [(0, .ref (a 0)), (1, .int (oI p1)), (2, .int (oI p2)), (4, .int (oI v2))] → W p l e { frames := 0, cells := 0, slots := 0, locals := 0 } s m args below meth c H locs 0 0 (xQI below args s D (yW T a) .int z A) (F0 m 60 ls []) := by
    intro v2 x3 H locs ls h M hl
    rw [ekx1] at h
    dsimp only at h
    refine lv_aload_n hx hb dX7_leavesAt_60 rfl (lv_at hl 0 rfl) ?_
    refine gf_X7_25 C M dX7_leavesAt_61 ?_
    refine lv_iload_n hx hb dX7_leavesAt_64 rfl (lv_at hl 1 rfl) ?_
    refine al_y_6 C M dX7_leavesAt_65 h (fun v4 h => ?_)
    refine lv_aload_n hx hb dX7_leavesAt_66 rfl (lv_at hl 0 rfl) ?_
    refine gf_X7_22 C M dX7_leavesAt_67 ?_
    refine lv_iload_n hx hb dX7_leavesAt_70 rfl (lv_at hl 1 rfl) ?_
    refine al_y_5 C M dX7_leavesAt_71 h (fun v5 h => ?_)
    refine lv_iconst (v := oI 1) hx hb dX7_leavesAt_72 (by decide) ?_
    refine x_jp_el h (fun jp6 ejp6 h => ?_)
    have hjp6 : ∀ (v7 : Int) (x8 : XS) (H : Heap) (locs : List Loc) (ls : Array Slot), jp6 v7 x8 = some z → xmm D (yW T a) A s H locs x8 → lv_has ls 6 [(4, .int (oI v2))] → W p l e { frames := 0, cells := 0, slots := 0, locals := 0 } s m args below meth c H locs 0 0 (xQI below args s D (yW T a) .int z A) (F0 m 88 ls [.int (oI v7), .int (oI v4)]) := by
      intro v7 x8 H locs ls h M hl
      rw [ejp6] at h
      dsimp only at h
      refine z_iadd hx hb dX7_leavesAt_88 ?_
      refine lv_iload hx hb dX7_leavesAt_89 (lv_at hl 0 rfl) ?_
      refine z_iadd hx hb dX7_leavesAt_91 ?_
      exact xretI C hr M h rfl dX7_leavesAt_92
    refine z_icmp_ne (tgt := 87) hx hb dX7_leavesAt_73 (by decide) h (fun h => ?_) (fun h => ?_)
    · refine lv_iload_n hx hb dX7_leavesAt_87 rfl (lv_at hl 2 rfl) ?_
      exact hjp6 p2 x3 H locs ls h M (lv_sub hl [3] rfl)
    · refine lv_iload_n hx hb dX7_leavesAt_76 rfl (lv_at hl 2 rfl) ?_
      refine lv_aload_n hx hb dX7_leavesAt_77 rfl (lv_at hl 0 rfl) ?_
      refine gf_X7_34 C M dX7_leavesAt_78 ?_
      refine lv_iload_n hx hb dX7_leavesAt_81 rfl (lv_at hl 1 rfl) ?_
      refine al_y_9 C M dX7_leavesAt_82 h (fun v9 h => ?_)
      refine z_imul hx hb dX7_leavesAt_83 ?_
      refine lv_goto (tgt := 88) hx hb dX7_leavesAt_84 (by decide) ?_
      exact hjp6 (p2 * v9) x3 H locs ls h M (lv_sub hl [3] rfl)
  refine x_loop2_ind (P := fun v10 v11 x12 => ∀ (H : Heap) (locs : List Loc) (ls : Array Slot), xmm D (yW T a) A s H locs x12 → lv_has ls 6 [(0, .ref (a 0)), (1, .int (oI p1)), (2, .int (oI p2)), (3, .int (oI p3)), (4, .int (oI v10)), (5, .int (oI v11))] → W p l e { frames := 0, cells := 0, slots := 0, locals := 0 } s m args below meth c H locs 0 0 (xQI below args s D (yW T a) .int z A) (F0 m 6 ls [])) (fun g13 ig13 v10 v11 x12 h => ?_) x_fuel 0 0 x h H locs ls M (lv_sub hl [2, 3, 4, 5, 1, 0] rfl)
  intro H locs ls M hl
  unfold b_X7_leavesAt_6 at h
  refine lv_iload hx hb dX7_leavesAt_6 (lv_at hl 5 rfl) ?_
  refine lv_iload_n hx hb dX7_leavesAt_8 rfl (lv_at hl 3 rfl) ?_
  refine z_icmp_ge (tgt := 60) hx hb dX7_leavesAt_9 (by decide) h (fun h => ?_) (fun h => ?_)
  · exact hkx1 v10 x12 H locs ls h M (lv_sub hl [0, 1, 2, 4] rfl)
  · refine lv_aload_n hx hb dX7_leavesAt_12 rfl (lv_at hl 0 rfl) ?_
    refine gf_X7_37 C M dX7_leavesAt_13 ?_
    refine lv_iload hx hb dX7_leavesAt_16 (lv_at hl 5 rfl) ?_
    refine al_y_10 C M dX7_leavesAt_18 h (fun v14 h => ?_)
    refine lv_iconst (v := oI 2) hx hb dX7_leavesAt_19 (by decide) ?_
    refine x_jp_el h (fun jp15 ejp15 h => ?_)
    have hjp15 : ∀ (v16 : Int) (x17 : XS) (H : Heap) (locs : List Loc) (ls : Array Slot), jp15 v16 x17 = some z → xmm D (yW T a) A s H locs x17 → lv_has ls 6 [(0, .ref (a 0)), (1, .int (oI p1)), (2, .int (oI p2)), (3, .int (oI p3)), (4, .int (oI v16)), (5, .int (oI v11))] → W p l e { frames := 0, cells := 0, slots := 0, locals := 0 } s m args below meth c H locs 0 0 (xQI below args s D (yW T a) .int z A) (F0 m 54 ls []) := by
      intro v16 x17 H locs ls h M hl
      rw [ejp15] at h
      dsimp only at h
      refine x_nm h (fun v18 ev18 h => ?_)
      refine lv_iinc (v := oI v18) (lv' := [(5, .int (oI v18)), (0, .ref (a 0)), (1, .int (oI p1)), (2, .int (oI p2)), (3, .int (oI p3)), (4, .int (oI v16))]) hx hb dX7_leavesAt_54 hl (k := 5) rfl (by rw [ev18]; exact oI_add _ _) (by decide) rfl (fun ls hl => ?_)
      refine lv_goto (tgt := 6) hx hb dX7_leavesAt_57 (by decide) ?_
      exact ig13 v16 v18 x17 h H locs ls M (lv_sub hl [1, 2, 3, 4, 5, 0] rfl)
    refine z_icmp_ne (tgt := 54) hx hb dX7_leavesAt_20 (by decide) h (fun h => ?_) (fun h => ?_)
    · exact hjp15 v10 x12 H locs ls h M (lv_sub hl [0, 1, 2, 3, 4, 5] rfl)
    · refine lv_aload_n hx hb dX7_leavesAt_23 rfl (lv_at hl 0 rfl) ?_
      refine gf_X7_40 C M dX7_leavesAt_24 ?_
      refine lv_iload hx hb dX7_leavesAt_27 (lv_at hl 5 rfl) ?_
      refine al_y_11 C M dX7_leavesAt_29 h (fun v19 h => ?_)
      refine lv_iload_n hx hb dX7_leavesAt_30 rfl (lv_at hl 1 rfl) ?_
      refine z_icmp_ne (tgt := 54) hx hb dX7_leavesAt_31 (by decide) h (fun h => ?_) (fun h => ?_)
      · exact hjp15 v10 x12 H locs ls h M (lv_sub hl [0, 1, 2, 3, 4, 5] rfl)
      · refine lv_aload_n hx hb dX7_leavesAt_34 rfl (lv_at hl 0 rfl) ?_
        refine gf_X7_43 C M dX7_leavesAt_35 ?_
        refine lv_iload hx hb dX7_leavesAt_38 (lv_at hl 5 rfl) ?_
        refine al_y_12 C M dX7_leavesAt_40 h (fun v20 h => ?_)
        refine lv_iload_n hx hb dX7_leavesAt_41 rfl (lv_at hl 2 rfl) ?_
        refine z_icmp_ne (tgt := 54) hx hb dX7_leavesAt_42 (by decide) h (fun h => ?_) (fun h => ?_)
        · exact hjp15 v10 x12 H locs ls h M (lv_sub hl [0, 1, 2, 3, 4, 5] rfl)
        · refine lv_aload_n hx hb dX7_leavesAt_45 rfl (lv_at hl 0 rfl) ?_
          refine gf_X7_46 C M dX7_leavesAt_46 ?_
          refine lv_iload hx hb dX7_leavesAt_49 (lv_at hl 5 rfl) ?_
          refine al_y_13 C M dX7_leavesAt_51 h (fun v21 h => ?_)
          refine lv_istore (lv' := [(4, .int (oI v21)), (0, .ref (a 0)), (1, .int (oI p1)), (2, .int (oI p2)), (3, .int (oI p3)), (5, .int (oI v11))]) hx hb dX7_leavesAt_52 hl (by decide) rfl (fun ls hl => ?_)
          exact hjp15 v21 x12 H locs ls h M (lv_sub hl [1, 2, 3, 4, 0, 5] rfl)
set_option maxHeartbeats 4000000 in
set_option maxRecDepth 100000 in
theorem c_X7_isClosed {l : Launch} {D : va_G} {T : ClassId × ClassId} {a : Nat → Nat} {x : XS} {p1 : Int} {p2 : Int} {p3 : Int} {z : Int × XS} (h : f_X7_isClosed x p1 p2 p3 = some z) (sz : Nat) : xMetI l yX7_isClosed cX7_isClosed 5 .boolean { frames := 0, cells := 0, slots := 0, locals := 0 } D T (yW T a) sz [.ref (a 0), .int (oI p1), .int (oI p2), .int (oI p3)] x z := by
  refine xMetI_of (by decide) (Nat.le_of_ble_eq_true rfl) (yW_ad T a) ?_
  intro p e s m args below meth c A ls C hr M hl
  have hx := C.1
  have hb := C.2.1
  have hl : lv_has ls 5 [(0, .ref (a 0)), (1, .int (oI p1)), (2, .int (oI p2)), (3, .int (oI p3))] := hl
  have C : xcx RX7 cX7_isClosed 5 D T (yW T a) A p s m args meth c := C
  revert hl M
  generalize ([] : List Loc) = locs
  generalize s.heap = H
  intro M hl
  unfold f_X7_isClosed at h
  refine lv_iconst (v := oI 0) hx hb dX7_isClosed_0 (by decide) ?_
  refine lv_istore (lv' := [(4, .int (oI 0)), (0, .ref (a 0)), (1, .int (oI p1)), (2, .int (oI p2)), (3, .int (oI p3))]) hx hb dX7_isClosed_1 hl (by decide) rfl (fun ls hl => ?_)
  refine x_jp_el h (fun kx1 ekx1 h => ?_)
  have hkx1 : ∀ (x2 : XS) (H : Heap) (locs : List Loc) (ls : Array Slot), kx1 x2 = some z → xmm D (yW T a) A s H locs x2 → lv_has ls 5 [] → W p l e { frames := 0, cells := 0, slots := 0, locals := 0 } s m args below meth c H locs 0 0 (xQI below args s D (yW T a) .boolean z A) (F0 m 61 ls []) := by
    intro x2 H locs ls h M hl
    rw [ekx1] at h
    dsimp only at h
    refine lv_iconst (v := oI 0) hx hb dX7_isClosed_61 (by decide) ?_
    exact xretI C hr M h nb_0 dX7_isClosed_62
  refine x_loop1_ind (P := fun v3 x4 => ∀ (H : Heap) (locs : List Loc) (ls : Array Slot), xmm D (yW T a) A s H locs x4 → lv_has ls 5 [(0, .ref (a 0)), (1, .int (oI p1)), (2, .int (oI p2)), (3, .int (oI p3)), (4, .int (oI v3))] → W p l e { frames := 0, cells := 0, slots := 0, locals := 0 } s m args below meth c H locs 0 0 (xQI below args s D (yW T a) .boolean z A) (F0 m 3 ls [])) (fun g5 ig5 v3 x4 h => ?_) x_fuel 0 x h H locs ls M (lv_sub hl [1, 2, 3, 4, 0] rfl)
  intro H locs ls M hl
  unfold b_X7_isClosed_3 at h
  refine lv_iload hx hb dX7_isClosed_3 (lv_at hl 4 rfl) ?_
  refine lv_iload_n hx hb dX7_isClosed_5 rfl (lv_at hl 3 rfl) ?_
  refine z_icmp_ge (tgt := 61) hx hb dX7_isClosed_6 (by decide) h (fun h => ?_) (fun h => ?_)
  · exact hkx1 x4 H locs ls h M (lv_sub hl [] rfl)
  · refine lv_aload_n hx hb dX7_isClosed_9 rfl (lv_at hl 0 rfl) ?_
    refine gf_X7_37 C M dX7_isClosed_10 ?_
    refine lv_iload hx hb dX7_isClosed_13 (lv_at hl 4 rfl) ?_
    refine al_y_10 C M dX7_isClosed_15 h (fun v6 h => ?_)
    refine lv_iconst (v := oI 3) hx hb dX7_isClosed_16 (by decide) ?_
    refine x_jp_el h (fun jp7 ejp7 h => ?_)
    have hjp7 : ∀ (x8 : XS) (H : Heap) (locs : List Loc) (ls : Array Slot), jp7 x8 = some z → xmm D (yW T a) A s H locs x8 → lv_has ls 5 [(0, .ref (a 0)), (1, .int (oI p1)), (2, .int (oI p2)), (3, .int (oI p3)), (4, .int (oI v3))] → W p l e { frames := 0, cells := 0, slots := 0, locals := 0 } s m args below meth c H locs 0 0 (xQI below args s D (yW T a) .boolean z A) (F0 m 55 ls []) := by
      intro x8 H locs ls h M hl
      rw [ejp7] at h
      dsimp only at h
      refine x_nm h (fun v9 ev9 h => ?_)
      refine lv_iinc (v := oI v9) (lv' := [(4, .int (oI v9)), (0, .ref (a 0)), (1, .int (oI p1)), (2, .int (oI p2)), (3, .int (oI p3))]) hx hb dX7_isClosed_55 hl (k := 4) rfl (by rw [ev9]; exact oI_add _ _) (by decide) rfl (fun ls hl => ?_)
      refine lv_goto (tgt := 3) hx hb dX7_isClosed_58 (by decide) ?_
      exact ig5 v9 x8 h H locs ls M (lv_sub hl [1, 2, 3, 4, 0] rfl)
    refine z_icmp_ne (tgt := 55) hx hb dX7_isClosed_17 (by decide) h (fun h => ?_) (fun h => ?_)
    · exact hjp7 x4 H locs ls h M (lv_sub hl [0, 1, 2, 3, 4] rfl)
    · refine lv_aload_n hx hb dX7_isClosed_20 rfl (lv_at hl 0 rfl) ?_
      refine gf_X7_40 C M dX7_isClosed_21 ?_
      refine lv_iload hx hb dX7_isClosed_24 (lv_at hl 4 rfl) ?_
      refine al_y_11 C M dX7_isClosed_26 h (fun v10 h => ?_)
      refine lv_iload_n hx hb dX7_isClosed_27 rfl (lv_at hl 1 rfl) ?_
      refine z_icmp_ne (tgt := 55) hx hb dX7_isClosed_28 (by decide) h (fun h => ?_) (fun h => ?_)
      · exact hjp7 x4 H locs ls h M (lv_sub hl [0, 1, 2, 3, 4] rfl)
      · refine lv_aload_n hx hb dX7_isClosed_31 rfl (lv_at hl 0 rfl) ?_
        refine gf_X7_43 C M dX7_isClosed_32 ?_
        refine lv_iload hx hb dX7_isClosed_35 (lv_at hl 4 rfl) ?_
        refine al_y_12 C M dX7_isClosed_37 h (fun v11 h => ?_)
        refine lv_iload_n hx hb dX7_isClosed_38 rfl (lv_at hl 2 rfl) ?_
        refine z_icmp_gt (tgt := 55) hx hb dX7_isClosed_39 (by decide) h (fun h => ?_) (fun h => ?_)
        · exact hjp7 x4 H locs ls h M (lv_sub hl [0, 1, 2, 3, 4] rfl)
        · refine lv_iload_n hx hb dX7_isClosed_42 rfl (lv_at hl 2 rfl) ?_
          refine lv_aload_n hx hb dX7_isClosed_43 rfl (lv_at hl 0 rfl) ?_
          refine gf_X7_46 C M dX7_isClosed_44 ?_
          refine lv_iload hx hb dX7_isClosed_47 (lv_at hl 4 rfl) ?_
          refine al_y_13 C M dX7_isClosed_49 h (fun v12 h => ?_)
          refine z_icmp_gt (tgt := 55) hx hb dX7_isClosed_50 (by decide) h (fun h => ?_) (fun h => ?_)
          · exact hjp7 x4 H locs ls h M (lv_sub hl [0, 1, 2, 3, 4] rfl)
          · refine lv_iconst (v := oI 1) hx hb dX7_isClosed_53 (by decide) ?_
            exact xretI C hr M h nb_1 dX7_isClosed_54
theorem ci_X7_142 {cc : ByteArray} {nL : Nat} {D : va_G} {T : ClassId × ClassId} {a : Nat → Nat} {A : Nat → Prop} {p : Program} {l : Launch} {e : Env} {R : Room} {s : State} {m : MethodId} {args : Array Value} {below : List Frame} {meth : Method} {c : Code} {H : Heap} {locs : List Loc} {Q : State → Prop} {x : XS} {z : Int × XS} {pc : Nat} {ls : Array Slot} {rest : List Value} (C : xcx RX7 cc nL D T (yW T a) A p s m args meth c) (M : xmm D (yW T a) A s H locs x) {p1 p2 p3 : Int} {K : Int → XS → XR} (h : x_call (f_X7_isClosed x p1 p2 p3) K = some z) (hR : 0 + 1 ≤ R.frames ∧ 8 + (5 + 11) + 0 ≤ R.locals) (hsz : ls.size = nL) (hrest : (rest.map fun v => v.category).sum ≤ 8) (hdg : decode cc pc = .ok (.invokevirtual 142, 3)) (kk : ∀ (r : Int) (H1 : Heap) (locs1 : List Loc) (x1 : XS), xmm D (yW T a) A s H1 locs1 x1 → narrow .boolean (.int (oI r)) = .int (oI r) → K r x1 = some z → W p l e R s m args below meth c H1 locs1 0 0 Q (F0 m (pc + 3) ls (.int (oI r) :: rest))) : W p l e R s m args below meth c H locs 0 0 Q (F0 m pc ls (.int (oI p3) :: .int (oI p2) :: .int (oI p1) :: .ref (a 0) :: rest)) :=
  xcallI_V (As := [.int (oI p1), .int (oI p2), .int (oI p3)]) (n := 3) C M (fun zc sz ho => c_X7_isClosed ho sz) bw_924 bw_921 bw_923 bw_73 bw_91 rfl (by decide +kernel) 0 rfl rfl ⟨rfl, rfl⟩ hR hsz rfl hrest hdg h kk
set_option maxHeartbeats 4000000 in
set_option maxRecDepth 100000 in
theorem c_X7_stands {l : Launch} {D : va_G} {T : ClassId × ClassId} {a : Nat → Nat} {x : XS} {p1 : Int} {p2 : Int} {p3 : Int} {z : Int × XS} (h : f_X7_stands x p1 p2 p3 = some z) (sz : Nat) : xMetI l yX7_stands cX7_stands 5 .boolean { frames := 1, cells := 0, slots := 0, locals := 24 } D T (yW T a) sz [.ref (a 0), .int (oI p1), .int (oI p2), .int (oI p3)] x z := by
  refine xMetI_of (by decide) (Nat.le_of_ble_eq_true rfl) (yW_ad T a) ?_
  intro p e s m args below meth c A ls C hr M hl
  have hx := C.1
  have hb := C.2.1
  have hl : lv_has ls 5 [(0, .ref (a 0)), (1, .int (oI p1)), (2, .int (oI p2)), (3, .int (oI p3))] := hl
  have C : xcx RX7 cX7_stands 5 D T (yW T a) A p s m args meth c := C
  revert hl M
  generalize ([] : List Loc) = locs
  generalize s.heap = H
  intro M hl
  unfold f_X7_stands at h
  refine lv_iload_n hx hb dX7_stands_0 rfl (lv_at hl 2 rfl) ?_
  refine lv_aload_n hx hb dX7_stands_1 rfl (lv_at hl 0 rfl) ?_
  refine gf_X7_28 C M dX7_stands_2 ?_
  refine lv_iload_n hx hb dX7_stands_5 rfl (lv_at hl 1 rfl) ?_
  refine al_y_7 C M dX7_stands_6 h (fun v1 h => ?_)
  refine z_iadd hx hb dX7_stands_7 ?_
  refine x_top h (fun v2 h => ?_)
  refine lv_istore (lv' := [(4, .int (oI v2)), (0, .ref (a 0)), (1, .int (oI p1)), (2, .int (oI p2)), (3, .int (oI p3))]) hx hb dX7_stands_8 hl (by decide) rfl (fun ls hl => ?_)
  refine lv_aload_n hx hb dX7_stands_10 rfl (lv_at hl 1 rfl) ?_
  refine gf_X7_49 C M dX7_stands_11 ?_
  refine lv_iload_n hx hb dX7_stands_14 rfl (lv_at hl 2 rfl) ?_
  refine al_y_14 C M dX7_stands_15 h (fun v3 h => ?_)
  refine z_if_eq (tgt := 78) hx hb dX7_stands_16 (by decide) h (fun h => ?_) (fun h => ?_)
  · refine lv_iconst (v := oI 0) hx hb dX7_stands_78 (by decide) ?_
    exact xretI C hr M h nb_0 dX7_stands_79
  · refine lv_aload_n hx hb dX7_stands_19 rfl (lv_at hl 1 rfl) ?_
    refine gf_X7_53 C M dX7_stands_20 ?_
    refine lv_iload_n hx hb dX7_stands_23 rfl (lv_at hl 2 rfl) ?_
    refine al_y_15 C M dX7_stands_24 h (fun v4 h => ?_)
    refine z_if_ne (tgt := 78) hx hb dX7_stands_25 (by decide) h (fun h => ?_) (fun h => ?_)
    · refine lv_iconst (v := oI 0) hx hb dX7_stands_78 (by decide) ?_
      exact xretI C hr M h nb_0 dX7_stands_79
    · refine lv_iload_n hx hb dX7_stands_28 rfl (lv_at hl 3 rfl) ?_
      refine lv_sipush (v := oI 5000) hx hb dX7_stands_29 (by decide) ?_
      refine z_icmp_gt (tgt := 78) hx hb dX7_stands_32 (by decide) h (fun h => ?_) (fun h => ?_)
      · refine lv_iconst (v := oI 0) hx hb dX7_stands_78 (by decide) ?_
        exact xretI C hr M h nb_0 dX7_stands_79
      · refine lv_iload hx hb dX7_stands_35 (lv_at hl 0 rfl) ?_
        refine lv_sipush (v := oI 5000) hx hb dX7_stands_37 (by decide) ?_
        refine z_icmp_gt (tgt := 78) hx hb dX7_stands_40 (by decide) h (fun h => ?_) (fun h => ?_)
        · refine lv_iconst (v := oI 0) hx hb dX7_stands_78 (by decide) ?_
          exact xretI C hr M h nb_0 dX7_stands_79
        · refine lv_aload_n hx hb dX7_stands_43 rfl (lv_at hl 1 rfl) ?_
          refine lv_aload_n hx hb dX7_stands_44 rfl (lv_at hl 1 rfl) ?_
          refine gf_X7_16 C M dX7_stands_45 ?_
          refine lv_iload_n hx hb dX7_stands_48 rfl (lv_at hl 2 rfl) ?_
          refine al_y_3 C M dX7_stands_49 h (fun v5 h => ?_)
          refine lv_iload_n hx hb dX7_stands_50 rfl (lv_at hl 3 rfl) ?_
          refine lv_iload_n hx hb dX7_stands_51 rfl (lv_at hl 4 rfl) ?_
          refine ci_X7_142 C M h ⟨Nat.le_of_ble_eq_true rfl, Nat.le_of_ble_eq_true rfl⟩ hl.1 (Nat.le_of_ble_eq_true rfl) dX7_stands_52 (fun r6 H locs x7 M nr6 h => ?_)
          refine z_if_ne (tgt := 78) hx hb dX7_stands_55 (by decide) h (fun h => ?_) (fun h => ?_)
          · refine lv_iconst (v := oI 0) hx hb dX7_stands_78 (by decide) ?_
            exact xretI C hr M h nb_0 dX7_stands_79
          · refine lv_aload_n hx hb dX7_stands_58 rfl (lv_at hl 1 rfl) ?_
            refine lv_aload_n hx hb dX7_stands_59 rfl (lv_at hl 1 rfl) ?_
            refine gf_X7_19 C M dX7_stands_60 ?_
            refine lv_iload_n hx hb dX7_stands_63 rfl (lv_at hl 2 rfl) ?_
            refine al_y_4 C M dX7_stands_64 h (fun v8 h => ?_)
            refine lv_iload hx hb dX7_stands_65 (lv_at hl 0 rfl) ?_
            refine lv_iload_n hx hb dX7_stands_67 rfl (lv_at hl 4 rfl) ?_
            refine ci_X7_142 C M h ⟨Nat.le_of_ble_eq_true rfl, Nat.le_of_ble_eq_true rfl⟩ hl.1 (Nat.le_of_ble_eq_true rfl) dX7_stands_68 (fun r9 H locs x10 M nr9 h => ?_)
            refine z_if_ne (tgt := 78) hx hb dX7_stands_71 (by decide) h (fun h => ?_) (fun h => ?_)
            · refine lv_iconst (v := oI 0) hx hb dX7_stands_78 (by decide) ?_
              exact xretI C hr M h nb_0 dX7_stands_79
            · refine lv_iconst (v := oI 1) hx hb dX7_stands_74 (by decide) ?_
              refine lv_goto (tgt := 79) hx hb dX7_stands_75 (by decide) ?_
              exact xretI C hr M h nb_1 dX7_stands_79
