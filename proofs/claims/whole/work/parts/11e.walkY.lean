set_option maxHeartbeats 4000000 in
set_option maxRecDepth 100000 in
theorem c_X7_out {l : Launch} {D : va_G} {T : ClassId × ClassId} {a : Nat → Nat} {x : XS} {p1 : Int} {z : Int × XS} (h : f_X7_out x p1 = some z) (sz : Nat) : xMetI l yX7_out cX7_out 2 .int { frames := 0, cells := 0, slots := 0, locals := 0 } D T (yW T a) sz [.ref (a 0), .int (oI p1)] x z := by
  refine xMetI_of (by decide) (Nat.le_of_ble_eq_true rfl) (yW_ad T a) ?_
  intro p e s m args below meth c A ls C hr M hl
  have hx := C.1
  have hb := C.2.1
  have hl : lv_has ls 2 [(0, .ref (a 0)), (1, .int (oI p1))] := hl
  have C : xcx RX7 cX7_out 2 D T (yW T a) A p s m args meth c := C
  revert hl M
  generalize ([] : List Loc) = locs
  generalize s.heap = H
  intro M hl
  unfold f_X7_out at h
  refine lv_aload_n hx hb dX7_out_0 rfl (lv_at hl 0 rfl) ?_
  refine lv_iconst (v := oI 0) hx hb dX7_out_1 (by decide) ?_
  refine pf_X7_92 C M dX7_out_2 h (fun H locs x1 M h => ?_)
  refine lv_iload_n hx hb dX7_out_5 rfl (lv_at hl 1 rfl) ?_
  refine z_if_lt (tgt := 26) hx hb dX7_out_6 (by decide) h (fun h => ?_) (fun h => ?_)
  · refine lv_iconst (v := oI (-1)) hx hb dX7_out_26 (by decide) ?_
    exact xretI C hr M h rfl dX7_out_27
  · refine lv_iload_n hx hb dX7_out_9 rfl (lv_at hl 1 rfl) ?_
    refine lv_aload_n hx hb dX7_out_10 rfl (lv_at hl 0 rfl) ?_
    refine gf_X7_196 C M dX7_out_11 ?_
    refine z_icmp_ge (tgt := 26) hx hb dX7_out_14 (by decide) h (fun h => ?_) (fun h => ?_)
    · refine lv_iconst (v := oI (-1)) hx hb dX7_out_26 (by decide) ?_
      exact xretI C hr M h rfl dX7_out_27
    · refine lv_aload_n hx hb dX7_out_17 rfl (lv_at hl 0 rfl) ?_
      refine gf_X7_77 C M dX7_out_18 ?_
      refine lv_iload_n hx hb dX7_out_21 rfl (lv_at hl 1 rfl) ?_
      refine al_y_23 C M dX7_out_22 h (fun v2 h => ?_)
      refine lv_goto (tgt := 27) hx hb dX7_out_23 (by decide) ?_
      exact xretI C hr M h rfl dX7_out_27
set_option maxHeartbeats 4000000 in
set_option maxRecDepth 100000 in
theorem c_X7_pairsOf {l : Launch} {D : va_G} {T : ClassId × ClassId} {a : Nat → Nat} {x : XS} {p1 : Int} {p2 : Int} {p3 : Int} {z : Int × XS} (h : f_X7_pairsOf x p1 p2 p3 = some z) (sz : Nat) : xMetI l yX7_pairsOf cX7_pairsOf 11 .int { frames := 3, cells := 0, slots := 0, locals := 74 } D T (yW T a) sz [.ref (a 0), .int (oI p1), .int (oI p2), .int (oI p3)] x z := by
  refine xMetI_of (by decide) (Nat.le_of_ble_eq_true rfl) (yW_ad T a) ?_
  intro p e s m args below meth c A ls C hr M hl
  have hx := C.1
  have hb := C.2.1
  have hl : lv_has ls 11 [(0, .ref (a 0)), (1, .int (oI p1)), (2, .int (oI p2)), (3, .int (oI p3))] := hl
  have C : xcx RX7 cX7_pairsOf 11 D T (yW T a) A p s m args meth c := C
  revert hl M
  generalize ([] : List Loc) = locs
  generalize s.heap = H
  intro M hl
  unfold f_X7_pairsOf at h
  refine lv_aload_n hx hb dX7_pairsOf_0 rfl (lv_at hl 0 rfl) ?_
  refine lv_iload_n hx hb dX7_pairsOf_1 rfl (lv_at hl 3 rfl) ?_
  refine lv_iconst (v := oI (-1)) hx hb dX7_pairsOf_2 (by decide) ?_
  refine ci_X7_177 C M h ⟨Nat.le_of_ble_eq_true rfl, Nat.le_of_ble_eq_true rfl⟩ hl.1 (Nat.le_of_ble_eq_true rfl) dX7_pairsOf_3 (fun H locs x2 M h => ?_)
  refine lv_aload_n hx hb dX7_pairsOf_6 rfl (lv_at hl 0 rfl) ?_
  refine lv_iload_n hx hb dX7_pairsOf_7 rfl (lv_at hl 1 rfl) ?_
  refine lv_iconst (v := oI 0) hx hb dX7_pairsOf_8 (by decide) ?_
  refine ci_X7_181 C M h ⟨Nat.le_of_ble_eq_true rfl, Nat.le_of_ble_eq_true rfl⟩ hl.1 (Nat.le_of_ble_eq_true rfl) dX7_pairsOf_9 (fun H locs x4 M h => ?_)
  refine lv_iconst (v := oI 0) hx hb dX7_pairsOf_12 (by decide) ?_
  refine lv_istore (lv' := [(4, .int (oI 0)), (0, .ref (a 0)), (1, .int (oI p1)), (2, .int (oI p2)), (3, .int (oI p3))]) hx hb dX7_pairsOf_13 hl (by decide) rfl (fun ls hl => ?_)
  refine lv_iconst (v := oI 0) hx hb dX7_pairsOf_15 (by decide) ?_
  refine lv_istore (lv' := [(5, .int (oI 0)), (4, .int (oI 0)), (0, .ref (a 0)), (1, .int (oI p1)), (2, .int (oI p2)), (3, .int (oI p3))]) hx hb dX7_pairsOf_16 hl (by decide) rfl (fun ls hl => ?_)
  refine x_jp_el h (fun kx5 ekx5 h => ?_)
  have hkx5 : ∀ (v6 : Int) (x7 : XS) (H : Heap) (locs : List Loc) (ls : Array Slot), kx5 v6 x7 = some z → xmm D (yW T a) A s H locs x7 → lv_has ls 11 [(4, .int (oI v6))] → W p l e { frames := 3, cells := 0, slots := 0, locals := 74 } s m args below meth c H locs 0 0 (xQI below args s D (yW T a) .int z A) (F0 m 305 ls []) := by
    intro v6 x7 H locs ls h M hl
    rw [ekx5] at h
    dsimp only at h
    refine lv_iload hx hb dX7_pairsOf_305 (lv_at hl 0 rfl) ?_
    exact xretI C hr M h rfl dX7_pairsOf_307
  refine x_loop2_ind (P := fun v8 v9 x10 => ∀ (H : Heap) (locs : List Loc) (ls : Array Slot), xmm D (yW T a) A s H locs x10 → lv_has ls 11 [(0, .ref (a 0)), (2, .int (oI p2)), (4, .int (oI v8)), (5, .int (oI v9))] → W p l e { frames := 3, cells := 0, slots := 0, locals := 74 } s m args below meth c H locs 0 0 (xQI below args s D (yW T a) .int z A) (F0 m 18 ls [])) (fun g11 ig11 v8 v9 x10 h => ?_) x_fuel 0 0 x4 h H locs ls M (lv_sub hl [2, 4, 1, 0] rfl)
  intro H locs ls M hl
  unfold b_X7_pairsOf_18 at h
  refine lv_iload hx hb dX7_pairsOf_18 (lv_at hl 3 rfl) ?_
  refine lv_aload_n hx hb dX7_pairsOf_20 rfl (lv_at hl 0 rfl) ?_
  refine gf_X7_150 C M dX7_pairsOf_21 ?_
  refine z_icmp_ge (tgt := 305) hx hb dX7_pairsOf_24 (by decide) h (fun h => ?_) (fun h => ?_)
  · exact hkx5 v8 x10 H locs ls h M (lv_sub hl [2] rfl)
  · refine lv_aload_n hx hb dX7_pairsOf_27 rfl (lv_at hl 0 rfl) ?_
    refine gf_X7_74 C M dX7_pairsOf_28 ?_
    refine lv_iload hx hb dX7_pairsOf_31 (lv_at hl 3 rfl) ?_
    refine al_y_22 C M dX7_pairsOf_33 h (fun v12 h => ?_)
    refine x_jp_el h (fun jp13 ejp13 h => ?_)
    have hjp13 : ∀ (v14 : Int) (x15 : XS) (H : Heap) (locs : List Loc) (ls : Array Slot), jp13 v14 x15 = some z → xmm D (yW T a) A s H locs x15 → lv_has ls 11 [(0, .ref (a 0)), (2, .int (oI p2)), (4, .int (oI v14)), (5, .int (oI v9))] → W p l e { frames := 3, cells := 0, slots := 0, locals := 74 } s m args below meth c H locs 0 0 (xQI below args s D (yW T a) .int z A) (F0 m 299 ls []) := by
      intro v14 x15 H locs ls h M hl
      rw [ejp13] at h
      dsimp only at h
      refine x_nm h (fun v16 ev16 h => ?_)
      refine lv_iinc (v := oI v16) (lv' := [(5, .int (oI v16)), (0, .ref (a 0)), (2, .int (oI p2)), (4, .int (oI v14))]) hx hb dX7_pairsOf_299 hl (k := 3) rfl (by rw [ev16]; exact oI_add _ _) (by decide) rfl (fun ls hl => ?_)
      refine lv_goto (tgt := 18) hx hb dX7_pairsOf_302 (by decide) ?_
      exact ig11 v14 v16 x15 h H locs ls M (lv_sub hl [1, 2, 3, 0] rfl)
    refine z_if_eq (tgt := 299) hx hb dX7_pairsOf_34 (by decide) h (fun h => ?_) (fun h => ?_)
    · exact hjp13 v8 x10 H locs ls h M (lv_sub hl [0, 1, 2, 3] rfl)
    · refine lv_aload_n hx hb dX7_pairsOf_37 rfl (lv_at hl 0 rfl) ?_
      refine gf_X7_19 C M dX7_pairsOf_38 ?_
      refine lv_aload_n hx hb dX7_pairsOf_41 rfl (lv_at hl 0 rfl) ?_
      refine gf_X7_56 C M dX7_pairsOf_42 ?_
      refine lv_iload hx hb dX7_pairsOf_45 (lv_at hl 3 rfl) ?_
      refine al_y_16 C M dX7_pairsOf_47 h (fun v17 h => ?_)
      refine al_y_4 C M dX7_pairsOf_48 h (fun v18 h => ?_)
      refine lv_iload_n hx hb dX7_pairsOf_49 rfl (lv_at hl 1 rfl) ?_
      refine z_icmp_eq (tgt := 56) hx hb dX7_pairsOf_50 (by decide) h (fun h => ?_) (fun h => ?_)
      · refine lv_aload_n hx hb dX7_pairsOf_56 rfl (lv_at hl 0 rfl) ?_
        refine gf_X7_68 C M dX7_pairsOf_57 ?_
        refine lv_iload hx hb dX7_pairsOf_60 (lv_at hl 3 rfl) ?_
        refine al_y_20 C M dX7_pairsOf_62 h (fun v19 h => ?_)
        refine lv_istore (lv' := [(6, .int (oI v19)), (0, .ref (a 0)), (2, .int (oI p2)), (4, .int (oI v8)), (5, .int (oI v9))]) hx hb dX7_pairsOf_63 hl (by decide) rfl (fun ls hl => ?_)
        refine lv_aload_n hx hb dX7_pairsOf_65 rfl (lv_at hl 1 rfl) ?_
        refine gf_X7_65 C M dX7_pairsOf_66 ?_
        refine lv_iload hx hb dX7_pairsOf_69 (lv_at hl 4 rfl) ?_
        refine al_y_19 C M dX7_pairsOf_71 h (fun v20 h => ?_)
        refine lv_istore (lv' := [(7, .int (oI v20)), (6, .int (oI v19)), (0, .ref (a 0)), (2, .int (oI p2)), (4, .int (oI v8)), (5, .int (oI v9))]) hx hb dX7_pairsOf_72 hl (by decide) rfl (fun ls hl => ?_)
        refine lv_iconst (v := oI 0) hx hb dX7_pairsOf_74 (by decide) ?_
        refine lv_istore (lv' := [(8, .int (oI 0)), (7, .int (oI v20)), (6, .int (oI v19)), (0, .ref (a 0)), (2, .int (oI p2)), (4, .int (oI v8)), (5, .int (oI v9))]) hx hb dX7_pairsOf_75 hl (by decide) rfl (fun ls hl => ?_)
        refine lv_iconst (v := oI 0) hx hb dX7_pairsOf_77 (by decide) ?_
        refine lv_istore (lv' := [(9, .int (oI 0)), (8, .int (oI 0)), (7, .int (oI v20)), (6, .int (oI v19)), (0, .ref (a 0)), (2, .int (oI p2)), (4, .int (oI v8)), (5, .int (oI v9))]) hx hb dX7_pairsOf_78 hl (by decide) rfl (fun ls hl => ?_)
        refine x_jp_el h (fun kx21 ekx21 h => ?_)
        have hkx21 : ∀ (v22 : Int) (x23 : XS) (H : Heap) (locs : List Loc) (ls : Array Slot), kx21 v22 x23 = some z → xmm D (yW T a) A s H locs x23 → lv_has ls 11 [(0, .ref (a 0)), (2, .int (oI p2)), (4, .int (oI v8)), (5, .int (oI v9)), (6, .int (oI v19)), (7, .int (oI v20)), (8, .int (oI v22))] → W p l e { frames := 3, cells := 0, slots := 0, locals := 74 } s m args below meth c H locs 0 0 (xQI below args s D (yW T a) .int z A) (F0 m 129 ls []) := by
          intro v22 x23 H locs ls h M hl
          rw [ekx21] at h
          dsimp only at h
          refine lv_iload hx hb dX7_pairsOf_129 (lv_at hl 6 rfl) ?_
          refine z_if_eq (tgt := 137) hx hb dX7_pairsOf_131 (by decide) h (fun h => ?_) (fun h => ?_)
          · refine lv_iconst (v := oI 0) hx hb dX7_pairsOf_137 (by decide) ?_
            refine lv_istore (lv' := [(9, .int (oI 0)), (0, .ref (a 0)), (2, .int (oI p2)), (4, .int (oI v8)), (5, .int (oI v9)), (6, .int (oI v19)), (7, .int (oI v20)), (8, .int (oI v22))]) hx hb dX7_pairsOf_138 hl (by decide) rfl (fun ls hl => ?_)
            refine lv_iconst (v := oI 0) hx hb dX7_pairsOf_140 (by decide) ?_
            refine lv_istore (lv' := [(10, .int (oI 0)), (9, .int (oI 0)), (0, .ref (a 0)), (2, .int (oI p2)), (4, .int (oI v8)), (5, .int (oI v9)), (6, .int (oI v19)), (7, .int (oI v20)), (8, .int (oI v22))]) hx hb dX7_pairsOf_141 hl (by decide) rfl (fun ls hl => ?_)
            refine x_jp_el h (fun kx24 ekx24 h => ?_)
            have hkx24 : ∀ (v25 : Int) (x26 : XS) (H : Heap) (locs : List Loc) (ls : Array Slot), kx24 v25 x26 = some z → xmm D (yW T a) A s H locs x26 → lv_has ls 11 [(0, .ref (a 0)), (2, .int (oI p2)), (5, .int (oI v9)), (6, .int (oI v19)), (7, .int (oI v20)), (9, .int (oI v25))] → W p l e { frames := 3, cells := 0, slots := 0, locals := 74 } s m args below meth c H locs 0 0 (xQI below args s D (yW T a) .int z A) (F0 m 214 ls []) := by
              intro v25 x26 H locs ls h M hl
              rw [ekx24] at h
              dsimp only at h
              refine lv_iload hx hb dX7_pairsOf_214 (lv_at hl 5 rfl) ?_
              refine lv_istore (lv' := [(10, .int (oI v25)), (0, .ref (a 0)), (2, .int (oI p2)), (5, .int (oI v9)), (6, .int (oI v19)), (7, .int (oI v20)), (9, .int (oI v25))]) hx hb dX7_pairsOf_216 hl (by decide) rfl (fun ls hl => ?_)
              refine x_jp_el h (fun kx27 ekx27 h => ?_)
              have hkx27 : ∀ (v28 : Int) (x29 : XS) (H : Heap) (locs : List Loc) (ls : Array Slot), kx27 v28 x29 = some z → xmm D (yW T a) A s H locs x29 → lv_has ls 11 [(0, .ref (a 0)), (2, .int (oI p2)), (5, .int (oI v9)), (6, .int (oI v19)), (7, .int (oI v20)), (9, .int (oI v25)), (10, .int (oI v28))] → W p l e { frames := 3, cells := 0, slots := 0, locals := 74 } s m args below meth c H locs 0 0 (xQI below args s D (yW T a) .int z A) (F0 m 275 ls []) := by
                intro v28 x29 H locs ls h M hl
                rw [ekx27] at h
                dsimp only at h
                refine lv_aload_n hx hb dX7_pairsOf_275 rfl (lv_at hl 0 rfl) ?_
                refine gf_X7_80 C M dX7_pairsOf_276 ?_
                refine lv_iload hx hb dX7_pairsOf_279 (lv_at hl 6 rfl) ?_
                refine lv_iload hx hb dX7_pairsOf_281 (lv_at hl 3 rfl) ?_
                refine as_y_24 C M dX7_pairsOf_283 h (fun H locs x30 M h => ?_)
                refine lv_aload_n hx hb dX7_pairsOf_284 rfl (lv_at hl 0 rfl) ?_
                refine gf_X7_83 C M dX7_pairsOf_285 ?_
                refine lv_iload hx hb dX7_pairsOf_288 (lv_at hl 6 rfl) ?_
                refine lv_iload hx hb dX7_pairsOf_290 (lv_at hl 4 rfl) ?_
                refine as_y_25 C M dX7_pairsOf_292 h (fun H locs x31 M h => ?_)
                refine lv_iload hx hb dX7_pairsOf_293 (lv_at hl 5 rfl) ?_
                refine lv_iconst (v := oI 1) hx hb dX7_pairsOf_295 (by decide) ?_
                refine z_iadd hx hb dX7_pairsOf_296 ?_
                refine x_top h (fun v32 h => ?_)
                refine lv_istore (lv' := [(4, .int (oI v32)), (0, .ref (a 0)), (2, .int (oI p2)), (5, .int (oI v9)), (6, .int (oI v19)), (7, .int (oI v20)), (9, .int (oI v25)), (10, .int (oI v28))]) hx hb dX7_pairsOf_297 hl (by decide) rfl (fun ls hl => ?_)
                exact hjp13 v32 x31 H locs ls h M (lv_sub hl [1, 2, 0, 3] rfl)
              refine x_loop1_ind (P := fun v33 x34 => ∀ (H : Heap) (locs : List Loc) (ls : Array Slot), xmm D (yW T a) A s H locs x34 → lv_has ls 11 [(0, .ref (a 0)), (2, .int (oI p2)), (5, .int (oI v9)), (6, .int (oI v19)), (7, .int (oI v20)), (9, .int (oI v25)), (10, .int (oI v33))] → W p l e { frames := 3, cells := 0, slots := 0, locals := 74 } s m args below meth c H locs 0 0 (xQI below args s D (yW T a) .int z A) (F0 m 218 ls [])) (fun g35 ig35 v33 x34 h => ?_) x_fuel v25 x26 h H locs ls M (lv_sub hl [1, 2, 3, 4, 5, 6, 0] rfl)
              intro H locs ls M hl
              unfold b_X7_pairsOf_218 at h
              refine lv_iload hx hb dX7_pairsOf_218 (lv_at hl 6 rfl) ?_
              refine z_if_le (tgt := 275) hx hb dX7_pairsOf_220 (by decide) h (fun h => ?_) (fun h => ?_)
              · exact hkx27 v33 x34 H locs ls h M (lv_sub hl [0, 1, 2, 3, 4, 5, 6] rfl)
              · refine lv_aload_n hx hb dX7_pairsOf_223 rfl (lv_at hl 0 rfl) ?_
                refine gf_X7_80 C M dX7_pairsOf_224 ?_
                refine lv_iload hx hb dX7_pairsOf_227 (lv_at hl 6 rfl) ?_
                refine lv_iconst (v := oI 1) hx hb dX7_pairsOf_229 (by decide) ?_
                refine z_isub hx hb dX7_pairsOf_230 ?_
                refine al_y_24 C M dX7_pairsOf_231 h (fun v36 h => ?_)
                refine lv_iload hx hb dX7_pairsOf_232 (lv_at hl 3 rfl) ?_
                refine z_icmp_le (tgt := 275) hx hb dX7_pairsOf_234 (by decide) h (fun h => ?_) (fun h => ?_)
                · exact hkx27 v33 x34 H locs ls h M (lv_sub hl [0, 1, 2, 3, 4, 5, 6] rfl)
                · refine lv_aload_n hx hb dX7_pairsOf_237 rfl (lv_at hl 0 rfl) ?_
                  refine gf_X7_80 C M dX7_pairsOf_238 ?_
                  refine lv_iload hx hb dX7_pairsOf_241 (lv_at hl 6 rfl) ?_
                  refine lv_aload_n hx hb dX7_pairsOf_243 rfl (lv_at hl 0 rfl) ?_
                  refine gf_X7_80 C M dX7_pairsOf_244 ?_
                  refine lv_iload hx hb dX7_pairsOf_247 (lv_at hl 6 rfl) ?_
                  refine lv_iconst (v := oI 1) hx hb dX7_pairsOf_249 (by decide) ?_
                  refine z_isub hx hb dX7_pairsOf_250 ?_
                  refine al_y_24 C M dX7_pairsOf_251 h (fun v37 h => ?_)
                  refine as_y_24 C M dX7_pairsOf_252 h (fun H locs x38 M h => ?_)
                  refine lv_aload_n hx hb dX7_pairsOf_253 rfl (lv_at hl 0 rfl) ?_
                  refine gf_X7_83 C M dX7_pairsOf_254 ?_
                  refine lv_iload hx hb dX7_pairsOf_257 (lv_at hl 6 rfl) ?_
                  refine lv_aload_n hx hb dX7_pairsOf_259 rfl (lv_at hl 0 rfl) ?_
                  refine gf_X7_83 C M dX7_pairsOf_260 ?_
                  refine lv_iload hx hb dX7_pairsOf_263 (lv_at hl 6 rfl) ?_
                  refine lv_iconst (v := oI 1) hx hb dX7_pairsOf_265 (by decide) ?_
                  refine z_isub hx hb dX7_pairsOf_266 ?_
                  refine al_y_25 C M dX7_pairsOf_267 h (fun v39 h => ?_)
                  refine as_y_25 C M dX7_pairsOf_268 h (fun H locs x40 M h => ?_)
                  refine x_nm h (fun v41 ev41 h => ?_)
                  refine lv_iinc (v := oI v41) (lv' := [(10, .int (oI v41)), (0, .ref (a 0)), (2, .int (oI p2)), (5, .int (oI v9)), (6, .int (oI v19)), (7, .int (oI v20)), (9, .int (oI v25))]) hx hb dX7_pairsOf_269 hl (k := 6) rfl (by rw [ev41]; exact oI_add _ _) (by decide) rfl (fun ls hl => ?_)
                  refine lv_goto (tgt := 218) hx hb dX7_pairsOf_272 (by decide) ?_
                  exact ig35 v41 x40 h H locs ls M (lv_sub hl [1, 2, 3, 4, 5, 6, 0] rfl)
            refine x_loop2_ind (P := fun v42 v43 x44 => ∀ (H : Heap) (locs : List Loc) (ls : Array Slot), xmm D (yW T a) A s H locs x44 → lv_has ls 11 [(0, .ref (a 0)), (2, .int (oI p2)), (4, .int (oI v8)), (5, .int (oI v9)), (6, .int (oI v19)), (7, .int (oI v20)), (9, .int (oI v42)), (10, .int (oI v43))] → W p l e { frames := 3, cells := 0, slots := 0, locals := 74 } s m args below meth c H locs 0 0 (xQI below args s D (yW T a) .int z A) (F0 m 143 ls [])) (fun g45 ig45 v42 v43 x44 h => ?_) x_fuel 0 0 x23 h H locs ls M (lv_sub hl [2, 3, 4, 5, 6, 7, 1, 0] rfl)
            intro H locs ls M hl
            unfold b_X7_pairsOf_143 at h
            refine lv_iload hx hb dX7_pairsOf_143 (lv_at hl 7 rfl) ?_
            refine lv_iload hx hb dX7_pairsOf_145 (lv_at hl 2 rfl) ?_
            refine z_icmp_ge (tgt := 214) hx hb dX7_pairsOf_147 (by decide) h (fun h => ?_) (fun h => ?_)
            · exact hkx24 v42 x44 H locs ls h M (lv_sub hl [0, 1, 3, 4, 5, 6] rfl)
            · refine lv_iload hx hb dX7_pairsOf_150 (lv_at hl 4 rfl) ?_
              refine lv_aload_n hx hb dX7_pairsOf_152 rfl (lv_at hl 0 rfl) ?_
              refine gf_X7_80 C M dX7_pairsOf_153 ?_
              refine lv_iload hx hb dX7_pairsOf_156 (lv_at hl 7 rfl) ?_
              refine al_y_24 C M dX7_pairsOf_158 h (fun v46 h => ?_)
              refine x_jp_el h (fun jp47 ejp47 h => ?_)
              have hjp47 : ∀ (v48 : Int) (x49 : XS) (H : Heap) (locs : List Loc) (ls : Array Slot), jp47 v48 x49 = some z → xmm D (yW T a) A s H locs x49 → lv_has ls 11 [(0, .ref (a 0)), (2, .int (oI p2)), (4, .int (oI v8)), (5, .int (oI v9)), (6, .int (oI v19)), (7, .int (oI v20)), (9, .int (oI v48)), (10, .int (oI v43))] → W p l e { frames := 3, cells := 0, slots := 0, locals := 74 } s m args below meth c H locs 0 0 (xQI below args s D (yW T a) .int z A) (F0 m 208 ls []) := by
                intro v48 x49 H locs ls h M hl
                rw [ejp47] at h
                dsimp only at h
                refine x_nm h (fun v50 ev50 h => ?_)
                refine lv_iinc (v := oI v50) (lv' := [(10, .int (oI v50)), (0, .ref (a 0)), (2, .int (oI p2)), (4, .int (oI v8)), (5, .int (oI v9)), (6, .int (oI v19)), (7, .int (oI v20)), (9, .int (oI v48))]) hx hb dX7_pairsOf_208 hl (k := 7) rfl (by rw [ev50]; exact oI_add _ _) (by decide) rfl (fun ls hl => ?_)
                refine lv_goto (tgt := 143) hx hb dX7_pairsOf_211 (by decide) ?_
                exact ig45 v48 v50 x49 h H locs ls M (lv_sub hl [1, 2, 3, 4, 5, 6, 7, 0] rfl)
              refine x_jp_el h (fun jp51 ejp51 h => ?_)
              have hjp51 : ∀ (x52 : XS) (H : Heap) (locs : List Loc) (ls : Array Slot), jp51 x52 = some z → xmm D (yW T a) A s H locs x52 → lv_has ls 11 [(0, .ref (a 0)), (2, .int (oI p2)), (4, .int (oI v8)), (5, .int (oI v9)), (6, .int (oI v19)), (7, .int (oI v20)), (9, .int (oI v42)), (10, .int (oI v43))] → W p l e { frames := 3, cells := 0, slots := 0, locals := 74 } s m args below meth c H locs 0 0 (xQI below args s D (yW T a) .int z A) (F0 m 177 ls []) := by
                intro x52 H locs ls h M hl
                rw [ejp51] at h
                dsimp only at h
                refine lv_aload_n hx hb dX7_pairsOf_177 rfl (lv_at hl 0 rfl) ?_
                refine gf_X7_80 C M dX7_pairsOf_178 ?_
                refine lv_iload hx hb dX7_pairsOf_181 (lv_at hl 6 rfl) ?_
                refine lv_aload_n hx hb dX7_pairsOf_183 rfl (lv_at hl 0 rfl) ?_
                refine gf_X7_80 C M dX7_pairsOf_184 ?_
                refine lv_iload hx hb dX7_pairsOf_187 (lv_at hl 7 rfl) ?_
                refine al_y_24 C M dX7_pairsOf_189 h (fun v53 h => ?_)
                refine as_y_24 C M dX7_pairsOf_190 h (fun H locs x54 M h => ?_)
                refine lv_aload_n hx hb dX7_pairsOf_191 rfl (lv_at hl 0 rfl) ?_
                refine gf_X7_83 C M dX7_pairsOf_192 ?_
                refine lv_iload hx hb dX7_pairsOf_195 (lv_at hl 6 rfl) ?_
                refine lv_aload_n hx hb dX7_pairsOf_197 rfl (lv_at hl 0 rfl) ?_
                refine gf_X7_83 C M dX7_pairsOf_198 ?_
                refine lv_iload hx hb dX7_pairsOf_201 (lv_at hl 7 rfl) ?_
                refine al_y_25 C M dX7_pairsOf_203 h (fun v55 h => ?_)
                refine as_y_25 C M dX7_pairsOf_204 h (fun H locs x56 M h => ?_)
                refine x_nm h (fun v57 ev57 h => ?_)
                refine lv_iinc (v := oI v57) (lv' := [(9, .int (oI v57)), (0, .ref (a 0)), (2, .int (oI p2)), (4, .int (oI v8)), (5, .int (oI v9)), (6, .int (oI v19)), (7, .int (oI v20)), (10, .int (oI v43))]) hx hb dX7_pairsOf_205 hl (k := 6) rfl (by rw [ev57]; exact oI_add _ _) (by decide) rfl (fun ls hl => ?_)
                exact hjp47 v57 x56 H locs ls h M (lv_sub hl [1, 2, 3, 4, 5, 6, 0, 7] rfl)
              refine z_icmp_lt (tgt := 177) hx hb dX7_pairsOf_159 (by decide) h (fun h => ?_) (fun h => ?_)
              · exact hjp51 x44 H locs ls h M (lv_sub hl [0, 1, 2, 3, 4, 5, 6, 7] rfl)
              · refine lv_iload hx hb dX7_pairsOf_162 (lv_at hl 5 rfl) ?_
                refine lv_aload_n hx hb dX7_pairsOf_164 rfl (lv_at hl 0 rfl) ?_
                refine gf_X7_83 C M dX7_pairsOf_165 ?_
                refine lv_iload hx hb dX7_pairsOf_168 (lv_at hl 7 rfl) ?_
                refine al_y_25 C M dX7_pairsOf_170 h (fun v58 h => ?_)
                refine z_icmp_gt (tgt := 177) hx hb dX7_pairsOf_171 (by decide) h (fun h => ?_) (fun h => ?_)
                · exact hjp51 x44 H locs ls h M (lv_sub hl [0, 1, 2, 3, 4, 5, 6, 7] rfl)
                · refine lv_goto (tgt := 208) hx hb dX7_pairsOf_174 (by decide) ?_
                  exact hjp47 v42 x44 H locs ls h M (lv_sub hl [0, 1, 2, 3, 4, 5, 6, 7] rfl)
          · refine lv_goto (tgt := 299) hx hb dX7_pairsOf_134 (by decide) ?_
            exact hjp13 v8 x23 H locs ls h M (lv_sub hl [0, 1, 2, 3] rfl)
        refine x_loop2_ind (P := fun v59 v60 x61 => ∀ (H : Heap) (locs : List Loc) (ls : Array Slot), xmm D (yW T a) A s H locs x61 → lv_has ls 11 [(0, .ref (a 0)), (2, .int (oI p2)), (4, .int (oI v8)), (5, .int (oI v9)), (6, .int (oI v19)), (7, .int (oI v20)), (8, .int (oI v59)), (9, .int (oI v60))] → W p l e { frames := 3, cells := 0, slots := 0, locals := 74 } s m args below meth c H locs 0 0 (xQI below args s D (yW T a) .int z A) (F0 m 80 ls [])) (fun g62 ig62 v59 v60 x61 h => ?_) x_fuel 0 0 x10 h H locs ls M (lv_sub hl [4, 5, 6, 7, 3, 2, 1, 0] rfl)
        intro H locs ls M hl
        unfold b_X7_pairsOf_80 at h
        refine lv_iload hx hb dX7_pairsOf_80 (lv_at hl 7 rfl) ?_
        refine lv_iload hx hb dX7_pairsOf_82 (lv_at hl 2 rfl) ?_
        refine z_icmp_ge (tgt := 129) hx hb dX7_pairsOf_84 (by decide) h (fun h => ?_) (fun h => ?_)
        · exact hkx21 v59 x61 H locs ls h M (lv_sub hl [0, 1, 2, 3, 4, 5, 6] rfl)
        · refine lv_iload hx hb dX7_pairsOf_87 (lv_at hl 6 rfl) ?_
          refine x_jp_el h (fun jp63 ejp63 h => ?_)
          have hjp63 : ∀ (v64 : Int) (x65 : XS) (H : Heap) (locs : List Loc) (ls : Array Slot), jp63 v64 x65 = some z → xmm D (yW T a) A s H locs x65 → lv_has ls 11 [(0, .ref (a 0)), (2, .int (oI p2)), (4, .int (oI v8)), (5, .int (oI v9)), (6, .int (oI v19)), (7, .int (oI v20)), (9, .int (oI v60))] → W p l e { frames := 3, cells := 0, slots := 0, locals := 74 } s m args below meth c H locs 0 0 (xQI below args s D (yW T a) .int z A) (F0 m 121 ls [.int (oI v64)]) := by
            intro v64 x65 H locs ls h M hl
            rw [ejp63] at h
            dsimp only at h
            refine lv_istore (lv' := [(8, .int (oI v64)), (0, .ref (a 0)), (2, .int (oI p2)), (4, .int (oI v8)), (5, .int (oI v9)), (6, .int (oI v19)), (7, .int (oI v20)), (9, .int (oI v60))]) hx hb dX7_pairsOf_121 hl (by decide) rfl (fun ls hl => ?_)
            refine x_nm h (fun v66 ev66 h => ?_)
            refine lv_iinc (v := oI v66) (lv' := [(9, .int (oI v66)), (8, .int (oI v64)), (0, .ref (a 0)), (2, .int (oI p2)), (4, .int (oI v8)), (5, .int (oI v9)), (6, .int (oI v19)), (7, .int (oI v20))]) hx hb dX7_pairsOf_123 hl (k := 7) rfl (by rw [ev66]; exact oI_add _ _) (by decide) rfl (fun ls hl => ?_)
            refine lv_goto (tgt := 80) hx hb dX7_pairsOf_126 (by decide) ?_
            exact ig62 v64 v66 x65 h H locs ls M (lv_sub hl [2, 3, 4, 5, 6, 7, 1, 0] rfl)
          refine x_jp_el h (fun jp67 ejp67 h => ?_)
          have hjp67 : ∀ (x68 : XS) (H : Heap) (locs : List Loc) (ls : Array Slot), jp67 x68 = some z → xmm D (yW T a) A s H locs x68 → lv_has ls 11 [(0, .ref (a 0)), (2, .int (oI p2)), (4, .int (oI v8)), (5, .int (oI v9)), (6, .int (oI v19)), (7, .int (oI v20)), (9, .int (oI v60))] → W p l e { frames := 3, cells := 0, slots := 0, locals := 74 } s m args below meth c H locs 0 0 (xQI below args s D (yW T a) .int z A) (F0 m 116 ls []) := by
            intro x68 H locs ls h M hl
            rw [ejp67] at h
            dsimp only at h
            refine lv_iconst (v := oI 1) hx hb dX7_pairsOf_116 (by decide) ?_
            refine lv_goto (tgt := 121) hx hb dX7_pairsOf_117 (by decide) ?_
            exact hjp63 1 x68 H locs ls h M (lv_sub hl [0, 1, 2, 3, 4, 5, 6] rfl)
          refine z_if_ne (tgt := 116) hx hb dX7_pairsOf_89 (by decide) h (fun h => ?_) (fun h => ?_)
          · exact hjp67 x61 H locs ls h M (lv_sub hl [0, 1, 2, 3, 4, 5, 7] rfl)
          · refine lv_aload_n hx hb dX7_pairsOf_92 rfl (lv_at hl 0 rfl) ?_
            refine gf_X7_80 C M dX7_pairsOf_93 ?_
            refine lv_iload hx hb dX7_pairsOf_96 (lv_at hl 7 rfl) ?_
            refine al_y_24 C M dX7_pairsOf_98 h (fun v69 h => ?_)
            refine lv_iload hx hb dX7_pairsOf_99 (lv_at hl 4 rfl) ?_
            refine x_jp_el h (fun jp70 ejp70 h => ?_)
            have hjp70 : ∀ (x71 : XS) (H : Heap) (locs : List Loc) (ls : Array Slot), jp70 x71 = some z → xmm D (yW T a) A s H locs x71 → lv_has ls 11 [(0, .ref (a 0)), (2, .int (oI p2)), (4, .int (oI v8)), (5, .int (oI v9)), (6, .int (oI v19)), (7, .int (oI v20)), (9, .int (oI v60))] → W p l e { frames := 3, cells := 0, slots := 0, locals := 74 } s m args below meth c H locs 0 0 (xQI below args s D (yW T a) .int z A) (F0 m 120 ls []) := by
              intro x71 H locs ls h M hl
              rw [ejp70] at h
              dsimp only at h
              refine lv_iconst (v := oI 0) hx hb dX7_pairsOf_120 (by decide) ?_
              exact hjp63 0 x71 H locs ls h M (lv_sub hl [0, 1, 2, 3, 4, 5, 6] rfl)
            refine z_icmp_lt (tgt := 120) hx hb dX7_pairsOf_101 (by decide) h (fun h => ?_) (fun h => ?_)
            · exact hjp70 x61 H locs ls h M (lv_sub hl [0, 1, 2, 3, 4, 5, 7] rfl)
            · refine lv_aload_n hx hb dX7_pairsOf_104 rfl (lv_at hl 0 rfl) ?_
              refine gf_X7_83 C M dX7_pairsOf_105 ?_
              refine lv_iload hx hb dX7_pairsOf_108 (lv_at hl 7 rfl) ?_
              refine al_y_25 C M dX7_pairsOf_110 h (fun v72 h => ?_)
              refine lv_iload hx hb dX7_pairsOf_111 (lv_at hl 5 rfl) ?_
              refine z_icmp_gt (tgt := 120) hx hb dX7_pairsOf_113 (by decide) h (fun h => ?_) (fun h => ?_)
              · exact hjp70 x61 H locs ls h M (lv_sub hl [0, 1, 2, 3, 4, 5, 7] rfl)
              · exact hjp67 x61 H locs ls h M (lv_sub hl [0, 1, 2, 3, 4, 5, 7] rfl)
      · refine lv_goto (tgt := 299) hx hb dX7_pairsOf_53 (by decide) ?_
        exact hjp13 v8 x10 H locs ls h M (lv_sub hl [0, 1, 2, 3] rfl)
theorem ci_X7_199 {cc : ByteArray} {nL : Nat} {D : va_G} {T : ClassId × ClassId} {a : Nat → Nat} {A : Nat → Prop} {p : Program} {l : Launch} {e : Env} {R : Room} {s : State} {m : MethodId} {args : Array Value} {below : List Frame} {meth : Method} {c : Code} {H : Heap} {locs : List Loc} {Q : State → Prop} {x : XS} {z : Int × XS} {pc : Nat} {ls : Array Slot} {rest : List Value} (C : xcx RX7 cc nL D T (yW T a) A p s m args meth c) (M : xmm D (yW T a) A s H locs x) {p1 p2 p3 : Int} {K : Int → XS → XR} (h : x_call (f_X7_pairsOf x p1 p2 p3) K = some z) (hR : 3 + 1 ≤ R.frames ∧ 8 + (11 + 11) + 74 ≤ R.locals) (hsz : ls.size = nL) (hrest : (rest.map fun v => v.category).sum ≤ 8) (hdg : decode cc pc = .ok (.invokevirtual 199, 3)) (kk : ∀ (r : Int) (H1 : Heap) (locs1 : List Loc) (x1 : XS), xmm D (yW T a) A s H1 locs1 x1 → narrow .int (.int (oI r)) = .int (oI r) → K r x1 = some z → W p l e R s m args below meth c H1 locs1 0 0 Q (F0 m (pc + 3) ls (.int (oI r) :: rest))) : W p l e R s m args below meth c H locs 0 0 Q (F0 m pc ls (.int (oI p3) :: .int (oI p2) :: .int (oI p1) :: .ref (a 0) :: rest)) :=
  xcallI_V (As := [.int (oI p1), .int (oI p2), .int (oI p3)]) (n := 3) C M (fun zc sz ho => c_X7_pairsOf ho sz) bw_979 bw_976 bw_978 bw_80 bw_91 rfl (by decide +kernel) 0 rfl rfl ⟨rfl, rfl⟩ hR hsz rfl hrest hdg h kk
set_option maxHeartbeats 4000000 in
set_option maxRecDepth 100000 in
theorem c_X7_pairs {l : Launch} {D : va_G} {T : ClassId × ClassId} {a : Nat → Nat} {x : XS} {p1 : Int} {p2 : Int} {p3 : Int} {z : Int × XS} (h : f_X7_pairs x p1 p2 p3 = some z) (sz : Nat) : xMetI l yX7_pairs cX7_pairs 4 .int { frames := 4, cells := 0, slots := 0, locals := 104 } D T (yW T a) sz [.ref (a 0), .int (oI p1), .int (oI p2), .int (oI p3)] x z := by
  refine xMetI_of (by decide) (Nat.le_of_ble_eq_true rfl) (yW_ad T a) ?_
  intro p e s m args below meth c A ls C hr M hl
  have hx := C.1
  have hb := C.2.1
  have hl : lv_has ls 4 [(0, .ref (a 0)), (1, .int (oI p1)), (2, .int (oI p2)), (3, .int (oI p3))] := hl
  have C : xcx RX7 cX7_pairs 4 D T (yW T a) A p s m args meth c := C
  revert hl M
  generalize ([] : List Loc) = locs
  generalize s.heap = H
  intro M hl
  unfold f_X7_pairs at h
  refine lv_aload_n hx hb dX7_pairs_0 rfl (lv_at hl 0 rfl) ?_
  refine lv_iconst (v := oI 0) hx hb dX7_pairs_1 (by decide) ?_
  refine pf_X7_92 C M dX7_pairs_2 h (fun H locs x1 M h => ?_)
  refine lv_aload_n hx hb dX7_pairs_5 rfl (lv_at hl 0 rfl) ?_
  refine lv_aload_n hx hb dX7_pairs_6 rfl (lv_at hl 0 rfl) ?_
  refine lv_iload_n hx hb dX7_pairs_7 rfl (lv_at hl 1 rfl) ?_
  refine lv_iload_n hx hb dX7_pairs_8 rfl (lv_at hl 2 rfl) ?_
  refine lv_iconst (v := oI 0) hx hb dX7_pairs_9 (by decide) ?_
  refine lv_iconst (v := oI 0) hx hb dX7_pairs_10 (by decide) ?_
  refine lv_iload_n hx hb dX7_pairs_11 rfl (lv_at hl 3 rfl) ?_
  refine ci_X7_173 C M h ⟨Nat.le_of_ble_eq_true rfl, Nat.le_of_ble_eq_true rfl⟩ hl.1 (Nat.le_of_ble_eq_true rfl) dX7_pairs_12 (fun r2 H locs x3 M nr2 h => ?_)
  refine pf_X7_96 C M dX7_pairs_15 h (fun H locs x4 M h => ?_)
  refine lv_aload_n hx hb dX7_pairs_18 rfl (lv_at hl 0 rfl) ?_
  refine gf_X7_96 C M dX7_pairs_19 ?_
  refine z_if_le (tgt := 29) hx hb dX7_pairs_22 (by decide) h (fun h => ?_) (fun h => ?_)
  · refine lv_aload_n hx hb dX7_pairs_29 rfl (lv_at hl 0 rfl) ?_
    refine lv_iload_n hx hb dX7_pairs_30 rfl (lv_at hl 1 rfl) ?_
    refine lv_iload_n hx hb dX7_pairs_31 rfl (lv_at hl 2 rfl) ?_
    refine lv_iload_n hx hb dX7_pairs_32 rfl (lv_at hl 3 rfl) ?_
    refine ci_X7_199 C M h ⟨Nat.le_of_ble_eq_true rfl, Nat.le_of_ble_eq_true rfl⟩ hl.1 (Nat.le_of_ble_eq_true rfl) dX7_pairs_33 (fun r5 H locs x6 M nr5 h => ?_)
    exact xretI C hr M h rfl dX7_pairs_36
  · refine lv_iconst (v := oI (-1)) hx hb dX7_pairs_25 (by decide) ?_
    refine lv_goto (tgt := 36) hx hb dX7_pairs_26 (by decide) ?_
    exact xretI C hr M h rfl dX7_pairs_36
set_option maxHeartbeats 4000000 in
set_option maxRecDepth 100000 in
theorem c_X7_pair {l : Launch} {D : va_G} {T : ClassId × ClassId} {a : Nat → Nat} {x : XS} {p1 : Int} {p2 : Int} {p3 : Int} {p4 : Int} {p5 : Int} (nb5 : narrow .boolean (.int (oI p5)) = .int (oI p5)) {z : Int × XS} (h : f_X7_pair x p1 p2 p3 p4 p5 = some z) (sz : Nat) : xMetI l yX7_pair cX7_pair 6 .int { frames := 4, cells := 0, slots := 0, locals := 104 } D T (yW T a) sz [.ref (a 0), .int (oI p1), .int (oI p2), .int (oI p3), .int (oI p4), .int (oI p5)] x z := by
  refine xMetI_of (by decide) (Nat.le_of_ble_eq_true rfl) (yW_ad T a) ?_
  intro p e s m args below meth c A ls C hr M hl
  have hx := C.1
  have hb := C.2.1
  have hl : lv_has ls 6 [(0, .ref (a 0)), (1, .int (oI p1)), (2, .int (oI p2)), (3, .int (oI p3)), (4, .int (oI p4)), (5, .int (oI p5))] := hl
  have C : xcx RX7 cX7_pair 6 D T (yW T a) A p s m args meth c := C
  revert hl M
  generalize ([] : List Loc) = locs
  generalize s.heap = H
  intro M hl
  unfold f_X7_pair at h
  refine lv_aload_n hx hb dX7_pair_0 rfl (lv_at hl 0 rfl) ?_
  refine lv_iconst (v := oI 0) hx hb dX7_pair_1 (by decide) ?_
  refine pf_X7_92 C M dX7_pair_2 h (fun H locs x1 M h => ?_)
  refine lv_aload_n hx hb dX7_pair_5 rfl (lv_at hl 0 rfl) ?_
  refine lv_aload_n hx hb dX7_pair_6 rfl (lv_at hl 0 rfl) ?_
  refine lv_iload_n hx hb dX7_pair_7 rfl (lv_at hl 1 rfl) ?_
  refine lv_iload_n hx hb dX7_pair_8 rfl (lv_at hl 2 rfl) ?_
  refine lv_iconst (v := oI 0) hx hb dX7_pair_9 (by decide) ?_
  refine lv_iconst (v := oI 0) hx hb dX7_pair_10 (by decide) ?_
  refine lv_iload_n hx hb dX7_pair_11 rfl (lv_at hl 3 rfl) ?_
  refine ci_X7_173 C M h ⟨Nat.le_of_ble_eq_true rfl, Nat.le_of_ble_eq_true rfl⟩ hl.1 (Nat.le_of_ble_eq_true rfl) dX7_pair_12 (fun r2 H locs x3 M nr2 h => ?_)
  refine pf_X7_96 C M dX7_pair_15 h (fun H locs x4 M h => ?_)
  refine lv_aload_n hx hb dX7_pair_18 rfl (lv_at hl 0 rfl) ?_
  refine gf_X7_96 C M dX7_pair_19 ?_
  refine z_if_le (tgt := 27) hx hb dX7_pair_22 (by decide) h (fun h => ?_) (fun h => ?_)
  · refine lv_iload hx hb dX7_pair_27 (lv_at hl 4 rfl) ?_
    refine x_jp_el h (fun jp5 ejp5 h => ?_)
    have hjp5 : ∀ (x6 : XS) (H : Heap) (locs : List Loc) (ls : Array Slot), jp5 x6 = some z → xmm D (yW T a) A s H locs x6 → lv_has ls 6 [(0, .ref (a 0))] → W p l e { frames := 4, cells := 0, slots := 0, locals := 104 } s m args below meth c H locs 0 0 (xQI below args s D (yW T a) .int z A) (F0 m 44 ls []) := by
      intro x6 H locs ls h M hl
      rw [ejp5] at h
      dsimp only at h
      refine lv_aload_n hx hb dX7_pair_44 rfl (lv_at hl 0 rfl) ?_
      refine lv_bipush (v := oI 7) hx hb dX7_pair_45 (by decide) ?_
      refine ci_X7_109 C M h ⟨Nat.le_of_ble_eq_true rfl, Nat.le_of_ble_eq_true rfl⟩ hl.1 (Nat.le_of_ble_eq_true rfl) dX7_pair_47 (fun r7 H locs x8 M nr7 h => ?_)
      exact xretI C hr M h rfl dX7_pair_50
    refine z_if_lt (tgt := 44) hx hb dX7_pair_29 (by decide) h (fun h => ?_) (fun h => ?_)
    · exact hjp5 x4 H locs ls h M (lv_sub hl [0] rfl)
    · refine lv_iload hx hb dX7_pair_32 (lv_at hl 4 rfl) ?_
      refine lv_aload_n hx hb dX7_pair_34 rfl (lv_at hl 0 rfl) ?_
      refine lv_iload_n hx hb dX7_pair_35 rfl (lv_at hl 1 rfl) ?_
      refine lv_iload_n hx hb dX7_pair_36 rfl (lv_at hl 2 rfl) ?_
      refine lv_iload_n hx hb dX7_pair_37 rfl (lv_at hl 3 rfl) ?_
      refine ci_X7_199 C M h ⟨Nat.le_of_ble_eq_true rfl, Nat.le_of_ble_eq_true rfl⟩ hl.1 (Nat.le_of_ble_eq_true rfl) dX7_pair_38 (fun r9 H locs x10 M nr9 h => ?_)
      refine z_icmp_lt (tgt := 51) hx hb dX7_pair_41 (by decide) h (fun h => ?_) (fun h => ?_)
      · refine lv_iload hx hb dX7_pair_51 (lv_at hl 5 rfl) ?_
        refine z_if_eq (tgt := 66) hx hb dX7_pair_53 (by decide) h (fun h => ?_) (fun h => ?_)
        · refine lv_aload_n hx hb dX7_pair_66 rfl (lv_at hl 0 rfl) ?_
          refine gf_X7_80 C M dX7_pair_67 ?_
          refine lv_iload hx hb dX7_pair_70 (lv_at hl 4 rfl) ?_
          refine al_y_24 C M dX7_pair_72 h (fun v11 h => ?_)
          exact xretI C hr M h rfl dX7_pair_73
        · refine lv_aload_n hx hb dX7_pair_56 rfl (lv_at hl 0 rfl) ?_
          refine gf_X7_83 C M dX7_pair_57 ?_
          refine lv_iload hx hb dX7_pair_60 (lv_at hl 4 rfl) ?_
          refine al_y_25 C M dX7_pair_62 h (fun v12 h => ?_)
          refine lv_goto (tgt := 73) hx hb dX7_pair_63 (by decide) ?_
          exact xretI C hr M h rfl dX7_pair_73
      · exact hjp5 x10 H locs ls h M (lv_sub hl [0] rfl)
  · refine lv_iconst (v := oI (-1)) hx hb dX7_pair_25 (by decide) ?_
    exact xretI C hr M h rfl dX7_pair_26
set_option maxHeartbeats 4000000 in
set_option maxRecDepth 100000 in
theorem c_X7_isReachedBy {l : Launch} {D : va_G} {T : ClassId × ClassId} {a : Nat → Nat} {x : XS} {p1 : Int} {p2 : Int} {p3 : Int} {z : Int × XS} (h : f_X7_isReachedBy x p1 p2 p3 = some z) (sz : Nat) : xMetI l yX7_isReachedBy cX7_isReachedBy 5 .boolean { frames := 0, cells := 0, slots := 0, locals := 0 } D T (yW T a) sz [.ref (a 0), .int (oI p1), .int (oI p2), .int (oI p3)] x z := by
  refine xMetI_of (by decide) (Nat.le_of_ble_eq_true rfl) (yW_ad T a) ?_
  intro p e s m args below meth c A ls C hr M hl
  have hx := C.1
  have hb := C.2.1
  have hl : lv_has ls 5 [(0, .ref (a 0)), (1, .int (oI p1)), (2, .int (oI p2)), (3, .int (oI p3))] := hl
  have C : xcx RX7 cX7_isReachedBy 5 D T (yW T a) A p s m args meth c := C
  revert hl M
  generalize ([] : List Loc) = locs
  generalize s.heap = H
  intro M hl
  unfold f_X7_isReachedBy at h
  refine lv_iload_n hx hb dX7_isReachedBy_0 rfl (lv_at hl 1 rfl) ?_
  refine lv_iload_n hx hb dX7_isReachedBy_1 rfl (lv_at hl 2 rfl) ?_
  refine z_icmp_ne (tgt := 7) hx hb dX7_isReachedBy_2 (by decide) h (fun h => ?_) (fun h => ?_)
  · refine lv_iconst (v := oI 0) hx hb dX7_isReachedBy_7 (by decide) ?_
    refine lv_istore (lv' := [(4, .int (oI 0)), (0, .ref (a 0)), (1, .int (oI p1)), (2, .int (oI p2)), (3, .int (oI p3))]) hx hb dX7_isReachedBy_8 hl (by decide) rfl (fun ls hl => ?_)
    refine x_jp_el h (fun kx1 ekx1 h => ?_)
    have hkx1 : ∀ (x2 : XS) (H : Heap) (locs : List Loc) (ls : Array Slot), kx1 x2 = some z → xmm D (yW T a) A s H locs x2 → lv_has ls 5 [] → W p l e { frames := 0, cells := 0, slots := 0, locals := 0 } s m args below meth c H locs 0 0 (xQI below args s D (yW T a) .boolean z A) (F0 m 64 ls []) := by
      intro x2 H locs ls h M hl
      rw [ekx1] at h
      dsimp only at h
      refine lv_iconst (v := oI 0) hx hb dX7_isReachedBy_64 (by decide) ?_
      exact xretI C hr M h nb_0 dX7_isReachedBy_65
    refine x_loop1_ind (P := fun v3 x4 => ∀ (H : Heap) (locs : List Loc) (ls : Array Slot), xmm D (yW T a) A s H locs x4 → lv_has ls 5 [(0, .ref (a 0)), (1, .int (oI p1)), (3, .int (oI p3)), (4, .int (oI v3))] → W p l e { frames := 0, cells := 0, slots := 0, locals := 0 } s m args below meth c H locs 0 0 (xQI below args s D (yW T a) .boolean z A) (F0 m 10 ls [])) (fun g5 ig5 v3 x4 h => ?_) x_fuel 0 x h H locs ls M (lv_sub hl [1, 2, 4, 0] rfl)
    intro H locs ls M hl
    unfold b_X7_isReachedBy_10 at h
    refine lv_iload hx hb dX7_isReachedBy_10 (lv_at hl 3 rfl) ?_
    refine lv_aload_n hx hb dX7_isReachedBy_12 rfl (lv_at hl 0 rfl) ?_
    refine gf_X7_150 C M dX7_isReachedBy_13 ?_
    refine z_icmp_ge (tgt := 64) hx hb dX7_isReachedBy_16 (by decide) h (fun h => ?_) (fun h => ?_)
    · exact hkx1 x4 H locs ls h M (lv_sub hl [] rfl)
    · refine lv_aload_n hx hb dX7_isReachedBy_19 rfl (lv_at hl 0 rfl) ?_
      refine gf_X7_74 C M dX7_isReachedBy_20 ?_
      refine lv_iload hx hb dX7_isReachedBy_23 (lv_at hl 3 rfl) ?_
      refine al_y_22 C M dX7_isReachedBy_25 h (fun v6 h => ?_)
      refine x_jp_el h (fun jp7 ejp7 h => ?_)
      have hjp7 : ∀ (x8 : XS) (H : Heap) (locs : List Loc) (ls : Array Slot), jp7 x8 = some z → xmm D (yW T a) A s H locs x8 → lv_has ls 5 [(0, .ref (a 0)), (1, .int (oI p1)), (3, .int (oI p3)), (4, .int (oI v3))] → W p l e { frames := 0, cells := 0, slots := 0, locals := 0 } s m args below meth c H locs 0 0 (xQI below args s D (yW T a) .boolean z A) (F0 m 58 ls []) := by
        intro x8 H locs ls h M hl
        rw [ejp7] at h
        dsimp only at h
        refine x_nm h (fun v9 ev9 h => ?_)
        refine lv_iinc (v := oI v9) (lv' := [(4, .int (oI v9)), (0, .ref (a 0)), (1, .int (oI p1)), (3, .int (oI p3))]) hx hb dX7_isReachedBy_58 hl (k := 3) rfl (by rw [ev9]; exact oI_add _ _) (by decide) rfl (fun ls hl => ?_)
        refine lv_goto (tgt := 10) hx hb dX7_isReachedBy_61 (by decide) ?_
        exact ig5 v9 x8 h H locs ls M (lv_sub hl [1, 2, 3, 0] rfl)
      refine z_if_eq (tgt := 58) hx hb dX7_isReachedBy_26 (by decide) h (fun h => ?_) (fun h => ?_)
      · exact hjp7 x4 H locs ls h M (lv_sub hl [0, 1, 2, 3] rfl)
      · refine lv_aload_n hx hb dX7_isReachedBy_29 rfl (lv_at hl 0 rfl) ?_
        refine gf_X7_19 C M dX7_isReachedBy_30 ?_
        refine lv_aload_n hx hb dX7_isReachedBy_33 rfl (lv_at hl 0 rfl) ?_
        refine gf_X7_56 C M dX7_isReachedBy_34 ?_
        refine lv_iload hx hb dX7_isReachedBy_37 (lv_at hl 3 rfl) ?_
        refine al_y_16 C M dX7_isReachedBy_39 h (fun v10 h => ?_)
        refine al_y_4 C M dX7_isReachedBy_40 h (fun v11 h => ?_)
        refine lv_iload_n hx hb dX7_isReachedBy_41 rfl (lv_at hl 1 rfl) ?_
        refine z_icmp_ne (tgt := 58) hx hb dX7_isReachedBy_42 (by decide) h (fun h => ?_) (fun h => ?_)
        · exact hjp7 x4 H locs ls h M (lv_sub hl [0, 1, 2, 3] rfl)
        · refine lv_aload_n hx hb dX7_isReachedBy_45 rfl (lv_at hl 0 rfl) ?_
          refine gf_X7_65 C M dX7_isReachedBy_46 ?_
          refine lv_iload hx hb dX7_isReachedBy_49 (lv_at hl 3 rfl) ?_
          refine al_y_19 C M dX7_isReachedBy_51 h (fun v12 h => ?_)
          refine lv_iload_n hx hb dX7_isReachedBy_52 rfl (lv_at hl 2 rfl) ?_
          refine z_icmp_gt (tgt := 58) hx hb dX7_isReachedBy_53 (by decide) h (fun h => ?_) (fun h => ?_)
          · exact hjp7 x4 H locs ls h M (lv_sub hl [0, 1, 2, 3] rfl)
          · refine lv_iconst (v := oI 1) hx hb dX7_isReachedBy_56 (by decide) ?_
            exact xretI C hr M h nb_1 dX7_isReachedBy_57
  · refine lv_iconst (v := oI 1) hx hb dX7_isReachedBy_5 (by decide) ?_
    exact xretI C hr M h nb_1 dX7_isReachedBy_6
set_option maxHeartbeats 4000000 in
set_option maxRecDepth 100000 in
theorem c_X7_askedReach {l : Launch} {D : va_G} {T : ClassId × ClassId} {a : Nat → Nat} {x : XS} {p1 : Int} {p2 : Int} {p3 : Int} {p4 : Int} {p5 : Int} {z : Int × XS} (h : f_X7_askedReach x p1 p2 p3 p4 p5 = some z) (sz : Nat) : xMetI l yX7_askedReach cX7_askedReach 6 .int { frames := 1, cells := 0, slots := 0, locals := 21 } D T (yW T a) sz [.ref (a 0), .int (oI p1), .int (oI p2), .int (oI p3), .int (oI p4), .int (oI p5)] x z := by
  refine xMetI_of (by decide) (Nat.le_of_ble_eq_true rfl) (yW_ad T a) ?_
  intro p e s m args below meth c A ls C hr M hl
  have hx := C.1
  have hb := C.2.1
  have hl : lv_has ls 6 [(0, .ref (a 0)), (1, .int (oI p1)), (2, .int (oI p2)), (3, .int (oI p3)), (4, .int (oI p4)), (5, .int (oI p5))] := hl
  have C : xcx RX7 cX7_askedReach 6 D T (yW T a) A p s m args meth c := C
  revert hl M
  generalize ([] : List Loc) = locs
  generalize s.heap = H
  intro M hl
  unfold f_X7_askedReach at h
  refine lv_aload_n hx hb dX7_askedReach_0 rfl (lv_at hl 0 rfl) ?_
  refine lv_iload_n hx hb dX7_askedReach_1 rfl (lv_at hl 1 rfl) ?_
  refine ci_X7_113 C M h ⟨Nat.le_of_ble_eq_true rfl, Nat.le_of_ble_eq_true rfl⟩ hl.1 (Nat.le_of_ble_eq_true rfl) dX7_askedReach_2 (fun r1 H locs x2 M nr1 h => ?_)
  refine z_if_eq (tgt := 16) hx hb dX7_askedReach_5 (by decide) h (fun h => ?_) (fun h => ?_)
  · refine lv_iconst (v := oI 1) hx hb dX7_askedReach_16 (by decide) ?_
    exact xretI C hr M h rfl dX7_askedReach_17
  · refine lv_aload_n hx hb dX7_askedReach_8 rfl (lv_at hl 0 rfl) ?_
    refine lv_iload_n hx hb dX7_askedReach_9 rfl (lv_at hl 2 rfl) ?_
    refine ci_X7_113 C M h ⟨Nat.le_of_ble_eq_true rfl, Nat.le_of_ble_eq_true rfl⟩ hl.1 (Nat.le_of_ble_eq_true rfl) dX7_askedReach_10 (fun r3 H locs x4 M nr3 h => ?_)
    refine z_if_ne (tgt := 18) hx hb dX7_askedReach_13 (by decide) h (fun h => ?_) (fun h => ?_)
    · refine lv_iload_n hx hb dX7_askedReach_18 rfl (lv_at hl 3 rfl) ?_
      refine ci_X7_123 C M h ⟨Nat.le_of_ble_eq_true rfl, Nat.le_of_ble_eq_true rfl⟩ hl.1 (Nat.le_of_ble_eq_true rfl) dX7_askedReach_19 (fun r5 H locs x6 M nr5 h => ?_)
      refine z_if_eq (tgt := 33) hx hb dX7_askedReach_22 (by decide) h (fun h => ?_) (fun h => ?_)
      · refine lv_iconst (v := oI 2) hx hb dX7_askedReach_33 (by decide) ?_
        exact xretI C hr M h rfl dX7_askedReach_34
      · refine lv_iload hx hb dX7_askedReach_25 (lv_at hl 4 rfl) ?_
        refine ci_X7_123 C M h ⟨Nat.le_of_ble_eq_true rfl, Nat.le_of_ble_eq_true rfl⟩ hl.1 (Nat.le_of_ble_eq_true rfl) dX7_askedReach_27 (fun r7 H locs x8 M nr7 h => ?_)
        refine z_if_ne (tgt := 35) hx hb dX7_askedReach_30 (by decide) h (fun h => ?_) (fun h => ?_)
        · refine lv_iload hx hb dX7_askedReach_35 (lv_at hl 5 rfl) ?_
          refine x_jp_el h (fun jp9 ejp9 h => ?_)
          have hjp9 : ∀ (x10 : XS) (H : Heap) (locs : List Loc) (ls : Array Slot), jp9 x10 = some z → xmm D (yW T a) A s H locs x10 → lv_has ls 6 [] → W p l e { frames := 1, cells := 0, slots := 0, locals := 21 } s m args below meth c H locs 0 0 (xQI below args s D (yW T a) .int z A) (F0 m 49 ls []) := by
            intro x10 H locs ls h M hl
            rw [ejp9] at h
            dsimp only at h
            refine lv_bipush (v := oI 6) hx hb dX7_askedReach_49 (by decide) ?_
            refine lv_goto (tgt := 55) hx hb dX7_askedReach_51 (by decide) ?_
            exact xretI C hr M h rfl dX7_askedReach_55
          refine z_if_lt (tgt := 49) hx hb dX7_askedReach_37 (by decide) h (fun h => ?_) (fun h => ?_)
          · exact hjp9 x8 H locs ls h M (lv_sub hl [] rfl)
          · refine lv_iload hx hb dX7_askedReach_40 (lv_at hl 5 rfl) ?_
            refine lv_aload_n hx hb dX7_askedReach_42 rfl (lv_at hl 0 rfl) ?_
            refine gf_X7_120 C M dX7_askedReach_43 ?_
            refine z_icmp_le (tgt := 54) hx hb dX7_askedReach_46 (by decide) h (fun h => ?_) (fun h => ?_)
            · refine lv_iconst (v := oI 0) hx hb dX7_askedReach_54 (by decide) ?_
              exact xretI C hr M h rfl dX7_askedReach_55
            · exact hjp9 x8 H locs ls h M (lv_sub hl [] rfl)
        · refine lv_iconst (v := oI 2) hx hb dX7_askedReach_33 (by decide) ?_
          exact xretI C hr M h rfl dX7_askedReach_34
    · refine lv_iconst (v := oI 1) hx hb dX7_askedReach_16 (by decide) ?_
      exact xretI C hr M h rfl dX7_askedReach_17
theorem ci_X7_202 {cc : ByteArray} {nL : Nat} {D : va_G} {T : ClassId × ClassId} {a : Nat → Nat} {A : Nat → Prop} {p : Program} {l : Launch} {e : Env} {R : Room} {s : State} {m : MethodId} {args : Array Value} {below : List Frame} {meth : Method} {c : Code} {H : Heap} {locs : List Loc} {Q : State → Prop} {x : XS} {z : Int × XS} {pc : Nat} {ls : Array Slot} {rest : List Value} (C : xcx RX7 cc nL D T (yW T a) A p s m args meth c) (M : xmm D (yW T a) A s H locs x) {p1 p2 p3 p4 p5 : Int} {K : Int → XS → XR} (h : x_call (f_X7_askedReach x p1 p2 p3 p4 p5) K = some z) (hR : 1 + 1 ≤ R.frames ∧ 8 + (6 + 11) + 21 ≤ R.locals) (hsz : ls.size = nL) (hrest : (rest.map fun v => v.category).sum ≤ 8) (hdg : decode cc pc = .ok (.invokevirtual 202, 3)) (kk : ∀ (r : Int) (H1 : Heap) (locs1 : List Loc) (x1 : XS), xmm D (yW T a) A s H1 locs1 x1 → narrow .int (.int (oI r)) = .int (oI r) → K r x1 = some z → W p l e R s m args below meth c H1 locs1 0 0 Q (F0 m (pc + 3) ls (.int (oI r) :: rest))) : W p l e R s m args below meth c H locs 0 0 Q (F0 m pc ls (.int (oI p5) :: .int (oI p4) :: .int (oI p3) :: .int (oI p2) :: .int (oI p1) :: .ref (a 0) :: rest)) :=
  xcallI_V (As := [.int (oI p1), .int (oI p2), .int (oI p3), .int (oI p4), .int (oI p5)]) (n := 5) C M (fun zc sz ho => c_X7_askedReach ho sz) bw_991 bw_988 bw_990 bw_81 bw_91 rfl (by decide +kernel) 0 rfl rfl ⟨rfl, rfl⟩ hR hsz rfl hrest hdg h kk
theorem ci_X7_205 {cc : ByteArray} {nL : Nat} {D : va_G} {T : ClassId × ClassId} {a : Nat → Nat} {A : Nat → Prop} {p : Program} {l : Launch} {e : Env} {R : Room} {s : State} {m : MethodId} {args : Array Value} {below : List Frame} {meth : Method} {c : Code} {H : Heap} {locs : List Loc} {Q : State → Prop} {x : XS} {z : Int × XS} {pc : Nat} {ls : Array Slot} {rest : List Value} (C : xcx RX7 cc nL D T (yW T a) A p s m args meth c) (M : xmm D (yW T a) A s H locs x) {p1 p2 p3 : Int} {K : Int → XS → XR} (h : x_call (f_X7_isReachedBy x p1 p2 p3) K = some z) (hR : 0 + 1 ≤ R.frames ∧ 8 + (5 + 11) + 0 ≤ R.locals) (hsz : ls.size = nL) (hrest : (rest.map fun v => v.category).sum ≤ 8) (hdg : decode cc pc = .ok (.invokevirtual 205, 3)) (kk : ∀ (r : Int) (H1 : Heap) (locs1 : List Loc) (x1 : XS), xmm D (yW T a) A s H1 locs1 x1 → narrow .boolean (.int (oI r)) = .int (oI r) → K r x1 = some z → W p l e R s m args below meth c H1 locs1 0 0 Q (F0 m (pc + 3) ls (.int (oI r) :: rest))) : W p l e R s m args below meth c H locs 0 0 Q (F0 m pc ls (.int (oI p3) :: .int (oI p2) :: .int (oI p1) :: .ref (a 0) :: rest)) :=
  xcallI_V (As := [.int (oI p1), .int (oI p2), .int (oI p3)]) (n := 3) C M (fun zc sz ho => c_X7_isReachedBy ho sz) bw_995 bw_992 bw_994 bw_82 bw_91 rfl (by decide +kernel) 0 rfl rfl ⟨rfl, rfl⟩ hR hsz rfl hrest hdg h kk
set_option maxHeartbeats 4000000 in
set_option maxRecDepth 100000 in
theorem c_X7_reached {l : Launch} {D : va_G} {T : ClassId × ClassId} {a : Nat → Nat} {x : XS} {p1 : Int} {p2 : Int} {p3 : Int} {p4 : Int} {z : Int × XS} (h : f_X7_reached x p1 p2 p3 p4 = some z) (sz : Nat) : xMetI l yX7_reached cX7_reached 7 .int { frames := 3, cells := 0, slots := 0, locals := 74 } D T (yW T a) sz [.ref (a 0), .int (oI p1), .int (oI p2), .int (oI p3), .int (oI p4)] x z := by
  refine xMetI_of (by decide) (Nat.le_of_ble_eq_true rfl) (yW_ad T a) ?_
  intro p e s m args below meth c A ls C hr M hl
  have hx := C.1
  have hb := C.2.1
  have hl : lv_has ls 7 [(0, .ref (a 0)), (1, .int (oI p1)), (2, .int (oI p2)), (3, .int (oI p3)), (4, .int (oI p4))] := hl
  have C : xcx RX7 cX7_reached 7 D T (yW T a) A p s m args meth c := C
  revert hl M
  generalize ([] : List Loc) = locs
  generalize s.heap = H
  intro M hl
  unfold f_X7_reached at h
  refine lv_aload_n hx hb dX7_reached_0 rfl (lv_at hl 0 rfl) ?_
  refine lv_iconst (v := oI 0) hx hb dX7_reached_1 (by decide) ?_
  refine pf_X7_92 C M dX7_reached_2 h (fun H locs x1 M h => ?_)
  refine lv_aload_n hx hb dX7_reached_5 rfl (lv_at hl 0 rfl) ?_
  refine lv_aload_n hx hb dX7_reached_6 rfl (lv_at hl 0 rfl) ?_
  refine lv_iload_n hx hb dX7_reached_7 rfl (lv_at hl 1 rfl) ?_
  refine lv_iload_n hx hb dX7_reached_8 rfl (lv_at hl 1 rfl) ?_
  refine lv_iload_n hx hb dX7_reached_9 rfl (lv_at hl 2 rfl) ?_
  refine lv_iload_n hx hb dX7_reached_10 rfl (lv_at hl 3 rfl) ?_
  refine lv_iload hx hb dX7_reached_11 (lv_at hl 4 rfl) ?_
  refine ci_X7_202 C M h ⟨Nat.le_of_ble_eq_true rfl, Nat.le_of_ble_eq_true rfl⟩ hl.1 (Nat.le_of_ble_eq_true rfl) dX7_reached_13 (fun r2 H locs x3 M nr2 h => ?_)
  refine pf_X7_96 C M dX7_reached_16 h (fun H locs x4 M h => ?_)
  refine lv_aload_n hx hb dX7_reached_19 rfl (lv_at hl 0 rfl) ?_
  refine gf_X7_96 C M dX7_reached_20 ?_
  refine z_if_le (tgt := 28) hx hb dX7_reached_23 (by decide) h (fun h => ?_) (fun h => ?_)
  · refine lv_aload_n hx hb dX7_reached_28 rfl (lv_at hl 0 rfl) ?_
    refine lv_iload hx hb dX7_reached_29 (lv_at hl 4 rfl) ?_
    refine lv_iconst (v := oI (-1)) hx hb dX7_reached_31 (by decide) ?_
    refine ci_X7_177 C M h ⟨Nat.le_of_ble_eq_true rfl, Nat.le_of_ble_eq_true rfl⟩ hl.1 (Nat.le_of_ble_eq_true rfl) dX7_reached_32 (fun H locs x6 M h => ?_)
    refine lv_aload_n hx hb dX7_reached_35 rfl (lv_at hl 0 rfl) ?_
    refine lv_iload_n hx hb dX7_reached_36 rfl (lv_at hl 1 rfl) ?_
    refine lv_iload_n hx hb dX7_reached_37 rfl (lv_at hl 2 rfl) ?_
    refine ci_X7_181 C M h ⟨Nat.le_of_ble_eq_true rfl, Nat.le_of_ble_eq_true rfl⟩ hl.1 (Nat.le_of_ble_eq_true rfl) dX7_reached_38 (fun H locs x8 M h => ?_)
    refine lv_iconst (v := oI 0) hx hb dX7_reached_41 (by decide) ?_
    refine lv_istore (lv' := [(5, .int (oI 0)), (0, .ref (a 0)), (1, .int (oI p1)), (2, .int (oI p2)), (3, .int (oI p3)), (4, .int (oI p4))]) hx hb dX7_reached_42 hl (by decide) rfl (fun ls hl => ?_)
    refine lv_iconst (v := oI 0) hx hb dX7_reached_44 (by decide) ?_
    refine lv_istore (lv' := [(6, .int (oI 0)), (5, .int (oI 0)), (0, .ref (a 0)), (1, .int (oI p1)), (2, .int (oI p2)), (3, .int (oI p3)), (4, .int (oI p4))]) hx hb dX7_reached_45 hl (by decide) rfl (fun ls hl => ?_)
    refine x_jp_el h (fun kx9 ekx9 h => ?_)
    have hkx9 : ∀ (v10 : Int) (x11 : XS) (H : Heap) (locs : List Loc) (ls : Array Slot), kx9 v10 x11 = some z → xmm D (yW T a) A s H locs x11 → lv_has ls 7 [(5, .int (oI v10))] → W p l e { frames := 3, cells := 0, slots := 0, locals := 74 } s m args below meth c H locs 0 0 (xQI below args s D (yW T a) .int z A) (F0 m 83 ls []) := by
      intro v10 x11 H locs ls h M hl
      rw [ekx9] at h
      dsimp only at h
      refine lv_iload hx hb dX7_reached_83 (lv_at hl 0 rfl) ?_
      exact xretI C hr M h rfl dX7_reached_85
    refine x_loop2_ind (P := fun v12 v13 x14 => ∀ (H : Heap) (locs : List Loc) (ls : Array Slot), xmm D (yW T a) A s H locs x14 → lv_has ls 7 [(0, .ref (a 0)), (1, .int (oI p1)), (3, .int (oI p3)), (5, .int (oI v12)), (6, .int (oI v13))] → W p l e { frames := 3, cells := 0, slots := 0, locals := 74 } s m args below meth c H locs 0 0 (xQI below args s D (yW T a) .int z A) (F0 m 47 ls [])) (fun g15 ig15 v12 v13 x14 h => ?_) x_fuel 0 0 x8 h H locs ls M (lv_sub hl [2, 3, 5, 1, 0] rfl)
    intro H locs ls M hl
    unfold b_X7_reached_47 at h
    refine lv_iload hx hb dX7_reached_47 (lv_at hl 4 rfl) ?_
    refine lv_aload_n hx hb dX7_reached_49 rfl (lv_at hl 0 rfl) ?_
    refine gf_X7_99 C M dX7_reached_50 ?_
    refine z_icmp_ge (tgt := 83) hx hb dX7_reached_53 (by decide) h (fun h => ?_) (fun h => ?_)
    · exact hkx9 v12 x14 H locs ls h M (lv_sub hl [3] rfl)
    · refine lv_iload hx hb dX7_reached_56 (lv_at hl 3 rfl) ?_
      refine lv_aload_n hx hb dX7_reached_58 rfl (lv_at hl 0 rfl) ?_
      refine lv_iload hx hb dX7_reached_59 (lv_at hl 4 rfl) ?_
      refine lv_iload_n hx hb dX7_reached_61 rfl (lv_at hl 1 rfl) ?_
      refine lv_iload_n hx hb dX7_reached_62 rfl (lv_at hl 2 rfl) ?_
      refine ci_X7_205 C M h ⟨Nat.le_of_ble_eq_true rfl, Nat.le_of_ble_eq_true rfl⟩ hl.1 (Nat.le_of_ble_eq_true rfl) dX7_reached_63 (fun r16 H locs x17 M nr16 h => ?_)
      refine x_jp_el h (fun jp18 ejp18 h => ?_)
      have hjp18 : ∀ (v19 : Int) (x20 : XS) (H : Heap) (locs : List Loc) (ls : Array Slot), jp18 v19 x20 = some z → xmm D (yW T a) A s H locs x20 → lv_has ls 7 [(0, .ref (a 0)), (1, .int (oI p1)), (3, .int (oI p3)), (6, .int (oI v13))] → W p l e { frames := 3, cells := 0, slots := 0, locals := 74 } s m args below meth c H locs 0 0 (xQI below args s D (yW T a) .int z A) (F0 m 74 ls [.int (oI v19), .int (oI v12)]) := by
        intro v19 x20 H locs ls h M hl
        rw [ejp18] at h
        dsimp only at h
        refine z_iadd hx hb dX7_reached_74 ?_
        refine x_top h (fun v21 h => ?_)
        refine lv_istore (lv' := [(5, .int (oI v21)), (0, .ref (a 0)), (1, .int (oI p1)), (3, .int (oI p3)), (6, .int (oI v13))]) hx hb dX7_reached_75 hl (by decide) rfl (fun ls hl => ?_)
        refine x_nm h (fun v22 ev22 h => ?_)
        refine lv_iinc (v := oI v22) (lv' := [(6, .int (oI v22)), (5, .int (oI v21)), (0, .ref (a 0)), (1, .int (oI p1)), (3, .int (oI p3))]) hx hb dX7_reached_77 hl (k := 4) rfl (by rw [ev22]; exact oI_add _ _) (by decide) rfl (fun ls hl => ?_)
        refine lv_goto (tgt := 47) hx hb dX7_reached_80 (by decide) ?_
        exact ig15 v21 v22 x20 h H locs ls M (lv_sub hl [2, 3, 4, 1, 0] rfl)
      refine z_if_eq (tgt := 73) hx hb dX7_reached_66 (by decide) h (fun h => ?_) (fun h => ?_)
      · refine lv_iconst (v := oI 0) hx hb dX7_reached_73 (by decide) ?_
        exact hjp18 0 x17 H locs ls h M (lv_sub hl [0, 1, 2, 4] rfl)
      · refine lv_iconst (v := oI 1) hx hb dX7_reached_69 (by decide) ?_
        refine lv_goto (tgt := 74) hx hb dX7_reached_70 (by decide) ?_
        exact hjp18 1 x17 H locs ls h M (lv_sub hl [0, 1, 2, 4] rfl)
  · refine lv_iconst (v := oI (-1)) hx hb dX7_reached_26 (by decide) ?_
    exact xretI C hr M h rfl dX7_reached_27
set_option maxHeartbeats 4000000 in
set_option maxRecDepth 100000 in
theorem c_X7_isReached {l : Launch} {D : va_G} {T : ClassId × ClassId} {a : Nat → Nat} {x : XS} {p1 : Int} {p2 : Int} {p3 : Int} {p4 : Int} {p5 : Int} {z : Int × XS} (h : f_X7_isReached x p1 p2 p3 p4 p5 = some z) (sz : Nat) : xMetI l yX7_isReached cX7_isReached 6 .int { frames := 3, cells := 0, slots := 0, locals := 74 } D T (yW T a) sz [.ref (a 0), .int (oI p1), .int (oI p2), .int (oI p3), .int (oI p4), .int (oI p5)] x z := by
  refine xMetI_of (by decide) (Nat.le_of_ble_eq_true rfl) (yW_ad T a) ?_
  intro p e s m args below meth c A ls C hr M hl
  have hx := C.1
  have hb := C.2.1
  have hl : lv_has ls 6 [(0, .ref (a 0)), (1, .int (oI p1)), (2, .int (oI p2)), (3, .int (oI p3)), (4, .int (oI p4)), (5, .int (oI p5))] := hl
  have C : xcx RX7 cX7_isReached 6 D T (yW T a) A p s m args meth c := C
  revert hl M
  generalize ([] : List Loc) = locs
  generalize s.heap = H
  intro M hl
  unfold f_X7_isReached at h
  refine lv_aload_n hx hb dX7_isReached_0 rfl (lv_at hl 0 rfl) ?_
  refine lv_iconst (v := oI 0) hx hb dX7_isReached_1 (by decide) ?_
  refine pf_X7_92 C M dX7_isReached_2 h (fun H locs x1 M h => ?_)
  refine lv_aload_n hx hb dX7_isReached_5 rfl (lv_at hl 0 rfl) ?_
  refine lv_aload_n hx hb dX7_isReached_6 rfl (lv_at hl 0 rfl) ?_
  refine lv_iload_n hx hb dX7_isReached_7 rfl (lv_at hl 1 rfl) ?_
  refine lv_iload_n hx hb dX7_isReached_8 rfl (lv_at hl 2 rfl) ?_
  refine lv_iload_n hx hb dX7_isReached_9 rfl (lv_at hl 3 rfl) ?_
  refine lv_iload hx hb dX7_isReached_10 (lv_at hl 4 rfl) ?_
  refine lv_iload hx hb dX7_isReached_12 (lv_at hl 5 rfl) ?_
  refine ci_X7_202 C M h ⟨Nat.le_of_ble_eq_true rfl, Nat.le_of_ble_eq_true rfl⟩ hl.1 (Nat.le_of_ble_eq_true rfl) dX7_isReached_14 (fun r2 H locs x3 M nr2 h => ?_)
  refine pf_X7_96 C M dX7_isReached_17 h (fun H locs x4 M h => ?_)
  refine lv_aload_n hx hb dX7_isReached_20 rfl (lv_at hl 0 rfl) ?_
  refine gf_X7_96 C M dX7_isReached_21 ?_
  refine z_if_le (tgt := 29) hx hb dX7_isReached_24 (by decide) h (fun h => ?_) (fun h => ?_)
  · refine lv_aload_n hx hb dX7_isReached_29 rfl (lv_at hl 0 rfl) ?_
    refine lv_iload hx hb dX7_isReached_30 (lv_at hl 5 rfl) ?_
    refine lv_iconst (v := oI (-1)) hx hb dX7_isReached_32 (by decide) ?_
    refine ci_X7_177 C M h ⟨Nat.le_of_ble_eq_true rfl, Nat.le_of_ble_eq_true rfl⟩ hl.1 (Nat.le_of_ble_eq_true rfl) dX7_isReached_33 (fun H locs x6 M h => ?_)
    refine lv_aload_n hx hb dX7_isReached_36 rfl (lv_at hl 0 rfl) ?_
    refine lv_iload_n hx hb dX7_isReached_37 rfl (lv_at hl 1 rfl) ?_
    refine lv_iload_n hx hb dX7_isReached_38 rfl (lv_at hl 3 rfl) ?_
    refine ci_X7_181 C M h ⟨Nat.le_of_ble_eq_true rfl, Nat.le_of_ble_eq_true rfl⟩ hl.1 (Nat.le_of_ble_eq_true rfl) dX7_isReached_39 (fun H locs x8 M h => ?_)
    refine lv_aload_n hx hb dX7_isReached_42 rfl (lv_at hl 0 rfl) ?_
    refine lv_iload_n hx hb dX7_isReached_43 rfl (lv_at hl 2 rfl) ?_
    refine lv_iload_n hx hb dX7_isReached_44 rfl (lv_at hl 1 rfl) ?_
    refine lv_iload hx hb dX7_isReached_45 (lv_at hl 4 rfl) ?_
    refine ci_X7_205 C M h ⟨Nat.le_of_ble_eq_true rfl, Nat.le_of_ble_eq_true rfl⟩ hl.1 (Nat.le_of_ble_eq_true rfl) dX7_isReached_47 (fun r9 H locs x10 M nr9 h => ?_)
    refine z_if_eq (tgt := 57) hx hb dX7_isReached_50 (by decide) h (fun h => ?_) (fun h => ?_)
    · refine lv_iconst (v := oI 0) hx hb dX7_isReached_57 (by decide) ?_
      exact xretI C hr M h rfl dX7_isReached_58
    · refine lv_iconst (v := oI 1) hx hb dX7_isReached_53 (by decide) ?_
      refine lv_goto (tgt := 58) hx hb dX7_isReached_54 (by decide) ?_
      exact xretI C hr M h rfl dX7_isReached_58
  · refine lv_iconst (v := oI (-1)) hx hb dX7_isReached_27 (by decide) ?_
    exact xretI C hr M h rfl dX7_isReached_28
set_option maxHeartbeats 4000000 in
set_option maxRecDepth 100000 in
theorem c_X7_without {l : Launch} {D : va_G} {T : ClassId × ClassId} {a : Nat → Nat} {x : XS} {p1 : Int} {p2 : Int} {p3 : Int} {p4 : Int} {z : Int × XS} (h : f_X7_without x p1 p2 p3 p4 = some z) (sz : Nat) : xMetI l yX7_without cX7_without 5 .int { frames := 3, cells := 0, slots := 0, locals := 74 } D T (yW T a) sz [.ref (a 0), .int (oI p1), .int (oI p2), .int (oI p3), .int (oI p4)] x z := by
  refine xMetI_of (by decide) (Nat.le_of_ble_eq_true rfl) (yW_ad T a) ?_
  intro p e s m args below meth c A ls C hr M hl
  have hx := C.1
  have hb := C.2.1
  have hl : lv_has ls 5 [(0, .ref (a 0)), (1, .int (oI p1)), (2, .int (oI p2)), (3, .int (oI p3)), (4, .int (oI p4))] := hl
  have C : xcx RX7 cX7_without 5 D T (yW T a) A p s m args meth c := C
  revert hl M
  generalize ([] : List Loc) = locs
  generalize s.heap = H
  intro M hl
  unfold f_X7_without at h
  refine lv_aload_n hx hb dX7_without_0 rfl (lv_at hl 0 rfl) ?_
  refine lv_iconst (v := oI 0) hx hb dX7_without_1 (by decide) ?_
  refine pf_X7_92 C M dX7_without_2 h (fun H locs x1 M h => ?_)
  refine lv_aload_n hx hb dX7_without_5 rfl (lv_at hl 0 rfl) ?_
  refine lv_aload_n hx hb dX7_without_6 rfl (lv_at hl 0 rfl) ?_
  refine lv_iload hx hb dX7_without_7 (lv_at hl 4 rfl) ?_
  refine ci_X7_133 C M h ⟨Nat.le_of_ble_eq_true rfl, Nat.le_of_ble_eq_true rfl⟩ hl.1 (Nat.le_of_ble_eq_true rfl) dX7_without_9 (fun r2 H locs x3 M nr2 h => ?_)
  refine x_jp_el h (fun jp4 ejp4 h => ?_)
  have hjp4 : ∀ (v5 : Int) (x6 : XS) (H : Heap) (locs : List Loc) (ls : Array Slot), jp4 v5 x6 = some z → xmm D (yW T a) A s H locs x6 → lv_has ls 5 [(0, .ref (a 0)), (1, .int (oI p1)), (2, .int (oI p2)), (3, .int (oI p3)), (4, .int (oI p4))] → W p l e { frames := 3, cells := 0, slots := 0, locals := 74 } s m args below meth c H locs 0 0 (xQI below args s D (yW T a) .int z A) (F0 m 31 ls [.int (oI v5), .ref (a 0)]) := by
    intro v5 x6 H locs ls h M hl
    rw [ejp4] at h
    dsimp only at h
    refine pf_X7_96 C M dX7_without_31 h (fun H locs x7 M h => ?_)
    refine lv_aload_n hx hb dX7_without_34 rfl (lv_at hl 0 rfl) ?_
    refine gf_X7_96 C M dX7_without_35 ?_
    refine z_if_le (tgt := 43) hx hb dX7_without_38 (by decide) h (fun h => ?_) (fun h => ?_)
    · refine lv_aload_n hx hb dX7_without_43 rfl (lv_at hl 0 rfl) ?_
      refine lv_aload_n hx hb dX7_without_44 rfl (lv_at hl 0 rfl) ?_
      refine gf_X7_120 C M dX7_without_45 ?_
      refine lv_iload hx hb dX7_without_48 (lv_at hl 4 rfl) ?_
      refine ci_X7_177 C M h ⟨Nat.le_of_ble_eq_true rfl, Nat.le_of_ble_eq_true rfl⟩ hl.1 (Nat.le_of_ble_eq_true rfl) dX7_without_50 (fun H locs x9 M h => ?_)
      refine lv_aload_n hx hb dX7_without_53 rfl (lv_at hl 0 rfl) ?_
      refine lv_iload_n hx hb dX7_without_54 rfl (lv_at hl 1 rfl) ?_
      refine lv_iload_n hx hb dX7_without_55 rfl (lv_at hl 3 rfl) ?_
      refine ci_X7_181 C M h ⟨Nat.le_of_ble_eq_true rfl, Nat.le_of_ble_eq_true rfl⟩ hl.1 (Nat.le_of_ble_eq_true rfl) dX7_without_56 (fun H locs x11 M h => ?_)
      refine lv_aload_n hx hb dX7_without_59 rfl (lv_at hl 0 rfl) ?_
      refine lv_aload_n hx hb dX7_without_60 rfl (lv_at hl 0 rfl) ?_
      refine lv_iload_n hx hb dX7_without_61 rfl (lv_at hl 2 rfl) ?_
      refine ci_X7_184 C M h ⟨Nat.le_of_ble_eq_true rfl, Nat.le_of_ble_eq_true rfl⟩ hl.1 (Nat.le_of_ble_eq_true rfl) dX7_without_62 (fun r12 H locs x13 M nr12 h => ?_)
      refine ci_X7_187 C M h ⟨Nat.le_of_ble_eq_true rfl, Nat.le_of_ble_eq_true rfl⟩ hl.1 (Nat.le_of_ble_eq_true rfl) dX7_without_65 (fun r14 H locs x15 M nr14 h => ?_)
      exact xretI C hr M h rfl dX7_without_68
    · refine lv_iconst (v := oI (-1)) hx hb dX7_without_41 (by decide) ?_
      exact xretI C hr M h rfl dX7_without_42
  refine z_if_eq (tgt := 30) hx hb dX7_without_12 (by decide) h (fun h => ?_) (fun h => ?_)
  · refine lv_iconst (v := oI 1) hx hb dX7_without_30 (by decide) ?_
    exact hjp4 1 x3 H locs ls h M (lv_sub hl [0, 1, 2, 3, 4] rfl)
  · refine lv_aload_n hx hb dX7_without_15 rfl (lv_at hl 0 rfl) ?_
    refine lv_iload_n hx hb dX7_without_16 rfl (lv_at hl 1 rfl) ?_
    refine lv_iload_n hx hb dX7_without_17 rfl (lv_at hl 2 rfl) ?_
    refine lv_iload_n hx hb dX7_without_18 rfl (lv_at hl 3 rfl) ?_
    refine lv_iload_n hx hb dX7_without_19 rfl (lv_at hl 3 rfl) ?_
    refine lv_aload_n hx hb dX7_without_20 rfl (lv_at hl 0 rfl) ?_
    refine gf_X7_120 C M dX7_without_21 ?_
    refine ci_X7_173 C M h ⟨Nat.le_of_ble_eq_true rfl, Nat.le_of_ble_eq_true rfl⟩ hl.1 (Nat.le_of_ble_eq_true rfl) dX7_without_24 (fun r16 H locs x17 M nr16 h => ?_)
    refine lv_goto (tgt := 31) hx hb dX7_without_27 (by decide) ?_
    exact hjp4 r16 x17 H locs ls h M (lv_sub hl [0, 1, 2, 3, 4] rfl)
