set_option maxHeartbeats 4000000 in
set_option maxRecDepth 100000 in
theorem c_X7_weakest {l : Launch} {D : va_G} {T : ClassId × ClassId} {a : Nat → Nat} {x : XS} {p1 : Int} {p2 : Int} {p3 : Int} {z : Int × XS} (h : f_X7_weakest x p1 p2 p3 = some z) (sz : Nat) : xMetI l yX7_weakest cX7_weakest 9 .int { frames := 3, cells := 0, slots := 0, locals := 77 } D T (yW T a) sz [.ref (a 0), .int (oI p1), .int (oI p2), .int (oI p3)] x z := by
  refine xMetI_of (by decide) (Nat.le_of_ble_eq_true rfl) (yW_ad T a) ?_
  intro p e s m args below meth c A ls C hr M hl
  have hx := C.1
  have hb := C.2.1
  have hl : lv_has ls 9 [(0, .ref (a 0)), (1, .int (oI p1)), (2, .int (oI p2)), (3, .int (oI p3))] := hl
  have C : xcx RX7 cX7_weakest 9 D T (yW T a) A p s m args meth c := C
  revert hl M
  generalize ([] : List Loc) = locs
  generalize s.heap = H
  intro M hl
  unfold f_X7_weakest at h
  refine lv_aload_n hx hb dX7_weakest_0 rfl (lv_at hl 0 rfl) ?_
  refine lv_iconst (v := oI 0) hx hb dX7_weakest_1 (by decide) ?_
  refine pf_X7_92 C M dX7_weakest_2 h (fun H locs x1 M h => ?_)
  refine lv_aload_n hx hb dX7_weakest_5 rfl (lv_at hl 0 rfl) ?_
  refine lv_aload_n hx hb dX7_weakest_6 rfl (lv_at hl 0 rfl) ?_
  refine lv_iload_n hx hb dX7_weakest_7 rfl (lv_at hl 1 rfl) ?_
  refine lv_iload_n hx hb dX7_weakest_8 rfl (lv_at hl 2 rfl) ?_
  refine lv_iload_n hx hb dX7_weakest_9 rfl (lv_at hl 3 rfl) ?_
  refine lv_iload_n hx hb dX7_weakest_10 rfl (lv_at hl 3 rfl) ?_
  refine lv_aload_n hx hb dX7_weakest_11 rfl (lv_at hl 0 rfl) ?_
  refine gf_X7_120 C M dX7_weakest_12 ?_
  refine ci_X7_173 C M h ⟨Nat.le_of_ble_eq_true rfl, Nat.le_of_ble_eq_true rfl⟩ hl.1 (Nat.le_of_ble_eq_true rfl) dX7_weakest_15 (fun r2 H locs x3 M nr2 h => ?_)
  refine pf_X7_96 C M dX7_weakest_18 h (fun H locs x4 M h => ?_)
  refine lv_aload_n hx hb dX7_weakest_21 rfl (lv_at hl 0 rfl) ?_
  refine gf_X7_96 C M dX7_weakest_22 ?_
  refine z_if_le (tgt := 30) hx hb dX7_weakest_25 (by decide) h (fun h => ?_) (fun h => ?_)
  · refine lv_iconst (v := oI 0) hx hb dX7_weakest_30 (by decide) ?_
    refine lv_istore (lv' := [(4, .int (oI 0)), (0, .ref (a 0)), (1, .int (oI p1)), (2, .int (oI p2)), (3, .int (oI p3))]) hx hb dX7_weakest_31 hl (by decide) rfl (fun ls hl => ?_)
    refine x_jp_el h (fun kx5 ekx5 h => ?_)
    have hkx5 : ∀ (x6 : XS) (H : Heap) (locs : List Loc) (ls : Array Slot), kx5 x6 = some z → xmm D (yW T a) A s H locs x6 → lv_has ls 9 [(0, .ref (a 0)), (1, .int (oI p1)), (2, .int (oI p2)), (3, .int (oI p3))] → W p l e { frames := 3, cells := 0, slots := 0, locals := 77 } s m args below meth c H locs 0 0 (xQI below args s D (yW T a) .int z A) (F0 m 61 ls []) := by
      intro x6 H locs ls h M hl
      rw [ekx5] at h
      dsimp only at h
      refine lv_aload_n hx hb dX7_weakest_61 rfl (lv_at hl 0 rfl) ?_
      refine lv_aload_n hx hb dX7_weakest_62 rfl (lv_at hl 0 rfl) ?_
      refine gf_X7_120 C M dX7_weakest_63 ?_
      refine lv_iconst (v := oI (-1)) hx hb dX7_weakest_66 (by decide) ?_
      refine ci_X7_177 C M h ⟨Nat.le_of_ble_eq_true rfl, Nat.le_of_ble_eq_true rfl⟩ hl.1 (Nat.le_of_ble_eq_true rfl) dX7_weakest_67 (fun H locs x8 M h => ?_)
      refine lv_aload_n hx hb dX7_weakest_70 rfl (lv_at hl 0 rfl) ?_
      refine lv_iload_n hx hb dX7_weakest_71 rfl (lv_at hl 1 rfl) ?_
      refine lv_iload_n hx hb dX7_weakest_72 rfl (lv_at hl 2 rfl) ?_
      refine lv_iload_n hx hb dX7_weakest_73 rfl (lv_at hl 3 rfl) ?_
      refine ci_X7_193 C M h ⟨Nat.le_of_ble_eq_true rfl, Nat.le_of_ble_eq_true rfl⟩ hl.1 (Nat.le_of_ble_eq_true rfl) dX7_weakest_74 (fun r9 H locs x10 M nr9 h => ?_)
      refine lv_istore (lv' := [(4, .int (oI r9)), (0, .ref (a 0)), (1, .int (oI p1)), (2, .int (oI p2)), (3, .int (oI p3))]) hx hb dX7_weakest_77 hl (by decide) rfl (fun ls hl => ?_)
      refine lv_iconst (v := oI 0) hx hb dX7_weakest_79 (by decide) ?_
      refine lv_istore (lv' := [(5, .int (oI 0)), (4, .int (oI r9)), (0, .ref (a 0)), (1, .int (oI p1)), (2, .int (oI p2)), (3, .int (oI p3))]) hx hb dX7_weakest_80 hl (by decide) rfl (fun ls hl => ?_)
      refine x_jp_el h (fun kx11 ekx11 h => ?_)
      have hkx11 : ∀ (x12 : XS) (H : Heap) (locs : List Loc) (ls : Array Slot), kx11 x12 = some z → xmm D (yW T a) A s H locs x12 → lv_has ls 9 [(0, .ref (a 0)), (1, .int (oI p1)), (2, .int (oI p2)), (3, .int (oI p3)), (4, .int (oI r9))] → W p l e { frames := 3, cells := 0, slots := 0, locals := 77 } s m args below meth c H locs 0 0 (xQI below args s D (yW T a) .int z A) (F0 m 111 ls []) := by
        intro x12 H locs ls h M hl
        rw [ekx11] at h
        dsimp only at h
        refine lv_iconst (v := oI 0) hx hb dX7_weakest_111 (by decide) ?_
        refine lv_istore (lv' := [(5, .int (oI 0)), (0, .ref (a 0)), (1, .int (oI p1)), (2, .int (oI p2)), (3, .int (oI p3)), (4, .int (oI r9))]) hx hb dX7_weakest_112 hl (by decide) rfl (fun ls hl => ?_)
        refine x_jp_el h (fun kx13 ekx13 h => ?_)
        have hkx13 : ∀ (x14 : XS) (H : Heap) (locs : List Loc) (ls : Array Slot), kx13 x14 = some z → xmm D (yW T a) A s H locs x14 → lv_has ls 9 [(0, .ref (a 0)), (1, .int (oI p1)), (2, .int (oI p2)), (3, .int (oI p3)), (4, .int (oI r9))] → W p l e { frames := 3, cells := 0, slots := 0, locals := 77 } s m args below meth c H locs 0 0 (xQI below args s D (yW T a) .int z A) (F0 m 142 ls []) := by
          intro x14 H locs ls h M hl
          rw [ekx13] at h
          dsimp only at h
          refine lv_iload hx hb dX7_weakest_142 (lv_at hl 4 rfl) ?_
          refine z_if_ne (tgt := 153) hx hb dX7_weakest_144 (by decide) h (fun h => ?_) (fun h => ?_)
          · refine lv_iconst (v := oI (-1)) hx hb dX7_weakest_153 (by decide) ?_
            refine lv_istore (lv' := [(5, .int (oI (-1))), (0, .ref (a 0)), (1, .int (oI p1)), (2, .int (oI p2)), (3, .int (oI p3)), (4, .int (oI r9))]) hx hb dX7_weakest_154 hl (by decide) rfl (fun ls hl => ?_)
            refine lv_iconst (v := oI (-1)) hx hb dX7_weakest_156 (by decide) ?_
            refine lv_istore (lv' := [(6, .int (oI (-1))), (5, .int (oI (-1))), (0, .ref (a 0)), (1, .int (oI p1)), (2, .int (oI p2)), (3, .int (oI p3)), (4, .int (oI r9))]) hx hb dX7_weakest_157 hl (by decide) rfl (fun ls hl => ?_)
            refine lv_iconst (v := oI 0) hx hb dX7_weakest_159 (by decide) ?_
            refine lv_istore (lv' := [(7, .int (oI 0)), (6, .int (oI (-1))), (5, .int (oI (-1))), (0, .ref (a 0)), (1, .int (oI p1)), (2, .int (oI p2)), (3, .int (oI p3)), (4, .int (oI r9))]) hx hb dX7_weakest_160 hl (by decide) rfl (fun ls hl => ?_)
            refine x_jp_el h (fun kx15 ekx15 h => ?_)
            have hkx15 : ∀ (v16 : Int) (x17 : XS) (H : Heap) (locs : List Loc) (ls : Array Slot), kx15 v16 x17 = some z → xmm D (yW T a) A s H locs x17 → lv_has ls 9 [(6, .int (oI v16))] → W p l e { frames := 3, cells := 0, slots := 0, locals := 77 } s m args below meth c H locs 0 0 (xQI below args s D (yW T a) .int z A) (F0 m 245 ls []) := by
              intro v16 x17 H locs ls h M hl
              rw [ekx15] at h
              dsimp only at h
              refine lv_iload hx hb dX7_weakest_245 (lv_at hl 0 rfl) ?_
              exact xretI C hr M h rfl dX7_weakest_247
            refine x_loop3_ind (P := fun v18 v19 v20 x21 => ∀ (H : Heap) (locs : List Loc) (ls : Array Slot), xmm D (yW T a) A s H locs x21 → lv_has ls 9 [(0, .ref (a 0)), (1, .int (oI p1)), (2, .int (oI p2)), (3, .int (oI p3)), (4, .int (oI r9)), (5, .int (oI v18)), (6, .int (oI v19)), (7, .int (oI v20))] → W p l e { frames := 3, cells := 0, slots := 0, locals := 77 } s m args below meth c H locs 0 0 (xQI below args s D (yW T a) .int z A) (F0 m 162 ls [])) (fun g22 ig22 v18 v19 v20 x21 h => ?_) x_fuel (-1) (-1) 0 x14 h H locs ls M (lv_sub hl [3, 4, 5, 6, 7, 2, 1, 0] rfl)
            intro H locs ls M hl
            unfold b_X7_weakest_162 at h
            refine lv_iload hx hb dX7_weakest_162 (lv_at hl 7 rfl) ?_
            refine lv_iload hx hb dX7_weakest_164 (lv_at hl 4 rfl) ?_
            refine z_icmp_ge (tgt := 245) hx hb dX7_weakest_166 (by decide) h (fun h => ?_) (fun h => ?_)
            · exact hkx15 v19 x21 H locs ls h M (lv_sub hl [6] rfl)
            · refine lv_aload_n hx hb dX7_weakest_169 rfl (lv_at hl 0 rfl) ?_
              refine lv_aload_n hx hb dX7_weakest_170 rfl (lv_at hl 0 rfl) ?_
              refine gf_X7_120 C M dX7_weakest_171 ?_
              refine lv_aload_n hx hb dX7_weakest_174 rfl (lv_at hl 0 rfl) ?_
              refine gf_X7_86 C M dX7_weakest_175 ?_
              refine lv_iload hx hb dX7_weakest_178 (lv_at hl 7 rfl) ?_
              refine al_y_26 C M dX7_weakest_180 h (fun v23 h => ?_)
              refine ci_X7_177 C M h ⟨Nat.le_of_ble_eq_true rfl, Nat.le_of_ble_eq_true rfl⟩ hl.1 (Nat.le_of_ble_eq_true rfl) dX7_weakest_181 (fun H locs x25 M h => ?_)
              refine lv_aload_n hx hb dX7_weakest_184 rfl (lv_at hl 0 rfl) ?_
              refine lv_iload_n hx hb dX7_weakest_185 rfl (lv_at hl 1 rfl) ?_
              refine lv_iload_n hx hb dX7_weakest_186 rfl (lv_at hl 3 rfl) ?_
              refine ci_X7_181 C M h ⟨Nat.le_of_ble_eq_true rfl, Nat.le_of_ble_eq_true rfl⟩ hl.1 (Nat.le_of_ble_eq_true rfl) dX7_weakest_187 (fun H locs x27 M h => ?_)
              refine lv_aload_n hx hb dX7_weakest_190 rfl (lv_at hl 0 rfl) ?_
              refine lv_iload_n hx hb dX7_weakest_191 rfl (lv_at hl 2 rfl) ?_
              refine ci_X7_184 C M h ⟨Nat.le_of_ble_eq_true rfl, Nat.le_of_ble_eq_true rfl⟩ hl.1 (Nat.le_of_ble_eq_true rfl) dX7_weakest_192 (fun r28 H locs x29 M nr28 h => ?_)
              refine lv_istore (lv' := [(8, .int (oI r28)), (0, .ref (a 0)), (1, .int (oI p1)), (2, .int (oI p2)), (3, .int (oI p3)), (4, .int (oI r9)), (5, .int (oI v18)), (6, .int (oI v19)), (7, .int (oI v20))]) hx hb dX7_weakest_195 hl (by decide) rfl (fun ls hl => ?_)
              refine lv_iload hx hb dX7_weakest_197 (lv_at hl 0 rfl) ?_
              refine lv_iload hx hb dX7_weakest_199 (lv_at hl 6 rfl) ?_
              refine x_jp_el h (fun jp30 ejp30 h => ?_)
              have hjp30 : ∀ (v31 : Int) (v32 : Int) (x33 : XS) (H : Heap) (locs : List Loc) (ls : Array Slot), jp30 v31 v32 x33 = some z → xmm D (yW T a) A s H locs x33 → lv_has ls 9 [(0, .ref (a 0)), (1, .int (oI p1)), (2, .int (oI p2)), (3, .int (oI p3)), (4, .int (oI r9)), (5, .int (oI v31)), (6, .int (oI v32)), (7, .int (oI v20))] → W p l e { frames := 3, cells := 0, slots := 0, locals := 77 } s m args below meth c H locs 0 0 (xQI below args s D (yW T a) .int z A) (F0 m 239 ls []) := by
                intro v31 v32 x33 H locs ls h M hl
                rw [ejp30] at h
                dsimp only at h
                refine x_nm h (fun v34 ev34 h => ?_)
                refine lv_iinc (v := oI v34) (lv' := [(7, .int (oI v34)), (0, .ref (a 0)), (1, .int (oI p1)), (2, .int (oI p2)), (3, .int (oI p3)), (4, .int (oI r9)), (5, .int (oI v31)), (6, .int (oI v32))]) hx hb dX7_weakest_239 hl (k := 7) rfl (by rw [ev34]; exact oI_add _ _) (by decide) rfl (fun ls hl => ?_)
                refine lv_goto (tgt := 162) hx hb dX7_weakest_242 (by decide) ?_
                exact ig22 v31 v32 v34 x33 h H locs ls M (lv_sub hl [1, 2, 3, 4, 5, 6, 7, 0] rfl)
              refine z_icmp_lt (tgt := 239) hx hb dX7_weakest_201 (by decide) h (fun h => ?_) (fun h => ?_)
              · exact hjp30 v18 v19 x29 H locs ls h M (lv_sub hl [1, 2, 3, 4, 5, 6, 7, 8] rfl)
              · refine lv_iload hx hb dX7_weakest_204 (lv_at hl 0 rfl) ?_
                refine lv_iload hx hb dX7_weakest_206 (lv_at hl 6 rfl) ?_
                refine x_jp_el h (fun jp35 ejp35 h => ?_)
                have hjp35 : ∀ (x36 : XS) (H : Heap) (locs : List Loc) (ls : Array Slot), jp35 x36 = some z → xmm D (yW T a) A s H locs x36 → lv_has ls 9 [(0, .ref (a 0)), (1, .int (oI p1)), (2, .int (oI p2)), (3, .int (oI p3)), (4, .int (oI r9)), (7, .int (oI v20)), (8, .int (oI r28))] → W p l e { frames := 3, cells := 0, slots := 0, locals := 77 } s m args below meth c H locs 0 0 (xQI below args s D (yW T a) .int z A) (F0 m 226 ls []) := by
                  intro x36 H locs ls h M hl
                  rw [ejp35] at h
                  dsimp only at h
                  refine lv_iload hx hb dX7_weakest_226 (lv_at hl 6 rfl) ?_
                  refine lv_istore (lv' := [(5, .int (oI r28)), (0, .ref (a 0)), (1, .int (oI p1)), (2, .int (oI p2)), (3, .int (oI p3)), (4, .int (oI r9)), (7, .int (oI v20)), (8, .int (oI r28))]) hx hb dX7_weakest_228 hl (by decide) rfl (fun ls hl => ?_)
                  refine lv_aload_n hx hb dX7_weakest_230 rfl (lv_at hl 1 rfl) ?_
                  refine gf_X7_86 C M dX7_weakest_231 ?_
                  refine lv_iload hx hb dX7_weakest_234 (lv_at hl 6 rfl) ?_
                  refine al_y_26 C M dX7_weakest_236 h (fun v37 h => ?_)
                  refine lv_istore (lv' := [(6, .int (oI v37)), (5, .int (oI r28)), (0, .ref (a 0)), (1, .int (oI p1)), (2, .int (oI p2)), (3, .int (oI p3)), (4, .int (oI r9)), (7, .int (oI v20)), (8, .int (oI r28))]) hx hb dX7_weakest_237 hl (by decide) rfl (fun ls hl => ?_)
                  exact hjp30 r28 v37 x36 H locs ls h M (lv_sub hl [2, 3, 4, 5, 6, 1, 0, 7] rfl)
                refine z_icmp_ne (tgt := 226) hx hb dX7_weakest_208 (by decide) h (fun h => ?_) (fun h => ?_)
                · exact hjp35 x29 H locs ls h M (lv_sub hl [1, 2, 3, 4, 5, 8, 0] rfl)
                · refine lv_aload_n hx hb dX7_weakest_211 rfl (lv_at hl 1 rfl) ?_
                  refine gf_X7_86 C M dX7_weakest_212 ?_
                  refine lv_iload hx hb dX7_weakest_215 (lv_at hl 8 rfl) ?_
                  refine al_y_26 C M dX7_weakest_217 h (fun v38 h => ?_)
                  refine lv_iload hx hb dX7_weakest_218 (lv_at hl 7 rfl) ?_
                  refine z_icmp_lt (tgt := 226) hx hb dX7_weakest_220 (by decide) h (fun h => ?_) (fun h => ?_)
                  · exact hjp35 x29 H locs ls h M (lv_sub hl [1, 2, 3, 4, 5, 8, 0] rfl)
                  · refine lv_goto (tgt := 239) hx hb dX7_weakest_223 (by decide) ?_
                    exact hjp30 v18 v19 x29 H locs ls h M (lv_sub hl [1, 2, 3, 4, 5, 6, 7, 8] rfl)
          · refine lv_aload_n hx hb dX7_weakest_147 rfl (lv_at hl 0 rfl) ?_
            refine lv_iconst (v := oI 5) hx hb dX7_weakest_148 (by decide) ?_
            refine ci_X7_109 C M h ⟨Nat.le_of_ble_eq_true rfl, Nat.le_of_ble_eq_true rfl⟩ hl.1 (Nat.le_of_ble_eq_true rfl) dX7_weakest_149 (fun r39 H locs x40 M nr39 h => ?_)
            exact xretI C hr M h rfl dX7_weakest_152
        refine x_loop1_ind (P := fun v41 x42 => ∀ (H : Heap) (locs : List Loc) (ls : Array Slot), xmm D (yW T a) A s H locs x42 → lv_has ls 9 [(0, .ref (a 0)), (1, .int (oI p1)), (2, .int (oI p2)), (3, .int (oI p3)), (4, .int (oI r9)), (5, .int (oI v41))] → W p l e { frames := 3, cells := 0, slots := 0, locals := 77 } s m args below meth c H locs 0 0 (xQI below args s D (yW T a) .int z A) (F0 m 114 ls [])) (fun g43 ig43 v41 x42 h => ?_) x_fuel 0 x12 h H locs ls M (lv_sub hl [1, 2, 3, 4, 5, 0] rfl)
        intro H locs ls M hl
        unfold b_X7_weakest_114 at h
        refine lv_iload hx hb dX7_weakest_114 (lv_at hl 5 rfl) ?_
        refine lv_sipush (v := oI 2400) hx hb dX7_weakest_116 (by decide) ?_
        refine z_icmp_ge (tgt := 142) hx hb dX7_weakest_119 (by decide) h (fun h => ?_) (fun h => ?_)
        · exact hkx13 x42 H locs ls h M (lv_sub hl [0, 1, 2, 3, 4] rfl)
        · refine lv_aload_n hx hb dX7_weakest_122 rfl (lv_at hl 0 rfl) ?_
          refine gf_X7_77 C M dX7_weakest_123 ?_
          refine lv_iload hx hb dX7_weakest_126 (lv_at hl 5 rfl) ?_
          refine lv_aload_n hx hb dX7_weakest_128 rfl (lv_at hl 0 rfl) ?_
          refine gf_X7_89 C M dX7_weakest_129 ?_
          refine lv_iload hx hb dX7_weakest_132 (lv_at hl 5 rfl) ?_
          refine al_y_27 C M dX7_weakest_134 h (fun v44 h => ?_)
          refine as_y_23 C M dX7_weakest_135 h (fun H locs x45 M h => ?_)
          refine x_nm h (fun v46 ev46 h => ?_)
          refine lv_iinc (v := oI v46) (lv' := [(5, .int (oI v46)), (0, .ref (a 0)), (1, .int (oI p1)), (2, .int (oI p2)), (3, .int (oI p3)), (4, .int (oI r9))]) hx hb dX7_weakest_136 hl (k := 5) rfl (by rw [ev46]; exact oI_add _ _) (by decide) rfl (fun ls hl => ?_)
          refine lv_goto (tgt := 114) hx hb dX7_weakest_139 (by decide) ?_
          exact ig43 v46 x45 h H locs ls M (lv_sub hl [1, 2, 3, 4, 5, 0] rfl)
      refine x_loop1_ind (P := fun v47 x48 => ∀ (H : Heap) (locs : List Loc) (ls : Array Slot), xmm D (yW T a) A s H locs x48 → lv_has ls 9 [(0, .ref (a 0)), (1, .int (oI p1)), (2, .int (oI p2)), (3, .int (oI p3)), (4, .int (oI r9)), (5, .int (oI v47))] → W p l e { frames := 3, cells := 0, slots := 0, locals := 77 } s m args below meth c H locs 0 0 (xQI below args s D (yW T a) .int z A) (F0 m 82 ls [])) (fun g49 ig49 v47 x48 h => ?_) x_fuel 0 x10 h H locs ls M (lv_sub hl [2, 3, 4, 5, 1, 0] rfl)
      intro H locs ls M hl
      unfold b_X7_weakest_82 at h
      refine lv_iload hx hb dX7_weakest_82 (lv_at hl 5 rfl) ?_
      refine lv_iload hx hb dX7_weakest_84 (lv_at hl 4 rfl) ?_
      refine z_icmp_ge (tgt := 111) hx hb dX7_weakest_86 (by decide) h (fun h => ?_) (fun h => ?_)
      · exact hkx11 x48 H locs ls h M (lv_sub hl [0, 1, 2, 3, 4] rfl)
      · refine lv_aload_n hx hb dX7_weakest_89 rfl (lv_at hl 0 rfl) ?_
        refine gf_X7_86 C M dX7_weakest_90 ?_
        refine lv_iload hx hb dX7_weakest_93 (lv_at hl 5 rfl) ?_
        refine lv_aload_n hx hb dX7_weakest_95 rfl (lv_at hl 0 rfl) ?_
        refine gf_X7_77 C M dX7_weakest_96 ?_
        refine lv_iconst (v := oI 2) hx hb dX7_weakest_99 (by decide) ?_
        refine lv_iload hx hb dX7_weakest_100 (lv_at hl 5 rfl) ?_
        refine z_imul hx hb dX7_weakest_102 ?_
        refine al_y_23 C M dX7_weakest_103 h (fun v50 h => ?_)
        refine as_y_26 C M dX7_weakest_104 h (fun H locs x51 M h => ?_)
        refine x_nm h (fun v52 ev52 h => ?_)
        refine lv_iinc (v := oI v52) (lv' := [(5, .int (oI v52)), (0, .ref (a 0)), (1, .int (oI p1)), (2, .int (oI p2)), (3, .int (oI p3)), (4, .int (oI r9))]) hx hb dX7_weakest_105 hl (k := 5) rfl (by rw [ev52]; exact oI_add _ _) (by decide) rfl (fun ls hl => ?_)
        refine lv_goto (tgt := 82) hx hb dX7_weakest_108 (by decide) ?_
        exact ig49 v52 x51 h H locs ls M (lv_sub hl [1, 2, 3, 4, 5, 0] rfl)
    refine x_loop1_ind (P := fun v53 x54 => ∀ (H : Heap) (locs : List Loc) (ls : Array Slot), xmm D (yW T a) A s H locs x54 → lv_has ls 9 [(0, .ref (a 0)), (1, .int (oI p1)), (2, .int (oI p2)), (3, .int (oI p3)), (4, .int (oI v53))] → W p l e { frames := 3, cells := 0, slots := 0, locals := 77 } s m args below meth c H locs 0 0 (xQI below args s D (yW T a) .int z A) (F0 m 33 ls [])) (fun g55 ig55 v53 x54 h => ?_) x_fuel 0 x4 h H locs ls M (lv_sub hl [1, 2, 3, 4, 0] rfl)
    intro H locs ls M hl
    unfold b_X7_weakest_33 at h
    refine lv_iload hx hb dX7_weakest_33 (lv_at hl 4 rfl) ?_
    refine lv_sipush (v := oI 2400) hx hb dX7_weakest_35 (by decide) ?_
    refine z_icmp_ge (tgt := 61) hx hb dX7_weakest_38 (by decide) h (fun h => ?_) (fun h => ?_)
    · exact hkx5 x54 H locs ls h M (lv_sub hl [0, 1, 2, 3] rfl)
    · refine lv_aload_n hx hb dX7_weakest_41 rfl (lv_at hl 0 rfl) ?_
      refine gf_X7_89 C M dX7_weakest_42 ?_
      refine lv_iload hx hb dX7_weakest_45 (lv_at hl 4 rfl) ?_
      refine lv_aload_n hx hb dX7_weakest_47 rfl (lv_at hl 0 rfl) ?_
      refine gf_X7_77 C M dX7_weakest_48 ?_
      refine lv_iload hx hb dX7_weakest_51 (lv_at hl 4 rfl) ?_
      refine al_y_23 C M dX7_weakest_53 h (fun v56 h => ?_)
      refine as_y_27 C M dX7_weakest_54 h (fun H locs x57 M h => ?_)
      refine x_nm h (fun v58 ev58 h => ?_)
      refine lv_iinc (v := oI v58) (lv' := [(4, .int (oI v58)), (0, .ref (a 0)), (1, .int (oI p1)), (2, .int (oI p2)), (3, .int (oI p3))]) hx hb dX7_weakest_55 hl (k := 4) rfl (by rw [ev58]; exact oI_add _ _) (by decide) rfl (fun ls hl => ?_)
      refine lv_goto (tgt := 33) hx hb dX7_weakest_58 (by decide) ?_
      exact ig55 v58 x57 h H locs ls M (lv_sub hl [1, 2, 3, 4, 0] rfl)
  · refine lv_iconst (v := oI (-1)) hx hb dX7_weakest_28 (by decide) ?_
    exact xretI C hr M h rfl dX7_weakest_29
set_option maxHeartbeats 4000000 in
set_option maxRecDepth 100000 in
theorem c_X7_run {l : Launch} {D : va_G} {T : ClassId × ClassId} {a : Nat → Nat} {x : XS} {p1 : Int} {p2 : Int} {p3 : Int} {p4 : Int} {z : Int × XS} (h : f_X7_run x p1 p2 p3 p4 = some z) (sz : Nat) : xMetI l yX7_run cX7_run 6 .int { frames := 2, cells := 0, slots := 0, locals := 48 } D T (yW T a) sz [.ref (a 0), .int (oI p1), .int (oI p2), .int (oI p3), .int (oI p4)] x z := by
  refine xMetI_of (by decide) (Nat.le_of_ble_eq_true rfl) (yW_ad T a) ?_
  intro p e s m args below meth c A ls C hr M hl
  have hx := C.1
  have hb := C.2.1
  have hl : lv_has ls 6 [(0, .ref (a 0)), (1, .int (oI p1)), (2, .int (oI p2)), (3, .int (oI p3)), (4, .int (oI p4))] := hl
  have C : xcx RX7 cX7_run 6 D T (yW T a) A p s m args meth c := C
  revert hl M
  generalize ([] : List Loc) = locs
  generalize s.heap = H
  intro M hl
  unfold f_X7_run at h
  refine lv_aload_n hx hb dX7_run_0 rfl (lv_at hl 0 rfl) ?_
  refine lv_iconst (v := oI 0) hx hb dX7_run_1 (by decide) ?_
  refine pf_X7_92 C M dX7_run_2 h (fun H locs x1 M h => ?_)
  refine lv_aload_n hx hb dX7_run_5 rfl (lv_at hl 0 rfl) ?_
  refine lv_iconst (v := oI 0) hx hb dX7_run_6 (by decide) ?_
  refine pf_X7_96 C M dX7_run_7 h (fun H locs x2 M h => ?_)
  refine lv_iload_n hx hb dX7_run_10 rfl (lv_at hl 3 rfl) ?_
  refine x_jp_el h (fun jp3 ejp3 h => ?_)
  have hjp3 : ∀ (x4 : XS) (H : Heap) (locs : List Loc) (ls : Array Slot), jp3 x4 = some z → xmm D (yW T a) A s H locs x4 → lv_has ls 6 [(0, .ref (a 0))] → W p l e { frames := 2, cells := 0, slots := 0, locals := 48 } s m args below meth c H locs 0 0 (xQI below args s D (yW T a) .int z A) (F0 m 22 ls []) := by
    intro x4 H locs ls h M hl
    rw [ejp3] at h
    dsimp only at h
    refine lv_aload_n hx hb dX7_run_22 rfl (lv_at hl 0 rfl) ?_
    refine lv_bipush (v := oI 6) hx hb dX7_run_23 (by decide) ?_
    refine ci_X7_109 C M h ⟨Nat.le_of_ble_eq_true rfl, Nat.le_of_ble_eq_true rfl⟩ hl.1 (Nat.le_of_ble_eq_true rfl) dX7_run_25 (fun r5 H locs x6 M nr5 h => ?_)
    exact xretI C hr M h rfl dX7_run_28
  refine z_if_lt (tgt := 22) hx hb dX7_run_11 (by decide) h (fun h => ?_) (fun h => ?_)
  · exact hjp3 x2 H locs ls h M (lv_sub hl [0] rfl)
  · refine lv_iload_n hx hb dX7_run_14 rfl (lv_at hl 3 rfl) ?_
    refine lv_aload_n hx hb dX7_run_15 rfl (lv_at hl 0 rfl) ?_
    refine gf_X7_120 C M dX7_run_16 ?_
    refine z_icmp_le (tgt := 29) hx hb dX7_run_19 (by decide) h (fun h => ?_) (fun h => ?_)
    · refine lv_aload_n hx hb dX7_run_29 rfl (lv_at hl 0 rfl) ?_
      refine lv_iload_n hx hb dX7_run_30 rfl (lv_at hl 3 rfl) ?_
      refine ci_X7_146 C M h ⟨Nat.le_of_ble_eq_true rfl, Nat.le_of_ble_eq_true rfl⟩ hl.1 (Nat.le_of_ble_eq_true rfl) dX7_run_31 (fun H locs x8 M h => ?_)
      refine lv_aload_n hx hb dX7_run_34 rfl (lv_at hl 0 rfl) ?_
      refine lv_iload_n hx hb dX7_run_35 rfl (lv_at hl 1 rfl) ?_
      refine ci_X7_133 C M h ⟨Nat.le_of_ble_eq_true rfl, Nat.le_of_ble_eq_true rfl⟩ hl.1 (Nat.le_of_ble_eq_true rfl) dX7_run_36 (fun r9 H locs x10 M nr9 h => ?_)
      refine x_jp_el h (fun jp11 ejp11 h => ?_)
      have hjp11 : ∀ (x12 : XS) (H : Heap) (locs : List Loc) (ls : Array Slot), jp11 x12 = some z → xmm D (yW T a) A s H locs x12 → lv_has ls 6 [(0, .ref (a 0))] → W p l e { frames := 2, cells := 0, slots := 0, locals := 48 } s m args below meth c H locs 0 0 (xQI below args s D (yW T a) .int z A) (F0 m 65 ls []) := by
        intro x12 H locs ls h M hl
        rw [ejp11] at h
        dsimp only at h
        refine lv_aload_n hx hb dX7_run_65 rfl (lv_at hl 0 rfl) ?_
        refine lv_iconst (v := oI 1) hx hb dX7_run_66 (by decide) ?_
        refine ci_X7_109 C M h ⟨Nat.le_of_ble_eq_true rfl, Nat.le_of_ble_eq_true rfl⟩ hl.1 (Nat.le_of_ble_eq_true rfl) dX7_run_67 (fun r13 H locs x14 M nr13 h => ?_)
        exact xretI C hr M h rfl dX7_run_70
      refine z_if_eq (tgt := 65) hx hb dX7_run_39 (by decide) h (fun h => ?_) (fun h => ?_)
      · exact hjp11 x10 H locs ls h M (lv_sub hl [0] rfl)
      · refine lv_aload_n hx hb dX7_run_42 rfl (lv_at hl 0 rfl) ?_
        refine gf_X7_49 C M dX7_run_43 ?_
        refine lv_iload_n hx hb dX7_run_46 rfl (lv_at hl 1 rfl) ?_
        refine al_y_14 C M dX7_run_47 h (fun v15 h => ?_)
        refine z_if_eq (tgt := 65) hx hb dX7_run_48 (by decide) h (fun h => ?_) (fun h => ?_)
        · exact hjp11 x10 H locs ls h M (lv_sub hl [0] rfl)
        · refine lv_iload_n hx hb dX7_run_51 rfl (lv_at hl 2 rfl) ?_
          refine z_if_lt (tgt := 65) hx hb dX7_run_52 (by decide) h (fun h => ?_) (fun h => ?_)
          · exact hjp11 x10 H locs ls h M (lv_sub hl [0] rfl)
          · refine lv_iload_n hx hb dX7_run_55 rfl (lv_at hl 2 rfl) ?_
            refine lv_aload_n hx hb dX7_run_56 rfl (lv_at hl 0 rfl) ?_
            refine gf_X7_31 C M dX7_run_57 ?_
            refine lv_iload_n hx hb dX7_run_60 rfl (lv_at hl 1 rfl) ?_
            refine al_y_8 C M dX7_run_61 h (fun v16 h => ?_)
            refine z_icmp_lt (tgt := 71) hx hb dX7_run_62 (by decide) h (fun h => ?_) (fun h => ?_)
            · refine lv_iload hx hb dX7_run_71 (lv_at hl 4 rfl) ?_
              refine x_jp_el h (fun jp17 ejp17 h => ?_)
              have hjp17 : ∀ (x18 : XS) (H : Heap) (locs : List Loc) (ls : Array Slot), jp17 x18 = some z → xmm D (yW T a) A s H locs x18 → lv_has ls 6 [(0, .ref (a 0))] → W p l e { frames := 2, cells := 0, slots := 0, locals := 48 } s m args below meth c H locs 0 0 (xQI below args s D (yW T a) .int z A) (F0 m 82 ls []) := by
                intro x18 H locs ls h M hl
                rw [ejp17] at h
                dsimp only at h
                refine lv_aload_n hx hb dX7_run_82 rfl (lv_at hl 0 rfl) ?_
                refine lv_iconst (v := oI 2) hx hb dX7_run_83 (by decide) ?_
                refine ci_X7_109 C M h ⟨Nat.le_of_ble_eq_true rfl, Nat.le_of_ble_eq_true rfl⟩ hl.1 (Nat.le_of_ble_eq_true rfl) dX7_run_84 (fun r19 H locs x20 M nr19 h => ?_)
                exact xretI C hr M h rfl dX7_run_87
              refine z_if_lt (tgt := 82) hx hb dX7_run_73 (by decide) h (fun h => ?_) (fun h => ?_)
              · exact hjp17 x10 H locs ls h M (lv_sub hl [0] rfl)
              · refine lv_iload hx hb dX7_run_76 (lv_at hl 4 rfl) ?_
                refine lv_iconst (v := oI 2) hx hb dX7_run_78 (by decide) ?_
                refine z_icmp_le (tgt := 88) hx hb dX7_run_79 (by decide) h (fun h => ?_) (fun h => ?_)
                · refine lv_aload_n hx hb dX7_run_88 rfl (lv_at hl 0 rfl) ?_
                  refine lv_iload_n hx hb dX7_run_89 rfl (lv_at hl 1 rfl) ?_
                  refine lv_iload_n hx hb dX7_run_90 rfl (lv_at hl 2 rfl) ?_
                  refine lv_iload_n hx hb dX7_run_91 rfl (lv_at hl 3 rfl) ?_
                  refine ci_X7_153 C M h ⟨Nat.le_of_ble_eq_true rfl, Nat.le_of_ble_eq_true rfl⟩ hl.1 (Nat.le_of_ble_eq_true rfl) dX7_run_92 (fun r21 H locs x22 M nr21 h => ?_)
                  refine lv_istore (lv' := [(5, .int (oI r21)), (0, .ref (a 0)), (1, .int (oI p1)), (2, .int (oI p2)), (3, .int (oI p3)), (4, .int (oI p4))]) hx hb dX7_run_95 hl (by decide) rfl (fun ls hl => ?_)
                  refine lv_iload hx hb dX7_run_97 (lv_at hl 5 rfl) ?_
                  refine z_if_ne (tgt := 107) hx hb dX7_run_99 (by decide) h (fun h => ?_) (fun h => ?_)
                  · refine lv_iload hx hb dX7_run_107 (lv_at hl 5 rfl) ?_
                    refine lv_iconst (v := oI 1) hx hb dX7_run_109 (by decide) ?_
                    refine z_icmp_ne (tgt := 125) hx hb dX7_run_110 (by decide) h (fun h => ?_) (fun h => ?_)
                    · refine lv_aload_n hx hb dX7_run_125 rfl (lv_at hl 1 rfl) ?_
                      refine lv_iload_n hx hb dX7_run_126 rfl (lv_at hl 2 rfl) ?_
                      refine lv_iload hx hb dX7_run_127 (lv_at hl 0 rfl) ?_
                      refine lv_iload_n hx hb dX7_run_129 rfl (lv_at hl 4 rfl) ?_
                      refine ci_X7_157 C M h ⟨Nat.le_of_ble_eq_true rfl, Nat.le_of_ble_eq_true rfl⟩ hl.1 (Nat.le_of_ble_eq_true rfl) dX7_run_130 (fun r23 H locs x24 M nr23 h => ?_)
                      refine z_if_eq (tgt := 140) hx hb dX7_run_133 (by decide) h (fun h => ?_) (fun h => ?_)
                      · refine lv_iconst (v := oI 0) hx hb dX7_run_140 (by decide) ?_
                        exact xretI C hr M h rfl dX7_run_141
                      · refine lv_iconst (v := oI 1) hx hb dX7_run_136 (by decide) ?_
                        refine lv_goto (tgt := 141) hx hb dX7_run_137 (by decide) ?_
                        exact xretI C hr M h rfl dX7_run_141
                    · refine lv_iload hx hb dX7_run_113 (lv_at hl 0 rfl) ?_
                      refine lv_aload_n hx hb dX7_run_115 rfl (lv_at hl 1 rfl) ?_
                      refine gf_X7_28 C M dX7_run_116 ?_
                      refine lv_iload_n hx hb dX7_run_119 rfl (lv_at hl 2 rfl) ?_
                      refine al_y_7 C M dX7_run_120 h (fun v25 h => ?_)
                      refine z_iadd hx hb dX7_run_121 ?_
                      refine lv_goto (tgt := 141) hx hb dX7_run_122 (by decide) ?_
                      exact xretI C hr M h rfl dX7_run_141
                  · refine lv_iload hx hb dX7_run_102 (lv_at hl 0 rfl) ?_
                    refine lv_goto (tgt := 141) hx hb dX7_run_104 (by decide) ?_
                    exact xretI C hr M h rfl dX7_run_141
                · exact hjp17 x10 H locs ls h M (lv_sub hl [0] rfl)
            · exact hjp11 x10 H locs ls h M (lv_sub hl [0] rfl)
    · exact hjp3 x2 H locs ls h M (lv_sub hl [0] rfl)
set_option maxHeartbeats 4000000 in
set_option maxRecDepth 100000 in
theorem c_X7_stand {l : Launch} {D : va_G} {T : ClassId × ClassId} {a : Nat → Nat} {x : XS} {p1 : Int} {z : Int × XS} (h : f_X7_stand x p1 = some z) (sz : Nat) : xMetI l yX7_stand cX7_stand 2 .int { frames := 3, cells := 0, slots := 0, locals := 74 } D T (yW T a) sz [.ref (a 0), .int (oI p1)] x z := by
  refine xMetI_of (by decide) (Nat.le_of_ble_eq_true rfl) (yW_ad T a) ?_
  intro p e s m args below meth c A ls C hr M hl
  have hx := C.1
  have hb := C.2.1
  have hl : lv_has ls 2 [(0, .ref (a 0)), (1, .int (oI p1))] := hl
  have C : xcx RX7 cX7_stand 2 D T (yW T a) A p s m args meth c := C
  revert hl M
  generalize ([] : List Loc) = locs
  generalize s.heap = H
  intro M hl
  unfold f_X7_stand at h
  refine lv_aload_n hx hb dX7_stand_0 rfl (lv_at hl 0 rfl) ?_
  refine lv_iconst (v := oI 0) hx hb dX7_stand_1 (by decide) ?_
  refine pf_X7_92 C M dX7_stand_2 h (fun H locs x1 M h => ?_)
  refine lv_aload_n hx hb dX7_stand_5 rfl (lv_at hl 0 rfl) ?_
  refine lv_iconst (v := oI 0) hx hb dX7_stand_6 (by decide) ?_
  refine pf_X7_96 C M dX7_stand_7 h (fun H locs x2 M h => ?_)
  refine lv_iload_n hx hb dX7_stand_10 rfl (lv_at hl 1 rfl) ?_
  refine x_jp_el h (fun jp3 ejp3 h => ?_)
  have hjp3 : ∀ (x4 : XS) (H : Heap) (locs : List Loc) (ls : Array Slot), jp3 x4 = some z → xmm D (yW T a) A s H locs x4 → lv_has ls 2 [(0, .ref (a 0))] → W p l e { frames := 3, cells := 0, slots := 0, locals := 74 } s m args below meth c H locs 0 0 (xQI below args s D (yW T a) .int z A) (F0 m 22 ls []) := by
    intro x4 H locs ls h M hl
    rw [ejp3] at h
    dsimp only at h
    refine lv_aload_n hx hb dX7_stand_22 rfl (lv_at hl 0 rfl) ?_
    refine lv_bipush (v := oI 6) hx hb dX7_stand_23 (by decide) ?_
    refine ci_X7_109 C M h ⟨Nat.le_of_ble_eq_true rfl, Nat.le_of_ble_eq_true rfl⟩ hl.1 (Nat.le_of_ble_eq_true rfl) dX7_stand_25 (fun r5 H locs x6 M nr5 h => ?_)
    exact xretI C hr M h rfl dX7_stand_28
  refine z_if_lt (tgt := 22) hx hb dX7_stand_11 (by decide) h (fun h => ?_) (fun h => ?_)
  · exact hjp3 x2 H locs ls h M (lv_sub hl [0] rfl)
  · refine lv_iload_n hx hb dX7_stand_14 rfl (lv_at hl 1 rfl) ?_
    refine lv_aload_n hx hb dX7_stand_15 rfl (lv_at hl 0 rfl) ?_
    refine gf_X7_120 C M dX7_stand_16 ?_
    refine z_icmp_le (tgt := 29) hx hb dX7_stand_19 (by decide) h (fun h => ?_) (fun h => ?_)
    · refine lv_aload_n hx hb dX7_stand_29 rfl (lv_at hl 0 rfl) ?_
      refine lv_iload_n hx hb dX7_stand_30 rfl (lv_at hl 1 rfl) ?_
      refine lv_iconst (v := oI (-1)) hx hb dX7_stand_31 (by decide) ?_
      refine ci_X7_177 C M h ⟨Nat.le_of_ble_eq_true rfl, Nat.le_of_ble_eq_true rfl⟩ hl.1 (Nat.le_of_ble_eq_true rfl) dX7_stand_32 (fun H locs x8 M h => ?_)
      refine lv_aload_n hx hb dX7_stand_35 rfl (lv_at hl 0 rfl) ?_
      refine gf_X7_150 C M dX7_stand_36 ?_
      exact xretI C hr M h rfl dX7_stand_39
    · exact hjp3 x2 H locs ls h M (lv_sub hl [0] rfl)
