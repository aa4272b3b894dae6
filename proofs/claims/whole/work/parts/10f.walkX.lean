set_option maxHeartbeats 4000000 in
set_option maxRecDepth 100000 in
theorem c_X5_placeOf {l : Launch} {D : va_G} {T : ClassId × ClassId} {a : Nat → Nat} {x : XS} {p1 : Int} {z : Int × XS} (h : f_X5_placeOf x p1 = some z) (sz : Nat) : xMetI l yX5_placeOf cX5_placeOf 2 .int { frames := 0, cells := 0, slots := 0, locals := 0 } D T (xW T a) sz [.ref (a 4), .int (oI p1)] x z := by
  refine xMetI_of (by decide) (Nat.le_of_ble_eq_true rfl) (xW_ad T a) ?_
  intro p e s m args below meth c A ls C hr M hl
  have hx := C.1
  have hb := C.2.1
  have hl : lv_has ls 2 [(0, .ref (a 4)), (1, .int (oI p1))] := hl
  have C : xcx RX5 cX5_placeOf 2 D T (xW T a) A p s m args meth c := C
  revert hl M
  generalize ([] : List Loc) = locs
  generalize s.heap = H
  intro M hl
  unfold f_X5_placeOf at h
  refine lv_iload_n hx hb dX5_placeOf_0 rfl (lv_at hl 1 rfl) ?_
  refine lv_aload_n hx hb dX5_placeOf_1 rfl (lv_at hl 0 rfl) ?_
  refine gf_X5_66 C M dX5_placeOf_2 ?_
  refine gf_X5_111 C M dX5_placeOf_5 ?_
  refine lv_aload_n hx hb dX5_placeOf_8 rfl (lv_at hl 0 rfl) ?_
  refine gf_X5_29 C M dX5_placeOf_9 ?_
  refine lv_iload_n hx hb dX5_placeOf_12 rfl (lv_at hl 1 rfl) ?_
  refine al_x_27 C M dX5_placeOf_13 h (fun v1 h => ?_)
  refine al_x_18 C M dX5_placeOf_14 h (fun v2 h => ?_)
  refine z_isub hx hb dX5_placeOf_15 ?_
  exact xretI C hr M h rfl dX5_placeOf_16
theorem ci_X3_128 {cc : ByteArray} {nL : Nat} {D : va_G} {T : ClassId × ClassId} {a : Nat → Nat} {A : Nat → Prop} {p : Program} {l : Launch} {e : Env} {R : Room} {s : State} {m : MethodId} {args : Array Value} {below : List Frame} {meth : Method} {c : Code} {H : Heap} {locs : List Loc} {Q : State → Prop} {x : XS} {z : Int × XS} {pc : Nat} {ls : Array Slot} {rest : List Value} (C : xcx RX3 cc nL D T (xW T a) A p s m args meth c) (M : xmm D (xW T a) A s H locs x) {p1 p2 p3 : Int} {K : Int → XS → XR} (h : x_call (f_X6_isBetween x p1 p2 p3) K = some z) (hR : 0 + 1 ≤ R.frames ∧ 8 + (3 + 11) + 0 ≤ R.locals) (hsz : ls.size = nL) (hrest : (rest.map fun v => v.category).sum ≤ 8) (hdg : decode cc pc = .ok (.invokestatic 128, 3)) (kk : ∀ (r : Int) (H1 : Heap) (locs1 : List Loc) (x1 : XS), xmm D (xW T a) A s H1 locs1 x1 → narrow .boolean (.int (oI r)) = .int (oI r) → K r x1 = some z → W p l e R s m args below meth c H1 locs1 0 0 Q (F0 m (pc + 3) ls (.int (oI r) :: rest))) : W p l e R s m args below meth c H locs 0 0 Q (F0 m pc ls (.int (oI p3) :: .int (oI p2) :: .int (oI p1) :: rest)) :=
  xcallI_SN (As := [.int (oI p1), .int (oI p2), .int (oI p3)]) (n := 3) C M (fun zc sz ho => c_X6_isBetween ho sz) bw_359 bw_650 bw_358 bw_84 rfl (by decide +kernel) ⟨rfl, rfl⟩ hR hsz rfl hrest hdg h kk
set_option maxHeartbeats 4000000 in
set_option maxRecDepth 100000 in
theorem c_X3_oneAhead {l : Launch} {D : va_G} {T : ClassId × ClassId} {a : Nat → Nat} {x : XS} {p1 : Int} {z : Int × XS} (h : f_X3_oneAhead x p1 = some z) (sz : Nat) : xMetI l yX3_oneAhead cX3_oneAhead 9 .int { frames := 1, cells := 0, slots := 0, locals := 22 } D T (xW T a) sz [.ref (a 5), .int (oI p1)] x z := by
  refine xMetI_of (by decide) (Nat.le_of_ble_eq_true rfl) (xW_ad T a) ?_
  intro p e s m args below meth c A ls C hr M hl
  have hx := C.1
  have hb := C.2.1
  have hl : lv_has ls 9 [(0, .ref (a 5)), (1, .int (oI p1))] := hl
  have C : xcx RX3 cX3_oneAhead 9 D T (xW T a) A p s m args meth c := C
  revert hl M
  generalize ([] : List Loc) = locs
  generalize s.heap = H
  intro M hl
  unfold f_X3_oneAhead at h
  refine lv_aload_n hx hb dX3_oneAhead_0 rfl (lv_at hl 0 rfl) ?_
  refine gf_X3_38 C M dX3_oneAhead_1 ?_
  refine lv_iload_n hx hb dX3_oneAhead_4 rfl (lv_at hl 1 rfl) ?_
  refine ci_X3_57 C M h ⟨Nat.le_of_ble_eq_true rfl, Nat.le_of_ble_eq_true rfl⟩ hl.1 (Nat.le_of_ble_eq_true rfl) dX3_oneAhead_5 (fun r1 H locs x2 M nr1 h => ?_)
  refine lv_istore_n (lv' := [(2, .int (oI r1)), (0, .ref (a 5)), (1, .int (oI p1))]) hx hb dX3_oneAhead_8 rfl hl (by decide) rfl (fun ls hl => ?_)
  refine lv_aload_n hx hb dX3_oneAhead_9 rfl (lv_at hl 1 rfl) ?_
  refine gf_X3_34 C M dX3_oneAhead_10 ?_
  refine lv_iload_n hx hb dX3_oneAhead_13 rfl (lv_at hl 0 rfl) ?_
  refine lv_aload_n hx hb dX3_oneAhead_14 rfl (lv_at hl 1 rfl) ?_
  refine gf_X3_38 C M dX3_oneAhead_15 ?_
  refine gf_X3_61 C M dX3_oneAhead_18 ?_
  refine lv_iload_n hx hb dX3_oneAhead_21 rfl (lv_at hl 2 rfl) ?_
  refine al_x_28 C M dX3_oneAhead_22 h (fun v3 h => ?_)
  refine ci_X3_80 C M h ⟨Nat.le_of_ble_eq_true rfl, Nat.le_of_ble_eq_true rfl⟩ hl.1 (Nat.le_of_ble_eq_true rfl) dX3_oneAhead_23 (fun r4 H locs x5 M nr4 h => ?_)
  refine lv_istore_n (lv' := [(3, .int (oI r4)), (2, .int (oI r1)), (0, .ref (a 5)), (1, .int (oI p1))]) hx hb dX3_oneAhead_26 rfl hl (by decide) rfl (fun ls hl => ?_)
  refine lv_aload_n hx hb dX3_oneAhead_27 rfl (lv_at hl 2 rfl) ?_
  refine gf_X3_34 C M dX3_oneAhead_28 ?_
  refine lv_iload_n hx hb dX3_oneAhead_31 rfl (lv_at hl 1 rfl) ?_
  refine lv_aload_n hx hb dX3_oneAhead_32 rfl (lv_at hl 2 rfl) ?_
  refine gf_X3_38 C M dX3_oneAhead_33 ?_
  refine gf_X3_61 C M dX3_oneAhead_36 ?_
  refine lv_iload_n hx hb dX3_oneAhead_39 rfl (lv_at hl 3 rfl) ?_
  refine al_x_28 C M dX3_oneAhead_40 h (fun v6 h => ?_)
  refine ci_X3_70 C M h ⟨Nat.le_of_ble_eq_true rfl, Nat.le_of_ble_eq_true rfl⟩ hl.1 (Nat.le_of_ble_eq_true rfl) dX3_oneAhead_41 (fun r7 H locs x8 M nr7 h => ?_)
  refine lv_istore (lv' := [(4, .int (oI r7)), (3, .int (oI r4)), (2, .int (oI r1)), (0, .ref (a 5)), (1, .int (oI p1))]) hx hb dX3_oneAhead_44 hl (by decide) rfl (fun ls hl => ?_)
  refine lv_iconst (v := oI (-1)) hx hb dX3_oneAhead_46 (by decide) ?_
  refine lv_istore (lv' := [(5, .int (oI (-1))), (4, .int (oI r7)), (3, .int (oI r4)), (2, .int (oI r1)), (0, .ref (a 5)), (1, .int (oI p1))]) hx hb dX3_oneAhead_47 hl (by decide) rfl (fun ls hl => ?_)
  refine lv_aload_n hx hb dX3_oneAhead_49 rfl (lv_at hl 4 rfl) ?_
  refine gf_X3_38 C M dX3_oneAhead_50 ?_
  refine lv_iload_n hx hb dX3_oneAhead_53 rfl (lv_at hl 3 rfl) ?_
  refine ci_X3_67 C M h ⟨Nat.le_of_ble_eq_true rfl, Nat.le_of_ble_eq_true rfl⟩ hl.1 (Nat.le_of_ble_eq_true rfl) dX3_oneAhead_54 (fun r9 H locs x10 M nr9 h => ?_)
  refine lv_istore (lv' := [(6, .int (oI r9)), (5, .int (oI (-1))), (4, .int (oI r7)), (3, .int (oI r4)), (2, .int (oI r1)), (0, .ref (a 5)), (1, .int (oI p1))]) hx hb dX3_oneAhead_57 hl (by decide) rfl (fun ls hl => ?_)
  refine x_jp_el h (fun kx11 ekx11 h => ?_)
  have hkx11 : ∀ (v12 : Int) (x13 : XS) (H : Heap) (locs : List Loc) (ls : Array Slot), kx11 v12 x13 = some z → xmm D (xW T a) A s H locs x13 → lv_has ls 9 [(5, .int (oI v12))] → W p l e { frames := 1, cells := 0, slots := 0, locals := 22 } s m args below meth c H locs 0 0 (xQI below args s D (xW T a) .int z A) (F0 m 157 ls []) := by
    intro v12 x13 H locs ls h M hl
    rw [ekx11] at h
    dsimp only at h
    refine lv_iload hx hb dX3_oneAhead_157 (lv_at hl 0 rfl) ?_
    exact xretI C hr M h rfl dX3_oneAhead_159
  refine x_loop2_ind (P := fun v14 v15 x16 => ∀ (H : Heap) (locs : List Loc) (ls : Array Slot), xmm D (xW T a) A s H locs x16 → lv_has ls 9 [(0, .ref (a 5)), (1, .int (oI p1)), (2, .int (oI r1)), (3, .int (oI r4)), (4, .int (oI r7)), (5, .int (oI v14)), (6, .int (oI v15))] → W p l e { frames := 1, cells := 0, slots := 0, locals := 22 } s m args below meth c H locs 0 0 (xQI below args s D (xW T a) .int z A) (F0 m 59 ls [])) (fun g17 ig17 v14 v15 x16 h => ?_) x_fuel (-1) r9 x10 h H locs ls M (lv_sub hl [5, 6, 4, 3, 2, 1, 0] rfl)
  intro H locs ls M hl
  unfold b_X3_oneAhead_59 at h
  refine lv_iload hx hb dX3_oneAhead_59 (lv_at hl 6 rfl) ?_
  refine lv_aload_n hx hb dX3_oneAhead_61 rfl (lv_at hl 0 rfl) ?_
  refine gf_X3_38 C M dX3_oneAhead_62 ?_
  refine gf_X3_86 C M dX3_oneAhead_65 ?_
  refine lv_iload_n hx hb dX3_oneAhead_68 rfl (lv_at hl 2 rfl) ?_
  refine al_x_34 C M dX3_oneAhead_69 h (fun v18 h => ?_)
  refine z_icmp_ge (tgt := 157) hx hb dX3_oneAhead_70 (by decide) h (fun h => ?_) (fun h => ?_)
  · exact hkx11 v14 x16 H locs ls h M (lv_sub hl [5] rfl)
  · refine lv_aload_n hx hb dX3_oneAhead_73 rfl (lv_at hl 0 rfl) ?_
    refine gf_X3_38 C M dX3_oneAhead_74 ?_
    refine gf_X3_92 C M dX3_oneAhead_77 ?_
    refine lv_iload hx hb dX3_oneAhead_80 (lv_at hl 6 rfl) ?_
    refine al_x_32 C M dX3_oneAhead_82 h (fun v19 h => ?_)
    refine lv_istore (lv' := [(7, .int (oI v19)), (0, .ref (a 5)), (1, .int (oI p1)), (2, .int (oI r1)), (3, .int (oI r4)), (4, .int (oI r7)), (5, .int (oI v14)), (6, .int (oI v15))]) hx hb dX3_oneAhead_83 hl (by decide) rfl (fun ls hl => ?_)
    refine lv_aload_n hx hb dX3_oneAhead_85 rfl (lv_at hl 1 rfl) ?_
    refine gf_X3_9 C M dX3_oneAhead_86 ?_
    refine lv_iload hx hb dX3_oneAhead_89 (lv_at hl 0 rfl) ?_
    refine al_x_35 C M dX3_oneAhead_91 h (fun v20 h => ?_)
    refine lv_aload_n hx hb dX3_oneAhead_92 rfl (lv_at hl 1 rfl) ?_
    refine gf_X3_9 C M dX3_oneAhead_93 ?_
    refine lv_iload_n hx hb dX3_oneAhead_96 rfl (lv_at hl 2 rfl) ?_
    refine al_x_35 C M dX3_oneAhead_97 h (fun v21 h => ?_)
    refine lv_iconst (v := oI 1) hx hb dX3_oneAhead_98 (by decide) ?_
    refine z_isub hx hb dX3_oneAhead_99 ?_
    refine x_jp_el h (fun jp22 ejp22 h => ?_)
    have hjp22 : ∀ (v23 : Int) (x24 : XS) (H : Heap) (locs : List Loc) (ls : Array Slot), jp22 v23 x24 = some z → xmm D (xW T a) A s H locs x24 → lv_has ls 9 [(0, .ref (a 5)), (1, .int (oI p1)), (2, .int (oI r1)), (3, .int (oI r4)), (4, .int (oI r7)), (5, .int (oI v14)), (6, .int (oI v15)), (7, .int (oI v19))] → W p l e { frames := 1, cells := 0, slots := 0, locals := 22 } s m args below meth c H locs 0 0 (xQI below args s D (xW T a) .int z A) (F0 m 127 ls [.int (oI v23)]) := by
      intro v23 x24 H locs ls h M hl
      rw [ejp22] at h
      dsimp only at h
      refine lv_istore (lv' := [(8, .int (oI v23)), (0, .ref (a 5)), (1, .int (oI p1)), (2, .int (oI r1)), (3, .int (oI r4)), (4, .int (oI r7)), (5, .int (oI v14)), (6, .int (oI v15)), (7, .int (oI v19))]) hx hb dX3_oneAhead_127 hl (by decide) rfl (fun ls hl => ?_)
      refine lv_iload hx hb dX3_oneAhead_129 (lv_at hl 0 rfl) ?_
      refine x_jp_el h (fun jp25 ejp25 h => ?_)
      have hjp25 : ∀ (v26 : Int) (x27 : XS) (H : Heap) (locs : List Loc) (ls : Array Slot), jp25 v26 x27 = some z → xmm D (xW T a) A s H locs x27 → lv_has ls 9 [(0, .ref (a 5)), (1, .int (oI p1)), (2, .int (oI r1)), (3, .int (oI r4)), (4, .int (oI r7)), (5, .int (oI v26)), (6, .int (oI v15))] → W p l e { frames := 1, cells := 0, slots := 0, locals := 22 } s m args below meth c H locs 0 0 (xQI below args s D (xW T a) .int z A) (F0 m 151 ls []) := by
        intro v26 x27 H locs ls h M hl
        rw [ejp25] at h
        dsimp only at h
        refine x_nm h (fun v28 ev28 h => ?_)
        refine lv_iinc (v := oI v28) (lv' := [(6, .int (oI v28)), (0, .ref (a 5)), (1, .int (oI p1)), (2, .int (oI r1)), (3, .int (oI r4)), (4, .int (oI r7)), (5, .int (oI v26))]) hx hb dX3_oneAhead_151 hl (k := 6) rfl (by rw [ev28]; exact oI_add _ _) (by decide) rfl (fun ls hl => ?_)
        refine lv_goto (tgt := 59) hx hb dX3_oneAhead_154 (by decide) ?_
        exact ig17 v26 v28 x27 h H locs ls M (lv_sub hl [1, 2, 3, 4, 5, 6, 0] rfl)
      refine z_if_eq (tgt := 151) hx hb dX3_oneAhead_131 (by decide) h (fun h => ?_) (fun h => ?_)
      · exact hjp25 v14 x24 H locs ls h M (lv_sub hl [1, 2, 3, 4, 5, 6, 7] rfl)
      · refine lv_iload hx hb dX3_oneAhead_134 (lv_at hl 6 rfl) ?_
        refine lv_iconst (v := oI (-1)) hx hb dX3_oneAhead_136 (by decide) ?_
        refine x_jp_el h (fun jp29 ejp29 h => ?_)
        have hjp29 : ∀ (x30 : XS) (H : Heap) (locs : List Loc) (ls : Array Slot), jp29 x30 = some z → xmm D (xW T a) A s H locs x30 → lv_has ls 9 [(0, .ref (a 5)), (1, .int (oI p1)), (2, .int (oI r1)), (3, .int (oI r4)), (4, .int (oI r7)), (6, .int (oI v15)), (7, .int (oI v19))] → W p l e { frames := 1, cells := 0, slots := 0, locals := 22 } s m args below meth c H locs 0 0 (xQI below args s D (xW T a) .int z A) (F0 m 147 ls []) := by
          intro x30 H locs ls h M hl
          rw [ejp29] at h
          dsimp only at h
          refine lv_iload hx hb dX3_oneAhead_147 (lv_at hl 6 rfl) ?_
          refine lv_istore (lv' := [(5, .int (oI v19)), (0, .ref (a 5)), (1, .int (oI p1)), (2, .int (oI r1)), (3, .int (oI r4)), (4, .int (oI r7)), (6, .int (oI v15)), (7, .int (oI v19))]) hx hb dX3_oneAhead_149 hl (by decide) rfl (fun ls hl => ?_)
          exact hjp25 v19 x30 H locs ls h M (lv_sub hl [1, 2, 3, 4, 5, 0, 6] rfl)
        refine z_icmp_eq (tgt := 147) hx hb dX3_oneAhead_137 (by decide) h (fun h => ?_) (fun h => ?_)
        · exact hjp29 x24 H locs ls h M (lv_sub hl [1, 2, 3, 4, 5, 7, 8] rfl)
        · refine lv_iload hx hb dX3_oneAhead_140 (lv_at hl 8 rfl) ?_
          refine lv_iload hx hb dX3_oneAhead_142 (lv_at hl 6 rfl) ?_
          refine z_icmp_ge (tgt := 151) hx hb dX3_oneAhead_144 (by decide) h (fun h => ?_) (fun h => ?_)
          · exact hjp25 v14 x24 H locs ls h M (lv_sub hl [1, 2, 3, 4, 5, 6, 7] rfl)
          · exact hjp29 x24 H locs ls h M (lv_sub hl [1, 2, 3, 4, 5, 7, 8] rfl)
    refine x_jp_el h (fun jp31 ejp31 h => ?_)
    have hjp31 : ∀ (x32 : XS) (H : Heap) (locs : List Loc) (ls : Array Slot), jp31 x32 = some z → xmm D (xW T a) A s H locs x32 → lv_has ls 9 [(0, .ref (a 5)), (1, .int (oI p1)), (2, .int (oI r1)), (3, .int (oI r4)), (4, .int (oI r7)), (5, .int (oI v14)), (6, .int (oI v15)), (7, .int (oI v19))] → W p l e { frames := 1, cells := 0, slots := 0, locals := 22 } s m args below meth c H locs 0 0 (xQI below args s D (xW T a) .int z A) (F0 m 126 ls []) := by
      intro x32 H locs ls h M hl
      rw [ejp31] at h
      dsimp only at h
      refine lv_iconst (v := oI 0) hx hb dX3_oneAhead_126 (by decide) ?_
      exact hjp22 0 x32 H locs ls h M (lv_sub hl [0, 1, 2, 3, 4, 5, 6, 7] rfl)
    refine z_icmp_ne (tgt := 126) hx hb dX3_oneAhead_100 (by decide) h (fun h => ?_) (fun h => ?_)
    · exact hjp31 x16 H locs ls h M (lv_sub hl [1, 2, 3, 4, 5, 6, 7, 0] rfl)
    · refine lv_aload_n hx hb dX3_oneAhead_103 rfl (lv_at hl 1 rfl) ?_
      refine gf_X3_38 C M dX3_oneAhead_104 ?_
      refine gf_X3_89 C M dX3_oneAhead_107 ?_
      refine lv_iload hx hb dX3_oneAhead_110 (lv_at hl 0 rfl) ?_
      refine al_x_29 C M dX3_oneAhead_112 h (fun v33 h => ?_)
      refine lv_iload_n hx hb dX3_oneAhead_113 rfl (lv_at hl 4 rfl) ?_
      refine lv_iload hx hb dX3_oneAhead_114 (lv_at hl 5 rfl) ?_
      refine ci_X3_128 C M h ⟨Nat.le_of_ble_eq_true rfl, Nat.le_of_ble_eq_true rfl⟩ hl.1 (Nat.le_of_ble_eq_true rfl) dX3_oneAhead_116 (fun r34 H locs x35 M nr34 h => ?_)
      refine z_if_eq (tgt := 126) hx hb dX3_oneAhead_119 (by decide) h (fun h => ?_) (fun h => ?_)
      · exact hjp31 x35 H locs ls h M (lv_sub hl [1, 2, 3, 4, 5, 6, 7, 0] rfl)
      · refine lv_iconst (v := oI 1) hx hb dX3_oneAhead_122 (by decide) ?_
        refine lv_goto (tgt := 127) hx hb dX3_oneAhead_123 (by decide) ?_
        exact hjp22 1 x35 H locs ls h M (lv_sub hl [1, 2, 3, 4, 5, 6, 7, 0] rfl)
theorem ci_X3_116 {cc : ByteArray} {nL : Nat} {D : va_G} {T : ClassId × ClassId} {a : Nat → Nat} {A : Nat → Prop} {p : Program} {l : Launch} {e : Env} {R : Room} {s : State} {m : MethodId} {args : Array Value} {below : List Frame} {meth : Method} {c : Code} {H : Heap} {locs : List Loc} {Q : State → Prop} {x : XS} {z : Int × XS} {pc : Nat} {ls : Array Slot} {rest : List Value} (C : xcx RX3 cc nL D T (xW T a) A p s m args meth c) (M : xmm D (xW T a) A s H locs x) {p1 : Int} {K : Int → XS → XR} (h : x_call (f_X3_lastOfWay x p1) K = some z) (hR : 2 + 1 ≤ R.frames ∧ 8 + (6 + 11) + 43 ≤ R.locals) (hsz : ls.size = nL) (hrest : (rest.map fun v => v.category).sum ≤ 8) (hdg : decode cc pc = .ok (.invokevirtual 116, 3)) (kk : ∀ (r : Int) (H1 : Heap) (locs1 : List Loc) (x1 : XS), xmm D (xW T a) A s H1 locs1 x1 → narrow .int (.int (oI r)) = .int (oI r) → K r x1 = some z → W p l e R s m args below meth c H1 locs1 0 0 Q (F0 m (pc + 3) ls (.int (oI r) :: rest))) : W p l e R s m args below meth c H locs 0 0 Q (F0 m pc ls (.int (oI p1) :: .ref (a 5) :: rest)) :=
  xcallI_V (As := [.int (oI p1)]) (n := 1) C M (fun zc sz ho => c_X3_lastOfWay ho sz) bw_636 bw_633 bw_635 bw_51 bw_90 rfl (by decide +kernel) 5 rfl rfl ⟨rfl, rfl⟩ hR hsz rfl hrest hdg h kk
theorem ci_X3_119 {cc : ByteArray} {nL : Nat} {D : va_G} {T : ClassId × ClassId} {a : Nat → Nat} {A : Nat → Prop} {p : Program} {l : Launch} {e : Env} {R : Room} {s : State} {m : MethodId} {args : Array Value} {below : List Frame} {meth : Method} {c : Code} {H : Heap} {locs : List Loc} {Q : State → Prop} {x : XS} {z : Int × XS} {pc : Nat} {ls : Array Slot} {rest : List Value} (C : xcx RX3 cc nL D T (xW T a) A p s m args meth c) (M : xmm D (xW T a) A s H locs x) {p1 : Int} {K : Int → XS → XR} (h : x_call (f_X5_placeOf x p1) K = some z) (hR : 0 + 1 ≤ R.frames ∧ 8 + (2 + 11) + 0 ≤ R.locals) (hsz : ls.size = nL) (hrest : (rest.map fun v => v.category).sum ≤ 8) (hdg : decode cc pc = .ok (.invokevirtual 119, 3)) (kk : ∀ (r : Int) (H1 : Heap) (locs1 : List Loc) (x1 : XS), xmm D (xW T a) A s H1 locs1 x1 → narrow .int (.int (oI r)) = .int (oI r) → K r x1 = some z → W p l e R s m args below meth c H1 locs1 0 0 Q (F0 m (pc + 3) ls (.int (oI r) :: rest))) : W p l e R s m args below meth c H locs 0 0 Q (F0 m pc ls (.int (oI p1) :: .ref (a 4) :: rest)) :=
  xcallI_N (As := [.int (oI p1)]) (n := 1) C M (fun zc sz ho => c_X5_placeOf ho sz) bw_645 bw_642 bw_644 bw_53 bw_88 rfl (by decide +kernel) 4 rfl rfl ⟨rfl, rfl⟩ hR hsz rfl hrest hdg h kk
theorem ci_X3_122 {cc : ByteArray} {nL : Nat} {D : va_G} {T : ClassId × ClassId} {a : Nat → Nat} {A : Nat → Prop} {p : Program} {l : Launch} {e : Env} {R : Room} {s : State} {m : MethodId} {args : Array Value} {below : List Frame} {meth : Method} {c : Code} {H : Heap} {locs : List Loc} {Q : State → Prop} {x : XS} {z : Int × XS} {pc : Nat} {ls : Array Slot} {rest : List Value} (C : xcx RX3 cc nL D T (xW T a) A p s m args meth c) (M : xmm D (xW T a) A s H locs x) {p1 : Int} {K : Int → XS → XR} (h : x_call (f_X3_oneAhead x p1) K = some z) (hR : 1 + 1 ≤ R.frames ∧ 8 + (9 + 11) + 22 ≤ R.locals) (hsz : ls.size = nL) (hrest : (rest.map fun v => v.category).sum ≤ 8) (hdg : decode cc pc = .ok (.invokevirtual 122, 3)) (kk : ∀ (r : Int) (H1 : Heap) (locs1 : List Loc) (x1 : XS), xmm D (xW T a) A s H1 locs1 x1 → narrow .int (.int (oI r)) = .int (oI r) → K r x1 = some z → W p l e R s m args below meth c H1 locs1 0 0 Q (F0 m (pc + 3) ls (.int (oI r) :: rest))) : W p l e R s m args below meth c H locs 0 0 Q (F0 m pc ls (.int (oI p1) :: .ref (a 5) :: rest)) :=
  xcallI_V (As := [.int (oI p1)]) (n := 1) C M (fun zc sz ho => c_X3_oneAhead ho sz) bw_649 bw_646 bw_648 bw_54 bw_90 rfl (by decide +kernel) 5 rfl rfl ⟨rfl, rfl⟩ hR hsz rfl hrest hdg h kk
set_option maxHeartbeats 4000000 in
set_option maxRecDepth 100000 in
theorem c_X3_trace_7 {l : Launch} {D : va_G} {T : ClassId × ClassId} {a : Nat → Nat} {x : XS} {p1 : Int} {z : Int × XS} (h : f_X3_trace 0 x p1 = some z) (sz : Nat) : xMetI l yX3_trace cX3_trace 6 .int { frames := 3, cells := 0, slots := 0, locals := 68 } D T (xW T a) sz [.ref (a 5), .int (oI p1), .ref (a 7)] x z := by
  refine xMetI_of (by decide) (Nat.le_of_ble_eq_true rfl) (xW_ad T a) ?_
  intro p e s m args below meth c A ls C hr M hl
  have hx := C.1
  have hb := C.2.1
  have hl : lv_has ls 6 [(0, .ref (a 5)), (1, .int (oI p1)), (2, .ref (a 7))] := hl
  have C : xcx RX3 cX3_trace 6 D T (xW T a) A p s m args meth c := C
  revert hl M
  generalize ([] : List Loc) = locs
  generalize s.heap = H
  intro M hl
  unfold f_X3_trace at h
  refine lv_aload_n hx hb dX3_trace_0 rfl (lv_at hl 0 rfl) ?_
  refine lv_iload_n hx hb dX3_trace_1 rfl (lv_at hl 1 rfl) ?_
  refine ci_X3_116 C M h ⟨Nat.le_of_ble_eq_true rfl, Nat.le_of_ble_eq_true rfl⟩ hl.1 (Nat.le_of_ble_eq_true rfl) dX3_trace_2 (fun r1 H locs x2 M nr1 h => ?_)
  refine lv_istore_n (lv' := [(3, .int (oI r1)), (0, .ref (a 5)), (1, .int (oI p1)), (2, .ref (a 7))]) hx hb dX3_trace_5 rfl hl (by decide) rfl (fun ls hl => ?_)
  refine lv_iload_n hx hb dX3_trace_6 rfl (lv_at hl 0 rfl) ?_
  refine lv_iconst (v := oI (-1)) hx hb dX3_trace_7 (by decide) ?_
  refine z_icmp_ne (tgt := 13) hx hb dX3_trace_8 (by decide) h (fun h => ?_) (fun h => ?_)
  · refine lv_aload_n hx hb dX3_trace_13 rfl (lv_at hl 1 rfl) ?_
    refine gf_X3_9 C M dX3_trace_14 ?_
    refine lv_iload_n hx hb dX3_trace_17 rfl (lv_at hl 0 rfl) ?_
    refine al_x_35 C M dX3_trace_18 h (fun v3 h => ?_)
    refine lv_istore (lv' := [(4, .int (oI v3)), (3, .int (oI r1)), (0, .ref (a 5)), (1, .int (oI p1)), (2, .ref (a 7))]) hx hb dX3_trace_19 hl (by decide) rfl (fun ls hl => ?_)
    refine lv_iload hx hb dX3_trace_21 (lv_at hl 0 rfl) ?_
    refine lv_iconst (v := oI 1) hx hb dX3_trace_23 (by decide) ?_
    refine z_isub hx hb dX3_trace_24 ?_
    refine x_top h (fun v4 h => ?_)
    refine lv_istore (lv' := [(5, .int (oI v4)), (4, .int (oI v3)), (3, .int (oI r1)), (0, .ref (a 5)), (1, .int (oI p1)), (2, .ref (a 7))]) hx hb dX3_trace_25 hl (by decide) rfl (fun ls hl => ?_)
    refine x_jp_el h (fun kx5 ekx5 h => ?_)
    have hkx5 : ∀ (x6 : XS) (H : Heap) (locs : List Loc) (ls : Array Slot), kx5 x6 = some z → xmm D (xW T a) A s H locs x6 → lv_has ls 6 [(4, .int (oI v3))] → W p l e { frames := 3, cells := 0, slots := 0, locals := 68 } s m args below meth c H locs 0 0 (xQI below args s D (xW T a) .int z A) (F0 m 80 ls []) := by
      intro x6 H locs ls h M hl
      rw [ekx5] at h
      dsimp only at h
      refine lv_iload hx hb dX3_trace_80 (lv_at hl 0 rfl) ?_
      exact xretI C hr M h rfl dX3_trace_82
    refine x_loop2_ind (P := fun v7 v8 x9 => ∀ (H : Heap) (locs : List Loc) (ls : Array Slot), xmm D (xW T a) A s H locs x9 → lv_has ls 6 [(0, .ref (a 5)), (2, .ref (a 7)), (3, .int (oI v7)), (4, .int (oI v3)), (5, .int (oI v8))] → W p l e { frames := 3, cells := 0, slots := 0, locals := 68 } s m args below meth c H locs 0 0 (xQI below args s D (xW T a) .int z A) (F0 m 27 ls [])) (fun g10 ig10 v7 v8 x9 h => ?_) x_fuel r1 v4 x2 h H locs ls M (lv_sub hl [3, 5, 2, 1, 0] rfl)
    intro H locs ls M hl
    unfold b_X3_trace_27 at h
    refine lv_iload hx hb dX3_trace_27 (lv_at hl 4 rfl) ?_
    refine z_if_lt (tgt := 80) hx hb dX3_trace_29 (by decide) h (fun h => ?_) (fun h => ?_)
    · exact hkx5 x9 H locs ls h M (lv_sub hl [3] rfl)
    · refine lv_iload_n hx hb dX3_trace_32 rfl (lv_at hl 2 rfl) ?_
      refine lv_iconst (v := oI (-1)) hx hb dX3_trace_33 (by decide) ?_
      refine z_icmp_eq (tgt := 80) hx hb dX3_trace_34 (by decide) h (fun h => ?_) (fun h => ?_)
      · exact hkx5 x9 H locs ls h M (lv_sub hl [3] rfl)
      · refine lv_aload_n hx hb dX3_trace_37 rfl (lv_at hl 1 rfl) ?_
        refine lv_iconst (v := oI 2) hx hb dX3_trace_38 (by decide) ?_
        refine lv_iload hx hb dX3_trace_39 (lv_at hl 4 rfl) ?_
        refine z_imul hx hb dX3_trace_41 ?_
        refine lv_aload_n hx hb dX3_trace_42 rfl (lv_at hl 0 rfl) ?_
        refine gf_X3_38 C M dX3_trace_43 ?_
        refine gf_X3_54 C M dX3_trace_46 ?_
        refine lv_iload_n hx hb dX3_trace_49 rfl (lv_at hl 2 rfl) ?_
        refine al_x_27 C M dX3_trace_50 h (fun v11 h => ?_)
        refine as_x_7 C M dX3_trace_51 h (fun H locs x12 M h => ?_)
        refine lv_aload_n hx hb dX3_trace_52 rfl (lv_at hl 1 rfl) ?_
        refine lv_iconst (v := oI 2) hx hb dX3_trace_53 (by decide) ?_
        refine lv_iload hx hb dX3_trace_54 (lv_at hl 4 rfl) ?_
        refine z_imul hx hb dX3_trace_56 ?_
        refine lv_iconst (v := oI 1) hx hb dX3_trace_57 (by decide) ?_
        refine z_iadd hx hb dX3_trace_58 ?_
        refine lv_aload_n hx hb dX3_trace_59 rfl (lv_at hl 0 rfl) ?_
        refine gf_X3_38 C M dX3_trace_60 ?_
        refine lv_iload_n hx hb dX3_trace_63 rfl (lv_at hl 2 rfl) ?_
        refine ci_X3_119 C M h ⟨Nat.le_of_ble_eq_true rfl, Nat.le_of_ble_eq_true rfl⟩ hl.1 (Nat.le_of_ble_eq_true rfl) dX3_trace_64 (fun r13 H locs x14 M nr13 h => ?_)
        refine as_x_7 C M dX3_trace_67 h (fun H locs x15 M h => ?_)
        refine lv_aload_n hx hb dX3_trace_68 rfl (lv_at hl 0 rfl) ?_
        refine lv_iload_n hx hb dX3_trace_69 rfl (lv_at hl 2 rfl) ?_
        refine ci_X3_122 C M h ⟨Nat.le_of_ble_eq_true rfl, Nat.le_of_ble_eq_true rfl⟩ hl.1 (Nat.le_of_ble_eq_true rfl) dX3_trace_70 (fun r16 H locs x17 M nr16 h => ?_)
        refine lv_istore_n (lv' := [(3, .int (oI r16)), (0, .ref (a 5)), (2, .ref (a 7)), (4, .int (oI v3)), (5, .int (oI v8))]) hx hb dX3_trace_73 rfl hl (by decide) rfl (fun ls hl => ?_)
        refine x_nm h (fun v18 ev18 h => ?_)
        refine lv_iinc (v := oI v18) (lv' := [(5, .int (oI v18)), (3, .int (oI r16)), (0, .ref (a 5)), (2, .ref (a 7)), (4, .int (oI v3))]) hx hb dX3_trace_74 hl (k := 4) rfl (by rw [ev18]; exact oI_add _ _) (by decide) rfl (fun ls hl => ?_)
        refine lv_goto (tgt := 27) hx hb dX3_trace_77 (by decide) ?_
        exact ig10 r16 v18 x17 h H locs ls M (lv_sub hl [2, 3, 1, 4, 0] rfl)
  · refine lv_iconst (v := oI (-1)) hx hb dX3_trace_11 (by decide) ?_
    exact xretI C hr M h rfl dX3_trace_12
set_option maxHeartbeats 4000000 in
set_option maxRecDepth 100000 in
theorem c_X3_trace_8 {l : Launch} {D : va_G} {T : ClassId × ClassId} {a : Nat → Nat} {x : XS} {p1 : Int} {z : Int × XS} (h : f_X3_trace 1 x p1 = some z) (sz : Nat) : xMetI l yX3_trace cX3_trace 6 .int { frames := 3, cells := 0, slots := 0, locals := 68 } D T (xW T a) sz [.ref (a 5), .int (oI p1), .ref (a 8)] x z := by
  refine xMetI_of (by decide) (Nat.le_of_ble_eq_true rfl) (xW_ad T a) ?_
  intro p e s m args below meth c A ls C hr M hl
  have hx := C.1
  have hb := C.2.1
  have hl : lv_has ls 6 [(0, .ref (a 5)), (1, .int (oI p1)), (2, .ref (a 8))] := hl
  have C : xcx RX3 cX3_trace 6 D T (xW T a) A p s m args meth c := C
  revert hl M
  generalize ([] : List Loc) = locs
  generalize s.heap = H
  intro M hl
  unfold f_X3_trace at h
  refine lv_aload_n hx hb dX3_trace_0 rfl (lv_at hl 0 rfl) ?_
  refine lv_iload_n hx hb dX3_trace_1 rfl (lv_at hl 1 rfl) ?_
  refine ci_X3_116 C M h ⟨Nat.le_of_ble_eq_true rfl, Nat.le_of_ble_eq_true rfl⟩ hl.1 (Nat.le_of_ble_eq_true rfl) dX3_trace_2 (fun r1 H locs x2 M nr1 h => ?_)
  refine lv_istore_n (lv' := [(3, .int (oI r1)), (0, .ref (a 5)), (1, .int (oI p1)), (2, .ref (a 8))]) hx hb dX3_trace_5 rfl hl (by decide) rfl (fun ls hl => ?_)
  refine lv_iload_n hx hb dX3_trace_6 rfl (lv_at hl 0 rfl) ?_
  refine lv_iconst (v := oI (-1)) hx hb dX3_trace_7 (by decide) ?_
  refine z_icmp_ne (tgt := 13) hx hb dX3_trace_8 (by decide) h (fun h => ?_) (fun h => ?_)
  · refine lv_aload_n hx hb dX3_trace_13 rfl (lv_at hl 1 rfl) ?_
    refine gf_X3_9 C M dX3_trace_14 ?_
    refine lv_iload_n hx hb dX3_trace_17 rfl (lv_at hl 0 rfl) ?_
    refine al_x_35 C M dX3_trace_18 h (fun v3 h => ?_)
    refine lv_istore (lv' := [(4, .int (oI v3)), (3, .int (oI r1)), (0, .ref (a 5)), (1, .int (oI p1)), (2, .ref (a 8))]) hx hb dX3_trace_19 hl (by decide) rfl (fun ls hl => ?_)
    refine lv_iload hx hb dX3_trace_21 (lv_at hl 0 rfl) ?_
    refine lv_iconst (v := oI 1) hx hb dX3_trace_23 (by decide) ?_
    refine z_isub hx hb dX3_trace_24 ?_
    refine x_top h (fun v4 h => ?_)
    refine lv_istore (lv' := [(5, .int (oI v4)), (4, .int (oI v3)), (3, .int (oI r1)), (0, .ref (a 5)), (1, .int (oI p1)), (2, .ref (a 8))]) hx hb dX3_trace_25 hl (by decide) rfl (fun ls hl => ?_)
    refine x_jp_el h (fun kx5 ekx5 h => ?_)
    have hkx5 : ∀ (x6 : XS) (H : Heap) (locs : List Loc) (ls : Array Slot), kx5 x6 = some z → xmm D (xW T a) A s H locs x6 → lv_has ls 6 [(4, .int (oI v3))] → W p l e { frames := 3, cells := 0, slots := 0, locals := 68 } s m args below meth c H locs 0 0 (xQI below args s D (xW T a) .int z A) (F0 m 80 ls []) := by
      intro x6 H locs ls h M hl
      rw [ekx5] at h
      dsimp only at h
      refine lv_iload hx hb dX3_trace_80 (lv_at hl 0 rfl) ?_
      exact xretI C hr M h rfl dX3_trace_82
    refine x_loop2_ind (P := fun v7 v8 x9 => ∀ (H : Heap) (locs : List Loc) (ls : Array Slot), xmm D (xW T a) A s H locs x9 → lv_has ls 6 [(0, .ref (a 5)), (2, .ref (a 8)), (3, .int (oI v7)), (4, .int (oI v3)), (5, .int (oI v8))] → W p l e { frames := 3, cells := 0, slots := 0, locals := 68 } s m args below meth c H locs 0 0 (xQI below args s D (xW T a) .int z A) (F0 m 27 ls [])) (fun g10 ig10 v7 v8 x9 h => ?_) x_fuel r1 v4 x2 h H locs ls M (lv_sub hl [3, 5, 2, 1, 0] rfl)
    intro H locs ls M hl
    unfold b_X3_trace_27 at h
    refine lv_iload hx hb dX3_trace_27 (lv_at hl 4 rfl) ?_
    refine z_if_lt (tgt := 80) hx hb dX3_trace_29 (by decide) h (fun h => ?_) (fun h => ?_)
    · exact hkx5 x9 H locs ls h M (lv_sub hl [3] rfl)
    · refine lv_iload_n hx hb dX3_trace_32 rfl (lv_at hl 2 rfl) ?_
      refine lv_iconst (v := oI (-1)) hx hb dX3_trace_33 (by decide) ?_
      refine z_icmp_eq (tgt := 80) hx hb dX3_trace_34 (by decide) h (fun h => ?_) (fun h => ?_)
      · exact hkx5 x9 H locs ls h M (lv_sub hl [3] rfl)
      · refine lv_aload_n hx hb dX3_trace_37 rfl (lv_at hl 1 rfl) ?_
        refine lv_iconst (v := oI 2) hx hb dX3_trace_38 (by decide) ?_
        refine lv_iload hx hb dX3_trace_39 (lv_at hl 4 rfl) ?_
        refine z_imul hx hb dX3_trace_41 ?_
        refine lv_aload_n hx hb dX3_trace_42 rfl (lv_at hl 0 rfl) ?_
        refine gf_X3_38 C M dX3_trace_43 ?_
        refine gf_X3_54 C M dX3_trace_46 ?_
        refine lv_iload_n hx hb dX3_trace_49 rfl (lv_at hl 2 rfl) ?_
        refine al_x_27 C M dX3_trace_50 h (fun v11 h => ?_)
        refine as_x_8 C M dX3_trace_51 h (fun H locs x12 M h => ?_)
        refine lv_aload_n hx hb dX3_trace_52 rfl (lv_at hl 1 rfl) ?_
        refine lv_iconst (v := oI 2) hx hb dX3_trace_53 (by decide) ?_
        refine lv_iload hx hb dX3_trace_54 (lv_at hl 4 rfl) ?_
        refine z_imul hx hb dX3_trace_56 ?_
        refine lv_iconst (v := oI 1) hx hb dX3_trace_57 (by decide) ?_
        refine z_iadd hx hb dX3_trace_58 ?_
        refine lv_aload_n hx hb dX3_trace_59 rfl (lv_at hl 0 rfl) ?_
        refine gf_X3_38 C M dX3_trace_60 ?_
        refine lv_iload_n hx hb dX3_trace_63 rfl (lv_at hl 2 rfl) ?_
        refine ci_X3_119 C M h ⟨Nat.le_of_ble_eq_true rfl, Nat.le_of_ble_eq_true rfl⟩ hl.1 (Nat.le_of_ble_eq_true rfl) dX3_trace_64 (fun r13 H locs x14 M nr13 h => ?_)
        refine as_x_8 C M dX3_trace_67 h (fun H locs x15 M h => ?_)
        refine lv_aload_n hx hb dX3_trace_68 rfl (lv_at hl 0 rfl) ?_
        refine lv_iload_n hx hb dX3_trace_69 rfl (lv_at hl 2 rfl) ?_
        refine ci_X3_122 C M h ⟨Nat.le_of_ble_eq_true rfl, Nat.le_of_ble_eq_true rfl⟩ hl.1 (Nat.le_of_ble_eq_true rfl) dX3_trace_70 (fun r16 H locs x17 M nr16 h => ?_)
        refine lv_istore_n (lv' := [(3, .int (oI r16)), (0, .ref (a 5)), (2, .ref (a 8)), (4, .int (oI v3)), (5, .int (oI v8))]) hx hb dX3_trace_73 rfl hl (by decide) rfl (fun ls hl => ?_)
        refine x_nm h (fun v18 ev18 h => ?_)
        refine lv_iinc (v := oI v18) (lv' := [(5, .int (oI v18)), (3, .int (oI r16)), (0, .ref (a 5)), (2, .ref (a 8)), (4, .int (oI v3))]) hx hb dX3_trace_74 hl (k := 4) rfl (by rw [ev18]; exact oI_add _ _) (by decide) rfl (fun ls hl => ?_)
        refine lv_goto (tgt := 27) hx hb dX3_trace_77 (by decide) ?_
        exact ig10 r16 v18 x17 h H locs ls M (lv_sub hl [2, 3, 1, 4, 0] rfl)
  · refine lv_iconst (v := oI (-1)) hx hb dX3_trace_11 (by decide) ?_
    exact xretI C hr M h rfl dX3_trace_12
theorem ci_X6_188_7 {cc : ByteArray} {nL : Nat} {D : va_G} {T : ClassId × ClassId} {a : Nat → Nat} {A : Nat → Prop} {p : Program} {l : Launch} {e : Env} {R : Room} {s : State} {m : MethodId} {args : Array Value} {below : List Frame} {meth : Method} {c : Code} {H : Heap} {locs : List Loc} {Q : State → Prop} {x : XS} {z : Int × XS} {pc : Nat} {ls : Array Slot} {rest : List Value} (C : xcx RX6 cc nL D T (xW T a) A p s m args meth c) (M : xmm D (xW T a) A s H locs x) {p1 : Int} {K : Int → XS → XR} (h : x_call (f_X3_trace 0 x p1) K = some z) (hR : 3 + 1 ≤ R.frames ∧ 8 + (6 + 11) + 68 ≤ R.locals) (hsz : ls.size = nL) (hrest : (rest.map fun v => v.category).sum ≤ 8) (hdg : decode cc pc = .ok (.invokevirtual 188, 3)) (kk : ∀ (r : Int) (H1 : Heap) (locs1 : List Loc) (x1 : XS), xmm D (xW T a) A s H1 locs1 x1 → narrow .int (.int (oI r)) = .int (oI r) → K r x1 = some z → W p l e R s m args below meth c H1 locs1 0 0 Q (F0 m (pc + 3) ls (.int (oI r) :: rest))) : W p l e R s m args below meth c H locs 0 0 Q (F0 m pc ls (.ref (a 7) :: .int (oI p1) :: .ref (a 5) :: rest)) :=
  xcallI_N (As := [.int (oI p1), .ref (a 7)]) (n := 2) C M (fun zc sz ho => c_X3_trace_7 ho sz) bw_632 bw_629 bw_631 bw_50 bw_90 rfl (by decide +kernel) 5 rfl rfl ⟨rfl, rfl⟩ hR hsz rfl hrest hdg h kk
set_option maxHeartbeats 4000000 in
set_option maxRecDepth 100000 in
theorem c_X6_way {l : Launch} {D : va_G} {T : ClassId × ClassId} {a : Nat → Nat} {x : XS} {p1 : Int} {p2 : Int} {p3 : Int} {p4 : Int} {z : Int × XS} (h : f_X6_way x p1 p2 p3 p4 = some z) (sz : Nat) : xMetI l yX6_way cX6_way 7 .int { frames := 6, cells := 0, slots := 0, locals := 142 } D T (xW T a) sz [.ref (a 0), .int (oI p1), .int (oI p2), .int (oI p3), .int (oI p4)] x z := by
  refine xMetI_of (by decide) (Nat.le_of_ble_eq_true rfl) (xW_ad T a) ?_
  intro p e s m args below meth c A ls C hr M hl
  have hx := C.1
  have hb := C.2.1
  have hl : lv_has ls 7 [(0, .ref (a 0)), (1, .int (oI p1)), (2, .int (oI p2)), (3, .int (oI p3)), (4, .int (oI p4))] := hl
  have C : xcx RX6 cX6_way 7 D T (xW T a) A p s m args meth c := C
  revert hl M
  generalize ([] : List Loc) = locs
  generalize s.heap = H
  intro M hl
  unfold f_X6_way at h
  refine lv_aload_n hx hb dX6_way_0 rfl (lv_at hl 0 rfl) ?_
  refine lv_iload_n hx hb dX6_way_1 rfl (lv_at hl 1 rfl) ?_
  refine lv_iload_n hx hb dX6_way_2 rfl (lv_at hl 2 rfl) ?_
  refine lv_iload_n hx hb dX6_way_3 rfl (lv_at hl 3 rfl) ?_
  refine lv_iload_n hx hb dX6_way_4 rfl (lv_at hl 3 rfl) ?_
  refine lv_iload hx hb dX6_way_5 (lv_at hl 4 rfl) ?_
  refine ci_X6_165 C M h ⟨Nat.le_of_ble_eq_true rfl, Nat.le_of_ble_eq_true rfl⟩ hl.1 (Nat.le_of_ble_eq_true rfl) dX6_way_7 (fun r1 H locs x2 M nr1 h => ?_)
  refine lv_istore (lv' := [(5, .int (oI r1)), (0, .ref (a 0)), (1, .int (oI p1)), (2, .int (oI p2)), (3, .int (oI p3)), (4, .int (oI p4))]) hx hb dX6_way_10 hl (by decide) rfl (fun ls hl => ?_)
  refine lv_iload hx hb dX6_way_12 (lv_at hl 0 rfl) ?_
  refine z_if_eq (tgt := 24) hx hb dX6_way_14 (by decide) h (fun h => ?_) (fun h => ?_)
  · refine lv_aload_n hx hb dX6_way_24 rfl (lv_at hl 1 rfl) ?_
    refine lv_iload_n hx hb dX6_way_25 rfl (lv_at hl 2 rfl) ?_
    refine lv_iload_n hx hb dX6_way_26 rfl (lv_at hl 4 rfl) ?_
    refine lv_iload hx hb dX6_way_27 (lv_at hl 5 rfl) ?_
    refine lv_iconst (v := oI 1) hx hb dX6_way_29 (by decide) ?_
    refine ci_X6_169 C M h nb_1 ⟨Nat.le_of_ble_eq_true rfl, Nat.le_of_ble_eq_true rfl⟩ hl.1 (Nat.le_of_ble_eq_true rfl) dX6_way_30 (fun H locs x4 M h => ?_)
    refine lv_aload_n hx hb dX6_way_33 rfl (lv_at hl 1 rfl) ?_
    refine gf_X6_44 C M dX6_way_34 ?_
    refine lv_iload_n hx hb dX6_way_37 rfl (lv_at hl 3 rfl) ?_
    refine lv_aload_n hx hb dX6_way_38 rfl (lv_at hl 1 rfl) ?_
    refine gf_X6_48 C M dX6_way_39 ?_
    refine ci_X6_188_7 C M h ⟨Nat.le_of_ble_eq_true rfl, Nat.le_of_ble_eq_true rfl⟩ hl.1 (Nat.le_of_ble_eq_true rfl) dX6_way_42 (fun r5 H locs x6 M nr5 h => ?_)
    refine lv_istore (lv' := [(6, .int (oI r5)), (5, .int (oI r1)), (0, .ref (a 0)), (1, .int (oI p1)), (2, .int (oI p2)), (3, .int (oI p3)), (4, .int (oI p4))]) hx hb dX6_way_45 hl (by decide) rfl (fun ls hl => ?_)
    refine lv_iload hx hb dX6_way_47 (lv_at hl 0 rfl) ?_
    refine lv_iconst (v := oI (-1)) hx hb dX6_way_49 (by decide) ?_
    refine x_jp_el h (fun jp7 ejp7 h => ?_)
    have hjp7 : ∀ (x8 : XS) (H : Heap) (locs : List Loc) (ls : Array Slot), jp7 x8 = some z → xmm D (xW T a) A s H locs x8 → lv_has ls 7 [(0, .ref (a 0)), (6, .int (oI r5))] → W p l e { frames := 6, cells := 0, slots := 0, locals := 142 } s m args below meth c H locs 0 0 (xQI below args s D (xW T a) .int z A) (F0 m 61 ls []) := by
      intro x8 H locs ls h M hl
      rw [ejp7] at h
      dsimp only at h
      refine lv_aload_n hx hb dX6_way_61 rfl (lv_at hl 0 rfl) ?_
      refine lv_iload hx hb dX6_way_62 (lv_at hl 1 rfl) ?_
      refine ci_X6_176 C M h ⟨Nat.le_of_ble_eq_true rfl, Nat.le_of_ble_eq_true rfl⟩ hl.1 (Nat.le_of_ble_eq_true rfl) dX6_way_64 (fun r9 H locs x10 M nr9 h => ?_)
      exact xretI C hr M h rfl dX6_way_67
    refine z_icmp_eq (tgt := 61) hx hb dX6_way_50 (by decide) h (fun h => ?_) (fun h => ?_)
    · exact hjp7 x6 H locs ls h M (lv_sub hl [2, 0] rfl)
    · refine lv_aload_n hx hb dX6_way_53 rfl (lv_at hl 2 rfl) ?_
      refine lv_iconst (v := oI 2) hx hb dX6_way_54 (by decide) ?_
      refine lv_iload hx hb dX6_way_55 (lv_at hl 0 rfl) ?_
      refine z_imul hx hb dX6_way_57 ?_
      refine pf_X6_55 C M dX6_way_58 h (fun H locs x11 M h => ?_)
      exact hjp7 x11 H locs ls h M (lv_sub hl [2, 0] rfl)
  · refine lv_aload_n hx hb dX6_way_17 rfl (lv_at hl 1 rfl) ?_
    refine lv_iload hx hb dX6_way_18 (lv_at hl 0 rfl) ?_
    refine ci_X6_66 C M h ⟨Nat.le_of_ble_eq_true rfl, Nat.le_of_ble_eq_true rfl⟩ hl.1 (Nat.le_of_ble_eq_true rfl) dX6_way_20 (fun r12 H locs x13 M nr12 h => ?_)
    exact xretI C hr M h rfl dX6_way_23
set_option maxHeartbeats 4000000 in
set_option maxRecDepth 100000 in
theorem c_X6_out {l : Launch} {D : va_G} {T : ClassId × ClassId} {a : Nat → Nat} {x : XS} {p1 : Int} {z : Int × XS} (h : f_X6_out x p1 = some z) (sz : Nat) : xMetI l yX6_out cX6_out 2 .int { frames := 1, cells := 0, slots := 0, locals := 22 } D T (xW T a) sz [.ref (a 0), .int (oI p1)] x z := by
  refine xMetI_of (by decide) (Nat.le_of_ble_eq_true rfl) (xW_ad T a) ?_
  intro p e s m args below meth c A ls C hr M hl
  have hx := C.1
  have hb := C.2.1
  have hl : lv_has ls 2 [(0, .ref (a 0)), (1, .int (oI p1))] := hl
  have C : xcx RX6 cX6_out 2 D T (xW T a) A p s m args meth c := C
  revert hl M
  generalize ([] : List Loc) = locs
  generalize s.heap = H
  intro M hl
  unfold f_X6_out at h
  refine lv_iload_n hx hb dX6_out_0 rfl (lv_at hl 1 rfl) ?_
  refine lv_iconst (v := oI 0) hx hb dX6_out_1 (by decide) ?_
  refine lv_aload_n hx hb dX6_out_2 rfl (lv_at hl 0 rfl) ?_
  refine gf_X6_55 C M dX6_out_3 ?_
  refine lv_iconst (v := oI 1) hx hb dX6_out_6 (by decide) ?_
  refine z_isub hx hb dX6_out_7 ?_
  refine ci_X6_98 C M h ⟨Nat.le_of_ble_eq_true rfl, Nat.le_of_ble_eq_true rfl⟩ hl.1 (Nat.le_of_ble_eq_true rfl) dX6_out_8 (fun r1 H locs x2 M nr1 h => ?_)
  refine z_if_eq (tgt := 23) hx hb dX6_out_11 (by decide) h (fun h => ?_) (fun h => ?_)
  · refine lv_iconst (v := oI (-1)) hx hb dX6_out_23 (by decide) ?_
    exact xretI C hr M h rfl dX6_out_24
  · refine lv_aload_n hx hb dX6_out_14 rfl (lv_at hl 0 rfl) ?_
    refine gf_X6_48 C M dX6_out_15 ?_
    refine lv_iload_n hx hb dX6_out_18 rfl (lv_at hl 1 rfl) ?_
    refine al_x_7 C M dX6_out_19 h (fun v3 h => ?_)
    refine lv_goto (tgt := 24) hx hb dX6_out_20 (by decide) ?_
    exact xretI C hr M h rfl dX6_out_24
set_option maxHeartbeats 4000000 in
set_option maxRecDepth 100000 in
theorem c_X3_pairComing {l : Launch} {D : va_G} {T : ClassId × ClassId} {a : Nat → Nat} {x : XS} {p1 : Int} {z : Int × XS} (h : f_X3_pairComing x p1 = some z) (sz : Nat) : xMetI l yX3_pairComing cX3_pairComing 2 .int { frames := 0, cells := 0, slots := 0, locals := 0 } D T (xW T a) sz [.ref (a 5), .int (oI p1)] x z := by
  refine xMetI_of (by decide) (Nat.le_of_ble_eq_true rfl) (xW_ad T a) ?_
  intro p e s m args below meth c A ls C hr M hl
  have hx := C.1
  have hb := C.2.1
  have hl : lv_has ls 2 [(0, .ref (a 5)), (1, .int (oI p1))] := hl
  have C : xcx RX3 cX3_pairComing 2 D T (xW T a) A p s m args meth c := C
  revert hl M
  generalize ([] : List Loc) = locs
  generalize s.heap = H
  intro M hl
  unfold f_X3_pairComing at h
  refine lv_aload_n hx hb dX3_pairComing_0 rfl (lv_at hl 0 rfl) ?_
  refine gf_X3_38 C M dX3_pairComing_1 ?_
  refine gf_X3_89 C M dX3_pairComing_4 ?_
  refine lv_aload_n hx hb dX3_pairComing_7 rfl (lv_at hl 0 rfl) ?_
  refine gf_X3_27 C M dX3_pairComing_8 ?_
  refine lv_iload_n hx hb dX3_pairComing_11 rfl (lv_at hl 1 rfl) ?_
  refine al_x_40 C M dX3_pairComing_12 h (fun v1 h => ?_)
  refine al_x_29 C M dX3_pairComing_13 h (fun v2 h => ?_)
  exact xretI C hr M h rfl dX3_pairComing_14
theorem ci_X3_113 {cc : ByteArray} {nL : Nat} {D : va_G} {T : ClassId × ClassId} {a : Nat → Nat} {A : Nat → Prop} {p : Program} {l : Launch} {e : Env} {R : Room} {s : State} {m : MethodId} {args : Array Value} {below : List Frame} {meth : Method} {c : Code} {H : Heap} {locs : List Loc} {Q : State → Prop} {x : XS} {z : Int × XS} {pc : Nat} {ls : Array Slot} {rest : List Value} (C : xcx RX3 cc nL D T (xW T a) A p s m args meth c) (M : xmm D (xW T a) A s H locs x) {p1 : Int} {K : Int → XS → XR} (h : x_call (f_X3_pairComing x p1) K = some z) (hR : 0 + 1 ≤ R.frames ∧ 8 + (2 + 11) + 0 ≤ R.locals) (hsz : ls.size = nL) (hrest : (rest.map fun v => v.category).sum ≤ 8) (hdg : decode cc pc = .ok (.invokevirtual 113, 3)) (kk : ∀ (r : Int) (H1 : Heap) (locs1 : List Loc) (x1 : XS), xmm D (xW T a) A s H1 locs1 x1 → narrow .int (.int (oI r)) = .int (oI r) → K r x1 = some z → W p l e R s m args below meth c H1 locs1 0 0 Q (F0 m (pc + 3) ls (.int (oI r) :: rest))) : W p l e R s m args below meth c H locs 0 0 Q (F0 m pc ls (.int (oI p1) :: .ref (a 5) :: rest)) :=
  xcallI_V (As := [.int (oI p1)]) (n := 1) C M (fun zc sz ho => c_X3_pairComing ho sz) bw_666 bw_663 bw_665 bw_56 bw_90 rfl (by decide +kernel) 5 rfl rfl ⟨rfl, rfl⟩ hR hsz rfl hrest hdg h kk
set_option maxHeartbeats 4000000 in
set_option maxRecDepth 100000 in
theorem c_X3_findBestPairs {l : Launch} {D : va_G} {T : ClassId × ClassId} {a : Nat → Nat} {x : XS} {p1 : Int} {z : Int × XS} (h : f_X3_findBestPairs x p1 = some z) (sz : Nat) : xMetI l yX3_findBestPairs cX3_findBestPairs 6 .int { frames := 1, cells := 0, slots := 0, locals := 21 } D T (xW T a) sz [.ref (a 5), .int (oI p1)] x z := by
  refine xMetI_of (by decide) (Nat.le_of_ble_eq_true rfl) (xW_ad T a) ?_
  intro p e s m args below meth c A ls C hr M hl
  have hx := C.1
  have hb := C.2.1
  have hl : lv_has ls 6 [(0, .ref (a 5)), (1, .int (oI p1))] := hl
  have C : xcx RX3 cX3_findBestPairs 6 D T (xW T a) A p s m args meth c := C
  revert hl M
  generalize ([] : List Loc) = locs
  generalize s.heap = H
  intro M hl
  unfold f_X3_findBestPairs at h
  refine lv_iconst (v := oI 0) hx hb dX3_findBestPairs_0 (by decide) ?_
  refine lv_istore_n (lv' := [(2, .int (oI 0)), (0, .ref (a 5)), (1, .int (oI p1))]) hx hb dX3_findBestPairs_1 rfl hl (by decide) rfl (fun ls hl => ?_)
  refine lv_iconst (v := oI (-1)) hx hb dX3_findBestPairs_2 (by decide) ?_
  refine lv_istore_n (lv' := [(3, .int (oI (-1))), (2, .int (oI 0)), (0, .ref (a 5)), (1, .int (oI p1))]) hx hb dX3_findBestPairs_3 rfl hl (by decide) rfl (fun ls hl => ?_)
  refine lv_aload_n hx hb dX3_findBestPairs_4 rfl (lv_at hl 2 rfl) ?_
  refine gf_X3_38 C M dX3_findBestPairs_5 ?_
  refine lv_iload_n hx hb dX3_findBestPairs_8 rfl (lv_at hl 3 rfl) ?_
  refine ci_X3_67 C M h ⟨Nat.le_of_ble_eq_true rfl, Nat.le_of_ble_eq_true rfl⟩ hl.1 (Nat.le_of_ble_eq_true rfl) dX3_findBestPairs_9 (fun r1 H locs x2 M nr1 h => ?_)
  refine lv_istore (lv' := [(4, .int (oI r1)), (3, .int (oI (-1))), (2, .int (oI 0)), (0, .ref (a 5)), (1, .int (oI p1))]) hx hb dX3_findBestPairs_12 hl (by decide) rfl (fun ls hl => ?_)
  refine x_jp_el h (fun kx3 ekx3 h => ?_)
  have hkx3 : ∀ (v4 : Int) (x5 : XS) (H : Heap) (locs : List Loc) (ls : Array Slot), kx3 v4 x5 = some z → xmm D (xW T a) A s H locs x5 → lv_has ls 6 [(2, .int (oI v4))] → W p l e { frames := 1, cells := 0, slots := 0, locals := 21 } s m args below meth c H locs 0 0 (xQI below args s D (xW T a) .int z A) (F0 m 103 ls []) := by
    intro v4 x5 H locs ls h M hl
    rw [ekx3] at h
    dsimp only at h
    refine lv_iload_n hx hb dX3_findBestPairs_103 rfl (lv_at hl 0 rfl) ?_
    exact xretI C hr M h rfl dX3_findBestPairs_104
  refine x_loop3_ind (P := fun v6 v7 v8 x9 => ∀ (H : Heap) (locs : List Loc) (ls : Array Slot), xmm D (xW T a) A s H locs x9 → lv_has ls 6 [(0, .ref (a 5)), (1, .int (oI p1)), (2, .int (oI v6)), (3, .int (oI v7)), (4, .int (oI v8))] → W p l e { frames := 1, cells := 0, slots := 0, locals := 21 } s m args below meth c H locs 0 0 (xQI below args s D (xW T a) .int z A) (F0 m 14 ls [])) (fun g10 ig10 v6 v7 v8 x9 h => ?_) x_fuel 0 (-1) r1 x2 h H locs ls M (lv_sub hl [3, 4, 2, 1, 0] rfl)
  intro H locs ls M hl
  unfold b_X3_findBestPairs_14 at h
  refine lv_iload hx hb dX3_findBestPairs_14 (lv_at hl 4 rfl) ?_
  refine lv_aload_n hx hb dX3_findBestPairs_16 rfl (lv_at hl 0 rfl) ?_
  refine gf_X3_38 C M dX3_findBestPairs_17 ?_
  refine gf_X3_86 C M dX3_findBestPairs_20 ?_
  refine lv_iload_n hx hb dX3_findBestPairs_23 rfl (lv_at hl 1 rfl) ?_
  refine al_x_34 C M dX3_findBestPairs_24 h (fun v11 h => ?_)
  refine z_icmp_ge (tgt := 103) hx hb dX3_findBestPairs_25 (by decide) h (fun h => ?_) (fun h => ?_)
  · exact hkx3 v6 x9 H locs ls h M (lv_sub hl [2] rfl)
  · refine lv_aload_n hx hb dX3_findBestPairs_28 rfl (lv_at hl 0 rfl) ?_
    refine gf_X3_38 C M dX3_findBestPairs_29 ?_
    refine gf_X3_92 C M dX3_findBestPairs_32 ?_
    refine lv_iload hx hb dX3_findBestPairs_35 (lv_at hl 4 rfl) ?_
    refine al_x_32 C M dX3_findBestPairs_37 h (fun v12 h => ?_)
    refine lv_istore (lv' := [(5, .int (oI v12)), (0, .ref (a 5)), (1, .int (oI p1)), (2, .int (oI v6)), (3, .int (oI v7)), (4, .int (oI v8))]) hx hb dX3_findBestPairs_38 hl (by decide) rfl (fun ls hl => ?_)
    refine lv_aload_n hx hb dX3_findBestPairs_40 rfl (lv_at hl 1 rfl) ?_
    refine gf_X3_9 C M dX3_findBestPairs_41 ?_
    refine lv_iload hx hb dX3_findBestPairs_44 (lv_at hl 0 rfl) ?_
    refine al_x_35 C M dX3_findBestPairs_46 h (fun v13 h => ?_)
    refine lv_iload_n hx hb dX3_findBestPairs_47 rfl (lv_at hl 4 rfl) ?_
    refine x_jp_el h (fun jp14 ejp14 h => ?_)
    have hjp14 : ∀ (v15 : Int) (v16 : Int) (x17 : XS) (H : Heap) (locs : List Loc) (ls : Array Slot), jp14 v15 v16 x17 = some z → xmm D (xW T a) A s H locs x17 → lv_has ls 6 [(0, .ref (a 5)), (1, .int (oI p1)), (2, .int (oI v15)), (3, .int (oI v16)), (4, .int (oI v8))] → W p l e { frames := 1, cells := 0, slots := 0, locals := 21 } s m args below meth c H locs 0 0 (xQI below args s D (xW T a) .int z A) (F0 m 97 ls []) := by
      intro v15 v16 x17 H locs ls h M hl
      rw [ejp14] at h
      dsimp only at h
      refine x_nm h (fun v18 ev18 h => ?_)
      refine lv_iinc (v := oI v18) (lv' := [(4, .int (oI v18)), (0, .ref (a 5)), (1, .int (oI p1)), (2, .int (oI v15)), (3, .int (oI v16))]) hx hb dX3_findBestPairs_97 hl (k := 4) rfl (by rw [ev18]; exact oI_add _ _) (by decide) rfl (fun ls hl => ?_)
      refine lv_goto (tgt := 14) hx hb dX3_findBestPairs_100 (by decide) ?_
      exact ig10 v15 v16 v18 x17 h H locs ls M (lv_sub hl [1, 2, 3, 4, 0] rfl)
    refine z_icmp_le (tgt := 97) hx hb dX3_findBestPairs_48 (by decide) h (fun h => ?_) (fun h => ?_)
    · exact hjp14 v6 v7 x9 H locs ls h M (lv_sub hl [1, 2, 3, 4, 5] rfl)
    · refine lv_aload_n hx hb dX3_findBestPairs_51 rfl (lv_at hl 1 rfl) ?_
      refine gf_X3_9 C M dX3_findBestPairs_52 ?_
      refine lv_iload hx hb dX3_findBestPairs_55 (lv_at hl 0 rfl) ?_
      refine al_x_35 C M dX3_findBestPairs_57 h (fun v19 h => ?_)
      refine lv_istore_n (lv' := [(3, .int (oI v19)), (5, .int (oI v12)), (0, .ref (a 5)), (1, .int (oI p1)), (2, .int (oI v6)), (4, .int (oI v8))]) hx hb dX3_findBestPairs_58 rfl hl (by decide) rfl (fun ls hl => ?_)
      refine lv_iload_n hx hb dX3_findBestPairs_59 rfl (lv_at hl 4 rfl) ?_
      refine x_jp_el h (fun jp20 ejp20 h => ?_)
      have hjp20 : ∀ (v21 : Int) (x22 : XS) (H : Heap) (locs : List Loc) (ls : Array Slot), jp20 v21 x22 = some z → xmm D (xW T a) A s H locs x22 → lv_has ls 6 [(0, .ref (a 5)), (1, .int (oI p1)), (2, .int (oI v21)), (3, .int (oI v19)), (4, .int (oI v8)), (5, .int (oI v12))] → W p l e { frames := 1, cells := 0, slots := 0, locals := 21 } s m args below meth c H locs 0 0 (xQI below args s D (xW T a) .int z A) (F0 m 86 ls []) := by
        intro v21 x22 H locs ls h M hl
        rw [ejp20] at h
        dsimp only at h
        refine lv_aload_n hx hb dX3_findBestPairs_86 rfl (lv_at hl 0 rfl) ?_
        refine gf_X3_27 C M dX3_findBestPairs_87 ?_
        refine lv_iload_n hx hb dX3_findBestPairs_90 rfl (lv_at hl 2 rfl) ?_
        refine lv_iload hx hb dX3_findBestPairs_91 (lv_at hl 5 rfl) ?_
        refine as_x_40 C M dX3_findBestPairs_93 h (fun H locs x23 M h => ?_)
        refine x_nm h (fun v24 ev24 h => ?_)
        refine lv_iinc (v := oI v24) (lv' := [(2, .int (oI v24)), (0, .ref (a 5)), (1, .int (oI p1)), (3, .int (oI v19)), (4, .int (oI v8)), (5, .int (oI v12))]) hx hb dX3_findBestPairs_94 hl (k := 2) rfl (by rw [ev24]; exact oI_add _ _) (by decide) rfl (fun ls hl => ?_)
        exact hjp14 v24 v19 x23 H locs ls h M (lv_sub hl [1, 2, 0, 3, 4] rfl)
      refine z_if_le (tgt := 86) hx hb dX3_findBestPairs_60 (by decide) h (fun h => ?_) (fun h => ?_)
      · exact hjp20 v6 x9 H locs ls h M (lv_sub hl [2, 3, 4, 0, 5, 1] rfl)
      · refine lv_aload_n hx hb dX3_findBestPairs_63 rfl (lv_at hl 2 rfl) ?_
        refine lv_iload_n hx hb dX3_findBestPairs_64 rfl (lv_at hl 4 rfl) ?_
        refine lv_iconst (v := oI 1) hx hb dX3_findBestPairs_65 (by decide) ?_
        refine z_isub hx hb dX3_findBestPairs_66 ?_
        refine ci_X3_113 C M h ⟨Nat.le_of_ble_eq_true rfl, Nat.le_of_ble_eq_true rfl⟩ hl.1 (Nat.le_of_ble_eq_true rfl) dX3_findBestPairs_67 (fun r25 H locs x26 M nr25 h => ?_)
        refine lv_aload_n hx hb dX3_findBestPairs_70 rfl (lv_at hl 2 rfl) ?_
        refine gf_X3_38 C M dX3_findBestPairs_71 ?_
        refine gf_X3_89 C M dX3_findBestPairs_74 ?_
        refine lv_iload hx hb dX3_findBestPairs_77 (lv_at hl 1 rfl) ?_
        refine al_x_29 C M dX3_findBestPairs_79 h (fun v27 h => ?_)
        refine z_icmp_ne (tgt := 86) hx hb dX3_findBestPairs_80 (by decide) h (fun h => ?_) (fun h => ?_)
        · exact hjp20 v6 x26 H locs ls h M (lv_sub hl [2, 3, 4, 0, 5, 1] rfl)
        · refine x_nm h (fun v28 ev28 h => ?_)
          refine lv_iinc (v := oI v28) (lv' := [(2, .int (oI v28)), (3, .int (oI v19)), (5, .int (oI v12)), (0, .ref (a 5)), (1, .int (oI p1)), (4, .int (oI v8))]) hx hb dX3_findBestPairs_83 hl (k := 4) rfl (by rw [ev28]; exact oI_add _ _) (by decide) rfl (fun ls hl => ?_)
          exact hjp20 v28 x26 H locs ls h M (lv_sub hl [3, 4, 0, 1, 5, 2] rfl)
theorem ci_X6_192 {cc : ByteArray} {nL : Nat} {D : va_G} {T : ClassId × ClassId} {a : Nat → Nat} {A : Nat → Prop} {p : Program} {l : Launch} {e : Env} {R : Room} {s : State} {m : MethodId} {args : Array Value} {below : List Frame} {meth : Method} {c : Code} {H : Heap} {locs : List Loc} {Q : State → Prop} {x : XS} {z : Int × XS} {pc : Nat} {ls : Array Slot} {rest : List Value} (C : xcx RX6 cc nL D T (xW T a) A p s m args meth c) (M : xmm D (xW T a) A s H locs x) {p1 : Int} {K : Int → XS → XR} (h : x_call (f_X3_findBestPairs x p1) K = some z) (hR : 1 + 1 ≤ R.frames ∧ 8 + (6 + 11) + 21 ≤ R.locals) (hsz : ls.size = nL) (hrest : (rest.map fun v => v.category).sum ≤ 8) (hdg : decode cc pc = .ok (.invokevirtual 192, 3)) (kk : ∀ (r : Int) (H1 : Heap) (locs1 : List Loc) (x1 : XS), xmm D (xW T a) A s H1 locs1 x1 → narrow .int (.int (oI r)) = .int (oI r) → K r x1 = some z → W p l e R s m args below meth c H1 locs1 0 0 Q (F0 m (pc + 3) ls (.int (oI r) :: rest))) : W p l e R s m args below meth c H locs 0 0 Q (F0 m pc ls (.int (oI p1) :: .ref (a 5) :: rest)) :=
  xcallI_N (As := [.int (oI p1)]) (n := 1) C M (fun zc sz ho => c_X3_findBestPairs ho sz) bw_662 bw_659 bw_661 bw_55 bw_90 rfl (by decide +kernel) 5 rfl rfl ⟨rfl, rfl⟩ hR hsz rfl hrest hdg h kk
set_option maxHeartbeats 4000000 in
set_option maxRecDepth 100000 in
theorem c_X6_pairs {l : Launch} {D : va_G} {T : ClassId × ClassId} {a : Nat → Nat} {x : XS} {p1 : Int} {p2 : Int} {p3 : Int} {z : Int × XS} (h : f_X6_pairs x p1 p2 p3 = some z) (sz : Nat) : xMetI l yX6_pairs cX6_pairs 5 .int { frames := 6, cells := 0, slots := 0, locals := 142 } D T (xW T a) sz [.ref (a 0), .int (oI p1), .int (oI p2), .int (oI p3)] x z := by
  refine xMetI_of (by decide) (Nat.le_of_ble_eq_true rfl) (xW_ad T a) ?_
  intro p e s m args below meth c A ls C hr M hl
  have hx := C.1
  have hb := C.2.1
  have hl : lv_has ls 5 [(0, .ref (a 0)), (1, .int (oI p1)), (2, .int (oI p2)), (3, .int (oI p3))] := hl
  have C : xcx RX6 cX6_pairs 5 D T (xW T a) A p s m args meth c := C
  revert hl M
  generalize ([] : List Loc) = locs
  generalize s.heap = H
  intro M hl
  unfold f_X6_pairs at h
  refine lv_aload_n hx hb dX6_pairs_0 rfl (lv_at hl 0 rfl) ?_
  refine lv_iload_n hx hb dX6_pairs_1 rfl (lv_at hl 1 rfl) ?_
  refine lv_iload_n hx hb dX6_pairs_2 rfl (lv_at hl 2 rfl) ?_
  refine lv_iconst (v := oI 0) hx hb dX6_pairs_3 (by decide) ?_
  refine lv_iconst (v := oI 0) hx hb dX6_pairs_4 (by decide) ?_
  refine lv_iload_n hx hb dX6_pairs_5 rfl (lv_at hl 3 rfl) ?_
  refine ci_X6_165 C M h ⟨Nat.le_of_ble_eq_true rfl, Nat.le_of_ble_eq_true rfl⟩ hl.1 (Nat.le_of_ble_eq_true rfl) dX6_pairs_6 (fun r1 H locs x2 M nr1 h => ?_)
  refine lv_istore (lv' := [(4, .int (oI r1)), (0, .ref (a 0)), (1, .int (oI p1)), (2, .int (oI p2)), (3, .int (oI p3))]) hx hb dX6_pairs_9 hl (by decide) rfl (fun ls hl => ?_)
  refine lv_iload hx hb dX6_pairs_11 (lv_at hl 0 rfl) ?_
  refine z_if_eq (tgt := 23) hx hb dX6_pairs_13 (by decide) h (fun h => ?_) (fun h => ?_)
  · refine lv_aload_n hx hb dX6_pairs_23 rfl (lv_at hl 1 rfl) ?_
    refine lv_iload_n hx hb dX6_pairs_24 rfl (lv_at hl 2 rfl) ?_
    refine lv_iconst (v := oI 0) hx hb dX6_pairs_25 (by decide) ?_
    refine lv_iload_n hx hb dX6_pairs_26 rfl (lv_at hl 4 rfl) ?_
    refine lv_iconst (v := oI 0) hx hb dX6_pairs_27 (by decide) ?_
    refine ci_X6_169 C M h nb_0 ⟨Nat.le_of_ble_eq_true rfl, Nat.le_of_ble_eq_true rfl⟩ hl.1 (Nat.le_of_ble_eq_true rfl) dX6_pairs_28 (fun H locs x4 M h => ?_)
    refine lv_aload_n hx hb dX6_pairs_31 rfl (lv_at hl 1 rfl) ?_
    refine lv_aload_n hx hb dX6_pairs_32 rfl (lv_at hl 1 rfl) ?_
    refine gf_X6_44 C M dX6_pairs_33 ?_
    refine lv_iload_n hx hb dX6_pairs_36 rfl (lv_at hl 3 rfl) ?_
    refine ci_X6_192 C M h ⟨Nat.le_of_ble_eq_true rfl, Nat.le_of_ble_eq_true rfl⟩ hl.1 (Nat.le_of_ble_eq_true rfl) dX6_pairs_37 (fun r5 H locs x6 M nr5 h => ?_)
    refine ci_X6_77 C M h ⟨Nat.le_of_ble_eq_true rfl, Nat.le_of_ble_eq_true rfl⟩ hl.1 (Nat.le_of_ble_eq_true rfl) dX6_pairs_40 (fun r7 H locs x8 M nr7 h => ?_)
    exact xretI C hr M h rfl dX6_pairs_43
  · refine lv_aload_n hx hb dX6_pairs_16 rfl (lv_at hl 1 rfl) ?_
    refine lv_iload hx hb dX6_pairs_17 (lv_at hl 0 rfl) ?_
    refine ci_X6_66 C M h ⟨Nat.le_of_ble_eq_true rfl, Nat.le_of_ble_eq_true rfl⟩ hl.1 (Nat.le_of_ble_eq_true rfl) dX6_pairs_19 (fun r9 H locs x10 M nr9 h => ?_)
    exact xretI C hr M h rfl dX6_pairs_22
set_option maxHeartbeats 4000000 in
set_option maxRecDepth 100000 in
theorem c_X3_pairLeaving {l : Launch} {D : va_G} {T : ClassId × ClassId} {a : Nat → Nat} {x : XS} {p1 : Int} {z : Int × XS} (h : f_X3_pairLeaving x p1 = some z) (sz : Nat) : xMetI l yX3_pairLeaving cX3_pairLeaving 2 .int { frames := 0, cells := 0, slots := 0, locals := 0 } D T (xW T a) sz [.ref (a 5), .int (oI p1)] x z := by
  refine xMetI_of (by decide) (Nat.le_of_ble_eq_true rfl) (xW_ad T a) ?_
  intro p e s m args below meth c A ls C hr M hl
  have hx := C.1
  have hb := C.2.1
  have hl : lv_has ls 2 [(0, .ref (a 5)), (1, .int (oI p1))] := hl
  have C : xcx RX3 cX3_pairLeaving 2 D T (xW T a) A p s m args meth c := C
  revert hl M
  generalize ([] : List Loc) = locs
  generalize s.heap = H
  intro M hl
  unfold f_X3_pairLeaving at h
  refine lv_aload_n hx hb dX3_pairLeaving_0 rfl (lv_at hl 0 rfl) ?_
  refine gf_X3_9 C M dX3_pairLeaving_1 ?_
  refine lv_aload_n hx hb dX3_pairLeaving_4 rfl (lv_at hl 0 rfl) ?_
  refine gf_X3_27 C M dX3_pairLeaving_5 ?_
  refine lv_iload_n hx hb dX3_pairLeaving_8 rfl (lv_at hl 1 rfl) ?_
  refine al_x_40 C M dX3_pairLeaving_9 h (fun v1 h => ?_)
  refine al_x_35 C M dX3_pairLeaving_10 h (fun v2 h => ?_)
  exact xretI C hr M h rfl dX3_pairLeaving_11
theorem ci_X6_198 {cc : ByteArray} {nL : Nat} {D : va_G} {T : ClassId × ClassId} {a : Nat → Nat} {A : Nat → Prop} {p : Program} {l : Launch} {e : Env} {R : Room} {s : State} {m : MethodId} {args : Array Value} {below : List Frame} {meth : Method} {c : Code} {H : Heap} {locs : List Loc} {Q : State → Prop} {x : XS} {z : Int × XS} {pc : Nat} {ls : Array Slot} {rest : List Value} (C : xcx RX6 cc nL D T (xW T a) A p s m args meth c) (M : xmm D (xW T a) A s H locs x) {p1 : Int} {K : Int → XS → XR} (h : x_call (f_X3_pairLeaving x p1) K = some z) (hR : 0 + 1 ≤ R.frames ∧ 8 + (2 + 11) + 0 ≤ R.locals) (hsz : ls.size = nL) (hrest : (rest.map fun v => v.category).sum ≤ 8) (hdg : decode cc pc = .ok (.invokevirtual 198, 3)) (kk : ∀ (r : Int) (H1 : Heap) (locs1 : List Loc) (x1 : XS), xmm D (xW T a) A s H1 locs1 x1 → narrow .int (.int (oI r)) = .int (oI r) → K r x1 = some z → W p l e R s m args below meth c H1 locs1 0 0 Q (F0 m (pc + 3) ls (.int (oI r) :: rest))) : W p l e R s m args below meth c H locs 0 0 Q (F0 m pc ls (.int (oI p1) :: .ref (a 5) :: rest)) :=
  xcallI_N (As := [.int (oI p1)]) (n := 1) C M (fun zc sz ho => c_X3_pairLeaving ho sz) bw_675 bw_672 bw_674 bw_57 bw_90 rfl (by decide +kernel) 5 rfl rfl ⟨rfl, rfl⟩ hR hsz rfl hrest hdg h kk
theorem ci_X6_195 {cc : ByteArray} {nL : Nat} {D : va_G} {T : ClassId × ClassId} {a : Nat → Nat} {A : Nat → Prop} {p : Program} {l : Launch} {e : Env} {R : Room} {s : State} {m : MethodId} {args : Array Value} {below : List Frame} {meth : Method} {c : Code} {H : Heap} {locs : List Loc} {Q : State → Prop} {x : XS} {z : Int × XS} {pc : Nat} {ls : Array Slot} {rest : List Value} (C : xcx RX6 cc nL D T (xW T a) A p s m args meth c) (M : xmm D (xW T a) A s H locs x) {p1 : Int} {K : Int → XS → XR} (h : x_call (f_X3_pairComing x p1) K = some z) (hR : 0 + 1 ≤ R.frames ∧ 8 + (2 + 11) + 0 ≤ R.locals) (hsz : ls.size = nL) (hrest : (rest.map fun v => v.category).sum ≤ 8) (hdg : decode cc pc = .ok (.invokevirtual 195, 3)) (kk : ∀ (r : Int) (H1 : Heap) (locs1 : List Loc) (x1 : XS), xmm D (xW T a) A s H1 locs1 x1 → narrow .int (.int (oI r)) = .int (oI r) → K r x1 = some z → W p l e R s m args below meth c H1 locs1 0 0 Q (F0 m (pc + 3) ls (.int (oI r) :: rest))) : W p l e R s m args below meth c H locs 0 0 Q (F0 m pc ls (.int (oI p1) :: .ref (a 5) :: rest)) :=
  xcallI_N (As := [.int (oI p1)]) (n := 1) C M (fun zc sz ho => c_X3_pairComing ho sz) bw_666 bw_671 bw_665 bw_56 bw_90 rfl (by decide +kernel) 5 rfl rfl ⟨rfl, rfl⟩ hR hsz rfl hrest hdg h kk
set_option maxHeartbeats 4000000 in
set_option maxRecDepth 100000 in
theorem c_X6_pair {l : Launch} {D : va_G} {T : ClassId × ClassId} {a : Nat → Nat} {x : XS} {p1 : Int} {p2 : Int} {p3 : Int} {p4 : Int} {p5 : Int} (nb5 : narrow .boolean (.int (oI p5)) = .int (oI p5)) {z : Int × XS} (h : f_X6_pair x p1 p2 p3 p4 p5 = some z) (sz : Nat) : xMetI l yX6_pair cX6_pair 7 .int { frames := 6, cells := 0, slots := 0, locals := 142 } D T (xW T a) sz [.ref (a 0), .int (oI p1), .int (oI p2), .int (oI p3), .int (oI p4), .int (oI p5)] x z := by
  refine xMetI_of (by decide) (Nat.le_of_ble_eq_true rfl) (xW_ad T a) ?_
  intro p e s m args below meth c A ls C hr M hl
  have hx := C.1
  have hb := C.2.1
  have hl : lv_has ls 7 [(0, .ref (a 0)), (1, .int (oI p1)), (2, .int (oI p2)), (3, .int (oI p3)), (4, .int (oI p4)), (5, .int (oI p5))] := hl
  have C : xcx RX6 cX6_pair 7 D T (xW T a) A p s m args meth c := C
  revert hl M
  generalize ([] : List Loc) = locs
  generalize s.heap = H
  intro M hl
  unfold f_X6_pair at h
  refine lv_aload_n hx hb dX6_pair_0 rfl (lv_at hl 0 rfl) ?_
  refine lv_iload_n hx hb dX6_pair_1 rfl (lv_at hl 1 rfl) ?_
  refine lv_iload_n hx hb dX6_pair_2 rfl (lv_at hl 2 rfl) ?_
  refine lv_iconst (v := oI 0) hx hb dX6_pair_3 (by decide) ?_
  refine lv_iconst (v := oI 0) hx hb dX6_pair_4 (by decide) ?_
  refine lv_iload_n hx hb dX6_pair_5 rfl (lv_at hl 3 rfl) ?_
  refine ci_X6_165 C M h ⟨Nat.le_of_ble_eq_true rfl, Nat.le_of_ble_eq_true rfl⟩ hl.1 (Nat.le_of_ble_eq_true rfl) dX6_pair_6 (fun r1 H locs x2 M nr1 h => ?_)
  refine lv_istore (lv' := [(6, .int (oI r1)), (0, .ref (a 0)), (1, .int (oI p1)), (2, .int (oI p2)), (3, .int (oI p3)), (4, .int (oI p4)), (5, .int (oI p5))]) hx hb dX6_pair_9 hl (by decide) rfl (fun ls hl => ?_)
  refine lv_iload hx hb dX6_pair_11 (lv_at hl 0 rfl) ?_
  refine z_if_eq (tgt := 23) hx hb dX6_pair_13 (by decide) h (fun h => ?_) (fun h => ?_)
  · refine lv_aload_n hx hb dX6_pair_23 rfl (lv_at hl 1 rfl) ?_
    refine lv_iload_n hx hb dX6_pair_24 rfl (lv_at hl 2 rfl) ?_
    refine lv_iconst (v := oI 0) hx hb dX6_pair_25 (by decide) ?_
    refine lv_iload_n hx hb dX6_pair_26 rfl (lv_at hl 4 rfl) ?_
    refine lv_iconst (v := oI 0) hx hb dX6_pair_27 (by decide) ?_
    refine ci_X6_169 C M h nb_0 ⟨Nat.le_of_ble_eq_true rfl, Nat.le_of_ble_eq_true rfl⟩ hl.1 (Nat.le_of_ble_eq_true rfl) dX6_pair_28 (fun H locs x4 M h => ?_)
    refine lv_iload hx hb dX6_pair_31 (lv_at hl 5 rfl) ?_
    refine lv_iconst (v := oI 0) hx hb dX6_pair_33 (by decide) ?_
    refine lv_aload_n hx hb dX6_pair_34 rfl (lv_at hl 1 rfl) ?_
    refine gf_X6_44 C M dX6_pair_35 ?_
    refine lv_iload_n hx hb dX6_pair_38 rfl (lv_at hl 3 rfl) ?_
    refine ci_X6_192 C M h ⟨Nat.le_of_ble_eq_true rfl, Nat.le_of_ble_eq_true rfl⟩ hl.1 (Nat.le_of_ble_eq_true rfl) dX6_pair_39 (fun r5 H locs x6 M nr5 h => ?_)
    refine lv_iconst (v := oI 1) hx hb dX6_pair_42 (by decide) ?_
    refine z_isub hx hb dX6_pair_43 ?_
    refine ci_X6_98 C M h ⟨Nat.le_of_ble_eq_true rfl, Nat.le_of_ble_eq_true rfl⟩ hl.1 (Nat.le_of_ble_eq_true rfl) dX6_pair_44 (fun r7 H locs x8 M nr7 h => ?_)
    refine z_if_ne (tgt := 57) hx hb dX6_pair_47 (by decide) h (fun h => ?_) (fun h => ?_)
    · refine lv_aload_n hx hb dX6_pair_57 rfl (lv_at hl 1 rfl) ?_
      refine lv_iload hx hb dX6_pair_58 (lv_at hl 6 rfl) ?_
      refine x_jp_el h (fun jp9 ejp9 h => ?_)
      have hjp9 : ∀ (v10 : Int) (x11 : XS) (H : Heap) (locs : List Loc) (ls : Array Slot), jp9 v10 x11 = some z → xmm D (xW T a) A s H locs x11 → lv_has ls 7 [] → W p l e { frames := 6, cells := 0, slots := 0, locals := 142 } s m args below meth c H locs 0 0 (xQI below args s D (xW T a) .int z A) (F0 m 84 ls [.int (oI v10), .ref (a 0)]) := by
        intro v10 x11 H locs ls h M hl
        rw [ejp9] at h
        dsimp only at h
        refine ci_X6_77 C M h ⟨Nat.le_of_ble_eq_true rfl, Nat.le_of_ble_eq_true rfl⟩ hl.1 (Nat.le_of_ble_eq_true rfl) dX6_pair_84 (fun r12 H locs x13 M nr12 h => ?_)
        exact xretI C hr M h rfl dX6_pair_87
      refine z_if_eq (tgt := 75) hx hb dX6_pair_60 (by decide) h (fun h => ?_) (fun h => ?_)
      · refine lv_aload_n hx hb dX6_pair_75 rfl (lv_at hl 1 rfl) ?_
        refine gf_X6_44 C M dX6_pair_76 ?_
        refine lv_iload hx hb dX6_pair_79 (lv_at hl 5 rfl) ?_
        refine ci_X6_198 C M h ⟨Nat.le_of_ble_eq_true rfl, Nat.le_of_ble_eq_true rfl⟩ hl.1 (Nat.le_of_ble_eq_true rfl) dX6_pair_81 (fun r14 H locs x15 M nr14 h => ?_)
        exact hjp9 r14 x15 H locs ls h M (lv_sub hl [] rfl)
      · refine lv_aload_n hx hb dX6_pair_63 rfl (lv_at hl 1 rfl) ?_
        refine gf_X6_44 C M dX6_pair_64 ?_
        refine lv_iload hx hb dX6_pair_67 (lv_at hl 5 rfl) ?_
        refine ci_X6_195 C M h ⟨Nat.le_of_ble_eq_true rfl, Nat.le_of_ble_eq_true rfl⟩ hl.1 (Nat.le_of_ble_eq_true rfl) dX6_pair_69 (fun r16 H locs x17 M nr16 h => ?_)
        refine lv_goto (tgt := 84) hx hb dX6_pair_72 (by decide) ?_
        exact hjp9 r16 x17 H locs ls h M (lv_sub hl [] rfl)
    · refine lv_aload_n hx hb dX6_pair_50 rfl (lv_at hl 1 rfl) ?_
      refine lv_bipush (v := oI 7) hx hb dX6_pair_51 (by decide) ?_
      refine ci_X6_66 C M h ⟨Nat.le_of_ble_eq_true rfl, Nat.le_of_ble_eq_true rfl⟩ hl.1 (Nat.le_of_ble_eq_true rfl) dX6_pair_53 (fun r18 H locs x19 M nr18 h => ?_)
      exact xretI C hr M h rfl dX6_pair_56
  · refine lv_aload_n hx hb dX6_pair_16 rfl (lv_at hl 1 rfl) ?_
    refine lv_iload hx hb dX6_pair_17 (lv_at hl 0 rfl) ?_
    refine ci_X6_66 C M h ⟨Nat.le_of_ble_eq_true rfl, Nat.le_of_ble_eq_true rfl⟩ hl.1 (Nat.le_of_ble_eq_true rfl) dX6_pair_19 (fun r20 H locs x21 M nr20 h => ?_)
    exact xretI C hr M h rfl dX6_pair_22
set_option maxHeartbeats 4000000 in
set_option maxRecDepth 100000 in
theorem c_X3_isComing {l : Launch} {D : va_G} {T : ClassId × ClassId} {a : Nat → Nat} {x : XS} {p1 : Int} {p2 : Int} {z : Int × XS} (h : f_X3_isComing x p1 p2 = some z) (sz : Nat) : xMetI l yX3_isComing cX3_isComing 4 .boolean { frames := 2, cells := 0, slots := 0, locals := 43 } D T (xW T a) sz [.ref (a 5), .int (oI p1), .int (oI p2)] x z := by
  refine xMetI_of (by decide) (Nat.le_of_ble_eq_true rfl) (xW_ad T a) ?_
  intro p e s m args below meth c A ls C hr M hl
  have hx := C.1
  have hb := C.2.1
  have hl : lv_has ls 4 [(0, .ref (a 5)), (1, .int (oI p1)), (2, .int (oI p2))] := hl
  have C : xcx RX3 cX3_isComing 4 D T (xW T a) A p s m args meth c := C
  revert hl M
  generalize ([] : List Loc) = locs
  generalize s.heap = H
  intro M hl
  unfold f_X3_isComing at h
  refine lv_aload_n hx hb dX3_isComing_0 rfl (lv_at hl 0 rfl) ?_
  refine lv_iload_n hx hb dX3_isComing_1 rfl (lv_at hl 1 rfl) ?_
  refine ci_X3_102 C M h ⟨Nat.le_of_ble_eq_true rfl, Nat.le_of_ble_eq_true rfl⟩ hl.1 (Nat.le_of_ble_eq_true rfl) dX3_isComing_2 (fun r1 H locs x2 M nr1 h => ?_)
  refine lv_istore_n (lv' := [(3, .int (oI r1)), (0, .ref (a 5)), (1, .int (oI p1)), (2, .int (oI p2))]) hx hb dX3_isComing_5 rfl hl (by decide) rfl (fun ls hl => ?_)
  refine lv_iload_n hx hb dX3_isComing_6 rfl (lv_at hl 0 rfl) ?_
  refine lv_iconst (v := oI (-1)) hx hb dX3_isComing_7 (by decide) ?_
  refine z_icmp_eq (tgt := 20) hx hb dX3_isComing_8 (by decide) h (fun h => ?_) (fun h => ?_)
  · refine lv_iconst (v := oI 0) hx hb dX3_isComing_20 (by decide) ?_
    exact xretI C hr M h nb_0 dX3_isComing_21
  · refine lv_iload_n hx hb dX3_isComing_11 rfl (lv_at hl 0 rfl) ?_
    refine lv_iload_n hx hb dX3_isComing_12 rfl (lv_at hl 3 rfl) ?_
    refine z_icmp_gt (tgt := 20) hx hb dX3_isComing_13 (by decide) h (fun h => ?_) (fun h => ?_)
    · refine lv_iconst (v := oI 0) hx hb dX3_isComing_20 (by decide) ?_
      exact xretI C hr M h nb_0 dX3_isComing_21
    · refine lv_iconst (v := oI 1) hx hb dX3_isComing_16 (by decide) ?_
      refine lv_goto (tgt := 21) hx hb dX3_isComing_17 (by decide) ?_
      exact xretI C hr M h nb_1 dX3_isComing_21
theorem ci_X6_218 {cc : ByteArray} {nL : Nat} {D : va_G} {T : ClassId × ClassId} {a : Nat → Nat} {A : Nat → Prop} {p : Program} {l : Launch} {e : Env} {R : Room} {s : State} {m : MethodId} {args : Array Value} {below : List Frame} {meth : Method} {c : Code} {H : Heap} {locs : List Loc} {Q : State → Prop} {x : XS} {z : Int × XS} {pc : Nat} {ls : Array Slot} {rest : List Value} (C : xcx RX6 cc nL D T (xW T a) A p s m args meth c) (M : xmm D (xW T a) A s H locs x) {p1 p2 : Int} {K : Int → XS → XR} (h : x_call (f_X3_isComing x p1 p2) K = some z) (hR : 2 + 1 ≤ R.frames ∧ 8 + (4 + 11) + 43 ≤ R.locals) (hsz : ls.size = nL) (hrest : (rest.map fun v => v.category).sum ≤ 8) (hdg : decode cc pc = .ok (.invokevirtual 218, 3)) (kk : ∀ (r : Int) (H1 : Heap) (locs1 : List Loc) (x1 : XS), xmm D (xW T a) A s H1 locs1 x1 → narrow .boolean (.int (oI r)) = .int (oI r) → K r x1 = some z → W p l e R s m args below meth c H1 locs1 0 0 Q (F0 m (pc + 3) ls (.int (oI r) :: rest))) : W p l e R s m args below meth c H locs 0 0 Q (F0 m pc ls (.int (oI p2) :: .int (oI p1) :: .ref (a 5) :: rest)) :=
  xcallI_N (As := [.int (oI p1), .int (oI p2)]) (n := 2) C M (fun zc sz ho => c_X3_isComing ho sz) bw_687 bw_684 bw_686 bw_59 bw_90 rfl (by decide +kernel) 5 rfl rfl ⟨rfl, rfl⟩ hR hsz rfl hrest hdg h kk
set_option maxHeartbeats 4000000 in
set_option maxRecDepth 100000 in
theorem c_X6_isFound {l : Launch} {D : va_G} {T : ClassId × ClassId} {a : Nat → Nat} {x : XS} {p1 : Int} {p2 : Int} {p3 : Int} {z : Int × XS} (h : f_X6_isFound x p1 p2 p3 = some z) (sz : Nat) : xMetI l yX6_isFound cX6_isFound 4 .boolean { frames := 3, cells := 0, slots := 0, locals := 66 } D T (xW T a) sz [.ref (a 0), .int (oI p1), .int (oI p2), .int (oI p3)] x z := by
  refine xMetI_of (by decide) (Nat.le_of_ble_eq_true rfl) (xW_ad T a) ?_
  intro p e s m args below meth c A ls C hr M hl
  have hx := C.1
  have hb := C.2.1
  have hl : lv_has ls 4 [(0, .ref (a 0)), (1, .int (oI p1)), (2, .int (oI p2)), (3, .int (oI p3))] := hl
  have C : xcx RX6 cX6_isFound 4 D T (xW T a) A p s m args meth c := C
  revert hl M
  generalize ([] : List Loc) = locs
  generalize s.heap = H
  intro M hl
  unfold f_X6_isFound at h
  refine lv_iload_n hx hb dX6_isFound_0 rfl (lv_at hl 1 rfl) ?_
  refine lv_iload_n hx hb dX6_isFound_1 rfl (lv_at hl 2 rfl) ?_
  refine x_jp_el h (fun jp1 ejp1 h => ?_)
  have hjp1 : ∀ (x2 : XS) (H : Heap) (locs : List Loc) (ls : Array Slot), jp1 x2 = some z → xmm D (xW T a) A s H locs x2 → lv_has ls 4 [] → W p l e { frames := 3, cells := 0, slots := 0, locals := 66 } s m args below meth c H locs 0 0 (xQI below args s D (xW T a) .boolean z A) (F0 m 17 ls []) := by
    intro x2 H locs ls h M hl
    rw [ejp1] at h
    dsimp only at h
    refine lv_iconst (v := oI 1) hx hb dX6_isFound_17 (by decide) ?_
    refine lv_goto (tgt := 22) hx hb dX6_isFound_18 (by decide) ?_
    exact xretI C hr M h nb_1 dX6_isFound_22
  refine z_icmp_eq (tgt := 17) hx hb dX6_isFound_2 (by decide) h (fun h => ?_) (fun h => ?_)
  · exact hjp1 x H locs ls h M (lv_sub hl [] rfl)
  · refine lv_aload_n hx hb dX6_isFound_5 rfl (lv_at hl 0 rfl) ?_
    refine gf_X6_44 C M dX6_isFound_6 ?_
    refine lv_iload_n hx hb dX6_isFound_9 rfl (lv_at hl 2 rfl) ?_
    refine lv_iload_n hx hb dX6_isFound_10 rfl (lv_at hl 3 rfl) ?_
    refine ci_X6_218 C M h ⟨Nat.le_of_ble_eq_true rfl, Nat.le_of_ble_eq_true rfl⟩ hl.1 (Nat.le_of_ble_eq_true rfl) dX6_isFound_11 (fun r3 H locs x4 M nr3 h => ?_)
    refine z_if_eq (tgt := 21) hx hb dX6_isFound_14 (by decide) h (fun h => ?_) (fun h => ?_)
    · refine lv_iconst (v := oI 0) hx hb dX6_isFound_21 (by decide) ?_
      exact xretI C hr M h nb_0 dX6_isFound_22
    · exact hjp1 x4 H locs ls h M (lv_sub hl [] rfl)
