theorem ci_X7_146 {cc : ByteArray} {nL : Nat} {D : va_G} {T : ClassId × ClassId} {a : Nat → Nat} {A : Nat → Prop} {p : Program} {l : Launch} {e : Env} {R : Room} {s : State} {m : MethodId} {args : Array Value} {below : List Frame} {meth : Method} {c : Code} {H : Heap} {locs : List Loc} {Q : State → Prop} {x : XS} {z : Int × XS} {pc : Nat} {ls : Array Slot} {rest : List Value} (C : xcx RX7 cc nL D T (yW T a) A p s m args meth c) (M : xmm D (yW T a) A s H locs x) {p1 : Int} {K : Int → XS → XR} (h : x_call (f_X7_known x p1) K = some z) (hR : 0 + 1 ≤ R.frames ∧ 8 + (3 + 11) + 0 ≤ R.locals) (hsz : ls.size = nL) (hrest : (rest.map fun v => v.category).sum ≤ 8) (hdg : decode cc pc = .ok (.invokevirtual 146, 3)) (kk : ∀ (H1 : Heap) (locs1 : List Loc) (x1 : XS), xmm D (yW T a) A s H1 locs1 x1 → K 0 x1 = some z → W p l e R s m args below meth c H1 locs1 0 0 Q (F0 m (pc + 3) ls rest)) : W p l e R s m args below meth c H locs 0 0 Q (F0 m pc ls (.int (oI p1) :: .ref (a 0) :: rest)) :=
  xcallV_V (As := [.int (oI p1)]) (n := 1) C M (fun zc sz ho => c_X7_known ho sz) bw_912 bw_909 bw_911 bw_70 bw_91 rfl (by decide +kernel) 0 rfl rfl ⟨rfl, rfl⟩ hR hsz rfl hrest hdg h kk
theorem ci_X7_153 {cc : ByteArray} {nL : Nat} {D : va_G} {T : ClassId × ClassId} {a : Nat → Nat} {A : Nat → Prop} {p : Program} {l : Launch} {e : Env} {R : Room} {s : State} {m : MethodId} {args : Array Value} {below : List Frame} {meth : Method} {c : Code} {H : Heap} {locs : List Loc} {Q : State → Prop} {x : XS} {z : Int × XS} {pc : Nat} {ls : Array Slot} {rest : List Value} (C : xcx RX7 cc nL D T (yW T a) A p s m args meth c) (M : xmm D (yW T a) A s H locs x) {p1 p2 p3 : Int} {K : Int → XS → XR} (h : x_call (f_X7_leavesAt x p1 p2 p3) K = some z) (hR : 0 + 1 ≤ R.frames ∧ 8 + (6 + 11) + 0 ≤ R.locals) (hsz : ls.size = nL) (hrest : (rest.map fun v => v.category).sum ≤ 8) (hdg : decode cc pc = .ok (.invokevirtual 153, 3)) (kk : ∀ (r : Int) (H1 : Heap) (locs1 : List Loc) (x1 : XS), xmm D (yW T a) A s H1 locs1 x1 → narrow .int (.int (oI r)) = .int (oI r) → K r x1 = some z → W p l e R s m args below meth c H1 locs1 0 0 Q (F0 m (pc + 3) ls (.int (oI r) :: rest))) : W p l e R s m args below meth c H locs 0 0 Q (F0 m pc ls (.int (oI p3) :: .int (oI p2) :: .int (oI p1) :: .ref (a 0) :: rest)) :=
  xcallI_V (As := [.int (oI p1), .int (oI p2), .int (oI p3)]) (n := 3) C M (fun zc sz ho => c_X7_leavesAt ho sz) bw_916 bw_913 bw_915 bw_71 bw_91 rfl (by decide +kernel) 0 rfl rfl ⟨rfl, rfl⟩ hR hsz rfl hrest hdg h kk
theorem ci_X7_157 {cc : ByteArray} {nL : Nat} {D : va_G} {T : ClassId × ClassId} {a : Nat → Nat} {A : Nat → Prop} {p : Program} {l : Launch} {e : Env} {R : Room} {s : State} {m : MethodId} {args : Array Value} {below : List Frame} {meth : Method} {c : Code} {H : Heap} {locs : List Loc} {Q : State → Prop} {x : XS} {z : Int × XS} {pc : Nat} {ls : Array Slot} {rest : List Value} (C : xcx RX7 cc nL D T (yW T a) A p s m args meth c) (M : xmm D (yW T a) A s H locs x) {p1 p2 p3 : Int} {K : Int → XS → XR} (h : x_call (f_X7_stands x p1 p2 p3) K = some z) (hR : 1 + 1 ≤ R.frames ∧ 8 + (5 + 11) + 24 ≤ R.locals) (hsz : ls.size = nL) (hrest : (rest.map fun v => v.category).sum ≤ 8) (hdg : decode cc pc = .ok (.invokevirtual 157, 3)) (kk : ∀ (r : Int) (H1 : Heap) (locs1 : List Loc) (x1 : XS), xmm D (yW T a) A s H1 locs1 x1 → narrow .boolean (.int (oI r)) = .int (oI r) → K r x1 = some z → W p l e R s m args below meth c H1 locs1 0 0 Q (F0 m (pc + 3) ls (.int (oI r) :: rest))) : W p l e R s m args below meth c H locs 0 0 Q (F0 m pc ls (.int (oI p3) :: .int (oI p2) :: .int (oI p1) :: .ref (a 0) :: rest)) :=
  xcallI_V (As := [.int (oI p1), .int (oI p2), .int (oI p3)]) (n := 3) C M (fun zc sz ho => c_X7_stands ho sz) bw_920 bw_917 bw_919 bw_72 bw_91 rfl (by decide +kernel) 0 rfl rfl ⟨rfl, rfl⟩ hR hsz rfl hrest hdg h kk
set_option maxHeartbeats 4000000 in
set_option maxRecDepth 100000 in
theorem c_X7_lay {l : Launch} {D : va_G} {T : ClassId × ClassId} {a : Nat → Nat} {x : XS} {p1 : Int} {p2 : Int} {z : Int × XS} (h : f_X7_lay x p1 p2 = some z) (sz : Nat) : xMetV l yX7_lay cX7_lay 7 { frames := 2, cells := 0, slots := 0, locals := 48 } D T (yW T a) sz [.ref (a 0), .int (oI p1), .int (oI p2)] x z := by
  refine xMetV_of (by decide) (Nat.le_of_ble_eq_true rfl) (yW_ad T a) ?_
  intro p e s m args below meth c A ls C hr M hl
  have hx := C.1
  have hb := C.2.1
  have hl : lv_has ls 7 [(0, .ref (a 0)), (1, .int (oI p1)), (2, .int (oI p2))] := hl
  have C : xcx RX7 cX7_lay 7 D T (yW T a) A p s m args meth c := C
  revert hl M
  generalize ([] : List Loc) = locs
  generalize s.heap = H
  intro M hl
  unfold f_X7_lay at h
  refine lv_aload_n hx hb dX7_lay_0 rfl (lv_at hl 0 rfl) ?_
  refine lv_iload_n hx hb dX7_lay_1 rfl (lv_at hl 1 rfl) ?_
  refine ci_X7_146 C M h ⟨Nat.le_of_ble_eq_true rfl, Nat.le_of_ble_eq_true rfl⟩ hl.1 (Nat.le_of_ble_eq_true rfl) dX7_lay_2 (fun H locs x2 M h => ?_)
  refine lv_aload_n hx hb dX7_lay_5 rfl (lv_at hl 0 rfl) ?_
  refine lv_iconst (v := oI 0) hx hb dX7_lay_6 (by decide) ?_
  refine pf_X7_150 C M dX7_lay_7 h (fun H locs x3 M h => ?_)
  refine lv_iconst (v := oI 0) hx hb dX7_lay_10 (by decide) ?_
  refine lv_istore_n (lv' := [(3, .int (oI 0)), (0, .ref (a 0)), (1, .int (oI p1)), (2, .int (oI p2))]) hx hb dX7_lay_11 rfl hl (by decide) rfl (fun ls hl => ?_)
  refine x_jp_el h (fun kx4 ekx4 h => ?_)
  have hkx4 : ∀ (x5 : XS) (H : Heap) (locs : List Loc) (ls : Array Slot), kx4 x5 = some z → xmm D (yW T a) A s H locs x5 → lv_has ls 7 [] → W p l e { frames := 2, cells := 0, slots := 0, locals := 48 } s m args below meth c H locs 0 0 (xQV below args s D (yW T a) z A) (F0 m 234 ls []) := by
    intro x5 H locs ls h M hl
    rw [ekx4] at h
    dsimp only at h
    exact xretV C hr M h dX7_lay_234
  refine x_loop1_ind (P := fun v6 x7 => ∀ (H : Heap) (locs : List Loc) (ls : Array Slot), xmm D (yW T a) A s H locs x7 → lv_has ls 7 [(0, .ref (a 0)), (1, .int (oI p1)), (2, .int (oI p2)), (3, .int (oI v6))] → W p l e { frames := 2, cells := 0, slots := 0, locals := 48 } s m args below meth c H locs 0 0 (xQV below args s D (yW T a) z A) (F0 m 12 ls [])) (fun g8 ig8 v6 x7 h => ?_) x_fuel 0 x3 h H locs ls M (lv_sub hl [1, 2, 3, 0] rfl)
  intro H locs ls M hl
  unfold b_X7_lay_12 at h
  refine lv_iload_n hx hb dX7_lay_12 rfl (lv_at hl 3 rfl) ?_
  refine lv_aload_n hx hb dX7_lay_13 rfl (lv_at hl 0 rfl) ?_
  refine gf_X7_102 C M dX7_lay_14 ?_
  refine z_icmp_ge (tgt := 234) hx hb dX7_lay_17 (by decide) h (fun h => ?_) (fun h => ?_)
  · exact hkx4 x7 H locs ls h M (lv_sub hl [] rfl)
  · refine lv_aload_n hx hb dX7_lay_20 rfl (lv_at hl 0 rfl) ?_
    refine gf_X7_49 C M dX7_lay_21 ?_
    refine lv_iload_n hx hb dX7_lay_24 rfl (lv_at hl 3 rfl) ?_
    refine al_y_14 C M dX7_lay_25 h (fun v9 h => ?_)
    refine x_jp_el h (fun jp10 ejp10 h => ?_)
    have hjp10 : ∀ (x11 : XS) (H : Heap) (locs : List Loc) (ls : Array Slot), jp10 x11 = some z → xmm D (yW T a) A s H locs x11 → lv_has ls 7 [(0, .ref (a 0)), (1, .int (oI p1)), (2, .int (oI p2)), (3, .int (oI v6))] → W p l e { frames := 2, cells := 0, slots := 0, locals := 48 } s m args below meth c H locs 0 0 (xQV below args s D (yW T a) z A) (F0 m 228 ls []) := by
      intro x11 H locs ls h M hl
      rw [ejp10] at h
      dsimp only at h
      refine x_nm h (fun v12 ev12 h => ?_)
      refine lv_iinc (v := oI v12) (lv' := [(3, .int (oI v12)), (0, .ref (a 0)), (1, .int (oI p1)), (2, .int (oI p2))]) hx hb dX7_lay_228 hl (k := 3) rfl (by rw [ev12]; exact oI_add _ _) (by decide) rfl (fun ls hl => ?_)
      refine lv_goto (tgt := 12) hx hb dX7_lay_231 (by decide) ?_
      exact ig8 v12 x11 h H locs ls M (lv_sub hl [1, 2, 3, 0] rfl)
    refine z_if_eq (tgt := 228) hx hb dX7_lay_26 (by decide) h (fun h => ?_) (fun h => ?_)
    · exact hjp10 x7 H locs ls h M (lv_sub hl [0, 1, 2, 3] rfl)
    · refine lv_iload_n hx hb dX7_lay_29 rfl (lv_at hl 3 rfl) ?_
      refine lv_iload_n hx hb dX7_lay_30 rfl (lv_at hl 2 rfl) ?_
      refine z_icmp_ne (tgt := 37) hx hb dX7_lay_31 (by decide) h (fun h => ?_) (fun h => ?_)
      · refine lv_iconst (v := oI 0) hx hb dX7_lay_37 (by decide) ?_
        refine lv_istore (lv' := [(4, .int (oI 0)), (0, .ref (a 0)), (1, .int (oI p1)), (2, .int (oI p2)), (3, .int (oI v6))]) hx hb dX7_lay_38 hl (by decide) rfl (fun ls hl => ?_)
        refine x_loop1_ind (P := fun v13 x14 => ∀ (H : Heap) (locs : List Loc) (ls : Array Slot), xmm D (yW T a) A s H locs x14 → lv_has ls 7 [(0, .ref (a 0)), (1, .int (oI p1)), (2, .int (oI p2)), (3, .int (oI v6)), (4, .int (oI v13))] → W p l e { frames := 2, cells := 0, slots := 0, locals := 48 } s m args below meth c H locs 0 0 (xQV below args s D (yW T a) z A) (F0 m 40 ls [])) (fun g15 ig15 v13 x14 h => ?_) x_fuel 0 x7 h H locs ls M (lv_sub hl [1, 2, 3, 4, 0] rfl)
        intro H locs ls M hl
        unfold b_X7_lay_40 at h
        refine lv_iload hx hb dX7_lay_40 (lv_at hl 4 rfl) ?_
        refine lv_aload_n hx hb dX7_lay_42 rfl (lv_at hl 0 rfl) ?_
        refine gf_X7_31 C M dX7_lay_43 ?_
        refine lv_iload_n hx hb dX7_lay_46 rfl (lv_at hl 3 rfl) ?_
        refine al_y_8 C M dX7_lay_47 h (fun v16 h => ?_)
        refine z_icmp_ge (tgt := 228) hx hb dX7_lay_48 (by decide) h (fun h => ?_) (fun h => ?_)
        · exact hjp10 x14 H locs ls h M (lv_sub hl [0, 1, 2, 3] rfl)
        · refine lv_aload_n hx hb dX7_lay_51 rfl (lv_at hl 0 rfl) ?_
          refine lv_iload_n hx hb dX7_lay_52 rfl (lv_at hl 3 rfl) ?_
          refine lv_iload hx hb dX7_lay_53 (lv_at hl 4 rfl) ?_
          refine lv_iload_n hx hb dX7_lay_55 rfl (lv_at hl 1 rfl) ?_
          refine ci_X7_153 C M h ⟨Nat.le_of_ble_eq_true rfl, Nat.le_of_ble_eq_true rfl⟩ hl.1 (Nat.le_of_ble_eq_true rfl) dX7_lay_56 (fun r17 H locs x18 M nr17 h => ?_)
          refine lv_istore (lv' := [(5, .int (oI r17)), (0, .ref (a 0)), (1, .int (oI p1)), (2, .int (oI p2)), (3, .int (oI v6)), (4, .int (oI v13))]) hx hb dX7_lay_59 hl (by decide) rfl (fun ls hl => ?_)
          refine lv_aload_n hx hb dX7_lay_61 rfl (lv_at hl 1 rfl) ?_
          refine lv_iload_n hx hb dX7_lay_62 rfl (lv_at hl 4 rfl) ?_
          refine lv_iload hx hb dX7_lay_63 (lv_at hl 0 rfl) ?_
          refine lv_iload_n hx hb dX7_lay_65 rfl (lv_at hl 2 rfl) ?_
          refine ci_X7_157 C M h ⟨Nat.le_of_ble_eq_true rfl, Nat.le_of_ble_eq_true rfl⟩ hl.1 (Nat.le_of_ble_eq_true rfl) dX7_lay_66 (fun r19 H locs x20 M nr19 h => ?_)
          refine x_jp_el h (fun jp21 ejp21 h => ?_)
          have hjp21 : ∀ (x22 : XS) (H : Heap) (locs : List Loc) (ls : Array Slot), jp21 x22 = some z → xmm D (yW T a) A s H locs x22 → lv_has ls 7 [(0, .ref (a 0)), (1, .int (oI p1)), (2, .int (oI p2)), (3, .int (oI v6)), (4, .int (oI v13))] → W p l e { frames := 2, cells := 0, slots := 0, locals := 48 } s m args below meth c H locs 0 0 (xQV below args s D (yW T a) z A) (F0 m 222 ls []) := by
            intro x22 H locs ls h M hl
            rw [ejp21] at h
            dsimp only at h
            refine x_nm h (fun v23 ev23 h => ?_)
            refine lv_iinc (v := oI v23) (lv' := [(4, .int (oI v23)), (0, .ref (a 0)), (1, .int (oI p1)), (2, .int (oI p2)), (3, .int (oI v6))]) hx hb dX7_lay_222 hl (k := 4) rfl (by rw [ev23]; exact oI_add _ _) (by decide) rfl (fun ls hl => ?_)
            refine lv_goto (tgt := 40) hx hb dX7_lay_225 (by decide) ?_
            exact ig15 v23 x22 h H locs ls M (lv_sub hl [1, 2, 3, 4, 0] rfl)
          refine z_if_ne (tgt := 75) hx hb dX7_lay_69 (by decide) h (fun h => ?_) (fun h => ?_)
          · refine lv_aload_n hx hb dX7_lay_75 rfl (lv_at hl 1 rfl) ?_
            refine gf_X7_150 C M dX7_lay_76 ?_
            refine x_top h (fun v24 h => ?_)
            refine lv_istore (lv' := [(6, .int (oI v24)), (5, .int (oI r17)), (0, .ref (a 0)), (1, .int (oI p1)), (2, .int (oI p2)), (3, .int (oI v6)), (4, .int (oI v13))]) hx hb dX7_lay_79 hl (by decide) rfl (fun ls hl => ?_)
            refine x_jp_el h (fun kx25 ekx25 h => ?_)
            have hkx25 : ∀ (v26 : Int) (x27 : XS) (H : Heap) (locs : List Loc) (ls : Array Slot), kx25 v26 x27 = some z → xmm D (yW T a) A s H locs x27 → lv_has ls 7 [(0, .ref (a 0)), (1, .int (oI p1)), (2, .int (oI p2)), (3, .int (oI v6)), (4, .int (oI v13)), (5, .int (oI r17)), (6, .int (oI v26))] → W p l e { frames := 2, cells := 0, slots := 0, locals := 48 } s m args below meth c H locs 0 0 (xQV below args s D (yW T a) z A) (F0 m 170 ls []) := by
              intro v26 x27 H locs ls h M hl
              rw [ekx25] at h
              dsimp only at h
              refine lv_aload_n hx hb dX7_lay_170 rfl (lv_at hl 0 rfl) ?_
              refine gf_X7_56 C M dX7_lay_171 ?_
              refine lv_iload hx hb dX7_lay_174 (lv_at hl 6 rfl) ?_
              refine lv_iload_n hx hb dX7_lay_176 rfl (lv_at hl 3 rfl) ?_
              refine as_y_16 C M dX7_lay_177 h (fun H locs x28 M h => ?_)
              refine lv_aload_n hx hb dX7_lay_178 rfl (lv_at hl 0 rfl) ?_
              refine gf_X7_59 C M dX7_lay_179 ?_
              refine lv_iload hx hb dX7_lay_182 (lv_at hl 6 rfl) ?_
              refine lv_iload hx hb dX7_lay_184 (lv_at hl 4 rfl) ?_
              refine as_y_17 C M dX7_lay_186 h (fun H locs x29 M h => ?_)
              refine lv_aload_n hx hb dX7_lay_187 rfl (lv_at hl 0 rfl) ?_
              refine gf_X7_62 C M dX7_lay_188 ?_
              refine lv_iload hx hb dX7_lay_191 (lv_at hl 6 rfl) ?_
              refine lv_iload hx hb dX7_lay_193 (lv_at hl 5 rfl) ?_
              refine as_y_18 C M dX7_lay_195 h (fun H locs x30 M h => ?_)
              refine lv_aload_n hx hb dX7_lay_196 rfl (lv_at hl 0 rfl) ?_
              refine gf_X7_65 C M dX7_lay_197 ?_
              refine lv_iload hx hb dX7_lay_200 (lv_at hl 6 rfl) ?_
              refine lv_iload hx hb dX7_lay_202 (lv_at hl 5 rfl) ?_
              refine lv_aload_n hx hb dX7_lay_204 rfl (lv_at hl 0 rfl) ?_
              refine gf_X7_28 C M dX7_lay_205 ?_
              refine lv_iload_n hx hb dX7_lay_208 rfl (lv_at hl 3 rfl) ?_
              refine al_y_7 C M dX7_lay_209 h (fun v31 h => ?_)
              refine z_iadd hx hb dX7_lay_210 ?_
              refine as_y_19 C M dX7_lay_211 h (fun H locs x32 M h => ?_)
              refine lv_aload_n hx hb dX7_lay_212 rfl (lv_at hl 0 rfl) ?_
              refine lv_dup hx hb dX7_lay_213 rfl ?_
              refine gf_X7_150 C M dX7_lay_214 ?_
              refine lv_iconst (v := oI 1) hx hb dX7_lay_217 (by decide) ?_
              refine z_iadd hx hb dX7_lay_218 ?_
              refine pf_X7_150 C M dX7_lay_219 h (fun H locs x33 M h => ?_)
              exact hjp21 x33 H locs ls h M (lv_sub hl [0, 1, 2, 3, 4] rfl)
            refine x_loop1_ind (P := fun v34 x35 => ∀ (H : Heap) (locs : List Loc) (ls : Array Slot), xmm D (yW T a) A s H locs x35 → lv_has ls 7 [(0, .ref (a 0)), (1, .int (oI p1)), (2, .int (oI p2)), (3, .int (oI v6)), (4, .int (oI v13)), (5, .int (oI r17)), (6, .int (oI v34))] → W p l e { frames := 2, cells := 0, slots := 0, locals := 48 } s m args below meth c H locs 0 0 (xQV below args s D (yW T a) z A) (F0 m 81 ls [])) (fun g36 ig36 v34 x35 h => ?_) x_fuel v24 x20 h H locs ls M (lv_sub hl [2, 3, 4, 5, 6, 1, 0] rfl)
            intro H locs ls M hl
            unfold b_X7_lay_81 at h
            refine lv_iload hx hb dX7_lay_81 (lv_at hl 6 rfl) ?_
            refine z_if_le (tgt := 170) hx hb dX7_lay_83 (by decide) h (fun h => ?_) (fun h => ?_)
            · exact hkx25 v34 x35 H locs ls h M (lv_sub hl [0, 1, 2, 3, 4, 5, 6] rfl)
            · refine lv_aload_n hx hb dX7_lay_86 rfl (lv_at hl 0 rfl) ?_
              refine gf_X7_62 C M dX7_lay_87 ?_
              refine lv_iload hx hb dX7_lay_90 (lv_at hl 6 rfl) ?_
              refine lv_iconst (v := oI 1) hx hb dX7_lay_92 (by decide) ?_
              refine z_isub hx hb dX7_lay_93 ?_
              refine al_y_18 C M dX7_lay_94 h (fun v37 h => ?_)
              refine lv_iload hx hb dX7_lay_95 (lv_at hl 5 rfl) ?_
              refine z_icmp_le (tgt := 170) hx hb dX7_lay_97 (by decide) h (fun h => ?_) (fun h => ?_)
              · exact hkx25 v34 x35 H locs ls h M (lv_sub hl [0, 1, 2, 3, 4, 5, 6] rfl)
              · refine lv_aload_n hx hb dX7_lay_100 rfl (lv_at hl 0 rfl) ?_
                refine gf_X7_56 C M dX7_lay_101 ?_
                refine lv_iload hx hb dX7_lay_104 (lv_at hl 6 rfl) ?_
                refine lv_aload_n hx hb dX7_lay_106 rfl (lv_at hl 0 rfl) ?_
                refine gf_X7_56 C M dX7_lay_107 ?_
                refine lv_iload hx hb dX7_lay_110 (lv_at hl 6 rfl) ?_
                refine lv_iconst (v := oI 1) hx hb dX7_lay_112 (by decide) ?_
                refine z_isub hx hb dX7_lay_113 ?_
                refine al_y_16 C M dX7_lay_114 h (fun v38 h => ?_)
                refine as_y_16 C M dX7_lay_115 h (fun H locs x39 M h => ?_)
                refine lv_aload_n hx hb dX7_lay_116 rfl (lv_at hl 0 rfl) ?_
                refine gf_X7_59 C M dX7_lay_117 ?_
                refine lv_iload hx hb dX7_lay_120 (lv_at hl 6 rfl) ?_
                refine lv_aload_n hx hb dX7_lay_122 rfl (lv_at hl 0 rfl) ?_
                refine gf_X7_59 C M dX7_lay_123 ?_
                refine lv_iload hx hb dX7_lay_126 (lv_at hl 6 rfl) ?_
                refine lv_iconst (v := oI 1) hx hb dX7_lay_128 (by decide) ?_
                refine z_isub hx hb dX7_lay_129 ?_
                refine al_y_17 C M dX7_lay_130 h (fun v40 h => ?_)
                refine as_y_17 C M dX7_lay_131 h (fun H locs x41 M h => ?_)
                refine lv_aload_n hx hb dX7_lay_132 rfl (lv_at hl 0 rfl) ?_
                refine gf_X7_62 C M dX7_lay_133 ?_
                refine lv_iload hx hb dX7_lay_136 (lv_at hl 6 rfl) ?_
                refine lv_aload_n hx hb dX7_lay_138 rfl (lv_at hl 0 rfl) ?_
                refine gf_X7_62 C M dX7_lay_139 ?_
                refine lv_iload hx hb dX7_lay_142 (lv_at hl 6 rfl) ?_
                refine lv_iconst (v := oI 1) hx hb dX7_lay_144 (by decide) ?_
                refine z_isub hx hb dX7_lay_145 ?_
                refine al_y_18 C M dX7_lay_146 h (fun v42 h => ?_)
                refine as_y_18 C M dX7_lay_147 h (fun H locs x43 M h => ?_)
                refine lv_aload_n hx hb dX7_lay_148 rfl (lv_at hl 0 rfl) ?_
                refine gf_X7_65 C M dX7_lay_149 ?_
                refine lv_iload hx hb dX7_lay_152 (lv_at hl 6 rfl) ?_
                refine lv_aload_n hx hb dX7_lay_154 rfl (lv_at hl 0 rfl) ?_
                refine gf_X7_65 C M dX7_lay_155 ?_
                refine lv_iload hx hb dX7_lay_158 (lv_at hl 6 rfl) ?_
                refine lv_iconst (v := oI 1) hx hb dX7_lay_160 (by decide) ?_
                refine z_isub hx hb dX7_lay_161 ?_
                refine al_y_19 C M dX7_lay_162 h (fun v44 h => ?_)
                refine as_y_19 C M dX7_lay_163 h (fun H locs x45 M h => ?_)
                refine x_nm h (fun v46 ev46 h => ?_)
                refine lv_iinc (v := oI v46) (lv' := [(6, .int (oI v46)), (0, .ref (a 0)), (1, .int (oI p1)), (2, .int (oI p2)), (3, .int (oI v6)), (4, .int (oI v13)), (5, .int (oI r17))]) hx hb dX7_lay_164 hl (k := 6) rfl (by rw [ev46]; exact oI_add _ _) (by decide) rfl (fun ls hl => ?_)
                refine lv_goto (tgt := 81) hx hb dX7_lay_167 (by decide) ?_
                exact ig36 v46 x45 h H locs ls M (lv_sub hl [1, 2, 3, 4, 5, 6, 0] rfl)
          · refine lv_goto (tgt := 222) hx hb dX7_lay_72 (by decide) ?_
            exact hjp21 x20 H locs ls h M (lv_sub hl [1, 2, 3, 4, 5] rfl)
      · refine lv_goto (tgt := 228) hx hb dX7_lay_34 (by decide) ?_
        exact hjp10 x7 H locs ls h M (lv_sub hl [0, 1, 2, 3] rfl)
set_option maxHeartbeats 4000000 in
set_option maxRecDepth 100000 in
theorem c_X7_follows {l : Launch} {D : va_G} {T : ClassId × ClassId} {a : Nat → Nat} {x : XS} {p1 : Int} {p2 : Int} {z : Int × XS} (h : f_X7_follows x p1 p2 = some z) (sz : Nat) : xMetI l yX7_follows cX7_follows 5 .boolean { frames := 0, cells := 0, slots := 0, locals := 0 } D T (yW T a) sz [.ref (a 0), .int (oI p1), .int (oI p2)] x z := by
  refine xMetI_of (by decide) (Nat.le_of_ble_eq_true rfl) (yW_ad T a) ?_
  intro p e s m args below meth c A ls C hr M hl
  have hx := C.1
  have hb := C.2.1
  have hl : lv_has ls 5 [(0, .ref (a 0)), (1, .int (oI p1)), (2, .int (oI p2))] := hl
  have C : xcx RX7 cX7_follows 5 D T (yW T a) A p s m args meth c := C
  revert hl M
  generalize ([] : List Loc) = locs
  generalize s.heap = H
  intro M hl
  unfold f_X7_follows at h
  refine lv_aload_n hx hb dX7_follows_0 rfl (lv_at hl 0 rfl) ?_
  refine gf_X7_19 C M dX7_follows_1 ?_
  refine lv_aload_n hx hb dX7_follows_4 rfl (lv_at hl 0 rfl) ?_
  refine gf_X7_56 C M dX7_follows_5 ?_
  refine lv_iload_n hx hb dX7_follows_8 rfl (lv_at hl 1 rfl) ?_
  refine al_y_16 C M dX7_follows_9 h (fun v1 h => ?_)
  refine al_y_4 C M dX7_follows_10 h (fun v2 h => ?_)
  refine lv_istore_n (lv' := [(3, .int (oI v2)), (0, .ref (a 0)), (1, .int (oI p1)), (2, .int (oI p2))]) hx hb dX7_follows_11 rfl hl (by decide) rfl (fun ls hl => ?_)
  refine lv_aload_n hx hb dX7_follows_12 rfl (lv_at hl 1 rfl) ?_
  refine gf_X7_16 C M dX7_follows_13 ?_
  refine lv_aload_n hx hb dX7_follows_16 rfl (lv_at hl 1 rfl) ?_
  refine gf_X7_56 C M dX7_follows_17 ?_
  refine lv_iload_n hx hb dX7_follows_20 rfl (lv_at hl 3 rfl) ?_
  refine al_y_16 C M dX7_follows_21 h (fun v3 h => ?_)
  refine al_y_3 C M dX7_follows_22 h (fun v4 h => ?_)
  refine lv_iload_n hx hb dX7_follows_23 rfl (lv_at hl 0 rfl) ?_
  refine z_icmp_eq (tgt := 29) hx hb dX7_follows_24 (by decide) h (fun h => ?_) (fun h => ?_)
  · refine lv_aload_n hx hb dX7_follows_29 rfl (lv_at hl 1 rfl) ?_
    refine gf_X7_62 C M dX7_follows_30 ?_
    refine lv_iload_n hx hb dX7_follows_33 rfl (lv_at hl 3 rfl) ?_
    refine al_y_18 C M dX7_follows_34 h (fun v5 h => ?_)
    refine lv_aload_n hx hb dX7_follows_35 rfl (lv_at hl 1 rfl) ?_
    refine gf_X7_65 C M dX7_follows_36 ?_
    refine lv_iload_n hx hb dX7_follows_39 rfl (lv_at hl 2 rfl) ?_
    refine al_y_19 C M dX7_follows_40 h (fun v6 h => ?_)
    refine z_isub hx hb dX7_follows_41 ?_
    refine x_top h (fun v7 h => ?_)
    refine lv_istore (lv' := [(4, .int (oI v7)), (3, .int (oI v2)), (0, .ref (a 0)), (1, .int (oI p1)), (2, .int (oI p2))]) hx hb dX7_follows_42 hl (by decide) rfl (fun ls hl => ?_)
    refine lv_iload hx hb dX7_follows_44 (lv_at hl 0 rfl) ?_
    refine lv_aload_n hx hb dX7_follows_46 rfl (lv_at hl 2 rfl) ?_
    refine gf_X7_7 C M dX7_follows_47 ?_
    refine lv_iload_n hx hb dX7_follows_50 rfl (lv_at hl 1 rfl) ?_
    refine al_y_1 C M dX7_follows_51 h (fun v8 h => ?_)
    refine z_icmp_lt (tgt := 79) hx hb dX7_follows_52 (by decide) h (fun h => ?_) (fun h => ?_)
    · refine lv_iconst (v := oI 0) hx hb dX7_follows_79 (by decide) ?_
      exact xretI C hr M h nb_0 dX7_follows_80
    · refine lv_aload_n hx hb dX7_follows_55 rfl (lv_at hl 2 rfl) ?_
      refine gf_X7_13 C M dX7_follows_56 ?_
      refine lv_iload_n hx hb dX7_follows_59 rfl (lv_at hl 1 rfl) ?_
      refine al_y_2 C M dX7_follows_60 h (fun v9 h => ?_)
      refine x_jp_el h (fun jp10 ejp10 h => ?_)
      have hjp10 : ∀ (x11 : XS) (H : Heap) (locs : List Loc) (ls : Array Slot), jp10 x11 = some z → xmm D (yW T a) A s H locs x11 → lv_has ls 5 [] → W p l e { frames := 0, cells := 0, slots := 0, locals := 0 } s m args below meth c H locs 0 0 (xQI below args s D (yW T a) .boolean z A) (F0 m 75 ls []) := by
        intro x11 H locs ls h M hl
        rw [ejp10] at h
        dsimp only at h
        refine lv_iconst (v := oI 1) hx hb dX7_follows_75 (by decide) ?_
        refine lv_goto (tgt := 80) hx hb dX7_follows_76 (by decide) ?_
        exact xretI C hr M h nb_1 dX7_follows_80
      refine z_if_lt (tgt := 75) hx hb dX7_follows_61 (by decide) h (fun h => ?_) (fun h => ?_)
      · exact hjp10 x H locs ls h M (lv_sub hl [] rfl)
      · refine lv_iload hx hb dX7_follows_64 (lv_at hl 0 rfl) ?_
        refine lv_aload_n hx hb dX7_follows_66 rfl (lv_at hl 2 rfl) ?_
        refine gf_X7_13 C M dX7_follows_67 ?_
        refine lv_iload_n hx hb dX7_follows_70 rfl (lv_at hl 1 rfl) ?_
        refine al_y_2 C M dX7_follows_71 h (fun v12 h => ?_)
        refine z_icmp_gt (tgt := 79) hx hb dX7_follows_72 (by decide) h (fun h => ?_) (fun h => ?_)
        · refine lv_iconst (v := oI 0) hx hb dX7_follows_79 (by decide) ?_
          exact xretI C hr M h nb_0 dX7_follows_80
        · exact hjp10 x H locs ls h M (lv_sub hl [] rfl)
  · refine lv_iconst (v := oI 0) hx hb dX7_follows_27 (by decide) ?_
    exact xretI C hr M h nb_0 dX7_follows_28
theorem ci_X7_161 {cc : ByteArray} {nL : Nat} {D : va_G} {T : ClassId × ClassId} {a : Nat → Nat} {A : Nat → Prop} {p : Program} {l : Launch} {e : Env} {R : Room} {s : State} {m : MethodId} {args : Array Value} {below : List Frame} {meth : Method} {c : Code} {H : Heap} {locs : List Loc} {Q : State → Prop} {x : XS} {z : Int × XS} {pc : Nat} {ls : Array Slot} {rest : List Value} (C : xcx RX7 cc nL D T (yW T a) A p s m args meth c) (M : xmm D (yW T a) A s H locs x) {p1 p2 : Int} {K : Int → XS → XR} (h : x_call (f_X7_follows x p1 p2) K = some z) (hR : 0 + 1 ≤ R.frames ∧ 8 + (5 + 11) + 0 ≤ R.locals) (hsz : ls.size = nL) (hrest : (rest.map fun v => v.category).sum ≤ 8) (hdg : decode cc pc = .ok (.invokevirtual 161, 3)) (kk : ∀ (r : Int) (H1 : Heap) (locs1 : List Loc) (x1 : XS), xmm D (yW T a) A s H1 locs1 x1 → narrow .boolean (.int (oI r)) = .int (oI r) → K r x1 = some z → W p l e R s m args below meth c H1 locs1 0 0 Q (F0 m (pc + 3) ls (.int (oI r) :: rest))) : W p l e R s m args below meth c H locs 0 0 Q (F0 m pc ls (.int (oI p2) :: .int (oI p1) :: .ref (a 0) :: rest)) :=
  xcallI_V (As := [.int (oI p1), .int (oI p2)]) (n := 2) C M (fun zc sz ho => c_X7_follows ho sz) bw_933 bw_930 bw_932 bw_75 bw_91 rfl (by decide +kernel) 0 rfl rfl ⟨rfl, rfl⟩ hR hsz rfl hrest hdg h kk
set_option maxHeartbeats 4000000 in
set_option maxRecDepth 100000 in
theorem c_X7_goes {l : Launch} {D : va_G} {T : ClassId × ClassId} {a : Nat → Nat} {x : XS} {p1 : Int} {p2 : Int} {z : Int × XS} (h : f_X7_goes x p1 p2 = some z) (sz : Nat) : xMetV l yX7_goes cX7_goes 5 { frames := 1, cells := 0, slots := 0, locals := 24 } D T (yW T a) sz [.ref (a 0), .int (oI p1), .int (oI p2)] x z := by
  refine xMetV_of (by decide) (Nat.le_of_ble_eq_true rfl) (yW_ad T a) ?_
  intro p e s m args below meth c A ls C hr M hl
  have hx := C.1
  have hb := C.2.1
  have hl : lv_has ls 5 [(0, .ref (a 0)), (1, .int (oI p1)), (2, .int (oI p2))] := hl
  have C : xcx RX7 cX7_goes 5 D T (yW T a) A p s m args meth c := C
  revert hl M
  generalize ([] : List Loc) = locs
  generalize s.heap = H
  intro M hl
  unfold f_X7_goes at h
  refine lv_iconst (v := oI 0) hx hb dX7_goes_0 (by decide) ?_
  refine lv_istore_n (lv' := [(3, .int (oI 0)), (0, .ref (a 0)), (1, .int (oI p1)), (2, .int (oI p2))]) hx hb dX7_goes_1 rfl hl (by decide) rfl (fun ls hl => ?_)
  refine x_jp_el h (fun kx1 ekx1 h => ?_)
  have hkx1 : ∀ (x2 : XS) (H : Heap) (locs : List Loc) (ls : Array Slot), kx1 x2 = some z → xmm D (yW T a) A s H locs x2 → lv_has ls 5 [] → W p l e { frames := 1, cells := 0, slots := 0, locals := 24 } s m args below meth c H locs 0 0 (xQV below args s D (yW T a) z A) (F0 m 189 ls []) := by
    intro x2 H locs ls h M hl
    rw [ekx1] at h
    dsimp only at h
    exact xretV C hr M h dX7_goes_189
  refine x_loop1_ind (P := fun v3 x4 => ∀ (H : Heap) (locs : List Loc) (ls : Array Slot), xmm D (yW T a) A s H locs x4 → lv_has ls 5 [(0, .ref (a 0)), (1, .int (oI p1)), (2, .int (oI p2)), (3, .int (oI v3))] → W p l e { frames := 1, cells := 0, slots := 0, locals := 24 } s m args below meth c H locs 0 0 (xQV below args s D (yW T a) z A) (F0 m 2 ls [])) (fun g5 ig5 v3 x4 h => ?_) x_fuel 0 x h H locs ls M (lv_sub hl [1, 2, 3, 0] rfl)
  intro H locs ls M hl
  unfold b_X7_goes_2 at h
  refine lv_iload_n hx hb dX7_goes_2 rfl (lv_at hl 3 rfl) ?_
  refine lv_aload_n hx hb dX7_goes_3 rfl (lv_at hl 0 rfl) ?_
  refine gf_X7_150 C M dX7_goes_4 ?_
  refine z_icmp_ge (tgt := 189) hx hb dX7_goes_7 (by decide) h (fun h => ?_) (fun h => ?_)
  · exact hkx1 x4 H locs ls h M (lv_sub hl [] rfl)
  · refine lv_aload_n hx hb dX7_goes_10 rfl (lv_at hl 0 rfl) ?_
    refine gf_X7_74 C M dX7_goes_11 ?_
    refine lv_iload_n hx hb dX7_goes_14 rfl (lv_at hl 3 rfl) ?_
    refine lv_aload_n hx hb dX7_goes_15 rfl (lv_at hl 0 rfl) ?_
    refine gf_X7_16 C M dX7_goes_16 ?_
    refine lv_aload_n hx hb dX7_goes_19 rfl (lv_at hl 0 rfl) ?_
    refine gf_X7_56 C M dX7_goes_20 ?_
    refine lv_iload_n hx hb dX7_goes_23 rfl (lv_at hl 3 rfl) ?_
    refine al_y_16 C M dX7_goes_24 h (fun v6 h => ?_)
    refine al_y_3 C M dX7_goes_25 h (fun v7 h => ?_)
    refine lv_iload_n hx hb dX7_goes_26 rfl (lv_at hl 1 rfl) ?_
    refine x_jp_el h (fun jp8 ejp8 h => ?_)
    have hjp8 : ∀ (v9 : Int) (x10 : XS) (H : Heap) (locs : List Loc) (ls : Array Slot), jp8 v9 x10 = some z → xmm D (yW T a) A s H locs x10 → lv_has ls 5 [(0, .ref (a 0)), (1, .int (oI p1)), (2, .int (oI p2)), (3, .int (oI v3))] → W p l e { frames := 1, cells := 0, slots := 0, locals := 24 } s m args below meth c H locs 0 0 (xQV below args s D (yW T a) z A) (F0 m 45 ls [.int (oI v9), .int (oI v3), .ref (a 22)]) := by
      intro v9 x10 H locs ls h M hl
      rw [ejp8] at h
      dsimp only at h
      refine as_y_22 C M dX7_goes_45 h (fun H locs x11 M h => ?_)
      refine lv_aload_n hx hb dX7_goes_46 rfl (lv_at hl 0 rfl) ?_
      refine gf_X7_68 C M dX7_goes_47 ?_
      refine lv_iload_n hx hb dX7_goes_50 rfl (lv_at hl 3 rfl) ?_
      refine lv_aload_n hx hb dX7_goes_51 rfl (lv_at hl 0 rfl) ?_
      refine gf_X7_74 C M dX7_goes_52 ?_
      refine lv_iload_n hx hb dX7_goes_55 rfl (lv_at hl 3 rfl) ?_
      refine al_y_22 C M dX7_goes_56 h (fun v12 h => ?_)
      refine x_jp_el h (fun jp13 ejp13 h => ?_)
      have hjp13 : ∀ (v14 : Int) (x15 : XS) (H : Heap) (locs : List Loc) (ls : Array Slot), jp13 v14 x15 = some z → xmm D (yW T a) A s H locs x15 → lv_has ls 5 [(0, .ref (a 0)), (1, .int (oI p1)), (2, .int (oI p2)), (3, .int (oI v3))] → W p l e { frames := 1, cells := 0, slots := 0, locals := 24 } s m args below meth c H locs 0 0 (xQV below args s D (yW T a) z A) (F0 m 70 ls [.int (oI v14), .int (oI v3), .ref (a 20)]) := by
        intro v14 x15 H locs ls h M hl
        rw [ejp13] at h
        dsimp only at h
        refine as_y_20 C M dX7_goes_70 h (fun H locs x16 M h => ?_)
        refine lv_aload_n hx hb dX7_goes_71 rfl (lv_at hl 0 rfl) ?_
        refine gf_X7_71 C M dX7_goes_72 ?_
        refine lv_iload_n hx hb dX7_goes_75 rfl (lv_at hl 3 rfl) ?_
        refine lv_aload_n hx hb dX7_goes_76 rfl (lv_at hl 0 rfl) ?_
        refine gf_X7_74 C M dX7_goes_77 ?_
        refine lv_iload_n hx hb dX7_goes_80 rfl (lv_at hl 3 rfl) ?_
        refine al_y_22 C M dX7_goes_81 h (fun v17 h => ?_)
        refine x_jp_el h (fun jp18 ejp18 h => ?_)
        have hjp18 : ∀ (v19 : Int) (x20 : XS) (H : Heap) (locs : List Loc) (ls : Array Slot), jp18 v19 x20 = some z → xmm D (yW T a) A s H locs x20 → lv_has ls 5 [(0, .ref (a 0)), (1, .int (oI p1)), (2, .int (oI p2)), (3, .int (oI v3))] → W p l e { frames := 1, cells := 0, slots := 0, locals := 24 } s m args below meth c H locs 0 0 (xQV below args s D (yW T a) z A) (F0 m 91 ls [.int (oI v19), .int (oI v3), .ref (a 21)]) := by
          intro v19 x20 H locs ls h M hl
          rw [ejp18] at h
          dsimp only at h
          refine as_y_21 C M dX7_goes_91 h (fun H locs x21 M h => ?_)
          refine lv_iconst (v := oI 0) hx hb dX7_goes_92 (by decide) ?_
          refine lv_istore (lv' := [(4, .int (oI 0)), (0, .ref (a 0)), (1, .int (oI p1)), (2, .int (oI p2)), (3, .int (oI v3))]) hx hb dX7_goes_93 hl (by decide) rfl (fun ls hl => ?_)
          refine x_jp_el h (fun kx22 ekx22 h => ?_)
          have hkx22 : ∀ (x23 : XS) (H : Heap) (locs : List Loc) (ls : Array Slot), kx22 x23 = some z → xmm D (yW T a) A s H locs x23 → lv_has ls 5 [(0, .ref (a 0)), (1, .int (oI p1)), (2, .int (oI p2)), (3, .int (oI v3))] → W p l e { frames := 1, cells := 0, slots := 0, locals := 24 } s m args below meth c H locs 0 0 (xQV below args s D (yW T a) z A) (F0 m 183 ls []) := by
            intro x23 H locs ls h M hl
            rw [ekx22] at h
            dsimp only at h
            refine x_nm h (fun v24 ev24 h => ?_)
            refine lv_iinc (v := oI v24) (lv' := [(3, .int (oI v24)), (0, .ref (a 0)), (1, .int (oI p1)), (2, .int (oI p2))]) hx hb dX7_goes_183 hl (k := 3) rfl (by rw [ev24]; exact oI_add _ _) (by decide) rfl (fun ls hl => ?_)
            refine lv_goto (tgt := 2) hx hb dX7_goes_186 (by decide) ?_
            exact ig5 v24 x23 h H locs ls M (lv_sub hl [1, 2, 3, 0] rfl)
          refine x_loop1_ind (P := fun v25 x26 => ∀ (H : Heap) (locs : List Loc) (ls : Array Slot), xmm D (yW T a) A s H locs x26 → lv_has ls 5 [(0, .ref (a 0)), (1, .int (oI p1)), (2, .int (oI p2)), (3, .int (oI v3)), (4, .int (oI v25))] → W p l e { frames := 1, cells := 0, slots := 0, locals := 24 } s m args below meth c H locs 0 0 (xQV below args s D (yW T a) z A) (F0 m 95 ls [])) (fun g27 ig27 v25 x26 h => ?_) x_fuel 0 x21 h H locs ls M (lv_sub hl [1, 2, 3, 4, 0] rfl)
          intro H locs ls M hl
          unfold b_X7_goes_95 at h
          refine lv_iload hx hb dX7_goes_95 (lv_at hl 4 rfl) ?_
          refine lv_iload_n hx hb dX7_goes_97 rfl (lv_at hl 3 rfl) ?_
          refine z_icmp_ge (tgt := 183) hx hb dX7_goes_98 (by decide) h (fun h => ?_) (fun h => ?_)
          · exact hkx22 x26 H locs ls h M (lv_sub hl [0, 1, 2, 3] rfl)
          · refine lv_aload_n hx hb dX7_goes_101 rfl (lv_at hl 0 rfl) ?_
            refine gf_X7_74 C M dX7_goes_102 ?_
            refine lv_iload hx hb dX7_goes_105 (lv_at hl 4 rfl) ?_
            refine al_y_22 C M dX7_goes_107 h (fun v28 h => ?_)
            refine x_jp_el h (fun jp29 ejp29 h => ?_)
            have hjp29 : ∀ (x30 : XS) (H : Heap) (locs : List Loc) (ls : Array Slot), jp29 x30 = some z → xmm D (yW T a) A s H locs x30 → lv_has ls 5 [(0, .ref (a 0)), (1, .int (oI p1)), (2, .int (oI p2)), (3, .int (oI v3)), (4, .int (oI v25))] → W p l e { frames := 1, cells := 0, slots := 0, locals := 24 } s m args below meth c H locs 0 0 (xQV below args s D (yW T a) z A) (F0 m 177 ls []) := by
              intro x30 H locs ls h M hl
              rw [ejp29] at h
              dsimp only at h
              refine x_nm h (fun v31 ev31 h => ?_)
              refine lv_iinc (v := oI v31) (lv' := [(4, .int (oI v31)), (0, .ref (a 0)), (1, .int (oI p1)), (2, .int (oI p2)), (3, .int (oI v3))]) hx hb dX7_goes_177 hl (k := 4) rfl (by rw [ev31]; exact oI_add _ _) (by decide) rfl (fun ls hl => ?_)
              refine lv_goto (tgt := 95) hx hb dX7_goes_180 (by decide) ?_
              exact ig27 v31 x30 h H locs ls M (lv_sub hl [1, 2, 3, 4, 0] rfl)
            refine z_if_eq (tgt := 177) hx hb dX7_goes_108 (by decide) h (fun h => ?_) (fun h => ?_)
            · exact hjp29 x26 H locs ls h M (lv_sub hl [0, 1, 2, 3, 4] rfl)
            · refine lv_aload_n hx hb dX7_goes_111 rfl (lv_at hl 0 rfl) ?_
              refine lv_iload hx hb dX7_goes_112 (lv_at hl 4 rfl) ?_
              refine lv_iload_n hx hb dX7_goes_114 rfl (lv_at hl 3 rfl) ?_
              refine ci_X7_161 C M h ⟨Nat.le_of_ble_eq_true rfl, Nat.le_of_ble_eq_true rfl⟩ hl.1 (Nat.le_of_ble_eq_true rfl) dX7_goes_115 (fun r32 H locs x33 M nr32 h => ?_)
              refine z_if_ne (tgt := 124) hx hb dX7_goes_118 (by decide) h (fun h => ?_) (fun h => ?_)
              · refine lv_aload_n hx hb dX7_goes_124 rfl (lv_at hl 0 rfl) ?_
                refine gf_X7_74 C M dX7_goes_125 ?_
                refine lv_iload_n hx hb dX7_goes_128 rfl (lv_at hl 3 rfl) ?_
                refine lv_iconst (v := oI 1) hx hb dX7_goes_129 (by decide) ?_
                refine as_y_22 C M dX7_goes_130 h (fun H locs x34 M h => ?_)
                refine lv_aload_n hx hb dX7_goes_131 rfl (lv_at hl 0 rfl) ?_
                refine gf_X7_68 C M dX7_goes_132 ?_
                refine lv_iload_n hx hb dX7_goes_135 rfl (lv_at hl 3 rfl) ?_
                refine lv_aload_n hx hb dX7_goes_136 rfl (lv_at hl 0 rfl) ?_
                refine gf_X7_68 C M dX7_goes_137 ?_
                refine lv_iload_n hx hb dX7_goes_140 rfl (lv_at hl 3 rfl) ?_
                refine al_y_20 C M dX7_goes_141 h (fun v35 h => ?_)
                refine lv_aload_n hx hb dX7_goes_142 rfl (lv_at hl 0 rfl) ?_
                refine gf_X7_68 C M dX7_goes_143 ?_
                refine lv_iload hx hb dX7_goes_146 (lv_at hl 4 rfl) ?_
                refine al_y_20 C M dX7_goes_148 h (fun v36 h => ?_)
                refine va_mmax (own := RX7) hx hb (C.2.2.1.trans hl.1.symm) C.2.2.2.1 (C.2.2.2.2.1 _ bw_934) (C.2.2.2.2.1 _ bw_607) (C.2.2.2.2.1 _ bw_92) (C.2.2.2.2.1 _ bw_608) (Nat.le_of_ble_eq_true rfl) (Nat.le_of_ble_eq_true rfl) (Nat.zero_le _) (Nat.zero_le _) dX7_goes_149 ?_
                refine x_topM h (fun v37 h => ?_)
                refine as_y_20 C M dX7_goes_152 h (fun H locs x38 M h => ?_)
                refine lv_aload_n hx hb dX7_goes_153 rfl (lv_at hl 0 rfl) ?_
                refine gf_X7_71 C M dX7_goes_154 ?_
                refine lv_iload_n hx hb dX7_goes_157 rfl (lv_at hl 3 rfl) ?_
                refine lv_aload_n hx hb dX7_goes_158 rfl (lv_at hl 0 rfl) ?_
                refine gf_X7_71 C M dX7_goes_159 ?_
                refine lv_iload_n hx hb dX7_goes_162 rfl (lv_at hl 3 rfl) ?_
                refine al_y_21 C M dX7_goes_163 h (fun v39 h => ?_)
                refine lv_aload_n hx hb dX7_goes_164 rfl (lv_at hl 0 rfl) ?_
                refine gf_X7_71 C M dX7_goes_165 ?_
                refine lv_iload hx hb dX7_goes_168 (lv_at hl 4 rfl) ?_
                refine al_y_21 C M dX7_goes_170 h (fun v40 h => ?_)
                refine lv_iconst (v := oI 1) hx hb dX7_goes_171 (by decide) ?_
                refine z_iadd hx hb dX7_goes_172 ?_
                refine va_mmin (own := RX7) hx hb (C.2.2.1.trans hl.1.symm) C.2.2.2.1 (C.2.2.2.2.1 _ bw_935) (C.2.2.2.2.1 _ bw_512) (C.2.2.2.2.1 _ bw_92) (C.2.2.2.2.1 _ bw_513) (Nat.le_of_ble_eq_true rfl) (Nat.le_of_ble_eq_true rfl) (Nat.zero_le _) (Nat.zero_le _) dX7_goes_173 ?_
                refine x_topm h (fun v41 h => ?_)
                refine as_y_21 C M dX7_goes_176 h (fun H locs x42 M h => ?_)
                exact hjp29 x42 H locs ls h M (lv_sub hl [0, 1, 2, 3, 4] rfl)
              · refine lv_goto (tgt := 177) hx hb dX7_goes_121 (by decide) ?_
                exact hjp29 x33 H locs ls h M (lv_sub hl [0, 1, 2, 3, 4] rfl)
        refine z_if_eq (tgt := 89) hx hb dX7_goes_82 (by decide) h (fun h => ?_) (fun h => ?_)
        · refine lv_ldc (own := RX7) (v := oI 1000000) hx hb C.2.2.2.1 (by rw [← oI_M]; exact C.2.2.2.2.1 _ bw_929) dX7_goes_89 ?_
          exact hjp18 1000000 x16 H locs ls h M (lv_sub hl [0, 1, 2, 3] rfl)
        · refine lv_iconst (v := oI 1) hx hb dX7_goes_85 (by decide) ?_
          refine lv_goto (tgt := 91) hx hb dX7_goes_86 (by decide) ?_
          exact hjp18 1 x16 H locs ls h M (lv_sub hl [0, 1, 2, 3] rfl)
      refine z_if_eq (tgt := 69) hx hb dX7_goes_57 (by decide) h (fun h => ?_) (fun h => ?_)
      · refine lv_iconst (v := oI (-1)) hx hb dX7_goes_69 (by decide) ?_
        exact hjp13 (-1) x11 H locs ls h M (lv_sub hl [0, 1, 2, 3] rfl)
      · refine lv_aload_n hx hb dX7_goes_60 rfl (lv_at hl 0 rfl) ?_
        refine gf_X7_62 C M dX7_goes_61 ?_
        refine lv_iload_n hx hb dX7_goes_64 rfl (lv_at hl 3 rfl) ?_
        refine al_y_18 C M dX7_goes_65 h (fun v43 h => ?_)
        refine lv_goto (tgt := 70) hx hb dX7_goes_66 (by decide) ?_
        exact hjp13 v43 x11 H locs ls h M (lv_sub hl [0, 1, 2, 3] rfl)
    refine x_jp_el h (fun jp44 ejp44 h => ?_)
    have hjp44 : ∀ (x45 : XS) (H : Heap) (locs : List Loc) (ls : Array Slot), jp44 x45 = some z → xmm D (yW T a) A s H locs x45 → lv_has ls 5 [(0, .ref (a 0)), (1, .int (oI p1)), (2, .int (oI p2)), (3, .int (oI v3))] → W p l e { frames := 1, cells := 0, slots := 0, locals := 24 } s m args below meth c H locs 0 0 (xQV below args s D (yW T a) z A) (F0 m 44 ls [.int (oI v3), .ref (a 22)]) := by
      intro x45 H locs ls h M hl
      rw [ejp44] at h
      dsimp only at h
      refine lv_iconst (v := oI 0) hx hb dX7_goes_44 (by decide) ?_
      exact hjp8 0 x45 H locs ls h M (lv_sub hl [0, 1, 2, 3] rfl)
    refine z_icmp_ne (tgt := 44) hx hb dX7_goes_27 (by decide) h (fun h => ?_) (fun h => ?_)
    · exact hjp44 x4 H locs ls h M (lv_sub hl [0, 1, 2, 3] rfl)
    · refine lv_aload_n hx hb dX7_goes_30 rfl (lv_at hl 0 rfl) ?_
      refine gf_X7_62 C M dX7_goes_31 ?_
      refine lv_iload_n hx hb dX7_goes_34 rfl (lv_at hl 3 rfl) ?_
      refine al_y_18 C M dX7_goes_35 h (fun v46 h => ?_)
      refine lv_iload_n hx hb dX7_goes_36 rfl (lv_at hl 2 rfl) ?_
      refine z_icmp_lt (tgt := 44) hx hb dX7_goes_37 (by decide) h (fun h => ?_) (fun h => ?_)
      · exact hjp44 x4 H locs ls h M (lv_sub hl [0, 1, 2, 3] rfl)
      · refine lv_iconst (v := oI 1) hx hb dX7_goes_40 (by decide) ?_
        refine lv_goto (tgt := 45) hx hb dX7_goes_41 (by decide) ?_
        exact hjp8 1 x4 H locs ls h M (lv_sub hl [0, 1, 2, 3] rfl)
set_option maxHeartbeats 4000000 in
set_option maxRecDepth 100000 in
theorem c_X7_firstOf {l : Launch} {D : va_G} {T : ClassId × ClassId} {a : Nat → Nat} {x : XS} {p1 : Int} {z : Int × XS} (h : f_X7_firstOf x p1 = some z) (sz : Nat) : xMetI l yX7_firstOf cX7_firstOf 4 .int { frames := 1, cells := 0, slots := 0, locals := 21 } D T (yW T a) sz [.ref (a 0), .int (oI p1)] x z := by
  refine xMetI_of (by decide) (Nat.le_of_ble_eq_true rfl) (yW_ad T a) ?_
  intro p e s m args below meth c A ls C hr M hl
  have hx := C.1
  have hb := C.2.1
  have hl : lv_has ls 4 [(0, .ref (a 0)), (1, .int (oI p1))] := hl
  have C : xcx RX7 cX7_firstOf 4 D T (yW T a) A p s m args meth c := C
  revert hl M
  generalize ([] : List Loc) = locs
  generalize s.heap = H
  intro M hl
  unfold f_X7_firstOf at h
  refine lv_ldc (own := RX7) (v := oI 1000000) hx hb C.2.2.2.1 (by rw [← oI_M]; exact C.2.2.2.2.1 _ bw_929) dX7_firstOf_0 ?_
  refine lv_istore_n (lv' := [(2, .int (oI 1000000)), (0, .ref (a 0)), (1, .int (oI p1))]) hx hb dX7_firstOf_2 rfl hl (by decide) rfl (fun ls hl => ?_)
  refine lv_iconst (v := oI 0) hx hb dX7_firstOf_3 (by decide) ?_
  refine lv_istore_n (lv' := [(3, .int (oI 0)), (2, .int (oI 1000000)), (0, .ref (a 0)), (1, .int (oI p1))]) hx hb dX7_firstOf_4 rfl hl (by decide) rfl (fun ls hl => ?_)
  refine x_jp_el h (fun kx1 ekx1 h => ?_)
  have hkx1 : ∀ (v2 : Int) (x3 : XS) (H : Heap) (locs : List Loc) (ls : Array Slot), kx1 v2 x3 = some z → xmm D (yW T a) A s H locs x3 → lv_has ls 4 [(2, .int (oI v2))] → W p l e { frames := 1, cells := 0, slots := 0, locals := 21 } s m args below meth c H locs 0 0 (xQI below args s D (yW T a) .int z A) (F0 m 54 ls []) := by
    intro v2 x3 H locs ls h M hl
    rw [ekx1] at h
    dsimp only at h
    refine lv_iload_n hx hb dX7_firstOf_54 rfl (lv_at hl 0 rfl) ?_
    exact xretI C hr M h rfl dX7_firstOf_55
  refine x_loop2_ind (P := fun v4 v5 x6 => ∀ (H : Heap) (locs : List Loc) (ls : Array Slot), xmm D (yW T a) A s H locs x6 → lv_has ls 4 [(0, .ref (a 0)), (1, .int (oI p1)), (2, .int (oI v4)), (3, .int (oI v5))] → W p l e { frames := 1, cells := 0, slots := 0, locals := 21 } s m args below meth c H locs 0 0 (xQI below args s D (yW T a) .int z A) (F0 m 5 ls [])) (fun g7 ig7 v4 v5 x6 h => ?_) x_fuel 1000000 0 x h H locs ls M (lv_sub hl [2, 3, 1, 0] rfl)
  intro H locs ls M hl
  unfold b_X7_firstOf_5 at h
  refine lv_iload_n hx hb dX7_firstOf_5 rfl (lv_at hl 3 rfl) ?_
  refine lv_aload_n hx hb dX7_firstOf_6 rfl (lv_at hl 0 rfl) ?_
  refine gf_X7_150 C M dX7_firstOf_7 ?_
  refine z_icmp_ge (tgt := 54) hx hb dX7_firstOf_10 (by decide) h (fun h => ?_) (fun h => ?_)
  · exact hkx1 v4 x6 H locs ls h M (lv_sub hl [2] rfl)
  · refine lv_aload_n hx hb dX7_firstOf_13 rfl (lv_at hl 0 rfl) ?_
    refine gf_X7_74 C M dX7_firstOf_14 ?_
    refine lv_iload_n hx hb dX7_firstOf_17 rfl (lv_at hl 3 rfl) ?_
    refine al_y_22 C M dX7_firstOf_18 h (fun v8 h => ?_)
    refine x_jp_el h (fun jp9 ejp9 h => ?_)
    have hjp9 : ∀ (v10 : Int) (x11 : XS) (H : Heap) (locs : List Loc) (ls : Array Slot), jp9 v10 x11 = some z → xmm D (yW T a) A s H locs x11 → lv_has ls 4 [(0, .ref (a 0)), (1, .int (oI p1)), (2, .int (oI v10)), (3, .int (oI v5))] → W p l e { frames := 1, cells := 0, slots := 0, locals := 21 } s m args below meth c H locs 0 0 (xQI below args s D (yW T a) .int z A) (F0 m 48 ls []) := by
      intro v10 x11 H locs ls h M hl
      rw [ejp9] at h
      dsimp only at h
      refine x_nm h (fun v12 ev12 h => ?_)
      refine lv_iinc (v := oI v12) (lv' := [(3, .int (oI v12)), (0, .ref (a 0)), (1, .int (oI p1)), (2, .int (oI v10))]) hx hb dX7_firstOf_48 hl (k := 3) rfl (by rw [ev12]; exact oI_add _ _) (by decide) rfl (fun ls hl => ?_)
      refine lv_goto (tgt := 5) hx hb dX7_firstOf_51 (by decide) ?_
      exact ig7 v10 v12 x11 h H locs ls M (lv_sub hl [1, 2, 3, 0] rfl)
    refine z_if_eq (tgt := 48) hx hb dX7_firstOf_19 (by decide) h (fun h => ?_) (fun h => ?_)
    · exact hjp9 v4 x6 H locs ls h M (lv_sub hl [0, 1, 2, 3] rfl)
    · refine lv_aload_n hx hb dX7_firstOf_22 rfl (lv_at hl 0 rfl) ?_
      refine gf_X7_19 C M dX7_firstOf_23 ?_
      refine lv_aload_n hx hb dX7_firstOf_26 rfl (lv_at hl 0 rfl) ?_
      refine gf_X7_56 C M dX7_firstOf_27 ?_
      refine lv_iload_n hx hb dX7_firstOf_30 rfl (lv_at hl 3 rfl) ?_
      refine al_y_16 C M dX7_firstOf_31 h (fun v13 h => ?_)
      refine al_y_4 C M dX7_firstOf_32 h (fun v14 h => ?_)
      refine lv_iload_n hx hb dX7_firstOf_33 rfl (lv_at hl 1 rfl) ?_
      refine z_icmp_ne (tgt := 48) hx hb dX7_firstOf_34 (by decide) h (fun h => ?_) (fun h => ?_)
      · exact hjp9 v4 x6 H locs ls h M (lv_sub hl [0, 1, 2, 3] rfl)
      · refine lv_iload_n hx hb dX7_firstOf_37 rfl (lv_at hl 2 rfl) ?_
        refine lv_aload_n hx hb dX7_firstOf_38 rfl (lv_at hl 0 rfl) ?_
        refine gf_X7_65 C M dX7_firstOf_39 ?_
        refine lv_iload_n hx hb dX7_firstOf_42 rfl (lv_at hl 3 rfl) ?_
        refine al_y_19 C M dX7_firstOf_43 h (fun v15 h => ?_)
        refine va_mmin (own := RX7) hx hb (C.2.2.1.trans hl.1.symm) C.2.2.2.1 (C.2.2.2.2.1 _ bw_935) (C.2.2.2.2.1 _ bw_512) (C.2.2.2.2.1 _ bw_92) (C.2.2.2.2.1 _ bw_513) (Nat.le_of_ble_eq_true rfl) (Nat.le_of_ble_eq_true rfl) (Nat.zero_le _) (Nat.zero_le _) dX7_firstOf_44 ?_
        refine x_topm h (fun v16 h => ?_)
        refine lv_istore_n (lv' := [(2, .int (oI v16)), (0, .ref (a 0)), (1, .int (oI p1)), (3, .int (oI v5))]) hx hb dX7_firstOf_47 rfl hl (by decide) rfl (fun ls hl => ?_)
        exact hjp9 v16 x6 H locs ls h M (lv_sub hl [1, 2, 0, 3] rfl)
set_option maxHeartbeats 4000000 in
set_option maxRecDepth 100000 in
theorem c_X7_asked {l : Launch} {D : va_G} {T : ClassId × ClassId} {a : Nat → Nat} {x : XS} {p1 : Int} {p2 : Int} {p3 : Int} {p4 : Int} {p5 : Int} {z : Int × XS} (h : f_X7_asked x p1 p2 p3 p4 p5 = some z) (sz : Nat) : xMetI l yX7_asked cX7_asked 6 .int { frames := 1, cells := 0, slots := 0, locals := 21 } D T (yW T a) sz [.ref (a 0), .int (oI p1), .int (oI p2), .int (oI p3), .int (oI p4), .int (oI p5)] x z := by
  refine xMetI_of (by decide) (Nat.le_of_ble_eq_true rfl) (yW_ad T a) ?_
  intro p e s m args below meth c A ls C hr M hl
  have hx := C.1
  have hb := C.2.1
  have hl : lv_has ls 6 [(0, .ref (a 0)), (1, .int (oI p1)), (2, .int (oI p2)), (3, .int (oI p3)), (4, .int (oI p4)), (5, .int (oI p5))] := hl
  have C : xcx RX7 cX7_asked 6 D T (yW T a) A p s m args meth c := C
  revert hl M
  generalize ([] : List Loc) = locs
  generalize s.heap = H
  intro M hl
  unfold f_X7_asked at h
  refine lv_aload_n hx hb dX7_asked_0 rfl (lv_at hl 0 rfl) ?_
  refine lv_iload_n hx hb dX7_asked_1 rfl (lv_at hl 1 rfl) ?_
  refine ci_X7_113 C M h ⟨Nat.le_of_ble_eq_true rfl, Nat.le_of_ble_eq_true rfl⟩ hl.1 (Nat.le_of_ble_eq_true rfl) dX7_asked_2 (fun r1 H locs x2 M nr1 h => ?_)
  refine z_if_eq (tgt := 21) hx hb dX7_asked_5 (by decide) h (fun h => ?_) (fun h => ?_)
  · refine lv_iconst (v := oI 1) hx hb dX7_asked_21 (by decide) ?_
    exact xretI C hr M h rfl dX7_asked_22
  · refine lv_aload_n hx hb dX7_asked_8 rfl (lv_at hl 0 rfl) ?_
    refine lv_iload_n hx hb dX7_asked_9 rfl (lv_at hl 2 rfl) ?_
    refine ci_X7_113 C M h ⟨Nat.le_of_ble_eq_true rfl, Nat.le_of_ble_eq_true rfl⟩ hl.1 (Nat.le_of_ble_eq_true rfl) dX7_asked_10 (fun r3 H locs x4 M nr3 h => ?_)
    refine z_if_eq (tgt := 21) hx hb dX7_asked_13 (by decide) h (fun h => ?_) (fun h => ?_)
    · refine lv_iconst (v := oI 1) hx hb dX7_asked_21 (by decide) ?_
      exact xretI C hr M h rfl dX7_asked_22
    · refine lv_iload_n hx hb dX7_asked_16 rfl (lv_at hl 1 rfl) ?_
      refine lv_iload_n hx hb dX7_asked_17 rfl (lv_at hl 2 rfl) ?_
      refine z_icmp_ne (tgt := 23) hx hb dX7_asked_18 (by decide) h (fun h => ?_) (fun h => ?_)
      · refine lv_iload_n hx hb dX7_asked_23 rfl (lv_at hl 3 rfl) ?_
        refine ci_X7_123 C M h ⟨Nat.le_of_ble_eq_true rfl, Nat.le_of_ble_eq_true rfl⟩ hl.1 (Nat.le_of_ble_eq_true rfl) dX7_asked_24 (fun r5 H locs x6 M nr5 h => ?_)
        refine z_if_eq (tgt := 38) hx hb dX7_asked_27 (by decide) h (fun h => ?_) (fun h => ?_)
        · refine lv_iconst (v := oI 2) hx hb dX7_asked_38 (by decide) ?_
          exact xretI C hr M h rfl dX7_asked_39
        · refine lv_iload hx hb dX7_asked_30 (lv_at hl 4 rfl) ?_
          refine ci_X7_123 C M h ⟨Nat.le_of_ble_eq_true rfl, Nat.le_of_ble_eq_true rfl⟩ hl.1 (Nat.le_of_ble_eq_true rfl) dX7_asked_32 (fun r7 H locs x8 M nr7 h => ?_)
          refine z_if_ne (tgt := 40) hx hb dX7_asked_35 (by decide) h (fun h => ?_) (fun h => ?_)
          · refine lv_iload hx hb dX7_asked_40 (lv_at hl 5 rfl) ?_
            refine x_jp_el h (fun jp9 ejp9 h => ?_)
            have hjp9 : ∀ (x10 : XS) (H : Heap) (locs : List Loc) (ls : Array Slot), jp9 x10 = some z → xmm D (yW T a) A s H locs x10 → lv_has ls 6 [] → W p l e { frames := 1, cells := 0, slots := 0, locals := 21 } s m args below meth c H locs 0 0 (xQI below args s D (yW T a) .int z A) (F0 m 54 ls []) := by
              intro x10 H locs ls h M hl
              rw [ejp9] at h
              dsimp only at h
              refine lv_bipush (v := oI 6) hx hb dX7_asked_54 (by decide) ?_
              refine lv_goto (tgt := 60) hx hb dX7_asked_56 (by decide) ?_
              exact xretI C hr M h rfl dX7_asked_60
            refine z_if_lt (tgt := 54) hx hb dX7_asked_42 (by decide) h (fun h => ?_) (fun h => ?_)
            · exact hjp9 x8 H locs ls h M (lv_sub hl [] rfl)
            · refine lv_iload hx hb dX7_asked_45 (lv_at hl 5 rfl) ?_
              refine lv_aload_n hx hb dX7_asked_47 rfl (lv_at hl 0 rfl) ?_
              refine gf_X7_120 C M dX7_asked_48 ?_
              refine z_icmp_le (tgt := 59) hx hb dX7_asked_51 (by decide) h (fun h => ?_) (fun h => ?_)
              · refine lv_iconst (v := oI 0) hx hb dX7_asked_59 (by decide) ?_
                exact xretI C hr M h rfl dX7_asked_60
              · exact hjp9 x8 H locs ls h M (lv_sub hl [] rfl)
          · refine lv_iconst (v := oI 2) hx hb dX7_asked_38 (by decide) ?_
            exact xretI C hr M h rfl dX7_asked_39
      · refine lv_iconst (v := oI 1) hx hb dX7_asked_21 (by decide) ?_
        exact xretI C hr M h rfl dX7_asked_22
set_option maxHeartbeats 4000000 in
set_option maxRecDepth 100000 in
theorem c_X7_best {l : Launch} {D : va_G} {T : ClassId × ClassId} {a : Nat → Nat} {x : XS} {p1 : Int} {z : Int × XS} (h : f_X7_best x p1 = some z) (sz : Nat) : xMetI l yX7_best cX7_best 2 .int { frames := 1, cells := 0, slots := 0, locals := 21 } D T (yW T a) sz [.ref (a 0), .int (oI p1)] x z := by
  refine xMetI_of (by decide) (Nat.le_of_ble_eq_true rfl) (yW_ad T a) ?_
  intro p e s m args below meth c A ls C hr M hl
  have hx := C.1
  have hb := C.2.1
  have hl : lv_has ls 2 [(0, .ref (a 0)), (1, .int (oI p1))] := hl
  have C : xcx RX7 cX7_best 2 D T (yW T a) A p s m args meth c := C
  revert hl M
  generalize ([] : List Loc) = locs
  generalize s.heap = H
  intro M hl
  unfold f_X7_best at h
  refine lv_iload_n hx hb dX7_best_0 rfl (lv_at hl 1 rfl) ?_
  refine lv_ldc (own := RX7) (v := oI 1000000) hx hb C.2.2.2.1 (by rw [← oI_M]; exact C.2.2.2.2.1 _ bw_929) dX7_best_1 ?_
  refine x_jp_el h (fun jp1 ejp1 h => ?_)
  have hjp1 : ∀ (x2 : XS) (H : Heap) (locs : List Loc) (ls : Array Slot), jp1 x2 = some z → xmm D (yW T a) A s H locs x2 → lv_has ls 2 [(0, .ref (a 0))] → W p l e { frames := 1, cells := 0, slots := 0, locals := 21 } s m args below meth c H locs 0 0 (xQI below args s D (yW T a) .int z A) (F0 m 10 ls []) := by
    intro x2 H locs ls h M hl
    rw [ejp1] at h
    dsimp only at h
    refine lv_aload_n hx hb dX7_best_10 rfl (lv_at hl 0 rfl) ?_
    refine lv_iconst (v := oI 5) hx hb dX7_best_11 (by decide) ?_
    refine ci_X7_109 C M h ⟨Nat.le_of_ble_eq_true rfl, Nat.le_of_ble_eq_true rfl⟩ hl.1 (Nat.le_of_ble_eq_true rfl) dX7_best_12 (fun r3 H locs x4 M nr3 h => ?_)
    refine lv_goto (tgt := 19) hx hb dX7_best_15 (by decide) ?_
    exact xretI C hr M h rfl dX7_best_19
  refine z_icmp_eq (tgt := 10) hx hb dX7_best_3 (by decide) h (fun h => ?_) (fun h => ?_)
  · exact hjp1 x H locs ls h M (lv_sub hl [0] rfl)
  · refine lv_iload_n hx hb dX7_best_6 rfl (lv_at hl 1 rfl) ?_
    refine z_if_ge (tgt := 18) hx hb dX7_best_7 (by decide) h (fun h => ?_) (fun h => ?_)
    · refine lv_iload_n hx hb dX7_best_18 rfl (lv_at hl 1 rfl) ?_
      exact xretI C hr M h rfl dX7_best_19
    · exact hjp1 x H locs ls h M (lv_sub hl [0] rfl)
theorem ci_X7_173 {cc : ByteArray} {nL : Nat} {D : va_G} {T : ClassId × ClassId} {a : Nat → Nat} {A : Nat → Prop} {p : Program} {l : Launch} {e : Env} {R : Room} {s : State} {m : MethodId} {args : Array Value} {below : List Frame} {meth : Method} {c : Code} {H : Heap} {locs : List Loc} {Q : State → Prop} {x : XS} {z : Int × XS} {pc : Nat} {ls : Array Slot} {rest : List Value} (C : xcx RX7 cc nL D T (yW T a) A p s m args meth c) (M : xmm D (yW T a) A s H locs x) {p1 p2 p3 p4 p5 : Int} {K : Int → XS → XR} (h : x_call (f_X7_asked x p1 p2 p3 p4 p5) K = some z) (hR : 1 + 1 ≤ R.frames ∧ 8 + (6 + 11) + 21 ≤ R.locals) (hsz : ls.size = nL) (hrest : (rest.map fun v => v.category).sum ≤ 8) (hdg : decode cc pc = .ok (.invokevirtual 173, 3)) (kk : ∀ (r : Int) (H1 : Heap) (locs1 : List Loc) (x1 : XS), xmm D (yW T a) A s H1 locs1 x1 → narrow .int (.int (oI r)) = .int (oI r) → K r x1 = some z → W p l e R s m args below meth c H1 locs1 0 0 Q (F0 m (pc + 3) ls (.int (oI r) :: rest))) : W p l e R s m args below meth c H locs 0 0 Q (F0 m pc ls (.int (oI p5) :: .int (oI p4) :: .int (oI p3) :: .int (oI p2) :: .int (oI p1) :: .ref (a 0) :: rest)) :=
  xcallI_V (As := [.int (oI p1), .int (oI p2), .int (oI p3), .int (oI p4), .int (oI p5)]) (n := 5) C M (fun zc sz ho => c_X7_asked ho sz) bw_904 bw_901 bw_903 bw_68 bw_91 rfl (by decide +kernel) 0 rfl rfl ⟨rfl, rfl⟩ hR hsz rfl hrest hdg h kk
theorem ci_X7_177 {cc : ByteArray} {nL : Nat} {D : va_G} {T : ClassId × ClassId} {a : Nat → Nat} {A : Nat → Prop} {p : Program} {l : Launch} {e : Env} {R : Room} {s : State} {m : MethodId} {args : Array Value} {below : List Frame} {meth : Method} {c : Code} {H : Heap} {locs : List Loc} {Q : State → Prop} {x : XS} {z : Int × XS} {pc : Nat} {ls : Array Slot} {rest : List Value} (C : xcx RX7 cc nL D T (yW T a) A p s m args meth c) (M : xmm D (yW T a) A s H locs x) {p1 p2 : Int} {K : Int → XS → XR} (h : x_call (f_X7_lay x p1 p2) K = some z) (hR : 2 + 1 ≤ R.frames ∧ 8 + (7 + 11) + 48 ≤ R.locals) (hsz : ls.size = nL) (hrest : (rest.map fun v => v.category).sum ≤ 8) (hdg : decode cc pc = .ok (.invokevirtual 177, 3)) (kk : ∀ (H1 : Heap) (locs1 : List Loc) (x1 : XS), xmm D (yW T a) A s H1 locs1 x1 → K 0 x1 = some z → W p l e R s m args below meth c H1 locs1 0 0 Q (F0 m (pc + 3) ls rest)) : W p l e R s m args below meth c H locs 0 0 Q (F0 m pc ls (.int (oI p2) :: .int (oI p1) :: .ref (a 0) :: rest)) :=
  xcallV_V (As := [.int (oI p1), .int (oI p2)]) (n := 2) C M (fun zc sz ho => c_X7_lay ho sz) bw_908 bw_905 bw_907 bw_69 bw_91 rfl (by decide +kernel) 0 rfl rfl ⟨rfl, rfl⟩ hR hsz rfl hrest hdg h kk
theorem ci_X7_181 {cc : ByteArray} {nL : Nat} {D : va_G} {T : ClassId × ClassId} {a : Nat → Nat} {A : Nat → Prop} {p : Program} {l : Launch} {e : Env} {R : Room} {s : State} {m : MethodId} {args : Array Value} {below : List Frame} {meth : Method} {c : Code} {H : Heap} {locs : List Loc} {Q : State → Prop} {x : XS} {z : Int × XS} {pc : Nat} {ls : Array Slot} {rest : List Value} (C : xcx RX7 cc nL D T (yW T a) A p s m args meth c) (M : xmm D (yW T a) A s H locs x) {p1 p2 : Int} {K : Int → XS → XR} (h : x_call (f_X7_goes x p1 p2) K = some z) (hR : 1 + 1 ≤ R.frames ∧ 8 + (5 + 11) + 24 ≤ R.locals) (hsz : ls.size = nL) (hrest : (rest.map fun v => v.category).sum ≤ 8) (hdg : decode cc pc = .ok (.invokevirtual 181, 3)) (kk : ∀ (H1 : Heap) (locs1 : List Loc) (x1 : XS), xmm D (yW T a) A s H1 locs1 x1 → K 0 x1 = some z → W p l e R s m args below meth c H1 locs1 0 0 Q (F0 m (pc + 3) ls rest)) : W p l e R s m args below meth c H locs 0 0 Q (F0 m pc ls (.int (oI p2) :: .int (oI p1) :: .ref (a 0) :: rest)) :=
  xcallV_V (As := [.int (oI p1), .int (oI p2)]) (n := 2) C M (fun zc sz ho => c_X7_goes ho sz) bw_928 bw_925 bw_927 bw_74 bw_91 rfl (by decide +kernel) 0 rfl rfl ⟨rfl, rfl⟩ hR hsz rfl hrest hdg h kk
theorem ci_X7_184 {cc : ByteArray} {nL : Nat} {D : va_G} {T : ClassId × ClassId} {a : Nat → Nat} {A : Nat → Prop} {p : Program} {l : Launch} {e : Env} {R : Room} {s : State} {m : MethodId} {args : Array Value} {below : List Frame} {meth : Method} {c : Code} {H : Heap} {locs : List Loc} {Q : State → Prop} {x : XS} {z : Int × XS} {pc : Nat} {ls : Array Slot} {rest : List Value} (C : xcx RX7 cc nL D T (yW T a) A p s m args meth c) (M : xmm D (yW T a) A s H locs x) {p1 : Int} {K : Int → XS → XR} (h : x_call (f_X7_firstOf x p1) K = some z) (hR : 1 + 1 ≤ R.frames ∧ 8 + (4 + 11) + 21 ≤ R.locals) (hsz : ls.size = nL) (hrest : (rest.map fun v => v.category).sum ≤ 8) (hdg : decode cc pc = .ok (.invokevirtual 184, 3)) (kk : ∀ (r : Int) (H1 : Heap) (locs1 : List Loc) (x1 : XS), xmm D (yW T a) A s H1 locs1 x1 → narrow .int (.int (oI r)) = .int (oI r) → K r x1 = some z → W p l e R s m args below meth c H1 locs1 0 0 Q (F0 m (pc + 3) ls (.int (oI r) :: rest))) : W p l e R s m args below meth c H locs 0 0 Q (F0 m pc ls (.int (oI p1) :: .ref (a 0) :: rest)) :=
  xcallI_V (As := [.int (oI p1)]) (n := 1) C M (fun zc sz ho => c_X7_firstOf ho sz) bw_939 bw_936 bw_938 bw_76 bw_91 rfl (by decide +kernel) 0 rfl rfl ⟨rfl, rfl⟩ hR hsz rfl hrest hdg h kk
theorem ci_X7_187 {cc : ByteArray} {nL : Nat} {D : va_G} {T : ClassId × ClassId} {a : Nat → Nat} {A : Nat → Prop} {p : Program} {l : Launch} {e : Env} {R : Room} {s : State} {m : MethodId} {args : Array Value} {below : List Frame} {meth : Method} {c : Code} {H : Heap} {locs : List Loc} {Q : State → Prop} {x : XS} {z : Int × XS} {pc : Nat} {ls : Array Slot} {rest : List Value} (C : xcx RX7 cc nL D T (yW T a) A p s m args meth c) (M : xmm D (yW T a) A s H locs x) {p1 : Int} {K : Int → XS → XR} (h : x_call (f_X7_best x p1) K = some z) (hR : 1 + 1 ≤ R.frames ∧ 8 + (2 + 11) + 21 ≤ R.locals) (hsz : ls.size = nL) (hrest : (rest.map fun v => v.category).sum ≤ 8) (hdg : decode cc pc = .ok (.invokevirtual 187, 3)) (kk : ∀ (r : Int) (H1 : Heap) (locs1 : List Loc) (x1 : XS), xmm D (yW T a) A s H1 locs1 x1 → narrow .int (.int (oI r)) = .int (oI r) → K r x1 = some z → W p l e R s m args below meth c H1 locs1 0 0 Q (F0 m (pc + 3) ls (.int (oI r) :: rest))) : W p l e R s m args below meth c H locs 0 0 Q (F0 m pc ls (.int (oI p1) :: .ref (a 0) :: rest)) :=
  xcallI_V (As := [.int (oI p1)]) (n := 1) C M (fun zc sz ho => c_X7_best ho sz) bw_943 bw_940 bw_942 bw_77 bw_91 rfl (by decide +kernel) 0 rfl rfl ⟨rfl, rfl⟩ hR hsz rfl hrest hdg h kk
set_option maxHeartbeats 4000000 in
set_option maxRecDepth 100000 in
theorem c_X7_first {l : Launch} {D : va_G} {T : ClassId × ClassId} {a : Nat → Nat} {x : XS} {p1 : Int} {p2 : Int} {p3 : Int} {p4 : Int} {z : Int × XS} (h : f_X7_first x p1 p2 p3 p4 = some z) (sz : Nat) : xMetI l yX7_first cX7_first 5 .int { frames := 3, cells := 0, slots := 0, locals := 74 } D T (yW T a) sz [.ref (a 0), .int (oI p1), .int (oI p2), .int (oI p3), .int (oI p4)] x z := by
  refine xMetI_of (by decide) (Nat.le_of_ble_eq_true rfl) (yW_ad T a) ?_
  intro p e s m args below meth c A ls C hr M hl
  have hx := C.1
  have hb := C.2.1
  have hl : lv_has ls 5 [(0, .ref (a 0)), (1, .int (oI p1)), (2, .int (oI p2)), (3, .int (oI p3)), (4, .int (oI p4))] := hl
  have C : xcx RX7 cX7_first 5 D T (yW T a) A p s m args meth c := C
  revert hl M
  generalize ([] : List Loc) = locs
  generalize s.heap = H
  intro M hl
  unfold f_X7_first at h
  refine lv_aload_n hx hb dX7_first_0 rfl (lv_at hl 0 rfl) ?_
  refine lv_iconst (v := oI 0) hx hb dX7_first_1 (by decide) ?_
  refine pf_X7_92 C M dX7_first_2 h (fun H locs x1 M h => ?_)
  refine lv_aload_n hx hb dX7_first_5 rfl (lv_at hl 0 rfl) ?_
  refine lv_aload_n hx hb dX7_first_6 rfl (lv_at hl 0 rfl) ?_
  refine lv_iload_n hx hb dX7_first_7 rfl (lv_at hl 1 rfl) ?_
  refine lv_iload_n hx hb dX7_first_8 rfl (lv_at hl 2 rfl) ?_
  refine lv_iload_n hx hb dX7_first_9 rfl (lv_at hl 3 rfl) ?_
  refine lv_iload_n hx hb dX7_first_10 rfl (lv_at hl 3 rfl) ?_
  refine lv_iload hx hb dX7_first_11 (lv_at hl 4 rfl) ?_
  refine ci_X7_173 C M h ⟨Nat.le_of_ble_eq_true rfl, Nat.le_of_ble_eq_true rfl⟩ hl.1 (Nat.le_of_ble_eq_true rfl) dX7_first_13 (fun r2 H locs x3 M nr2 h => ?_)
  refine pf_X7_96 C M dX7_first_16 h (fun H locs x4 M h => ?_)
  refine lv_aload_n hx hb dX7_first_19 rfl (lv_at hl 0 rfl) ?_
  refine gf_X7_96 C M dX7_first_20 ?_
  refine z_if_le (tgt := 28) hx hb dX7_first_23 (by decide) h (fun h => ?_) (fun h => ?_)
  · refine lv_aload_n hx hb dX7_first_28 rfl (lv_at hl 0 rfl) ?_
    refine lv_iload hx hb dX7_first_29 (lv_at hl 4 rfl) ?_
    refine lv_iconst (v := oI (-1)) hx hb dX7_first_31 (by decide) ?_
    refine ci_X7_177 C M h ⟨Nat.le_of_ble_eq_true rfl, Nat.le_of_ble_eq_true rfl⟩ hl.1 (Nat.le_of_ble_eq_true rfl) dX7_first_32 (fun H locs x6 M h => ?_)
    refine lv_aload_n hx hb dX7_first_35 rfl (lv_at hl 0 rfl) ?_
    refine lv_iload_n hx hb dX7_first_36 rfl (lv_at hl 1 rfl) ?_
    refine lv_iload_n hx hb dX7_first_37 rfl (lv_at hl 3 rfl) ?_
    refine ci_X7_181 C M h ⟨Nat.le_of_ble_eq_true rfl, Nat.le_of_ble_eq_true rfl⟩ hl.1 (Nat.le_of_ble_eq_true rfl) dX7_first_38 (fun H locs x8 M h => ?_)
    refine lv_aload_n hx hb dX7_first_41 rfl (lv_at hl 0 rfl) ?_
    refine lv_aload_n hx hb dX7_first_42 rfl (lv_at hl 0 rfl) ?_
    refine lv_iload_n hx hb dX7_first_43 rfl (lv_at hl 2 rfl) ?_
    refine ci_X7_184 C M h ⟨Nat.le_of_ble_eq_true rfl, Nat.le_of_ble_eq_true rfl⟩ hl.1 (Nat.le_of_ble_eq_true rfl) dX7_first_44 (fun r9 H locs x10 M nr9 h => ?_)
    refine ci_X7_187 C M h ⟨Nat.le_of_ble_eq_true rfl, Nat.le_of_ble_eq_true rfl⟩ hl.1 (Nat.le_of_ble_eq_true rfl) dX7_first_47 (fun r11 H locs x12 M nr11 h => ?_)
    exact xretI C hr M h rfl dX7_first_50
  · refine lv_iconst (v := oI (-1)) hx hb dX7_first_26 (by decide) ?_
    exact xretI C hr M h rfl dX7_first_27
