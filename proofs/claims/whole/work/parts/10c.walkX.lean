theorem ci_X5_131 {cc : ByteArray} {nL : Nat} {D : va_G} {T : ClassId × ClassId} {a : Nat → Nat} {A : Nat → Prop} {p : Program} {l : Launch} {e : Env} {R : Room} {s : State} {m : MethodId} {args : Array Value} {below : List Frame} {meth : Method} {c : Code} {H : Heap} {locs : List Loc} {Q : State → Prop} {x : XS} {z : Int × XS} {pc : Nat} {ls : Array Slot} {rest : List Value} (C : xcx RX5 cc nL D T (xW T a) A p s m args meth c) (M : xmm D (xW T a) A s H locs x) {p1 p2 p3 : Int} {K : Int → XS → XR} (h : x_call (f_X1_isClosing x p1 p2 p3) K = some z) (hR : 0 + 1 ≤ R.frames ∧ 8 + (4 + 11) + 0 ≤ R.locals) (hsz : ls.size = nL) (hrest : (rest.map fun v => v.category).sum ≤ 8) (hdg : decode cc pc = .ok (.invokevirtual 131, 3)) (kk : ∀ (r : Int) (H1 : Heap) (locs1 : List Loc) (x1 : XS), xmm D (xW T a) A s H1 locs1 x1 → narrow .boolean (.int (oI r)) = .int (oI r) → K r x1 = some z → W p l e R s m args below meth c H1 locs1 0 0 Q (F0 m (pc + 3) ls (.int (oI r) :: rest))) : W p l e R s m args below meth c H locs 0 0 Q (F0 m pc ls (.int (oI p3) :: .int (oI p2) :: .int (oI p1) :: .ref (a 3) :: rest)) :=
  xcallI_N (As := [.int (oI p1), .int (oI p2), .int (oI p3)]) (n := 3) C M (fun zc sz ho => c_X1_isClosing ho sz) bw_502 bw_499 bw_501 bw_24 bw_87 rfl (by decide +kernel) 3 rfl rfl ⟨rfl, rfl⟩ hR hsz rfl hrest hdg h kk
set_option maxHeartbeats 4000000 in
set_option maxRecDepth 100000 in
theorem c_X5_isClosed {l : Launch} {D : va_G} {T : ClassId × ClassId} {a : Nat → Nat} {x : XS} {p1 : Int} {p2 : Int} {z : Int × XS} (h : f_X5_isClosed x p1 p2 = some z) (sz : Nat) : xMetI l yX5_isClosed cX5_isClosed 4 .boolean { frames := 1, cells := 0, slots := 0, locals := 23 } D T (xW T a) sz [.ref (a 4), .int (oI p1), .int (oI p2)] x z := by
  refine xMetI_of (by decide) (Nat.le_of_ble_eq_true rfl) (xW_ad T a) ?_
  intro p e s m args below meth c A ls C hr M hl
  have hx := C.1
  have hb := C.2.1
  have hl : lv_has ls 4 [(0, .ref (a 4)), (1, .int (oI p1)), (2, .int (oI p2))] := hl
  have C : xcx RX5 cX5_isClosed 4 D T (xW T a) A p s m args meth c := C
  revert hl M
  generalize ([] : List Loc) = locs
  generalize s.heap = H
  intro M hl
  unfold f_X5_isClosed at h
  refine lv_iconst (v := oI 0) hx hb dX5_isClosed_0 (by decide) ?_
  refine lv_istore_n (lv' := [(3, .int (oI 0)), (0, .ref (a 4)), (1, .int (oI p1)), (2, .int (oI p2))]) hx hb dX5_isClosed_1 rfl hl (by decide) rfl (fun ls hl => ?_)
  refine x_jp_el h (fun kx1 ekx1 h => ?_)
  have hkx1 : ∀ (x2 : XS) (H : Heap) (locs : List Loc) (ls : Array Slot), kx1 x2 = some z → xmm D (xW T a) A s H locs x2 → lv_has ls 4 [] → W p l e { frames := 1, cells := 0, slots := 0, locals := 23 } s m args below meth c H locs 0 0 (xQI below args s D (xW T a) .boolean z A) (F0 m 36 ls []) := by
    intro x2 H locs ls h M hl
    rw [ekx1] at h
    dsimp only at h
    refine lv_iconst (v := oI 0) hx hb dX5_isClosed_36 (by decide) ?_
    exact xretI C hr M h nb_0 dX5_isClosed_37
  refine x_loop1_ind (P := fun v3 x4 => ∀ (H : Heap) (locs : List Loc) (ls : Array Slot), xmm D (xW T a) A s H locs x4 → lv_has ls 4 [(0, .ref (a 4)), (1, .int (oI p1)), (2, .int (oI p2)), (3, .int (oI v3))] → W p l e { frames := 1, cells := 0, slots := 0, locals := 23 } s m args below meth c H locs 0 0 (xQI below args s D (xW T a) .boolean z A) (F0 m 2 ls [])) (fun g5 ig5 v3 x4 h => ?_) x_fuel 0 x h H locs ls M (lv_sub hl [1, 2, 3, 0] rfl)
  intro H locs ls M hl
  unfold b_X5_isClosed_2 at h
  refine lv_iload_n hx hb dX5_isClosed_2 rfl (lv_at hl 3 rfl) ?_
  refine lv_aload_n hx hb dX5_isClosed_3 rfl (lv_at hl 0 rfl) ?_
  refine gf_X5_53 C M dX5_isClosed_4 ?_
  refine z_icmp_ge (tgt := 36) hx hb dX5_isClosed_7 (by decide) h (fun h => ?_) (fun h => ?_)
  · exact hkx1 x4 H locs ls h M (lv_sub hl [] rfl)
  · refine lv_aload_n hx hb dX5_isClosed_10 rfl (lv_at hl 0 rfl) ?_
    refine gf_X5_70 C M dX5_isClosed_11 ?_
    refine lv_aload_n hx hb dX5_isClosed_14 rfl (lv_at hl 0 rfl) ?_
    refine gf_X5_22 C M dX5_isClosed_15 ?_
    refine lv_iload_n hx hb dX5_isClosed_18 rfl (lv_at hl 3 rfl) ?_
    refine al_x_25 C M dX5_isClosed_19 h (fun v6 h => ?_)
    refine lv_iload_n hx hb dX5_isClosed_20 rfl (lv_at hl 1 rfl) ?_
    refine lv_iload_n hx hb dX5_isClosed_21 rfl (lv_at hl 2 rfl) ?_
    refine ci_X5_131 C M h ⟨Nat.le_of_ble_eq_true rfl, Nat.le_of_ble_eq_true rfl⟩ hl.1 (Nat.le_of_ble_eq_true rfl) dX5_isClosed_22 (fun r7 H locs x8 M nr7 h => ?_)
    refine z_if_eq (tgt := 30) hx hb dX5_isClosed_25 (by decide) h (fun h => ?_) (fun h => ?_)
    · refine x_nm h (fun v9 ev9 h => ?_)
      refine lv_iinc (v := oI v9) (lv' := [(3, .int (oI v9)), (0, .ref (a 4)), (1, .int (oI p1)), (2, .int (oI p2))]) hx hb dX5_isClosed_30 hl (k := 3) rfl (by rw [ev9]; exact oI_add _ _) (by decide) rfl (fun ls hl => ?_)
      refine lv_goto (tgt := 2) hx hb dX5_isClosed_33 (by decide) ?_
      exact ig5 v9 x8 h H locs ls M (lv_sub hl [1, 2, 3, 0] rfl)
    · refine lv_iconst (v := oI 1) hx hb dX5_isClosed_28 (by decide) ?_
      exact xretI C hr M h nb_1 dX5_isClosed_29
theorem ci_X5_114 {cc : ByteArray} {nL : Nat} {D : va_G} {T : ClassId × ClassId} {a : Nat → Nat} {A : Nat → Prop} {p : Program} {l : Launch} {e : Env} {R : Room} {s : State} {m : MethodId} {args : Array Value} {below : List Frame} {meth : Method} {c : Code} {H : Heap} {locs : List Loc} {Q : State → Prop} {x : XS} {z : Int × XS} {pc : Nat} {ls : Array Slot} {rest : List Value} (C : xcx RX5 cc nL D T (xW T a) A p s m args meth c) (M : xmm D (xW T a) A s H locs x) {p1 p2 : Int} {K : Int → XS → XR} (h : x_call (f_X0_plannedLeaving x p1 p2) K = some z) (hR : 0 + 1 ≤ R.frames ∧ 8 + (4 + 11) + 0 ≤ R.locals) (hsz : ls.size = nL) (hrest : (rest.map fun v => v.category).sum ≤ 8) (hdg : decode cc pc = .ok (.invokevirtual 114, 3)) (kk : ∀ (r : Int) (H1 : Heap) (locs1 : List Loc) (x1 : XS), xmm D (xW T a) A s H1 locs1 x1 → narrow .int (.int (oI r)) = .int (oI r) → K r x1 = some z → W p l e R s m args below meth c H1 locs1 0 0 Q (F0 m (pc + 3) ls (.int (oI r) :: rest))) : W p l e R s m args below meth c H locs 0 0 Q (F0 m pc ls (.int (oI p2) :: .int (oI p1) :: .ref (a 2) :: rest)) :=
  xcallI_N (As := [.int (oI p1), .int (oI p2)]) (n := 2) C M (fun zc sz ho => c_X0_plannedLeaving ho sz) bw_494 bw_491 bw_493 bw_22 bw_86 rfl (by decide +kernel) 2 rfl rfl ⟨rfl, rfl⟩ hR hsz rfl hrest hdg h kk
theorem ci_X5_124 {cc : ByteArray} {nL : Nat} {D : va_G} {T : ClassId × ClassId} {a : Nat → Nat} {A : Nat → Prop} {p : Program} {l : Launch} {e : Env} {R : Room} {s : State} {m : MethodId} {args : Array Value} {below : List Frame} {meth : Method} {c : Code} {H : Heap} {locs : List Loc} {Q : State → Prop} {x : XS} {z : Int × XS} {pc : Nat} {ls : Array Slot} {rest : List Value} (C : xcx RX5 cc nL D T (xW T a) A p s m args meth c) (M : xmm D (xW T a) A s H locs x) {p1 p2 : Int} {K : Int → XS → XR} (h : x_call (f_X5_isClosed x p1 p2) K = some z) (hR : 1 + 1 ≤ R.frames ∧ 8 + (4 + 11) + 23 ≤ R.locals) (hsz : ls.size = nL) (hrest : (rest.map fun v => v.category).sum ≤ 8) (hdg : decode cc pc = .ok (.invokevirtual 124, 3)) (kk : ∀ (r : Int) (H1 : Heap) (locs1 : List Loc) (x1 : XS), xmm D (xW T a) A s H1 locs1 x1 → narrow .boolean (.int (oI r)) = .int (oI r) → K r x1 = some z → W p l e R s m args below meth c H1 locs1 0 0 Q (F0 m (pc + 3) ls (.int (oI r) :: rest))) : W p l e R s m args below meth c H locs 0 0 Q (F0 m pc ls (.int (oI p2) :: .int (oI p1) :: .ref (a 4) :: rest)) :=
  xcallI_V (As := [.int (oI p1), .int (oI p2)]) (n := 2) C M (fun zc sz ho => c_X5_isClosed ho sz) bw_498 bw_495 bw_497 bw_23 bw_88 rfl (by decide +kernel) 4 rfl rfl ⟨rfl, rfl⟩ hR hsz rfl hrest hdg h kk
set_option maxHeartbeats 4000000 in
set_option maxRecDepth 100000 in
theorem c_X5_timeRun {l : Launch} {D : va_G} {T : ClassId × ClassId} {a : Nat → Nat} {x : XS} {p1 : Int} {p2 : Int} {z : Int × XS} (h : f_X5_timeRun x p1 p2 = some z) (sz : Nat) : xMetV l yX5_timeRun cX5_timeRun 4 { frames := 2, cells := 0, slots := 0, locals := 46 } D T (xW T a) sz [.ref (a 4), .int (oI p1), .int (oI p2)] x z := by
  refine xMetV_of (by decide) (Nat.le_of_ble_eq_true rfl) (xW_ad T a) ?_
  intro p e s m args below meth c A ls C hr M hl
  have hx := C.1
  have hb := C.2.1
  have hl : lv_has ls 4 [(0, .ref (a 4)), (1, .int (oI p1)), (2, .int (oI p2))] := hl
  have C : xcx RX5 cX5_timeRun 4 D T (xW T a) A p s m args meth c := C
  revert hl M
  generalize ([] : List Loc) = locs
  generalize s.heap = H
  intro M hl
  unfold f_X5_timeRun at h
  refine lv_aload_n hx hb dX5_timeRun_0 rfl (lv_at hl 0 rfl) ?_
  refine gf_X5_66 C M dX5_timeRun_1 ?_
  refine gf_X5_111 C M dX5_timeRun_4 ?_
  refine lv_iload_n hx hb dX5_timeRun_7 rfl (lv_at hl 1 rfl) ?_
  refine al_x_18 C M dX5_timeRun_8 h (fun v1 h => ?_)
  refine lv_iload_n hx hb dX5_timeRun_9 rfl (lv_at hl 2 rfl) ?_
  refine z_iadd hx hb dX5_timeRun_10 ?_
  refine x_top h (fun v2 h => ?_)
  refine lv_istore_n (lv' := [(3, .int (oI v2)), (0, .ref (a 4)), (1, .int (oI p1)), (2, .int (oI p2))]) hx hb dX5_timeRun_11 rfl hl (by decide) rfl (fun ls hl => ?_)
  refine lv_aload_n hx hb dX5_timeRun_12 rfl (lv_at hl 1 rfl) ?_
  refine gf_X5_29 C M dX5_timeRun_13 ?_
  refine lv_iload_n hx hb dX5_timeRun_16 rfl (lv_at hl 0 rfl) ?_
  refine lv_iload_n hx hb dX5_timeRun_17 rfl (lv_at hl 2 rfl) ?_
  refine as_x_27 C M dX5_timeRun_18 h (fun H locs x3 M h => ?_)
  refine lv_aload_n hx hb dX5_timeRun_19 rfl (lv_at hl 1 rfl) ?_
  refine gf_X5_32 C M dX5_timeRun_20 ?_
  refine lv_iload_n hx hb dX5_timeRun_23 rfl (lv_at hl 0 rfl) ?_
  refine lv_aload_n hx hb dX5_timeRun_24 rfl (lv_at hl 1 rfl) ?_
  refine gf_X5_66 C M dX5_timeRun_25 ?_
  refine lv_iload_n hx hb dX5_timeRun_28 rfl (lv_at hl 2 rfl) ?_
  refine lv_iload_n hx hb dX5_timeRun_29 rfl (lv_at hl 3 rfl) ?_
  refine ci_X5_114 C M h ⟨Nat.le_of_ble_eq_true rfl, Nat.le_of_ble_eq_true rfl⟩ hl.1 (Nat.le_of_ble_eq_true rfl) dX5_timeRun_30 (fun r4 H locs x5 M nr4 h => ?_)
  refine lv_aload_n hx hb dX5_timeRun_33 rfl (lv_at hl 1 rfl) ?_
  refine gf_X5_26 C M dX5_timeRun_34 ?_
  refine lv_iload_n hx hb dX5_timeRun_37 rfl (lv_at hl 0 rfl) ?_
  refine al_x_26 C M dX5_timeRun_38 h (fun v6 h => ?_)
  refine z_iadd hx hb dX5_timeRun_39 ?_
  refine as_x_28 C M dX5_timeRun_40 h (fun H locs x7 M h => ?_)
  refine lv_aload_n hx hb dX5_timeRun_41 rfl (lv_at hl 1 rfl) ?_
  refine gf_X5_35 C M dX5_timeRun_42 ?_
  refine lv_iload_n hx hb dX5_timeRun_45 rfl (lv_at hl 0 rfl) ?_
  refine lv_aload_n hx hb dX5_timeRun_46 rfl (lv_at hl 1 rfl) ?_
  refine gf_X5_32 C M dX5_timeRun_47 ?_
  refine lv_iload_n hx hb dX5_timeRun_50 rfl (lv_at hl 0 rfl) ?_
  refine al_x_28 C M dX5_timeRun_51 h (fun v8 h => ?_)
  refine lv_aload_n hx hb dX5_timeRun_52 rfl (lv_at hl 1 rfl) ?_
  refine gf_X5_66 C M dX5_timeRun_53 ?_
  refine gf_X5_118 C M dX5_timeRun_56 ?_
  refine lv_iload_n hx hb dX5_timeRun_59 rfl (lv_at hl 2 rfl) ?_
  refine al_x_15 C M dX5_timeRun_60 h (fun v9 h => ?_)
  refine z_iadd hx hb dX5_timeRun_61 ?_
  refine as_x_29 C M dX5_timeRun_62 h (fun H locs x10 M h => ?_)
  refine lv_aload_n hx hb dX5_timeRun_63 rfl (lv_at hl 1 rfl) ?_
  refine gf_X5_38 C M dX5_timeRun_64 ?_
  refine lv_iload_n hx hb dX5_timeRun_67 rfl (lv_at hl 0 rfl) ?_
  refine lv_aload_n hx hb dX5_timeRun_68 rfl (lv_at hl 1 rfl) ?_
  refine gf_X5_18 C M dX5_timeRun_69 ?_
  refine lv_iload_n hx hb dX5_timeRun_72 rfl (lv_at hl 2 rfl) ?_
  refine al_x_24 C M dX5_timeRun_73 h (fun v11 h => ?_)
  refine x_jp_el h (fun jp12 ejp12 h => ?_)
  have hjp12 : ∀ (v13 : Int) (x14 : XS) (H : Heap) (locs : List Loc) (ls : Array Slot), jp12 v13 x14 = some z → xmm D (xW T a) A s H locs x14 → lv_has ls 4 [(0, .ref (a 4)), (1, .int (oI p1)), (3, .int (oI v2))] → W p l e { frames := 2, cells := 0, slots := 0, locals := 46 } s m args below meth c H locs 0 0 (xQV below args s D (xW T a) z A) (F0 m 138 ls [.int (oI v13), .int (oI v2), .ref (a 30)]) := by
    intro v13 x14 H locs ls h M hl
    rw [ejp12] at h
    dsimp only at h
    refine as_x_30 C M dX5_timeRun_138 h (fun H locs x15 M h => ?_)
    refine lv_aload_n hx hb dX5_timeRun_139 rfl (lv_at hl 0 rfl) ?_
    refine gf_X5_38 C M dX5_timeRun_140 ?_
    refine lv_iload_n hx hb dX5_timeRun_143 rfl (lv_at hl 2 rfl) ?_
    refine al_x_30 C M dX5_timeRun_144 h (fun v16 h => ?_)
    refine z_if_eq (tgt := 204) hx hb dX5_timeRun_145 (by decide) h (fun h => ?_) (fun h => ?_)
    · exact xretV C hr M h dX5_timeRun_204
    · refine lv_aload_n hx hb dX5_timeRun_148 rfl (lv_at hl 0 rfl) ?_
      refine gf_X5_47 C M dX5_timeRun_149 ?_
      refine lv_iload_n hx hb dX5_timeRun_152 rfl (lv_at hl 2 rfl) ?_
      refine lv_aload_n hx hb dX5_timeRun_153 rfl (lv_at hl 0 rfl) ?_
      refine gf_X5_66 C M dX5_timeRun_154 ?_
      refine gf_X5_128 C M dX5_timeRun_157 ?_
      refine lv_iload_n hx hb dX5_timeRun_160 rfl (lv_at hl 1 rfl) ?_
      refine al_x_12 C M dX5_timeRun_161 h (fun v17 h => ?_)
      refine lv_sipush (v := oI 5001) hx hb dX5_timeRun_162 (by decide) ?_
      refine z_imul hx hb dX5_timeRun_165 ?_
      refine lv_aload_n hx hb dX5_timeRun_166 rfl (lv_at hl 0 rfl) ?_
      refine gf_X5_35 C M dX5_timeRun_167 ?_
      refine lv_iload_n hx hb dX5_timeRun_170 rfl (lv_at hl 2 rfl) ?_
      refine al_x_29 C M dX5_timeRun_171 h (fun v18 h => ?_)
      refine z_iadd hx hb dX5_timeRun_172 ?_
      refine as_x_33 C M dX5_timeRun_173 h (fun H locs x19 M h => ?_)
      refine lv_aload_n hx hb dX5_timeRun_174 rfl (lv_at hl 0 rfl) ?_
      refine gf_X5_41 C M dX5_timeRun_175 ?_
      refine lv_aload_n hx hb dX5_timeRun_178 rfl (lv_at hl 0 rfl) ?_
      refine gf_X5_60 C M dX5_timeRun_179 ?_
      refine lv_iload_n hx hb dX5_timeRun_182 rfl (lv_at hl 2 rfl) ?_
      refine as_x_31 C M dX5_timeRun_183 h (fun H locs x20 M h => ?_)
      refine lv_aload_n hx hb dX5_timeRun_184 rfl (lv_at hl 0 rfl) ?_
      refine gf_X5_44 C M dX5_timeRun_185 ?_
      refine lv_aload_n hx hb dX5_timeRun_188 rfl (lv_at hl 0 rfl) ?_
      refine gf_X5_60 C M dX5_timeRun_189 ?_
      refine lv_iload_n hx hb dX5_timeRun_192 rfl (lv_at hl 2 rfl) ?_
      refine as_x_32 C M dX5_timeRun_193 h (fun H locs x21 M h => ?_)
      refine lv_aload_n hx hb dX5_timeRun_194 rfl (lv_at hl 0 rfl) ?_
      refine lv_dup hx hb dX5_timeRun_195 rfl ?_
      refine gf_X5_60 C M dX5_timeRun_196 ?_
      refine lv_iconst (v := oI 1) hx hb dX5_timeRun_199 (by decide) ?_
      refine z_iadd hx hb dX5_timeRun_200 ?_
      refine pf_X5_60 C M dX5_timeRun_201 h (fun H locs x22 M h => ?_)
      exact xretV C hr M h dX5_timeRun_204
  refine x_jp_el h (fun jp23 ejp23 h => ?_)
  have hjp23 : ∀ (x24 : XS) (H : Heap) (locs : List Loc) (ls : Array Slot), jp23 x24 = some z → xmm D (xW T a) A s H locs x24 → lv_has ls 4 [(0, .ref (a 4)), (1, .int (oI p1)), (3, .int (oI v2))] → W p l e { frames := 2, cells := 0, slots := 0, locals := 46 } s m args below meth c H locs 0 0 (xQV below args s D (xW T a) z A) (F0 m 137 ls [.int (oI v2), .ref (a 30)]) := by
    intro x24 H locs ls h M hl
    rw [ejp23] at h
    dsimp only at h
    refine lv_iconst (v := oI 0) hx hb dX5_timeRun_137 (by decide) ?_
    exact hjp12 0 x24 H locs ls h M (lv_sub hl [0, 1, 2] rfl)
  refine z_if_ne (tgt := 137) hx hb dX5_timeRun_74 (by decide) h (fun h => ?_) (fun h => ?_)
  · exact hjp23 x10 H locs ls h M (lv_sub hl [1, 2, 0] rfl)
  · refine lv_aload_n hx hb dX5_timeRun_77 rfl (lv_at hl 1 rfl) ?_
    refine gf_X5_35 C M dX5_timeRun_78 ?_
    refine lv_iload_n hx hb dX5_timeRun_81 rfl (lv_at hl 0 rfl) ?_
    refine al_x_29 C M dX5_timeRun_82 h (fun v25 h => ?_)
    refine lv_sipush (v := oI 5000) hx hb dX5_timeRun_83 (by decide) ?_
    refine z_icmp_gt (tgt := 137) hx hb dX5_timeRun_86 (by decide) h (fun h => ?_) (fun h => ?_)
    · exact hjp23 x10 H locs ls h M (lv_sub hl [1, 2, 0] rfl)
    · refine lv_aload_n hx hb dX5_timeRun_89 rfl (lv_at hl 1 rfl) ?_
      refine lv_aload_n hx hb dX5_timeRun_90 rfl (lv_at hl 1 rfl) ?_
      refine gf_X5_66 C M dX5_timeRun_91 ?_
      refine gf_X5_121 C M dX5_timeRun_94 ?_
      refine lv_iload_n hx hb dX5_timeRun_97 rfl (lv_at hl 2 rfl) ?_
      refine al_x_11 C M dX5_timeRun_98 h (fun v26 h => ?_)
      refine lv_aload_n hx hb dX5_timeRun_99 rfl (lv_at hl 1 rfl) ?_
      refine gf_X5_32 C M dX5_timeRun_100 ?_
      refine lv_iload_n hx hb dX5_timeRun_103 rfl (lv_at hl 0 rfl) ?_
      refine al_x_28 C M dX5_timeRun_104 h (fun v27 h => ?_)
      refine ci_X5_124 C M h ⟨Nat.le_of_ble_eq_true rfl, Nat.le_of_ble_eq_true rfl⟩ hl.1 (Nat.le_of_ble_eq_true rfl) dX5_timeRun_105 (fun r28 H locs x29 M nr28 h => ?_)
      refine z_if_ne (tgt := 137) hx hb dX5_timeRun_108 (by decide) h (fun h => ?_) (fun h => ?_)
      · exact hjp23 x29 H locs ls h M (lv_sub hl [1, 2, 0] rfl)
      · refine lv_aload_n hx hb dX5_timeRun_111 rfl (lv_at hl 1 rfl) ?_
        refine lv_aload_n hx hb dX5_timeRun_112 rfl (lv_at hl 1 rfl) ?_
        refine gf_X5_66 C M dX5_timeRun_113 ?_
        refine gf_X5_128 C M dX5_timeRun_116 ?_
        refine lv_iload_n hx hb dX5_timeRun_119 rfl (lv_at hl 2 rfl) ?_
        refine al_x_12 C M dX5_timeRun_120 h (fun v30 h => ?_)
        refine lv_aload_n hx hb dX5_timeRun_121 rfl (lv_at hl 1 rfl) ?_
        refine gf_X5_35 C M dX5_timeRun_122 ?_
        refine lv_iload_n hx hb dX5_timeRun_125 rfl (lv_at hl 0 rfl) ?_
        refine al_x_29 C M dX5_timeRun_126 h (fun v31 h => ?_)
        refine ci_X5_124 C M h ⟨Nat.le_of_ble_eq_true rfl, Nat.le_of_ble_eq_true rfl⟩ hl.1 (Nat.le_of_ble_eq_true rfl) dX5_timeRun_127 (fun r32 H locs x33 M nr32 h => ?_)
        refine z_if_ne (tgt := 137) hx hb dX5_timeRun_130 (by decide) h (fun h => ?_) (fun h => ?_)
        · exact hjp23 x33 H locs ls h M (lv_sub hl [1, 2, 0] rfl)
        · refine lv_iconst (v := oI 1) hx hb dX5_timeRun_133 (by decide) ?_
          refine lv_goto (tgt := 138) hx hb dX5_timeRun_134 (by decide) ?_
          exact hjp12 1 x33 H locs ls h M (lv_sub hl [1, 2, 0] rfl)
theorem ci_X5_107 {cc : ByteArray} {nL : Nat} {D : va_G} {T : ClassId × ClassId} {a : Nat → Nat} {A : Nat → Prop} {p : Program} {l : Launch} {e : Env} {R : Room} {s : State} {m : MethodId} {args : Array Value} {below : List Frame} {meth : Method} {c : Code} {H : Heap} {locs : List Loc} {Q : State → Prop} {x : XS} {z : Int × XS} {pc : Nat} {ls : Array Slot} {rest : List Value} (C : xcx RX5 cc nL D T (xW T a) A p s m args meth c) (M : xmm D (xW T a) A s H locs x) {p1 p2 : Int} {K : Int → XS → XR} (h : x_call (f_X5_timeRun x p1 p2) K = some z) (hR : 2 + 1 ≤ R.frames ∧ 8 + (4 + 11) + 46 ≤ R.locals) (hsz : ls.size = nL) (hrest : (rest.map fun v => v.category).sum ≤ 8) (hdg : decode cc pc = .ok (.invokevirtual 107, 3)) (kk : ∀ (H1 : Heap) (locs1 : List Loc) (x1 : XS), xmm D (xW T a) A s H1 locs1 x1 → K 0 x1 = some z → W p l e R s m args below meth c H1 locs1 0 0 Q (F0 m (pc + 3) ls rest)) : W p l e R s m args below meth c H locs 0 0 Q (F0 m pc ls (.int (oI p2) :: .int (oI p1) :: .ref (a 4) :: rest)) :=
  xcallV_V (As := [.int (oI p1), .int (oI p2)]) (n := 2) C M (fun zc sz ho => c_X5_timeRun ho sz) bw_490 bw_487 bw_489 bw_21 bw_88 rfl (by decide +kernel) 4 rfl rfl ⟨rfl, rfl⟩ hR hsz rfl hrest hdg h kk
set_option maxHeartbeats 4000000 in
set_option maxRecDepth 100000 in
theorem c_X5_timeRuns {l : Launch} {D : va_G} {T : ClassId × ClassId} {a : Nat → Nat} {x : XS} {z : Int × XS} (h : f_X5_timeRuns x = some z) (sz : Nat) : xMetV l yX5_timeRuns cX5_timeRuns 3 { frames := 3, cells := 0, slots := 0, locals := 69 } D T (xW T a) sz [.ref (a 4)] x z := by
  refine xMetV_of (by decide) (Nat.le_of_ble_eq_true rfl) (xW_ad T a) ?_
  intro p e s m args below meth c A ls C hr M hl
  have hx := C.1
  have hb := C.2.1
  have hl : lv_has ls 3 [(0, .ref (a 4))] := hl
  have C : xcx RX5 cX5_timeRuns 3 D T (xW T a) A p s m args meth c := C
  revert hl M
  generalize ([] : List Loc) = locs
  generalize s.heap = H
  intro M hl
  unfold f_X5_timeRuns at h
  refine lv_aload_n hx hb dX5_timeRuns_0 rfl (lv_at hl 0 rfl) ?_
  refine lv_iconst (v := oI 0) hx hb dX5_timeRuns_1 (by decide) ?_
  refine pf_X5_60 C M dX5_timeRuns_2 h (fun H locs x1 M h => ?_)
  refine lv_iconst (v := oI 0) hx hb dX5_timeRuns_5 (by decide) ?_
  refine lv_istore_n (lv' := [(1, .int (oI 0)), (0, .ref (a 4))]) hx hb dX5_timeRuns_6 rfl hl (by decide) rfl (fun ls hl => ?_)
  refine x_jp_el h (fun kx2 ekx2 h => ?_)
  have hkx2 : ∀ (x3 : XS) (H : Heap) (locs : List Loc) (ls : Array Slot), kx2 x3 = some z → xmm D (xW T a) A s H locs x3 → lv_has ls 3 [] → W p l e { frames := 3, cells := 0, slots := 0, locals := 69 } s m args below meth c H locs 0 0 (xQV below args s D (xW T a) z A) (F0 m 48 ls []) := by
    intro x3 H locs ls h M hl
    rw [ekx2] at h
    dsimp only at h
    exact xretV C hr M h dX5_timeRuns_48
  refine x_loop1_ind (P := fun v4 x5 => ∀ (H : Heap) (locs : List Loc) (ls : Array Slot), xmm D (xW T a) A s H locs x5 → lv_has ls 3 [(0, .ref (a 4)), (1, .int (oI v4))] → W p l e { frames := 3, cells := 0, slots := 0, locals := 69 } s m args below meth c H locs 0 0 (xQV below args s D (xW T a) z A) (F0 m 7 ls [])) (fun g6 ig6 v4 x5 h => ?_) x_fuel 0 x1 h H locs ls M (lv_sub hl [1, 0] rfl)
  intro H locs ls M hl
  unfold b_X5_timeRuns_7 at h
  refine lv_iload_n hx hb dX5_timeRuns_7 rfl (lv_at hl 1 rfl) ?_
  refine lv_aload_n hx hb dX5_timeRuns_8 rfl (lv_at hl 0 rfl) ?_
  refine gf_X5_57 C M dX5_timeRuns_9 ?_
  refine z_icmp_ge (tgt := 48) hx hb dX5_timeRuns_12 (by decide) h (fun h => ?_) (fun h => ?_)
  · exact hkx2 x5 H locs ls h M (lv_sub hl [] rfl)
  · refine lv_iconst (v := oI 0) hx hb dX5_timeRuns_15 (by decide) ?_
    refine lv_istore_n (lv' := [(2, .int (oI 0)), (0, .ref (a 4)), (1, .int (oI v4))]) hx hb dX5_timeRuns_16 rfl hl (by decide) rfl (fun ls hl => ?_)
    refine x_jp_el h (fun kx7 ekx7 h => ?_)
    have hkx7 : ∀ (x8 : XS) (H : Heap) (locs : List Loc) (ls : Array Slot), kx7 x8 = some z → xmm D (xW T a) A s H locs x8 → lv_has ls 3 [(0, .ref (a 4)), (1, .int (oI v4))] → W p l e { frames := 3, cells := 0, slots := 0, locals := 69 } s m args below meth c H locs 0 0 (xQV below args s D (xW T a) z A) (F0 m 42 ls []) := by
      intro x8 H locs ls h M hl
      rw [ekx7] at h
      dsimp only at h
      refine x_nm h (fun v9 ev9 h => ?_)
      refine lv_iinc (v := oI v9) (lv' := [(1, .int (oI v9)), (0, .ref (a 4))]) hx hb dX5_timeRuns_42 hl (k := 1) rfl (by rw [ev9]; exact oI_add _ _) (by decide) rfl (fun ls hl => ?_)
      refine lv_goto (tgt := 7) hx hb dX5_timeRuns_45 (by decide) ?_
      exact ig6 v9 x8 h H locs ls M (lv_sub hl [1, 0] rfl)
    refine x_loop1_ind (P := fun v10 x11 => ∀ (H : Heap) (locs : List Loc) (ls : Array Slot), xmm D (xW T a) A s H locs x11 → lv_has ls 3 [(0, .ref (a 4)), (1, .int (oI v4)), (2, .int (oI v10))] → W p l e { frames := 3, cells := 0, slots := 0, locals := 69 } s m args below meth c H locs 0 0 (xQV below args s D (xW T a) z A) (F0 m 17 ls [])) (fun g12 ig12 v10 x11 h => ?_) x_fuel 0 x5 h H locs ls M (lv_sub hl [1, 2, 0] rfl)
    intro H locs ls M hl
    unfold b_X5_timeRuns_17 at h
    refine lv_iload_n hx hb dX5_timeRuns_17 rfl (lv_at hl 2 rfl) ?_
    refine lv_aload_n hx hb dX5_timeRuns_18 rfl (lv_at hl 0 rfl) ?_
    refine gf_X5_66 C M dX5_timeRuns_19 ?_
    refine gf_X5_104 C M dX5_timeRuns_22 ?_
    refine lv_iload_n hx hb dX5_timeRuns_25 rfl (lv_at hl 1 rfl) ?_
    refine al_x_16 C M dX5_timeRuns_26 h (fun v13 h => ?_)
    refine z_icmp_ge (tgt := 42) hx hb dX5_timeRuns_27 (by decide) h (fun h => ?_) (fun h => ?_)
    · exact hkx7 x11 H locs ls h M (lv_sub hl [0, 1] rfl)
    · refine lv_aload_n hx hb dX5_timeRuns_30 rfl (lv_at hl 0 rfl) ?_
      refine lv_iload_n hx hb dX5_timeRuns_31 rfl (lv_at hl 1 rfl) ?_
      refine lv_iload_n hx hb dX5_timeRuns_32 rfl (lv_at hl 2 rfl) ?_
      refine ci_X5_107 C M h ⟨Nat.le_of_ble_eq_true rfl, Nat.le_of_ble_eq_true rfl⟩ hl.1 (Nat.le_of_ble_eq_true rfl) dX5_timeRuns_33 (fun H locs x15 M h => ?_)
      refine x_nm h (fun v16 ev16 h => ?_)
      refine lv_iinc (v := oI v16) (lv' := [(2, .int (oI v16)), (0, .ref (a 4)), (1, .int (oI v4))]) hx hb dX5_timeRuns_36 hl (k := 2) rfl (by rw [ev16]; exact oI_add _ _) (by decide) rfl (fun ls hl => ?_)
      refine lv_goto (tgt := 17) hx hb dX5_timeRuns_39 (by decide) ?_
      exact ig12 v16 x15 h H locs ls M (lv_sub hl [1, 2, 0] rfl)
set_option maxHeartbeats 4000000 in
set_option maxRecDepth 100000 in
theorem c_X4_merge_31_28 {l : Launch} {D : va_G} {T : ClassId × ClassId} {a : Nat → Nat} {x : XS} {p3 : Int} {p4 : Int} {p5 : Int} {z : Int × XS} (h : f_X4_merge 24 21 x p3 p4 p5 = some z) (sz : Nat) : xMetV l yX4_merge cX4_merge 10 { frames := 0, cells := 0, slots := 0, locals := 0 } D T (xW T a) sz [.ref (a 6), .ref (a 31), .ref (a 28), .int (oI p3), .int (oI p4), .int (oI p5)] x z := by
  refine xMetV_of (by decide) (Nat.le_of_ble_eq_true rfl) (xW_ad T a) ?_
  intro p e s m args below meth c A ls C hr M hl
  have hx := C.1
  have hb := C.2.1
  have hl : lv_has ls 10 [(0, .ref (a 6)), (1, .ref (a 31)), (2, .ref (a 28)), (3, .int (oI p3)), (4, .int (oI p4)), (5, .int (oI p5))] := hl
  have C : xcx RX4 cX4_merge 10 D T (xW T a) A p s m args meth c := C
  revert hl M
  generalize ([] : List Loc) = locs
  generalize s.heap = H
  intro M hl
  unfold f_X4_merge at h
  refine lv_iload_n hx hb dX4_merge_0 rfl (lv_at hl 3 rfl) ?_
  refine lv_istore (lv' := [(6, .int (oI p3)), (0, .ref (a 6)), (1, .ref (a 31)), (2, .ref (a 28)), (3, .int (oI p3)), (4, .int (oI p4)), (5, .int (oI p5))]) hx hb dX4_merge_1 hl (by decide) rfl (fun ls hl => ?_)
  refine lv_iload hx hb dX4_merge_3 (lv_at hl 5 rfl) ?_
  refine lv_istore (lv' := [(7, .int (oI p4)), (6, .int (oI p3)), (0, .ref (a 6)), (1, .ref (a 31)), (2, .ref (a 28)), (3, .int (oI p3)), (4, .int (oI p4)), (5, .int (oI p5))]) hx hb dX4_merge_5 hl (by decide) rfl (fun ls hl => ?_)
  refine lv_iload_n hx hb dX4_merge_7 rfl (lv_at hl 5 rfl) ?_
  refine lv_istore (lv' := [(8, .int (oI p3)), (7, .int (oI p4)), (6, .int (oI p3)), (0, .ref (a 6)), (1, .ref (a 31)), (2, .ref (a 28)), (3, .int (oI p3)), (4, .int (oI p4)), (5, .int (oI p5))]) hx hb dX4_merge_8 hl (by decide) rfl (fun ls hl => ?_)
  refine x_jp_el h (fun kx1 ekx1 h => ?_)
  have hkx1 : ∀ (x2 : XS) (H : Heap) (locs : List Loc) (ls : Array Slot), kx1 x2 = some z → xmm D (xW T a) A s H locs x2 → lv_has ls 10 [] → W p l e { frames := 0, cells := 0, slots := 0, locals := 0 } s m args below meth c H locs 0 0 (xQV below args s D (xW T a) z A) (F0 m 95 ls []) := by
    intro x2 H locs ls h M hl
    rw [ekx1] at h
    dsimp only at h
    exact xretV C hr M h dX4_merge_95
  refine x_loop3_ind (P := fun v3 v4 v5 x6 => ∀ (H : Heap) (locs : List Loc) (ls : Array Slot), xmm D (xW T a) A s H locs x6 → lv_has ls 10 [(0, .ref (a 6)), (1, .ref (a 31)), (2, .ref (a 28)), (4, .int (oI p4)), (5, .int (oI p5)), (6, .int (oI v3)), (7, .int (oI v4)), (8, .int (oI v5))] → W p l e { frames := 0, cells := 0, slots := 0, locals := 0 } s m args below meth c H locs 0 0 (xQV below args s D (xW T a) z A) (F0 m 10 ls [])) (fun g7 ig7 v3 v4 v5 x6 h => ?_) x_fuel p3 p4 p3 x h H locs ls M (lv_sub hl [3, 4, 5, 7, 8, 2, 1, 0] rfl)
  intro H locs ls M hl
  unfold b_X4_merge_10 at h
  refine lv_iload hx hb dX4_merge_10 (lv_at hl 7 rfl) ?_
  refine lv_iload hx hb dX4_merge_12 (lv_at hl 4 rfl) ?_
  refine z_icmp_ge (tgt := 95) hx hb dX4_merge_14 (by decide) h (fun h => ?_) (fun h => ?_)
  · exact hkx1 x6 H locs ls h M (lv_sub hl [] rfl)
  · refine lv_iload hx hb dX4_merge_17 (lv_at hl 6 rfl) ?_
    refine lv_iload hx hb dX4_merge_19 (lv_at hl 4 rfl) ?_
    refine x_jp_el h (fun jp8 ejp8 h => ?_)
    have hjp8 : ∀ (v9 : Int) (x10 : XS) (H : Heap) (locs : List Loc) (ls : Array Slot), jp8 v9 x10 = some z → xmm D (xW T a) A s H locs x10 → lv_has ls 10 [(0, .ref (a 6)), (1, .ref (a 31)), (2, .ref (a 28)), (4, .int (oI p4)), (5, .int (oI p5)), (6, .int (oI v3)), (7, .int (oI v4)), (8, .int (oI v5))] → W p l e { frames := 0, cells := 0, slots := 0, locals := 0 } s m args below meth c H locs 0 0 (xQV below args s D (xW T a) z A) (F0 m 51 ls [.int (oI v9)]) := by
      intro v9 x10 H locs ls h M hl
      rw [ejp8] at h
      dsimp only at h
      refine lv_istore (lv' := [(9, .int (oI v9)), (0, .ref (a 6)), (1, .ref (a 31)), (2, .ref (a 28)), (4, .int (oI p4)), (5, .int (oI p5)), (6, .int (oI v3)), (7, .int (oI v4)), (8, .int (oI v5))]) hx hb dX4_merge_51 hl (by decide) rfl (fun ls hl => ?_)
      refine lv_iload hx hb dX4_merge_53 (lv_at hl 0 rfl) ?_
      refine x_jp_el h (fun jp11 ejp11 h => ?_)
      have hjp11 : ∀ (v12 : Int) (v13 : Int) (x14 : XS) (H : Heap) (locs : List Loc) (ls : Array Slot), jp11 v12 v13 x14 = some z → xmm D (xW T a) A s H locs x14 → lv_has ls 10 [(0, .ref (a 6)), (1, .ref (a 31)), (2, .ref (a 28)), (4, .int (oI p4)), (5, .int (oI p5)), (6, .int (oI v12)), (7, .int (oI v13)), (8, .int (oI v5))] → W p l e { frames := 0, cells := 0, slots := 0, locals := 0 } s m args below meth c H locs 0 0 (xQV below args s D (xW T a) z A) (F0 m 89 ls []) := by
        intro v12 v13 x14 H locs ls h M hl
        rw [ejp11] at h
        dsimp only at h
        refine x_nm h (fun v15 ev15 h => ?_)
        refine lv_iinc (v := oI v15) (lv' := [(8, .int (oI v15)), (0, .ref (a 6)), (1, .ref (a 31)), (2, .ref (a 28)), (4, .int (oI p4)), (5, .int (oI p5)), (6, .int (oI v12)), (7, .int (oI v13))]) hx hb dX4_merge_89 hl (k := 7) rfl (by rw [ev15]; exact oI_add _ _) (by decide) rfl (fun ls hl => ?_)
        refine lv_goto (tgt := 10) hx hb dX4_merge_92 (by decide) ?_
        exact ig7 v12 v13 v15 x14 h H locs ls M (lv_sub hl [1, 2, 3, 4, 5, 6, 7, 0] rfl)
      refine z_if_eq (tgt := 75) hx hb dX4_merge_55 (by decide) h (fun h => ?_) (fun h => ?_)
      · refine lv_aload_n hx hb dX4_merge_75 rfl (lv_at hl 1 rfl) ?_
        refine gf_X4_9 C M dX4_merge_76 ?_
        refine lv_iload hx hb dX4_merge_79 (lv_at hl 8 rfl) ?_
        refine lv_aload_n hx hb dX4_merge_81 rfl (lv_at hl 2 rfl) ?_
        refine lv_iload hx hb dX4_merge_82 (lv_at hl 7 rfl) ?_
        refine al_x_31 C M dX4_merge_84 h (fun v16 h => ?_)
        refine as_x_41 C M dX4_merge_85 h (fun H locs x17 M h => ?_)
        refine x_nm h (fun v18 ev18 h => ?_)
        refine lv_iinc (v := oI v18) (lv' := [(7, .int (oI v18)), (9, .int (oI v9)), (0, .ref (a 6)), (1, .ref (a 31)), (2, .ref (a 28)), (4, .int (oI p4)), (5, .int (oI p5)), (6, .int (oI v3)), (8, .int (oI v5))]) hx hb dX4_merge_86 hl (k := 7) rfl (by rw [ev18]; exact oI_add _ _) (by decide) rfl (fun ls hl => ?_)
        exact hjp11 v3 v18 x17 H locs ls h M (lv_sub hl [2, 3, 4, 5, 6, 7, 0, 8] rfl)
      · refine lv_aload_n hx hb dX4_merge_58 rfl (lv_at hl 1 rfl) ?_
        refine gf_X4_9 C M dX4_merge_59 ?_
        refine lv_iload hx hb dX4_merge_62 (lv_at hl 8 rfl) ?_
        refine lv_aload_n hx hb dX4_merge_64 rfl (lv_at hl 2 rfl) ?_
        refine lv_iload hx hb dX4_merge_65 (lv_at hl 6 rfl) ?_
        refine al_x_31 C M dX4_merge_67 h (fun v19 h => ?_)
        refine as_x_41 C M dX4_merge_68 h (fun H locs x20 M h => ?_)
        refine x_nm h (fun v21 ev21 h => ?_)
        refine lv_iinc (v := oI v21) (lv' := [(6, .int (oI v21)), (9, .int (oI v9)), (0, .ref (a 6)), (1, .ref (a 31)), (2, .ref (a 28)), (4, .int (oI p4)), (5, .int (oI p5)), (7, .int (oI v4)), (8, .int (oI v5))]) hx hb dX4_merge_69 hl (k := 6) rfl (by rw [ev21]; exact oI_add _ _) (by decide) rfl (fun ls hl => ?_)
        refine lv_goto (tgt := 89) hx hb dX4_merge_72 (by decide) ?_
        exact hjp11 v21 v4 x20 H locs ls h M (lv_sub hl [2, 3, 4, 5, 6, 0, 7, 8] rfl)
    refine x_jp_el h (fun jp22 ejp22 h => ?_)
    have hjp22 : ∀ (x23 : XS) (H : Heap) (locs : List Loc) (ls : Array Slot), jp22 x23 = some z → xmm D (xW T a) A s H locs x23 → lv_has ls 10 [(0, .ref (a 6)), (1, .ref (a 31)), (2, .ref (a 28)), (4, .int (oI p4)), (5, .int (oI p5)), (6, .int (oI v3)), (7, .int (oI v4)), (8, .int (oI v5))] → W p l e { frames := 0, cells := 0, slots := 0, locals := 0 } s m args below meth c H locs 0 0 (xQV below args s D (xW T a) z A) (F0 m 46 ls []) := by
      intro x23 H locs ls h M hl
      rw [ejp22] at h
      dsimp only at h
      refine lv_iconst (v := oI 1) hx hb dX4_merge_46 (by decide) ?_
      refine lv_goto (tgt := 51) hx hb dX4_merge_47 (by decide) ?_
      exact hjp8 1 x23 H locs ls h M (lv_sub hl [0, 1, 2, 3, 4, 5, 6, 7] rfl)
    refine z_icmp_ge (tgt := 46) hx hb dX4_merge_21 (by decide) h (fun h => ?_) (fun h => ?_)
    · exact hjp22 x6 H locs ls h M (lv_sub hl [0, 1, 2, 3, 4, 5, 6, 7] rfl)
    · refine lv_iload hx hb dX4_merge_24 (lv_at hl 5 rfl) ?_
      refine lv_iload hx hb dX4_merge_26 (lv_at hl 3 rfl) ?_
      refine x_jp_el h (fun jp24 ejp24 h => ?_)
      have hjp24 : ∀ (x25 : XS) (H : Heap) (locs : List Loc) (ls : Array Slot), jp24 x25 = some z → xmm D (xW T a) A s H locs x25 → lv_has ls 10 [(0, .ref (a 6)), (1, .ref (a 31)), (2, .ref (a 28)), (4, .int (oI p4)), (5, .int (oI p5)), (6, .int (oI v3)), (7, .int (oI v4)), (8, .int (oI v5))] → W p l e { frames := 0, cells := 0, slots := 0, locals := 0 } s m args below meth c H locs 0 0 (xQV below args s D (xW T a) z A) (F0 m 50 ls []) := by
        intro x25 H locs ls h M hl
        rw [ejp24] at h
        dsimp only at h
        refine lv_iconst (v := oI 0) hx hb dX4_merge_50 (by decide) ?_
        exact hjp8 0 x25 H locs ls h M (lv_sub hl [0, 1, 2, 3, 4, 5, 6, 7] rfl)
      refine z_icmp_ge (tgt := 50) hx hb dX4_merge_28 (by decide) h (fun h => ?_) (fun h => ?_)
      · exact hjp24 x6 H locs ls h M (lv_sub hl [0, 1, 2, 3, 4, 5, 6, 7] rfl)
      · refine lv_aload_n hx hb dX4_merge_31 rfl (lv_at hl 2 rfl) ?_
        refine lv_aload_n hx hb dX4_merge_32 rfl (lv_at hl 1 rfl) ?_
        refine lv_iload hx hb dX4_merge_33 (lv_at hl 5 rfl) ?_
        refine al_x_31 C M dX4_merge_35 h (fun v26 h => ?_)
        refine al_x_28 C M dX4_merge_36 h (fun v27 h => ?_)
        refine lv_aload_n hx hb dX4_merge_37 rfl (lv_at hl 2 rfl) ?_
        refine lv_aload_n hx hb dX4_merge_38 rfl (lv_at hl 1 rfl) ?_
        refine lv_iload hx hb dX4_merge_39 (lv_at hl 6 rfl) ?_
        refine al_x_31 C M dX4_merge_41 h (fun v28 h => ?_)
        refine al_x_28 C M dX4_merge_42 h (fun v29 h => ?_)
        refine z_icmp_gt (tgt := 50) hx hb dX4_merge_43 (by decide) h (fun h => ?_) (fun h => ?_)
        · exact hjp24 x6 H locs ls h M (lv_sub hl [0, 1, 2, 3, 4, 5, 6, 7] rfl)
        · exact hjp22 x6 H locs ls h M (lv_sub hl [0, 1, 2, 3, 4, 5, 6, 7] rfl)
set_option maxHeartbeats 4000000 in
set_option maxRecDepth 100000 in
theorem c_X4_merge_32_33 {l : Launch} {D : va_G} {T : ClassId × ClassId} {a : Nat → Nat} {x : XS} {p3 : Int} {p4 : Int} {p5 : Int} {z : Int × XS} (h : f_X4_merge 25 26 x p3 p4 p5 = some z) (sz : Nat) : xMetV l yX4_merge cX4_merge 10 { frames := 0, cells := 0, slots := 0, locals := 0 } D T (xW T a) sz [.ref (a 6), .ref (a 32), .ref (a 33), .int (oI p3), .int (oI p4), .int (oI p5)] x z := by
  refine xMetV_of (by decide) (Nat.le_of_ble_eq_true rfl) (xW_ad T a) ?_
  intro p e s m args below meth c A ls C hr M hl
  have hx := C.1
  have hb := C.2.1
  have hl : lv_has ls 10 [(0, .ref (a 6)), (1, .ref (a 32)), (2, .ref (a 33)), (3, .int (oI p3)), (4, .int (oI p4)), (5, .int (oI p5))] := hl
  have C : xcx RX4 cX4_merge 10 D T (xW T a) A p s m args meth c := C
  revert hl M
  generalize ([] : List Loc) = locs
  generalize s.heap = H
  intro M hl
  unfold f_X4_merge at h
  refine lv_iload_n hx hb dX4_merge_0 rfl (lv_at hl 3 rfl) ?_
  refine lv_istore (lv' := [(6, .int (oI p3)), (0, .ref (a 6)), (1, .ref (a 32)), (2, .ref (a 33)), (3, .int (oI p3)), (4, .int (oI p4)), (5, .int (oI p5))]) hx hb dX4_merge_1 hl (by decide) rfl (fun ls hl => ?_)
  refine lv_iload hx hb dX4_merge_3 (lv_at hl 5 rfl) ?_
  refine lv_istore (lv' := [(7, .int (oI p4)), (6, .int (oI p3)), (0, .ref (a 6)), (1, .ref (a 32)), (2, .ref (a 33)), (3, .int (oI p3)), (4, .int (oI p4)), (5, .int (oI p5))]) hx hb dX4_merge_5 hl (by decide) rfl (fun ls hl => ?_)
  refine lv_iload_n hx hb dX4_merge_7 rfl (lv_at hl 5 rfl) ?_
  refine lv_istore (lv' := [(8, .int (oI p3)), (7, .int (oI p4)), (6, .int (oI p3)), (0, .ref (a 6)), (1, .ref (a 32)), (2, .ref (a 33)), (3, .int (oI p3)), (4, .int (oI p4)), (5, .int (oI p5))]) hx hb dX4_merge_8 hl (by decide) rfl (fun ls hl => ?_)
  refine x_jp_el h (fun kx1 ekx1 h => ?_)
  have hkx1 : ∀ (x2 : XS) (H : Heap) (locs : List Loc) (ls : Array Slot), kx1 x2 = some z → xmm D (xW T a) A s H locs x2 → lv_has ls 10 [] → W p l e { frames := 0, cells := 0, slots := 0, locals := 0 } s m args below meth c H locs 0 0 (xQV below args s D (xW T a) z A) (F0 m 95 ls []) := by
    intro x2 H locs ls h M hl
    rw [ekx1] at h
    dsimp only at h
    exact xretV C hr M h dX4_merge_95
  refine x_loop3_ind (P := fun v3 v4 v5 x6 => ∀ (H : Heap) (locs : List Loc) (ls : Array Slot), xmm D (xW T a) A s H locs x6 → lv_has ls 10 [(0, .ref (a 6)), (1, .ref (a 32)), (2, .ref (a 33)), (4, .int (oI p4)), (5, .int (oI p5)), (6, .int (oI v3)), (7, .int (oI v4)), (8, .int (oI v5))] → W p l e { frames := 0, cells := 0, slots := 0, locals := 0 } s m args below meth c H locs 0 0 (xQV below args s D (xW T a) z A) (F0 m 10 ls [])) (fun g7 ig7 v3 v4 v5 x6 h => ?_) x_fuel p3 p4 p3 x h H locs ls M (lv_sub hl [3, 4, 5, 7, 8, 2, 1, 0] rfl)
  intro H locs ls M hl
  unfold b_X4_merge_10 at h
  refine lv_iload hx hb dX4_merge_10 (lv_at hl 7 rfl) ?_
  refine lv_iload hx hb dX4_merge_12 (lv_at hl 4 rfl) ?_
  refine z_icmp_ge (tgt := 95) hx hb dX4_merge_14 (by decide) h (fun h => ?_) (fun h => ?_)
  · exact hkx1 x6 H locs ls h M (lv_sub hl [] rfl)
  · refine lv_iload hx hb dX4_merge_17 (lv_at hl 6 rfl) ?_
    refine lv_iload hx hb dX4_merge_19 (lv_at hl 4 rfl) ?_
    refine x_jp_el h (fun jp8 ejp8 h => ?_)
    have hjp8 : ∀ (v9 : Int) (x10 : XS) (H : Heap) (locs : List Loc) (ls : Array Slot), jp8 v9 x10 = some z → xmm D (xW T a) A s H locs x10 → lv_has ls 10 [(0, .ref (a 6)), (1, .ref (a 32)), (2, .ref (a 33)), (4, .int (oI p4)), (5, .int (oI p5)), (6, .int (oI v3)), (7, .int (oI v4)), (8, .int (oI v5))] → W p l e { frames := 0, cells := 0, slots := 0, locals := 0 } s m args below meth c H locs 0 0 (xQV below args s D (xW T a) z A) (F0 m 51 ls [.int (oI v9)]) := by
      intro v9 x10 H locs ls h M hl
      rw [ejp8] at h
      dsimp only at h
      refine lv_istore (lv' := [(9, .int (oI v9)), (0, .ref (a 6)), (1, .ref (a 32)), (2, .ref (a 33)), (4, .int (oI p4)), (5, .int (oI p5)), (6, .int (oI v3)), (7, .int (oI v4)), (8, .int (oI v5))]) hx hb dX4_merge_51 hl (by decide) rfl (fun ls hl => ?_)
      refine lv_iload hx hb dX4_merge_53 (lv_at hl 0 rfl) ?_
      refine x_jp_el h (fun jp11 ejp11 h => ?_)
      have hjp11 : ∀ (v12 : Int) (v13 : Int) (x14 : XS) (H : Heap) (locs : List Loc) (ls : Array Slot), jp11 v12 v13 x14 = some z → xmm D (xW T a) A s H locs x14 → lv_has ls 10 [(0, .ref (a 6)), (1, .ref (a 32)), (2, .ref (a 33)), (4, .int (oI p4)), (5, .int (oI p5)), (6, .int (oI v12)), (7, .int (oI v13)), (8, .int (oI v5))] → W p l e { frames := 0, cells := 0, slots := 0, locals := 0 } s m args below meth c H locs 0 0 (xQV below args s D (xW T a) z A) (F0 m 89 ls []) := by
        intro v12 v13 x14 H locs ls h M hl
        rw [ejp11] at h
        dsimp only at h
        refine x_nm h (fun v15 ev15 h => ?_)
        refine lv_iinc (v := oI v15) (lv' := [(8, .int (oI v15)), (0, .ref (a 6)), (1, .ref (a 32)), (2, .ref (a 33)), (4, .int (oI p4)), (5, .int (oI p5)), (6, .int (oI v12)), (7, .int (oI v13))]) hx hb dX4_merge_89 hl (k := 7) rfl (by rw [ev15]; exact oI_add _ _) (by decide) rfl (fun ls hl => ?_)
        refine lv_goto (tgt := 10) hx hb dX4_merge_92 (by decide) ?_
        exact ig7 v12 v13 v15 x14 h H locs ls M (lv_sub hl [1, 2, 3, 4, 5, 6, 7, 0] rfl)
      refine z_if_eq (tgt := 75) hx hb dX4_merge_55 (by decide) h (fun h => ?_) (fun h => ?_)
      · refine lv_aload_n hx hb dX4_merge_75 rfl (lv_at hl 1 rfl) ?_
        refine gf_X4_9 C M dX4_merge_76 ?_
        refine lv_iload hx hb dX4_merge_79 (lv_at hl 8 rfl) ?_
        refine lv_aload_n hx hb dX4_merge_81 rfl (lv_at hl 2 rfl) ?_
        refine lv_iload hx hb dX4_merge_82 (lv_at hl 7 rfl) ?_
        refine al_x_32 C M dX4_merge_84 h (fun v16 h => ?_)
        refine as_x_41 C M dX4_merge_85 h (fun H locs x17 M h => ?_)
        refine x_nm h (fun v18 ev18 h => ?_)
        refine lv_iinc (v := oI v18) (lv' := [(7, .int (oI v18)), (9, .int (oI v9)), (0, .ref (a 6)), (1, .ref (a 32)), (2, .ref (a 33)), (4, .int (oI p4)), (5, .int (oI p5)), (6, .int (oI v3)), (8, .int (oI v5))]) hx hb dX4_merge_86 hl (k := 7) rfl (by rw [ev18]; exact oI_add _ _) (by decide) rfl (fun ls hl => ?_)
        exact hjp11 v3 v18 x17 H locs ls h M (lv_sub hl [2, 3, 4, 5, 6, 7, 0, 8] rfl)
      · refine lv_aload_n hx hb dX4_merge_58 rfl (lv_at hl 1 rfl) ?_
        refine gf_X4_9 C M dX4_merge_59 ?_
        refine lv_iload hx hb dX4_merge_62 (lv_at hl 8 rfl) ?_
        refine lv_aload_n hx hb dX4_merge_64 rfl (lv_at hl 2 rfl) ?_
        refine lv_iload hx hb dX4_merge_65 (lv_at hl 6 rfl) ?_
        refine al_x_32 C M dX4_merge_67 h (fun v19 h => ?_)
        refine as_x_41 C M dX4_merge_68 h (fun H locs x20 M h => ?_)
        refine x_nm h (fun v21 ev21 h => ?_)
        refine lv_iinc (v := oI v21) (lv' := [(6, .int (oI v21)), (9, .int (oI v9)), (0, .ref (a 6)), (1, .ref (a 32)), (2, .ref (a 33)), (4, .int (oI p4)), (5, .int (oI p5)), (7, .int (oI v4)), (8, .int (oI v5))]) hx hb dX4_merge_69 hl (k := 6) rfl (by rw [ev21]; exact oI_add _ _) (by decide) rfl (fun ls hl => ?_)
        refine lv_goto (tgt := 89) hx hb dX4_merge_72 (by decide) ?_
        exact hjp11 v21 v4 x20 H locs ls h M (lv_sub hl [2, 3, 4, 5, 6, 0, 7, 8] rfl)
    refine x_jp_el h (fun jp22 ejp22 h => ?_)
    have hjp22 : ∀ (x23 : XS) (H : Heap) (locs : List Loc) (ls : Array Slot), jp22 x23 = some z → xmm D (xW T a) A s H locs x23 → lv_has ls 10 [(0, .ref (a 6)), (1, .ref (a 32)), (2, .ref (a 33)), (4, .int (oI p4)), (5, .int (oI p5)), (6, .int (oI v3)), (7, .int (oI v4)), (8, .int (oI v5))] → W p l e { frames := 0, cells := 0, slots := 0, locals := 0 } s m args below meth c H locs 0 0 (xQV below args s D (xW T a) z A) (F0 m 46 ls []) := by
      intro x23 H locs ls h M hl
      rw [ejp22] at h
      dsimp only at h
      refine lv_iconst (v := oI 1) hx hb dX4_merge_46 (by decide) ?_
      refine lv_goto (tgt := 51) hx hb dX4_merge_47 (by decide) ?_
      exact hjp8 1 x23 H locs ls h M (lv_sub hl [0, 1, 2, 3, 4, 5, 6, 7] rfl)
    refine z_icmp_ge (tgt := 46) hx hb dX4_merge_21 (by decide) h (fun h => ?_) (fun h => ?_)
    · exact hjp22 x6 H locs ls h M (lv_sub hl [0, 1, 2, 3, 4, 5, 6, 7] rfl)
    · refine lv_iload hx hb dX4_merge_24 (lv_at hl 5 rfl) ?_
      refine lv_iload hx hb dX4_merge_26 (lv_at hl 3 rfl) ?_
      refine x_jp_el h (fun jp24 ejp24 h => ?_)
      have hjp24 : ∀ (x25 : XS) (H : Heap) (locs : List Loc) (ls : Array Slot), jp24 x25 = some z → xmm D (xW T a) A s H locs x25 → lv_has ls 10 [(0, .ref (a 6)), (1, .ref (a 32)), (2, .ref (a 33)), (4, .int (oI p4)), (5, .int (oI p5)), (6, .int (oI v3)), (7, .int (oI v4)), (8, .int (oI v5))] → W p l e { frames := 0, cells := 0, slots := 0, locals := 0 } s m args below meth c H locs 0 0 (xQV below args s D (xW T a) z A) (F0 m 50 ls []) := by
        intro x25 H locs ls h M hl
        rw [ejp24] at h
        dsimp only at h
        refine lv_iconst (v := oI 0) hx hb dX4_merge_50 (by decide) ?_
        exact hjp8 0 x25 H locs ls h M (lv_sub hl [0, 1, 2, 3, 4, 5, 6, 7] rfl)
      refine z_icmp_ge (tgt := 50) hx hb dX4_merge_28 (by decide) h (fun h => ?_) (fun h => ?_)
      · exact hjp24 x6 H locs ls h M (lv_sub hl [0, 1, 2, 3, 4, 5, 6, 7] rfl)
      · refine lv_aload_n hx hb dX4_merge_31 rfl (lv_at hl 2 rfl) ?_
        refine lv_aload_n hx hb dX4_merge_32 rfl (lv_at hl 1 rfl) ?_
        refine lv_iload hx hb dX4_merge_33 (lv_at hl 5 rfl) ?_
        refine al_x_32 C M dX4_merge_35 h (fun v26 h => ?_)
        refine al_x_33 C M dX4_merge_36 h (fun v27 h => ?_)
        refine lv_aload_n hx hb dX4_merge_37 rfl (lv_at hl 2 rfl) ?_
        refine lv_aload_n hx hb dX4_merge_38 rfl (lv_at hl 1 rfl) ?_
        refine lv_iload hx hb dX4_merge_39 (lv_at hl 6 rfl) ?_
        refine al_x_32 C M dX4_merge_41 h (fun v28 h => ?_)
        refine al_x_33 C M dX4_merge_42 h (fun v29 h => ?_)
        refine z_icmp_gt (tgt := 50) hx hb dX4_merge_43 (by decide) h (fun h => ?_) (fun h => ?_)
        · exact hjp24 x6 H locs ls h M (lv_sub hl [0, 1, 2, 3, 4, 5, 6, 7] rfl)
        · exact hjp22 x6 H locs ls h M (lv_sub hl [0, 1, 2, 3, 4, 5, 6, 7] rfl)
theorem ci_X4_21_31_28 {cc : ByteArray} {nL : Nat} {D : va_G} {T : ClassId × ClassId} {a : Nat → Nat} {A : Nat → Prop} {p : Program} {l : Launch} {e : Env} {R : Room} {s : State} {m : MethodId} {args : Array Value} {below : List Frame} {meth : Method} {c : Code} {H : Heap} {locs : List Loc} {Q : State → Prop} {x : XS} {z : Int × XS} {pc : Nat} {ls : Array Slot} {rest : List Value} (C : xcx RX4 cc nL D T (xW T a) A p s m args meth c) (M : xmm D (xW T a) A s H locs x) {p3 p4 p5 : Int} {K : Int → XS → XR} (h : x_call (f_X4_merge 24 21 x p3 p4 p5) K = some z) (hR : 0 + 1 ≤ R.frames ∧ 8 + (10 + 11) + 0 ≤ R.locals) (hsz : ls.size = nL) (hrest : (rest.map fun v => v.category).sum ≤ 8) (hdg : decode cc pc = .ok (.invokevirtual 21, 3)) (kk : ∀ (H1 : Heap) (locs1 : List Loc) (x1 : XS), xmm D (xW T a) A s H1 locs1 x1 → K 0 x1 = some z → W p l e R s m args below meth c H1 locs1 0 0 Q (F0 m (pc + 3) ls rest)) : W p l e R s m args below meth c H locs 0 0 Q (F0 m pc ls (.int (oI p5) :: .int (oI p4) :: .int (oI p3) :: .ref (a 28) :: .ref (a 31) :: .ref (a 6) :: rest)) :=
  xcallV_V (As := [.ref (a 31), .ref (a 28), .int (oI p3), .int (oI p4), .int (oI p5)]) (n := 5) C M (fun zc sz ho => c_X4_merge_31_28 ho sz) bw_517 bw_514 bw_516 bw_27 bw_89 rfl (by decide +kernel) 6 rfl rfl ⟨rfl, rfl⟩ hR hsz rfl hrest hdg h kk
set_option maxHeartbeats 4000000 in
set_option maxRecDepth 100000 in
theorem c_X4_sort_31_28 {l : Launch} {D : va_G} {T : ClassId × ClassId} {a : Nat → Nat} {x : XS} {p2 : Int} {z : Int × XS} (h : f_X4_sort 24 21 x p2 = some z) (sz : Nat) : xMetV l yX4_sort cX4_sort 7 { frames := 1, cells := 0, slots := 0, locals := 29 } D T (xW T a) sz [.ref (a 6), .ref (a 31), .int (oI p2), .ref (a 28)] x z := by
  refine xMetV_of (by decide) (Nat.le_of_ble_eq_true rfl) (xW_ad T a) ?_
  intro p e s m args below meth c A ls C hr M hl
  have hx := C.1
  have hb := C.2.1
  have hl : lv_has ls 7 [(0, .ref (a 6)), (1, .ref (a 31)), (2, .int (oI p2)), (3, .ref (a 28))] := hl
  have C : xcx RX4 cX4_sort 7 D T (xW T a) A p s m args meth c := C
  revert hl M
  generalize ([] : List Loc) = locs
  generalize s.heap = H
  intro M hl
  unfold f_X4_sort at h
  refine lv_iconst (v := oI 1) hx hb dX4_sort_0 (by decide) ?_
  refine lv_istore (lv' := [(4, .int (oI 1)), (0, .ref (a 6)), (1, .ref (a 31)), (2, .int (oI p2)), (3, .ref (a 28))]) hx hb dX4_sort_1 hl (by decide) rfl (fun ls hl => ?_)
  refine x_jp_el h (fun kx1 ekx1 h => ?_)
  have hkx1 : ∀ (x2 : XS) (H : Heap) (locs : List Loc) (ls : Array Slot), kx1 x2 = some z → xmm D (xW T a) A s H locs x2 → lv_has ls 7 [] → W p l e { frames := 1, cells := 0, slots := 0, locals := 29 } s m args below meth c H locs 0 0 (xQV below args s D (xW T a) z A) (F0 m 95 ls []) := by
    intro x2 H locs ls h M hl
    rw [ekx1] at h
    dsimp only at h
    exact xretV C hr M h dX4_sort_95
  refine x_loop1_ind (P := fun v3 x4 => ∀ (H : Heap) (locs : List Loc) (ls : Array Slot), xmm D (xW T a) A s H locs x4 → lv_has ls 7 [(0, .ref (a 6)), (1, .ref (a 31)), (2, .int (oI p2)), (3, .ref (a 28)), (4, .int (oI v3))] → W p l e { frames := 1, cells := 0, slots := 0, locals := 29 } s m args below meth c H locs 0 0 (xQV below args s D (xW T a) z A) (F0 m 3 ls [])) (fun g5 ig5 v3 x4 h => ?_) x_fuel 1 x h H locs ls M (lv_sub hl [1, 2, 3, 4, 0] rfl)
  intro H locs ls M hl
  unfold b_X4_sort_3 at h
  refine lv_iload hx hb dX4_sort_3 (lv_at hl 4 rfl) ?_
  refine lv_iload_n hx hb dX4_sort_5 rfl (lv_at hl 2 rfl) ?_
  refine z_icmp_ge (tgt := 95) hx hb dX4_sort_6 (by decide) h (fun h => ?_) (fun h => ?_)
  · exact hkx1 x4 H locs ls h M (lv_sub hl [] rfl)
  · refine lv_iconst (v := oI 0) hx hb dX4_sort_9 (by decide) ?_
    refine lv_istore (lv' := [(5, .int (oI 0)), (0, .ref (a 6)), (1, .ref (a 31)), (2, .int (oI p2)), (3, .ref (a 28)), (4, .int (oI v3))]) hx hb dX4_sort_10 hl (by decide) rfl (fun ls hl => ?_)
    refine x_jp_el h (fun kx6 ekx6 h => ?_)
    have hkx6 : ∀ (x7 : XS) (H : Heap) (locs : List Loc) (ls : Array Slot), kx6 x7 = some z → xmm D (xW T a) A s H locs x7 → lv_has ls 7 [(0, .ref (a 6)), (1, .ref (a 31)), (2, .int (oI p2)), (3, .ref (a 28)), (4, .int (oI v3))] → W p l e { frames := 1, cells := 0, slots := 0, locals := 29 } s m args below meth c H locs 0 0 (xQV below args s D (xW T a) z A) (F0 m 60 ls []) := by
      intro x7 H locs ls h M hl
      rw [ekx6] at h
      dsimp only at h
      refine lv_iconst (v := oI 0) hx hb dX4_sort_60 (by decide) ?_
      refine lv_istore (lv' := [(5, .int (oI 0)), (0, .ref (a 6)), (1, .ref (a 31)), (2, .int (oI p2)), (3, .ref (a 28)), (4, .int (oI v3))]) hx hb dX4_sort_61 hl (by decide) rfl (fun ls hl => ?_)
      refine x_jp_el h (fun kx8 ekx8 h => ?_)
      have hkx8 : ∀ (x9 : XS) (H : Heap) (locs : List Loc) (ls : Array Slot), kx8 x9 = some z → xmm D (xW T a) A s H locs x9 → lv_has ls 7 [(0, .ref (a 6)), (1, .ref (a 31)), (2, .int (oI p2)), (3, .ref (a 28)), (4, .int (oI v3))] → W p l e { frames := 1, cells := 0, slots := 0, locals := 29 } s m args below meth c H locs 0 0 (xQV below args s D (xW T a) z A) (F0 m 86 ls []) := by
        intro x9 H locs ls h M hl
        rw [ekx8] at h
        dsimp only at h
        refine lv_iload hx hb dX4_sort_86 (lv_at hl 4 rfl) ?_
        refine lv_iconst (v := oI 2) hx hb dX4_sort_88 (by decide) ?_
        refine z_imul hx hb dX4_sort_89 ?_
        refine x_top h (fun v10 h => ?_)
        refine lv_istore (lv' := [(4, .int (oI v10)), (0, .ref (a 6)), (1, .ref (a 31)), (2, .int (oI p2)), (3, .ref (a 28))]) hx hb dX4_sort_90 hl (by decide) rfl (fun ls hl => ?_)
        refine lv_goto (tgt := 3) hx hb dX4_sort_92 (by decide) ?_
        exact ig5 v10 x9 h H locs ls M (lv_sub hl [1, 2, 3, 4, 0] rfl)
      refine x_loop1_ind (P := fun v11 x12 => ∀ (H : Heap) (locs : List Loc) (ls : Array Slot), xmm D (xW T a) A s H locs x12 → lv_has ls 7 [(0, .ref (a 6)), (1, .ref (a 31)), (2, .int (oI p2)), (3, .ref (a 28)), (4, .int (oI v3)), (5, .int (oI v11))] → W p l e { frames := 1, cells := 0, slots := 0, locals := 29 } s m args below meth c H locs 0 0 (xQV below args s D (xW T a) z A) (F0 m 63 ls [])) (fun g13 ig13 v11 x12 h => ?_) x_fuel 0 x7 h H locs ls M (lv_sub hl [1, 2, 3, 4, 5, 0] rfl)
      intro H locs ls M hl
      unfold b_X4_sort_63 at h
      refine lv_iload hx hb dX4_sort_63 (lv_at hl 5 rfl) ?_
      refine lv_iload_n hx hb dX4_sort_65 rfl (lv_at hl 2 rfl) ?_
      refine z_icmp_ge (tgt := 86) hx hb dX4_sort_66 (by decide) h (fun h => ?_) (fun h => ?_)
      · exact hkx8 x12 H locs ls h M (lv_sub hl [0, 1, 2, 3, 4] rfl)
      · refine lv_aload_n hx hb dX4_sort_69 rfl (lv_at hl 1 rfl) ?_
        refine lv_iload hx hb dX4_sort_70 (lv_at hl 5 rfl) ?_
        refine lv_aload_n hx hb dX4_sort_72 rfl (lv_at hl 0 rfl) ?_
        refine gf_X4_9 C M dX4_sort_73 ?_
        refine lv_iload hx hb dX4_sort_76 (lv_at hl 5 rfl) ?_
        refine al_x_41 C M dX4_sort_78 h (fun v14 h => ?_)
        refine as_x_31 C M dX4_sort_79 h (fun H locs x15 M h => ?_)
        refine x_nm h (fun v16 ev16 h => ?_)
        refine lv_iinc (v := oI v16) (lv' := [(5, .int (oI v16)), (0, .ref (a 6)), (1, .ref (a 31)), (2, .int (oI p2)), (3, .ref (a 28)), (4, .int (oI v3))]) hx hb dX4_sort_80 hl (k := 5) rfl (by rw [ev16]; exact oI_add _ _) (by decide) rfl (fun ls hl => ?_)
        refine lv_goto (tgt := 63) hx hb dX4_sort_83 (by decide) ?_
        exact ig13 v16 x15 h H locs ls M (lv_sub hl [1, 2, 3, 4, 5, 0] rfl)
    refine x_loop1_ind (P := fun v17 x18 => ∀ (H : Heap) (locs : List Loc) (ls : Array Slot), xmm D (xW T a) A s H locs x18 → lv_has ls 7 [(0, .ref (a 6)), (1, .ref (a 31)), (2, .int (oI p2)), (3, .ref (a 28)), (4, .int (oI v3)), (5, .int (oI v17))] → W p l e { frames := 1, cells := 0, slots := 0, locals := 29 } s m args below meth c H locs 0 0 (xQV below args s D (xW T a) z A) (F0 m 12 ls [])) (fun g19 ig19 v17 x18 h => ?_) x_fuel 0 x4 h H locs ls M (lv_sub hl [1, 2, 3, 4, 5, 0] rfl)
    intro H locs ls M hl
    unfold b_X4_sort_12 at h
    refine lv_iload hx hb dX4_sort_12 (lv_at hl 5 rfl) ?_
    refine lv_iload_n hx hb dX4_sort_14 rfl (lv_at hl 2 rfl) ?_
    refine z_icmp_ge (tgt := 60) hx hb dX4_sort_15 (by decide) h (fun h => ?_) (fun h => ?_)
    · exact hkx6 x18 H locs ls h M (lv_sub hl [0, 1, 2, 3, 4] rfl)
    · refine lv_iload hx hb dX4_sort_18 (lv_at hl 5 rfl) ?_
      refine lv_iload hx hb dX4_sort_20 (lv_at hl 4 rfl) ?_
      refine z_iadd hx hb dX4_sort_22 ?_
      refine lv_iload_n hx hb dX4_sort_23 rfl (lv_at hl 2 rfl) ?_
      refine va_mmin (own := RX4) hx hb (C.2.2.1.trans hl.1.symm) C.2.2.2.1 (C.2.2.2.2.1 _ bw_511) (C.2.2.2.2.1 _ bw_512) (C.2.2.2.2.1 _ bw_92) (C.2.2.2.2.1 _ bw_513) (Nat.le_of_ble_eq_true rfl) (Nat.le_of_ble_eq_true rfl) (Nat.zero_le _) (Nat.zero_le _) dX4_sort_24 ?_
      refine x_topm h (fun v20 h => ?_)
      refine lv_istore (lv' := [(6, .int (oI v20)), (0, .ref (a 6)), (1, .ref (a 31)), (2, .int (oI p2)), (3, .ref (a 28)), (4, .int (oI v3)), (5, .int (oI v17))]) hx hb dX4_sort_27 hl (by decide) rfl (fun ls hl => ?_)
      refine lv_aload_n hx hb dX4_sort_29 rfl (lv_at hl 1 rfl) ?_
      refine lv_aload_n hx hb dX4_sort_30 rfl (lv_at hl 2 rfl) ?_
      refine lv_aload_n hx hb dX4_sort_31 rfl (lv_at hl 4 rfl) ?_
      refine lv_iload hx hb dX4_sort_32 (lv_at hl 6 rfl) ?_
      refine lv_iload hx hb dX4_sort_34 (lv_at hl 0 rfl) ?_
      refine lv_iload hx hb dX4_sort_36 (lv_at hl 0 rfl) ?_
      refine lv_iload hx hb dX4_sort_38 (lv_at hl 5 rfl) ?_
      refine z_iadd hx hb dX4_sort_40 ?_
      refine lv_iload_n hx hb dX4_sort_41 rfl (lv_at hl 3 rfl) ?_
      refine va_mmin (own := RX4) hx hb (C.2.2.1.trans hl.1.symm) C.2.2.2.1 (C.2.2.2.2.1 _ bw_511) (C.2.2.2.2.1 _ bw_512) (C.2.2.2.2.1 _ bw_92) (C.2.2.2.2.1 _ bw_513) (Nat.le_of_ble_eq_true rfl) (Nat.le_of_ble_eq_true rfl) (Nat.zero_le _) (Nat.zero_le _) dX4_sort_42 ?_
      refine x_topm h (fun v21 h => ?_)
      refine ci_X4_21_31_28 C M h ⟨Nat.le_of_ble_eq_true rfl, Nat.le_of_ble_eq_true rfl⟩ hl.1 (Nat.le_of_ble_eq_true rfl) dX4_sort_45 (fun H locs x23 M h => ?_)
      refine lv_iload hx hb dX4_sort_48 (lv_at hl 6 rfl) ?_
      refine lv_iconst (v := oI 2) hx hb dX4_sort_50 (by decide) ?_
      refine lv_iload hx hb dX4_sort_51 (lv_at hl 5 rfl) ?_
      refine z_imul hx hb dX4_sort_53 ?_
      refine z_iadd hx hb dX4_sort_54 ?_
      refine x_top h (fun v24 h => ?_)
      refine lv_istore (lv' := [(5, .int (oI v24)), (6, .int (oI v20)), (0, .ref (a 6)), (1, .ref (a 31)), (2, .int (oI p2)), (3, .ref (a 28)), (4, .int (oI v3))]) hx hb dX4_sort_55 hl (by decide) rfl (fun ls hl => ?_)
      refine lv_goto (tgt := 12) hx hb dX4_sort_57 (by decide) ?_
      exact ig19 v24 x23 h H locs ls M (lv_sub hl [2, 3, 4, 5, 6, 0] rfl)
theorem ci_X4_21_32_33 {cc : ByteArray} {nL : Nat} {D : va_G} {T : ClassId × ClassId} {a : Nat → Nat} {A : Nat → Prop} {p : Program} {l : Launch} {e : Env} {R : Room} {s : State} {m : MethodId} {args : Array Value} {below : List Frame} {meth : Method} {c : Code} {H : Heap} {locs : List Loc} {Q : State → Prop} {x : XS} {z : Int × XS} {pc : Nat} {ls : Array Slot} {rest : List Value} (C : xcx RX4 cc nL D T (xW T a) A p s m args meth c) (M : xmm D (xW T a) A s H locs x) {p3 p4 p5 : Int} {K : Int → XS → XR} (h : x_call (f_X4_merge 25 26 x p3 p4 p5) K = some z) (hR : 0 + 1 ≤ R.frames ∧ 8 + (10 + 11) + 0 ≤ R.locals) (hsz : ls.size = nL) (hrest : (rest.map fun v => v.category).sum ≤ 8) (hdg : decode cc pc = .ok (.invokevirtual 21, 3)) (kk : ∀ (H1 : Heap) (locs1 : List Loc) (x1 : XS), xmm D (xW T a) A s H1 locs1 x1 → K 0 x1 = some z → W p l e R s m args below meth c H1 locs1 0 0 Q (F0 m (pc + 3) ls rest)) : W p l e R s m args below meth c H locs 0 0 Q (F0 m pc ls (.int (oI p5) :: .int (oI p4) :: .int (oI p3) :: .ref (a 33) :: .ref (a 32) :: .ref (a 6) :: rest)) :=
  xcallV_V (As := [.ref (a 32), .ref (a 33), .int (oI p3), .int (oI p4), .int (oI p5)]) (n := 5) C M (fun zc sz ho => c_X4_merge_32_33 ho sz) bw_517 bw_514 bw_516 bw_27 bw_89 rfl (by decide +kernel) 6 rfl rfl ⟨rfl, rfl⟩ hR hsz rfl hrest hdg h kk
set_option maxHeartbeats 4000000 in
set_option maxRecDepth 100000 in
theorem c_X4_sort_32_33 {l : Launch} {D : va_G} {T : ClassId × ClassId} {a : Nat → Nat} {x : XS} {p2 : Int} {z : Int × XS} (h : f_X4_sort 25 26 x p2 = some z) (sz : Nat) : xMetV l yX4_sort cX4_sort 7 { frames := 1, cells := 0, slots := 0, locals := 29 } D T (xW T a) sz [.ref (a 6), .ref (a 32), .int (oI p2), .ref (a 33)] x z := by
  refine xMetV_of (by decide) (Nat.le_of_ble_eq_true rfl) (xW_ad T a) ?_
  intro p e s m args below meth c A ls C hr M hl
  have hx := C.1
  have hb := C.2.1
  have hl : lv_has ls 7 [(0, .ref (a 6)), (1, .ref (a 32)), (2, .int (oI p2)), (3, .ref (a 33))] := hl
  have C : xcx RX4 cX4_sort 7 D T (xW T a) A p s m args meth c := C
  revert hl M
  generalize ([] : List Loc) = locs
  generalize s.heap = H
  intro M hl
  unfold f_X4_sort at h
  refine lv_iconst (v := oI 1) hx hb dX4_sort_0 (by decide) ?_
  refine lv_istore (lv' := [(4, .int (oI 1)), (0, .ref (a 6)), (1, .ref (a 32)), (2, .int (oI p2)), (3, .ref (a 33))]) hx hb dX4_sort_1 hl (by decide) rfl (fun ls hl => ?_)
  refine x_jp_el h (fun kx1 ekx1 h => ?_)
  have hkx1 : ∀ (x2 : XS) (H : Heap) (locs : List Loc) (ls : Array Slot), kx1 x2 = some z → xmm D (xW T a) A s H locs x2 → lv_has ls 7 [] → W p l e { frames := 1, cells := 0, slots := 0, locals := 29 } s m args below meth c H locs 0 0 (xQV below args s D (xW T a) z A) (F0 m 95 ls []) := by
    intro x2 H locs ls h M hl
    rw [ekx1] at h
    dsimp only at h
    exact xretV C hr M h dX4_sort_95
  refine x_loop1_ind (P := fun v3 x4 => ∀ (H : Heap) (locs : List Loc) (ls : Array Slot), xmm D (xW T a) A s H locs x4 → lv_has ls 7 [(0, .ref (a 6)), (1, .ref (a 32)), (2, .int (oI p2)), (3, .ref (a 33)), (4, .int (oI v3))] → W p l e { frames := 1, cells := 0, slots := 0, locals := 29 } s m args below meth c H locs 0 0 (xQV below args s D (xW T a) z A) (F0 m 3 ls [])) (fun g5 ig5 v3 x4 h => ?_) x_fuel 1 x h H locs ls M (lv_sub hl [1, 2, 3, 4, 0] rfl)
  intro H locs ls M hl
  unfold b_X4_sort_3 at h
  refine lv_iload hx hb dX4_sort_3 (lv_at hl 4 rfl) ?_
  refine lv_iload_n hx hb dX4_sort_5 rfl (lv_at hl 2 rfl) ?_
  refine z_icmp_ge (tgt := 95) hx hb dX4_sort_6 (by decide) h (fun h => ?_) (fun h => ?_)
  · exact hkx1 x4 H locs ls h M (lv_sub hl [] rfl)
  · refine lv_iconst (v := oI 0) hx hb dX4_sort_9 (by decide) ?_
    refine lv_istore (lv' := [(5, .int (oI 0)), (0, .ref (a 6)), (1, .ref (a 32)), (2, .int (oI p2)), (3, .ref (a 33)), (4, .int (oI v3))]) hx hb dX4_sort_10 hl (by decide) rfl (fun ls hl => ?_)
    refine x_jp_el h (fun kx6 ekx6 h => ?_)
    have hkx6 : ∀ (x7 : XS) (H : Heap) (locs : List Loc) (ls : Array Slot), kx6 x7 = some z → xmm D (xW T a) A s H locs x7 → lv_has ls 7 [(0, .ref (a 6)), (1, .ref (a 32)), (2, .int (oI p2)), (3, .ref (a 33)), (4, .int (oI v3))] → W p l e { frames := 1, cells := 0, slots := 0, locals := 29 } s m args below meth c H locs 0 0 (xQV below args s D (xW T a) z A) (F0 m 60 ls []) := by
      intro x7 H locs ls h M hl
      rw [ekx6] at h
      dsimp only at h
      refine lv_iconst (v := oI 0) hx hb dX4_sort_60 (by decide) ?_
      refine lv_istore (lv' := [(5, .int (oI 0)), (0, .ref (a 6)), (1, .ref (a 32)), (2, .int (oI p2)), (3, .ref (a 33)), (4, .int (oI v3))]) hx hb dX4_sort_61 hl (by decide) rfl (fun ls hl => ?_)
      refine x_jp_el h (fun kx8 ekx8 h => ?_)
      have hkx8 : ∀ (x9 : XS) (H : Heap) (locs : List Loc) (ls : Array Slot), kx8 x9 = some z → xmm D (xW T a) A s H locs x9 → lv_has ls 7 [(0, .ref (a 6)), (1, .ref (a 32)), (2, .int (oI p2)), (3, .ref (a 33)), (4, .int (oI v3))] → W p l e { frames := 1, cells := 0, slots := 0, locals := 29 } s m args below meth c H locs 0 0 (xQV below args s D (xW T a) z A) (F0 m 86 ls []) := by
        intro x9 H locs ls h M hl
        rw [ekx8] at h
        dsimp only at h
        refine lv_iload hx hb dX4_sort_86 (lv_at hl 4 rfl) ?_
        refine lv_iconst (v := oI 2) hx hb dX4_sort_88 (by decide) ?_
        refine z_imul hx hb dX4_sort_89 ?_
        refine x_top h (fun v10 h => ?_)
        refine lv_istore (lv' := [(4, .int (oI v10)), (0, .ref (a 6)), (1, .ref (a 32)), (2, .int (oI p2)), (3, .ref (a 33))]) hx hb dX4_sort_90 hl (by decide) rfl (fun ls hl => ?_)
        refine lv_goto (tgt := 3) hx hb dX4_sort_92 (by decide) ?_
        exact ig5 v10 x9 h H locs ls M (lv_sub hl [1, 2, 3, 4, 0] rfl)
      refine x_loop1_ind (P := fun v11 x12 => ∀ (H : Heap) (locs : List Loc) (ls : Array Slot), xmm D (xW T a) A s H locs x12 → lv_has ls 7 [(0, .ref (a 6)), (1, .ref (a 32)), (2, .int (oI p2)), (3, .ref (a 33)), (4, .int (oI v3)), (5, .int (oI v11))] → W p l e { frames := 1, cells := 0, slots := 0, locals := 29 } s m args below meth c H locs 0 0 (xQV below args s D (xW T a) z A) (F0 m 63 ls [])) (fun g13 ig13 v11 x12 h => ?_) x_fuel 0 x7 h H locs ls M (lv_sub hl [1, 2, 3, 4, 5, 0] rfl)
      intro H locs ls M hl
      unfold b_X4_sort_63 at h
      refine lv_iload hx hb dX4_sort_63 (lv_at hl 5 rfl) ?_
      refine lv_iload_n hx hb dX4_sort_65 rfl (lv_at hl 2 rfl) ?_
      refine z_icmp_ge (tgt := 86) hx hb dX4_sort_66 (by decide) h (fun h => ?_) (fun h => ?_)
      · exact hkx8 x12 H locs ls h M (lv_sub hl [0, 1, 2, 3, 4] rfl)
      · refine lv_aload_n hx hb dX4_sort_69 rfl (lv_at hl 1 rfl) ?_
        refine lv_iload hx hb dX4_sort_70 (lv_at hl 5 rfl) ?_
        refine lv_aload_n hx hb dX4_sort_72 rfl (lv_at hl 0 rfl) ?_
        refine gf_X4_9 C M dX4_sort_73 ?_
        refine lv_iload hx hb dX4_sort_76 (lv_at hl 5 rfl) ?_
        refine al_x_41 C M dX4_sort_78 h (fun v14 h => ?_)
        refine as_x_32 C M dX4_sort_79 h (fun H locs x15 M h => ?_)
        refine x_nm h (fun v16 ev16 h => ?_)
        refine lv_iinc (v := oI v16) (lv' := [(5, .int (oI v16)), (0, .ref (a 6)), (1, .ref (a 32)), (2, .int (oI p2)), (3, .ref (a 33)), (4, .int (oI v3))]) hx hb dX4_sort_80 hl (k := 5) rfl (by rw [ev16]; exact oI_add _ _) (by decide) rfl (fun ls hl => ?_)
        refine lv_goto (tgt := 63) hx hb dX4_sort_83 (by decide) ?_
        exact ig13 v16 x15 h H locs ls M (lv_sub hl [1, 2, 3, 4, 5, 0] rfl)
    refine x_loop1_ind (P := fun v17 x18 => ∀ (H : Heap) (locs : List Loc) (ls : Array Slot), xmm D (xW T a) A s H locs x18 → lv_has ls 7 [(0, .ref (a 6)), (1, .ref (a 32)), (2, .int (oI p2)), (3, .ref (a 33)), (4, .int (oI v3)), (5, .int (oI v17))] → W p l e { frames := 1, cells := 0, slots := 0, locals := 29 } s m args below meth c H locs 0 0 (xQV below args s D (xW T a) z A) (F0 m 12 ls [])) (fun g19 ig19 v17 x18 h => ?_) x_fuel 0 x4 h H locs ls M (lv_sub hl [1, 2, 3, 4, 5, 0] rfl)
    intro H locs ls M hl
    unfold b_X4_sort_12 at h
    refine lv_iload hx hb dX4_sort_12 (lv_at hl 5 rfl) ?_
    refine lv_iload_n hx hb dX4_sort_14 rfl (lv_at hl 2 rfl) ?_
    refine z_icmp_ge (tgt := 60) hx hb dX4_sort_15 (by decide) h (fun h => ?_) (fun h => ?_)
    · exact hkx6 x18 H locs ls h M (lv_sub hl [0, 1, 2, 3, 4] rfl)
    · refine lv_iload hx hb dX4_sort_18 (lv_at hl 5 rfl) ?_
      refine lv_iload hx hb dX4_sort_20 (lv_at hl 4 rfl) ?_
      refine z_iadd hx hb dX4_sort_22 ?_
      refine lv_iload_n hx hb dX4_sort_23 rfl (lv_at hl 2 rfl) ?_
      refine va_mmin (own := RX4) hx hb (C.2.2.1.trans hl.1.symm) C.2.2.2.1 (C.2.2.2.2.1 _ bw_511) (C.2.2.2.2.1 _ bw_512) (C.2.2.2.2.1 _ bw_92) (C.2.2.2.2.1 _ bw_513) (Nat.le_of_ble_eq_true rfl) (Nat.le_of_ble_eq_true rfl) (Nat.zero_le _) (Nat.zero_le _) dX4_sort_24 ?_
      refine x_topm h (fun v20 h => ?_)
      refine lv_istore (lv' := [(6, .int (oI v20)), (0, .ref (a 6)), (1, .ref (a 32)), (2, .int (oI p2)), (3, .ref (a 33)), (4, .int (oI v3)), (5, .int (oI v17))]) hx hb dX4_sort_27 hl (by decide) rfl (fun ls hl => ?_)
      refine lv_aload_n hx hb dX4_sort_29 rfl (lv_at hl 1 rfl) ?_
      refine lv_aload_n hx hb dX4_sort_30 rfl (lv_at hl 2 rfl) ?_
      refine lv_aload_n hx hb dX4_sort_31 rfl (lv_at hl 4 rfl) ?_
      refine lv_iload hx hb dX4_sort_32 (lv_at hl 6 rfl) ?_
      refine lv_iload hx hb dX4_sort_34 (lv_at hl 0 rfl) ?_
      refine lv_iload hx hb dX4_sort_36 (lv_at hl 0 rfl) ?_
      refine lv_iload hx hb dX4_sort_38 (lv_at hl 5 rfl) ?_
      refine z_iadd hx hb dX4_sort_40 ?_
      refine lv_iload_n hx hb dX4_sort_41 rfl (lv_at hl 3 rfl) ?_
      refine va_mmin (own := RX4) hx hb (C.2.2.1.trans hl.1.symm) C.2.2.2.1 (C.2.2.2.2.1 _ bw_511) (C.2.2.2.2.1 _ bw_512) (C.2.2.2.2.1 _ bw_92) (C.2.2.2.2.1 _ bw_513) (Nat.le_of_ble_eq_true rfl) (Nat.le_of_ble_eq_true rfl) (Nat.zero_le _) (Nat.zero_le _) dX4_sort_42 ?_
      refine x_topm h (fun v21 h => ?_)
      refine ci_X4_21_32_33 C M h ⟨Nat.le_of_ble_eq_true rfl, Nat.le_of_ble_eq_true rfl⟩ hl.1 (Nat.le_of_ble_eq_true rfl) dX4_sort_45 (fun H locs x23 M h => ?_)
      refine lv_iload hx hb dX4_sort_48 (lv_at hl 6 rfl) ?_
      refine lv_iconst (v := oI 2) hx hb dX4_sort_50 (by decide) ?_
      refine lv_iload hx hb dX4_sort_51 (lv_at hl 5 rfl) ?_
      refine z_imul hx hb dX4_sort_53 ?_
      refine z_iadd hx hb dX4_sort_54 ?_
      refine x_top h (fun v24 h => ?_)
      refine lv_istore (lv' := [(5, .int (oI v24)), (6, .int (oI v20)), (0, .ref (a 6)), (1, .ref (a 32)), (2, .int (oI p2)), (3, .ref (a 33)), (4, .int (oI v3))]) hx hb dX4_sort_55 hl (by decide) rfl (fun ls hl => ?_)
      refine lv_goto (tgt := 12) hx hb dX4_sort_57 (by decide) ?_
      exact ig19 v24 x23 h H locs ls M (lv_sub hl [2, 3, 4, 5, 6, 0] rfl)
set_option maxHeartbeats 4000000 in
set_option maxRecDepth 100000 in
theorem c_X5_goalOf {l : Launch} {D : va_G} {T : ClassId × ClassId} {a : Nat → Nat} {x : XS} {p1 : Int} {z : Int × XS} (h : f_X5_goalOf x p1 = some z) (sz : Nat) : xMetI l yX5_goalOf cX5_goalOf 2 .int { frames := 0, cells := 0, slots := 0, locals := 0 } D T (xW T a) sz [.ref (a 4), .int (oI p1)] x z := by
  refine xMetI_of (by decide) (Nat.le_of_ble_eq_true rfl) (xW_ad T a) ?_
  intro p e s m args below meth c A ls C hr M hl
  have hx := C.1
  have hb := C.2.1
  have hl : lv_has ls 2 [(0, .ref (a 4)), (1, .int (oI p1))] := hl
  have C : xcx RX5 cX5_goalOf 2 D T (xW T a) A p s m args meth c := C
  revert hl M
  generalize ([] : List Loc) = locs
  generalize s.heap = H
  intro M hl
  unfold f_X5_goalOf at h
  refine lv_aload_n hx hb dX5_goalOf_0 rfl (lv_at hl 0 rfl) ?_
  refine gf_X5_66 C M dX5_goalOf_1 ?_
  refine gf_X5_128 C M dX5_goalOf_4 ?_
  refine lv_aload_n hx hb dX5_goalOf_7 rfl (lv_at hl 0 rfl) ?_
  refine gf_X5_29 C M dX5_goalOf_8 ?_
  refine lv_iload_n hx hb dX5_goalOf_11 rfl (lv_at hl 1 rfl) ?_
  refine al_x_27 C M dX5_goalOf_12 h (fun v1 h => ?_)
  refine al_x_12 C M dX5_goalOf_13 h (fun v2 h => ?_)
  exact xretI C hr M h rfl dX5_goalOf_14
theorem ci_X5_135_31_28 {cc : ByteArray} {nL : Nat} {D : va_G} {T : ClassId × ClassId} {a : Nat → Nat} {A : Nat → Prop} {p : Program} {l : Launch} {e : Env} {R : Room} {s : State} {m : MethodId} {args : Array Value} {below : List Frame} {meth : Method} {c : Code} {H : Heap} {locs : List Loc} {Q : State → Prop} {x : XS} {z : Int × XS} {pc : Nat} {ls : Array Slot} {rest : List Value} (C : xcx RX5 cc nL D T (xW T a) A p s m args meth c) (M : xmm D (xW T a) A s H locs x) {p2 : Int} {K : Int → XS → XR} (h : x_call (f_X4_sort 24 21 x p2) K = some z) (hR : 1 + 1 ≤ R.frames ∧ 8 + (7 + 11) + 29 ≤ R.locals) (hsz : ls.size = nL) (hrest : (rest.map fun v => v.category).sum ≤ 8) (hdg : decode cc pc = .ok (.invokevirtual 135, 3)) (kk : ∀ (H1 : Heap) (locs1 : List Loc) (x1 : XS), xmm D (xW T a) A s H1 locs1 x1 → K 0 x1 = some z → W p l e R s m args below meth c H1 locs1 0 0 Q (F0 m (pc + 3) ls rest)) : W p l e R s m args below meth c H locs 0 0 Q (F0 m pc ls (.ref (a 28) :: .int (oI p2) :: .ref (a 31) :: .ref (a 6) :: rest)) :=
  xcallV_N (As := [.ref (a 31), .int (oI p2), .ref (a 28)]) (n := 3) C M (fun zc sz ho => c_X4_sort_31_28 ho sz) bw_510 bw_507 bw_509 bw_26 bw_89 rfl (by decide +kernel) 6 rfl rfl ⟨rfl, rfl⟩ hR hsz rfl hrest hdg h kk
theorem ci_X5_135_32_33 {cc : ByteArray} {nL : Nat} {D : va_G} {T : ClassId × ClassId} {a : Nat → Nat} {A : Nat → Prop} {p : Program} {l : Launch} {e : Env} {R : Room} {s : State} {m : MethodId} {args : Array Value} {below : List Frame} {meth : Method} {c : Code} {H : Heap} {locs : List Loc} {Q : State → Prop} {x : XS} {z : Int × XS} {pc : Nat} {ls : Array Slot} {rest : List Value} (C : xcx RX5 cc nL D T (xW T a) A p s m args meth c) (M : xmm D (xW T a) A s H locs x) {p2 : Int} {K : Int → XS → XR} (h : x_call (f_X4_sort 25 26 x p2) K = some z) (hR : 1 + 1 ≤ R.frames ∧ 8 + (7 + 11) + 29 ≤ R.locals) (hsz : ls.size = nL) (hrest : (rest.map fun v => v.category).sum ≤ 8) (hdg : decode cc pc = .ok (.invokevirtual 135, 3)) (kk : ∀ (H1 : Heap) (locs1 : List Loc) (x1 : XS), xmm D (xW T a) A s H1 locs1 x1 → K 0 x1 = some z → W p l e R s m args below meth c H1 locs1 0 0 Q (F0 m (pc + 3) ls rest)) : W p l e R s m args below meth c H locs 0 0 Q (F0 m pc ls (.ref (a 33) :: .int (oI p2) :: .ref (a 32) :: .ref (a 6) :: rest)) :=
  xcallV_N (As := [.ref (a 32), .int (oI p2), .ref (a 33)]) (n := 3) C M (fun zc sz ho => c_X4_sort_32_33 ho sz) bw_510 bw_507 bw_509 bw_26 bw_89 rfl (by decide +kernel) 6 rfl rfl ⟨rfl, rfl⟩ hR hsz rfl hrest hdg h kk
theorem ci_X5_139 {cc : ByteArray} {nL : Nat} {D : va_G} {T : ClassId × ClassId} {a : Nat → Nat} {A : Nat → Prop} {p : Program} {l : Launch} {e : Env} {R : Room} {s : State} {m : MethodId} {args : Array Value} {below : List Frame} {meth : Method} {c : Code} {H : Heap} {locs : List Loc} {Q : State → Prop} {x : XS} {z : Int × XS} {pc : Nat} {ls : Array Slot} {rest : List Value} (C : xcx RX5 cc nL D T (xW T a) A p s m args meth c) (M : xmm D (xW T a) A s H locs x) {p1 : Int} {K : Int → XS → XR} (h : x_call (f_X5_goalOf x p1) K = some z) (hR : 0 + 1 ≤ R.frames ∧ 8 + (2 + 11) + 0 ≤ R.locals) (hsz : ls.size = nL) (hrest : (rest.map fun v => v.category).sum ≤ 8) (hdg : decode cc pc = .ok (.invokevirtual 139, 3)) (kk : ∀ (r : Int) (H1 : Heap) (locs1 : List Loc) (x1 : XS), xmm D (xW T a) A s H1 locs1 x1 → narrow .int (.int (oI r)) = .int (oI r) → K r x1 = some z → W p l e R s m args below meth c H1 locs1 0 0 Q (F0 m (pc + 3) ls (.int (oI r) :: rest))) : W p l e R s m args below meth c H locs 0 0 Q (F0 m pc ls (.int (oI p1) :: .ref (a 4) :: rest)) :=
  xcallI_V (As := [.int (oI p1)]) (n := 1) C M (fun zc sz ho => c_X5_goalOf ho sz) bw_521 bw_518 bw_520 bw_28 bw_88 rfl (by decide +kernel) 4 rfl rfl ⟨rfl, rfl⟩ hR hsz rfl hrest hdg h kk
set_option maxHeartbeats 4000000 in
set_option maxRecDepth 100000 in
theorem c_X5_orderRuns {l : Launch} {D : va_G} {T : ClassId × ClassId} {a : Nat → Nat} {x : XS} {z : Int × XS} (h : f_X5_orderRuns x = some z) (sz : Nat) : xMetV l yX5_orderRuns cX5_orderRuns 3 { frames := 2, cells := 0, slots := 0, locals := 55 } D T (xW T a) sz [.ref (a 4)] x z := by
  refine xMetV_of (by decide) (Nat.le_of_ble_eq_true rfl) (xW_ad T a) ?_
  intro p e s m args below meth c A ls C hr M hl
  have hx := C.1
  have hb := C.2.1
  have hl : lv_has ls 3 [(0, .ref (a 4))] := hl
  have C : xcx RX5 cX5_orderRuns 3 D T (xW T a) A p s m args meth c := C
  revert hl M
  generalize ([] : List Loc) = locs
  generalize s.heap = H
  intro M hl
  unfold f_X5_orderRuns at h
  refine lv_aload_n hx hb dX5_orderRuns_0 rfl (lv_at hl 0 rfl) ?_
  refine gf_X5_12 C M dX5_orderRuns_1 ?_
  refine lv_aload_n hx hb dX5_orderRuns_4 rfl (lv_at hl 0 rfl) ?_
  refine gf_X5_41 C M dX5_orderRuns_5 ?_
  refine lv_aload_n hx hb dX5_orderRuns_8 rfl (lv_at hl 0 rfl) ?_
  refine gf_X5_60 C M dX5_orderRuns_9 ?_
  refine lv_aload_n hx hb dX5_orderRuns_12 rfl (lv_at hl 0 rfl) ?_
  refine gf_X5_32 C M dX5_orderRuns_13 ?_
  refine ci_X5_135_31_28 C M h ⟨Nat.le_of_ble_eq_true rfl, Nat.le_of_ble_eq_true rfl⟩ hl.1 (Nat.le_of_ble_eq_true rfl) dX5_orderRuns_16 (fun H locs x2 M h => ?_)
  refine lv_aload_n hx hb dX5_orderRuns_19 rfl (lv_at hl 0 rfl) ?_
  refine gf_X5_12 C M dX5_orderRuns_20 ?_
  refine lv_aload_n hx hb dX5_orderRuns_23 rfl (lv_at hl 0 rfl) ?_
  refine gf_X5_44 C M dX5_orderRuns_24 ?_
  refine lv_aload_n hx hb dX5_orderRuns_27 rfl (lv_at hl 0 rfl) ?_
  refine gf_X5_60 C M dX5_orderRuns_28 ?_
  refine lv_aload_n hx hb dX5_orderRuns_31 rfl (lv_at hl 0 rfl) ?_
  refine gf_X5_47 C M dX5_orderRuns_32 ?_
  refine ci_X5_135_32_33 C M h ⟨Nat.le_of_ble_eq_true rfl, Nat.le_of_ble_eq_true rfl⟩ hl.1 (Nat.le_of_ble_eq_true rfl) dX5_orderRuns_35 (fun H locs x4 M h => ?_)
  refine lv_iconst (v := oI 0) hx hb dX5_orderRuns_38 (by decide) ?_
  refine lv_istore_n (lv' := [(1, .int (oI 0)), (0, .ref (a 4))]) hx hb dX5_orderRuns_39 rfl hl (by decide) rfl (fun ls hl => ?_)
  refine lv_iconst (v := oI 0) hx hb dX5_orderRuns_40 (by decide) ?_
  refine lv_istore_n (lv' := [(2, .int (oI 0)), (1, .int (oI 0)), (0, .ref (a 4))]) hx hb dX5_orderRuns_41 rfl hl (by decide) rfl (fun ls hl => ?_)
  refine x_jp_el h (fun kx5 ekx5 h => ?_)
  have hkx5 : ∀ (x6 : XS) (H : Heap) (locs : List Loc) (ls : Array Slot), kx5 x6 = some z → xmm D (xW T a) A s H locs x6 → lv_has ls 3 [] → W p l e { frames := 2, cells := 0, slots := 0, locals := 55 } s m args below meth c H locs 0 0 (xQV below args s D (xW T a) z A) (F0 m 89 ls []) := by
    intro x6 H locs ls h M hl
    rw [ekx5] at h
    dsimp only at h
    exact xretV C hr M h dX5_orderRuns_89
  refine x_loop2_ind (P := fun v7 v8 x9 => ∀ (H : Heap) (locs : List Loc) (ls : Array Slot), xmm D (xW T a) A s H locs x9 → lv_has ls 3 [(0, .ref (a 4)), (1, .int (oI v7)), (2, .int (oI v8))] → W p l e { frames := 2, cells := 0, slots := 0, locals := 55 } s m args below meth c H locs 0 0 (xQV below args s D (xW T a) z A) (F0 m 42 ls [])) (fun g10 ig10 v7 v8 x9 h => ?_) x_fuel 0 0 x4 h H locs ls M (lv_sub hl [2, 1, 0] rfl)
  intro H locs ls M hl
  unfold b_X5_orderRuns_42 at h
  refine lv_iload_n hx hb dX5_orderRuns_42 rfl (lv_at hl 2 rfl) ?_
  refine lv_bipush (v := oI 24) hx hb dX5_orderRuns_43 (by decide) ?_
  refine z_icmp_ge (tgt := 89) hx hb dX5_orderRuns_45 (by decide) h (fun h => ?_) (fun h => ?_)
  · exact hkx5 x9 H locs ls h M (lv_sub hl [] rfl)
  · refine x_jp_el h (fun kx11 ekx11 h => ?_)
    have hkx11 : ∀ (v12 : Int) (x13 : XS) (H : Heap) (locs : List Loc) (ls : Array Slot), kx11 v12 x13 = some z → xmm D (xW T a) A s H locs x13 → lv_has ls 3 [(0, .ref (a 4)), (1, .int (oI v12)), (2, .int (oI v8))] → W p l e { frames := 2, cells := 0, slots := 0, locals := 55 } s m args below meth c H locs 0 0 (xQV below args s D (xW T a) z A) (F0 m 76 ls []) := by
      intro v12 x13 H locs ls h M hl
      rw [ekx11] at h
      dsimp only at h
      refine lv_aload_n hx hb dX5_orderRuns_76 rfl (lv_at hl 0 rfl) ?_
      refine gf_X5_50 C M dX5_orderRuns_77 ?_
      refine lv_iload_n hx hb dX5_orderRuns_80 rfl (lv_at hl 2 rfl) ?_
      refine lv_iload_n hx hb dX5_orderRuns_81 rfl (lv_at hl 1 rfl) ?_
      refine as_x_34 C M dX5_orderRuns_82 h (fun H locs x14 M h => ?_)
      refine x_nm h (fun v15 ev15 h => ?_)
      refine lv_iinc (v := oI v15) (lv' := [(2, .int (oI v15)), (0, .ref (a 4)), (1, .int (oI v12))]) hx hb dX5_orderRuns_83 hl (k := 2) rfl (by rw [ev15]; exact oI_add _ _) (by decide) rfl (fun ls hl => ?_)
      refine lv_goto (tgt := 42) hx hb dX5_orderRuns_86 (by decide) ?_
      exact ig10 v12 v15 x14 h H locs ls M (lv_sub hl [1, 2, 0] rfl)
    refine x_loop1_ind (P := fun v16 x17 => ∀ (H : Heap) (locs : List Loc) (ls : Array Slot), xmm D (xW T a) A s H locs x17 → lv_has ls 3 [(0, .ref (a 4)), (1, .int (oI v16)), (2, .int (oI v8))] → W p l e { frames := 2, cells := 0, slots := 0, locals := 55 } s m args below meth c H locs 0 0 (xQV below args s D (xW T a) z A) (F0 m 48 ls [])) (fun g18 ig18 v16 x17 h => ?_) x_fuel v7 x9 h H locs ls M (lv_sub hl [0, 1, 2] rfl)
    intro H locs ls M hl
    unfold b_X5_orderRuns_48 at h
    refine lv_iload_n hx hb dX5_orderRuns_48 rfl (lv_at hl 1 rfl) ?_
    refine lv_aload_n hx hb dX5_orderRuns_49 rfl (lv_at hl 0 rfl) ?_
    refine gf_X5_60 C M dX5_orderRuns_50 ?_
    refine z_icmp_ge (tgt := 76) hx hb dX5_orderRuns_53 (by decide) h (fun h => ?_) (fun h => ?_)
    · exact hkx11 v16 x17 H locs ls h M (lv_sub hl [0, 1, 2] rfl)
    · refine lv_aload_n hx hb dX5_orderRuns_56 rfl (lv_at hl 0 rfl) ?_
      refine lv_aload_n hx hb dX5_orderRuns_57 rfl (lv_at hl 0 rfl) ?_
      refine gf_X5_44 C M dX5_orderRuns_58 ?_
      refine lv_iload_n hx hb dX5_orderRuns_61 rfl (lv_at hl 1 rfl) ?_
      refine al_x_32 C M dX5_orderRuns_62 h (fun v19 h => ?_)
      refine ci_X5_139 C M h ⟨Nat.le_of_ble_eq_true rfl, Nat.le_of_ble_eq_true rfl⟩ hl.1 (Nat.le_of_ble_eq_true rfl) dX5_orderRuns_63 (fun r20 H locs x21 M nr20 h => ?_)
      refine lv_iload_n hx hb dX5_orderRuns_66 rfl (lv_at hl 2 rfl) ?_
      refine z_icmp_ne (tgt := 76) hx hb dX5_orderRuns_67 (by decide) h (fun h => ?_) (fun h => ?_)
      · exact hkx11 v16 x21 H locs ls h M (lv_sub hl [0, 1, 2] rfl)
      · refine x_nm h (fun v22 ev22 h => ?_)
        refine lv_iinc (v := oI v22) (lv' := [(1, .int (oI v22)), (0, .ref (a 4)), (2, .int (oI v8))]) hx hb dX5_orderRuns_70 hl (k := 1) rfl (by rw [ev22]; exact oI_add _ _) (by decide) rfl (fun ls hl => ?_)
        refine lv_goto (tgt := 48) hx hb dX5_orderRuns_73 (by decide) ?_
        exact ig18 v22 x21 h H locs ls M (lv_sub hl [1, 0, 2] rfl)
