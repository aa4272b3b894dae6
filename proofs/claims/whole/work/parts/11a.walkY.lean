set_option maxHeartbeats 4000000 in
set_option maxRecDepth 100000 in
theorem c_X7_status {l : Launch} {D : va_G} {T : ClassId × ClassId} {a : Nat → Nat} {x : XS} {z : Int × XS} (h : f_X7_status x = some z) (sz : Nat) : xMetI l yX7_status cX7_status 1 .int { frames := 0, cells := 0, slots := 0, locals := 0 } D T (yW T a) sz [.ref (a 0)] x z := by
  refine xMetI_of (by decide) (Nat.le_of_ble_eq_true rfl) (yW_ad T a) ?_
  intro p e s m args below meth c A ls C hr M hl
  have hx := C.1
  have hb := C.2.1
  have hl : lv_has ls 1 [(0, .ref (a 0))] := hl
  have C : xcx RX7 cX7_status 1 D T (yW T a) A p s m args meth c := C
  revert hl M
  generalize ([] : List Loc) = locs
  generalize s.heap = H
  intro M hl
  unfold f_X7_status at h
  refine lv_aload_n hx hb dX7_status_0 rfl (lv_at hl 0 rfl) ?_
  refine lv_iconst (v := oI 0) hx hb dX7_status_1 (by decide) ?_
  refine pf_X7_92 C M dX7_status_2 h (fun H locs x1 M h => ?_)
  refine lv_aload_n hx hb dX7_status_5 rfl (lv_at hl 0 rfl) ?_
  refine gf_X7_96 C M dX7_status_6 ?_
  exact xretI C hr M h rfl dX7_status_9
set_option maxHeartbeats 4000000 in
set_option maxRecDepth 100000 in
theorem c_X7_refuse {l : Launch} {D : va_G} {T : ClassId × ClassId} {a : Nat → Nat} {x : XS} {p1 : Int} {z : Int × XS} (h : f_X7_refuse x p1 = some z) (sz : Nat) : xMetI l yX7_refuse cX7_refuse 2 .int { frames := 0, cells := 0, slots := 0, locals := 0 } D T (yW T a) sz [.ref (a 0), .int (oI p1)] x z := by
  refine xMetI_of (by decide) (Nat.le_of_ble_eq_true rfl) (yW_ad T a) ?_
  intro p e s m args below meth c A ls C hr M hl
  have hx := C.1
  have hb := C.2.1
  have hl : lv_has ls 2 [(0, .ref (a 0)), (1, .int (oI p1))] := hl
  have C : xcx RX7 cX7_refuse 2 D T (yW T a) A p s m args meth c := C
  revert hl M
  generalize ([] : List Loc) = locs
  generalize s.heap = H
  intro M hl
  unfold f_X7_refuse at h
  refine lv_aload_n hx hb dX7_refuse_0 rfl (lv_at hl 0 rfl) ?_
  refine lv_iload_n hx hb dX7_refuse_1 rfl (lv_at hl 1 rfl) ?_
  refine pf_X7_96 C M dX7_refuse_2 h (fun H locs x1 M h => ?_)
  refine lv_iconst (v := oI (-1)) hx hb dX7_refuse_5 (by decide) ?_
  exact xretI C hr M h rfl dX7_refuse_6
set_option maxHeartbeats 4000000 in
set_option maxRecDepth 100000 in
theorem c_X7_no {l : Launch} {D : va_G} {T : ClassId × ClassId} {a : Nat → Nat} {x : XS} {p1 : Int} {z : Int × XS} (h : f_X7_no x p1 = some z) (sz : Nat) : xMetI l yX7_no cX7_no 2 .boolean { frames := 0, cells := 0, slots := 0, locals := 0 } D T (yW T a) sz [.ref (a 0), .int (oI p1)] x z := by
  refine xMetI_of (by decide) (Nat.le_of_ble_eq_true rfl) (yW_ad T a) ?_
  intro p e s m args below meth c A ls C hr M hl
  have hx := C.1
  have hb := C.2.1
  have hl : lv_has ls 2 [(0, .ref (a 0)), (1, .int (oI p1))] := hl
  have C : xcx RX7 cX7_no 2 D T (yW T a) A p s m args meth c := C
  revert hl M
  generalize ([] : List Loc) = locs
  generalize s.heap = H
  intro M hl
  unfold f_X7_no at h
  refine lv_aload_n hx hb dX7_no_0 rfl (lv_at hl 0 rfl) ?_
  refine lv_iload_n hx hb dX7_no_1 rfl (lv_at hl 1 rfl) ?_
  refine pf_X7_96 C M dX7_no_2 h (fun H locs x1 M h => ?_)
  refine lv_iconst (v := oI 0) hx hb dX7_no_5 (by decide) ?_
  exact xretI C hr M h nb_0 dX7_no_6
set_option maxHeartbeats 4000000 in
set_option maxRecDepth 100000 in
theorem c_X7_isNode {l : Launch} {D : va_G} {T : ClassId × ClassId} {a : Nat → Nat} {x : XS} {p1 : Int} {z : Int × XS} (h : f_X7_isNode x p1 = some z) (sz : Nat) : xMetI l yX7_isNode cX7_isNode 2 .boolean { frames := 0, cells := 0, slots := 0, locals := 0 } D T (yW T a) sz [.ref (a 0), .int (oI p1)] x z := by
  refine xMetI_of (by decide) (Nat.le_of_ble_eq_true rfl) (yW_ad T a) ?_
  intro p e s m args below meth c A ls C hr M hl
  have hx := C.1
  have hb := C.2.1
  have hl : lv_has ls 2 [(0, .ref (a 0)), (1, .int (oI p1))] := hl
  have C : xcx RX7 cX7_isNode 2 D T (yW T a) A p s m args meth c := C
  revert hl M
  generalize ([] : List Loc) = locs
  generalize s.heap = H
  intro M hl
  unfold f_X7_isNode at h
  refine lv_iload_n hx hb dX7_isNode_0 rfl (lv_at hl 1 rfl) ?_
  refine z_if_lt (tgt := 16) hx hb dX7_isNode_1 (by decide) h (fun h => ?_) (fun h => ?_)
  · refine lv_iconst (v := oI 0) hx hb dX7_isNode_16 (by decide) ?_
    exact xretI C hr M h nb_0 dX7_isNode_17
  · refine lv_iload_n hx hb dX7_isNode_4 rfl (lv_at hl 1 rfl) ?_
    refine lv_aload_n hx hb dX7_isNode_5 rfl (lv_at hl 0 rfl) ?_
    refine gf_X7_99 C M dX7_isNode_6 ?_
    refine z_icmp_ge (tgt := 16) hx hb dX7_isNode_9 (by decide) h (fun h => ?_) (fun h => ?_)
    · refine lv_iconst (v := oI 0) hx hb dX7_isNode_16 (by decide) ?_
      exact xretI C hr M h nb_0 dX7_isNode_17
    · refine lv_iconst (v := oI 1) hx hb dX7_isNode_12 (by decide) ?_
      refine lv_goto (tgt := 17) hx hb dX7_isNode_13 (by decide) ?_
      exact xretI C hr M h nb_1 dX7_isNode_17
set_option maxHeartbeats 4000000 in
set_option maxRecDepth 100000 in
theorem c_X7_isLine {l : Launch} {D : va_G} {T : ClassId × ClassId} {a : Nat → Nat} {x : XS} {p1 : Int} {z : Int × XS} (h : f_X7_isLine x p1 = some z) (sz : Nat) : xMetI l yX7_isLine cX7_isLine 2 .boolean { frames := 0, cells := 0, slots := 0, locals := 0 } D T (yW T a) sz [.ref (a 0), .int (oI p1)] x z := by
  refine xMetI_of (by decide) (Nat.le_of_ble_eq_true rfl) (yW_ad T a) ?_
  intro p e s m args below meth c A ls C hr M hl
  have hx := C.1
  have hb := C.2.1
  have hl : lv_has ls 2 [(0, .ref (a 0)), (1, .int (oI p1))] := hl
  have C : xcx RX7 cX7_isLine 2 D T (yW T a) A p s m args meth c := C
  revert hl M
  generalize ([] : List Loc) = locs
  generalize s.heap = H
  intro M hl
  unfold f_X7_isLine at h
  refine lv_iload_n hx hb dX7_isLine_0 rfl (lv_at hl 1 rfl) ?_
  refine z_if_lt (tgt := 16) hx hb dX7_isLine_1 (by decide) h (fun h => ?_) (fun h => ?_)
  · refine lv_iconst (v := oI 0) hx hb dX7_isLine_16 (by decide) ?_
    exact xretI C hr M h nb_0 dX7_isLine_17
  · refine lv_iload_n hx hb dX7_isLine_4 rfl (lv_at hl 1 rfl) ?_
    refine lv_aload_n hx hb dX7_isLine_5 rfl (lv_at hl 0 rfl) ?_
    refine gf_X7_102 C M dX7_isLine_6 ?_
    refine z_icmp_ge (tgt := 16) hx hb dX7_isLine_9 (by decide) h (fun h => ?_) (fun h => ?_)
    · refine lv_iconst (v := oI 0) hx hb dX7_isLine_16 (by decide) ?_
      exact xretI C hr M h nb_0 dX7_isLine_17
    · refine lv_iconst (v := oI 1) hx hb dX7_isLine_12 (by decide) ?_
      refine lv_goto (tgt := 17) hx hb dX7_isLine_13 (by decide) ?_
      exact xretI C hr M h nb_1 dX7_isLine_17
set_option maxHeartbeats 4000000 in
set_option maxRecDepth 100000 in
theorem c_X7_isTick {l : Launch} {D : va_G} {T : ClassId × ClassId} {a : Nat → Nat} {x : XS} {p1 : Int} {z : Int × XS} (h : f_X7_isTick x p1 = some z) (sz : Nat) : xMetI l yX7_isTick cX7_isTick 1 .boolean { frames := 0, cells := 0, slots := 0, locals := 0 } D T (yW T a) sz [.int (oI p1)] x z := by
  refine xMetI_of (by decide) (Nat.le_of_ble_eq_true rfl) (yW_ad T a) ?_
  intro p e s m args below meth c A ls C hr M hl
  have hx := C.1
  have hb := C.2.1
  have hl : lv_has ls 1 [(0, .int (oI p1))] := hl
  have C : xcx RX7 cX7_isTick 1 D T (yW T a) A p s m args meth c := C
  revert hl M
  generalize ([] : List Loc) = locs
  generalize s.heap = H
  intro M hl
  unfold f_X7_isTick at h
  refine lv_iload_n hx hb dX7_isTick_0 rfl (lv_at hl 0 rfl) ?_
  refine z_if_lt (tgt := 15) hx hb dX7_isTick_1 (by decide) h (fun h => ?_) (fun h => ?_)
  · refine lv_iconst (v := oI 0) hx hb dX7_isTick_15 (by decide) ?_
    exact xretI C hr M h nb_0 dX7_isTick_16
  · refine lv_iload_n hx hb dX7_isTick_4 rfl (lv_at hl 0 rfl) ?_
    refine lv_sipush (v := oI 5000) hx hb dX7_isTick_5 (by decide) ?_
    refine z_icmp_gt (tgt := 15) hx hb dX7_isTick_8 (by decide) h (fun h => ?_) (fun h => ?_)
    · refine lv_iconst (v := oI 0) hx hb dX7_isTick_15 (by decide) ?_
      exact xretI C hr M h nb_0 dX7_isTick_16
    · refine lv_iconst (v := oI 1) hx hb dX7_isTick_11 (by decide) ?_
      refine lv_goto (tgt := 16) hx hb dX7_isTick_12 (by decide) ?_
      exact xretI C hr M h nb_1 dX7_isTick_16
set_option maxHeartbeats 4000000 in
set_option maxRecDepth 100000 in
theorem c_X7_areWaits {l : Launch} {D : va_G} {T : ClassId × ClassId} {a : Nat → Nat} {x : XS} {p1 : Int} {p2 : Int} {z : Int × XS} (h : f_X7_areWaits x p1 p2 = some z) (sz : Nat) : xMetI l yX7_areWaits cX7_areWaits 2 .boolean { frames := 0, cells := 0, slots := 0, locals := 0 } D T (yW T a) sz [.int (oI p1), .int (oI p2)] x z := by
  refine xMetI_of (by decide) (Nat.le_of_ble_eq_true rfl) (yW_ad T a) ?_
  intro p e s m args below meth c A ls C hr M hl
  have hx := C.1
  have hb := C.2.1
  have hl : lv_has ls 2 [(0, .int (oI p1)), (1, .int (oI p2))] := hl
  have C : xcx RX7 cX7_areWaits 2 D T (yW T a) A p s m args meth c := C
  revert hl M
  generalize ([] : List Loc) = locs
  generalize s.heap = H
  intro M hl
  unfold f_X7_areWaits at h
  refine lv_iload_n hx hb dX7_areWaits_0 rfl (lv_at hl 0 rfl) ?_
  refine z_if_lt (tgt := 32) hx hb dX7_areWaits_1 (by decide) h (fun h => ?_) (fun h => ?_)
  · refine lv_iconst (v := oI 0) hx hb dX7_areWaits_32 (by decide) ?_
    exact xretI C hr M h nb_0 dX7_areWaits_33
  · refine lv_iload_n hx hb dX7_areWaits_4 rfl (lv_at hl 0 rfl) ?_
    refine lv_sipush (v := oI 200) hx hb dX7_areWaits_5 (by decide) ?_
    refine z_icmp_gt (tgt := 32) hx hb dX7_areWaits_8 (by decide) h (fun h => ?_) (fun h => ?_)
    · refine lv_iconst (v := oI 0) hx hb dX7_areWaits_32 (by decide) ?_
      exact xretI C hr M h nb_0 dX7_areWaits_33
    · refine lv_iload_n hx hb dX7_areWaits_11 rfl (lv_at hl 1 rfl) ?_
      refine lv_iconst (v := oI (-1)) hx hb dX7_areWaits_12 (by decide) ?_
      refine x_jp_el h (fun jp1 ejp1 h => ?_)
      have hjp1 : ∀ (x2 : XS) (H : Heap) (locs : List Loc) (ls : Array Slot), jp1 x2 = some z → xmm D (yW T a) A s H locs x2 → lv_has ls 2 [] → W p l e { frames := 0, cells := 0, slots := 0, locals := 0 } s m args below meth c H locs 0 0 (xQI below args s D (yW T a) .boolean z A) (F0 m 28 ls []) := by
        intro x2 H locs ls h M hl
        rw [ejp1] at h
        dsimp only at h
        refine lv_iconst (v := oI 1) hx hb dX7_areWaits_28 (by decide) ?_
        refine lv_goto (tgt := 33) hx hb dX7_areWaits_29 (by decide) ?_
        exact xretI C hr M h nb_1 dX7_areWaits_33
      refine z_icmp_eq (tgt := 28) hx hb dX7_areWaits_13 (by decide) h (fun h => ?_) (fun h => ?_)
      · exact hjp1 x H locs ls h M (lv_sub hl [] rfl)
      · refine lv_iload_n hx hb dX7_areWaits_16 rfl (lv_at hl 1 rfl) ?_
        refine lv_iload_n hx hb dX7_areWaits_17 rfl (lv_at hl 0 rfl) ?_
        refine z_icmp_lt (tgt := 32) hx hb dX7_areWaits_18 (by decide) h (fun h => ?_) (fun h => ?_)
        · refine lv_iconst (v := oI 0) hx hb dX7_areWaits_32 (by decide) ?_
          exact xretI C hr M h nb_0 dX7_areWaits_33
        · refine lv_iload_n hx hb dX7_areWaits_21 rfl (lv_at hl 1 rfl) ?_
          refine lv_sipush (v := oI 5000) hx hb dX7_areWaits_22 (by decide) ?_
          refine z_icmp_gt (tgt := 32) hx hb dX7_areWaits_25 (by decide) h (fun h => ?_) (fun h => ?_)
          · refine lv_iconst (v := oI 0) hx hb dX7_areWaits_32 (by decide) ?_
            exact xretI C hr M h nb_0 dX7_areWaits_33
          · exact hjp1 x H locs ls h M (lv_sub hl [] rfl)
theorem ci_X7_105 {cc : ByteArray} {nL : Nat} {D : va_G} {T : ClassId × ClassId} {a : Nat → Nat} {A : Nat → Prop} {p : Program} {l : Launch} {e : Env} {R : Room} {s : State} {m : MethodId} {args : Array Value} {below : List Frame} {meth : Method} {c : Code} {H : Heap} {locs : List Loc} {Q : State → Prop} {x : XS} {z : Int × XS} {pc : Nat} {ls : Array Slot} {rest : List Value} (C : xcx RX7 cc nL D T (yW T a) A p s m args meth c) (M : xmm D (yW T a) A s H locs x) {p1 p2 : Int} {K : Int → XS → XR} (h : x_call (f_X7_areWaits x p1 p2) K = some z) (hR : 0 + 1 ≤ R.frames ∧ 8 + (2 + 11) + 0 ≤ R.locals) (hsz : ls.size = nL) (hrest : (rest.map fun v => v.category).sum ≤ 8) (hdg : decode cc pc = .ok (.invokestatic 105, 3)) (kk : ∀ (r : Int) (H1 : Heap) (locs1 : List Loc) (x1 : XS), xmm D (yW T a) A s H1 locs1 x1 → narrow .boolean (.int (oI r)) = .int (oI r) → K r x1 = some z → W p l e R s m args below meth c H1 locs1 0 0 Q (F0 m (pc + 3) ls (.int (oI r) :: rest))) : W p l e R s m args below meth c H locs 0 0 Q (F0 m pc ls (.int (oI p2) :: .int (oI p1) :: rest)) :=
  xcallI_S (As := [.int (oI p1), .int (oI p2)]) (n := 2) C M (fun zc sz ho => c_X7_areWaits ho sz) bw_837 bw_835 bw_836 bw_91 rfl (by decide +kernel) ⟨rfl, rfl⟩ hR hsz rfl hrest hdg h kk
theorem ci_X7_109 {cc : ByteArray} {nL : Nat} {D : va_G} {T : ClassId × ClassId} {a : Nat → Nat} {A : Nat → Prop} {p : Program} {l : Launch} {e : Env} {R : Room} {s : State} {m : MethodId} {args : Array Value} {below : List Frame} {meth : Method} {c : Code} {H : Heap} {locs : List Loc} {Q : State → Prop} {x : XS} {z : Int × XS} {pc : Nat} {ls : Array Slot} {rest : List Value} (C : xcx RX7 cc nL D T (yW T a) A p s m args meth c) (M : xmm D (yW T a) A s H locs x) {p1 : Int} {K : Int → XS → XR} (h : x_call (f_X7_refuse x p1) K = some z) (hR : 0 + 1 ≤ R.frames ∧ 8 + (2 + 11) + 0 ≤ R.locals) (hsz : ls.size = nL) (hrest : (rest.map fun v => v.category).sum ≤ 8) (hdg : decode cc pc = .ok (.invokevirtual 109, 3)) (kk : ∀ (r : Int) (H1 : Heap) (locs1 : List Loc) (x1 : XS), xmm D (yW T a) A s H1 locs1 x1 → narrow .int (.int (oI r)) = .int (oI r) → K r x1 = some z → W p l e R s m args below meth c H1 locs1 0 0 Q (F0 m (pc + 3) ls (.int (oI r) :: rest))) : W p l e R s m args below meth c H locs 0 0 Q (F0 m pc ls (.int (oI p1) :: .ref (a 0) :: rest)) :=
  xcallI_V (As := [.int (oI p1)]) (n := 1) C M (fun zc sz ho => c_X7_refuse ho sz) bw_841 bw_838 bw_840 bw_62 bw_91 rfl (by decide +kernel) 0 rfl rfl ⟨rfl, rfl⟩ hR hsz rfl hrest hdg h kk
set_option maxHeartbeats 4000000 in
set_option maxRecDepth 100000 in
theorem c_X7_node {l : Launch} {D : va_G} {T : ClassId × ClassId} {a : Nat → Nat} {x : XS} {p1 : Int} {p2 : Int} {z : Int × XS} (h : f_X7_node x p1 p2 = some z) (sz : Nat) : xMetI l yX7_node cX7_node 3 .int { frames := 1, cells := 0, slots := 0, locals := 21 } D T (yW T a) sz [.ref (a 0), .int (oI p1), .int (oI p2)] x z := by
  refine xMetI_of (by decide) (Nat.le_of_ble_eq_true rfl) (yW_ad T a) ?_
  intro p e s m args below meth c A ls C hr M hl
  have hx := C.1
  have hb := C.2.1
  have hl : lv_has ls 3 [(0, .ref (a 0)), (1, .int (oI p1)), (2, .int (oI p2))] := hl
  have C : xcx RX7 cX7_node 3 D T (yW T a) A p s m args meth c := C
  revert hl M
  generalize ([] : List Loc) = locs
  generalize s.heap = H
  intro M hl
  unfold f_X7_node at h
  refine lv_aload_n hx hb dX7_node_0 rfl (lv_at hl 0 rfl) ?_
  refine lv_iconst (v := oI 0) hx hb dX7_node_1 (by decide) ?_
  refine pf_X7_92 C M dX7_node_2 h (fun H locs x1 M h => ?_)
  refine lv_aload_n hx hb dX7_node_5 rfl (lv_at hl 0 rfl) ?_
  refine lv_iconst (v := oI 0) hx hb dX7_node_6 (by decide) ?_
  refine pf_X7_96 C M dX7_node_7 h (fun H locs x2 M h => ?_)
  refine lv_iload_n hx hb dX7_node_10 rfl (lv_at hl 1 rfl) ?_
  refine lv_iload_n hx hb dX7_node_11 rfl (lv_at hl 2 rfl) ?_
  refine ci_X7_105 C M h ⟨Nat.le_of_ble_eq_true rfl, Nat.le_of_ble_eq_true rfl⟩ hl.1 (Nat.le_of_ble_eq_true rfl) dX7_node_12 (fun r3 H locs x4 M nr3 h => ?_)
  refine z_if_ne (tgt := 24) hx hb dX7_node_15 (by decide) h (fun h => ?_) (fun h => ?_)
  · refine lv_aload_n hx hb dX7_node_24 rfl (lv_at hl 0 rfl) ?_
    refine gf_X7_99 C M dX7_node_25 ?_
    refine lv_bipush (v := oI 24) hx hb dX7_node_28 (by decide) ?_
    refine z_icmp_ne (tgt := 39) hx hb dX7_node_30 (by decide) h (fun h => ?_) (fun h => ?_)
    · refine lv_aload_n hx hb dX7_node_39 rfl (lv_at hl 0 rfl) ?_
      refine gf_X7_7 C M dX7_node_40 ?_
      refine lv_aload_n hx hb dX7_node_43 rfl (lv_at hl 0 rfl) ?_
      refine gf_X7_99 C M dX7_node_44 ?_
      refine lv_iload_n hx hb dX7_node_47 rfl (lv_at hl 1 rfl) ?_
      refine as_y_1 C M dX7_node_48 h (fun H locs x5 M h => ?_)
      refine lv_aload_n hx hb dX7_node_49 rfl (lv_at hl 0 rfl) ?_
      refine gf_X7_13 C M dX7_node_50 ?_
      refine lv_aload_n hx hb dX7_node_53 rfl (lv_at hl 0 rfl) ?_
      refine gf_X7_99 C M dX7_node_54 ?_
      refine lv_iload_n hx hb dX7_node_57 rfl (lv_at hl 2 rfl) ?_
      refine as_y_2 C M dX7_node_58 h (fun H locs x6 M h => ?_)
      refine lv_aload_n hx hb dX7_node_59 rfl (lv_at hl 0 rfl) ?_
      refine lv_dup hx hb dX7_node_60 rfl ?_
      refine gf_X7_99 C M dX7_node_61 ?_
      refine lv_iconst (v := oI 1) hx hb dX7_node_64 (by decide) ?_
      refine z_iadd hx hb dX7_node_65 ?_
      refine pf_X7_99 C M dX7_node_66 h (fun H locs x7 M h => ?_)
      refine lv_aload_n hx hb dX7_node_69 rfl (lv_at hl 0 rfl) ?_
      refine gf_X7_99 C M dX7_node_70 ?_
      refine lv_iconst (v := oI 1) hx hb dX7_node_73 (by decide) ?_
      refine z_isub hx hb dX7_node_74 ?_
      exact xretI C hr M h rfl dX7_node_75
    · refine lv_aload_n hx hb dX7_node_33 rfl (lv_at hl 0 rfl) ?_
      refine lv_iconst (v := oI 3) hx hb dX7_node_34 (by decide) ?_
      refine ci_X7_109 C M h ⟨Nat.le_of_ble_eq_true rfl, Nat.le_of_ble_eq_true rfl⟩ hl.1 (Nat.le_of_ble_eq_true rfl) dX7_node_35 (fun r8 H locs x9 M nr8 h => ?_)
      exact xretI C hr M h rfl dX7_node_38
  · refine lv_aload_n hx hb dX7_node_18 rfl (lv_at hl 0 rfl) ?_
    refine lv_iconst (v := oI 2) hx hb dX7_node_19 (by decide) ?_
    refine ci_X7_109 C M h ⟨Nat.le_of_ble_eq_true rfl, Nat.le_of_ble_eq_true rfl⟩ hl.1 (Nat.le_of_ble_eq_true rfl) dX7_node_20 (fun r10 H locs x11 M nr10 h => ?_)
    exact xretI C hr M h rfl dX7_node_23
theorem ci_X7_113 {cc : ByteArray} {nL : Nat} {D : va_G} {T : ClassId × ClassId} {a : Nat → Nat} {A : Nat → Prop} {p : Program} {l : Launch} {e : Env} {R : Room} {s : State} {m : MethodId} {args : Array Value} {below : List Frame} {meth : Method} {c : Code} {H : Heap} {locs : List Loc} {Q : State → Prop} {x : XS} {z : Int × XS} {pc : Nat} {ls : Array Slot} {rest : List Value} (C : xcx RX7 cc nL D T (yW T a) A p s m args meth c) (M : xmm D (yW T a) A s H locs x) {p1 : Int} {K : Int → XS → XR} (h : x_call (f_X7_isNode x p1) K = some z) (hR : 0 + 1 ≤ R.frames ∧ 8 + (2 + 11) + 0 ≤ R.locals) (hsz : ls.size = nL) (hrest : (rest.map fun v => v.category).sum ≤ 8) (hdg : decode cc pc = .ok (.invokevirtual 113, 3)) (kk : ∀ (r : Int) (H1 : Heap) (locs1 : List Loc) (x1 : XS), xmm D (yW T a) A s H1 locs1 x1 → narrow .boolean (.int (oI r)) = .int (oI r) → K r x1 = some z → W p l e R s m args below meth c H1 locs1 0 0 Q (F0 m (pc + 3) ls (.int (oI r) :: rest))) : W p l e R s m args below meth c H locs 0 0 Q (F0 m pc ls (.int (oI p1) :: .ref (a 0) :: rest)) :=
  xcallI_V (As := [.int (oI p1)]) (n := 1) C M (fun zc sz ho => c_X7_isNode ho sz) bw_849 bw_846 bw_848 bw_63 bw_91 rfl (by decide +kernel) 0 rfl rfl ⟨rfl, rfl⟩ hR hsz rfl hrest hdg h kk
theorem ci_X7_117 {cc : ByteArray} {nL : Nat} {D : va_G} {T : ClassId × ClassId} {a : Nat → Nat} {A : Nat → Prop} {p : Program} {l : Launch} {e : Env} {R : Room} {s : State} {m : MethodId} {args : Array Value} {below : List Frame} {meth : Method} {c : Code} {H : Heap} {locs : List Loc} {Q : State → Prop} {x : XS} {z : Int × XS} {pc : Nat} {ls : Array Slot} {rest : List Value} (C : xcx RX7 cc nL D T (yW T a) A p s m args meth c) (M : xmm D (yW T a) A s H locs x) {p1 : Int} {K : Int → XS → XR} (h : x_call (f_X7_no x p1) K = some z) (hR : 0 + 1 ≤ R.frames ∧ 8 + (2 + 11) + 0 ≤ R.locals) (hsz : ls.size = nL) (hrest : (rest.map fun v => v.category).sum ≤ 8) (hdg : decode cc pc = .ok (.invokevirtual 117, 3)) (kk : ∀ (r : Int) (H1 : Heap) (locs1 : List Loc) (x1 : XS), xmm D (yW T a) A s H1 locs1 x1 → narrow .boolean (.int (oI r)) = .int (oI r) → K r x1 = some z → W p l e R s m args below meth c H1 locs1 0 0 Q (F0 m (pc + 3) ls (.int (oI r) :: rest))) : W p l e R s m args below meth c H locs 0 0 Q (F0 m pc ls (.int (oI p1) :: .ref (a 0) :: rest)) :=
  xcallI_V (As := [.int (oI p1)]) (n := 1) C M (fun zc sz ho => c_X7_no ho sz) bw_853 bw_850 bw_852 bw_64 bw_91 rfl (by decide +kernel) 0 rfl rfl ⟨rfl, rfl⟩ hR hsz rfl hrest hdg h kk
set_option maxHeartbeats 4000000 in
set_option maxRecDepth 100000 in
theorem c_X7_waits {l : Launch} {D : va_G} {T : ClassId × ClassId} {a : Nat → Nat} {x : XS} {p1 : Int} {p2 : Int} {p3 : Int} {z : Int × XS} (h : f_X7_waits x p1 p2 p3 = some z) (sz : Nat) : xMetI l yX7_waits cX7_waits 4 .boolean { frames := 1, cells := 0, slots := 0, locals := 21 } D T (yW T a) sz [.ref (a 0), .int (oI p1), .int (oI p2), .int (oI p3)] x z := by
  refine xMetI_of (by decide) (Nat.le_of_ble_eq_true rfl) (yW_ad T a) ?_
  intro p e s m args below meth c A ls C hr M hl
  have hx := C.1
  have hb := C.2.1
  have hl : lv_has ls 4 [(0, .ref (a 0)), (1, .int (oI p1)), (2, .int (oI p2)), (3, .int (oI p3))] := hl
  have C : xcx RX7 cX7_waits 4 D T (yW T a) A p s m args meth c := C
  revert hl M
  generalize ([] : List Loc) = locs
  generalize s.heap = H
  intro M hl
  unfold f_X7_waits at h
  refine lv_aload_n hx hb dX7_waits_0 rfl (lv_at hl 0 rfl) ?_
  refine lv_iconst (v := oI 0) hx hb dX7_waits_1 (by decide) ?_
  refine pf_X7_92 C M dX7_waits_2 h (fun H locs x1 M h => ?_)
  refine lv_aload_n hx hb dX7_waits_5 rfl (lv_at hl 0 rfl) ?_
  refine lv_iconst (v := oI 0) hx hb dX7_waits_6 (by decide) ?_
  refine pf_X7_96 C M dX7_waits_7 h (fun H locs x2 M h => ?_)
  refine lv_aload_n hx hb dX7_waits_10 rfl (lv_at hl 0 rfl) ?_
  refine lv_iload_n hx hb dX7_waits_11 rfl (lv_at hl 1 rfl) ?_
  refine ci_X7_113 C M h ⟨Nat.le_of_ble_eq_true rfl, Nat.le_of_ble_eq_true rfl⟩ hl.1 (Nat.le_of_ble_eq_true rfl) dX7_waits_12 (fun r3 H locs x4 M nr3 h => ?_)
  refine z_if_ne (tgt := 24) hx hb dX7_waits_15 (by decide) h (fun h => ?_) (fun h => ?_)
  · refine lv_iload_n hx hb dX7_waits_24 rfl (lv_at hl 2 rfl) ?_
    refine lv_iload_n hx hb dX7_waits_25 rfl (lv_at hl 3 rfl) ?_
    refine ci_X7_105 C M h ⟨Nat.le_of_ble_eq_true rfl, Nat.le_of_ble_eq_true rfl⟩ hl.1 (Nat.le_of_ble_eq_true rfl) dX7_waits_26 (fun r5 H locs x6 M nr5 h => ?_)
    refine z_if_ne (tgt := 38) hx hb dX7_waits_29 (by decide) h (fun h => ?_) (fun h => ?_)
    · refine lv_aload_n hx hb dX7_waits_38 rfl (lv_at hl 0 rfl) ?_
      refine gf_X7_7 C M dX7_waits_39 ?_
      refine lv_iload_n hx hb dX7_waits_42 rfl (lv_at hl 1 rfl) ?_
      refine lv_iload_n hx hb dX7_waits_43 rfl (lv_at hl 2 rfl) ?_
      refine as_y_1 C M dX7_waits_44 h (fun H locs x7 M h => ?_)
      refine lv_aload_n hx hb dX7_waits_45 rfl (lv_at hl 0 rfl) ?_
      refine gf_X7_13 C M dX7_waits_46 ?_
      refine lv_iload_n hx hb dX7_waits_49 rfl (lv_at hl 1 rfl) ?_
      refine lv_iload_n hx hb dX7_waits_50 rfl (lv_at hl 3 rfl) ?_
      refine as_y_2 C M dX7_waits_51 h (fun H locs x8 M h => ?_)
      refine lv_iconst (v := oI 1) hx hb dX7_waits_52 (by decide) ?_
      exact xretI C hr M h nb_1 dX7_waits_53
    · refine lv_aload_n hx hb dX7_waits_32 rfl (lv_at hl 0 rfl) ?_
      refine lv_iconst (v := oI 2) hx hb dX7_waits_33 (by decide) ?_
      refine ci_X7_117 C M h ⟨Nat.le_of_ble_eq_true rfl, Nat.le_of_ble_eq_true rfl⟩ hl.1 (Nat.le_of_ble_eq_true rfl) dX7_waits_34 (fun r9 H locs x10 M nr9 h => ?_)
      exact xretI C hr M h nr9 dX7_waits_37
  · refine lv_aload_n hx hb dX7_waits_18 rfl (lv_at hl 0 rfl) ?_
    refine lv_iconst (v := oI 1) hx hb dX7_waits_19 (by decide) ?_
    refine ci_X7_117 C M h ⟨Nat.le_of_ble_eq_true rfl, Nat.le_of_ble_eq_true rfl⟩ hl.1 (Nat.le_of_ble_eq_true rfl) dX7_waits_20 (fun r11 H locs x12 M nr11 h => ?_)
    exact xretI C hr M h nr11 dX7_waits_23
set_option maxHeartbeats 4000000 in
set_option maxRecDepth 100000 in
theorem c_X7_logs {l : Launch} {D : va_G} {T : ClassId × ClassId} {a : Nat → Nat} {x : XS} {p1 : Int} {p2 : Int} {p3 : Int} {p4 : Int} {z : Int × XS} (h : f_X7_logs x p1 p2 p3 p4 = some z) (sz : Nat) : xMetV l yX7_logs cX7_logs 5 { frames := 0, cells := 0, slots := 0, locals := 0 } D T (yW T a) sz [.ref (a 0), .int (oI p1), .int (oI p2), .int (oI p3), .int (oI p4)] x z := by
  refine xMetV_of (by decide) (Nat.le_of_ble_eq_true rfl) (yW_ad T a) ?_
  intro p e s m args below meth c A ls C hr M hl
  have hx := C.1
  have hb := C.2.1
  have hl : lv_has ls 5 [(0, .ref (a 0)), (1, .int (oI p1)), (2, .int (oI p2)), (3, .int (oI p3)), (4, .int (oI p4))] := hl
  have C : xcx RX7 cX7_logs 5 D T (yW T a) A p s m args meth c := C
  revert hl M
  generalize ([] : List Loc) = locs
  generalize s.heap = H
  intro M hl
  unfold f_X7_logs at h
  refine lv_aload_n hx hb dX7_logs_0 rfl (lv_at hl 0 rfl) ?_
  refine gf_X7_37 C M dX7_logs_1 ?_
  refine lv_aload_n hx hb dX7_logs_4 rfl (lv_at hl 0 rfl) ?_
  refine gf_X7_120 C M dX7_logs_5 ?_
  refine lv_iload_n hx hb dX7_logs_8 rfl (lv_at hl 1 rfl) ?_
  refine as_y_10 C M dX7_logs_9 h (fun H locs x1 M h => ?_)
  refine lv_aload_n hx hb dX7_logs_10 rfl (lv_at hl 0 rfl) ?_
  refine gf_X7_40 C M dX7_logs_11 ?_
  refine lv_aload_n hx hb dX7_logs_14 rfl (lv_at hl 0 rfl) ?_
  refine gf_X7_120 C M dX7_logs_15 ?_
  refine lv_iload_n hx hb dX7_logs_18 rfl (lv_at hl 2 rfl) ?_
  refine as_y_11 C M dX7_logs_19 h (fun H locs x2 M h => ?_)
  refine lv_aload_n hx hb dX7_logs_20 rfl (lv_at hl 0 rfl) ?_
  refine gf_X7_43 C M dX7_logs_21 ?_
  refine lv_aload_n hx hb dX7_logs_24 rfl (lv_at hl 0 rfl) ?_
  refine gf_X7_120 C M dX7_logs_25 ?_
  refine lv_iload_n hx hb dX7_logs_28 rfl (lv_at hl 3 rfl) ?_
  refine as_y_12 C M dX7_logs_29 h (fun H locs x3 M h => ?_)
  refine lv_aload_n hx hb dX7_logs_30 rfl (lv_at hl 0 rfl) ?_
  refine gf_X7_46 C M dX7_logs_31 ?_
  refine lv_aload_n hx hb dX7_logs_34 rfl (lv_at hl 0 rfl) ?_
  refine gf_X7_120 C M dX7_logs_35 ?_
  refine lv_iload hx hb dX7_logs_38 (lv_at hl 4 rfl) ?_
  refine as_y_13 C M dX7_logs_40 h (fun H locs x4 M h => ?_)
  refine lv_aload_n hx hb dX7_logs_41 rfl (lv_at hl 0 rfl) ?_
  refine lv_dup hx hb dX7_logs_42 rfl ?_
  refine gf_X7_120 C M dX7_logs_43 ?_
  refine lv_iconst (v := oI 1) hx hb dX7_logs_46 (by decide) ?_
  refine z_iadd hx hb dX7_logs_47 ?_
  refine pf_X7_120 C M dX7_logs_48 h (fun H locs x5 M h => ?_)
  exact xretV C hr M h dX7_logs_51
theorem ci_X7_123 {cc : ByteArray} {nL : Nat} {D : va_G} {T : ClassId × ClassId} {a : Nat → Nat} {A : Nat → Prop} {p : Program} {l : Launch} {e : Env} {R : Room} {s : State} {m : MethodId} {args : Array Value} {below : List Frame} {meth : Method} {c : Code} {H : Heap} {locs : List Loc} {Q : State → Prop} {x : XS} {z : Int × XS} {pc : Nat} {ls : Array Slot} {rest : List Value} (C : xcx RX7 cc nL D T (yW T a) A p s m args meth c) (M : xmm D (yW T a) A s H locs x) {p1 : Int} {K : Int → XS → XR} (h : x_call (f_X7_isTick x p1) K = some z) (hR : 0 + 1 ≤ R.frames ∧ 8 + (1 + 11) + 0 ≤ R.locals) (hsz : ls.size = nL) (hrest : (rest.map fun v => v.category).sum ≤ 8) (hdg : decode cc pc = .ok (.invokestatic 123, 3)) (kk : ∀ (r : Int) (H1 : Heap) (locs1 : List Loc) (x1 : XS), xmm D (yW T a) A s H1 locs1 x1 → narrow .boolean (.int (oI r)) = .int (oI r) → K r x1 = some z → W p l e R s m args below meth c H1 locs1 0 0 Q (F0 m (pc + 3) ls (.int (oI r) :: rest))) : W p l e R s m args below meth c H locs 0 0 Q (F0 m pc ls (.int (oI p1) :: rest)) :=
  xcallI_S (As := [.int (oI p1)]) (n := 1) C M (fun zc sz ho => c_X7_isTick ho sz) bw_860 bw_858 bw_859 bw_91 rfl (by decide +kernel) ⟨rfl, rfl⟩ hR hsz rfl hrest hdg h kk
theorem ci_X7_129 {cc : ByteArray} {nL : Nat} {D : va_G} {T : ClassId × ClassId} {a : Nat → Nat} {A : Nat → Prop} {p : Program} {l : Launch} {e : Env} {R : Room} {s : State} {m : MethodId} {args : Array Value} {below : List Frame} {meth : Method} {c : Code} {H : Heap} {locs : List Loc} {Q : State → Prop} {x : XS} {z : Int × XS} {pc : Nat} {ls : Array Slot} {rest : List Value} (C : xcx RX7 cc nL D T (yW T a) A p s m args meth c) (M : xmm D (yW T a) A s H locs x) {p1 p2 p3 p4 : Int} {K : Int → XS → XR} (h : x_call (f_X7_logs x p1 p2 p3 p4) K = some z) (hR : 0 + 1 ≤ R.frames ∧ 8 + (5 + 11) + 0 ≤ R.locals) (hsz : ls.size = nL) (hrest : (rest.map fun v => v.category).sum ≤ 8) (hdg : decode cc pc = .ok (.invokevirtual 129, 3)) (kk : ∀ (H1 : Heap) (locs1 : List Loc) (x1 : XS), xmm D (yW T a) A s H1 locs1 x1 → K 0 x1 = some z → W p l e R s m args below meth c H1 locs1 0 0 Q (F0 m (pc + 3) ls rest)) : W p l e R s m args below meth c H locs 0 0 Q (F0 m pc ls (.int (oI p4) :: .int (oI p3) :: .int (oI p2) :: .int (oI p1) :: .ref (a 0) :: rest)) :=
  xcallV_V (As := [.int (oI p1), .int (oI p2), .int (oI p3), .int (oI p4)]) (n := 4) C M (fun zc sz ho => c_X7_logs ho sz) bw_864 bw_861 bw_863 bw_65 bw_91 rfl (by decide +kernel) 0 rfl rfl ⟨rfl, rfl⟩ hR hsz rfl hrest hdg h kk
set_option maxHeartbeats 4000000 in
set_option maxRecDepth 100000 in
theorem c_X7_line {l : Launch} {D : va_G} {T : ClassId × ClassId} {a : Nat → Nat} {x : XS} {p1 : Int} {p2 : Int} {p3 : Int} {p4 : Int} {p5 : Int} {p6 : Int} {p7 : Int} {z : Int × XS} (h : f_X7_line x p1 p2 p3 p4 p5 p6 p7 = some z) (sz : Nat) : xMetI l yX7_line cX7_line 9 .int { frames := 1, cells := 0, slots := 0, locals := 24 } D T (yW T a) sz [.ref (a 0), .int (oI p1), .int (oI p2), .int (oI p3), .int (oI p4), .int (oI p5), .int (oI p6), .int (oI p7)] x z := by
  refine xMetI_of (by decide) (Nat.le_of_ble_eq_true rfl) (yW_ad T a) ?_
  intro p e s m args below meth c A ls C hr M hl
  have hx := C.1
  have hb := C.2.1
  have hl : lv_has ls 9 [(0, .ref (a 0)), (1, .int (oI p1)), (2, .int (oI p2)), (3, .int (oI p3)), (4, .int (oI p4)), (5, .int (oI p5)), (6, .int (oI p6)), (7, .int (oI p7))] := hl
  have C : xcx RX7 cX7_line 9 D T (yW T a) A p s m args meth c := C
  revert hl M
  generalize ([] : List Loc) = locs
  generalize s.heap = H
  intro M hl
  unfold f_X7_line at h
  refine lv_aload_n hx hb dX7_line_0 rfl (lv_at hl 0 rfl) ?_
  refine lv_iconst (v := oI 0) hx hb dX7_line_1 (by decide) ?_
  refine pf_X7_92 C M dX7_line_2 h (fun H locs x1 M h => ?_)
  refine lv_aload_n hx hb dX7_line_5 rfl (lv_at hl 0 rfl) ?_
  refine lv_iconst (v := oI 0) hx hb dX7_line_6 (by decide) ?_
  refine pf_X7_96 C M dX7_line_7 h (fun H locs x2 M h => ?_)
  refine lv_aload_n hx hb dX7_line_10 rfl (lv_at hl 0 rfl) ?_
  refine lv_iload_n hx hb dX7_line_11 rfl (lv_at hl 1 rfl) ?_
  refine ci_X7_113 C M h ⟨Nat.le_of_ble_eq_true rfl, Nat.le_of_ble_eq_true rfl⟩ hl.1 (Nat.le_of_ble_eq_true rfl) dX7_line_12 (fun r3 H locs x4 M nr3 h => ?_)
  refine x_jp_el h (fun jp5 ejp5 h => ?_)
  have hjp5 : ∀ (x6 : XS) (H : Heap) (locs : List Loc) (ls : Array Slot), jp5 x6 = some z → xmm D (yW T a) A s H locs x6 → lv_has ls 9 [(0, .ref (a 0))] → W p l e { frames := 1, cells := 0, slots := 0, locals := 24 } s m args below meth c H locs 0 0 (xQI below args s D (yW T a) .int z A) (F0 m 31 ls []) := by
    intro x6 H locs ls h M hl
    rw [ejp5] at h
    dsimp only at h
    refine lv_aload_n hx hb dX7_line_31 rfl (lv_at hl 0 rfl) ?_
    refine lv_iconst (v := oI 1) hx hb dX7_line_32 (by decide) ?_
    refine ci_X7_109 C M h ⟨Nat.le_of_ble_eq_true rfl, Nat.le_of_ble_eq_true rfl⟩ hl.1 (Nat.le_of_ble_eq_true rfl) dX7_line_33 (fun r7 H locs x8 M nr7 h => ?_)
    exact xretI C hr M h rfl dX7_line_36
  refine z_if_eq (tgt := 31) hx hb dX7_line_15 (by decide) h (fun h => ?_) (fun h => ?_)
  · exact hjp5 x4 H locs ls h M (lv_sub hl [0] rfl)
  · refine lv_aload_n hx hb dX7_line_18 rfl (lv_at hl 0 rfl) ?_
    refine lv_iload_n hx hb dX7_line_19 rfl (lv_at hl 2 rfl) ?_
    refine ci_X7_113 C M h ⟨Nat.le_of_ble_eq_true rfl, Nat.le_of_ble_eq_true rfl⟩ hl.1 (Nat.le_of_ble_eq_true rfl) dX7_line_20 (fun r9 H locs x10 M nr9 h => ?_)
    refine z_if_eq (tgt := 31) hx hb dX7_line_23 (by decide) h (fun h => ?_) (fun h => ?_)
    · exact hjp5 x10 H locs ls h M (lv_sub hl [0] rfl)
    · refine lv_iload_n hx hb dX7_line_26 rfl (lv_at hl 1 rfl) ?_
      refine lv_iload_n hx hb dX7_line_27 rfl (lv_at hl 2 rfl) ?_
      refine z_icmp_ne (tgt := 37) hx hb dX7_line_28 (by decide) h (fun h => ?_) (fun h => ?_)
      · refine lv_iload_n hx hb dX7_line_37 rfl (lv_at hl 3 rfl) ?_
        refine x_jp_el h (fun jp11 ejp11 h => ?_)
        have hjp11 : ∀ (x12 : XS) (H : Heap) (locs : List Loc) (ls : Array Slot), jp11 x12 = some z → xmm D (yW T a) A s H locs x12 → lv_has ls 9 [(0, .ref (a 0))] → W p l e { frames := 1, cells := 0, slots := 0, locals := 24 } s m args below meth c H locs 0 0 (xQI below args s D (yW T a) .int z A) (F0 m 68 ls []) := by
          intro x12 H locs ls h M hl
          rw [ejp11] at h
          dsimp only at h
          refine lv_aload_n hx hb dX7_line_68 rfl (lv_at hl 0 rfl) ?_
          refine lv_iconst (v := oI 2) hx hb dX7_line_69 (by decide) ?_
          refine ci_X7_109 C M h ⟨Nat.le_of_ble_eq_true rfl, Nat.le_of_ble_eq_true rfl⟩ hl.1 (Nat.le_of_ble_eq_true rfl) dX7_line_70 (fun r13 H locs x14 M nr13 h => ?_)
          exact xretI C hr M h rfl dX7_line_73
        refine z_if_lt (tgt := 68) hx hb dX7_line_38 (by decide) h (fun h => ?_) (fun h => ?_)
        · exact hjp11 x10 H locs ls h M (lv_sub hl [0] rfl)
        · refine lv_iload_n hx hb dX7_line_41 rfl (lv_at hl 3 rfl) ?_
          refine lv_iconst (v := oI 2) hx hb dX7_line_42 (by decide) ?_
          refine z_icmp_gt (tgt := 68) hx hb dX7_line_43 (by decide) h (fun h => ?_) (fun h => ?_)
          · exact hjp11 x10 H locs ls h M (lv_sub hl [0] rfl)
          · refine lv_iload hx hb dX7_line_46 (lv_at hl 4 rfl) ?_
            refine ci_X7_123 C M h ⟨Nat.le_of_ble_eq_true rfl, Nat.le_of_ble_eq_true rfl⟩ hl.1 (Nat.le_of_ble_eq_true rfl) dX7_line_48 (fun r15 H locs x16 M nr15 h => ?_)
            refine z_if_eq (tgt := 68) hx hb dX7_line_51 (by decide) h (fun h => ?_) (fun h => ?_)
            · exact hjp11 x16 H locs ls h M (lv_sub hl [0] rfl)
            · refine lv_iload hx hb dX7_line_54 (lv_at hl 5 rfl) ?_
              refine lv_iconst (v := oI 1) hx hb dX7_line_56 (by decide) ?_
              refine z_icmp_lt (tgt := 68) hx hb dX7_line_57 (by decide) h (fun h => ?_) (fun h => ?_)
              · exact hjp11 x16 H locs ls h M (lv_sub hl [0] rfl)
              · refine lv_iload hx hb dX7_line_60 (lv_at hl 5 rfl) ?_
                refine lv_sipush (v := oI 500) hx hb dX7_line_62 (by decide) ?_
                refine z_icmp_le (tgt := 74) hx hb dX7_line_65 (by decide) h (fun h => ?_) (fun h => ?_)
                · refine lv_iload_n hx hb dX7_line_74 rfl (lv_at hl 3 rfl) ?_
                  refine x_jp_el h (fun jp17 ejp17 h => ?_)
                  have hjp17 : ∀ (x18 : XS) (H : Heap) (locs : List Loc) (ls : Array Slot), jp17 x18 = some z → xmm D (yW T a) A s H locs x18 → lv_has ls 9 [(0, .ref (a 0))] → W p l e { frames := 1, cells := 0, slots := 0, locals := 24 } s m args below meth c H locs 0 0 (xQI below args s D (yW T a) .int z A) (F0 m 110 ls []) := by
                    intro x18 H locs ls h M hl
                    rw [ejp17] at h
                    dsimp only at h
                    refine lv_aload_n hx hb dX7_line_110 rfl (lv_at hl 0 rfl) ?_
                    refine lv_iconst (v := oI 2) hx hb dX7_line_111 (by decide) ?_
                    refine ci_X7_109 C M h ⟨Nat.le_of_ble_eq_true rfl, Nat.le_of_ble_eq_true rfl⟩ hl.1 (Nat.le_of_ble_eq_true rfl) dX7_line_112 (fun r19 H locs x20 M nr19 h => ?_)
                    exact xretI C hr M h rfl dX7_line_115
                  refine x_jp_el h (fun jp21 ejp21 h => ?_)
                  have hjp21 : ∀ (x22 : XS) (H : Heap) (locs : List Loc) (ls : Array Slot), jp21 x22 = some z → xmm D (yW T a) A s H locs x22 → lv_has ls 9 [(0, .ref (a 0)), (1, .int (oI p1)), (2, .int (oI p2)), (3, .int (oI p3)), (4, .int (oI p4)), (5, .int (oI p5)), (6, .int (oI p6)), (7, .int (oI p7))] → W p l e { frames := 1, cells := 0, slots := 0, locals := 24 } s m args below meth c H locs 0 0 (xQI below args s D (yW T a) .int z A) (F0 m 91 ls []) := by
                    intro x22 H locs ls h M hl
                    rw [ejp21] at h
                    dsimp only at h
                    refine lv_iload_n hx hb dX7_line_91 rfl (lv_at hl 3 rfl) ?_
                    refine lv_iconst (v := oI 1) hx hb dX7_line_92 (by decide) ?_
                    refine x_jp_el h (fun jp23 ejp23 h => ?_)
                    have hjp23 : ∀ (x24 : XS) (H : Heap) (locs : List Loc) (ls : Array Slot), jp23 x24 = some z → xmm D (yW T a) A s H locs x24 → lv_has ls 9 [(0, .ref (a 0)), (1, .int (oI p1)), (2, .int (oI p2)), (3, .int (oI p3)), (4, .int (oI p4)), (5, .int (oI p5)), (6, .int (oI p6)), (7, .int (oI p7))] → W p l e { frames := 1, cells := 0, slots := 0, locals := 24 } s m args below meth c H locs 0 0 (xQI below args s D (yW T a) .int z A) (F0 m 116 ls []) := by
                      intro x24 H locs ls h M hl
                      rw [ejp23] at h
                      dsimp only at h
                      refine lv_iload_n hx hb dX7_line_116 rfl (lv_at hl 3 rfl) ?_
                      refine x_jp_el h (fun jp25 ejp25 h => ?_)
                      have hjp25 : ∀ (v26 : Int) (x27 : XS) (H : Heap) (locs : List Loc) (ls : Array Slot), jp25 v26 x27 = some z → xmm D (yW T a) A s H locs x27 → lv_has ls 9 [(0, .ref (a 0)), (1, .int (oI p1)), (2, .int (oI p2)), (3, .int (oI p3)), (4, .int (oI p4)), (5, .int (oI p5)), (7, .int (oI p7))] → W p l e { frames := 1, cells := 0, slots := 0, locals := 24 } s m args below meth c H locs 0 0 (xQI below args s D (yW T a) .int z A) (F0 m 126 ls [.int (oI v26)]) := by
                        intro v26 x27 H locs ls h M hl
                        rw [ejp25] at h
                        dsimp only at h
                        refine lv_istore (lv' := [(8, .int (oI v26)), (0, .ref (a 0)), (1, .int (oI p1)), (2, .int (oI p2)), (3, .int (oI p3)), (4, .int (oI p4)), (5, .int (oI p5)), (7, .int (oI p7))]) hx hb dX7_line_126 hl (by decide) rfl (fun ls hl => ?_)
                        refine lv_aload_n hx hb dX7_line_128 rfl (lv_at hl 1 rfl) ?_
                        refine gf_X7_102 C M dX7_line_129 ?_
                        refine lv_bipush (v := oI 100) hx hb dX7_line_132 (by decide) ?_
                        refine x_jp_el h (fun jp28 ejp28 h => ?_)
                        have hjp28 : ∀ (x29 : XS) (H : Heap) (locs : List Loc) (ls : Array Slot), jp28 x29 = some z → xmm D (yW T a) A s H locs x29 → lv_has ls 9 [(0, .ref (a 0))] → W p l e { frames := 1, cells := 0, slots := 0, locals := 24 } s m args below meth c H locs 0 0 (xQI below args s D (yW T a) .int z A) (F0 m 160 ls []) := by
                          intro x29 H locs ls h M hl
                          rw [ejp28] at h
                          dsimp only at h
                          refine lv_aload_n hx hb dX7_line_160 rfl (lv_at hl 0 rfl) ?_
                          refine lv_iconst (v := oI 3) hx hb dX7_line_161 (by decide) ?_
                          refine ci_X7_109 C M h ⟨Nat.le_of_ble_eq_true rfl, Nat.le_of_ble_eq_true rfl⟩ hl.1 (Nat.le_of_ble_eq_true rfl) dX7_line_162 (fun r30 H locs x31 M nr30 h => ?_)
                          exact xretI C hr M h rfl dX7_line_165
                        refine z_icmp_eq (tgt := 160) hx hb dX7_line_134 (by decide) h (fun h => ?_) (fun h => ?_)
                        · exact hjp28 x27 H locs ls h M (lv_sub hl [1] rfl)
                        · refine lv_aload_n hx hb dX7_line_137 rfl (lv_at hl 1 rfl) ?_
                          refine gf_X7_126 C M dX7_line_138 ?_
                          refine lv_iload hx hb dX7_line_141 (lv_at hl 0 rfl) ?_
                          refine z_iadd hx hb dX7_line_143 ?_
                          refine lv_sipush (v := oI 1200) hx hb dX7_line_144 (by decide) ?_
                          refine z_icmp_gt (tgt := 160) hx hb dX7_line_147 (by decide) h (fun h => ?_) (fun h => ?_)
                          · exact hjp28 x27 H locs ls h M (lv_sub hl [1] rfl)
                          · refine lv_aload_n hx hb dX7_line_150 rfl (lv_at hl 1 rfl) ?_
                            refine gf_X7_120 C M dX7_line_151 ?_
                            refine lv_sipush (v := oI 400) hx hb dX7_line_154 (by decide) ?_
                            refine z_icmp_ne (tgt := 166) hx hb dX7_line_157 (by decide) h (fun h => ?_) (fun h => ?_)
                            · refine lv_aload_n hx hb dX7_line_166 rfl (lv_at hl 1 rfl) ?_
                              refine gf_X7_16 C M dX7_line_167 ?_
                              refine lv_aload_n hx hb dX7_line_170 rfl (lv_at hl 1 rfl) ?_
                              refine gf_X7_102 C M dX7_line_171 ?_
                              refine lv_iload_n hx hb dX7_line_174 rfl (lv_at hl 2 rfl) ?_
                              refine as_y_3 C M dX7_line_175 h (fun H locs x32 M h => ?_)
                              refine lv_aload_n hx hb dX7_line_176 rfl (lv_at hl 1 rfl) ?_
                              refine gf_X7_19 C M dX7_line_177 ?_
                              refine lv_aload_n hx hb dX7_line_180 rfl (lv_at hl 1 rfl) ?_
                              refine gf_X7_102 C M dX7_line_181 ?_
                              refine lv_iload_n hx hb dX7_line_184 rfl (lv_at hl 3 rfl) ?_
                              refine as_y_4 C M dX7_line_185 h (fun H locs x33 M h => ?_)
                              refine lv_aload_n hx hb dX7_line_186 rfl (lv_at hl 1 rfl) ?_
                              refine gf_X7_22 C M dX7_line_187 ?_
                              refine lv_aload_n hx hb dX7_line_190 rfl (lv_at hl 1 rfl) ?_
                              refine gf_X7_102 C M dX7_line_191 ?_
                              refine lv_iload_n hx hb dX7_line_194 rfl (lv_at hl 4 rfl) ?_
                              refine as_y_5 C M dX7_line_195 h (fun H locs x34 M h => ?_)
                              refine lv_aload_n hx hb dX7_line_196 rfl (lv_at hl 1 rfl) ?_
                              refine gf_X7_25 C M dX7_line_197 ?_
                              refine lv_aload_n hx hb dX7_line_200 rfl (lv_at hl 1 rfl) ?_
                              refine gf_X7_102 C M dX7_line_201 ?_
                              refine lv_iload hx hb dX7_line_204 (lv_at hl 5 rfl) ?_
                              refine as_y_6 C M dX7_line_206 h (fun H locs x35 M h => ?_)
                              refine lv_aload_n hx hb dX7_line_207 rfl (lv_at hl 1 rfl) ?_
                              refine gf_X7_28 C M dX7_line_208 ?_
                              refine lv_aload_n hx hb dX7_line_211 rfl (lv_at hl 1 rfl) ?_
                              refine gf_X7_102 C M dX7_line_212 ?_
                              refine lv_iload hx hb dX7_line_215 (lv_at hl 6 rfl) ?_
                              refine as_y_7 C M dX7_line_217 h (fun H locs x36 M h => ?_)
                              refine lv_aload_n hx hb dX7_line_218 rfl (lv_at hl 1 rfl) ?_
                              refine gf_X7_31 C M dX7_line_219 ?_
                              refine lv_aload_n hx hb dX7_line_222 rfl (lv_at hl 1 rfl) ?_
                              refine gf_X7_102 C M dX7_line_223 ?_
                              refine lv_iload hx hb dX7_line_226 (lv_at hl 0 rfl) ?_
                              refine as_y_8 C M dX7_line_228 h (fun H locs x37 M h => ?_)
                              refine lv_aload_n hx hb dX7_line_229 rfl (lv_at hl 1 rfl) ?_
                              refine gf_X7_34 C M dX7_line_230 ?_
                              refine lv_aload_n hx hb dX7_line_233 rfl (lv_at hl 1 rfl) ?_
                              refine gf_X7_102 C M dX7_line_234 ?_
                              refine lv_iload_n hx hb dX7_line_237 rfl (lv_at hl 4 rfl) ?_
                              refine lv_iconst (v := oI 1) hx hb dX7_line_238 (by decide) ?_
                              refine x_jp_el h (fun jp38 ejp38 h => ?_)
                              have hjp38 : ∀ (v39 : Int) (x40 : XS) (H : Heap) (locs : List Loc) (ls : Array Slot), jp38 v39 x40 = some z → xmm D (yW T a) A s H locs x40 → lv_has ls 9 [(0, .ref (a 0)), (8, .int (oI v26))] → W p l e { frames := 1, cells := 0, slots := 0, locals := 24 } s m args below meth c H locs 0 0 (xQI below args s D (yW T a) .int z A) (F0 m 248 ls [.int (oI v39), .int (oI (x37.1 3)), .ref (a 9)]) := by
                                intro v39 x40 H locs ls h M hl
                                rw [ejp38] at h
                                dsimp only at h
                                refine as_y_9 C M dX7_line_248 h (fun H locs x41 M h => ?_)
                                refine lv_aload_n hx hb dX7_line_249 rfl (lv_at hl 0 rfl) ?_
                                refine lv_iconst (v := oI 0) hx hb dX7_line_250 (by decide) ?_
                                refine lv_aload_n hx hb dX7_line_251 rfl (lv_at hl 0 rfl) ?_
                                refine gf_X7_102 C M dX7_line_252 ?_
                                refine lv_iconst (v := oI 0) hx hb dX7_line_255 (by decide) ?_
                                refine lv_iconst (v := oI 0) hx hb dX7_line_256 (by decide) ?_
                                refine ci_X7_129 C M h ⟨Nat.le_of_ble_eq_true rfl, Nat.le_of_ble_eq_true rfl⟩ hl.1 (Nat.le_of_ble_eq_true rfl) dX7_line_257 (fun H locs x43 M h => ?_)
                                refine lv_aload_n hx hb dX7_line_260 rfl (lv_at hl 0 rfl) ?_
                                refine lv_dup hx hb dX7_line_261 rfl ?_
                                refine gf_X7_102 C M dX7_line_262 ?_
                                refine lv_iconst (v := oI 1) hx hb dX7_line_265 (by decide) ?_
                                refine z_iadd hx hb dX7_line_266 ?_
                                refine pf_X7_102 C M dX7_line_267 h (fun H locs x44 M h => ?_)
                                refine lv_aload_n hx hb dX7_line_270 rfl (lv_at hl 0 rfl) ?_
                                refine lv_dup hx hb dX7_line_271 rfl ?_
                                refine gf_X7_126 C M dX7_line_272 ?_
                                refine lv_iload hx hb dX7_line_275 (lv_at hl 1 rfl) ?_
                                refine z_iadd hx hb dX7_line_277 ?_
                                refine pf_X7_126 C M dX7_line_278 h (fun H locs x45 M h => ?_)
                                refine lv_aload_n hx hb dX7_line_281 rfl (lv_at hl 0 rfl) ?_
                                refine gf_X7_102 C M dX7_line_282 ?_
                                refine lv_iconst (v := oI 1) hx hb dX7_line_285 (by decide) ?_
                                refine z_isub hx hb dX7_line_286 ?_
                                exact xretI C hr M h rfl dX7_line_287
                              refine z_icmp_ne (tgt := 247) hx hb dX7_line_239 (by decide) h (fun h => ?_) (fun h => ?_)
                              · refine lv_iconst (v := oI 0) hx hb dX7_line_247 (by decide) ?_
                                exact hjp38 0 x37 H locs ls h M (lv_sub hl [1, 0] rfl)
                              · refine lv_iload hx hb dX7_line_242 (lv_at hl 7 rfl) ?_
                                refine lv_goto (tgt := 248) hx hb dX7_line_244 (by decide) ?_
                                exact hjp38 p7 x37 H locs ls h M (lv_sub hl [1, 0] rfl)
                            · exact hjp28 x27 H locs ls h M (lv_sub hl [1] rfl)
                      refine z_if_ne (tgt := 124) hx hb dX7_line_117 (by decide) h (fun h => ?_) (fun h => ?_)
                      · refine lv_iload hx hb dX7_line_124 (lv_at hl 6 rfl) ?_
                        exact hjp25 p6 x24 H locs ls h M (lv_sub hl [0, 1, 2, 3, 4, 5, 7] rfl)
                      · refine lv_iconst (v := oI 1) hx hb dX7_line_120 (by decide) ?_
                        refine lv_goto (tgt := 126) hx hb dX7_line_121 (by decide) ?_
                        exact hjp25 1 x24 H locs ls h M (lv_sub hl [0, 1, 2, 3, 4, 5, 7] rfl)
                    refine z_icmp_ne (tgt := 116) hx hb dX7_line_93 (by decide) h (fun h => ?_) (fun h => ?_)
                    · exact hjp23 x22 H locs ls h M (lv_sub hl [0, 1, 2, 3, 4, 5, 6, 7] rfl)
                    · refine lv_iload hx hb dX7_line_96 (lv_at hl 7 rfl) ?_
                      refine lv_iconst (v := oI 1) hx hb dX7_line_98 (by decide) ?_
                      refine z_icmp_lt (tgt := 110) hx hb dX7_line_99 (by decide) h (fun h => ?_) (fun h => ?_)
                      · exact hjp17 x22 H locs ls h M (lv_sub hl [0] rfl)
                      · refine lv_iload hx hb dX7_line_102 (lv_at hl 7 rfl) ?_
                        refine lv_sipush (v := oI 500) hx hb dX7_line_104 (by decide) ?_
                        refine z_icmp_le (tgt := 116) hx hb dX7_line_107 (by decide) h (fun h => ?_) (fun h => ?_)
                        · exact hjp23 x22 H locs ls h M (lv_sub hl [0, 1, 2, 3, 4, 5, 6, 7] rfl)
                        · exact hjp17 x22 H locs ls h M (lv_sub hl [0] rfl)
                  refine z_if_le (tgt := 91) hx hb dX7_line_75 (by decide) h (fun h => ?_) (fun h => ?_)
                  · exact hjp21 x16 H locs ls h M (lv_sub hl [0, 1, 2, 3, 4, 5, 6, 7] rfl)
                  · refine lv_iload hx hb dX7_line_78 (lv_at hl 6 rfl) ?_
                    refine lv_iconst (v := oI 2) hx hb dX7_line_80 (by decide) ?_
                    refine z_icmp_lt (tgt := 110) hx hb dX7_line_81 (by decide) h (fun h => ?_) (fun h => ?_)
                    · exact hjp17 x16 H locs ls h M (lv_sub hl [0] rfl)
                    · refine lv_iload hx hb dX7_line_84 (lv_at hl 6 rfl) ?_
                      refine lv_bipush (v := oI 60) hx hb dX7_line_86 (by decide) ?_
                      refine z_icmp_gt (tgt := 110) hx hb dX7_line_88 (by decide) h (fun h => ?_) (fun h => ?_)
                      · exact hjp17 x16 H locs ls h M (lv_sub hl [0] rfl)
                      · exact hjp21 x16 H locs ls h M (lv_sub hl [0, 1, 2, 3, 4, 5, 6, 7] rfl)
                · exact hjp11 x16 H locs ls h M (lv_sub hl [0] rfl)
      · exact hjp5 x10 H locs ls h M (lv_sub hl [0] rfl)
set_option maxHeartbeats 4000000 in
set_option maxRecDepth 100000 in
theorem c_X7_isStruckNow {l : Launch} {D : va_G} {T : ClassId × ClassId} {a : Nat → Nat} {x : XS} {p1 : Int} {z : Int × XS} (h : f_X7_isStruckNow x p1 = some z) (sz : Nat) : xMetI l yX7_isStruckNow cX7_isStruckNow 3 .boolean { frames := 0, cells := 0, slots := 0, locals := 0 } D T (yW T a) sz [.ref (a 0), .int (oI p1)] x z := by
  refine xMetI_of (by decide) (Nat.le_of_ble_eq_true rfl) (yW_ad T a) ?_
  intro p e s m args below meth c A ls C hr M hl
  have hx := C.1
  have hb := C.2.1
  have hl : lv_has ls 3 [(0, .ref (a 0)), (1, .int (oI p1))] := hl
  have C : xcx RX7 cX7_isStruckNow 3 D T (yW T a) A p s m args meth c := C
  revert hl M
  generalize ([] : List Loc) = locs
  generalize s.heap = H
  intro M hl
  unfold f_X7_isStruckNow at h
  refine lv_iconst (v := oI 0) hx hb dX7_isStruckNow_0 (by decide) ?_
  refine lv_istore_n (lv' := [(2, .int (oI 0)), (0, .ref (a 0)), (1, .int (oI p1))]) hx hb dX7_isStruckNow_1 rfl hl (by decide) rfl (fun ls hl => ?_)
  refine x_jp_el h (fun kx1 ekx1 h => ?_)
  have hkx1 : ∀ (x2 : XS) (H : Heap) (locs : List Loc) (ls : Array Slot), kx1 x2 = some z → xmm D (yW T a) A s H locs x2 → lv_has ls 3 [] → W p l e { frames := 0, cells := 0, slots := 0, locals := 0 } s m args below meth c H locs 0 0 (xQI below args s D (yW T a) .boolean z A) (F0 m 38 ls []) := by
    intro x2 H locs ls h M hl
    rw [ekx1] at h
    dsimp only at h
    refine lv_iconst (v := oI 0) hx hb dX7_isStruckNow_38 (by decide) ?_
    exact xretI C hr M h nb_0 dX7_isStruckNow_39
  refine x_loop1_ind (P := fun v3 x4 => ∀ (H : Heap) (locs : List Loc) (ls : Array Slot), xmm D (yW T a) A s H locs x4 → lv_has ls 3 [(0, .ref (a 0)), (1, .int (oI p1)), (2, .int (oI v3))] → W p l e { frames := 0, cells := 0, slots := 0, locals := 0 } s m args below meth c H locs 0 0 (xQI below args s D (yW T a) .boolean z A) (F0 m 2 ls [])) (fun g5 ig5 v3 x4 h => ?_) x_fuel 0 x h H locs ls M (lv_sub hl [1, 2, 0] rfl)
  intro H locs ls M hl
  unfold b_X7_isStruckNow_2 at h
  refine lv_iload_n hx hb dX7_isStruckNow_2 rfl (lv_at hl 2 rfl) ?_
  refine lv_aload_n hx hb dX7_isStruckNow_3 rfl (lv_at hl 0 rfl) ?_
  refine gf_X7_120 C M dX7_isStruckNow_4 ?_
  refine z_icmp_ge (tgt := 38) hx hb dX7_isStruckNow_7 (by decide) h (fun h => ?_) (fun h => ?_)
  · exact hkx1 x4 H locs ls h M (lv_sub hl [] rfl)
  · refine lv_aload_n hx hb dX7_isStruckNow_10 rfl (lv_at hl 0 rfl) ?_
    refine gf_X7_37 C M dX7_isStruckNow_11 ?_
    refine lv_iload_n hx hb dX7_isStruckNow_14 rfl (lv_at hl 2 rfl) ?_
    refine al_y_10 C M dX7_isStruckNow_15 h (fun v6 h => ?_)
    refine lv_iconst (v := oI 1) hx hb dX7_isStruckNow_16 (by decide) ?_
    refine x_jp_el h (fun jp7 ejp7 h => ?_)
    have hjp7 : ∀ (x8 : XS) (H : Heap) (locs : List Loc) (ls : Array Slot), jp7 x8 = some z → xmm D (yW T a) A s H locs x8 → lv_has ls 3 [(0, .ref (a 0)), (1, .int (oI p1)), (2, .int (oI v3))] → W p l e { frames := 0, cells := 0, slots := 0, locals := 0 } s m args below meth c H locs 0 0 (xQI below args s D (yW T a) .boolean z A) (F0 m 32 ls []) := by
      intro x8 H locs ls h M hl
      rw [ejp7] at h
      dsimp only at h
      refine x_nm h (fun v9 ev9 h => ?_)
      refine lv_iinc (v := oI v9) (lv' := [(2, .int (oI v9)), (0, .ref (a 0)), (1, .int (oI p1))]) hx hb dX7_isStruckNow_32 hl (k := 2) rfl (by rw [ev9]; exact oI_add _ _) (by decide) rfl (fun ls hl => ?_)
      refine lv_goto (tgt := 2) hx hb dX7_isStruckNow_35 (by decide) ?_
      exact ig5 v9 x8 h H locs ls M (lv_sub hl [1, 2, 0] rfl)
    refine z_icmp_ne (tgt := 32) hx hb dX7_isStruckNow_17 (by decide) h (fun h => ?_) (fun h => ?_)
    · exact hjp7 x4 H locs ls h M (lv_sub hl [0, 1, 2] rfl)
    · refine lv_aload_n hx hb dX7_isStruckNow_20 rfl (lv_at hl 0 rfl) ?_
      refine gf_X7_40 C M dX7_isStruckNow_21 ?_
      refine lv_iload_n hx hb dX7_isStruckNow_24 rfl (lv_at hl 2 rfl) ?_
      refine al_y_11 C M dX7_isStruckNow_25 h (fun v10 h => ?_)
      refine lv_iload_n hx hb dX7_isStruckNow_26 rfl (lv_at hl 1 rfl) ?_
      refine z_icmp_ne (tgt := 32) hx hb dX7_isStruckNow_27 (by decide) h (fun h => ?_) (fun h => ?_)
      · exact hjp7 x4 H locs ls h M (lv_sub hl [0, 1, 2] rfl)
      · refine lv_iconst (v := oI 1) hx hb dX7_isStruckNow_30 (by decide) ?_
        exact xretI C hr M h nb_1 dX7_isStruckNow_31
theorem ci_X7_133 {cc : ByteArray} {nL : Nat} {D : va_G} {T : ClassId × ClassId} {a : Nat → Nat} {A : Nat → Prop} {p : Program} {l : Launch} {e : Env} {R : Room} {s : State} {m : MethodId} {args : Array Value} {below : List Frame} {meth : Method} {c : Code} {H : Heap} {locs : List Loc} {Q : State → Prop} {x : XS} {z : Int × XS} {pc : Nat} {ls : Array Slot} {rest : List Value} (C : xcx RX7 cc nL D T (yW T a) A p s m args meth c) (M : xmm D (yW T a) A s H locs x) {p1 : Int} {K : Int → XS → XR} (h : x_call (f_X7_isLine x p1) K = some z) (hR : 0 + 1 ≤ R.frames ∧ 8 + (2 + 11) + 0 ≤ R.locals) (hsz : ls.size = nL) (hrest : (rest.map fun v => v.category).sum ≤ 8) (hdg : decode cc pc = .ok (.invokevirtual 133, 3)) (kk : ∀ (r : Int) (H1 : Heap) (locs1 : List Loc) (x1 : XS), xmm D (yW T a) A s H1 locs1 x1 → narrow .boolean (.int (oI r)) = .int (oI r) → K r x1 = some z → W p l e R s m args below meth c H1 locs1 0 0 Q (F0 m (pc + 3) ls (.int (oI r) :: rest))) : W p l e R s m args below meth c H locs 0 0 Q (F0 m pc ls (.int (oI p1) :: .ref (a 0) :: rest)) :=
  xcallI_V (As := [.int (oI p1)]) (n := 1) C M (fun zc sz ho => c_X7_isLine ho sz) bw_872 bw_869 bw_871 bw_66 bw_91 rfl (by decide +kernel) 0 rfl rfl ⟨rfl, rfl⟩ hR hsz rfl hrest hdg h kk
theorem ci_X7_136 {cc : ByteArray} {nL : Nat} {D : va_G} {T : ClassId × ClassId} {a : Nat → Nat} {A : Nat → Prop} {p : Program} {l : Launch} {e : Env} {R : Room} {s : State} {m : MethodId} {args : Array Value} {below : List Frame} {meth : Method} {c : Code} {H : Heap} {locs : List Loc} {Q : State → Prop} {x : XS} {z : Int × XS} {pc : Nat} {ls : Array Slot} {rest : List Value} (C : xcx RX7 cc nL D T (yW T a) A p s m args meth c) (M : xmm D (yW T a) A s H locs x) {p1 : Int} {K : Int → XS → XR} (h : x_call (f_X7_isStruckNow x p1) K = some z) (hR : 0 + 1 ≤ R.frames ∧ 8 + (3 + 11) + 0 ≤ R.locals) (hsz : ls.size = nL) (hrest : (rest.map fun v => v.category).sum ≤ 8) (hdg : decode cc pc = .ok (.invokevirtual 136, 3)) (kk : ∀ (r : Int) (H1 : Heap) (locs1 : List Loc) (x1 : XS), xmm D (yW T a) A s H1 locs1 x1 → narrow .boolean (.int (oI r)) = .int (oI r) → K r x1 = some z → W p l e R s m args below meth c H1 locs1 0 0 Q (F0 m (pc + 3) ls (.int (oI r) :: rest))) : W p l e R s m args below meth c H locs 0 0 Q (F0 m pc ls (.int (oI p1) :: .ref (a 0) :: rest)) :=
  xcallI_V (As := [.int (oI p1)]) (n := 1) C M (fun zc sz ho => c_X7_isStruckNow ho sz) bw_876 bw_873 bw_875 bw_67 bw_91 rfl (by decide +kernel) 0 rfl rfl ⟨rfl, rfl⟩ hR hsz rfl hrest hdg h kk
set_option maxHeartbeats 4000000 in
set_option maxRecDepth 100000 in
theorem c_X7_strike {l : Launch} {D : va_G} {T : ClassId × ClassId} {a : Nat → Nat} {x : XS} {p1 : Int} {z : Int × XS} (h : f_X7_strike x p1 = some z) (sz : Nat) : xMetI l yX7_strike cX7_strike 2 .boolean { frames := 1, cells := 0, slots := 0, locals := 24 } D T (yW T a) sz [.ref (a 0), .int (oI p1)] x z := by
  refine xMetI_of (by decide) (Nat.le_of_ble_eq_true rfl) (yW_ad T a) ?_
  intro p e s m args below meth c A ls C hr M hl
  have hx := C.1
  have hb := C.2.1
  have hl : lv_has ls 2 [(0, .ref (a 0)), (1, .int (oI p1))] := hl
  have C : xcx RX7 cX7_strike 2 D T (yW T a) A p s m args meth c := C
  revert hl M
  generalize ([] : List Loc) = locs
  generalize s.heap = H
  intro M hl
  unfold f_X7_strike at h
  refine lv_aload_n hx hb dX7_strike_0 rfl (lv_at hl 0 rfl) ?_
  refine lv_iconst (v := oI 0) hx hb dX7_strike_1 (by decide) ?_
  refine pf_X7_92 C M dX7_strike_2 h (fun H locs x1 M h => ?_)
  refine lv_aload_n hx hb dX7_strike_5 rfl (lv_at hl 0 rfl) ?_
  refine lv_iconst (v := oI 0) hx hb dX7_strike_6 (by decide) ?_
  refine pf_X7_96 C M dX7_strike_7 h (fun H locs x2 M h => ?_)
  refine lv_aload_n hx hb dX7_strike_10 rfl (lv_at hl 0 rfl) ?_
  refine lv_iload_n hx hb dX7_strike_11 rfl (lv_at hl 1 rfl) ?_
  refine ci_X7_133 C M h ⟨Nat.le_of_ble_eq_true rfl, Nat.le_of_ble_eq_true rfl⟩ hl.1 (Nat.le_of_ble_eq_true rfl) dX7_strike_12 (fun r3 H locs x4 M nr3 h => ?_)
  refine z_if_ne (tgt := 24) hx hb dX7_strike_15 (by decide) h (fun h => ?_) (fun h => ?_)
  · refine lv_aload_n hx hb dX7_strike_24 rfl (lv_at hl 0 rfl) ?_
    refine gf_X7_120 C M dX7_strike_25 ?_
    refine lv_sipush (v := oI 400) hx hb dX7_strike_28 (by decide) ?_
    refine z_icmp_ne (tgt := 40) hx hb dX7_strike_31 (by decide) h (fun h => ?_) (fun h => ?_)
    · refine lv_aload_n hx hb dX7_strike_40 rfl (lv_at hl 0 rfl) ?_
      refine lv_iload_n hx hb dX7_strike_41 rfl (lv_at hl 1 rfl) ?_
      refine ci_X7_136 C M h ⟨Nat.le_of_ble_eq_true rfl, Nat.le_of_ble_eq_true rfl⟩ hl.1 (Nat.le_of_ble_eq_true rfl) dX7_strike_42 (fun r5 H locs x6 M nr5 h => ?_)
      refine z_if_eq (tgt := 54) hx hb dX7_strike_45 (by decide) h (fun h => ?_) (fun h => ?_)
      · refine lv_aload_n hx hb dX7_strike_54 rfl (lv_at hl 0 rfl) ?_
        refine lv_iconst (v := oI 1) hx hb dX7_strike_55 (by decide) ?_
        refine lv_iload_n hx hb dX7_strike_56 rfl (lv_at hl 1 rfl) ?_
        refine lv_iconst (v := oI 0) hx hb dX7_strike_57 (by decide) ?_
        refine lv_iconst (v := oI 0) hx hb dX7_strike_58 (by decide) ?_
        refine ci_X7_129 C M h ⟨Nat.le_of_ble_eq_true rfl, Nat.le_of_ble_eq_true rfl⟩ hl.1 (Nat.le_of_ble_eq_true rfl) dX7_strike_59 (fun H locs x8 M h => ?_)
        refine lv_iconst (v := oI 1) hx hb dX7_strike_62 (by decide) ?_
        exact xretI C hr M h nb_1 dX7_strike_63
      · refine lv_aload_n hx hb dX7_strike_48 rfl (lv_at hl 0 rfl) ?_
        refine lv_iconst (v := oI 4) hx hb dX7_strike_49 (by decide) ?_
        refine ci_X7_117 C M h ⟨Nat.le_of_ble_eq_true rfl, Nat.le_of_ble_eq_true rfl⟩ hl.1 (Nat.le_of_ble_eq_true rfl) dX7_strike_50 (fun r9 H locs x10 M nr9 h => ?_)
        exact xretI C hr M h nr9 dX7_strike_53
    · refine lv_aload_n hx hb dX7_strike_34 rfl (lv_at hl 0 rfl) ?_
      refine lv_iconst (v := oI 3) hx hb dX7_strike_35 (by decide) ?_
      refine ci_X7_117 C M h ⟨Nat.le_of_ble_eq_true rfl, Nat.le_of_ble_eq_true rfl⟩ hl.1 (Nat.le_of_ble_eq_true rfl) dX7_strike_36 (fun r11 H locs x12 M nr11 h => ?_)
      exact xretI C hr M h nr11 dX7_strike_39
  · refine lv_aload_n hx hb dX7_strike_18 rfl (lv_at hl 0 rfl) ?_
    refine lv_iconst (v := oI 1) hx hb dX7_strike_19 (by decide) ?_
    refine ci_X7_117 C M h ⟨Nat.le_of_ble_eq_true rfl, Nat.le_of_ble_eq_true rfl⟩ hl.1 (Nat.le_of_ble_eq_true rfl) dX7_strike_20 (fun r13 H locs x14 M nr13 h => ?_)
    exact xretI C hr M h nr13 dX7_strike_23
set_option maxHeartbeats 4000000 in
set_option maxRecDepth 100000 in
theorem c_X7_delay {l : Launch} {D : va_G} {T : ClassId × ClassId} {a : Nat → Nat} {x : XS} {p1 : Int} {p2 : Int} {p3 : Int} {z : Int × XS} (h : f_X7_delay x p1 p2 p3 = some z) (sz : Nat) : xMetI l yX7_delay cX7_delay 4 .boolean { frames := 1, cells := 0, slots := 0, locals := 24 } D T (yW T a) sz [.ref (a 0), .int (oI p1), .int (oI p2), .int (oI p3)] x z := by
  refine xMetI_of (by decide) (Nat.le_of_ble_eq_true rfl) (yW_ad T a) ?_
  intro p e s m args below meth c A ls C hr M hl
  have hx := C.1
  have hb := C.2.1
  have hl : lv_has ls 4 [(0, .ref (a 0)), (1, .int (oI p1)), (2, .int (oI p2)), (3, .int (oI p3))] := hl
  have C : xcx RX7 cX7_delay 4 D T (yW T a) A p s m args meth c := C
  revert hl M
  generalize ([] : List Loc) = locs
  generalize s.heap = H
  intro M hl
  unfold f_X7_delay at h
  refine lv_aload_n hx hb dX7_delay_0 rfl (lv_at hl 0 rfl) ?_
  refine lv_iconst (v := oI 0) hx hb dX7_delay_1 (by decide) ?_
  refine pf_X7_92 C M dX7_delay_2 h (fun H locs x1 M h => ?_)
  refine lv_aload_n hx hb dX7_delay_5 rfl (lv_at hl 0 rfl) ?_
  refine lv_iconst (v := oI 0) hx hb dX7_delay_6 (by decide) ?_
  refine pf_X7_96 C M dX7_delay_7 h (fun H locs x2 M h => ?_)
  refine lv_aload_n hx hb dX7_delay_10 rfl (lv_at hl 0 rfl) ?_
  refine lv_iload_n hx hb dX7_delay_11 rfl (lv_at hl 1 rfl) ?_
  refine ci_X7_133 C M h ⟨Nat.le_of_ble_eq_true rfl, Nat.le_of_ble_eq_true rfl⟩ hl.1 (Nat.le_of_ble_eq_true rfl) dX7_delay_12 (fun r3 H locs x4 M nr3 h => ?_)
  refine x_jp_el h (fun jp5 ejp5 h => ?_)
  have hjp5 : ∀ (x6 : XS) (H : Heap) (locs : List Loc) (ls : Array Slot), jp5 x6 = some z → xmm D (yW T a) A s H locs x6 → lv_has ls 4 [(0, .ref (a 0))] → W p l e { frames := 1, cells := 0, slots := 0, locals := 24 } s m args below meth c H locs 0 0 (xQI below args s D (yW T a) .boolean z A) (F0 m 32 ls []) := by
    intro x6 H locs ls h M hl
    rw [ejp5] at h
    dsimp only at h
    refine lv_aload_n hx hb dX7_delay_32 rfl (lv_at hl 0 rfl) ?_
    refine lv_iconst (v := oI 1) hx hb dX7_delay_33 (by decide) ?_
    refine ci_X7_117 C M h ⟨Nat.le_of_ble_eq_true rfl, Nat.le_of_ble_eq_true rfl⟩ hl.1 (Nat.le_of_ble_eq_true rfl) dX7_delay_34 (fun r7 H locs x8 M nr7 h => ?_)
    exact xretI C hr M h nr7 dX7_delay_37
  refine z_if_eq (tgt := 32) hx hb dX7_delay_15 (by decide) h (fun h => ?_) (fun h => ?_)
  · exact hjp5 x4 H locs ls h M (lv_sub hl [0] rfl)
  · refine lv_iload_n hx hb dX7_delay_18 rfl (lv_at hl 2 rfl) ?_
    refine z_if_lt (tgt := 32) hx hb dX7_delay_19 (by decide) h (fun h => ?_) (fun h => ?_)
    · exact hjp5 x4 H locs ls h M (lv_sub hl [0] rfl)
    · refine lv_iload_n hx hb dX7_delay_22 rfl (lv_at hl 2 rfl) ?_
      refine lv_aload_n hx hb dX7_delay_23 rfl (lv_at hl 0 rfl) ?_
      refine gf_X7_31 C M dX7_delay_24 ?_
      refine lv_iload_n hx hb dX7_delay_27 rfl (lv_at hl 1 rfl) ?_
      refine al_y_8 C M dX7_delay_28 h (fun v9 h => ?_)
      refine z_icmp_lt (tgt := 38) hx hb dX7_delay_29 (by decide) h (fun h => ?_) (fun h => ?_)
      · refine lv_iload_n hx hb dX7_delay_38 rfl (lv_at hl 3 rfl) ?_
        refine x_jp_el h (fun jp10 ejp10 h => ?_)
        have hjp10 : ∀ (x11 : XS) (H : Heap) (locs : List Loc) (ls : Array Slot), jp10 x11 = some z → xmm D (yW T a) A s H locs x11 → lv_has ls 4 [(0, .ref (a 0))] → W p l e { frames := 1, cells := 0, slots := 0, locals := 24 } s m args below meth c H locs 0 0 (xQI below args s D (yW T a) .boolean z A) (F0 m 49 ls []) := by
          intro x11 H locs ls h M hl
          rw [ejp10] at h
          dsimp only at h
          refine lv_aload_n hx hb dX7_delay_49 rfl (lv_at hl 0 rfl) ?_
          refine lv_iconst (v := oI 2) hx hb dX7_delay_50 (by decide) ?_
          refine ci_X7_117 C M h ⟨Nat.le_of_ble_eq_true rfl, Nat.le_of_ble_eq_true rfl⟩ hl.1 (Nat.le_of_ble_eq_true rfl) dX7_delay_51 (fun r12 H locs x13 M nr12 h => ?_)
          exact xretI C hr M h nr12 dX7_delay_54
        refine z_if_lt (tgt := 49) hx hb dX7_delay_39 (by decide) h (fun h => ?_) (fun h => ?_)
        · exact hjp10 x4 H locs ls h M (lv_sub hl [0] rfl)
        · refine lv_iload_n hx hb dX7_delay_42 rfl (lv_at hl 3 rfl) ?_
          refine lv_sipush (v := oI 500) hx hb dX7_delay_43 (by decide) ?_
          refine z_icmp_le (tgt := 55) hx hb dX7_delay_46 (by decide) h (fun h => ?_) (fun h => ?_)
          · refine lv_aload_n hx hb dX7_delay_55 rfl (lv_at hl 0 rfl) ?_
            refine gf_X7_120 C M dX7_delay_56 ?_
            refine lv_sipush (v := oI 400) hx hb dX7_delay_59 (by decide) ?_
            refine z_icmp_ne (tgt := 71) hx hb dX7_delay_62 (by decide) h (fun h => ?_) (fun h => ?_)
            · refine lv_aload_n hx hb dX7_delay_71 rfl (lv_at hl 0 rfl) ?_
              refine lv_iload_n hx hb dX7_delay_72 rfl (lv_at hl 1 rfl) ?_
              refine ci_X7_136 C M h ⟨Nat.le_of_ble_eq_true rfl, Nat.le_of_ble_eq_true rfl⟩ hl.1 (Nat.le_of_ble_eq_true rfl) dX7_delay_73 (fun r14 H locs x15 M nr14 h => ?_)
              refine z_if_eq (tgt := 85) hx hb dX7_delay_76 (by decide) h (fun h => ?_) (fun h => ?_)
              · refine lv_aload_n hx hb dX7_delay_85 rfl (lv_at hl 0 rfl) ?_
                refine lv_iconst (v := oI 2) hx hb dX7_delay_86 (by decide) ?_
                refine lv_iload_n hx hb dX7_delay_87 rfl (lv_at hl 1 rfl) ?_
                refine lv_iload_n hx hb dX7_delay_88 rfl (lv_at hl 2 rfl) ?_
                refine lv_iload_n hx hb dX7_delay_89 rfl (lv_at hl 3 rfl) ?_
                refine ci_X7_129 C M h ⟨Nat.le_of_ble_eq_true rfl, Nat.le_of_ble_eq_true rfl⟩ hl.1 (Nat.le_of_ble_eq_true rfl) dX7_delay_90 (fun H locs x17 M h => ?_)
                refine lv_iconst (v := oI 1) hx hb dX7_delay_93 (by decide) ?_
                exact xretI C hr M h nb_1 dX7_delay_94
              · refine lv_aload_n hx hb dX7_delay_79 rfl (lv_at hl 0 rfl) ?_
                refine lv_iconst (v := oI 4) hx hb dX7_delay_80 (by decide) ?_
                refine ci_X7_117 C M h ⟨Nat.le_of_ble_eq_true rfl, Nat.le_of_ble_eq_true rfl⟩ hl.1 (Nat.le_of_ble_eq_true rfl) dX7_delay_81 (fun r18 H locs x19 M nr18 h => ?_)
                exact xretI C hr M h nr18 dX7_delay_84
            · refine lv_aload_n hx hb dX7_delay_65 rfl (lv_at hl 0 rfl) ?_
              refine lv_iconst (v := oI 3) hx hb dX7_delay_66 (by decide) ?_
              refine ci_X7_117 C M h ⟨Nat.le_of_ble_eq_true rfl, Nat.le_of_ble_eq_true rfl⟩ hl.1 (Nat.le_of_ble_eq_true rfl) dX7_delay_67 (fun r20 H locs x21 M nr20 h => ?_)
              exact xretI C hr M h nr20 dX7_delay_70
          · exact hjp10 x4 H locs ls h M (lv_sub hl [0] rfl)
      · exact hjp5 x4 H locs ls h M (lv_sub hl [0] rfl)
