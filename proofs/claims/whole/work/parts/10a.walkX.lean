set_option maxHeartbeats 4000000 in
set_option maxRecDepth 100000 in
theorem c_X6_status {l : Launch} {D : va_G} {T : ClassId × ClassId} {a : Nat → Nat} {x : XS} {z : Int × XS} (h : f_X6_status x = some z) (sz : Nat) : xMetI l yX6_status cX6_status 1 .int { frames := 0, cells := 0, slots := 0, locals := 0 } D T (xW T a) sz [.ref (a 0)] x z := by
  refine xMetI_of (by decide) (Nat.le_of_ble_eq_true rfl) (xW_ad T a) ?_
  intro p e s m args below meth c A ls C hr M hl
  have hx := C.1
  have hb := C.2.1
  have hl : lv_has ls 1 [(0, .ref (a 0))] := hl
  have C : xcx RX6 cX6_status 1 D T (xW T a) A p s m args meth c := C
  revert hl M
  generalize ([] : List Loc) = locs
  generalize s.heap = H
  intro M hl
  unfold f_X6_status at h
  refine lv_aload_n hx hb dX6_status_0 rfl (lv_at hl 0 rfl) ?_
  refine gf_X6_59 C M dX6_status_1 ?_
  exact xretI C hr M h rfl dX6_status_4
set_option maxHeartbeats 4000000 in
set_option maxRecDepth 100000 in
theorem c_X6_isBetween {l : Launch} {D : va_G} {T : ClassId × ClassId} {a : Nat → Nat} {x : XS} {p1 : Int} {p2 : Int} {p3 : Int} {z : Int × XS} (h : f_X6_isBetween x p1 p2 p3 = some z) (sz : Nat) : xMetI l yX6_isBetween cX6_isBetween 3 .boolean { frames := 0, cells := 0, slots := 0, locals := 0 } D T (xW T a) sz [.int (oI p1), .int (oI p2), .int (oI p3)] x z := by
  refine xMetI_of (by decide) (Nat.le_of_ble_eq_true rfl) (xW_ad T a) ?_
  intro p e s m args below meth c A ls C hr M hl
  have hx := C.1
  have hb := C.2.1
  have hl : lv_has ls 3 [(0, .int (oI p1)), (1, .int (oI p2)), (2, .int (oI p3))] := hl
  have C : xcx RX6 cX6_isBetween 3 D T (xW T a) A p s m args meth c := C
  revert hl M
  generalize ([] : List Loc) = locs
  generalize s.heap = H
  intro M hl
  unfold f_X6_isBetween at h
  refine lv_iload_n hx hb dX6_isBetween_0 rfl (lv_at hl 0 rfl) ?_
  refine lv_iload_n hx hb dX6_isBetween_1 rfl (lv_at hl 1 rfl) ?_
  refine z_icmp_lt (tgt := 14) hx hb dX6_isBetween_2 (by decide) h (fun h => ?_) (fun h => ?_)
  · refine lv_iconst (v := oI 0) hx hb dX6_isBetween_14 (by decide) ?_
    exact xretI C hr M h nb_0 dX6_isBetween_15
  · refine lv_iload_n hx hb dX6_isBetween_5 rfl (lv_at hl 0 rfl) ?_
    refine lv_iload_n hx hb dX6_isBetween_6 rfl (lv_at hl 2 rfl) ?_
    refine z_icmp_gt (tgt := 14) hx hb dX6_isBetween_7 (by decide) h (fun h => ?_) (fun h => ?_)
    · refine lv_iconst (v := oI 0) hx hb dX6_isBetween_14 (by decide) ?_
      exact xretI C hr M h nb_0 dX6_isBetween_15
    · refine lv_iconst (v := oI 1) hx hb dX6_isBetween_10 (by decide) ?_
      refine lv_goto (tgt := 15) hx hb dX6_isBetween_11 (by decide) ?_
      exact xretI C hr M h nb_1 dX6_isBetween_15
theorem ci_X6_98 {cc : ByteArray} {nL : Nat} {D : va_G} {T : ClassId × ClassId} {a : Nat → Nat} {A : Nat → Prop} {p : Program} {l : Launch} {e : Env} {R : Room} {s : State} {m : MethodId} {args : Array Value} {below : List Frame} {meth : Method} {c : Code} {H : Heap} {locs : List Loc} {Q : State → Prop} {x : XS} {z : Int × XS} {pc : Nat} {ls : Array Slot} {rest : List Value} (C : xcx RX6 cc nL D T (xW T a) A p s m args meth c) (M : xmm D (xW T a) A s H locs x) {p1 p2 p3 : Int} {K : Int → XS → XR} (h : x_call (f_X6_isBetween x p1 p2 p3) K = some z) (hR : 0 + 1 ≤ R.frames ∧ 8 + (3 + 11) + 0 ≤ R.locals) (hsz : ls.size = nL) (hrest : (rest.map fun v => v.category).sum ≤ 8) (hdg : decode cc pc = .ok (.invokestatic 98, 3)) (kk : ∀ (r : Int) (H1 : Heap) (locs1 : List Loc) (x1 : XS), xmm D (xW T a) A s H1 locs1 x1 → narrow .boolean (.int (oI r)) = .int (oI r) → K r x1 = some z → W p l e R s m args below meth c H1 locs1 0 0 Q (F0 m (pc + 3) ls (.int (oI r) :: rest))) : W p l e R s m args below meth c H locs 0 0 Q (F0 m pc ls (.int (oI p3) :: .int (oI p2) :: .int (oI p1) :: rest)) :=
  xcallI_S (As := [.int (oI p1), .int (oI p2), .int (oI p3)]) (n := 3) C M (fun zc sz ho => c_X6_isBetween ho sz) bw_359 bw_357 bw_358 bw_84 rfl (by decide +kernel) ⟨rfl, rfl⟩ hR hsz rfl hrest hdg h kk
set_option maxHeartbeats 4000000 in
set_option maxRecDepth 100000 in
theorem c_X6_areWaits {l : Launch} {D : va_G} {T : ClassId × ClassId} {a : Nat → Nat} {x : XS} {p1 : Int} {p2 : Int} {z : Int × XS} (h : f_X6_areWaits x p1 p2 = some z) (sz : Nat) : xMetI l yX6_areWaits cX6_areWaits 2 .boolean { frames := 1, cells := 0, slots := 0, locals := 22 } D T (xW T a) sz [.int (oI p1), .int (oI p2)] x z := by
  refine xMetI_of (by decide) (Nat.le_of_ble_eq_true rfl) (xW_ad T a) ?_
  intro p e s m args below meth c A ls C hr M hl
  have hx := C.1
  have hb := C.2.1
  have hl : lv_has ls 2 [(0, .int (oI p1)), (1, .int (oI p2))] := hl
  have C : xcx RX6 cX6_areWaits 2 D T (xW T a) A p s m args meth c := C
  revert hl M
  generalize ([] : List Loc) = locs
  generalize s.heap = H
  intro M hl
  unfold f_X6_areWaits at h
  refine lv_iload_n hx hb dX6_areWaits_0 rfl (lv_at hl 0 rfl) ?_
  refine lv_iconst (v := oI 0) hx hb dX6_areWaits_1 (by decide) ?_
  refine lv_sipush (v := oI 200) hx hb dX6_areWaits_2 (by decide) ?_
  refine ci_X6_98 C M h ⟨Nat.le_of_ble_eq_true rfl, Nat.le_of_ble_eq_true rfl⟩ hl.1 (Nat.le_of_ble_eq_true rfl) dX6_areWaits_5 (fun r1 H locs x2 M nr1 h => ?_)
  refine z_if_eq (tgt := 31) hx hb dX6_areWaits_8 (by decide) h (fun h => ?_) (fun h => ?_)
  · refine lv_iconst (v := oI 0) hx hb dX6_areWaits_31 (by decide) ?_
    exact xretI C hr M h nb_0 dX6_areWaits_32
  · refine lv_iload_n hx hb dX6_areWaits_11 rfl (lv_at hl 1 rfl) ?_
    refine lv_iconst (v := oI (-1)) hx hb dX6_areWaits_12 (by decide) ?_
    refine x_jp_el h (fun jp3 ejp3 h => ?_)
    have hjp3 : ∀ (x4 : XS) (H : Heap) (locs : List Loc) (ls : Array Slot), jp3 x4 = some z → xmm D (xW T a) A s H locs x4 → lv_has ls 2 [] → W p l e { frames := 1, cells := 0, slots := 0, locals := 22 } s m args below meth c H locs 0 0 (xQI below args s D (xW T a) .boolean z A) (F0 m 27 ls []) := by
      intro x4 H locs ls h M hl
      rw [ejp3] at h
      dsimp only at h
      refine lv_iconst (v := oI 1) hx hb dX6_areWaits_27 (by decide) ?_
      refine lv_goto (tgt := 32) hx hb dX6_areWaits_28 (by decide) ?_
      exact xretI C hr M h nb_1 dX6_areWaits_32
    refine z_icmp_eq (tgt := 27) hx hb dX6_areWaits_13 (by decide) h (fun h => ?_) (fun h => ?_)
    · exact hjp3 x2 H locs ls h M (lv_sub hl [] rfl)
    · refine lv_iload_n hx hb dX6_areWaits_16 rfl (lv_at hl 1 rfl) ?_
      refine lv_iload_n hx hb dX6_areWaits_17 rfl (lv_at hl 0 rfl) ?_
      refine lv_sipush (v := oI 5000) hx hb dX6_areWaits_18 (by decide) ?_
      refine ci_X6_98 C M h ⟨Nat.le_of_ble_eq_true rfl, Nat.le_of_ble_eq_true rfl⟩ hl.1 (Nat.le_of_ble_eq_true rfl) dX6_areWaits_21 (fun r5 H locs x6 M nr5 h => ?_)
      refine z_if_eq (tgt := 31) hx hb dX6_areWaits_24 (by decide) h (fun h => ?_) (fun h => ?_)
      · refine lv_iconst (v := oI 0) hx hb dX6_areWaits_31 (by decide) ?_
        exact xretI C hr M h nb_0 dX6_areWaits_32
      · exact hjp3 x6 H locs ls h M (lv_sub hl [] rfl)
set_option maxHeartbeats 4000000 in
set_option maxRecDepth 100000 in
theorem c_X6_refuse {l : Launch} {D : va_G} {T : ClassId × ClassId} {a : Nat → Nat} {x : XS} {p1 : Int} {z : Int × XS} (h : f_X6_refuse x p1 = some z) (sz : Nat) : xMetI l yX6_refuse cX6_refuse 2 .int { frames := 0, cells := 0, slots := 0, locals := 0 } D T (xW T a) sz [.ref (a 0), .int (oI p1)] x z := by
  refine xMetI_of (by decide) (Nat.le_of_ble_eq_true rfl) (xW_ad T a) ?_
  intro p e s m args below meth c A ls C hr M hl
  have hx := C.1
  have hb := C.2.1
  have hl : lv_has ls 2 [(0, .ref (a 0)), (1, .int (oI p1))] := hl
  have C : xcx RX6 cX6_refuse 2 D T (xW T a) A p s m args meth c := C
  revert hl M
  generalize ([] : List Loc) = locs
  generalize s.heap = H
  intro M hl
  unfold f_X6_refuse at h
  refine lv_aload_n hx hb dX6_refuse_0 rfl (lv_at hl 0 rfl) ?_
  refine lv_iload_n hx hb dX6_refuse_1 rfl (lv_at hl 1 rfl) ?_
  refine pf_X6_59 C M dX6_refuse_2 h (fun H locs x1 M h => ?_)
  refine lv_iconst (v := oI (-1)) hx hb dX6_refuse_5 (by decide) ?_
  exact xretI C hr M h rfl dX6_refuse_6
set_option maxHeartbeats 4000000 in
set_option maxRecDepth 100000 in
theorem c_X2_set {l : Launch} {D : va_G} {T : ClassId × ClassId} {a : Nat → Nat} {x : XS} {p1 : Int} {p2 : Int} {p3 : Int} {z : Int × XS} (h : f_X2_set x p1 p2 p3 = some z) (sz : Nat) : xMetV l yX2_set cX2_set 4 { frames := 0, cells := 0, slots := 0, locals := 0 } D T (xW T a) sz [.ref (a 1), .int (oI p1), .int (oI p2), .int (oI p3)] x z := by
  refine xMetV_of (by decide) (Nat.le_of_ble_eq_true rfl) (xW_ad T a) ?_
  intro p e s m args below meth c A ls C hr M hl
  have hx := C.1
  have hb := C.2.1
  have hl : lv_has ls 4 [(0, .ref (a 1)), (1, .int (oI p1)), (2, .int (oI p2)), (3, .int (oI p3))] := hl
  have C : xcx RX2 cX2_set 4 D T (xW T a) A p s m args meth c := C
  revert hl M
  generalize ([] : List Loc) = locs
  generalize s.heap = H
  intro M hl
  unfold f_X2_set at h
  refine lv_aload_n hx hb dX2_set_0 rfl (lv_at hl 0 rfl) ?_
  refine gf_X2_9 C M dX2_set_1 ?_
  refine lv_iload_n hx hb dX2_set_4 rfl (lv_at hl 1 rfl) ?_
  refine lv_iload_n hx hb dX2_set_5 rfl (lv_at hl 2 rfl) ?_
  refine as_x_9 C M dX2_set_6 h (fun H locs x1 M h => ?_)
  refine lv_aload_n hx hb dX2_set_7 rfl (lv_at hl 0 rfl) ?_
  refine gf_X2_15 C M dX2_set_8 ?_
  refine lv_iload_n hx hb dX2_set_11 rfl (lv_at hl 1 rfl) ?_
  refine lv_iload_n hx hb dX2_set_12 rfl (lv_at hl 3 rfl) ?_
  refine as_x_10 C M dX2_set_13 h (fun H locs x2 M h => ?_)
  exact xretV C hr M h dX2_set_14
theorem ci_X2_22 {cc : ByteArray} {nL : Nat} {D : va_G} {T : ClassId × ClassId} {a : Nat → Nat} {A : Nat → Prop} {p : Program} {l : Launch} {e : Env} {R : Room} {s : State} {m : MethodId} {args : Array Value} {below : List Frame} {meth : Method} {c : Code} {H : Heap} {locs : List Loc} {Q : State → Prop} {x : XS} {z : Int × XS} {pc : Nat} {ls : Array Slot} {rest : List Value} (C : xcx RX2 cc nL D T (xW T a) A p s m args meth c) (M : xmm D (xW T a) A s H locs x) {p1 p2 p3 : Int} {K : Int → XS → XR} (h : x_call (f_X2_set x p1 p2 p3) K = some z) (hR : 0 + 1 ≤ R.frames ∧ 8 + (4 + 11) + 0 ≤ R.locals) (hsz : ls.size = nL) (hrest : (rest.map fun v => v.category).sum ≤ 8) (hdg : decode cc pc = .ok (.invokevirtual 22, 3)) (kk : ∀ (H1 : Heap) (locs1 : List Loc) (x1 : XS), xmm D (xW T a) A s H1 locs1 x1 → K 0 x1 = some z → W p l e R s m args below meth c H1 locs1 0 0 Q (F0 m (pc + 3) ls rest)) : W p l e R s m args below meth c H locs 0 0 Q (F0 m pc ls (.int (oI p3) :: .int (oI p2) :: .int (oI p1) :: .ref (a 1) :: rest)) :=
  xcallV_V (As := [.int (oI p1), .int (oI p2), .int (oI p3)]) (n := 3) C M (fun zc sz ho => c_X2_set ho sz) bw_371 bw_368 bw_370 bw_2 bw_85 rfl (by decide +kernel) 1 rfl rfl ⟨rfl, rfl⟩ hR hsz rfl hrest hdg h kk
set_option maxHeartbeats 4000000 in
set_option maxRecDepth 100000 in
theorem c_X2_add {l : Launch} {D : va_G} {T : ClassId × ClassId} {a : Nat → Nat} {x : XS} {p1 : Int} {p2 : Int} {z : Int × XS} (h : f_X2_add x p1 p2 = some z) (sz : Nat) : xMetI l yX2_add cX2_add 3 .int { frames := 1, cells := 0, slots := 0, locals := 23 } D T (xW T a) sz [.ref (a 1), .int (oI p1), .int (oI p2)] x z := by
  refine xMetI_of (by decide) (Nat.le_of_ble_eq_true rfl) (xW_ad T a) ?_
  intro p e s m args below meth c A ls C hr M hl
  have hx := C.1
  have hb := C.2.1
  have hl : lv_has ls 3 [(0, .ref (a 1)), (1, .int (oI p1)), (2, .int (oI p2))] := hl
  have C : xcx RX2 cX2_add 3 D T (xW T a) A p s m args meth c := C
  revert hl M
  generalize ([] : List Loc) = locs
  generalize s.heap = H
  intro M hl
  unfold f_X2_add at h
  refine lv_aload_n hx hb dX2_add_0 rfl (lv_at hl 0 rfl) ?_
  refine lv_aload_n hx hb dX2_add_1 rfl (lv_at hl 0 rfl) ?_
  refine gf_X2_18 C M dX2_add_2 ?_
  refine lv_iload_n hx hb dX2_add_5 rfl (lv_at hl 1 rfl) ?_
  refine lv_iload_n hx hb dX2_add_6 rfl (lv_at hl 2 rfl) ?_
  refine ci_X2_22 C M h ⟨Nat.le_of_ble_eq_true rfl, Nat.le_of_ble_eq_true rfl⟩ hl.1 (Nat.le_of_ble_eq_true rfl) dX2_add_7 (fun H locs x2 M h => ?_)
  refine lv_aload_n hx hb dX2_add_10 rfl (lv_at hl 0 rfl) ?_
  refine lv_dup hx hb dX2_add_11 rfl ?_
  refine gf_X2_18 C M dX2_add_12 ?_
  refine lv_iconst (v := oI 1) hx hb dX2_add_15 (by decide) ?_
  refine z_iadd hx hb dX2_add_16 ?_
  refine pf_X2_18 C M dX2_add_17 h (fun H locs x3 M h => ?_)
  refine lv_aload_n hx hb dX2_add_20 rfl (lv_at hl 0 rfl) ?_
  refine gf_X2_18 C M dX2_add_21 ?_
  refine lv_iconst (v := oI 1) hx hb dX2_add_24 (by decide) ?_
  refine z_isub hx hb dX2_add_25 ?_
  exact xretI C hr M h rfl dX2_add_26
set_option maxHeartbeats 4000000 in
set_option maxRecDepth 100000 in
theorem c_X6_answer {l : Launch} {D : va_G} {T : ClassId × ClassId} {a : Nat → Nat} {x : XS} {p1 : Int} {z : Int × XS} (h : f_X6_answer x p1 = some z) (sz : Nat) : xMetI l yX6_answer cX6_answer 2 .int { frames := 0, cells := 0, slots := 0, locals := 0 } D T (xW T a) sz [.ref (a 0), .int (oI p1)] x z := by
  refine xMetI_of (by decide) (Nat.le_of_ble_eq_true rfl) (xW_ad T a) ?_
  intro p e s m args below meth c A ls C hr M hl
  have hx := C.1
  have hb := C.2.1
  have hl : lv_has ls 2 [(0, .ref (a 0)), (1, .int (oI p1))] := hl
  have C : xcx RX6 cX6_answer 2 D T (xW T a) A p s m args meth c := C
  revert hl M
  generalize ([] : List Loc) = locs
  generalize s.heap = H
  intro M hl
  unfold f_X6_answer at h
  refine lv_aload_n hx hb dX6_answer_0 rfl (lv_at hl 0 rfl) ?_
  refine lv_iconst (v := oI 0) hx hb dX6_answer_1 (by decide) ?_
  refine pf_X6_59 C M dX6_answer_2 h (fun H locs x1 M h => ?_)
  refine lv_iload_n hx hb dX6_answer_5 rfl (lv_at hl 1 rfl) ?_
  exact xretI C hr M h rfl dX6_answer_6
theorem ci_X6_62 {cc : ByteArray} {nL : Nat} {D : va_G} {T : ClassId × ClassId} {a : Nat → Nat} {A : Nat → Prop} {p : Program} {l : Launch} {e : Env} {R : Room} {s : State} {m : MethodId} {args : Array Value} {below : List Frame} {meth : Method} {c : Code} {H : Heap} {locs : List Loc} {Q : State → Prop} {x : XS} {z : Int × XS} {pc : Nat} {ls : Array Slot} {rest : List Value} (C : xcx RX6 cc nL D T (xW T a) A p s m args meth c) (M : xmm D (xW T a) A s H locs x) {p1 p2 : Int} {K : Int → XS → XR} (h : x_call (f_X6_areWaits x p1 p2) K = some z) (hR : 1 + 1 ≤ R.frames ∧ 8 + (2 + 11) + 22 ≤ R.locals) (hsz : ls.size = nL) (hrest : (rest.map fun v => v.category).sum ≤ 8) (hdg : decode cc pc = .ok (.invokestatic 62, 3)) (kk : ∀ (r : Int) (H1 : Heap) (locs1 : List Loc) (x1 : XS), xmm D (xW T a) A s H1 locs1 x1 → narrow .boolean (.int (oI r)) = .int (oI r) → K r x1 = some z → W p l e R s m args below meth c H1 locs1 0 0 Q (F0 m (pc + 3) ls (.int (oI r) :: rest))) : W p l e R s m args below meth c H locs 0 0 Q (F0 m pc ls (.int (oI p2) :: .int (oI p1) :: rest)) :=
  xcallI_S (As := [.int (oI p1), .int (oI p2)]) (n := 2) C M (fun zc sz ho => c_X6_areWaits ho sz) bw_356 bw_354 bw_355 bw_84 rfl (by decide +kernel) ⟨rfl, rfl⟩ hR hsz rfl hrest hdg h kk
theorem ci_X6_73 {cc : ByteArray} {nL : Nat} {D : va_G} {T : ClassId × ClassId} {a : Nat → Nat} {A : Nat → Prop} {p : Program} {l : Launch} {e : Env} {R : Room} {s : State} {m : MethodId} {args : Array Value} {below : List Frame} {meth : Method} {c : Code} {H : Heap} {locs : List Loc} {Q : State → Prop} {x : XS} {z : Int × XS} {pc : Nat} {ls : Array Slot} {rest : List Value} (C : xcx RX6 cc nL D T (xW T a) A p s m args meth c) (M : xmm D (xW T a) A s H locs x) {p1 p2 : Int} {K : Int → XS → XR} (h : x_call (f_X2_add x p1 p2) K = some z) (hR : 1 + 1 ≤ R.frames ∧ 8 + (3 + 11) + 23 ≤ R.locals) (hsz : ls.size = nL) (hrest : (rest.map fun v => v.category).sum ≤ 8) (hdg : decode cc pc = .ok (.invokevirtual 73, 3)) (kk : ∀ (r : Int) (H1 : Heap) (locs1 : List Loc) (x1 : XS), xmm D (xW T a) A s H1 locs1 x1 → narrow .int (.int (oI r)) = .int (oI r) → K r x1 = some z → W p l e R s m args below meth c H1 locs1 0 0 Q (F0 m (pc + 3) ls (.int (oI r) :: rest))) : W p l e R s m args below meth c H locs 0 0 Q (F0 m pc ls (.int (oI p2) :: .int (oI p1) :: .ref (a 1) :: rest)) :=
  xcallI_N (As := [.int (oI p1), .int (oI p2)]) (n := 2) C M (fun zc sz ho => c_X2_add ho sz) bw_367 bw_364 bw_366 bw_1 bw_85 rfl (by decide +kernel) 1 rfl rfl ⟨rfl, rfl⟩ hR hsz rfl hrest hdg h kk
theorem ci_X6_77 {cc : ByteArray} {nL : Nat} {D : va_G} {T : ClassId × ClassId} {a : Nat → Nat} {A : Nat → Prop} {p : Program} {l : Launch} {e : Env} {R : Room} {s : State} {m : MethodId} {args : Array Value} {below : List Frame} {meth : Method} {c : Code} {H : Heap} {locs : List Loc} {Q : State → Prop} {x : XS} {z : Int × XS} {pc : Nat} {ls : Array Slot} {rest : List Value} (C : xcx RX6 cc nL D T (xW T a) A p s m args meth c) (M : xmm D (xW T a) A s H locs x) {p1 : Int} {K : Int → XS → XR} (h : x_call (f_X6_answer x p1) K = some z) (hR : 0 + 1 ≤ R.frames ∧ 8 + (2 + 11) + 0 ≤ R.locals) (hsz : ls.size = nL) (hrest : (rest.map fun v => v.category).sum ≤ 8) (hdg : decode cc pc = .ok (.invokevirtual 77, 3)) (kk : ∀ (r : Int) (H1 : Heap) (locs1 : List Loc) (x1 : XS), xmm D (xW T a) A s H1 locs1 x1 → narrow .int (.int (oI r)) = .int (oI r) → K r x1 = some z → W p l e R s m args below meth c H1 locs1 0 0 Q (F0 m (pc + 3) ls (.int (oI r) :: rest))) : W p l e R s m args below meth c H locs 0 0 Q (F0 m pc ls (.int (oI p1) :: .ref (a 0) :: rest)) :=
  xcallI_V (As := [.int (oI p1)]) (n := 1) C M (fun zc sz ho => c_X6_answer ho sz) bw_375 bw_372 bw_374 bw_3 bw_84 rfl (by decide +kernel) 0 rfl rfl ⟨rfl, rfl⟩ hR hsz rfl hrest hdg h kk
theorem ci_X6_66 {cc : ByteArray} {nL : Nat} {D : va_G} {T : ClassId × ClassId} {a : Nat → Nat} {A : Nat → Prop} {p : Program} {l : Launch} {e : Env} {R : Room} {s : State} {m : MethodId} {args : Array Value} {below : List Frame} {meth : Method} {c : Code} {H : Heap} {locs : List Loc} {Q : State → Prop} {x : XS} {z : Int × XS} {pc : Nat} {ls : Array Slot} {rest : List Value} (C : xcx RX6 cc nL D T (xW T a) A p s m args meth c) (M : xmm D (xW T a) A s H locs x) {p1 : Int} {K : Int → XS → XR} (h : x_call (f_X6_refuse x p1) K = some z) (hR : 0 + 1 ≤ R.frames ∧ 8 + (2 + 11) + 0 ≤ R.locals) (hsz : ls.size = nL) (hrest : (rest.map fun v => v.category).sum ≤ 8) (hdg : decode cc pc = .ok (.invokevirtual 66, 3)) (kk : ∀ (r : Int) (H1 : Heap) (locs1 : List Loc) (x1 : XS), xmm D (xW T a) A s H1 locs1 x1 → narrow .int (.int (oI r)) = .int (oI r) → K r x1 = some z → W p l e R s m args below meth c H1 locs1 0 0 Q (F0 m (pc + 3) ls (.int (oI r) :: rest))) : W p l e R s m args below meth c H locs 0 0 Q (F0 m pc ls (.int (oI p1) :: .ref (a 0) :: rest)) :=
  xcallI_V (As := [.int (oI p1)]) (n := 1) C M (fun zc sz ho => c_X6_refuse ho sz) bw_363 bw_360 bw_362 bw_0 bw_84 rfl (by decide +kernel) 0 rfl rfl ⟨rfl, rfl⟩ hR hsz rfl hrest hdg h kk
set_option maxHeartbeats 4000000 in
set_option maxRecDepth 100000 in
theorem c_X6_node {l : Launch} {D : va_G} {T : ClassId × ClassId} {a : Nat → Nat} {x : XS} {p1 : Int} {p2 : Int} {z : Int × XS} (h : f_X6_node x p1 p2 = some z) (sz : Nat) : xMetI l yX6_node cX6_node 3 .int { frames := 2, cells := 0, slots := 0, locals := 45 } D T (xW T a) sz [.ref (a 0), .int (oI p1), .int (oI p2)] x z := by
  refine xMetI_of (by decide) (Nat.le_of_ble_eq_true rfl) (xW_ad T a) ?_
  intro p e s m args below meth c A ls C hr M hl
  have hx := C.1
  have hb := C.2.1
  have hl : lv_has ls 3 [(0, .ref (a 0)), (1, .int (oI p1)), (2, .int (oI p2))] := hl
  have C : xcx RX6 cX6_node 3 D T (xW T a) A p s m args meth c := C
  revert hl M
  generalize ([] : List Loc) = locs
  generalize s.heap = H
  intro M hl
  unfold f_X6_node at h
  refine lv_iload_n hx hb dX6_node_0 rfl (lv_at hl 1 rfl) ?_
  refine lv_iload_n hx hb dX6_node_1 rfl (lv_at hl 2 rfl) ?_
  refine ci_X6_62 C M h ⟨Nat.le_of_ble_eq_true rfl, Nat.le_of_ble_eq_true rfl⟩ hl.1 (Nat.le_of_ble_eq_true rfl) dX6_node_2 (fun r1 H locs x2 M nr1 h => ?_)
  refine z_if_ne (tgt := 14) hx hb dX6_node_5 (by decide) h (fun h => ?_) (fun h => ?_)
  · refine lv_aload_n hx hb dX6_node_14 rfl (lv_at hl 0 rfl) ?_
    refine gf_X6_12 C M dX6_node_15 ?_
    refine gf_X6_70 C M dX6_node_18 ?_
    refine lv_bipush (v := oI 24) hx hb dX6_node_21 (by decide) ?_
    refine z_icmp_lt (tgt := 32) hx hb dX6_node_23 (by decide) h (fun h => ?_) (fun h => ?_)
    · refine lv_aload_n hx hb dX6_node_32 rfl (lv_at hl 0 rfl) ?_
      refine lv_aload_n hx hb dX6_node_33 rfl (lv_at hl 0 rfl) ?_
      refine gf_X6_12 C M dX6_node_34 ?_
      refine lv_iload_n hx hb dX6_node_37 rfl (lv_at hl 1 rfl) ?_
      refine lv_iload_n hx hb dX6_node_38 rfl (lv_at hl 2 rfl) ?_
      refine ci_X6_73 C M h ⟨Nat.le_of_ble_eq_true rfl, Nat.le_of_ble_eq_true rfl⟩ hl.1 (Nat.le_of_ble_eq_true rfl) dX6_node_39 (fun r3 H locs x4 M nr3 h => ?_)
      refine ci_X6_77 C M h ⟨Nat.le_of_ble_eq_true rfl, Nat.le_of_ble_eq_true rfl⟩ hl.1 (Nat.le_of_ble_eq_true rfl) dX6_node_42 (fun r5 H locs x6 M nr5 h => ?_)
      exact xretI C hr M h rfl dX6_node_45
    · refine lv_aload_n hx hb dX6_node_26 rfl (lv_at hl 0 rfl) ?_
      refine lv_iconst (v := oI 3) hx hb dX6_node_27 (by decide) ?_
      refine ci_X6_66 C M h ⟨Nat.le_of_ble_eq_true rfl, Nat.le_of_ble_eq_true rfl⟩ hl.1 (Nat.le_of_ble_eq_true rfl) dX6_node_28 (fun r7 H locs x8 M nr7 h => ?_)
      exact xretI C hr M h rfl dX6_node_31
  · refine lv_aload_n hx hb dX6_node_8 rfl (lv_at hl 0 rfl) ?_
    refine lv_iconst (v := oI 2) hx hb dX6_node_9 (by decide) ?_
    refine ci_X6_66 C M h ⟨Nat.le_of_ble_eq_true rfl, Nat.le_of_ble_eq_true rfl⟩ hl.1 (Nat.le_of_ble_eq_true rfl) dX6_node_10 (fun r9 H locs x10 M nr9 h => ?_)
    exact xretI C hr M h rfl dX6_node_13
set_option maxHeartbeats 4000000 in
set_option maxRecDepth 100000 in
theorem c_X6_isNode {l : Launch} {D : va_G} {T : ClassId × ClassId} {a : Nat → Nat} {x : XS} {p1 : Int} {z : Int × XS} (h : f_X6_isNode x p1 = some z) (sz : Nat) : xMetI l yX6_isNode cX6_isNode 2 .boolean { frames := 1, cells := 0, slots := 0, locals := 22 } D T (xW T a) sz [.ref (a 0), .int (oI p1)] x z := by
  refine xMetI_of (by decide) (Nat.le_of_ble_eq_true rfl) (xW_ad T a) ?_
  intro p e s m args below meth c A ls C hr M hl
  have hx := C.1
  have hb := C.2.1
  have hl : lv_has ls 2 [(0, .ref (a 0)), (1, .int (oI p1))] := hl
  have C : xcx RX6 cX6_isNode 2 D T (xW T a) A p s m args meth c := C
  revert hl M
  generalize ([] : List Loc) = locs
  generalize s.heap = H
  intro M hl
  unfold f_X6_isNode at h
  refine lv_iload_n hx hb dX6_isNode_0 rfl (lv_at hl 1 rfl) ?_
  refine lv_iconst (v := oI 0) hx hb dX6_isNode_1 (by decide) ?_
  refine lv_aload_n hx hb dX6_isNode_2 rfl (lv_at hl 0 rfl) ?_
  refine gf_X6_12 C M dX6_isNode_3 ?_
  refine gf_X6_70 C M dX6_isNode_6 ?_
  refine lv_iconst (v := oI 1) hx hb dX6_isNode_9 (by decide) ?_
  refine z_isub hx hb dX6_isNode_10 ?_
  refine ci_X6_98 C M h ⟨Nat.le_of_ble_eq_true rfl, Nat.le_of_ble_eq_true rfl⟩ hl.1 (Nat.le_of_ble_eq_true rfl) dX6_isNode_11 (fun r1 H locs x2 M nr1 h => ?_)
  exact xretI C hr M h nr1 dX6_isNode_14
set_option maxHeartbeats 4000000 in
set_option maxRecDepth 100000 in
theorem c_X6_deny {l : Launch} {D : va_G} {T : ClassId × ClassId} {a : Nat → Nat} {x : XS} {p1 : Int} {z : Int × XS} (h : f_X6_deny x p1 = some z) (sz : Nat) : xMetI l yX6_deny cX6_deny 2 .boolean { frames := 0, cells := 0, slots := 0, locals := 0 } D T (xW T a) sz [.ref (a 0), .int (oI p1)] x z := by
  refine xMetI_of (by decide) (Nat.le_of_ble_eq_true rfl) (xW_ad T a) ?_
  intro p e s m args below meth c A ls C hr M hl
  have hx := C.1
  have hb := C.2.1
  have hl : lv_has ls 2 [(0, .ref (a 0)), (1, .int (oI p1))] := hl
  have C : xcx RX6 cX6_deny 2 D T (xW T a) A p s m args meth c := C
  revert hl M
  generalize ([] : List Loc) = locs
  generalize s.heap = H
  intro M hl
  unfold f_X6_deny at h
  refine lv_aload_n hx hb dX6_deny_0 rfl (lv_at hl 0 rfl) ?_
  refine lv_iload_n hx hb dX6_deny_1 rfl (lv_at hl 1 rfl) ?_
  refine pf_X6_59 C M dX6_deny_2 h (fun H locs x1 M h => ?_)
  refine lv_iconst (v := oI 0) hx hb dX6_deny_5 (by decide) ?_
  exact xretI C hr M h nb_0 dX6_deny_6
set_option maxHeartbeats 4000000 in
set_option maxRecDepth 100000 in
theorem c_X6_agree {l : Launch} {D : va_G} {T : ClassId × ClassId} {a : Nat → Nat} {x : XS} {z : Int × XS} (h : f_X6_agree x = some z) (sz : Nat) : xMetI l yX6_agree cX6_agree 1 .boolean { frames := 0, cells := 0, slots := 0, locals := 0 } D T (xW T a) sz [.ref (a 0)] x z := by
  refine xMetI_of (by decide) (Nat.le_of_ble_eq_true rfl) (xW_ad T a) ?_
  intro p e s m args below meth c A ls C hr M hl
  have hx := C.1
  have hb := C.2.1
  have hl : lv_has ls 1 [(0, .ref (a 0))] := hl
  have C : xcx RX6 cX6_agree 1 D T (xW T a) A p s m args meth c := C
  revert hl M
  generalize ([] : List Loc) = locs
  generalize s.heap = H
  intro M hl
  unfold f_X6_agree at h
  refine lv_aload_n hx hb dX6_agree_0 rfl (lv_at hl 0 rfl) ?_
  refine lv_iconst (v := oI 0) hx hb dX6_agree_1 (by decide) ?_
  refine pf_X6_59 C M dX6_agree_2 h (fun H locs x1 M h => ?_)
  refine lv_iconst (v := oI 1) hx hb dX6_agree_5 (by decide) ?_
  exact xretI C hr M h nb_1 dX6_agree_6
theorem ci_X6_80 {cc : ByteArray} {nL : Nat} {D : va_G} {T : ClassId × ClassId} {a : Nat → Nat} {A : Nat → Prop} {p : Program} {l : Launch} {e : Env} {R : Room} {s : State} {m : MethodId} {args : Array Value} {below : List Frame} {meth : Method} {c : Code} {H : Heap} {locs : List Loc} {Q : State → Prop} {x : XS} {z : Int × XS} {pc : Nat} {ls : Array Slot} {rest : List Value} (C : xcx RX6 cc nL D T (xW T a) A p s m args meth c) (M : xmm D (xW T a) A s H locs x) {p1 : Int} {K : Int → XS → XR} (h : x_call (f_X6_isNode x p1) K = some z) (hR : 1 + 1 ≤ R.frames ∧ 8 + (2 + 11) + 22 ≤ R.locals) (hsz : ls.size = nL) (hrest : (rest.map fun v => v.category).sum ≤ 8) (hdg : decode cc pc = .ok (.invokevirtual 80, 3)) (kk : ∀ (r : Int) (H1 : Heap) (locs1 : List Loc) (x1 : XS), xmm D (xW T a) A s H1 locs1 x1 → narrow .boolean (.int (oI r)) = .int (oI r) → K r x1 = some z → W p l e R s m args below meth c H1 locs1 0 0 Q (F0 m (pc + 3) ls (.int (oI r) :: rest))) : W p l e R s m args below meth c H locs 0 0 Q (F0 m pc ls (.int (oI p1) :: .ref (a 0) :: rest)) :=
  xcallI_V (As := [.int (oI p1)]) (n := 1) C M (fun zc sz ho => c_X6_isNode ho sz) bw_383 bw_380 bw_382 bw_4 bw_84 rfl (by decide +kernel) 0 rfl rfl ⟨rfl, rfl⟩ hR hsz rfl hrest hdg h kk
theorem ci_X6_87 {cc : ByteArray} {nL : Nat} {D : va_G} {T : ClassId × ClassId} {a : Nat → Nat} {A : Nat → Prop} {p : Program} {l : Launch} {e : Env} {R : Room} {s : State} {m : MethodId} {args : Array Value} {below : List Frame} {meth : Method} {c : Code} {H : Heap} {locs : List Loc} {Q : State → Prop} {x : XS} {z : Int × XS} {pc : Nat} {ls : Array Slot} {rest : List Value} (C : xcx RX6 cc nL D T (xW T a) A p s m args meth c) (M : xmm D (xW T a) A s H locs x) {p1 p2 p3 : Int} {K : Int → XS → XR} (h : x_call (f_X2_set x p1 p2 p3) K = some z) (hR : 0 + 1 ≤ R.frames ∧ 8 + (4 + 11) + 0 ≤ R.locals) (hsz : ls.size = nL) (hrest : (rest.map fun v => v.category).sum ≤ 8) (hdg : decode cc pc = .ok (.invokevirtual 87, 3)) (kk : ∀ (H1 : Heap) (locs1 : List Loc) (x1 : XS), xmm D (xW T a) A s H1 locs1 x1 → K 0 x1 = some z → W p l e R s m args below meth c H1 locs1 0 0 Q (F0 m (pc + 3) ls rest)) : W p l e R s m args below meth c H locs 0 0 Q (F0 m pc ls (.int (oI p3) :: .int (oI p2) :: .int (oI p1) :: .ref (a 1) :: rest)) :=
  xcallV_N (As := [.int (oI p1), .int (oI p2), .int (oI p3)]) (n := 3) C M (fun zc sz ho => c_X2_set ho sz) bw_371 bw_388 bw_370 bw_2 bw_85 rfl (by decide +kernel) 1 rfl rfl ⟨rfl, rfl⟩ hR hsz rfl hrest hdg h kk
theorem ci_X6_91 {cc : ByteArray} {nL : Nat} {D : va_G} {T : ClassId × ClassId} {a : Nat → Nat} {A : Nat → Prop} {p : Program} {l : Launch} {e : Env} {R : Room} {s : State} {m : MethodId} {args : Array Value} {below : List Frame} {meth : Method} {c : Code} {H : Heap} {locs : List Loc} {Q : State → Prop} {x : XS} {z : Int × XS} {pc : Nat} {ls : Array Slot} {rest : List Value} (C : xcx RX6 cc nL D T (xW T a) A p s m args meth c) (M : xmm D (xW T a) A s H locs x) {K : Int → XS → XR} (h : x_call (f_X6_agree x) K = some z) (hR : 0 + 1 ≤ R.frames ∧ 8 + (1 + 11) + 0 ≤ R.locals) (hsz : ls.size = nL) (hrest : (rest.map fun v => v.category).sum ≤ 8) (hdg : decode cc pc = .ok (.invokevirtual 91, 3)) (kk : ∀ (r : Int) (H1 : Heap) (locs1 : List Loc) (x1 : XS), xmm D (xW T a) A s H1 locs1 x1 → narrow .boolean (.int (oI r)) = .int (oI r) → K r x1 = some z → W p l e R s m args below meth c H1 locs1 0 0 Q (F0 m (pc + 3) ls (.int (oI r) :: rest))) : W p l e R s m args below meth c H locs 0 0 Q (F0 m pc ls (.ref (a 0) :: rest)) :=
  xcallI_V (As := []) (n := 0) C M (fun zc sz ho => c_X6_agree ho sz) bw_392 bw_389 bw_391 bw_6 bw_84 rfl (by decide +kernel) 0 rfl rfl ⟨rfl, rfl⟩ hR hsz rfl hrest hdg h kk
theorem ci_X6_84 {cc : ByteArray} {nL : Nat} {D : va_G} {T : ClassId × ClassId} {a : Nat → Nat} {A : Nat → Prop} {p : Program} {l : Launch} {e : Env} {R : Room} {s : State} {m : MethodId} {args : Array Value} {below : List Frame} {meth : Method} {c : Code} {H : Heap} {locs : List Loc} {Q : State → Prop} {x : XS} {z : Int × XS} {pc : Nat} {ls : Array Slot} {rest : List Value} (C : xcx RX6 cc nL D T (xW T a) A p s m args meth c) (M : xmm D (xW T a) A s H locs x) {p1 : Int} {K : Int → XS → XR} (h : x_call (f_X6_deny x p1) K = some z) (hR : 0 + 1 ≤ R.frames ∧ 8 + (2 + 11) + 0 ≤ R.locals) (hsz : ls.size = nL) (hrest : (rest.map fun v => v.category).sum ≤ 8) (hdg : decode cc pc = .ok (.invokevirtual 84, 3)) (kk : ∀ (r : Int) (H1 : Heap) (locs1 : List Loc) (x1 : XS), xmm D (xW T a) A s H1 locs1 x1 → narrow .boolean (.int (oI r)) = .int (oI r) → K r x1 = some z → W p l e R s m args below meth c H1 locs1 0 0 Q (F0 m (pc + 3) ls (.int (oI r) :: rest))) : W p l e R s m args below meth c H locs 0 0 Q (F0 m pc ls (.int (oI p1) :: .ref (a 0) :: rest)) :=
  xcallI_V (As := [.int (oI p1)]) (n := 1) C M (fun zc sz ho => c_X6_deny ho sz) bw_387 bw_384 bw_386 bw_5 bw_84 rfl (by decide +kernel) 0 rfl rfl ⟨rfl, rfl⟩ hR hsz rfl hrest hdg h kk
set_option maxHeartbeats 4000000 in
set_option maxRecDepth 100000 in
theorem c_X6_waits {l : Launch} {D : va_G} {T : ClassId × ClassId} {a : Nat → Nat} {x : XS} {p1 : Int} {p2 : Int} {p3 : Int} {z : Int × XS} (h : f_X6_waits x p1 p2 p3 = some z) (sz : Nat) : xMetI l yX6_waits cX6_waits 4 .boolean { frames := 2, cells := 0, slots := 0, locals := 43 } D T (xW T a) sz [.ref (a 0), .int (oI p1), .int (oI p2), .int (oI p3)] x z := by
  refine xMetI_of (by decide) (Nat.le_of_ble_eq_true rfl) (xW_ad T a) ?_
  intro p e s m args below meth c A ls C hr M hl
  have hx := C.1
  have hb := C.2.1
  have hl : lv_has ls 4 [(0, .ref (a 0)), (1, .int (oI p1)), (2, .int (oI p2)), (3, .int (oI p3))] := hl
  have C : xcx RX6 cX6_waits 4 D T (xW T a) A p s m args meth c := C
  revert hl M
  generalize ([] : List Loc) = locs
  generalize s.heap = H
  intro M hl
  unfold f_X6_waits at h
  refine lv_aload_n hx hb dX6_waits_0 rfl (lv_at hl 0 rfl) ?_
  refine lv_iload_n hx hb dX6_waits_1 rfl (lv_at hl 1 rfl) ?_
  refine ci_X6_80 C M h ⟨Nat.le_of_ble_eq_true rfl, Nat.le_of_ble_eq_true rfl⟩ hl.1 (Nat.le_of_ble_eq_true rfl) dX6_waits_2 (fun r1 H locs x2 M nr1 h => ?_)
  refine z_if_ne (tgt := 14) hx hb dX6_waits_5 (by decide) h (fun h => ?_) (fun h => ?_)
  · refine lv_iload_n hx hb dX6_waits_14 rfl (lv_at hl 2 rfl) ?_
    refine lv_iload_n hx hb dX6_waits_15 rfl (lv_at hl 3 rfl) ?_
    refine ci_X6_62 C M h ⟨Nat.le_of_ble_eq_true rfl, Nat.le_of_ble_eq_true rfl⟩ hl.1 (Nat.le_of_ble_eq_true rfl) dX6_waits_16 (fun r3 H locs x4 M nr3 h => ?_)
    refine z_if_ne (tgt := 28) hx hb dX6_waits_19 (by decide) h (fun h => ?_) (fun h => ?_)
    · refine lv_aload_n hx hb dX6_waits_28 rfl (lv_at hl 0 rfl) ?_
      refine gf_X6_12 C M dX6_waits_29 ?_
      refine lv_iload_n hx hb dX6_waits_32 rfl (lv_at hl 1 rfl) ?_
      refine lv_iload_n hx hb dX6_waits_33 rfl (lv_at hl 2 rfl) ?_
      refine lv_iload_n hx hb dX6_waits_34 rfl (lv_at hl 3 rfl) ?_
      refine ci_X6_87 C M h ⟨Nat.le_of_ble_eq_true rfl, Nat.le_of_ble_eq_true rfl⟩ hl.1 (Nat.le_of_ble_eq_true rfl) dX6_waits_35 (fun H locs x6 M h => ?_)
      refine lv_aload_n hx hb dX6_waits_38 rfl (lv_at hl 0 rfl) ?_
      refine ci_X6_91 C M h ⟨Nat.le_of_ble_eq_true rfl, Nat.le_of_ble_eq_true rfl⟩ hl.1 (Nat.le_of_ble_eq_true rfl) dX6_waits_39 (fun r7 H locs x8 M nr7 h => ?_)
      exact xretI C hr M h nr7 dX6_waits_42
    · refine lv_aload_n hx hb dX6_waits_22 rfl (lv_at hl 0 rfl) ?_
      refine lv_iconst (v := oI 2) hx hb dX6_waits_23 (by decide) ?_
      refine ci_X6_84 C M h ⟨Nat.le_of_ble_eq_true rfl, Nat.le_of_ble_eq_true rfl⟩ hl.1 (Nat.le_of_ble_eq_true rfl) dX6_waits_24 (fun r9 H locs x10 M nr9 h => ?_)
      exact xretI C hr M h nr9 dX6_waits_27
  · refine lv_aload_n hx hb dX6_waits_8 rfl (lv_at hl 0 rfl) ?_
    refine lv_iconst (v := oI 1) hx hb dX6_waits_9 (by decide) ?_
    refine ci_X6_84 C M h ⟨Nat.le_of_ble_eq_true rfl, Nat.le_of_ble_eq_true rfl⟩ hl.1 (Nat.le_of_ble_eq_true rfl) dX6_waits_10 (fun r11 H locs x12 M nr11 h => ?_)
    exact xretI C hr M h nr11 dX6_waits_13
set_option maxHeartbeats 4000000 in
set_option maxRecDepth 100000 in
theorem c_X6_areEnds {l : Launch} {D : va_G} {T : ClassId × ClassId} {a : Nat → Nat} {x : XS} {p1 : Int} {p2 : Int} {z : Int × XS} (h : f_X6_areEnds x p1 p2 = some z) (sz : Nat) : xMetI l yX6_areEnds cX6_areEnds 3 .boolean { frames := 2, cells := 0, slots := 0, locals := 43 } D T (xW T a) sz [.ref (a 0), .int (oI p1), .int (oI p2)] x z := by
  refine xMetI_of (by decide) (Nat.le_of_ble_eq_true rfl) (xW_ad T a) ?_
  intro p e s m args below meth c A ls C hr M hl
  have hx := C.1
  have hb := C.2.1
  have hl : lv_has ls 3 [(0, .ref (a 0)), (1, .int (oI p1)), (2, .int (oI p2))] := hl
  have C : xcx RX6 cX6_areEnds 3 D T (xW T a) A p s m args meth c := C
  revert hl M
  generalize ([] : List Loc) = locs
  generalize s.heap = H
  intro M hl
  unfold f_X6_areEnds at h
  refine lv_aload_n hx hb dX6_areEnds_0 rfl (lv_at hl 0 rfl) ?_
  refine lv_iload_n hx hb dX6_areEnds_1 rfl (lv_at hl 1 rfl) ?_
  refine ci_X6_80 C M h ⟨Nat.le_of_ble_eq_true rfl, Nat.le_of_ble_eq_true rfl⟩ hl.1 (Nat.le_of_ble_eq_true rfl) dX6_areEnds_2 (fun r1 H locs x2 M nr1 h => ?_)
  refine z_if_eq (tgt := 25) hx hb dX6_areEnds_5 (by decide) h (fun h => ?_) (fun h => ?_)
  · refine lv_iconst (v := oI 0) hx hb dX6_areEnds_25 (by decide) ?_
    exact xretI C hr M h nb_0 dX6_areEnds_26
  · refine lv_aload_n hx hb dX6_areEnds_8 rfl (lv_at hl 0 rfl) ?_
    refine lv_iload_n hx hb dX6_areEnds_9 rfl (lv_at hl 2 rfl) ?_
    refine ci_X6_80 C M h ⟨Nat.le_of_ble_eq_true rfl, Nat.le_of_ble_eq_true rfl⟩ hl.1 (Nat.le_of_ble_eq_true rfl) dX6_areEnds_10 (fun r3 H locs x4 M nr3 h => ?_)
    refine z_if_eq (tgt := 25) hx hb dX6_areEnds_13 (by decide) h (fun h => ?_) (fun h => ?_)
    · refine lv_iconst (v := oI 0) hx hb dX6_areEnds_25 (by decide) ?_
      exact xretI C hr M h nb_0 dX6_areEnds_26
    · refine lv_iload_n hx hb dX6_areEnds_16 rfl (lv_at hl 1 rfl) ?_
      refine lv_iload_n hx hb dX6_areEnds_17 rfl (lv_at hl 2 rfl) ?_
      refine z_icmp_eq (tgt := 25) hx hb dX6_areEnds_18 (by decide) h (fun h => ?_) (fun h => ?_)
      · refine lv_iconst (v := oI 0) hx hb dX6_areEnds_25 (by decide) ?_
        exact xretI C hr M h nb_0 dX6_areEnds_26
      · refine lv_iconst (v := oI 1) hx hb dX6_areEnds_21 (by decide) ?_
        refine lv_goto (tgt := 26) hx hb dX6_areEnds_22 (by decide) ?_
        exact xretI C hr M h nb_1 dX6_areEnds_26
set_option maxHeartbeats 4000000 in
set_option maxRecDepth 100000 in
theorem c_X6_isPlan {l : Launch} {D : va_G} {T : ClassId × ClassId} {a : Nat → Nat} {x : XS} {p1 : Int} {p2 : Int} {p3 : Int} {z : Int × XS} (h : f_X6_isPlan x p1 p2 p3 = some z) (sz : Nat) : xMetI l yX6_isPlan cX6_isPlan 3 .boolean { frames := 1, cells := 0, slots := 0, locals := 22 } D T (xW T a) sz [.int (oI p1), .int (oI p2), .int (oI p3)] x z := by
  refine xMetI_of (by decide) (Nat.le_of_ble_eq_true rfl) (xW_ad T a) ?_
  intro p e s m args below meth c A ls C hr M hl
  have hx := C.1
  have hb := C.2.1
  have hl : lv_has ls 3 [(0, .int (oI p1)), (1, .int (oI p2)), (2, .int (oI p3))] := hl
  have C : xcx RX6 cX6_isPlan 3 D T (xW T a) A p s m args meth c := C
  revert hl M
  generalize ([] : List Loc) = locs
  generalize s.heap = H
  intro M hl
  unfold f_X6_isPlan at h
  refine lv_iload_n hx hb dX6_isPlan_0 rfl (lv_at hl 0 rfl) ?_
  refine z_if_ne (tgt := 6) hx hb dX6_isPlan_1 (by decide) h (fun h => ?_) (fun h => ?_)
  · refine lv_iload_n hx hb dX6_isPlan_6 rfl (lv_at hl 0 rfl) ?_
    refine lv_iconst (v := oI 1) hx hb dX6_isPlan_7 (by decide) ?_
    refine x_jp_el h (fun jp1 ejp1 h => ?_)
    have hjp1 : ∀ (x2 : XS) (H : Heap) (locs : List Loc) (ls : Array Slot), jp1 x2 = some z → xmm D (xW T a) A s H locs x2 → lv_has ls 3 [(0, .int (oI p1)), (1, .int (oI p2)), (2, .int (oI p3))] → W p l e { frames := 1, cells := 0, slots := 0, locals := 22 } s m args below meth c H locs 0 0 (xQI below args s D (xW T a) .boolean z A) (F0 m 18 ls []) := by
      intro x2 H locs ls h M hl
      rw [ejp1] at h
      dsimp only at h
      refine lv_iload_n hx hb dX6_isPlan_18 rfl (lv_at hl 1 rfl) ?_
      refine lv_iconst (v := oI 2) hx hb dX6_isPlan_19 (by decide) ?_
      refine lv_bipush (v := oI 60) hx hb dX6_isPlan_20 (by decide) ?_
      refine ci_X6_98 C M h ⟨Nat.le_of_ble_eq_true rfl, Nat.le_of_ble_eq_true rfl⟩ hl.1 (Nat.le_of_ble_eq_true rfl) dX6_isPlan_22 (fun r3 H locs x4 M nr3 h => ?_)
      refine z_if_eq (tgt := 48) hx hb dX6_isPlan_25 (by decide) h (fun h => ?_) (fun h => ?_)
      · refine lv_iconst (v := oI 0) hx hb dX6_isPlan_48 (by decide) ?_
        exact xretI C hr M h nb_0 dX6_isPlan_49
      · refine lv_iload_n hx hb dX6_isPlan_28 rfl (lv_at hl 0 rfl) ?_
        refine lv_iconst (v := oI 2) hx hb dX6_isPlan_29 (by decide) ?_
        refine x_jp_el h (fun jp5 ejp5 h => ?_)
        have hjp5 : ∀ (x6 : XS) (H : Heap) (locs : List Loc) (ls : Array Slot), jp5 x6 = some z → xmm D (xW T a) A s H locs x6 → lv_has ls 3 [] → W p l e { frames := 1, cells := 0, slots := 0, locals := 22 } s m args below meth c H locs 0 0 (xQI below args s D (xW T a) .boolean z A) (F0 m 44 ls []) := by
          intro x6 H locs ls h M hl
          rw [ejp5] at h
          dsimp only at h
          refine lv_iconst (v := oI 1) hx hb dX6_isPlan_44 (by decide) ?_
          refine lv_goto (tgt := 49) hx hb dX6_isPlan_45 (by decide) ?_
          exact xretI C hr M h nb_1 dX6_isPlan_49
        refine z_icmp_eq (tgt := 44) hx hb dX6_isPlan_30 (by decide) h (fun h => ?_) (fun h => ?_)
        · exact hjp5 x4 H locs ls h M (lv_sub hl [] rfl)
        · refine lv_iload_n hx hb dX6_isPlan_33 rfl (lv_at hl 2 rfl) ?_
          refine lv_iconst (v := oI 1) hx hb dX6_isPlan_34 (by decide) ?_
          refine lv_sipush (v := oI 500) hx hb dX6_isPlan_35 (by decide) ?_
          refine ci_X6_98 C M h ⟨Nat.le_of_ble_eq_true rfl, Nat.le_of_ble_eq_true rfl⟩ hl.1 (Nat.le_of_ble_eq_true rfl) dX6_isPlan_38 (fun r7 H locs x8 M nr7 h => ?_)
          refine z_if_eq (tgt := 48) hx hb dX6_isPlan_41 (by decide) h (fun h => ?_) (fun h => ?_)
          · refine lv_iconst (v := oI 0) hx hb dX6_isPlan_48 (by decide) ?_
            exact xretI C hr M h nb_0 dX6_isPlan_49
          · exact hjp5 x8 H locs ls h M (lv_sub hl [] rfl)
    refine z_icmp_eq (tgt := 18) hx hb dX6_isPlan_8 (by decide) h (fun h => ?_) (fun h => ?_)
    · exact hjp1 x H locs ls h M (lv_sub hl [0, 1, 2] rfl)
    · refine lv_iload_n hx hb dX6_isPlan_11 rfl (lv_at hl 0 rfl) ?_
      refine lv_iconst (v := oI 2) hx hb dX6_isPlan_12 (by decide) ?_
      refine z_icmp_eq (tgt := 18) hx hb dX6_isPlan_13 (by decide) h (fun h => ?_) (fun h => ?_)
      · exact hjp1 x H locs ls h M (lv_sub hl [0, 1, 2] rfl)
      · refine lv_iconst (v := oI 0) hx hb dX6_isPlan_16 (by decide) ?_
        exact xretI C hr M h nb_0 dX6_isPlan_17
  · refine lv_iconst (v := oI 1) hx hb dX6_isPlan_4 (by decide) ?_
    exact xretI C hr M h nb_1 dX6_isPlan_5
set_option maxHeartbeats 4000000 in
set_option maxRecDepth 100000 in
theorem c_X1_isFull {l : Launch} {D : va_G} {T : ClassId × ClassId} {a : Nat → Nat} {x : XS} {z : Int × XS} (h : f_X1_isFull x = some z) (sz : Nat) : xMetI l yX1_isFull cX1_isFull 1 .boolean { frames := 0, cells := 0, slots := 0, locals := 0 } D T (xW T a) sz [.ref (a 3)] x z := by
  refine xMetI_of (by decide) (Nat.le_of_ble_eq_true rfl) (xW_ad T a) ?_
  intro p e s m args below meth c A ls C hr M hl
  have hx := C.1
  have hb := C.2.1
  have hl : lv_has ls 1 [(0, .ref (a 3))] := hl
  have C : xcx RX1 cX1_isFull 1 D T (xW T a) A p s m args meth c := C
  revert hl M
  generalize ([] : List Loc) = locs
  generalize s.heap = H
  intro M hl
  unfold f_X1_isFull at h
  refine lv_aload_n hx hb dX1_isFull_0 rfl (lv_at hl 0 rfl) ?_
  refine gf_X1_24 C M dX1_isFull_1 ?_
  refine lv_sipush (v := oI 400) hx hb dX1_isFull_4 (by decide) ?_
  refine z_icmp_lt (tgt := 14) hx hb dX1_isFull_7 (by decide) h (fun h => ?_) (fun h => ?_)
  · refine lv_iconst (v := oI 0) hx hb dX1_isFull_14 (by decide) ?_
    exact xretI C hr M h nb_0 dX1_isFull_15
  · refine lv_iconst (v := oI 1) hx hb dX1_isFull_10 (by decide) ?_
    refine lv_goto (tgt := 15) hx hb dX1_isFull_11 (by decide) ?_
    exact xretI C hr M h nb_1 dX1_isFull_15
set_option maxHeartbeats 4000000 in
set_option maxRecDepth 100000 in
theorem c_X0_add {l : Launch} {D : va_G} {T : ClassId × ClassId} {a : Nat → Nat} {x : XS} {p1 : Int} {p2 : Int} {p3 : Int} {p4 : Int} {p5 : Int} {p6 : Int} {p7 : Int} {z : Int × XS} (h : f_X0_add x p1 p2 p3 p4 p5 p6 p7 = some z) (sz : Nat) : xMetI l yX0_add cX0_add 9 .int { frames := 0, cells := 0, slots := 0, locals := 0 } D T (xW T a) sz [.ref (a 2), .int (oI p1), .int (oI p2), .int (oI p3), .int (oI p4), .int (oI p5), .int (oI p6), .int (oI p7)] x z := by
  refine xMetI_of (by decide) (Nat.le_of_ble_eq_true rfl) (xW_ad T a) ?_
  intro p e s m args below meth c A ls C hr M hl
  have hx := C.1
  have hb := C.2.1
  have hl : lv_has ls 9 [(0, .ref (a 2)), (1, .int (oI p1)), (2, .int (oI p2)), (3, .int (oI p3)), (4, .int (oI p4)), (5, .int (oI p5)), (6, .int (oI p6)), (7, .int (oI p7))] := hl
  have C : xcx RX0 cX0_add 9 D T (xW T a) A p s m args meth c := C
  revert hl M
  generalize ([] : List Loc) = locs
  generalize s.heap = H
  intro M hl
  unfold f_X0_add at h
  refine lv_aload_n hx hb dX0_add_0 rfl (lv_at hl 0 rfl) ?_
  refine gf_X0_40 C M dX0_add_1 ?_
  refine x_top h (fun v1 h => ?_)
  refine lv_istore (lv' := [(8, .int (oI v1)), (0, .ref (a 2)), (1, .int (oI p1)), (2, .int (oI p2)), (3, .int (oI p3)), (4, .int (oI p4)), (5, .int (oI p5)), (6, .int (oI p6)), (7, .int (oI p7))]) hx hb dX0_add_4 hl (by decide) rfl (fun ls hl => ?_)
  refine lv_aload_n hx hb dX0_add_6 rfl (lv_at hl 1 rfl) ?_
  refine gf_X0_9 C M dX0_add_7 ?_
  refine lv_iload hx hb dX0_add_10 (lv_at hl 0 rfl) ?_
  refine lv_iload_n hx hb dX0_add_12 rfl (lv_at hl 2 rfl) ?_
  refine as_x_11 C M dX0_add_13 h (fun H locs x2 M h => ?_)
  refine lv_aload_n hx hb dX0_add_14 rfl (lv_at hl 1 rfl) ?_
  refine gf_X0_15 C M dX0_add_15 ?_
  refine lv_iload hx hb dX0_add_18 (lv_at hl 0 rfl) ?_
  refine lv_iload_n hx hb dX0_add_20 rfl (lv_at hl 3 rfl) ?_
  refine as_x_12 C M dX0_add_21 h (fun H locs x3 M h => ?_)
  refine lv_aload_n hx hb dX0_add_22 rfl (lv_at hl 1 rfl) ?_
  refine gf_X0_18 C M dX0_add_23 ?_
  refine lv_iload hx hb dX0_add_26 (lv_at hl 0 rfl) ?_
  refine lv_iload_n hx hb dX0_add_28 rfl (lv_at hl 4 rfl) ?_
  refine as_x_13 C M dX0_add_29 h (fun H locs x4 M h => ?_)
  refine lv_aload_n hx hb dX0_add_30 rfl (lv_at hl 1 rfl) ?_
  refine gf_X0_21 C M dX0_add_31 ?_
  refine lv_iload hx hb dX0_add_34 (lv_at hl 0 rfl) ?_
  refine lv_iload hx hb dX0_add_36 (lv_at hl 5 rfl) ?_
  refine as_x_14 C M dX0_add_38 h (fun H locs x5 M h => ?_)
  refine lv_aload_n hx hb dX0_add_39 rfl (lv_at hl 1 rfl) ?_
  refine gf_X0_24 C M dX0_add_40 ?_
  refine lv_iload hx hb dX0_add_43 (lv_at hl 0 rfl) ?_
  refine lv_iload hx hb dX0_add_45 (lv_at hl 6 rfl) ?_
  refine as_x_15 C M dX0_add_47 h (fun H locs x6 M h => ?_)
  refine lv_aload_n hx hb dX0_add_48 rfl (lv_at hl 1 rfl) ?_
  refine gf_X0_27 C M dX0_add_49 ?_
  refine lv_iload hx hb dX0_add_52 (lv_at hl 0 rfl) ?_
  refine lv_iload hx hb dX0_add_54 (lv_at hl 7 rfl) ?_
  refine as_x_16 C M dX0_add_56 h (fun H locs x7 M h => ?_)
  refine lv_aload_n hx hb dX0_add_57 rfl (lv_at hl 1 rfl) ?_
  refine gf_X0_30 C M dX0_add_58 ?_
  refine lv_iload hx hb dX0_add_61 (lv_at hl 0 rfl) ?_
  refine lv_iload hx hb dX0_add_63 (lv_at hl 8 rfl) ?_
  refine as_x_17 C M dX0_add_65 h (fun H locs x8 M h => ?_)
  refine lv_aload_n hx hb dX0_add_66 rfl (lv_at hl 1 rfl) ?_
  refine gf_X0_33 C M dX0_add_67 ?_
  refine lv_iload hx hb dX0_add_70 (lv_at hl 0 rfl) ?_
  refine lv_aload_n hx hb dX0_add_72 rfl (lv_at hl 1 rfl) ?_
  refine gf_X0_44 C M dX0_add_73 ?_
  refine as_x_18 C M dX0_add_76 h (fun H locs x9 M h => ?_)
  refine lv_aload_n hx hb dX0_add_77 rfl (lv_at hl 1 rfl) ?_
  refine gf_X0_36 C M dX0_add_78 ?_
  refine lv_iload hx hb dX0_add_81 (lv_at hl 0 rfl) ?_
  refine lv_iconst (v := oI 0) hx hb dX0_add_83 (by decide) ?_
  refine as_x_19 C M dX0_add_84 h (fun H locs x10 M h => ?_)
  refine lv_aload_n hx hb dX0_add_85 rfl (lv_at hl 1 rfl) ?_
  refine lv_dup hx hb dX0_add_86 rfl ?_
  refine gf_X0_40 C M dX0_add_87 ?_
  refine lv_iconst (v := oI 1) hx hb dX0_add_90 (by decide) ?_
  refine z_iadd hx hb dX0_add_91 ?_
  refine pf_X0_40 C M dX0_add_92 h (fun H locs x11 M h => ?_)
  refine lv_aload_n hx hb dX0_add_95 rfl (lv_at hl 1 rfl) ?_
  refine lv_dup hx hb dX0_add_96 rfl ?_
  refine gf_X0_44 C M dX0_add_97 ?_
  refine lv_iload hx hb dX0_add_100 (lv_at hl 7 rfl) ?_
  refine z_iadd hx hb dX0_add_102 ?_
  refine pf_X0_44 C M dX0_add_103 h (fun H locs x12 M h => ?_)
  refine lv_iload hx hb dX0_add_106 (lv_at hl 0 rfl) ?_
  exact xretI C hr M h rfl dX0_add_108
set_option maxHeartbeats 4000000 in
set_option maxRecDepth 100000 in
theorem c_X1_add {l : Launch} {D : va_G} {T : ClassId × ClassId} {a : Nat → Nat} {x : XS} {p1 : Int} {p2 : Int} {p3 : Int} {p4 : Int} {z : Int × XS} (h : f_X1_add x p1 p2 p3 p4 = some z) (sz : Nat) : xMetV l yX1_add cX1_add 5 { frames := 0, cells := 0, slots := 0, locals := 0 } D T (xW T a) sz [.ref (a 3), .int (oI p1), .int (oI p2), .int (oI p3), .int (oI p4)] x z := by
  refine xMetV_of (by decide) (Nat.le_of_ble_eq_true rfl) (xW_ad T a) ?_
  intro p e s m args below meth c A ls C hr M hl
  have hx := C.1
  have hb := C.2.1
  have hl : lv_has ls 5 [(0, .ref (a 3)), (1, .int (oI p1)), (2, .int (oI p2)), (3, .int (oI p3)), (4, .int (oI p4))] := hl
  have C : xcx RX1 cX1_add 5 D T (xW T a) A p s m args meth c := C
  revert hl M
  generalize ([] : List Loc) = locs
  generalize s.heap = H
  intro M hl
  unfold f_X1_add at h
  refine lv_aload_n hx hb dX1_add_0 rfl (lv_at hl 0 rfl) ?_
  refine gf_X1_9 C M dX1_add_1 ?_
  refine lv_aload_n hx hb dX1_add_4 rfl (lv_at hl 0 rfl) ?_
  refine gf_X1_24 C M dX1_add_5 ?_
  refine lv_iload_n hx hb dX1_add_8 rfl (lv_at hl 1 rfl) ?_
  refine as_x_20 C M dX1_add_9 h (fun H locs x1 M h => ?_)
  refine lv_aload_n hx hb dX1_add_10 rfl (lv_at hl 0 rfl) ?_
  refine gf_X1_15 C M dX1_add_11 ?_
  refine lv_aload_n hx hb dX1_add_14 rfl (lv_at hl 0 rfl) ?_
  refine gf_X1_24 C M dX1_add_15 ?_
  refine lv_iload_n hx hb dX1_add_18 rfl (lv_at hl 2 rfl) ?_
  refine as_x_21 C M dX1_add_19 h (fun H locs x2 M h => ?_)
  refine lv_aload_n hx hb dX1_add_20 rfl (lv_at hl 0 rfl) ?_
  refine gf_X1_18 C M dX1_add_21 ?_
  refine lv_aload_n hx hb dX1_add_24 rfl (lv_at hl 0 rfl) ?_
  refine gf_X1_24 C M dX1_add_25 ?_
  refine lv_iload_n hx hb dX1_add_28 rfl (lv_at hl 3 rfl) ?_
  refine as_x_22 C M dX1_add_29 h (fun H locs x3 M h => ?_)
  refine lv_aload_n hx hb dX1_add_30 rfl (lv_at hl 0 rfl) ?_
  refine gf_X1_21 C M dX1_add_31 ?_
  refine lv_aload_n hx hb dX1_add_34 rfl (lv_at hl 0 rfl) ?_
  refine gf_X1_24 C M dX1_add_35 ?_
  refine lv_iload hx hb dX1_add_38 (lv_at hl 4 rfl) ?_
  refine as_x_23 C M dX1_add_40 h (fun H locs x4 M h => ?_)
  refine lv_aload_n hx hb dX1_add_41 rfl (lv_at hl 0 rfl) ?_
  refine lv_dup hx hb dX1_add_42 rfl ?_
  refine gf_X1_24 C M dX1_add_43 ?_
  refine lv_iconst (v := oI 1) hx hb dX1_add_46 (by decide) ?_
  refine z_iadd hx hb dX1_add_47 ?_
  refine pf_X1_24 C M dX1_add_48 h (fun H locs x5 M h => ?_)
  refine lv_iload_n hx hb dX1_add_51 rfl (lv_at hl 1 rfl) ?_
  refine lv_iconst (v := oI 3) hx hb dX1_add_52 (by decide) ?_
  refine z_icmp_ne (tgt := 66) hx hb dX1_add_53 (by decide) h (fun h => ?_) (fun h => ?_)
  · exact xretV C hr M h dX1_add_66
  · refine lv_aload_n hx hb dX1_add_56 rfl (lv_at hl 0 rfl) ?_
    refine lv_dup hx hb dX1_add_57 rfl ?_
    refine gf_X1_28 C M dX1_add_58 ?_
    refine lv_iconst (v := oI 1) hx hb dX1_add_61 (by decide) ?_
    refine z_iadd hx hb dX1_add_62 ?_
    refine pf_X1_28 C M dX1_add_63 h (fun H locs x6 M h => ?_)
    exact xretV C hr M h dX1_add_66
theorem ci_X6_95 {cc : ByteArray} {nL : Nat} {D : va_G} {T : ClassId × ClassId} {a : Nat → Nat} {A : Nat → Prop} {p : Program} {l : Launch} {e : Env} {R : Room} {s : State} {m : MethodId} {args : Array Value} {below : List Frame} {meth : Method} {c : Code} {H : Heap} {locs : List Loc} {Q : State → Prop} {x : XS} {z : Int × XS} {pc : Nat} {ls : Array Slot} {rest : List Value} (C : xcx RX6 cc nL D T (xW T a) A p s m args meth c) (M : xmm D (xW T a) A s H locs x) {p1 p2 : Int} {K : Int → XS → XR} (h : x_call (f_X6_areEnds x p1 p2) K = some z) (hR : 2 + 1 ≤ R.frames ∧ 8 + (3 + 11) + 43 ≤ R.locals) (hsz : ls.size = nL) (hrest : (rest.map fun v => v.category).sum ≤ 8) (hdg : decode cc pc = .ok (.invokevirtual 95, 3)) (kk : ∀ (r : Int) (H1 : Heap) (locs1 : List Loc) (x1 : XS), xmm D (xW T a) A s H1 locs1 x1 → narrow .boolean (.int (oI r)) = .int (oI r) → K r x1 = some z → W p l e R s m args below meth c H1 locs1 0 0 Q (F0 m (pc + 3) ls (.int (oI r) :: rest))) : W p l e R s m args below meth c H locs 0 0 Q (F0 m pc ls (.int (oI p2) :: .int (oI p1) :: .ref (a 0) :: rest)) :=
  xcallI_V (As := [.int (oI p1), .int (oI p2)]) (n := 2) C M (fun zc sz ho => c_X6_areEnds ho sz) bw_400 bw_397 bw_399 bw_7 bw_84 rfl (by decide +kernel) 0 rfl rfl ⟨rfl, rfl⟩ hR hsz rfl hrest hdg h kk
theorem ci_X6_102 {cc : ByteArray} {nL : Nat} {D : va_G} {T : ClassId × ClassId} {a : Nat → Nat} {A : Nat → Prop} {p : Program} {l : Launch} {e : Env} {R : Room} {s : State} {m : MethodId} {args : Array Value} {below : List Frame} {meth : Method} {c : Code} {H : Heap} {locs : List Loc} {Q : State → Prop} {x : XS} {z : Int × XS} {pc : Nat} {ls : Array Slot} {rest : List Value} (C : xcx RX6 cc nL D T (xW T a) A p s m args meth c) (M : xmm D (xW T a) A s H locs x) {p1 p2 p3 : Int} {K : Int → XS → XR} (h : x_call (f_X6_isPlan x p1 p2 p3) K = some z) (hR : 1 + 1 ≤ R.frames ∧ 8 + (3 + 11) + 22 ≤ R.locals) (hsz : ls.size = nL) (hrest : (rest.map fun v => v.category).sum ≤ 8) (hdg : decode cc pc = .ok (.invokestatic 102, 3)) (kk : ∀ (r : Int) (H1 : Heap) (locs1 : List Loc) (x1 : XS), xmm D (xW T a) A s H1 locs1 x1 → narrow .boolean (.int (oI r)) = .int (oI r) → K r x1 = some z → W p l e R s m args below meth c H1 locs1 0 0 Q (F0 m (pc + 3) ls (.int (oI r) :: rest))) : W p l e R s m args below meth c H locs 0 0 Q (F0 m pc ls (.int (oI p3) :: .int (oI p2) :: .int (oI p1) :: rest)) :=
  xcallI_S (As := [.int (oI p1), .int (oI p2), .int (oI p3)]) (n := 3) C M (fun zc sz ho => c_X6_isPlan ho sz) bw_403 bw_401 bw_402 bw_84 rfl (by decide +kernel) ⟨rfl, rfl⟩ hR hsz rfl hrest hdg h kk
theorem ci_X6_109 {cc : ByteArray} {nL : Nat} {D : va_G} {T : ClassId × ClassId} {a : Nat → Nat} {A : Nat → Prop} {p : Program} {l : Launch} {e : Env} {R : Room} {s : State} {m : MethodId} {args : Array Value} {below : List Frame} {meth : Method} {c : Code} {H : Heap} {locs : List Loc} {Q : State → Prop} {x : XS} {z : Int × XS} {pc : Nat} {ls : Array Slot} {rest : List Value} (C : xcx RX6 cc nL D T (xW T a) A p s m args meth c) (M : xmm D (xW T a) A s H locs x) {K : Int → XS → XR} (h : x_call (f_X1_isFull x) K = some z) (hR : 0 + 1 ≤ R.frames ∧ 8 + (1 + 11) + 0 ≤ R.locals) (hsz : ls.size = nL) (hrest : (rest.map fun v => v.category).sum ≤ 8) (hdg : decode cc pc = .ok (.invokevirtual 109, 3)) (kk : ∀ (r : Int) (H1 : Heap) (locs1 : List Loc) (x1 : XS), xmm D (xW T a) A s H1 locs1 x1 → narrow .boolean (.int (oI r)) = .int (oI r) → K r x1 = some z → W p l e R s m args below meth c H1 locs1 0 0 Q (F0 m (pc + 3) ls (.int (oI r) :: rest))) : W p l e R s m args below meth c H locs 0 0 Q (F0 m pc ls (.ref (a 3) :: rest)) :=
  xcallI_N (As := []) (n := 0) C M (fun zc sz ho => c_X1_isFull ho sz) bw_407 bw_404 bw_406 bw_8 bw_87 rfl (by decide +kernel) 3 rfl rfl ⟨rfl, rfl⟩ hR hsz rfl hrest hdg h kk
theorem ci_X6_112 {cc : ByteArray} {nL : Nat} {D : va_G} {T : ClassId × ClassId} {a : Nat → Nat} {A : Nat → Prop} {p : Program} {l : Launch} {e : Env} {R : Room} {s : State} {m : MethodId} {args : Array Value} {below : List Frame} {meth : Method} {c : Code} {H : Heap} {locs : List Loc} {Q : State → Prop} {x : XS} {z : Int × XS} {pc : Nat} {ls : Array Slot} {rest : List Value} (C : xcx RX6 cc nL D T (xW T a) A p s m args meth c) (M : xmm D (xW T a) A s H locs x) {p1 p2 p3 p4 p5 p6 p7 : Int} {K : Int → XS → XR} (h : x_call (f_X0_add x p1 p2 p3 p4 p5 p6 p7) K = some z) (hR : 0 + 1 ≤ R.frames ∧ 8 + (9 + 11) + 0 ≤ R.locals) (hsz : ls.size = nL) (hrest : (rest.map fun v => v.category).sum ≤ 8) (hdg : decode cc pc = .ok (.invokevirtual 112, 3)) (kk : ∀ (r : Int) (H1 : Heap) (locs1 : List Loc) (x1 : XS), xmm D (xW T a) A s H1 locs1 x1 → narrow .int (.int (oI r)) = .int (oI r) → K r x1 = some z → W p l e R s m args below meth c H1 locs1 0 0 Q (F0 m (pc + 3) ls (.int (oI r) :: rest))) : W p l e R s m args below meth c H locs 0 0 Q (F0 m pc ls (.int (oI p7) :: .int (oI p6) :: .int (oI p5) :: .int (oI p4) :: .int (oI p3) :: .int (oI p2) :: .int (oI p1) :: .ref (a 2) :: rest)) :=
  xcallI_N (As := [.int (oI p1), .int (oI p2), .int (oI p3), .int (oI p4), .int (oI p5), .int (oI p6), .int (oI p7)]) (n := 7) C M (fun zc sz ho => c_X0_add ho sz) bw_411 bw_408 bw_410 bw_9 bw_86 rfl (by decide +kernel) 2 rfl rfl ⟨rfl, rfl⟩ hR hsz rfl hrest hdg h kk
theorem ci_X6_115 {cc : ByteArray} {nL : Nat} {D : va_G} {T : ClassId × ClassId} {a : Nat → Nat} {A : Nat → Prop} {p : Program} {l : Launch} {e : Env} {R : Room} {s : State} {m : MethodId} {args : Array Value} {below : List Frame} {meth : Method} {c : Code} {H : Heap} {locs : List Loc} {Q : State → Prop} {x : XS} {z : Int × XS} {pc : Nat} {ls : Array Slot} {rest : List Value} (C : xcx RX6 cc nL D T (xW T a) A p s m args meth c) (M : xmm D (xW T a) A s H locs x) {p1 p2 p3 p4 : Int} {K : Int → XS → XR} (h : x_call (f_X1_add x p1 p2 p3 p4) K = some z) (hR : 0 + 1 ≤ R.frames ∧ 8 + (5 + 11) + 0 ≤ R.locals) (hsz : ls.size = nL) (hrest : (rest.map fun v => v.category).sum ≤ 8) (hdg : decode cc pc = .ok (.invokevirtual 115, 3)) (kk : ∀ (H1 : Heap) (locs1 : List Loc) (x1 : XS), xmm D (xW T a) A s H1 locs1 x1 → K 0 x1 = some z → W p l e R s m args below meth c H1 locs1 0 0 Q (F0 m (pc + 3) ls rest)) : W p l e R s m args below meth c H locs 0 0 Q (F0 m pc ls (.int (oI p4) :: .int (oI p3) :: .int (oI p2) :: .int (oI p1) :: .ref (a 3) :: rest)) :=
  xcallV_N (As := [.int (oI p1), .int (oI p2), .int (oI p3), .int (oI p4)]) (n := 4) C M (fun zc sz ho => c_X1_add ho sz) bw_415 bw_412 bw_414 bw_10 bw_87 rfl (by decide +kernel) 3 rfl rfl ⟨rfl, rfl⟩ hR hsz rfl hrest hdg h kk
set_option maxHeartbeats 4000000 in
set_option maxRecDepth 100000 in
theorem c_X6_line {l : Launch} {D : va_G} {T : ClassId × ClassId} {a : Nat → Nat} {x : XS} {p1 : Int} {p2 : Int} {p3 : Int} {p4 : Int} {p5 : Int} {p6 : Int} {p7 : Int} {z : Int × XS} (h : f_X6_line x p1 p2 p3 p4 p5 p6 p7 = some z) (sz : Nat) : xMetI l yX6_line cX6_line 10 .int { frames := 3, cells := 0, slots := 0, locals := 65 } D T (xW T a) sz [.ref (a 0), .int (oI p1), .int (oI p2), .int (oI p3), .int (oI p4), .int (oI p5), .int (oI p6), .int (oI p7)] x z := by
  refine xMetI_of (by decide) (Nat.le_of_ble_eq_true rfl) (xW_ad T a) ?_
  intro p e s m args below meth c A ls C hr M hl
  have hx := C.1
  have hb := C.2.1
  have hl : lv_has ls 10 [(0, .ref (a 0)), (1, .int (oI p1)), (2, .int (oI p2)), (3, .int (oI p3)), (4, .int (oI p4)), (5, .int (oI p5)), (6, .int (oI p6)), (7, .int (oI p7))] := hl
  have C : xcx RX6 cX6_line 10 D T (xW T a) A p s m args meth c := C
  revert hl M
  generalize ([] : List Loc) = locs
  generalize s.heap = H
  intro M hl
  unfold f_X6_line at h
  refine lv_aload_n hx hb dX6_line_0 rfl (lv_at hl 0 rfl) ?_
  refine lv_iload_n hx hb dX6_line_1 rfl (lv_at hl 1 rfl) ?_
  refine lv_iload_n hx hb dX6_line_2 rfl (lv_at hl 2 rfl) ?_
  refine ci_X6_95 C M h ⟨Nat.le_of_ble_eq_true rfl, Nat.le_of_ble_eq_true rfl⟩ hl.1 (Nat.le_of_ble_eq_true rfl) dX6_line_3 (fun r1 H locs x2 M nr1 h => ?_)
  refine z_if_ne (tgt := 15) hx hb dX6_line_6 (by decide) h (fun h => ?_) (fun h => ?_)
  · refine lv_iload hx hb dX6_line_15 (lv_at hl 4 rfl) ?_
    refine lv_iconst (v := oI 0) hx hb dX6_line_17 (by decide) ?_
    refine lv_sipush (v := oI 5000) hx hb dX6_line_18 (by decide) ?_
    refine ci_X6_98 C M h ⟨Nat.le_of_ble_eq_true rfl, Nat.le_of_ble_eq_true rfl⟩ hl.1 (Nat.le_of_ble_eq_true rfl) dX6_line_21 (fun r3 H locs x4 M nr3 h => ?_)
    refine x_jp_el h (fun jp5 ejp5 h => ?_)
    have hjp5 : ∀ (x6 : XS) (H : Heap) (locs : List Loc) (ls : Array Slot), jp5 x6 = some z → xmm D (xW T a) A s H locs x6 → lv_has ls 10 [(0, .ref (a 0))] → W p l e { frames := 3, cells := 0, slots := 0, locals := 65 } s m args below meth c H locs 0 0 (xQI below args s D (xW T a) .int z A) (F0 m 50 ls []) := by
      intro x6 H locs ls h M hl
      rw [ejp5] at h
      dsimp only at h
      refine lv_aload_n hx hb dX6_line_50 rfl (lv_at hl 0 rfl) ?_
      refine lv_iconst (v := oI 2) hx hb dX6_line_51 (by decide) ?_
      refine ci_X6_66 C M h ⟨Nat.le_of_ble_eq_true rfl, Nat.le_of_ble_eq_true rfl⟩ hl.1 (Nat.le_of_ble_eq_true rfl) dX6_line_52 (fun r7 H locs x8 M nr7 h => ?_)
      exact xretI C hr M h rfl dX6_line_55
    refine z_if_eq (tgt := 50) hx hb dX6_line_24 (by decide) h (fun h => ?_) (fun h => ?_)
    · exact hjp5 x4 H locs ls h M (lv_sub hl [0] rfl)
    · refine lv_iload hx hb dX6_line_27 (lv_at hl 5 rfl) ?_
      refine lv_iconst (v := oI 1) hx hb dX6_line_29 (by decide) ?_
      refine lv_sipush (v := oI 500) hx hb dX6_line_30 (by decide) ?_
      refine ci_X6_98 C M h ⟨Nat.le_of_ble_eq_true rfl, Nat.le_of_ble_eq_true rfl⟩ hl.1 (Nat.le_of_ble_eq_true rfl) dX6_line_33 (fun r9 H locs x10 M nr9 h => ?_)
      refine z_if_eq (tgt := 50) hx hb dX6_line_36 (by decide) h (fun h => ?_) (fun h => ?_)
      · exact hjp5 x10 H locs ls h M (lv_sub hl [0] rfl)
      · refine lv_iload_n hx hb dX6_line_39 rfl (lv_at hl 3 rfl) ?_
        refine lv_iload hx hb dX6_line_40 (lv_at hl 6 rfl) ?_
        refine lv_iload hx hb dX6_line_42 (lv_at hl 7 rfl) ?_
        refine ci_X6_102 C M h ⟨Nat.le_of_ble_eq_true rfl, Nat.le_of_ble_eq_true rfl⟩ hl.1 (Nat.le_of_ble_eq_true rfl) dX6_line_44 (fun r11 H locs x12 M nr11 h => ?_)
        refine z_if_ne (tgt := 56) hx hb dX6_line_47 (by decide) h (fun h => ?_) (fun h => ?_)
        · refine lv_iload_n hx hb dX6_line_56 rfl (lv_at hl 3 rfl) ?_
          refine x_jp_el h (fun jp13 ejp13 h => ?_)
          have hjp13 : ∀ (v14 : Int) (x15 : XS) (H : Heap) (locs : List Loc) (ls : Array Slot), jp13 v14 x15 = some z → xmm D (xW T a) A s H locs x15 → lv_has ls 10 [(0, .ref (a 0)), (1, .int (oI p1)), (2, .int (oI p2)), (3, .int (oI p3)), (4, .int (oI p4)), (5, .int (oI p5)), (7, .int (oI p7))] → W p l e { frames := 3, cells := 0, slots := 0, locals := 65 } s m args below meth c H locs 0 0 (xQI below args s D (xW T a) .int z A) (F0 m 66 ls [.int (oI v14)]) := by
            intro v14 x15 H locs ls h M hl
            rw [ejp13] at h
            dsimp only at h
            refine lv_istore (lv' := [(8, .int (oI v14)), (0, .ref (a 0)), (1, .int (oI p1)), (2, .int (oI p2)), (3, .int (oI p3)), (4, .int (oI p4)), (5, .int (oI p5)), (7, .int (oI p7))]) hx hb dX6_line_66 hl (by decide) rfl (fun ls hl => ?_)
            refine lv_aload_n hx hb dX6_line_68 rfl (lv_at hl 1 rfl) ?_
            refine gf_X6_19 C M dX6_line_69 ?_
            refine gf_X6_105 C M dX6_line_72 ?_
            refine lv_bipush (v := oI 100) hx hb dX6_line_75 (by decide) ?_
            refine x_jp_el h (fun jp16 ejp16 h => ?_)
            have hjp16 : ∀ (x17 : XS) (H : Heap) (locs : List Loc) (ls : Array Slot), jp16 x17 = some z → xmm D (xW T a) A s H locs x17 → lv_has ls 10 [(0, .ref (a 0))] → W p l e { frames := 3, cells := 0, slots := 0, locals := 65 } s m args below meth c H locs 0 0 (xQI below args s D (xW T a) .int z A) (F0 m 106 ls []) := by
              intro x17 H locs ls h M hl
              rw [ejp16] at h
              dsimp only at h
              refine lv_aload_n hx hb dX6_line_106 rfl (lv_at hl 0 rfl) ?_
              refine lv_iconst (v := oI 3) hx hb dX6_line_107 (by decide) ?_
              refine ci_X6_66 C M h ⟨Nat.le_of_ble_eq_true rfl, Nat.le_of_ble_eq_true rfl⟩ hl.1 (Nat.le_of_ble_eq_true rfl) dX6_line_108 (fun r18 H locs x19 M nr18 h => ?_)
              exact xretI C hr M h rfl dX6_line_111
            refine z_icmp_ge (tgt := 106) hx hb dX6_line_77 (by decide) h (fun h => ?_) (fun h => ?_)
            · exact hjp16 x15 H locs ls h M (lv_sub hl [1] rfl)
            · refine lv_aload_n hx hb dX6_line_80 rfl (lv_at hl 1 rfl) ?_
              refine gf_X6_19 C M dX6_line_81 ?_
              refine gf_X6_106 C M dX6_line_84 ?_
              refine lv_iload hx hb dX6_line_87 (lv_at hl 0 rfl) ?_
              refine z_iadd hx hb dX6_line_89 ?_
              refine lv_sipush (v := oI 1200) hx hb dX6_line_90 (by decide) ?_
              refine z_icmp_gt (tgt := 106) hx hb dX6_line_93 (by decide) h (fun h => ?_) (fun h => ?_)
              · exact hjp16 x15 H locs ls h M (lv_sub hl [1] rfl)
              · refine lv_aload_n hx hb dX6_line_96 rfl (lv_at hl 1 rfl) ?_
                refine gf_X6_26 C M dX6_line_97 ?_
                refine ci_X6_109 C M h ⟨Nat.le_of_ble_eq_true rfl, Nat.le_of_ble_eq_true rfl⟩ hl.1 (Nat.le_of_ble_eq_true rfl) dX6_line_100 (fun r20 H locs x21 M nr20 h => ?_)
                refine z_if_eq (tgt := 112) hx hb dX6_line_103 (by decide) h (fun h => ?_) (fun h => ?_)
                · refine lv_aload_n hx hb dX6_line_112 rfl (lv_at hl 1 rfl) ?_
                  refine gf_X6_19 C M dX6_line_113 ?_
                  refine lv_iload_n hx hb dX6_line_116 rfl (lv_at hl 2 rfl) ?_
                  refine lv_iload_n hx hb dX6_line_117 rfl (lv_at hl 3 rfl) ?_
                  refine lv_iload_n hx hb dX6_line_118 rfl (lv_at hl 4 rfl) ?_
                  refine lv_iload hx hb dX6_line_119 (lv_at hl 5 rfl) ?_
                  refine lv_iload hx hb dX6_line_121 (lv_at hl 6 rfl) ?_
                  refine lv_iload hx hb dX6_line_123 (lv_at hl 0 rfl) ?_
                  refine lv_iload_n hx hb dX6_line_125 rfl (lv_at hl 4 rfl) ?_
                  refine lv_iconst (v := oI 1) hx hb dX6_line_126 (by decide) ?_
                  refine x_jp_el h (fun jp22 ejp22 h => ?_)
                  have hjp22 : ∀ (v23 : Int) (x24 : XS) (H : Heap) (locs : List Loc) (ls : Array Slot), jp22 v23 x24 = some z → xmm D (xW T a) A s H locs x24 → lv_has ls 10 [(0, .ref (a 0))] → W p l e { frames := 3, cells := 0, slots := 0, locals := 65 } s m args below meth c H locs 0 0 (xQI below args s D (xW T a) .int z A) (F0 m 136 ls [.int (oI v23), .int (oI v14), .int (oI p5), .int (oI p4), .int (oI p3), .int (oI p2), .int (oI p1), .ref (a 2)]) := by
                    intro v23 x24 H locs ls h M hl
                    rw [ejp22] at h
                    dsimp only at h
                    refine ci_X6_112 C M h ⟨Nat.le_of_ble_eq_true rfl, Nat.le_of_ble_eq_true rfl⟩ hl.1 (Nat.le_of_ble_eq_true rfl) dX6_line_136 (fun r25 H locs x26 M nr25 h => ?_)
                    refine lv_istore (lv' := [(9, .int (oI r25)), (0, .ref (a 0))]) hx hb dX6_line_139 hl (by decide) rfl (fun ls hl => ?_)
                    refine lv_aload_n hx hb dX6_line_141 rfl (lv_at hl 1 rfl) ?_
                    refine gf_X6_26 C M dX6_line_142 ?_
                    refine lv_iconst (v := oI 0) hx hb dX6_line_145 (by decide) ?_
                    refine lv_iload hx hb dX6_line_146 (lv_at hl 0 rfl) ?_
                    refine lv_iconst (v := oI 0) hx hb dX6_line_148 (by decide) ?_
                    refine lv_iconst (v := oI 0) hx hb dX6_line_149 (by decide) ?_
                    refine ci_X6_115 C M h ⟨Nat.le_of_ble_eq_true rfl, Nat.le_of_ble_eq_true rfl⟩ hl.1 (Nat.le_of_ble_eq_true rfl) dX6_line_150 (fun H locs x28 M h => ?_)
                    refine lv_aload_n hx hb dX6_line_153 rfl (lv_at hl 1 rfl) ?_
                    refine lv_iload hx hb dX6_line_154 (lv_at hl 0 rfl) ?_
                    refine ci_X6_77 C M h ⟨Nat.le_of_ble_eq_true rfl, Nat.le_of_ble_eq_true rfl⟩ hl.1 (Nat.le_of_ble_eq_true rfl) dX6_line_156 (fun r29 H locs x30 M nr29 h => ?_)
                    exact xretI C hr M h rfl dX6_line_159
                  refine z_icmp_ne (tgt := 135) hx hb dX6_line_127 (by decide) h (fun h => ?_) (fun h => ?_)
                  · refine lv_iconst (v := oI 0) hx hb dX6_line_135 (by decide) ?_
                    exact hjp22 0 x21 H locs ls h M (lv_sub hl [1] rfl)
                  · refine lv_iload hx hb dX6_line_130 (lv_at hl 7 rfl) ?_
                    refine lv_goto (tgt := 136) hx hb dX6_line_132 (by decide) ?_
                    exact hjp22 p7 x21 H locs ls h M (lv_sub hl [1] rfl)
                · exact hjp16 x21 H locs ls h M (lv_sub hl [1] rfl)
          refine z_if_ne (tgt := 64) hx hb dX6_line_57 (by decide) h (fun h => ?_) (fun h => ?_)
          · refine lv_iload hx hb dX6_line_64 (lv_at hl 6 rfl) ?_
            exact hjp13 p6 x12 H locs ls h M (lv_sub hl [0, 1, 2, 3, 4, 5, 7] rfl)
          · refine lv_iconst (v := oI 1) hx hb dX6_line_60 (by decide) ?_
            refine lv_goto (tgt := 66) hx hb dX6_line_61 (by decide) ?_
            exact hjp13 1 x12 H locs ls h M (lv_sub hl [0, 1, 2, 3, 4, 5, 7] rfl)
        · exact hjp5 x12 H locs ls h M (lv_sub hl [0] rfl)
  · refine lv_aload_n hx hb dX6_line_9 rfl (lv_at hl 0 rfl) ?_
    refine lv_iconst (v := oI 1) hx hb dX6_line_10 (by decide) ?_
    refine ci_X6_66 C M h ⟨Nat.le_of_ble_eq_true rfl, Nat.le_of_ble_eq_true rfl⟩ hl.1 (Nat.le_of_ble_eq_true rfl) dX6_line_11 (fun r31 H locs x32 M nr31 h => ?_)
    exact xretI C hr M h rfl dX6_line_14
set_option maxHeartbeats 4000000 in
set_option maxRecDepth 100000 in
theorem c_X6_isLine {l : Launch} {D : va_G} {T : ClassId × ClassId} {a : Nat → Nat} {x : XS} {p1 : Int} {z : Int × XS} (h : f_X6_isLine x p1 = some z) (sz : Nat) : xMetI l yX6_isLine cX6_isLine 2 .boolean { frames := 1, cells := 0, slots := 0, locals := 22 } D T (xW T a) sz [.ref (a 0), .int (oI p1)] x z := by
  refine xMetI_of (by decide) (Nat.le_of_ble_eq_true rfl) (xW_ad T a) ?_
  intro p e s m args below meth c A ls C hr M hl
  have hx := C.1
  have hb := C.2.1
  have hl : lv_has ls 2 [(0, .ref (a 0)), (1, .int (oI p1))] := hl
  have C : xcx RX6 cX6_isLine 2 D T (xW T a) A p s m args meth c := C
  revert hl M
  generalize ([] : List Loc) = locs
  generalize s.heap = H
  intro M hl
  unfold f_X6_isLine at h
  refine lv_iload_n hx hb dX6_isLine_0 rfl (lv_at hl 1 rfl) ?_
  refine lv_iconst (v := oI 0) hx hb dX6_isLine_1 (by decide) ?_
  refine lv_aload_n hx hb dX6_isLine_2 rfl (lv_at hl 0 rfl) ?_
  refine gf_X6_19 C M dX6_isLine_3 ?_
  refine gf_X6_105 C M dX6_isLine_6 ?_
  refine lv_iconst (v := oI 1) hx hb dX6_isLine_9 (by decide) ?_
  refine z_isub hx hb dX6_isLine_10 ?_
  refine ci_X6_98 C M h ⟨Nat.le_of_ble_eq_true rfl, Nat.le_of_ble_eq_true rfl⟩ hl.1 (Nat.le_of_ble_eq_true rfl) dX6_isLine_11 (fun r1 H locs x2 M nr1 h => ?_)
  exact xretI C hr M h nr1 dX6_isLine_14
theorem ci_X6_118 {cc : ByteArray} {nL : Nat} {D : va_G} {T : ClassId × ClassId} {a : Nat → Nat} {A : Nat → Prop} {p : Program} {l : Launch} {e : Env} {R : Room} {s : State} {m : MethodId} {args : Array Value} {below : List Frame} {meth : Method} {c : Code} {H : Heap} {locs : List Loc} {Q : State → Prop} {x : XS} {z : Int × XS} {pc : Nat} {ls : Array Slot} {rest : List Value} (C : xcx RX6 cc nL D T (xW T a) A p s m args meth c) (M : xmm D (xW T a) A s H locs x) {p1 : Int} {K : Int → XS → XR} (h : x_call (f_X6_isLine x p1) K = some z) (hR : 1 + 1 ≤ R.frames ∧ 8 + (2 + 11) + 22 ≤ R.locals) (hsz : ls.size = nL) (hrest : (rest.map fun v => v.category).sum ≤ 8) (hdg : decode cc pc = .ok (.invokevirtual 118, 3)) (kk : ∀ (r : Int) (H1 : Heap) (locs1 : List Loc) (x1 : XS), xmm D (xW T a) A s H1 locs1 x1 → narrow .boolean (.int (oI r)) = .int (oI r) → K r x1 = some z → W p l e R s m args below meth c H1 locs1 0 0 Q (F0 m (pc + 3) ls (.int (oI r) :: rest))) : W p l e R s m args below meth c H locs 0 0 Q (F0 m pc ls (.int (oI p1) :: .ref (a 0) :: rest)) :=
  xcallI_V (As := [.int (oI p1)]) (n := 1) C M (fun zc sz ho => c_X6_isLine ho sz) bw_423 bw_420 bw_422 bw_11 bw_84 rfl (by decide +kernel) 0 rfl rfl ⟨rfl, rfl⟩ hR hsz rfl hrest hdg h kk
set_option maxHeartbeats 4000000 in
set_option maxRecDepth 100000 in
theorem c_X6_strike {l : Launch} {D : va_G} {T : ClassId × ClassId} {a : Nat → Nat} {x : XS} {p1 : Int} {z : Int × XS} (h : f_X6_strike x p1 = some z) (sz : Nat) : xMetI l yX6_strike cX6_strike 2 .boolean { frames := 2, cells := 0, slots := 0, locals := 43 } D T (xW T a) sz [.ref (a 0), .int (oI p1)] x z := by
  refine xMetI_of (by decide) (Nat.le_of_ble_eq_true rfl) (xW_ad T a) ?_
  intro p e s m args below meth c A ls C hr M hl
  have hx := C.1
  have hb := C.2.1
  have hl : lv_has ls 2 [(0, .ref (a 0)), (1, .int (oI p1))] := hl
  have C : xcx RX6 cX6_strike 2 D T (xW T a) A p s m args meth c := C
  revert hl M
  generalize ([] : List Loc) = locs
  generalize s.heap = H
  intro M hl
  unfold f_X6_strike at h
  refine lv_aload_n hx hb dX6_strike_0 rfl (lv_at hl 0 rfl) ?_
  refine lv_iload_n hx hb dX6_strike_1 rfl (lv_at hl 1 rfl) ?_
  refine ci_X6_118 C M h ⟨Nat.le_of_ble_eq_true rfl, Nat.le_of_ble_eq_true rfl⟩ hl.1 (Nat.le_of_ble_eq_true rfl) dX6_strike_2 (fun r1 H locs x2 M nr1 h => ?_)
  refine z_if_ne (tgt := 14) hx hb dX6_strike_5 (by decide) h (fun h => ?_) (fun h => ?_)
  · refine lv_aload_n hx hb dX6_strike_14 rfl (lv_at hl 0 rfl) ?_
    refine gf_X6_26 C M dX6_strike_15 ?_
    refine ci_X6_109 C M h ⟨Nat.le_of_ble_eq_true rfl, Nat.le_of_ble_eq_true rfl⟩ hl.1 (Nat.le_of_ble_eq_true rfl) dX6_strike_18 (fun r3 H locs x4 M nr3 h => ?_)
    refine z_if_eq (tgt := 30) hx hb dX6_strike_21 (by decide) h (fun h => ?_) (fun h => ?_)
    · refine lv_aload_n hx hb dX6_strike_30 rfl (lv_at hl 0 rfl) ?_
      refine gf_X6_19 C M dX6_strike_31 ?_
      refine gf_X6_121 C M dX6_strike_34 ?_
      refine lv_iload_n hx hb dX6_strike_37 rfl (lv_at hl 1 rfl) ?_
      refine al_x_19 C M dX6_strike_38 h (fun v5 h => ?_)
      refine z_if_eq (tgt := 48) hx hb dX6_strike_39 (by decide) h (fun h => ?_) (fun h => ?_)
      · refine lv_aload_n hx hb dX6_strike_48 rfl (lv_at hl 0 rfl) ?_
        refine gf_X6_19 C M dX6_strike_49 ?_
        refine gf_X6_121 C M dX6_strike_52 ?_
        refine lv_iload_n hx hb dX6_strike_55 rfl (lv_at hl 1 rfl) ?_
        refine lv_iconst (v := oI 1) hx hb dX6_strike_56 (by decide) ?_
        refine as_x_19 C M dX6_strike_57 h (fun H locs x6 M h => ?_)
        refine lv_aload_n hx hb dX6_strike_58 rfl (lv_at hl 0 rfl) ?_
        refine gf_X6_26 C M dX6_strike_59 ?_
        refine lv_iconst (v := oI 1) hx hb dX6_strike_62 (by decide) ?_
        refine lv_iload_n hx hb dX6_strike_63 rfl (lv_at hl 1 rfl) ?_
        refine lv_iconst (v := oI 0) hx hb dX6_strike_64 (by decide) ?_
        refine lv_iconst (v := oI 0) hx hb dX6_strike_65 (by decide) ?_
        refine ci_X6_115 C M h ⟨Nat.le_of_ble_eq_true rfl, Nat.le_of_ble_eq_true rfl⟩ hl.1 (Nat.le_of_ble_eq_true rfl) dX6_strike_66 (fun H locs x8 M h => ?_)
        refine lv_aload_n hx hb dX6_strike_69 rfl (lv_at hl 0 rfl) ?_
        refine ci_X6_91 C M h ⟨Nat.le_of_ble_eq_true rfl, Nat.le_of_ble_eq_true rfl⟩ hl.1 (Nat.le_of_ble_eq_true rfl) dX6_strike_70 (fun r9 H locs x10 M nr9 h => ?_)
        exact xretI C hr M h nr9 dX6_strike_73
      · refine lv_aload_n hx hb dX6_strike_42 rfl (lv_at hl 0 rfl) ?_
        refine lv_iconst (v := oI 4) hx hb dX6_strike_43 (by decide) ?_
        refine ci_X6_84 C M h ⟨Nat.le_of_ble_eq_true rfl, Nat.le_of_ble_eq_true rfl⟩ hl.1 (Nat.le_of_ble_eq_true rfl) dX6_strike_44 (fun r11 H locs x12 M nr11 h => ?_)
        exact xretI C hr M h nr11 dX6_strike_47
    · refine lv_aload_n hx hb dX6_strike_24 rfl (lv_at hl 0 rfl) ?_
      refine lv_iconst (v := oI 3) hx hb dX6_strike_25 (by decide) ?_
      refine ci_X6_84 C M h ⟨Nat.le_of_ble_eq_true rfl, Nat.le_of_ble_eq_true rfl⟩ hl.1 (Nat.le_of_ble_eq_true rfl) dX6_strike_26 (fun r13 H locs x14 M nr13 h => ?_)
      exact xretI C hr M h nr13 dX6_strike_29
  · refine lv_aload_n hx hb dX6_strike_8 rfl (lv_at hl 0 rfl) ?_
    refine lv_iconst (v := oI 1) hx hb dX6_strike_9 (by decide) ?_
    refine ci_X6_84 C M h ⟨Nat.le_of_ble_eq_true rfl, Nat.le_of_ble_eq_true rfl⟩ hl.1 (Nat.le_of_ble_eq_true rfl) dX6_strike_10 (fun r15 H locs x16 M nr15 h => ?_)
    exact xretI C hr M h nr15 dX6_strike_13
