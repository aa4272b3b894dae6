theorem ci_X5_74 {cc : ByteArray} {nL : Nat} {D : va_G} {T : ClassId × ClassId} {a : Nat → Nat} {A : Nat → Prop} {p : Program} {l : Launch} {e : Env} {R : Room} {s : State} {m : MethodId} {args : Array Value} {below : List Frame} {meth : Method} {c : Code} {H : Heap} {locs : List Loc} {Q : State → Prop} {x : XS} {z : Int × XS} {pc : Nat} {ls : Array Slot} {rest : List Value} (C : xcx RX5 cc nL D T (xW T a) A p s m args meth c) (M : xmm D (xW T a) A s H locs x) {p1 : Int} {K : Int → XS → XR} (h : x_call (f_X5_replay x p1) K = some z) (hR : 1 + 1 ≤ R.frames ∧ 8 + (3 + 11) + 22 ≤ R.locals) (hsz : ls.size = nL) (hrest : (rest.map fun v => v.category).sum ≤ 8) (hdg : decode cc pc = .ok (.invokevirtual 74, 3)) (kk : ∀ (H1 : Heap) (locs1 : List Loc) (x1 : XS), xmm D (xW T a) A s H1 locs1 x1 → K 0 x1 = some z → W p l e R s m args below meth c H1 locs1 0 0 Q (F0 m (pc + 3) ls rest)) : W p l e R s m args below meth c H locs 0 0 Q (F0 m pc ls (.int (oI p1) :: .ref (a 4) :: rest)) :=
  xcallV_V (As := [.int (oI p1)]) (n := 1) C M (fun zc sz ho => c_X5_replay ho sz) bw_478 bw_475 bw_477 bw_18 bw_88 rfl (by decide +kernel) 4 rfl rfl ⟨rfl, rfl⟩ hR hsz rfl hrest hdg h kk
theorem ci_X5_78 {cc : ByteArray} {nL : Nat} {D : va_G} {T : ClassId × ClassId} {a : Nat → Nat} {A : Nat → Prop} {p : Program} {l : Launch} {e : Env} {R : Room} {s : State} {m : MethodId} {args : Array Value} {below : List Frame} {meth : Method} {c : Code} {H : Heap} {locs : List Loc} {Q : State → Prop} {x : XS} {z : Int × XS} {pc : Nat} {ls : Array Slot} {rest : List Value} (C : xcx RX5 cc nL D T (xW T a) A p s m args meth c) (M : xmm D (xW T a) A s H locs x) {K : Int → XS → XR} (h : x_call (f_X5_timeRuns x) K = some z) (hR : 3 + 1 ≤ R.frames ∧ 8 + (3 + 11) + 69 ≤ R.locals) (hsz : ls.size = nL) (hrest : (rest.map fun v => v.category).sum ≤ 8) (hdg : decode cc pc = .ok (.invokevirtual 78, 3)) (kk : ∀ (H1 : Heap) (locs1 : List Loc) (x1 : XS), xmm D (xW T a) A s H1 locs1 x1 → K 0 x1 = some z → W p l e R s m args below meth c H1 locs1 0 0 Q (F0 m (pc + 3) ls rest)) : W p l e R s m args below meth c H locs 0 0 Q (F0 m pc ls (.ref (a 4) :: rest)) :=
  xcallV_V (As := []) (n := 0) C M (fun zc sz ho => c_X5_timeRuns ho sz) bw_486 bw_483 bw_485 bw_20 bw_88 rfl (by decide +kernel) 4 rfl rfl ⟨rfl, rfl⟩ hR hsz rfl hrest hdg h kk
theorem ci_X5_81 {cc : ByteArray} {nL : Nat} {D : va_G} {T : ClassId × ClassId} {a : Nat → Nat} {A : Nat → Prop} {p : Program} {l : Launch} {e : Env} {R : Room} {s : State} {m : MethodId} {args : Array Value} {below : List Frame} {meth : Method} {c : Code} {H : Heap} {locs : List Loc} {Q : State → Prop} {x : XS} {z : Int × XS} {pc : Nat} {ls : Array Slot} {rest : List Value} (C : xcx RX5 cc nL D T (xW T a) A p s m args meth c) (M : xmm D (xW T a) A s H locs x) {K : Int → XS → XR} (h : x_call (f_X5_orderRuns x) K = some z) (hR : 2 + 1 ≤ R.frames ∧ 8 + (3 + 11) + 55 ≤ R.locals) (hsz : ls.size = nL) (hrest : (rest.map fun v => v.category).sum ≤ 8) (hdg : decode cc pc = .ok (.invokevirtual 81, 3)) (kk : ∀ (H1 : Heap) (locs1 : List Loc) (x1 : XS), xmm D (xW T a) A s H1 locs1 x1 → K 0 x1 = some z → W p l e R s m args below meth c H1 locs1 0 0 Q (F0 m (pc + 3) ls rest)) : W p l e R s m args below meth c H locs 0 0 Q (F0 m pc ls (.ref (a 4) :: rest)) :=
  xcallV_V (As := []) (n := 0) C M (fun zc sz ho => c_X5_orderRuns ho sz) bw_506 bw_503 bw_505 bw_25 bw_88 rfl (by decide +kernel) 4 rfl rfl ⟨rfl, rfl⟩ hR hsz rfl hrest hdg h kk
set_option maxHeartbeats 4000000 in
set_option maxRecDepth 100000 in
theorem c_X5_show {l : Launch} {D : va_G} {T : ClassId × ClassId} {a : Nat → Nat} {x : XS} {p1 : Int} {z : Int × XS} (h : f_X5_show x p1 = some z) (sz : Nat) : xMetV l yX5_show cX5_show 2 { frames := 4, cells := 0, slots := 0, locals := 91 } D T (xW T a) sz [.ref (a 4), .int (oI p1)] x z := by
  refine xMetV_of (by decide) (Nat.le_of_ble_eq_true rfl) (xW_ad T a) ?_
  intro p e s m args below meth c A ls C hr M hl
  have hx := C.1
  have hb := C.2.1
  have hl : lv_has ls 2 [(0, .ref (a 4)), (1, .int (oI p1))] := hl
  have C : xcx RX5 cX5_show 2 D T (xW T a) A p s m args meth c := C
  revert hl M
  generalize ([] : List Loc) = locs
  generalize s.heap = H
  intro M hl
  unfold f_X5_show at h
  refine lv_aload_n hx hb dX5_show_0 rfl (lv_at hl 0 rfl) ?_
  refine gf_X5_63 C M dX5_show_1 ?_
  refine lv_iload_n hx hb dX5_show_4 rfl (lv_at hl 1 rfl) ?_
  refine z_icmp_eq (tgt := 26) hx hb dX5_show_5 (by decide) h (fun h => ?_) (fun h => ?_)
  · exact xretV C hr M h dX5_show_26
  · refine lv_aload_n hx hb dX5_show_8 rfl (lv_at hl 0 rfl) ?_
    refine lv_iload_n hx hb dX5_show_9 rfl (lv_at hl 1 rfl) ?_
    refine ci_X5_74 C M h ⟨Nat.le_of_ble_eq_true rfl, Nat.le_of_ble_eq_true rfl⟩ hl.1 (Nat.le_of_ble_eq_true rfl) dX5_show_10 (fun H locs x2 M h => ?_)
    refine lv_aload_n hx hb dX5_show_13 rfl (lv_at hl 0 rfl) ?_
    refine ci_X5_78 C M h ⟨Nat.le_of_ble_eq_true rfl, Nat.le_of_ble_eq_true rfl⟩ hl.1 (Nat.le_of_ble_eq_true rfl) dX5_show_14 (fun H locs x4 M h => ?_)
    refine lv_aload_n hx hb dX5_show_17 rfl (lv_at hl 0 rfl) ?_
    refine ci_X5_81 C M h ⟨Nat.le_of_ble_eq_true rfl, Nat.le_of_ble_eq_true rfl⟩ hl.1 (Nat.le_of_ble_eq_true rfl) dX5_show_18 (fun H locs x6 M h => ?_)
    refine lv_aload_n hx hb dX5_show_21 rfl (lv_at hl 0 rfl) ?_
    refine lv_iload_n hx hb dX5_show_22 rfl (lv_at hl 1 rfl) ?_
    refine pf_X5_63 C M dX5_show_23 h (fun H locs x7 M h => ?_)
    exact xretV C hr M h dX5_show_26
set_option maxHeartbeats 4000000 in
set_option maxRecDepth 100000 in
theorem c_X5_tell {l : Launch} {D : va_G} {T : ClassId × ClassId} {a : Nat → Nat} {x : XS} {p1 : Int} {p2 : Int} {z : Int × XS} (h : f_X5_tell x p1 p2 = some z) (sz : Nat) : xMetI l yX5_tell cX5_tell 3 .int { frames := 0, cells := 0, slots := 0, locals := 0 } D T (xW T a) sz [.ref (a 4), .int (oI p1), .int (oI p2)] x z := by
  refine xMetI_of (by decide) (Nat.le_of_ble_eq_true rfl) (xW_ad T a) ?_
  intro p e s m args below meth c A ls C hr M hl
  have hx := C.1
  have hb := C.2.1
  have hl : lv_has ls 3 [(0, .ref (a 4)), (1, .int (oI p1)), (2, .int (oI p2))] := hl
  have C : xcx RX5 cX5_tell 3 D T (xW T a) A p s m args meth c := C
  revert hl M
  generalize ([] : List Loc) = locs
  generalize s.heap = H
  intro M hl
  unfold f_X5_tell at h
  refine lv_iload_n hx hb dX5_tell_0 rfl (lv_at hl 2 rfl) ?_
  refine z_if_ne (tgt := 11) hx hb dX5_tell_1 (by decide) h (fun h => ?_) (fun h => ?_)
  · refine lv_iload_n hx hb dX5_tell_11 rfl (lv_at hl 2 rfl) ?_
    refine lv_iconst (v := oI 1) hx hb dX5_tell_12 (by decide) ?_
    refine z_icmp_ne (tgt := 23) hx hb dX5_tell_13 (by decide) h (fun h => ?_) (fun h => ?_)
    · refine lv_aload_n hx hb dX5_tell_23 rfl (lv_at hl 0 rfl) ?_
      refine gf_X5_38 C M dX5_tell_24 ?_
      refine lv_iload_n hx hb dX5_tell_27 rfl (lv_at hl 1 rfl) ?_
      refine al_x_30 C M dX5_tell_28 h (fun v1 h => ?_)
      refine z_if_eq (tgt := 36) hx hb dX5_tell_29 (by decide) h (fun h => ?_) (fun h => ?_)
      · refine lv_iconst (v := oI 0) hx hb dX5_tell_36 (by decide) ?_
        exact xretI C hr M h rfl dX5_tell_37
      · refine lv_iconst (v := oI 1) hx hb dX5_tell_32 (by decide) ?_
        refine lv_goto (tgt := 37) hx hb dX5_tell_33 (by decide) ?_
        exact xretI C hr M h rfl dX5_tell_37
    · refine lv_aload_n hx hb dX5_tell_16 rfl (lv_at hl 0 rfl) ?_
      refine gf_X5_35 C M dX5_tell_17 ?_
      refine lv_iload_n hx hb dX5_tell_20 rfl (lv_at hl 1 rfl) ?_
      refine al_x_29 C M dX5_tell_21 h (fun v2 h => ?_)
      exact xretI C hr M h rfl dX5_tell_22
  · refine lv_aload_n hx hb dX5_tell_4 rfl (lv_at hl 0 rfl) ?_
    refine gf_X5_32 C M dX5_tell_5 ?_
    refine lv_iload_n hx hb dX5_tell_8 rfl (lv_at hl 1 rfl) ?_
    refine al_x_28 C M dX5_tell_9 h (fun v3 h => ?_)
    exact xretI C hr M h rfl dX5_tell_10
theorem ci_X6_154 {cc : ByteArray} {nL : Nat} {D : va_G} {T : ClassId × ClassId} {a : Nat → Nat} {A : Nat → Prop} {p : Program} {l : Launch} {e : Env} {R : Room} {s : State} {m : MethodId} {args : Array Value} {below : List Frame} {meth : Method} {c : Code} {H : Heap} {locs : List Loc} {Q : State → Prop} {x : XS} {z : Int × XS} {pc : Nat} {ls : Array Slot} {rest : List Value} (C : xcx RX6 cc nL D T (xW T a) A p s m args meth c) (M : xmm D (xW T a) A s H locs x) {p1 : Int} {K : Int → XS → XR} (h : x_call (f_X6_isChange x p1) K = some z) (hR : 1 + 1 ≤ R.frames ∧ 8 + (2 + 11) + 22 ≤ R.locals) (hsz : ls.size = nL) (hrest : (rest.map fun v => v.category).sum ≤ 8) (hdg : decode cc pc = .ok (.invokevirtual 154, 3)) (kk : ∀ (r : Int) (H1 : Heap) (locs1 : List Loc) (x1 : XS), xmm D (xW T a) A s H1 locs1 x1 → narrow .boolean (.int (oI r)) = .int (oI r) → K r x1 = some z → W p l e R s m args below meth c H1 locs1 0 0 Q (F0 m (pc + 3) ls (.int (oI r) :: rest))) : W p l e R s m args below meth c H locs 0 0 Q (F0 m pc ls (.int (oI p1) :: .ref (a 0) :: rest)) :=
  xcallI_V (As := [.int (oI p1)]) (n := 1) C M (fun zc sz ho => c_X6_isChange ho sz) bw_470 bw_467 bw_469 bw_16 bw_84 rfl (by decide +kernel) 0 rfl rfl ⟨rfl, rfl⟩ hR hsz rfl hrest hdg h kk
theorem ci_X6_157 {cc : ByteArray} {nL : Nat} {D : va_G} {T : ClassId × ClassId} {a : Nat → Nat} {A : Nat → Prop} {p : Program} {l : Launch} {e : Env} {R : Room} {s : State} {m : MethodId} {args : Array Value} {below : List Frame} {meth : Method} {c : Code} {H : Heap} {locs : List Loc} {Q : State → Prop} {x : XS} {z : Int × XS} {pc : Nat} {ls : Array Slot} {rest : List Value} (C : xcx RX6 cc nL D T (xW T a) A p s m args meth c) (M : xmm D (xW T a) A s H locs x) {p1 : Int} {K : Int → XS → XR} (h : x_call (f_X5_show x p1) K = some z) (hR : 4 + 1 ≤ R.frames ∧ 8 + (2 + 11) + 91 ≤ R.locals) (hsz : ls.size = nL) (hrest : (rest.map fun v => v.category).sum ≤ 8) (hdg : decode cc pc = .ok (.invokevirtual 157, 3)) (kk : ∀ (H1 : Heap) (locs1 : List Loc) (x1 : XS), xmm D (xW T a) A s H1 locs1 x1 → K 0 x1 = some z → W p l e R s m args below meth c H1 locs1 0 0 Q (F0 m (pc + 3) ls rest)) : W p l e R s m args below meth c H locs 0 0 Q (F0 m pc ls (.int (oI p1) :: .ref (a 4) :: rest)) :=
  xcallV_N (As := [.int (oI p1)]) (n := 1) C M (fun zc sz ho => c_X5_show ho sz) bw_474 bw_471 bw_473 bw_17 bw_88 rfl (by decide +kernel) 4 rfl rfl ⟨rfl, rfl⟩ hR hsz rfl hrest hdg h kk
theorem ci_X6_164 {cc : ByteArray} {nL : Nat} {D : va_G} {T : ClassId × ClassId} {a : Nat → Nat} {A : Nat → Prop} {p : Program} {l : Launch} {e : Env} {R : Room} {s : State} {m : MethodId} {args : Array Value} {below : List Frame} {meth : Method} {c : Code} {H : Heap} {locs : List Loc} {Q : State → Prop} {x : XS} {z : Int × XS} {pc : Nat} {ls : Array Slot} {rest : List Value} (C : xcx RX6 cc nL D T (xW T a) A p s m args meth c) (M : xmm D (xW T a) A s H locs x) {p1 p2 : Int} {K : Int → XS → XR} (h : x_call (f_X5_tell x p1 p2) K = some z) (hR : 0 + 1 ≤ R.frames ∧ 8 + (3 + 11) + 0 ≤ R.locals) (hsz : ls.size = nL) (hrest : (rest.map fun v => v.category).sum ≤ 8) (hdg : decode cc pc = .ok (.invokevirtual 164, 3)) (kk : ∀ (r : Int) (H1 : Heap) (locs1 : List Loc) (x1 : XS), xmm D (xW T a) A s H1 locs1 x1 → narrow .int (.int (oI r)) = .int (oI r) → K r x1 = some z → W p l e R s m args below meth c H1 locs1 0 0 Q (F0 m (pc + 3) ls (.int (oI r) :: rest))) : W p l e R s m args below meth c H locs 0 0 Q (F0 m pc ls (.int (oI p2) :: .int (oI p1) :: .ref (a 4) :: rest)) :=
  xcallI_N (As := [.int (oI p1), .int (oI p2)]) (n := 2) C M (fun zc sz ho => c_X5_tell ho sz) bw_525 bw_522 bw_524 bw_29 bw_88 rfl (by decide +kernel) 4 rfl rfl ⟨rfl, rfl⟩ hR hsz rfl hrest hdg h kk
set_option maxHeartbeats 4000000 in
set_option maxRecDepth 100000 in
theorem c_X6_run {l : Launch} {D : va_G} {T : ClassId × ClassId} {a : Nat → Nat} {x : XS} {p1 : Int} {p2 : Int} {p3 : Int} {p4 : Int} {z : Int × XS} (h : f_X6_run x p1 p2 p3 p4 = some z) (sz : Nat) : xMetI l yX6_run cX6_run 5 .int { frames := 5, cells := 0, slots := 0, locals := 112 } D T (xW T a) sz [.ref (a 0), .int (oI p1), .int (oI p2), .int (oI p3), .int (oI p4)] x z := by
  refine xMetI_of (by decide) (Nat.le_of_ble_eq_true rfl) (xW_ad T a) ?_
  intro p e s m args below meth c A ls C hr M hl
  have hx := C.1
  have hb := C.2.1
  have hl : lv_has ls 5 [(0, .ref (a 0)), (1, .int (oI p1)), (2, .int (oI p2)), (3, .int (oI p3)), (4, .int (oI p4))] := hl
  have C : xcx RX6 cX6_run 5 D T (xW T a) A p s m args meth c := C
  revert hl M
  generalize ([] : List Loc) = locs
  generalize s.heap = H
  intro M hl
  unfold f_X6_run at h
  refine lv_aload_n hx hb dX6_run_0 rfl (lv_at hl 0 rfl) ?_
  refine lv_iload_n hx hb dX6_run_1 rfl (lv_at hl 3 rfl) ?_
  refine ci_X6_154 C M h ⟨Nat.le_of_ble_eq_true rfl, Nat.le_of_ble_eq_true rfl⟩ hl.1 (Nat.le_of_ble_eq_true rfl) dX6_run_2 (fun r1 H locs x2 M nr1 h => ?_)
  refine z_if_ne (tgt := 15) hx hb dX6_run_5 (by decide) h (fun h => ?_) (fun h => ?_)
  · refine lv_aload_n hx hb dX6_run_15 rfl (lv_at hl 0 rfl) ?_
    refine gf_X6_35 C M dX6_run_16 ?_
    refine lv_iload_n hx hb dX6_run_19 rfl (lv_at hl 3 rfl) ?_
    refine ci_X6_157 C M h ⟨Nat.le_of_ble_eq_true rfl, Nat.le_of_ble_eq_true rfl⟩ hl.1 (Nat.le_of_ble_eq_true rfl) dX6_run_20 (fun H locs x4 M h => ?_)
    refine lv_iload_n hx hb dX6_run_23 rfl (lv_at hl 1 rfl) ?_
    refine lv_iconst (v := oI 0) hx hb dX6_run_24 (by decide) ?_
    refine lv_aload_n hx hb dX6_run_25 rfl (lv_at hl 0 rfl) ?_
    refine gf_X6_35 C M dX6_run_26 ?_
    refine gf_X6_161 C M dX6_run_29 ?_
    refine lv_iconst (v := oI 1) hx hb dX6_run_32 (by decide) ?_
    refine z_isub hx hb dX6_run_33 ?_
    refine ci_X6_98 C M h ⟨Nat.le_of_ble_eq_true rfl, Nat.le_of_ble_eq_true rfl⟩ hl.1 (Nat.le_of_ble_eq_true rfl) dX6_run_34 (fun r5 H locs x6 M nr5 h => ?_)
    refine x_jp_el h (fun jp7 ejp7 h => ?_)
    have hjp7 : ∀ (x8 : XS) (H : Heap) (locs : List Loc) (ls : Array Slot), jp7 x8 = some z → xmm D (xW T a) A s H locs x8 → lv_has ls 5 [(0, .ref (a 0))] → W p l e { frames := 5, cells := 0, slots := 0, locals := 112 } s m args below meth c H locs 0 0 (xQI below args s D (xW T a) .int z A) (F0 m 59 ls []) := by
      intro x8 H locs ls h M hl
      rw [ejp7] at h
      dsimp only at h
      refine lv_aload_n hx hb dX6_run_59 rfl (lv_at hl 0 rfl) ?_
      refine lv_iconst (v := oI 1) hx hb dX6_run_60 (by decide) ?_
      refine ci_X6_66 C M h ⟨Nat.le_of_ble_eq_true rfl, Nat.le_of_ble_eq_true rfl⟩ hl.1 (Nat.le_of_ble_eq_true rfl) dX6_run_61 (fun r9 H locs x10 M nr9 h => ?_)
      exact xretI C hr M h rfl dX6_run_64
    refine z_if_eq (tgt := 59) hx hb dX6_run_37 (by decide) h (fun h => ?_) (fun h => ?_)
    · exact hjp7 x6 H locs ls h M (lv_sub hl [0] rfl)
    · refine lv_iload_n hx hb dX6_run_40 rfl (lv_at hl 2 rfl) ?_
      refine lv_iconst (v := oI 0) hx hb dX6_run_41 (by decide) ?_
      refine lv_aload_n hx hb dX6_run_42 rfl (lv_at hl 0 rfl) ?_
      refine gf_X6_19 C M dX6_run_43 ?_
      refine gf_X6_125 C M dX6_run_46 ?_
      refine lv_iload_n hx hb dX6_run_49 rfl (lv_at hl 1 rfl) ?_
      refine al_x_16 C M dX6_run_50 h (fun v11 h => ?_)
      refine lv_iconst (v := oI 1) hx hb dX6_run_51 (by decide) ?_
      refine z_isub hx hb dX6_run_52 ?_
      refine ci_X6_98 C M h ⟨Nat.le_of_ble_eq_true rfl, Nat.le_of_ble_eq_true rfl⟩ hl.1 (Nat.le_of_ble_eq_true rfl) dX6_run_53 (fun r12 H locs x13 M nr12 h => ?_)
      refine z_if_ne (tgt := 65) hx hb dX6_run_56 (by decide) h (fun h => ?_) (fun h => ?_)
      · refine lv_iload hx hb dX6_run_65 (lv_at hl 4 rfl) ?_
        refine lv_iconst (v := oI 0) hx hb dX6_run_67 (by decide) ?_
        refine lv_iconst (v := oI 2) hx hb dX6_run_68 (by decide) ?_
        refine ci_X6_98 C M h ⟨Nat.le_of_ble_eq_true rfl, Nat.le_of_ble_eq_true rfl⟩ hl.1 (Nat.le_of_ble_eq_true rfl) dX6_run_69 (fun r14 H locs x15 M nr14 h => ?_)
        refine z_if_ne (tgt := 81) hx hb dX6_run_72 (by decide) h (fun h => ?_) (fun h => ?_)
        · refine lv_aload_n hx hb dX6_run_81 rfl (lv_at hl 0 rfl) ?_
          refine lv_aload_n hx hb dX6_run_82 rfl (lv_at hl 0 rfl) ?_
          refine gf_X6_35 C M dX6_run_83 ?_
          refine lv_aload_n hx hb dX6_run_86 rfl (lv_at hl 0 rfl) ?_
          refine gf_X6_19 C M dX6_run_87 ?_
          refine gf_X6_128 C M dX6_run_90 ?_
          refine lv_iload_n hx hb dX6_run_93 rfl (lv_at hl 1 rfl) ?_
          refine al_x_18 C M dX6_run_94 h (fun v16 h => ?_)
          refine lv_iload_n hx hb dX6_run_95 rfl (lv_at hl 2 rfl) ?_
          refine z_iadd hx hb dX6_run_96 ?_
          refine lv_iload hx hb dX6_run_97 (lv_at hl 4 rfl) ?_
          refine ci_X6_164 C M h ⟨Nat.le_of_ble_eq_true rfl, Nat.le_of_ble_eq_true rfl⟩ hl.1 (Nat.le_of_ble_eq_true rfl) dX6_run_99 (fun r17 H locs x18 M nr17 h => ?_)
          refine ci_X6_77 C M h ⟨Nat.le_of_ble_eq_true rfl, Nat.le_of_ble_eq_true rfl⟩ hl.1 (Nat.le_of_ble_eq_true rfl) dX6_run_102 (fun r19 H locs x20 M nr19 h => ?_)
          exact xretI C hr M h rfl dX6_run_105
        · refine lv_aload_n hx hb dX6_run_75 rfl (lv_at hl 0 rfl) ?_
          refine lv_iconst (v := oI 2) hx hb dX6_run_76 (by decide) ?_
          refine ci_X6_66 C M h ⟨Nat.le_of_ble_eq_true rfl, Nat.le_of_ble_eq_true rfl⟩ hl.1 (Nat.le_of_ble_eq_true rfl) dX6_run_77 (fun r21 H locs x22 M nr21 h => ?_)
          exact xretI C hr M h rfl dX6_run_80
      · exact hjp7 x13 H locs ls h M (lv_sub hl [0] rfl)
  · refine lv_aload_n hx hb dX6_run_8 rfl (lv_at hl 0 rfl) ?_
    refine lv_bipush (v := oI 6) hx hb dX6_run_9 (by decide) ?_
    refine ci_X6_66 C M h ⟨Nat.le_of_ble_eq_true rfl, Nat.le_of_ble_eq_true rfl⟩ hl.1 (Nat.le_of_ble_eq_true rfl) dX6_run_11 (fun r23 H locs x24 M nr23 h => ?_)
    exact xretI C hr M h rfl dX6_run_14
set_option maxHeartbeats 4000000 in
set_option maxRecDepth 100000 in
theorem c_X6_reachFault {l : Launch} {D : va_G} {T : ClassId × ClassId} {a : Nat → Nat} {x : XS} {p1 : Int} {p2 : Int} {p3 : Int} {p4 : Int} {p5 : Int} {z : Int × XS} (h : f_X6_reachFault x p1 p2 p3 p4 p5 = some z) (sz : Nat) : xMetI l yX6_reachFault cX6_reachFault 6 .int { frames := 2, cells := 0, slots := 0, locals := 43 } D T (xW T a) sz [.ref (a 0), .int (oI p1), .int (oI p2), .int (oI p3), .int (oI p4), .int (oI p5)] x z := by
  refine xMetI_of (by decide) (Nat.le_of_ble_eq_true rfl) (xW_ad T a) ?_
  intro p e s m args below meth c A ls C hr M hl
  have hx := C.1
  have hb := C.2.1
  have hl : lv_has ls 6 [(0, .ref (a 0)), (1, .int (oI p1)), (2, .int (oI p2)), (3, .int (oI p3)), (4, .int (oI p4)), (5, .int (oI p5))] := hl
  have C : xcx RX6 cX6_reachFault 6 D T (xW T a) A p s m args meth c := C
  revert hl M
  generalize ([] : List Loc) = locs
  generalize s.heap = H
  intro M hl
  unfold f_X6_reachFault at h
  refine lv_aload_n hx hb dX6_reachFault_0 rfl (lv_at hl 0 rfl) ?_
  refine lv_iload_n hx hb dX6_reachFault_1 rfl (lv_at hl 1 rfl) ?_
  refine ci_X6_80 C M h ⟨Nat.le_of_ble_eq_true rfl, Nat.le_of_ble_eq_true rfl⟩ hl.1 (Nat.le_of_ble_eq_true rfl) dX6_reachFault_2 (fun r1 H locs x2 M nr1 h => ?_)
  refine z_if_eq (tgt := 16) hx hb dX6_reachFault_5 (by decide) h (fun h => ?_) (fun h => ?_)
  · refine lv_iconst (v := oI 1) hx hb dX6_reachFault_16 (by decide) ?_
    exact xretI C hr M h rfl dX6_reachFault_17
  · refine lv_aload_n hx hb dX6_reachFault_8 rfl (lv_at hl 0 rfl) ?_
    refine lv_iload_n hx hb dX6_reachFault_9 rfl (lv_at hl 2 rfl) ?_
    refine ci_X6_80 C M h ⟨Nat.le_of_ble_eq_true rfl, Nat.le_of_ble_eq_true rfl⟩ hl.1 (Nat.le_of_ble_eq_true rfl) dX6_reachFault_10 (fun r3 H locs x4 M nr3 h => ?_)
    refine z_if_ne (tgt := 18) hx hb dX6_reachFault_13 (by decide) h (fun h => ?_) (fun h => ?_)
    · refine lv_iload_n hx hb dX6_reachFault_18 rfl (lv_at hl 3 rfl) ?_
      refine ci_X6_131 C M h ⟨Nat.le_of_ble_eq_true rfl, Nat.le_of_ble_eq_true rfl⟩ hl.1 (Nat.le_of_ble_eq_true rfl) dX6_reachFault_19 (fun r5 H locs x6 M nr5 h => ?_)
      refine z_if_eq (tgt := 33) hx hb dX6_reachFault_22 (by decide) h (fun h => ?_) (fun h => ?_)
      · refine lv_iconst (v := oI 2) hx hb dX6_reachFault_33 (by decide) ?_
        exact xretI C hr M h rfl dX6_reachFault_34
      · refine lv_iload hx hb dX6_reachFault_25 (lv_at hl 4 rfl) ?_
        refine ci_X6_131 C M h ⟨Nat.le_of_ble_eq_true rfl, Nat.le_of_ble_eq_true rfl⟩ hl.1 (Nat.le_of_ble_eq_true rfl) dX6_reachFault_27 (fun r7 H locs x8 M nr7 h => ?_)
        refine z_if_ne (tgt := 35) hx hb dX6_reachFault_30 (by decide) h (fun h => ?_) (fun h => ?_)
        · refine lv_aload_n hx hb dX6_reachFault_35 rfl (lv_at hl 0 rfl) ?_
          refine lv_iload hx hb dX6_reachFault_36 (lv_at hl 5 rfl) ?_
          refine ci_X6_154 C M h ⟨Nat.le_of_ble_eq_true rfl, Nat.le_of_ble_eq_true rfl⟩ hl.1 (Nat.le_of_ble_eq_true rfl) dX6_reachFault_38 (fun r9 H locs x10 M nr9 h => ?_)
          refine z_if_eq (tgt := 48) hx hb dX6_reachFault_41 (by decide) h (fun h => ?_) (fun h => ?_)
          · refine lv_bipush (v := oI 6) hx hb dX6_reachFault_48 (by decide) ?_
            exact xretI C hr M h rfl dX6_reachFault_50
          · refine lv_iconst (v := oI 0) hx hb dX6_reachFault_44 (by decide) ?_
            refine lv_goto (tgt := 50) hx hb dX6_reachFault_45 (by decide) ?_
            exact xretI C hr M h rfl dX6_reachFault_50
        · refine lv_iconst (v := oI 2) hx hb dX6_reachFault_33 (by decide) ?_
          exact xretI C hr M h rfl dX6_reachFault_34
    · refine lv_iconst (v := oI 1) hx hb dX6_reachFault_16 (by decide) ?_
      exact xretI C hr M h rfl dX6_reachFault_17
theorem ci_X6_201 {cc : ByteArray} {nL : Nat} {D : va_G} {T : ClassId × ClassId} {a : Nat → Nat} {A : Nat → Prop} {p : Program} {l : Launch} {e : Env} {R : Room} {s : State} {m : MethodId} {args : Array Value} {below : List Frame} {meth : Method} {c : Code} {H : Heap} {locs : List Loc} {Q : State → Prop} {x : XS} {z : Int × XS} {pc : Nat} {ls : Array Slot} {rest : List Value} (C : xcx RX6 cc nL D T (xW T a) A p s m args meth c) (M : xmm D (xW T a) A s H locs x) {p1 p2 p3 p4 p5 : Int} {K : Int → XS → XR} (h : x_call (f_X6_reachFault x p1 p2 p3 p4 p5) K = some z) (hR : 2 + 1 ≤ R.frames ∧ 8 + (6 + 11) + 43 ≤ R.locals) (hsz : ls.size = nL) (hrest : (rest.map fun v => v.category).sum ≤ 8) (hdg : decode cc pc = .ok (.invokevirtual 201, 3)) (kk : ∀ (r : Int) (H1 : Heap) (locs1 : List Loc) (x1 : XS), xmm D (xW T a) A s H1 locs1 x1 → narrow .int (.int (oI r)) = .int (oI r) → K r x1 = some z → W p l e R s m args below meth c H1 locs1 0 0 Q (F0 m (pc + 3) ls (.int (oI r) :: rest))) : W p l e R s m args below meth c H locs 0 0 Q (F0 m pc ls (.int (oI p5) :: .int (oI p4) :: .int (oI p3) :: .int (oI p2) :: .int (oI p1) :: .ref (a 0) :: rest)) :=
  xcallI_V (As := [.int (oI p1), .int (oI p2), .int (oI p3), .int (oI p4), .int (oI p5)]) (n := 5) C M (fun zc sz ho => c_X6_reachFault ho sz) bw_537 bw_534 bw_536 bw_31 bw_84 rfl (by decide +kernel) 0 rfl rfl ⟨rfl, rfl⟩ hR hsz rfl hrest hdg h kk
set_option maxHeartbeats 4000000 in
set_option maxRecDepth 100000 in
theorem c_X6_wayFault {l : Launch} {D : va_G} {T : ClassId × ClassId} {a : Nat → Nat} {x : XS} {p1 : Int} {p2 : Int} {p3 : Int} {p4 : Int} {p5 : Int} {z : Int × XS} (h : f_X6_wayFault x p1 p2 p3 p4 p5 = some z) (sz : Nat) : xMetI l yX6_wayFault cX6_wayFault 6 .int { frames := 3, cells := 0, slots := 0, locals := 68 } D T (xW T a) sz [.ref (a 0), .int (oI p1), .int (oI p2), .int (oI p3), .int (oI p4), .int (oI p5)] x z := by
  refine xMetI_of (by decide) (Nat.le_of_ble_eq_true rfl) (xW_ad T a) ?_
  intro p e s m args below meth c A ls C hr M hl
  have hx := C.1
  have hb := C.2.1
  have hl : lv_has ls 6 [(0, .ref (a 0)), (1, .int (oI p1)), (2, .int (oI p2)), (3, .int (oI p3)), (4, .int (oI p4)), (5, .int (oI p5))] := hl
  have C : xcx RX6 cX6_wayFault 6 D T (xW T a) A p s m args meth c := C
  revert hl M
  generalize ([] : List Loc) = locs
  generalize s.heap = H
  intro M hl
  unfold f_X6_wayFault at h
  refine lv_aload_n hx hb dX6_wayFault_0 rfl (lv_at hl 0 rfl) ?_
  refine lv_iload_n hx hb dX6_wayFault_1 rfl (lv_at hl 1 rfl) ?_
  refine lv_iload_n hx hb dX6_wayFault_2 rfl (lv_at hl 2 rfl) ?_
  refine ci_X6_95 C M h ⟨Nat.le_of_ble_eq_true rfl, Nat.le_of_ble_eq_true rfl⟩ hl.1 (Nat.le_of_ble_eq_true rfl) dX6_wayFault_3 (fun r1 H locs x2 M nr1 h => ?_)
  refine z_if_eq (tgt := 23) hx hb dX6_wayFault_6 (by decide) h (fun h => ?_) (fun h => ?_)
  · refine lv_iconst (v := oI 1) hx hb dX6_wayFault_23 (by decide) ?_
    exact xretI C hr M h rfl dX6_wayFault_24
  · refine lv_aload_n hx hb dX6_wayFault_9 rfl (lv_at hl 0 rfl) ?_
    refine lv_iload_n hx hb dX6_wayFault_10 rfl (lv_at hl 1 rfl) ?_
    refine lv_iload_n hx hb dX6_wayFault_11 rfl (lv_at hl 2 rfl) ?_
    refine lv_iload_n hx hb dX6_wayFault_12 rfl (lv_at hl 3 rfl) ?_
    refine lv_iload hx hb dX6_wayFault_13 (lv_at hl 4 rfl) ?_
    refine lv_iload hx hb dX6_wayFault_15 (lv_at hl 5 rfl) ?_
    refine ci_X6_201 C M h ⟨Nat.le_of_ble_eq_true rfl, Nat.le_of_ble_eq_true rfl⟩ hl.1 (Nat.le_of_ble_eq_true rfl) dX6_wayFault_17 (fun r3 H locs x4 M nr3 h => ?_)
    refine lv_goto (tgt := 24) hx hb dX6_wayFault_20 (by decide) ?_
    exact xretI C hr M h rfl dX6_wayFault_24
set_option maxHeartbeats 4000000 in
set_option maxRecDepth 100000 in
theorem c_X5_goalBegin {l : Launch} {D : va_G} {T : ClassId × ClassId} {a : Nat → Nat} {x : XS} {p1 : Int} {z : Int × XS} (h : f_X5_goalBegin x p1 = some z) (sz : Nat) : xMetI l yX5_goalBegin cX5_goalBegin 2 .int { frames := 0, cells := 0, slots := 0, locals := 0 } D T (xW T a) sz [.ref (a 4), .int (oI p1)] x z := by
  refine xMetI_of (by decide) (Nat.le_of_ble_eq_true rfl) (xW_ad T a) ?_
  intro p e s m args below meth c A ls C hr M hl
  have hx := C.1
  have hb := C.2.1
  have hl : lv_has ls 2 [(0, .ref (a 4)), (1, .int (oI p1))] := hl
  have C : xcx RX5 cX5_goalBegin 2 D T (xW T a) A p s m args meth c := C
  revert hl M
  generalize ([] : List Loc) = locs
  generalize s.heap = H
  intro M hl
  unfold f_X5_goalBegin at h
  refine lv_iload_n hx hb dX5_goalBegin_0 rfl (lv_at hl 1 rfl) ?_
  refine z_if_ne (tgt := 8) hx hb dX5_goalBegin_1 (by decide) h (fun h => ?_) (fun h => ?_)
  · refine lv_aload_n hx hb dX5_goalBegin_8 rfl (lv_at hl 0 rfl) ?_
    refine gf_X5_50 C M dX5_goalBegin_9 ?_
    refine lv_iload_n hx hb dX5_goalBegin_12 rfl (lv_at hl 1 rfl) ?_
    refine lv_iconst (v := oI 1) hx hb dX5_goalBegin_13 (by decide) ?_
    refine z_isub hx hb dX5_goalBegin_14 ?_
    refine al_x_34 C M dX5_goalBegin_15 h (fun v1 h => ?_)
    exact xretI C hr M h rfl dX5_goalBegin_16
  · refine lv_iconst (v := oI 0) hx hb dX5_goalBegin_4 (by decide) ?_
    refine lv_goto (tgt := 16) hx hb dX5_goalBegin_5 (by decide) ?_
    exact xretI C hr M h rfl dX5_goalBegin_16
theorem ci_X3_67 {cc : ByteArray} {nL : Nat} {D : va_G} {T : ClassId × ClassId} {a : Nat → Nat} {A : Nat → Prop} {p : Program} {l : Launch} {e : Env} {R : Room} {s : State} {m : MethodId} {args : Array Value} {below : List Frame} {meth : Method} {c : Code} {H : Heap} {locs : List Loc} {Q : State → Prop} {x : XS} {z : Int × XS} {pc : Nat} {ls : Array Slot} {rest : List Value} (C : xcx RX3 cc nL D T (xW T a) A p s m args meth c) (M : xmm D (xW T a) A s H locs x) {p1 : Int} {K : Int → XS → XR} (h : x_call (f_X5_goalBegin x p1) K = some z) (hR : 0 + 1 ≤ R.frames ∧ 8 + (2 + 11) + 0 ≤ R.locals) (hsz : ls.size = nL) (hrest : (rest.map fun v => v.category).sum ≤ 8) (hdg : decode cc pc = .ok (.invokevirtual 67, 3)) (kk : ∀ (r : Int) (H1 : Heap) (locs1 : List Loc) (x1 : XS), xmm D (xW T a) A s H1 locs1 x1 → narrow .int (.int (oI r)) = .int (oI r) → K r x1 = some z → W p l e R s m args below meth c H1 locs1 0 0 Q (F0 m (pc + 3) ls (.int (oI r) :: rest))) : W p l e R s m args below meth c H locs 0 0 Q (F0 m pc ls (.int (oI p1) :: .ref (a 4) :: rest)) :=
  xcallI_N (As := [.int (oI p1)]) (n := 1) C M (fun zc sz ho => c_X5_goalBegin ho sz) bw_553 bw_550 bw_552 bw_35 bw_88 rfl (by decide +kernel) 4 rfl rfl ⟨rfl, rfl⟩ hR hsz rfl hrest hdg h kk
set_option maxHeartbeats 4000000 in
set_option maxRecDepth 100000 in
theorem c_X3_emptyQueues {l : Launch} {D : va_G} {T : ClassId × ClassId} {a : Nat → Nat} {x : XS} {z : Int × XS} (h : f_X3_emptyQueues x = some z) (sz : Nat) : xMetV l yX3_emptyQueues cX3_emptyQueues 3 { frames := 1, cells := 0, slots := 0, locals := 21 } D T (xW T a) sz [.ref (a 5)] x z := by
  refine xMetV_of (by decide) (Nat.le_of_ble_eq_true rfl) (xW_ad T a) ?_
  intro p e s m args below meth c A ls C hr M hl
  have hx := C.1
  have hb := C.2.1
  have hl : lv_has ls 3 [(0, .ref (a 5))] := hl
  have C : xcx RX3 cX3_emptyQueues 3 D T (xW T a) A p s m args meth c := C
  revert hl M
  generalize ([] : List Loc) = locs
  generalize s.heap = H
  intro M hl
  unfold f_X3_emptyQueues at h
  refine lv_iconst (v := oI 0) hx hb dX3_emptyQueues_0 (by decide) ?_
  refine lv_istore_n (lv' := [(1, .int (oI 0)), (0, .ref (a 5))]) hx hb dX3_emptyQueues_1 rfl hl (by decide) rfl (fun ls hl => ?_)
  refine x_jp_el h (fun kx1 ekx1 h => ?_)
  have hkx1 : ∀ (x2 : XS) (H : Heap) (locs : List Loc) (ls : Array Slot), kx1 x2 = some z → xmm D (xW T a) A s H locs x2 → lv_has ls 3 [] → W p l e { frames := 1, cells := 0, slots := 0, locals := 21 } s m args below meth c H locs 0 0 (xQV below args s D (xW T a) z A) (F0 m 44 ls []) := by
    intro x2 H locs ls h M hl
    rw [ekx1] at h
    dsimp only at h
    exact xretV C hr M h dX3_emptyQueues_44
  refine x_loop1_ind (P := fun v3 x4 => ∀ (H : Heap) (locs : List Loc) (ls : Array Slot), xmm D (xW T a) A s H locs x4 → lv_has ls 3 [(0, .ref (a 5)), (1, .int (oI v3))] → W p l e { frames := 1, cells := 0, slots := 0, locals := 21 } s m args below meth c H locs 0 0 (xQV below args s D (xW T a) z A) (F0 m 2 ls [])) (fun g5 ig5 v3 x4 h => ?_) x_fuel 0 x h H locs ls M (lv_sub hl [1, 0] rfl)
  intro H locs ls M hl
  unfold b_X3_emptyQueues_2 at h
  refine lv_iload_n hx hb dX3_emptyQueues_2 rfl (lv_at hl 1 rfl) ?_
  refine lv_bipush (v := oI 24) hx hb dX3_emptyQueues_3 (by decide) ?_
  refine z_icmp_ge (tgt := 44) hx hb dX3_emptyQueues_5 (by decide) h (fun h => ?_) (fun h => ?_)
  · exact hkx1 x4 H locs ls h M (lv_sub hl [] rfl)
  · refine lv_aload_n hx hb dX3_emptyQueues_8 rfl (lv_at hl 0 rfl) ?_
    refine gf_X3_38 C M dX3_emptyQueues_9 ?_
    refine lv_iload_n hx hb dX3_emptyQueues_12 rfl (lv_at hl 1 rfl) ?_
    refine ci_X3_67 C M h ⟨Nat.le_of_ble_eq_true rfl, Nat.le_of_ble_eq_true rfl⟩ hl.1 (Nat.le_of_ble_eq_true rfl) dX3_emptyQueues_13 (fun r6 H locs x7 M nr6 h => ?_)
    refine lv_istore_n (lv' := [(2, .int (oI r6)), (0, .ref (a 5)), (1, .int (oI v3))]) hx hb dX3_emptyQueues_16 rfl hl (by decide) rfl (fun ls hl => ?_)
    refine lv_aload_n hx hb dX3_emptyQueues_17 rfl (lv_at hl 1 rfl) ?_
    refine gf_X3_18 C M dX3_emptyQueues_18 ?_
    refine lv_iload_n hx hb dX3_emptyQueues_21 rfl (lv_at hl 2 rfl) ?_
    refine lv_iload_n hx hb dX3_emptyQueues_22 rfl (lv_at hl 0 rfl) ?_
    refine as_x_37 C M dX3_emptyQueues_23 h (fun H locs x8 M h => ?_)
    refine lv_aload_n hx hb dX3_emptyQueues_24 rfl (lv_at hl 1 rfl) ?_
    refine gf_X3_21 C M dX3_emptyQueues_25 ?_
    refine lv_iload_n hx hb dX3_emptyQueues_28 rfl (lv_at hl 2 rfl) ?_
    refine lv_iload_n hx hb dX3_emptyQueues_29 rfl (lv_at hl 0 rfl) ?_
    refine as_x_38 C M dX3_emptyQueues_30 h (fun H locs x9 M h => ?_)
    refine lv_aload_n hx hb dX3_emptyQueues_31 rfl (lv_at hl 1 rfl) ?_
    refine gf_X3_24 C M dX3_emptyQueues_32 ?_
    refine lv_iload_n hx hb dX3_emptyQueues_35 rfl (lv_at hl 2 rfl) ?_
    refine lv_iload_n hx hb dX3_emptyQueues_36 rfl (lv_at hl 0 rfl) ?_
    refine as_x_39 C M dX3_emptyQueues_37 h (fun H locs x10 M h => ?_)
    refine x_nm h (fun v11 ev11 h => ?_)
    refine lv_iinc (v := oI v11) (lv' := [(1, .int (oI v11)), (2, .int (oI r6)), (0, .ref (a 5))]) hx hb dX3_emptyQueues_38 hl (k := 2) rfl (by rw [ev11]; exact oI_add _ _) (by decide) rfl (fun ls hl => ?_)
    refine lv_goto (tgt := 2) hx hb dX3_emptyQueues_41 (by decide) ?_
    exact ig5 v11 x10 h H locs ls M (lv_sub hl [2, 0] rfl)
set_option maxHeartbeats 4000000 in
set_option maxRecDepth 100000 in
theorem c_X5_startOf {l : Launch} {D : va_G} {T : ClassId × ClassId} {a : Nat → Nat} {x : XS} {p1 : Int} {z : Int × XS} (h : f_X5_startOf x p1 = some z) (sz : Nat) : xMetI l yX5_startOf cX5_startOf 2 .int { frames := 0, cells := 0, slots := 0, locals := 0 } D T (xW T a) sz [.ref (a 4), .int (oI p1)] x z := by
  refine xMetI_of (by decide) (Nat.le_of_ble_eq_true rfl) (xW_ad T a) ?_
  intro p e s m args below meth c A ls C hr M hl
  have hx := C.1
  have hb := C.2.1
  have hl : lv_has ls 2 [(0, .ref (a 4)), (1, .int (oI p1))] := hl
  have C : xcx RX5 cX5_startOf 2 D T (xW T a) A p s m args meth c := C
  revert hl M
  generalize ([] : List Loc) = locs
  generalize s.heap = H
  intro M hl
  unfold f_X5_startOf at h
  refine lv_aload_n hx hb dX5_startOf_0 rfl (lv_at hl 0 rfl) ?_
  refine gf_X5_66 C M dX5_startOf_1 ?_
  refine gf_X5_121 C M dX5_startOf_4 ?_
  refine lv_aload_n hx hb dX5_startOf_7 rfl (lv_at hl 0 rfl) ?_
  refine gf_X5_29 C M dX5_startOf_8 ?_
  refine lv_iload_n hx hb dX5_startOf_11 rfl (lv_at hl 1 rfl) ?_
  refine al_x_27 C M dX5_startOf_12 h (fun v1 h => ?_)
  refine al_x_11 C M dX5_startOf_13 h (fun v2 h => ?_)
  exact xretI C hr M h rfl dX5_startOf_14
set_option maxHeartbeats 4000000 in
set_option maxRecDepth 100000 in
theorem c_X2_latestComing {l : Launch} {D : va_G} {T : ClassId × ClassId} {a : Nat → Nat} {x : XS} {p1 : Int} {p2 : Int} {z : Int × XS} (h : f_X2_latestComing x p1 p2 = some z) (sz : Nat) : xMetI l yX2_latestComing cX2_latestComing 3 .int { frames := 0, cells := 0, slots := 0, locals := 0 } D T (xW T a) sz [.ref (a 1), .int (oI p1), .int (oI p2)] x z := by
  refine xMetI_of (by decide) (Nat.le_of_ble_eq_true rfl) (xW_ad T a) ?_
  intro p e s m args below meth c A ls C hr M hl
  have hx := C.1
  have hb := C.2.1
  have hl : lv_has ls 3 [(0, .ref (a 1)), (1, .int (oI p1)), (2, .int (oI p2))] := hl
  have C : xcx RX2 cX2_latestComing 3 D T (xW T a) A p s m args meth c := C
  revert hl M
  generalize ([] : List Loc) = locs
  generalize s.heap = H
  intro M hl
  unfold f_X2_latestComing at h
  refine lv_iload_n hx hb dX2_latestComing_0 rfl (lv_at hl 2 rfl) ?_
  refine lv_aload_n hx hb dX2_latestComing_1 rfl (lv_at hl 0 rfl) ?_
  refine gf_X2_9 C M dX2_latestComing_2 ?_
  refine lv_iload_n hx hb dX2_latestComing_5 rfl (lv_at hl 1 rfl) ?_
  refine al_x_9 C M dX2_latestComing_6 h (fun v1 h => ?_)
  refine z_isub hx hb dX2_latestComing_7 ?_
  exact xretI C hr M h rfl dX2_latestComing_8
set_option maxHeartbeats 4000000 in
set_option maxRecDepth 100000 in
theorem c_X3_isBetter {l : Launch} {D : va_G} {T : ClassId × ClassId} {a : Nat → Nat} {x : XS} {p1 : Int} {p2 : Int} {z : Int × XS} (h : f_X3_isBetter x p1 p2 = some z) (sz : Nat) : xMetI l yX3_isBetter cX3_isBetter 3 .boolean { frames := 0, cells := 0, slots := 0, locals := 0 } D T (xW T a) sz [.ref (a 5), .int (oI p1), .int (oI p2)] x z := by
  refine xMetI_of (by decide) (Nat.le_of_ble_eq_true rfl) (xW_ad T a) ?_
  intro p e s m args below meth c A ls C hr M hl
  have hx := C.1
  have hb := C.2.1
  have hl : lv_has ls 3 [(0, .ref (a 5)), (1, .int (oI p1)), (2, .int (oI p2))] := hl
  have C : xcx RX3 cX3_isBetter 3 D T (xW T a) A p s m args meth c := C
  revert hl M
  generalize ([] : List Loc) = locs
  generalize s.heap = H
  intro M hl
  unfold f_X3_isBetter at h
  refine lv_aload_n hx hb dX3_isBetter_0 rfl (lv_at hl 0 rfl) ?_
  refine gf_X3_30 C M dX3_isBetter_1 ?_
  refine z_if_eq (tgt := 20) hx hb dX3_isBetter_4 (by decide) h (fun h => ?_) (fun h => ?_)
  · refine lv_iload_n hx hb dX3_isBetter_20 rfl (lv_at hl 1 rfl) ?_
    refine lv_iload_n hx hb dX3_isBetter_21 rfl (lv_at hl 2 rfl) ?_
    refine z_icmp_le (tgt := 29) hx hb dX3_isBetter_22 (by decide) h (fun h => ?_) (fun h => ?_)
    · refine lv_iconst (v := oI 0) hx hb dX3_isBetter_29 (by decide) ?_
      exact xretI C hr M h nb_0 dX3_isBetter_30
    · refine lv_iconst (v := oI 1) hx hb dX3_isBetter_25 (by decide) ?_
      refine lv_goto (tgt := 30) hx hb dX3_isBetter_26 (by decide) ?_
      exact xretI C hr M h nb_1 dX3_isBetter_30
  · refine lv_iload_n hx hb dX3_isBetter_7 rfl (lv_at hl 1 rfl) ?_
    refine lv_iload_n hx hb dX3_isBetter_8 rfl (lv_at hl 2 rfl) ?_
    refine z_icmp_ge (tgt := 16) hx hb dX3_isBetter_9 (by decide) h (fun h => ?_) (fun h => ?_)
    · refine lv_iconst (v := oI 0) hx hb dX3_isBetter_16 (by decide) ?_
      refine lv_goto (tgt := 30) hx hb dX3_isBetter_17 (by decide) ?_
      exact xretI C hr M h nb_0 dX3_isBetter_30
    · refine lv_iconst (v := oI 1) hx hb dX3_isBetter_12 (by decide) ?_
      refine lv_goto (tgt := 30) hx hb dX3_isBetter_13 (by decide) ?_
      exact xretI C hr M h nb_1 dX3_isBetter_30
theorem ci_X3_98 {cc : ByteArray} {nL : Nat} {D : va_G} {T : ClassId × ClassId} {a : Nat → Nat} {A : Nat → Prop} {p : Program} {l : Launch} {e : Env} {R : Room} {s : State} {m : MethodId} {args : Array Value} {below : List Frame} {meth : Method} {c : Code} {H : Heap} {locs : List Loc} {Q : State → Prop} {x : XS} {z : Int × XS} {pc : Nat} {ls : Array Slot} {rest : List Value} (C : xcx RX3 cc nL D T (xW T a) A p s m args meth c) (M : xmm D (xW T a) A s H locs x) {p1 p2 : Int} {K : Int → XS → XR} (h : x_call (f_X3_isBetter x p1 p2) K = some z) (hR : 0 + 1 ≤ R.frames ∧ 8 + (3 + 11) + 0 ≤ R.locals) (hsz : ls.size = nL) (hrest : (rest.map fun v => v.category).sum ≤ 8) (hdg : decode cc pc = .ok (.invokevirtual 98, 3)) (kk : ∀ (r : Int) (H1 : Heap) (locs1 : List Loc) (x1 : XS), xmm D (xW T a) A s H1 locs1 x1 → narrow .boolean (.int (oI r)) = .int (oI r) → K r x1 = some z → W p l e R s m args below meth c H1 locs1 0 0 Q (F0 m (pc + 3) ls (.int (oI r) :: rest))) : W p l e R s m args below meth c H locs 0 0 Q (F0 m pc ls (.int (oI p2) :: .int (oI p1) :: .ref (a 5) :: rest)) :=
  xcallI_V (As := [.int (oI p1), .int (oI p2)]) (n := 2) C M (fun zc sz ho => c_X3_isBetter ho sz) bw_577 bw_574 bw_576 bw_41 bw_90 rfl (by decide +kernel) 5 rfl rfl ⟨rfl, rfl⟩ hR hsz rfl hrest hdg h kk
set_option maxHeartbeats 4000000 in
set_option maxRecDepth 100000 in
theorem c_X3_join {l : Launch} {D : va_G} {T : ClassId × ClassId} {a : Nat → Nat} {x : XS} {p1 : Int} {p2 : Int} {z : Int × XS} (h : f_X3_join x p1 p2 = some z) (sz : Nat) : xMetV l yX3_join cX3_join 4 { frames := 1, cells := 0, slots := 0, locals := 22 } D T (xW T a) sz [.ref (a 5), .int (oI p1), .int (oI p2)] x z := by
  refine xMetV_of (by decide) (Nat.le_of_ble_eq_true rfl) (xW_ad T a) ?_
  intro p e s m args below meth c A ls C hr M hl
  have hx := C.1
  have hb := C.2.1
  have hl : lv_has ls 4 [(0, .ref (a 5)), (1, .int (oI p1)), (2, .int (oI p2))] := hl
  have C : xcx RX3 cX3_join 4 D T (xW T a) A p s m args meth c := C
  revert hl M
  generalize ([] : List Loc) = locs
  generalize s.heap = H
  intro M hl
  unfold f_X3_join at h
  refine lv_aload_n hx hb dX3_join_0 rfl (lv_at hl 0 rfl) ?_
  refine gf_X3_21 C M dX3_join_1 ?_
  refine lv_iload_n hx hb dX3_join_4 rfl (lv_at hl 1 rfl) ?_
  refine al_x_38 C M dX3_join_5 h (fun v1 h => ?_)
  refine lv_istore_n (lv' := [(3, .int (oI v1)), (0, .ref (a 5)), (1, .int (oI p1)), (2, .int (oI p2))]) hx hb dX3_join_6 rfl hl (by decide) rfl (fun ls hl => ?_)
  refine x_jp_el h (fun kx2 ekx2 h => ?_)
  have hkx2 : ∀ (v3 : Int) (x4 : XS) (H : Heap) (locs : List Loc) (ls : Array Slot), kx2 v3 x4 = some z → xmm D (xW T a) A s H locs x4 → lv_has ls 4 [(0, .ref (a 5)), (1, .int (oI p1)), (2, .int (oI p2)), (3, .int (oI v3))] → W p l e { frames := 1, cells := 0, slots := 0, locals := 22 } s m args below meth c H locs 0 0 (xQV below args s D (xW T a) z A) (F0 m 49 ls []) := by
    intro v3 x4 H locs ls h M hl
    rw [ekx2] at h
    dsimp only at h
    refine lv_aload_n hx hb dX3_join_49 rfl (lv_at hl 0 rfl) ?_
    refine gf_X3_15 C M dX3_join_50 ?_
    refine lv_iload_n hx hb dX3_join_53 rfl (lv_at hl 3 rfl) ?_
    refine lv_iload_n hx hb dX3_join_54 rfl (lv_at hl 2 rfl) ?_
    refine as_x_36 C M dX3_join_55 h (fun H locs x5 M h => ?_)
    refine lv_aload_n hx hb dX3_join_56 rfl (lv_at hl 0 rfl) ?_
    refine gf_X3_21 C M dX3_join_57 ?_
    refine lv_iload_n hx hb dX3_join_60 rfl (lv_at hl 1 rfl) ?_
    refine lv_iload_n hx hb dX3_join_61 rfl (lv_at hl 3 rfl) ?_
    refine lv_iconst (v := oI 1) hx hb dX3_join_62 (by decide) ?_
    refine z_iadd hx hb dX3_join_63 ?_
    refine as_x_38 C M dX3_join_64 h (fun H locs x6 M h => ?_)
    exact xretV C hr M h dX3_join_65
  refine x_loop1_ind (P := fun v7 x8 => ∀ (H : Heap) (locs : List Loc) (ls : Array Slot), xmm D (xW T a) A s H locs x8 → lv_has ls 4 [(0, .ref (a 5)), (1, .int (oI p1)), (2, .int (oI p2)), (3, .int (oI v7))] → W p l e { frames := 1, cells := 0, slots := 0, locals := 22 } s m args below meth c H locs 0 0 (xQV below args s D (xW T a) z A) (F0 m 7 ls [])) (fun g9 ig9 v7 x8 h => ?_) x_fuel v1 x h H locs ls M (lv_sub hl [1, 2, 3, 0] rfl)
  intro H locs ls M hl
  unfold b_X3_join_7 at h
  refine lv_iload_n hx hb dX3_join_7 rfl (lv_at hl 3 rfl) ?_
  refine lv_aload_n hx hb dX3_join_8 rfl (lv_at hl 0 rfl) ?_
  refine gf_X3_18 C M dX3_join_9 ?_
  refine lv_iload_n hx hb dX3_join_12 rfl (lv_at hl 1 rfl) ?_
  refine al_x_37 C M dX3_join_13 h (fun v10 h => ?_)
  refine z_icmp_le (tgt := 49) hx hb dX3_join_14 (by decide) h (fun h => ?_) (fun h => ?_)
  · exact hkx2 v7 x8 H locs ls h M (lv_sub hl [0, 1, 2, 3] rfl)
  · refine lv_aload_n hx hb dX3_join_17 rfl (lv_at hl 0 rfl) ?_
    refine lv_aload_n hx hb dX3_join_18 rfl (lv_at hl 0 rfl) ?_
    refine gf_X3_9 C M dX3_join_19 ?_
    refine lv_aload_n hx hb dX3_join_22 rfl (lv_at hl 0 rfl) ?_
    refine gf_X3_15 C M dX3_join_23 ?_
    refine lv_iload_n hx hb dX3_join_26 rfl (lv_at hl 3 rfl) ?_
    refine lv_iconst (v := oI 1) hx hb dX3_join_27 (by decide) ?_
    refine z_isub hx hb dX3_join_28 ?_
    refine al_x_36 C M dX3_join_29 h (fun v11 h => ?_)
    refine al_x_35 C M dX3_join_30 h (fun v12 h => ?_)
    refine lv_aload_n hx hb dX3_join_31 rfl (lv_at hl 0 rfl) ?_
    refine gf_X3_9 C M dX3_join_32 ?_
    refine lv_iload_n hx hb dX3_join_35 rfl (lv_at hl 2 rfl) ?_
    refine al_x_35 C M dX3_join_36 h (fun v13 h => ?_)
    refine ci_X3_98 C M h ⟨Nat.le_of_ble_eq_true rfl, Nat.le_of_ble_eq_true rfl⟩ hl.1 (Nat.le_of_ble_eq_true rfl) dX3_join_37 (fun r14 H locs x15 M nr14 h => ?_)
    refine z_if_ne (tgt := 49) hx hb dX3_join_40 (by decide) h (fun h => ?_) (fun h => ?_)
    · exact hkx2 v7 x15 H locs ls h M (lv_sub hl [0, 1, 2, 3] rfl)
    · refine x_nm h (fun v16 ev16 h => ?_)
      refine lv_iinc (v := oI v16) (lv' := [(3, .int (oI v16)), (0, .ref (a 5)), (1, .int (oI p1)), (2, .int (oI p2))]) hx hb dX3_join_43 hl (k := 3) rfl (by rw [ev16]; exact oI_add _ _) (by decide) rfl (fun ls hl => ?_)
      refine lv_goto (tgt := 7) hx hb dX3_join_46 (by decide) ?_
      exact ig9 v16 x15 h H locs ls M (lv_sub hl [1, 2, 3, 0] rfl)
theorem ci_X3_95 {cc : ByteArray} {nL : Nat} {D : va_G} {T : ClassId × ClassId} {a : Nat → Nat} {A : Nat → Prop} {p : Program} {l : Launch} {e : Env} {R : Room} {s : State} {m : MethodId} {args : Array Value} {below : List Frame} {meth : Method} {c : Code} {H : Heap} {locs : List Loc} {Q : State → Prop} {x : XS} {z : Int × XS} {pc : Nat} {ls : Array Slot} {rest : List Value} (C : xcx RX3 cc nL D T (xW T a) A p s m args meth c) (M : xmm D (xW T a) A s H locs x) {p1 p2 : Int} {K : Int → XS → XR} (h : x_call (f_X3_join x p1 p2) K = some z) (hR : 1 + 1 ≤ R.frames ∧ 8 + (4 + 11) + 22 ≤ R.locals) (hsz : ls.size = nL) (hrest : (rest.map fun v => v.category).sum ≤ 8) (hdg : decode cc pc = .ok (.invokevirtual 95, 3)) (kk : ∀ (H1 : Heap) (locs1 : List Loc) (x1 : XS), xmm D (xW T a) A s H1 locs1 x1 → K 0 x1 = some z → W p l e R s m args below meth c H1 locs1 0 0 Q (F0 m (pc + 3) ls rest)) : W p l e R s m args below meth c H locs 0 0 Q (F0 m pc ls (.int (oI p2) :: .int (oI p1) :: .ref (a 5) :: rest)) :=
  xcallV_V (As := [.int (oI p1), .int (oI p2)]) (n := 2) C M (fun zc sz ho => c_X3_join ho sz) bw_573 bw_570 bw_572 bw_40 bw_90 rfl (by decide +kernel) 5 rfl rfl ⟨rfl, rfl⟩ hR hsz rfl hrest hdg h kk
set_option maxHeartbeats 4000000 in
set_option maxRecDepth 100000 in
theorem c_X3_takeIn {l : Launch} {D : va_G} {T : ClassId × ClassId} {a : Nat → Nat} {x : XS} {p1 : Int} {p2 : Int} {z : Int × XS} (h : f_X3_takeIn x p1 p2 = some z) (sz : Nat) : xMetV l yX3_takeIn cX3_takeIn 4 { frames := 2, cells := 0, slots := 0, locals := 45 } D T (xW T a) sz [.ref (a 5), .int (oI p1), .int (oI p2)] x z := by
  refine xMetV_of (by decide) (Nat.le_of_ble_eq_true rfl) (xW_ad T a) ?_
  intro p e s m args below meth c A ls C hr M hl
  have hx := C.1
  have hb := C.2.1
  have hl : lv_has ls 4 [(0, .ref (a 5)), (1, .int (oI p1)), (2, .int (oI p2))] := hl
  have C : xcx RX3 cX3_takeIn 4 D T (xW T a) A p s m args meth c := C
  revert hl M
  generalize ([] : List Loc) = locs
  generalize s.heap = H
  intro M hl
  unfold f_X3_takeIn at h
  refine lv_aload_n hx hb dX3_takeIn_0 rfl (lv_at hl 0 rfl) ?_
  refine gf_X3_24 C M dX3_takeIn_1 ?_
  refine lv_iload_n hx hb dX3_takeIn_4 rfl (lv_at hl 1 rfl) ?_
  refine al_x_39 C M dX3_takeIn_5 h (fun v1 h => ?_)
  refine lv_istore_n (lv' := [(3, .int (oI v1)), (0, .ref (a 5)), (1, .int (oI p1)), (2, .int (oI p2))]) hx hb dX3_takeIn_6 rfl hl (by decide) rfl (fun ls hl => ?_)
  refine x_jp_el h (fun kx2 ekx2 h => ?_)
  have hkx2 : ∀ (v3 : Int) (x4 : XS) (H : Heap) (locs : List Loc) (ls : Array Slot), kx2 v3 x4 = some z → xmm D (xW T a) A s H locs x4 → lv_has ls 4 [(0, .ref (a 5)), (1, .int (oI p1)), (3, .int (oI v3))] → W p l e { frames := 2, cells := 0, slots := 0, locals := 45 } s m args below meth c H locs 0 0 (xQV below args s D (xW T a) z A) (F0 m 79 ls []) := by
    intro v3 x4 H locs ls h M hl
    rw [ekx2] at h
    dsimp only at h
    refine lv_aload_n hx hb dX3_takeIn_79 rfl (lv_at hl 0 rfl) ?_
    refine gf_X3_24 C M dX3_takeIn_80 ?_
    refine lv_iload_n hx hb dX3_takeIn_83 rfl (lv_at hl 1 rfl) ?_
    refine lv_iload_n hx hb dX3_takeIn_84 rfl (lv_at hl 2 rfl) ?_
    refine as_x_39 C M dX3_takeIn_85 h (fun H locs x5 M h => ?_)
    exact xretV C hr M h dX3_takeIn_86
  refine x_loop1_ind (P := fun v6 x7 => ∀ (H : Heap) (locs : List Loc) (ls : Array Slot), xmm D (xW T a) A s H locs x7 → lv_has ls 4 [(0, .ref (a 5)), (1, .int (oI p1)), (2, .int (oI p2)), (3, .int (oI v6))] → W p l e { frames := 2, cells := 0, slots := 0, locals := 45 } s m args below meth c H locs 0 0 (xQV below args s D (xW T a) z A) (F0 m 7 ls [])) (fun g8 ig8 v6 x7 h => ?_) x_fuel v1 x h H locs ls M (lv_sub hl [1, 2, 3, 0] rfl)
  intro H locs ls M hl
  unfold b_X3_takeIn_7 at h
  refine lv_iload_n hx hb dX3_takeIn_7 rfl (lv_at hl 3 rfl) ?_
  refine lv_aload_n hx hb dX3_takeIn_8 rfl (lv_at hl 0 rfl) ?_
  refine gf_X3_38 C M dX3_takeIn_9 ?_
  refine gf_X3_86 C M dX3_takeIn_12 ?_
  refine lv_iload_n hx hb dX3_takeIn_15 rfl (lv_at hl 1 rfl) ?_
  refine al_x_34 C M dX3_takeIn_16 h (fun v9 h => ?_)
  refine z_icmp_ge (tgt := 79) hx hb dX3_takeIn_17 (by decide) h (fun h => ?_) (fun h => ?_)
  · exact hkx2 v6 x7 H locs ls h M (lv_sub hl [0, 1, 3] rfl)
  · refine lv_aload_n hx hb dX3_takeIn_20 rfl (lv_at hl 0 rfl) ?_
    refine gf_X3_38 C M dX3_takeIn_21 ?_
    refine gf_X3_89 C M dX3_takeIn_24 ?_
    refine lv_aload_n hx hb dX3_takeIn_27 rfl (lv_at hl 0 rfl) ?_
    refine gf_X3_38 C M dX3_takeIn_28 ?_
    refine gf_X3_92 C M dX3_takeIn_31 ?_
    refine lv_iload_n hx hb dX3_takeIn_34 rfl (lv_at hl 3 rfl) ?_
    refine al_x_32 C M dX3_takeIn_35 h (fun v10 h => ?_)
    refine al_x_29 C M dX3_takeIn_36 h (fun v11 h => ?_)
    refine lv_iload_n hx hb dX3_takeIn_37 rfl (lv_at hl 2 rfl) ?_
    refine z_icmp_gt (tgt := 79) hx hb dX3_takeIn_38 (by decide) h (fun h => ?_) (fun h => ?_)
    · exact hkx2 v6 x7 H locs ls h M (lv_sub hl [0, 1, 3] rfl)
    · refine lv_aload_n hx hb dX3_takeIn_41 rfl (lv_at hl 0 rfl) ?_
      refine gf_X3_9 C M dX3_takeIn_42 ?_
      refine lv_aload_n hx hb dX3_takeIn_45 rfl (lv_at hl 0 rfl) ?_
      refine gf_X3_38 C M dX3_takeIn_46 ?_
      refine gf_X3_92 C M dX3_takeIn_49 ?_
      refine lv_iload_n hx hb dX3_takeIn_52 rfl (lv_at hl 3 rfl) ?_
      refine al_x_32 C M dX3_takeIn_53 h (fun v12 h => ?_)
      refine al_x_35 C M dX3_takeIn_54 h (fun v13 h => ?_)
      refine lv_iconst (v := oI (-1)) hx hb dX3_takeIn_55 (by decide) ?_
      refine x_jp_el h (fun jp14 ejp14 h => ?_)
      have hjp14 : ∀ (x15 : XS) (H : Heap) (locs : List Loc) (ls : Array Slot), jp14 x15 = some z → xmm D (xW T a) A s H locs x15 → lv_has ls 4 [(0, .ref (a 5)), (1, .int (oI p1)), (2, .int (oI p2)), (3, .int (oI v6))] → W p l e { frames := 2, cells := 0, slots := 0, locals := 45 } s m args below meth c H locs 0 0 (xQV below args s D (xW T a) z A) (F0 m 73 ls []) := by
        intro x15 H locs ls h M hl
        rw [ejp14] at h
        dsimp only at h
        refine x_nm h (fun v16 ev16 h => ?_)
        refine lv_iinc (v := oI v16) (lv' := [(3, .int (oI v16)), (0, .ref (a 5)), (1, .int (oI p1)), (2, .int (oI p2))]) hx hb dX3_takeIn_73 hl (k := 3) rfl (by rw [ev16]; exact oI_add _ _) (by decide) rfl (fun ls hl => ?_)
        refine lv_goto (tgt := 7) hx hb dX3_takeIn_76 (by decide) ?_
        exact ig8 v16 x15 h H locs ls M (lv_sub hl [1, 2, 3, 0] rfl)
      refine z_icmp_eq (tgt := 73) hx hb dX3_takeIn_56 (by decide) h (fun h => ?_) (fun h => ?_)
      · exact hjp14 x7 H locs ls h M (lv_sub hl [0, 1, 2, 3] rfl)
      · refine lv_aload_n hx hb dX3_takeIn_59 rfl (lv_at hl 0 rfl) ?_
        refine lv_iload_n hx hb dX3_takeIn_60 rfl (lv_at hl 1 rfl) ?_
        refine lv_aload_n hx hb dX3_takeIn_61 rfl (lv_at hl 0 rfl) ?_
        refine gf_X3_38 C M dX3_takeIn_62 ?_
        refine gf_X3_92 C M dX3_takeIn_65 ?_
        refine lv_iload_n hx hb dX3_takeIn_68 rfl (lv_at hl 3 rfl) ?_
        refine al_x_32 C M dX3_takeIn_69 h (fun v17 h => ?_)
        refine ci_X3_95 C M h ⟨Nat.le_of_ble_eq_true rfl, Nat.le_of_ble_eq_true rfl⟩ hl.1 (Nat.le_of_ble_eq_true rfl) dX3_takeIn_70 (fun H locs x19 M h => ?_)
        exact hjp14 x19 H locs ls h M (lv_sub hl [0, 1, 2, 3] rfl)
set_option maxHeartbeats 4000000 in
set_option maxRecDepth 100000 in
theorem c_X2_soonestComing {l : Launch} {D : va_G} {T : ClassId × ClassId} {a : Nat → Nat} {x : XS} {p1 : Int} {p2 : Int} {z : Int × XS} (h : f_X2_soonestComing x p1 p2 = some z) (sz : Nat) : xMetI l yX2_soonestComing cX2_soonestComing 3 .int { frames := 0, cells := 0, slots := 0, locals := 0 } D T (xW T a) sz [.ref (a 1), .int (oI p1), .int (oI p2)] x z := by
  refine xMetI_of (by decide) (Nat.le_of_ble_eq_true rfl) (xW_ad T a) ?_
  intro p e s m args below meth c A ls C hr M hl
  have hx := C.1
  have hb := C.2.1
  have hl : lv_has ls 3 [(0, .ref (a 1)), (1, .int (oI p1)), (2, .int (oI p2))] := hl
  have C : xcx RX2 cX2_soonestComing 3 D T (xW T a) A p s m args meth c := C
  revert hl M
  generalize ([] : List Loc) = locs
  generalize s.heap = H
  intro M hl
  unfold f_X2_soonestComing at h
  refine lv_aload_n hx hb dX2_soonestComing_0 rfl (lv_at hl 0 rfl) ?_
  refine gf_X2_15 C M dX2_soonestComing_1 ?_
  refine lv_iload_n hx hb dX2_soonestComing_4 rfl (lv_at hl 1 rfl) ?_
  refine al_x_10 C M dX2_soonestComing_5 h (fun v1 h => ?_)
  refine lv_iconst (v := oI (-1)) hx hb dX2_soonestComing_6 (by decide) ?_
  refine z_icmp_ne (tgt := 14) hx hb dX2_soonestComing_7 (by decide) h (fun h => ?_) (fun h => ?_)
  · refine lv_iload_n hx hb dX2_soonestComing_14 rfl (lv_at hl 2 rfl) ?_
    refine lv_aload_n hx hb dX2_soonestComing_15 rfl (lv_at hl 0 rfl) ?_
    refine gf_X2_15 C M dX2_soonestComing_16 ?_
    refine lv_iload_n hx hb dX2_soonestComing_19 rfl (lv_at hl 1 rfl) ?_
    refine al_x_10 C M dX2_soonestComing_20 h (fun v2 h => ?_)
    refine z_isub hx hb dX2_soonestComing_21 ?_
    exact xretI C hr M h rfl dX2_soonestComing_22
  · refine lv_iconst (v := oI 0) hx hb dX2_soonestComing_10 (by decide) ?_
    refine lv_goto (tgt := 22) hx hb dX2_soonestComing_11 (by decide) ?_
    exact xretI C hr M h rfl dX2_soonestComing_22
set_option maxHeartbeats 4000000 in
set_option maxRecDepth 100000 in
theorem c_X3_dropOld {l : Launch} {D : va_G} {T : ClassId × ClassId} {a : Nat → Nat} {x : XS} {p1 : Int} {p2 : Int} {z : Int × XS} (h : f_X3_dropOld x p1 p2 = some z) (sz : Nat) : xMetV l yX3_dropOld cX3_dropOld 4 { frames := 0, cells := 0, slots := 0, locals := 0 } D T (xW T a) sz [.ref (a 5), .int (oI p1), .int (oI p2)] x z := by
  refine xMetV_of (by decide) (Nat.le_of_ble_eq_true rfl) (xW_ad T a) ?_
  intro p e s m args below meth c A ls C hr M hl
  have hx := C.1
  have hb := C.2.1
  have hl : lv_has ls 4 [(0, .ref (a 5)), (1, .int (oI p1)), (2, .int (oI p2))] := hl
  have C : xcx RX3 cX3_dropOld 4 D T (xW T a) A p s m args meth c := C
  revert hl M
  generalize ([] : List Loc) = locs
  generalize s.heap = H
  intro M hl
  unfold f_X3_dropOld at h
  refine lv_aload_n hx hb dX3_dropOld_0 rfl (lv_at hl 0 rfl) ?_
  refine gf_X3_18 C M dX3_dropOld_1 ?_
  refine lv_iload_n hx hb dX3_dropOld_4 rfl (lv_at hl 1 rfl) ?_
  refine al_x_37 C M dX3_dropOld_5 h (fun v1 h => ?_)
  refine lv_istore_n (lv' := [(3, .int (oI v1)), (0, .ref (a 5)), (1, .int (oI p1)), (2, .int (oI p2))]) hx hb dX3_dropOld_6 rfl hl (by decide) rfl (fun ls hl => ?_)
  refine x_jp_el h (fun kx2 ekx2 h => ?_)
  have hkx2 : ∀ (v3 : Int) (x4 : XS) (H : Heap) (locs : List Loc) (ls : Array Slot), kx2 v3 x4 = some z → xmm D (xW T a) A s H locs x4 → lv_has ls 4 [(0, .ref (a 5)), (1, .int (oI p1)), (3, .int (oI v3))] → W p l e { frames := 0, cells := 0, slots := 0, locals := 0 } s m args below meth c H locs 0 0 (xQV below args s D (xW T a) z A) (F0 m 41 ls []) := by
    intro v3 x4 H locs ls h M hl
    rw [ekx2] at h
    dsimp only at h
    refine lv_aload_n hx hb dX3_dropOld_41 rfl (lv_at hl 0 rfl) ?_
    refine gf_X3_18 C M dX3_dropOld_42 ?_
    refine lv_iload_n hx hb dX3_dropOld_45 rfl (lv_at hl 1 rfl) ?_
    refine lv_iload_n hx hb dX3_dropOld_46 rfl (lv_at hl 2 rfl) ?_
    refine as_x_37 C M dX3_dropOld_47 h (fun H locs x5 M h => ?_)
    exact xretV C hr M h dX3_dropOld_48
  refine x_loop1_ind (P := fun v6 x7 => ∀ (H : Heap) (locs : List Loc) (ls : Array Slot), xmm D (xW T a) A s H locs x7 → lv_has ls 4 [(0, .ref (a 5)), (1, .int (oI p1)), (2, .int (oI p2)), (3, .int (oI v6))] → W p l e { frames := 0, cells := 0, slots := 0, locals := 0 } s m args below meth c H locs 0 0 (xQV below args s D (xW T a) z A) (F0 m 7 ls [])) (fun g8 ig8 v6 x7 h => ?_) x_fuel v1 x h H locs ls M (lv_sub hl [1, 2, 3, 0] rfl)
  intro H locs ls M hl
  unfold b_X3_dropOld_7 at h
  refine lv_iload_n hx hb dX3_dropOld_7 rfl (lv_at hl 3 rfl) ?_
  refine lv_aload_n hx hb dX3_dropOld_8 rfl (lv_at hl 0 rfl) ?_
  refine gf_X3_21 C M dX3_dropOld_9 ?_
  refine lv_iload_n hx hb dX3_dropOld_12 rfl (lv_at hl 1 rfl) ?_
  refine al_x_38 C M dX3_dropOld_13 h (fun v9 h => ?_)
  refine z_icmp_ge (tgt := 41) hx hb dX3_dropOld_14 (by decide) h (fun h => ?_) (fun h => ?_)
  · exact hkx2 v6 x7 H locs ls h M (lv_sub hl [0, 1, 3] rfl)
  · refine lv_aload_n hx hb dX3_dropOld_17 rfl (lv_at hl 0 rfl) ?_
    refine gf_X3_38 C M dX3_dropOld_18 ?_
    refine gf_X3_89 C M dX3_dropOld_21 ?_
    refine lv_aload_n hx hb dX3_dropOld_24 rfl (lv_at hl 0 rfl) ?_
    refine gf_X3_15 C M dX3_dropOld_25 ?_
    refine lv_iload_n hx hb dX3_dropOld_28 rfl (lv_at hl 3 rfl) ?_
    refine al_x_36 C M dX3_dropOld_29 h (fun v10 h => ?_)
    refine al_x_29 C M dX3_dropOld_30 h (fun v11 h => ?_)
    refine lv_iload_n hx hb dX3_dropOld_31 rfl (lv_at hl 2 rfl) ?_
    refine z_icmp_ge (tgt := 41) hx hb dX3_dropOld_32 (by decide) h (fun h => ?_) (fun h => ?_)
    · exact hkx2 v6 x7 H locs ls h M (lv_sub hl [0, 1, 3] rfl)
    · refine x_nm h (fun v12 ev12 h => ?_)
      refine lv_iinc (v := oI v12) (lv' := [(3, .int (oI v12)), (0, .ref (a 5)), (1, .int (oI p1)), (2, .int (oI p2))]) hx hb dX3_dropOld_35 hl (k := 3) rfl (by rw [ev12]; exact oI_add _ _) (by decide) rfl (fun ls hl => ?_)
      refine lv_goto (tgt := 7) hx hb dX3_dropOld_38 (by decide) ?_
      exact ig8 v12 x7 h H locs ls M (lv_sub hl [1, 2, 3, 0] rfl)
theorem ci_X3_57 {cc : ByteArray} {nL : Nat} {D : va_G} {T : ClassId × ClassId} {a : Nat → Nat} {A : Nat → Prop} {p : Program} {l : Launch} {e : Env} {R : Room} {s : State} {m : MethodId} {args : Array Value} {below : List Frame} {meth : Method} {c : Code} {H : Heap} {locs : List Loc} {Q : State → Prop} {x : XS} {z : Int × XS} {pc : Nat} {ls : Array Slot} {rest : List Value} (C : xcx RX3 cc nL D T (xW T a) A p s m args meth c) (M : xmm D (xW T a) A s H locs x) {p1 : Int} {K : Int → XS → XR} (h : x_call (f_X5_startOf x p1) K = some z) (hR : 0 + 1 ≤ R.frames ∧ 8 + (2 + 11) + 0 ≤ R.locals) (hsz : ls.size = nL) (hrest : (rest.map fun v => v.category).sum ≤ 8) (hdg : decode cc pc = .ok (.invokevirtual 57, 3)) (kk : ∀ (r : Int) (H1 : Heap) (locs1 : List Loc) (x1 : XS), xmm D (xW T a) A s H1 locs1 x1 → narrow .int (.int (oI r)) = .int (oI r) → K r x1 = some z → W p l e R s m args below meth c H1 locs1 0 0 Q (F0 m (pc + 3) ls (.int (oI r) :: rest))) : W p l e R s m args below meth c H locs 0 0 Q (F0 m pc ls (.int (oI p1) :: .ref (a 4) :: rest)) :=
  xcallI_N (As := [.int (oI p1)]) (n := 1) C M (fun zc sz ho => c_X5_startOf ho sz) bw_557 bw_554 bw_556 bw_36 bw_88 rfl (by decide +kernel) 4 rfl rfl ⟨rfl, rfl⟩ hR hsz rfl hrest hdg h kk
theorem ci_X3_70 {cc : ByteArray} {nL : Nat} {D : va_G} {T : ClassId × ClassId} {a : Nat → Nat} {A : Nat → Prop} {p : Program} {l : Launch} {e : Env} {R : Room} {s : State} {m : MethodId} {args : Array Value} {below : List Frame} {meth : Method} {c : Code} {H : Heap} {locs : List Loc} {Q : State → Prop} {x : XS} {z : Int × XS} {pc : Nat} {ls : Array Slot} {rest : List Value} (C : xcx RX3 cc nL D T (xW T a) A p s m args meth c) (M : xmm D (xW T a) A s H locs x) {p1 p2 : Int} {K : Int → XS → XR} (h : x_call (f_X2_latestComing x p1 p2) K = some z) (hR : 0 + 1 ≤ R.frames ∧ 8 + (3 + 11) + 0 ≤ R.locals) (hsz : ls.size = nL) (hrest : (rest.map fun v => v.category).sum ≤ 8) (hdg : decode cc pc = .ok (.invokevirtual 70, 3)) (kk : ∀ (r : Int) (H1 : Heap) (locs1 : List Loc) (x1 : XS), xmm D (xW T a) A s H1 locs1 x1 → narrow .int (.int (oI r)) = .int (oI r) → K r x1 = some z → W p l e R s m args below meth c H1 locs1 0 0 Q (F0 m (pc + 3) ls (.int (oI r) :: rest))) : W p l e R s m args below meth c H locs 0 0 Q (F0 m pc ls (.int (oI p2) :: .int (oI p1) :: .ref (a 1) :: rest)) :=
  xcallI_N (As := [.int (oI p1), .int (oI p2)]) (n := 2) C M (fun zc sz ho => c_X2_latestComing ho sz) bw_565 bw_562 bw_564 bw_38 bw_85 rfl (by decide +kernel) 1 rfl rfl ⟨rfl, rfl⟩ hR hsz rfl hrest hdg h kk
theorem ci_X3_76 {cc : ByteArray} {nL : Nat} {D : va_G} {T : ClassId × ClassId} {a : Nat → Nat} {A : Nat → Prop} {p : Program} {l : Launch} {e : Env} {R : Room} {s : State} {m : MethodId} {args : Array Value} {below : List Frame} {meth : Method} {c : Code} {H : Heap} {locs : List Loc} {Q : State → Prop} {x : XS} {z : Int × XS} {pc : Nat} {ls : Array Slot} {rest : List Value} (C : xcx RX3 cc nL D T (xW T a) A p s m args meth c) (M : xmm D (xW T a) A s H locs x) {p1 p2 : Int} {K : Int → XS → XR} (h : x_call (f_X3_takeIn x p1 p2) K = some z) (hR : 2 + 1 ≤ R.frames ∧ 8 + (4 + 11) + 45 ≤ R.locals) (hsz : ls.size = nL) (hrest : (rest.map fun v => v.category).sum ≤ 8) (hdg : decode cc pc = .ok (.invokevirtual 76, 3)) (kk : ∀ (H1 : Heap) (locs1 : List Loc) (x1 : XS), xmm D (xW T a) A s H1 locs1 x1 → K 0 x1 = some z → W p l e R s m args below meth c H1 locs1 0 0 Q (F0 m (pc + 3) ls rest)) : W p l e R s m args below meth c H locs 0 0 Q (F0 m pc ls (.int (oI p2) :: .int (oI p1) :: .ref (a 5) :: rest)) :=
  xcallV_V (As := [.int (oI p1), .int (oI p2)]) (n := 2) C M (fun zc sz ho => c_X3_takeIn ho sz) bw_569 bw_566 bw_568 bw_39 bw_90 rfl (by decide +kernel) 5 rfl rfl ⟨rfl, rfl⟩ hR hsz rfl hrest hdg h kk
theorem ci_X3_80 {cc : ByteArray} {nL : Nat} {D : va_G} {T : ClassId × ClassId} {a : Nat → Nat} {A : Nat → Prop} {p : Program} {l : Launch} {e : Env} {R : Room} {s : State} {m : MethodId} {args : Array Value} {below : List Frame} {meth : Method} {c : Code} {H : Heap} {locs : List Loc} {Q : State → Prop} {x : XS} {z : Int × XS} {pc : Nat} {ls : Array Slot} {rest : List Value} (C : xcx RX3 cc nL D T (xW T a) A p s m args meth c) (M : xmm D (xW T a) A s H locs x) {p1 p2 : Int} {K : Int → XS → XR} (h : x_call (f_X2_soonestComing x p1 p2) K = some z) (hR : 0 + 1 ≤ R.frames ∧ 8 + (3 + 11) + 0 ≤ R.locals) (hsz : ls.size = nL) (hrest : (rest.map fun v => v.category).sum ≤ 8) (hdg : decode cc pc = .ok (.invokevirtual 80, 3)) (kk : ∀ (r : Int) (H1 : Heap) (locs1 : List Loc) (x1 : XS), xmm D (xW T a) A s H1 locs1 x1 → narrow .int (.int (oI r)) = .int (oI r) → K r x1 = some z → W p l e R s m args below meth c H1 locs1 0 0 Q (F0 m (pc + 3) ls (.int (oI r) :: rest))) : W p l e R s m args below meth c H locs 0 0 Q (F0 m pc ls (.int (oI p2) :: .int (oI p1) :: .ref (a 1) :: rest)) :=
  xcallI_N (As := [.int (oI p1), .int (oI p2)]) (n := 2) C M (fun zc sz ho => c_X2_soonestComing ho sz) bw_581 bw_578 bw_580 bw_42 bw_85 rfl (by decide +kernel) 1 rfl rfl ⟨rfl, rfl⟩ hR hsz rfl hrest hdg h kk
theorem ci_X3_83 {cc : ByteArray} {nL : Nat} {D : va_G} {T : ClassId × ClassId} {a : Nat → Nat} {A : Nat → Prop} {p : Program} {l : Launch} {e : Env} {R : Room} {s : State} {m : MethodId} {args : Array Value} {below : List Frame} {meth : Method} {c : Code} {H : Heap} {locs : List Loc} {Q : State → Prop} {x : XS} {z : Int × XS} {pc : Nat} {ls : Array Slot} {rest : List Value} (C : xcx RX3 cc nL D T (xW T a) A p s m args meth c) (M : xmm D (xW T a) A s H locs x) {p1 p2 : Int} {K : Int → XS → XR} (h : x_call (f_X3_dropOld x p1 p2) K = some z) (hR : 0 + 1 ≤ R.frames ∧ 8 + (4 + 11) + 0 ≤ R.locals) (hsz : ls.size = nL) (hrest : (rest.map fun v => v.category).sum ≤ 8) (hdg : decode cc pc = .ok (.invokevirtual 83, 3)) (kk : ∀ (H1 : Heap) (locs1 : List Loc) (x1 : XS), xmm D (xW T a) A s H1 locs1 x1 → K 0 x1 = some z → W p l e R s m args below meth c H1 locs1 0 0 Q (F0 m (pc + 3) ls rest)) : W p l e R s m args below meth c H locs 0 0 Q (F0 m pc ls (.int (oI p2) :: .int (oI p1) :: .ref (a 5) :: rest)) :=
  xcallV_V (As := [.int (oI p1), .int (oI p2)]) (n := 2) C M (fun zc sz ho => c_X3_dropOld ho sz) bw_585 bw_582 bw_584 bw_43 bw_90 rfl (by decide +kernel) 5 rfl rfl ⟨rfl, rfl⟩ hR hsz rfl hrest hdg h kk
set_option maxHeartbeats 4000000 in
set_option maxRecDepth 100000 in
theorem c_X3_worthBehindOthers {l : Launch} {D : va_G} {T : ClassId × ClassId} {a : Nat → Nat} {x : XS} {p1 : Int} {z : Int × XS} (h : f_X3_worthBehindOthers x p1 = some z) (sz : Nat) : xMetI l yX3_worthBehindOthers cX3_worthBehindOthers 5 .int { frames := 3, cells := 0, slots := 0, locals := 68 } D T (xW T a) sz [.ref (a 5), .int (oI p1)] x z := by
  refine xMetI_of (by decide) (Nat.le_of_ble_eq_true rfl) (xW_ad T a) ?_
  intro p e s m args below meth c A ls C hr M hl
  have hx := C.1
  have hb := C.2.1
  have hl : lv_has ls 5 [(0, .ref (a 5)), (1, .int (oI p1))] := hl
  have C : xcx RX3 cX3_worthBehindOthers 5 D T (xW T a) A p s m args meth c := C
  revert hl M
  generalize ([] : List Loc) = locs
  generalize s.heap = H
  intro M hl
  unfold f_X3_worthBehindOthers at h
  refine lv_aload_n hx hb dX3_worthBehindOthers_0 rfl (lv_at hl 0 rfl) ?_
  refine gf_X3_38 C M dX3_worthBehindOthers_1 ?_
  refine lv_iload_n hx hb dX3_worthBehindOthers_4 rfl (lv_at hl 1 rfl) ?_
  refine ci_X3_57 C M h ⟨Nat.le_of_ble_eq_true rfl, Nat.le_of_ble_eq_true rfl⟩ hl.1 (Nat.le_of_ble_eq_true rfl) dX3_worthBehindOthers_5 (fun r1 H locs x2 M nr1 h => ?_)
  refine lv_istore_n (lv' := [(2, .int (oI r1)), (0, .ref (a 5)), (1, .int (oI p1))]) hx hb dX3_worthBehindOthers_8 rfl hl (by decide) rfl (fun ls hl => ?_)
  refine lv_aload_n hx hb dX3_worthBehindOthers_9 rfl (lv_at hl 1 rfl) ?_
  refine gf_X3_38 C M dX3_worthBehindOthers_10 ?_
  refine gf_X3_61 C M dX3_worthBehindOthers_13 ?_
  refine lv_iload_n hx hb dX3_worthBehindOthers_16 rfl (lv_at hl 2 rfl) ?_
  refine al_x_28 C M dX3_worthBehindOthers_17 h (fun v3 h => ?_)
  refine lv_istore_n (lv' := [(3, .int (oI v3)), (2, .int (oI r1)), (0, .ref (a 5)), (1, .int (oI p1))]) hx hb dX3_worthBehindOthers_18 rfl hl (by decide) rfl (fun ls hl => ?_)
  refine lv_aload_n hx hb dX3_worthBehindOthers_19 rfl (lv_at hl 2 rfl) ?_
  refine lv_iload_n hx hb dX3_worthBehindOthers_20 rfl (lv_at hl 1 rfl) ?_
  refine lv_aload_n hx hb dX3_worthBehindOthers_21 rfl (lv_at hl 2 rfl) ?_
  refine gf_X3_34 C M dX3_worthBehindOthers_22 ?_
  refine lv_iload_n hx hb dX3_worthBehindOthers_25 rfl (lv_at hl 1 rfl) ?_
  refine lv_iload_n hx hb dX3_worthBehindOthers_26 rfl (lv_at hl 0 rfl) ?_
  refine ci_X3_70 C M h ⟨Nat.le_of_ble_eq_true rfl, Nat.le_of_ble_eq_true rfl⟩ hl.1 (Nat.le_of_ble_eq_true rfl) dX3_worthBehindOthers_27 (fun r4 H locs x5 M nr4 h => ?_)
  refine ci_X3_76 C M h ⟨Nat.le_of_ble_eq_true rfl, Nat.le_of_ble_eq_true rfl⟩ hl.1 (Nat.le_of_ble_eq_true rfl) dX3_worthBehindOthers_30 (fun H locs x7 M h => ?_)
  refine lv_aload_n hx hb dX3_worthBehindOthers_33 rfl (lv_at hl 2 rfl) ?_
  refine lv_iload_n hx hb dX3_worthBehindOthers_34 rfl (lv_at hl 1 rfl) ?_
  refine lv_aload_n hx hb dX3_worthBehindOthers_35 rfl (lv_at hl 2 rfl) ?_
  refine gf_X3_34 C M dX3_worthBehindOthers_36 ?_
  refine lv_iload_n hx hb dX3_worthBehindOthers_39 rfl (lv_at hl 1 rfl) ?_
  refine lv_iload_n hx hb dX3_worthBehindOthers_40 rfl (lv_at hl 0 rfl) ?_
  refine ci_X3_80 C M h ⟨Nat.le_of_ble_eq_true rfl, Nat.le_of_ble_eq_true rfl⟩ hl.1 (Nat.le_of_ble_eq_true rfl) dX3_worthBehindOthers_41 (fun r8 H locs x9 M nr8 h => ?_)
  refine ci_X3_83 C M h ⟨Nat.le_of_ble_eq_true rfl, Nat.le_of_ble_eq_true rfl⟩ hl.1 (Nat.le_of_ble_eq_true rfl) dX3_worthBehindOthers_44 (fun H locs x11 M h => ?_)
  refine lv_aload_n hx hb dX3_worthBehindOthers_47 rfl (lv_at hl 2 rfl) ?_
  refine gf_X3_18 C M dX3_worthBehindOthers_48 ?_
  refine lv_iload_n hx hb dX3_worthBehindOthers_51 rfl (lv_at hl 1 rfl) ?_
  refine al_x_37 C M dX3_worthBehindOthers_52 h (fun v12 h => ?_)
  refine lv_aload_n hx hb dX3_worthBehindOthers_53 rfl (lv_at hl 2 rfl) ?_
  refine gf_X3_21 C M dX3_worthBehindOthers_54 ?_
  refine lv_iload_n hx hb dX3_worthBehindOthers_57 rfl (lv_at hl 1 rfl) ?_
  refine al_x_38 C M dX3_worthBehindOthers_58 h (fun v13 h => ?_)
  refine z_icmp_lt (tgt := 64) hx hb dX3_worthBehindOthers_59 (by decide) h (fun h => ?_) (fun h => ?_)
  · refine lv_aload_n hx hb dX3_worthBehindOthers_64 rfl (lv_at hl 2 rfl) ?_
    refine gf_X3_9 C M dX3_worthBehindOthers_65 ?_
    refine lv_aload_n hx hb dX3_worthBehindOthers_68 rfl (lv_at hl 2 rfl) ?_
    refine gf_X3_15 C M dX3_worthBehindOthers_69 ?_
    refine lv_aload_n hx hb dX3_worthBehindOthers_72 rfl (lv_at hl 2 rfl) ?_
    refine gf_X3_18 C M dX3_worthBehindOthers_73 ?_
    refine lv_iload_n hx hb dX3_worthBehindOthers_76 rfl (lv_at hl 1 rfl) ?_
    refine al_x_37 C M dX3_worthBehindOthers_77 h (fun v14 h => ?_)
    refine al_x_36 C M dX3_worthBehindOthers_78 h (fun v15 h => ?_)
    refine al_x_35 C M dX3_worthBehindOthers_79 h (fun v16 h => ?_)
    refine lv_istore (lv' := [(4, .int (oI v16)), (3, .int (oI v3)), (2, .int (oI r1)), (0, .ref (a 5)), (1, .int (oI p1))]) hx hb dX3_worthBehindOthers_80 hl (by decide) rfl (fun ls hl => ?_)
    refine lv_aload_n hx hb dX3_worthBehindOthers_82 rfl (lv_at hl 3 rfl) ?_
    refine gf_X3_30 C M dX3_worthBehindOthers_83 ?_
    refine z_if_eq (tgt := 96) hx hb dX3_worthBehindOthers_86 (by decide) h (fun h => ?_) (fun h => ?_)
    · refine lv_iload hx hb dX3_worthBehindOthers_96 (lv_at hl 0 rfl) ?_
      exact xretI C hr M h rfl dX3_worthBehindOthers_98
    · refine lv_iload hx hb dX3_worthBehindOthers_89 (lv_at hl 0 rfl) ?_
      refine lv_iconst (v := oI 1) hx hb dX3_worthBehindOthers_91 (by decide) ?_
      refine z_iadd hx hb dX3_worthBehindOthers_92 ?_
      refine lv_goto (tgt := 98) hx hb dX3_worthBehindOthers_93 (by decide) ?_
      exact xretI C hr M h rfl dX3_worthBehindOthers_98
  · refine lv_iconst (v := oI (-1)) hx hb dX3_worthBehindOthers_62 (by decide) ?_
    exact xretI C hr M h rfl dX3_worthBehindOthers_63
