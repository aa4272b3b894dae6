set_option maxHeartbeats 4000000 in
set_option maxRecDepth 100000 in
theorem c_X6_delay {l : Launch} {D : va_G} {T : ClassId × ClassId} {a : Nat → Nat} {x : XS} {p1 : Int} {p2 : Int} {p3 : Int} {z : Int × XS} (h : f_X6_delay x p1 p2 p3 = some z) (sz : Nat) : xMetI l yX6_delay cX6_delay 4 .boolean { frames := 2, cells := 0, slots := 0, locals := 43 } D T (xW T a) sz [.ref (a 0), .int (oI p1), .int (oI p2), .int (oI p3)] x z := by
  refine xMetI_of (by decide) (Nat.le_of_ble_eq_true rfl) (xW_ad T a) ?_
  intro p e s m args below meth c A ls C hr M hl
  have hx := C.1
  have hb := C.2.1
  have hl : lv_has ls 4 [(0, .ref (a 0)), (1, .int (oI p1)), (2, .int (oI p2)), (3, .int (oI p3))] := hl
  have C : xcx RX6 cX6_delay 4 D T (xW T a) A p s m args meth c := C
  revert hl M
  generalize ([] : List Loc) = locs
  generalize s.heap = H
  intro M hl
  unfold f_X6_delay at h
  refine lv_aload_n hx hb dX6_delay_0 rfl (lv_at hl 0 rfl) ?_
  refine lv_iload_n hx hb dX6_delay_1 rfl (lv_at hl 1 rfl) ?_
  refine ci_X6_118 C M h ⟨Nat.le_of_ble_eq_true rfl, Nat.le_of_ble_eq_true rfl⟩ hl.1 (Nat.le_of_ble_eq_true rfl) dX6_delay_2 (fun r1 H locs x2 M nr1 h => ?_)
  refine x_jp_el h (fun jp3 ejp3 h => ?_)
  have hjp3 : ∀ (x4 : XS) (H : Heap) (locs : List Loc) (ls : Array Slot), jp3 x4 = some z → xmm D (xW T a) A s H locs x4 → lv_has ls 4 [(0, .ref (a 0))] → W p l e { frames := 2, cells := 0, slots := 0, locals := 43 } s m args below meth c H locs 0 0 (xQI below args s D (xW T a) .boolean z A) (F0 m 27 ls []) := by
    intro x4 H locs ls h M hl
    rw [ejp3] at h
    dsimp only at h
    refine lv_aload_n hx hb dX6_delay_27 rfl (lv_at hl 0 rfl) ?_
    refine lv_iconst (v := oI 1) hx hb dX6_delay_28 (by decide) ?_
    refine ci_X6_84 C M h ⟨Nat.le_of_ble_eq_true rfl, Nat.le_of_ble_eq_true rfl⟩ hl.1 (Nat.le_of_ble_eq_true rfl) dX6_delay_29 (fun r5 H locs x6 M nr5 h => ?_)
    exact xretI C hr M h nr5 dX6_delay_32
  refine z_if_eq (tgt := 27) hx hb dX6_delay_5 (by decide) h (fun h => ?_) (fun h => ?_)
  · exact hjp3 x2 H locs ls h M (lv_sub hl [0] rfl)
  · refine lv_iload_n hx hb dX6_delay_8 rfl (lv_at hl 2 rfl) ?_
    refine lv_iconst (v := oI 0) hx hb dX6_delay_9 (by decide) ?_
    refine lv_aload_n hx hb dX6_delay_10 rfl (lv_at hl 0 rfl) ?_
    refine gf_X6_19 C M dX6_delay_11 ?_
    refine gf_X6_125 C M dX6_delay_14 ?_
    refine lv_iload_n hx hb dX6_delay_17 rfl (lv_at hl 1 rfl) ?_
    refine al_x_16 C M dX6_delay_18 h (fun v7 h => ?_)
    refine lv_iconst (v := oI 1) hx hb dX6_delay_19 (by decide) ?_
    refine z_isub hx hb dX6_delay_20 ?_
    refine ci_X6_98 C M h ⟨Nat.le_of_ble_eq_true rfl, Nat.le_of_ble_eq_true rfl⟩ hl.1 (Nat.le_of_ble_eq_true rfl) dX6_delay_21 (fun r8 H locs x9 M nr8 h => ?_)
    refine z_if_ne (tgt := 33) hx hb dX6_delay_24 (by decide) h (fun h => ?_) (fun h => ?_)
    · refine lv_iload_n hx hb dX6_delay_33 rfl (lv_at hl 3 rfl) ?_
      refine lv_iconst (v := oI 0) hx hb dX6_delay_34 (by decide) ?_
      refine lv_sipush (v := oI 500) hx hb dX6_delay_35 (by decide) ?_
      refine ci_X6_98 C M h ⟨Nat.le_of_ble_eq_true rfl, Nat.le_of_ble_eq_true rfl⟩ hl.1 (Nat.le_of_ble_eq_true rfl) dX6_delay_38 (fun r10 H locs x11 M nr10 h => ?_)
      refine z_if_ne (tgt := 50) hx hb dX6_delay_41 (by decide) h (fun h => ?_) (fun h => ?_)
      · refine lv_aload_n hx hb dX6_delay_50 rfl (lv_at hl 0 rfl) ?_
        refine gf_X6_26 C M dX6_delay_51 ?_
        refine ci_X6_109 C M h ⟨Nat.le_of_ble_eq_true rfl, Nat.le_of_ble_eq_true rfl⟩ hl.1 (Nat.le_of_ble_eq_true rfl) dX6_delay_54 (fun r12 H locs x13 M nr12 h => ?_)
        refine z_if_eq (tgt := 66) hx hb dX6_delay_57 (by decide) h (fun h => ?_) (fun h => ?_)
        · refine lv_aload_n hx hb dX6_delay_66 rfl (lv_at hl 0 rfl) ?_
          refine gf_X6_19 C M dX6_delay_67 ?_
          refine gf_X6_121 C M dX6_delay_70 ?_
          refine lv_iload_n hx hb dX6_delay_73 rfl (lv_at hl 1 rfl) ?_
          refine al_x_19 C M dX6_delay_74 h (fun v14 h => ?_)
          refine z_if_eq (tgt := 84) hx hb dX6_delay_75 (by decide) h (fun h => ?_) (fun h => ?_)
          · refine lv_aload_n hx hb dX6_delay_84 rfl (lv_at hl 0 rfl) ?_
            refine gf_X6_26 C M dX6_delay_85 ?_
            refine lv_iconst (v := oI 2) hx hb dX6_delay_88 (by decide) ?_
            refine lv_aload_n hx hb dX6_delay_89 rfl (lv_at hl 0 rfl) ?_
            refine gf_X6_19 C M dX6_delay_90 ?_
            refine gf_X6_128 C M dX6_delay_93 ?_
            refine lv_iload_n hx hb dX6_delay_96 rfl (lv_at hl 1 rfl) ?_
            refine al_x_18 C M dX6_delay_97 h (fun v15 h => ?_)
            refine lv_iload_n hx hb dX6_delay_98 rfl (lv_at hl 2 rfl) ?_
            refine z_iadd hx hb dX6_delay_99 ?_
            refine lv_iload_n hx hb dX6_delay_100 rfl (lv_at hl 3 rfl) ?_
            refine lv_iconst (v := oI 0) hx hb dX6_delay_101 (by decide) ?_
            refine ci_X6_115 C M h ⟨Nat.le_of_ble_eq_true rfl, Nat.le_of_ble_eq_true rfl⟩ hl.1 (Nat.le_of_ble_eq_true rfl) dX6_delay_102 (fun H locs x17 M h => ?_)
            refine lv_aload_n hx hb dX6_delay_105 rfl (lv_at hl 0 rfl) ?_
            refine ci_X6_91 C M h ⟨Nat.le_of_ble_eq_true rfl, Nat.le_of_ble_eq_true rfl⟩ hl.1 (Nat.le_of_ble_eq_true rfl) dX6_delay_106 (fun r18 H locs x19 M nr18 h => ?_)
            exact xretI C hr M h nr18 dX6_delay_109
          · refine lv_aload_n hx hb dX6_delay_78 rfl (lv_at hl 0 rfl) ?_
            refine lv_iconst (v := oI 4) hx hb dX6_delay_79 (by decide) ?_
            refine ci_X6_84 C M h ⟨Nat.le_of_ble_eq_true rfl, Nat.le_of_ble_eq_true rfl⟩ hl.1 (Nat.le_of_ble_eq_true rfl) dX6_delay_80 (fun r20 H locs x21 M nr20 h => ?_)
            exact xretI C hr M h nr20 dX6_delay_83
        · refine lv_aload_n hx hb dX6_delay_60 rfl (lv_at hl 0 rfl) ?_
          refine lv_iconst (v := oI 3) hx hb dX6_delay_61 (by decide) ?_
          refine ci_X6_84 C M h ⟨Nat.le_of_ble_eq_true rfl, Nat.le_of_ble_eq_true rfl⟩ hl.1 (Nat.le_of_ble_eq_true rfl) dX6_delay_62 (fun r22 H locs x23 M nr22 h => ?_)
          exact xretI C hr M h nr22 dX6_delay_65
      · refine lv_aload_n hx hb dX6_delay_44 rfl (lv_at hl 0 rfl) ?_
        refine lv_iconst (v := oI 2) hx hb dX6_delay_45 (by decide) ?_
        refine ci_X6_84 C M h ⟨Nat.le_of_ble_eq_true rfl, Nat.le_of_ble_eq_true rfl⟩ hl.1 (Nat.le_of_ble_eq_true rfl) dX6_delay_46 (fun r24 H locs x25 M nr24 h => ?_)
        exact xretI C hr M h nr24 dX6_delay_49
    · exact hjp3 x9 H locs ls h M (lv_sub hl [0] rfl)
set_option maxHeartbeats 4000000 in
set_option maxRecDepth 100000 in
theorem c_X6_isTick {l : Launch} {D : va_G} {T : ClassId × ClassId} {a : Nat → Nat} {x : XS} {p1 : Int} {z : Int × XS} (h : f_X6_isTick x p1 = some z) (sz : Nat) : xMetI l yX6_isTick cX6_isTick 1 .boolean { frames := 1, cells := 0, slots := 0, locals := 22 } D T (xW T a) sz [.int (oI p1)] x z := by
  refine xMetI_of (by decide) (Nat.le_of_ble_eq_true rfl) (xW_ad T a) ?_
  intro p e s m args below meth c A ls C hr M hl
  have hx := C.1
  have hb := C.2.1
  have hl : lv_has ls 1 [(0, .int (oI p1))] := hl
  have C : xcx RX6 cX6_isTick 1 D T (xW T a) A p s m args meth c := C
  revert hl M
  generalize ([] : List Loc) = locs
  generalize s.heap = H
  intro M hl
  unfold f_X6_isTick at h
  refine lv_iload_n hx hb dX6_isTick_0 rfl (lv_at hl 0 rfl) ?_
  refine lv_iconst (v := oI 0) hx hb dX6_isTick_1 (by decide) ?_
  refine lv_sipush (v := oI 5000) hx hb dX6_isTick_2 (by decide) ?_
  refine ci_X6_98 C M h ⟨Nat.le_of_ble_eq_true rfl, Nat.le_of_ble_eq_true rfl⟩ hl.1 (Nat.le_of_ble_eq_true rfl) dX6_isTick_5 (fun r1 H locs x2 M nr1 h => ?_)
  exact xretI C hr M h nr1 dX6_isTick_8
theorem ci_X6_131 {cc : ByteArray} {nL : Nat} {D : va_G} {T : ClassId × ClassId} {a : Nat → Nat} {A : Nat → Prop} {p : Program} {l : Launch} {e : Env} {R : Room} {s : State} {m : MethodId} {args : Array Value} {below : List Frame} {meth : Method} {c : Code} {H : Heap} {locs : List Loc} {Q : State → Prop} {x : XS} {z : Int × XS} {pc : Nat} {ls : Array Slot} {rest : List Value} (C : xcx RX6 cc nL D T (xW T a) A p s m args meth c) (M : xmm D (xW T a) A s H locs x) {p1 : Int} {K : Int → XS → XR} (h : x_call (f_X6_isTick x p1) K = some z) (hR : 1 + 1 ≤ R.frames ∧ 8 + (1 + 11) + 22 ≤ R.locals) (hsz : ls.size = nL) (hrest : (rest.map fun v => v.category).sum ≤ 8) (hdg : decode cc pc = .ok (.invokestatic 131, 3)) (kk : ∀ (r : Int) (H1 : Heap) (locs1 : List Loc) (x1 : XS), xmm D (xW T a) A s H1 locs1 x1 → narrow .boolean (.int (oI r)) = .int (oI r) → K r x1 = some z → W p l e R s m args below meth c H1 locs1 0 0 Q (F0 m (pc + 3) ls (.int (oI r) :: rest))) : W p l e R s m args below meth c H locs 0 0 Q (F0 m pc ls (.int (oI p1) :: rest)) :=
  xcallI_S (As := [.int (oI p1)]) (n := 1) C M (fun zc sz ho => c_X6_isTick ho sz) bw_434 bw_432 bw_433 bw_84 rfl (by decide +kernel) ⟨rfl, rfl⟩ hR hsz rfl hrest hdg h kk
set_option maxHeartbeats 4000000 in
set_option maxRecDepth 100000 in
theorem c_X6_close {l : Launch} {D : va_G} {T : ClassId × ClassId} {a : Nat → Nat} {x : XS} {p1 : Int} {p2 : Int} {p3 : Int} {z : Int × XS} (h : f_X6_close x p1 p2 p3 = some z) (sz : Nat) : xMetI l yX6_close cX6_close 4 .boolean { frames := 2, cells := 0, slots := 0, locals := 43 } D T (xW T a) sz [.ref (a 0), .int (oI p1), .int (oI p2), .int (oI p3)] x z := by
  refine xMetI_of (by decide) (Nat.le_of_ble_eq_true rfl) (xW_ad T a) ?_
  intro p e s m args below meth c A ls C hr M hl
  have hx := C.1
  have hb := C.2.1
  have hl : lv_has ls 4 [(0, .ref (a 0)), (1, .int (oI p1)), (2, .int (oI p2)), (3, .int (oI p3))] := hl
  have C : xcx RX6 cX6_close 4 D T (xW T a) A p s m args meth c := C
  revert hl M
  generalize ([] : List Loc) = locs
  generalize s.heap = H
  intro M hl
  unfold f_X6_close at h
  refine lv_aload_n hx hb dX6_close_0 rfl (lv_at hl 0 rfl) ?_
  refine lv_iload_n hx hb dX6_close_1 rfl (lv_at hl 1 rfl) ?_
  refine ci_X6_80 C M h ⟨Nat.le_of_ble_eq_true rfl, Nat.le_of_ble_eq_true rfl⟩ hl.1 (Nat.le_of_ble_eq_true rfl) dX6_close_2 (fun r1 H locs x2 M nr1 h => ?_)
  refine z_if_ne (tgt := 14) hx hb dX6_close_5 (by decide) h (fun h => ?_) (fun h => ?_)
  · refine lv_iload_n hx hb dX6_close_14 rfl (lv_at hl 2 rfl) ?_
    refine ci_X6_131 C M h ⟨Nat.le_of_ble_eq_true rfl, Nat.le_of_ble_eq_true rfl⟩ hl.1 (Nat.le_of_ble_eq_true rfl) dX6_close_15 (fun r3 H locs x4 M nr3 h => ?_)
    refine x_jp_el h (fun jp5 ejp5 h => ?_)
    have hjp5 : ∀ (x6 : XS) (H : Heap) (locs : List Loc) (ls : Array Slot), jp5 x6 = some z → xmm D (xW T a) A s H locs x6 → lv_has ls 4 [(0, .ref (a 0))] → W p l e { frames := 2, cells := 0, slots := 0, locals := 43 } s m args below meth c H locs 0 0 (xQI below args s D (xW T a) .boolean z A) (F0 m 33 ls []) := by
      intro x6 H locs ls h M hl
      rw [ejp5] at h
      dsimp only at h
      refine lv_aload_n hx hb dX6_close_33 rfl (lv_at hl 0 rfl) ?_
      refine lv_iconst (v := oI 2) hx hb dX6_close_34 (by decide) ?_
      refine ci_X6_84 C M h ⟨Nat.le_of_ble_eq_true rfl, Nat.le_of_ble_eq_true rfl⟩ hl.1 (Nat.le_of_ble_eq_true rfl) dX6_close_35 (fun r7 H locs x8 M nr7 h => ?_)
      exact xretI C hr M h nr7 dX6_close_38
    refine z_if_eq (tgt := 33) hx hb dX6_close_18 (by decide) h (fun h => ?_) (fun h => ?_)
    · exact hjp5 x4 H locs ls h M (lv_sub hl [0] rfl)
    · refine lv_iload_n hx hb dX6_close_21 rfl (lv_at hl 3 rfl) ?_
      refine ci_X6_131 C M h ⟨Nat.le_of_ble_eq_true rfl, Nat.le_of_ble_eq_true rfl⟩ hl.1 (Nat.le_of_ble_eq_true rfl) dX6_close_22 (fun r9 H locs x10 M nr9 h => ?_)
      refine z_if_eq (tgt := 33) hx hb dX6_close_25 (by decide) h (fun h => ?_) (fun h => ?_)
      · exact hjp5 x10 H locs ls h M (lv_sub hl [0] rfl)
      · refine lv_iload_n hx hb dX6_close_28 rfl (lv_at hl 2 rfl) ?_
        refine lv_iload_n hx hb dX6_close_29 rfl (lv_at hl 3 rfl) ?_
        refine z_icmp_le (tgt := 39) hx hb dX6_close_30 (by decide) h (fun h => ?_) (fun h => ?_)
        · refine lv_aload_n hx hb dX6_close_39 rfl (lv_at hl 0 rfl) ?_
          refine gf_X6_26 C M dX6_close_40 ?_
          refine gf_X6_134 C M dX6_close_43 ?_
          refine lv_bipush (v := oI 60) hx hb dX6_close_46 (by decide) ?_
          refine x_jp_el h (fun jp11 ejp11 h => ?_)
          have hjp11 : ∀ (x12 : XS) (H : Heap) (locs : List Loc) (ls : Array Slot), jp11 x12 = some z → xmm D (xW T a) A s H locs x12 → lv_has ls 4 [(0, .ref (a 0))] → W p l e { frames := 2, cells := 0, slots := 0, locals := 43 } s m args below meth c H locs 0 0 (xQI below args s D (xW T a) .boolean z A) (F0 m 61 ls []) := by
            intro x12 H locs ls h M hl
            rw [ejp11] at h
            dsimp only at h
            refine lv_aload_n hx hb dX6_close_61 rfl (lv_at hl 0 rfl) ?_
            refine lv_iconst (v := oI 3) hx hb dX6_close_62 (by decide) ?_
            refine ci_X6_84 C M h ⟨Nat.le_of_ble_eq_true rfl, Nat.le_of_ble_eq_true rfl⟩ hl.1 (Nat.le_of_ble_eq_true rfl) dX6_close_63 (fun r13 H locs x14 M nr13 h => ?_)
            exact xretI C hr M h nr13 dX6_close_66
          refine z_icmp_ge (tgt := 61) hx hb dX6_close_48 (by decide) h (fun h => ?_) (fun h => ?_)
          · exact hjp11 x10 H locs ls h M (lv_sub hl [0] rfl)
          · refine lv_aload_n hx hb dX6_close_51 rfl (lv_at hl 0 rfl) ?_
            refine gf_X6_26 C M dX6_close_52 ?_
            refine ci_X6_109 C M h ⟨Nat.le_of_ble_eq_true rfl, Nat.le_of_ble_eq_true rfl⟩ hl.1 (Nat.le_of_ble_eq_true rfl) dX6_close_55 (fun r15 H locs x16 M nr15 h => ?_)
            refine z_if_eq (tgt := 67) hx hb dX6_close_58 (by decide) h (fun h => ?_) (fun h => ?_)
            · refine lv_aload_n hx hb dX6_close_67 rfl (lv_at hl 0 rfl) ?_
              refine gf_X6_26 C M dX6_close_68 ?_
              refine lv_iconst (v := oI 3) hx hb dX6_close_71 (by decide) ?_
              refine lv_iload_n hx hb dX6_close_72 rfl (lv_at hl 1 rfl) ?_
              refine lv_iload_n hx hb dX6_close_73 rfl (lv_at hl 2 rfl) ?_
              refine lv_iload_n hx hb dX6_close_74 rfl (lv_at hl 3 rfl) ?_
              refine ci_X6_115 C M h ⟨Nat.le_of_ble_eq_true rfl, Nat.le_of_ble_eq_true rfl⟩ hl.1 (Nat.le_of_ble_eq_true rfl) dX6_close_75 (fun H locs x18 M h => ?_)
              refine lv_aload_n hx hb dX6_close_78 rfl (lv_at hl 0 rfl) ?_
              refine ci_X6_91 C M h ⟨Nat.le_of_ble_eq_true rfl, Nat.le_of_ble_eq_true rfl⟩ hl.1 (Nat.le_of_ble_eq_true rfl) dX6_close_79 (fun r19 H locs x20 M nr19 h => ?_)
              exact xretI C hr M h nr19 dX6_close_82
            · exact hjp11 x16 H locs ls h M (lv_sub hl [0] rfl)
        · exact hjp5 x10 H locs ls h M (lv_sub hl [0] rfl)
  · refine lv_aload_n hx hb dX6_close_8 rfl (lv_at hl 0 rfl) ?_
    refine lv_iconst (v := oI 1) hx hb dX6_close_9 (by decide) ?_
    refine ci_X6_84 C M h ⟨Nat.le_of_ble_eq_true rfl, Nat.le_of_ble_eq_true rfl⟩ hl.1 (Nat.le_of_ble_eq_true rfl) dX6_close_10 (fun r21 H locs x22 M nr21 h => ?_)
    exact xretI C hr M h nr21 dX6_close_13
set_option maxHeartbeats 4000000 in
set_option maxRecDepth 100000 in
theorem c_X6_changes {l : Launch} {D : va_G} {T : ClassId × ClassId} {a : Nat → Nat} {x : XS} {z : Int × XS} (h : f_X6_changes x = some z) (sz : Nat) : xMetI l yX6_changes cX6_changes 1 .int { frames := 1, cells := 0, slots := 0, locals := 21 } D T (xW T a) sz [.ref (a 0)] x z := by
  refine xMetI_of (by decide) (Nat.le_of_ble_eq_true rfl) (xW_ad T a) ?_
  intro p e s m args below meth c A ls C hr M hl
  have hx := C.1
  have hb := C.2.1
  have hl : lv_has ls 1 [(0, .ref (a 0))] := hl
  have C : xcx RX6 cX6_changes 1 D T (xW T a) A p s m args meth c := C
  revert hl M
  generalize ([] : List Loc) = locs
  generalize s.heap = H
  intro M hl
  unfold f_X6_changes at h
  refine lv_aload_n hx hb dX6_changes_0 rfl (lv_at hl 0 rfl) ?_
  refine lv_aload_n hx hb dX6_changes_1 rfl (lv_at hl 0 rfl) ?_
  refine gf_X6_26 C M dX6_changes_2 ?_
  refine gf_X6_137 C M dX6_changes_5 ?_
  refine ci_X6_77 C M h ⟨Nat.le_of_ble_eq_true rfl, Nat.le_of_ble_eq_true rfl⟩ hl.1 (Nat.le_of_ble_eq_true rfl) dX6_changes_8 (fun r1 H locs x2 M nr1 h => ?_)
  exact xretI C hr M h rfl dX6_changes_11
set_option maxHeartbeats 4000000 in
set_option maxRecDepth 100000 in
theorem c_X1_removeLatest {l : Launch} {D : va_G} {T : ClassId × ClassId} {a : Nat → Nat} {x : XS} {z : Int × XS} (h : f_X1_removeLatest x = some z) (sz : Nat) : xMetV l yX1_removeLatest cX1_removeLatest 1 { frames := 0, cells := 0, slots := 0, locals := 0 } D T (xW T a) sz [.ref (a 3)] x z := by
  refine xMetV_of (by decide) (Nat.le_of_ble_eq_true rfl) (xW_ad T a) ?_
  intro p e s m args below meth c A ls C hr M hl
  have hx := C.1
  have hb := C.2.1
  have hl : lv_has ls 1 [(0, .ref (a 3))] := hl
  have C : xcx RX1 cX1_removeLatest 1 D T (xW T a) A p s m args meth c := C
  revert hl M
  generalize ([] : List Loc) = locs
  generalize s.heap = H
  intro M hl
  unfold f_X1_removeLatest at h
  refine lv_aload_n hx hb dX1_removeLatest_0 rfl (lv_at hl 0 rfl) ?_
  refine gf_X1_24 C M dX1_removeLatest_1 ?_
  refine z_if_le (tgt := 40) hx hb dX1_removeLatest_4 (by decide) h (fun h => ?_) (fun h => ?_)
  · exact xretV C hr M h dX1_removeLatest_40
  · refine lv_aload_n hx hb dX1_removeLatest_7 rfl (lv_at hl 0 rfl) ?_
    refine lv_dup hx hb dX1_removeLatest_8 rfl ?_
    refine gf_X1_24 C M dX1_removeLatest_9 ?_
    refine lv_iconst (v := oI 1) hx hb dX1_removeLatest_12 (by decide) ?_
    refine z_isub hx hb dX1_removeLatest_13 ?_
    refine pf_X1_24 C M dX1_removeLatest_14 h (fun H locs x1 M h => ?_)
    refine lv_aload_n hx hb dX1_removeLatest_17 rfl (lv_at hl 0 rfl) ?_
    refine gf_X1_9 C M dX1_removeLatest_18 ?_
    refine lv_aload_n hx hb dX1_removeLatest_21 rfl (lv_at hl 0 rfl) ?_
    refine gf_X1_24 C M dX1_removeLatest_22 ?_
    refine al_x_20 C M dX1_removeLatest_25 h (fun v2 h => ?_)
    refine lv_iconst (v := oI 3) hx hb dX1_removeLatest_26 (by decide) ?_
    refine z_icmp_ne (tgt := 40) hx hb dX1_removeLatest_27 (by decide) h (fun h => ?_) (fun h => ?_)
    · exact xretV C hr M h dX1_removeLatest_40
    · refine lv_aload_n hx hb dX1_removeLatest_30 rfl (lv_at hl 0 rfl) ?_
      refine lv_dup hx hb dX1_removeLatest_31 rfl ?_
      refine gf_X1_28 C M dX1_removeLatest_32 ?_
      refine lv_iconst (v := oI 1) hx hb dX1_removeLatest_35 (by decide) ?_
      refine z_isub hx hb dX1_removeLatest_36 ?_
      refine pf_X1_28 C M dX1_removeLatest_37 h (fun H locs x3 M h => ?_)
      exact xretV C hr M h dX1_removeLatest_40
set_option maxHeartbeats 4000000 in
set_option maxRecDepth 100000 in
theorem c_X0_removeLatest {l : Launch} {D : va_G} {T : ClassId × ClassId} {a : Nat → Nat} {x : XS} {z : Int × XS} (h : f_X0_removeLatest x = some z) (sz : Nat) : xMetV l yX0_removeLatest cX0_removeLatest 1 { frames := 0, cells := 0, slots := 0, locals := 0 } D T (xW T a) sz [.ref (a 2)] x z := by
  refine xMetV_of (by decide) (Nat.le_of_ble_eq_true rfl) (xW_ad T a) ?_
  intro p e s m args below meth c A ls C hr M hl
  have hx := C.1
  have hb := C.2.1
  have hl : lv_has ls 1 [(0, .ref (a 2))] := hl
  have C : xcx RX0 cX0_removeLatest 1 D T (xW T a) A p s m args meth c := C
  revert hl M
  generalize ([] : List Loc) = locs
  generalize s.heap = H
  intro M hl
  unfold f_X0_removeLatest at h
  refine lv_aload_n hx hb dX0_removeLatest_0 rfl (lv_at hl 0 rfl) ?_
  refine gf_X0_40 C M dX0_removeLatest_1 ?_
  refine z_if_le (tgt := 35) hx hb dX0_removeLatest_4 (by decide) h (fun h => ?_) (fun h => ?_)
  · exact xretV C hr M h dX0_removeLatest_35
  · refine lv_aload_n hx hb dX0_removeLatest_7 rfl (lv_at hl 0 rfl) ?_
    refine lv_dup hx hb dX0_removeLatest_8 rfl ?_
    refine gf_X0_40 C M dX0_removeLatest_9 ?_
    refine lv_iconst (v := oI 1) hx hb dX0_removeLatest_12 (by decide) ?_
    refine z_isub hx hb dX0_removeLatest_13 ?_
    refine pf_X0_40 C M dX0_removeLatest_14 h (fun H locs x1 M h => ?_)
    refine lv_aload_n hx hb dX0_removeLatest_17 rfl (lv_at hl 0 rfl) ?_
    refine lv_dup hx hb dX0_removeLatest_18 rfl ?_
    refine gf_X0_44 C M dX0_removeLatest_19 ?_
    refine lv_aload_n hx hb dX0_removeLatest_22 rfl (lv_at hl 0 rfl) ?_
    refine gf_X0_27 C M dX0_removeLatest_23 ?_
    refine lv_aload_n hx hb dX0_removeLatest_26 rfl (lv_at hl 0 rfl) ?_
    refine gf_X0_40 C M dX0_removeLatest_27 ?_
    refine al_x_16 C M dX0_removeLatest_30 h (fun v2 h => ?_)
    refine z_isub hx hb dX0_removeLatest_31 ?_
    refine pf_X0_44 C M dX0_removeLatest_32 h (fun H locs x3 M h => ?_)
    exact xretV C hr M h dX0_removeLatest_35
set_option maxHeartbeats 4000000 in
set_option maxRecDepth 100000 in
theorem c_X5_forget {l : Launch} {D : va_G} {T : ClassId × ClassId} {a : Nat → Nat} {x : XS} {z : Int × XS} (h : f_X5_forget x = some z) (sz : Nat) : xMetV l yX5_forget cX5_forget 1 { frames := 0, cells := 0, slots := 0, locals := 0 } D T (xW T a) sz [.ref (a 4)] x z := by
  refine xMetV_of (by decide) (Nat.le_of_ble_eq_true rfl) (xW_ad T a) ?_
  intro p e s m args below meth c A ls C hr M hl
  have hx := C.1
  have hb := C.2.1
  have hl : lv_has ls 1 [(0, .ref (a 4))] := hl
  have C : xcx RX5 cX5_forget 1 D T (xW T a) A p s m args meth c := C
  revert hl M
  generalize ([] : List Loc) = locs
  generalize s.heap = H
  intro M hl
  unfold f_X5_forget at h
  refine lv_aload_n hx hb dX5_forget_0 rfl (lv_at hl 0 rfl) ?_
  refine lv_iconst (v := oI (-1)) hx hb dX5_forget_1 (by decide) ?_
  refine pf_X5_63 C M dX5_forget_2 h (fun H locs x1 M h => ?_)
  exact xretV C hr M h dX5_forget_5
theorem ci_X6_144 {cc : ByteArray} {nL : Nat} {D : va_G} {T : ClassId × ClassId} {a : Nat → Nat} {A : Nat → Prop} {p : Program} {l : Launch} {e : Env} {R : Room} {s : State} {m : MethodId} {args : Array Value} {below : List Frame} {meth : Method} {c : Code} {H : Heap} {locs : List Loc} {Q : State → Prop} {x : XS} {z : Int × XS} {pc : Nat} {ls : Array Slot} {rest : List Value} (C : xcx RX6 cc nL D T (xW T a) A p s m args meth c) (M : xmm D (xW T a) A s H locs x) {K : Int → XS → XR} (h : x_call (f_X1_removeLatest x) K = some z) (hR : 0 + 1 ≤ R.frames ∧ 8 + (1 + 11) + 0 ≤ R.locals) (hsz : ls.size = nL) (hrest : (rest.map fun v => v.category).sum ≤ 8) (hdg : decode cc pc = .ok (.invokevirtual 144, 3)) (kk : ∀ (H1 : Heap) (locs1 : List Loc) (x1 : XS), xmm D (xW T a) A s H1 locs1 x1 → K 0 x1 = some z → W p l e R s m args below meth c H1 locs1 0 0 Q (F0 m (pc + 3) ls rest)) : W p l e R s m args below meth c H locs 0 0 Q (F0 m pc ls (.ref (a 3) :: rest)) :=
  xcallV_N (As := []) (n := 0) C M (fun zc sz ho => c_X1_removeLatest ho sz) bw_446 bw_443 bw_445 bw_12 bw_87 rfl (by decide +kernel) 3 rfl rfl ⟨rfl, rfl⟩ hR hsz rfl hrest hdg h kk
theorem ci_X6_148 {cc : ByteArray} {nL : Nat} {D : va_G} {T : ClassId × ClassId} {a : Nat → Nat} {A : Nat → Prop} {p : Program} {l : Launch} {e : Env} {R : Room} {s : State} {m : MethodId} {args : Array Value} {below : List Frame} {meth : Method} {c : Code} {H : Heap} {locs : List Loc} {Q : State → Prop} {x : XS} {z : Int × XS} {pc : Nat} {ls : Array Slot} {rest : List Value} (C : xcx RX6 cc nL D T (xW T a) A p s m args meth c) (M : xmm D (xW T a) A s H locs x) {K : Int → XS → XR} (h : x_call (f_X5_forget x) K = some z) (hR : 0 + 1 ≤ R.frames ∧ 8 + (1 + 11) + 0 ≤ R.locals) (hsz : ls.size = nL) (hrest : (rest.map fun v => v.category).sum ≤ 8) (hdg : decode cc pc = .ok (.invokevirtual 148, 3)) (kk : ∀ (H1 : Heap) (locs1 : List Loc) (x1 : XS), xmm D (xW T a) A s H1 locs1 x1 → K 0 x1 = some z → W p l e R s m args below meth c H1 locs1 0 0 Q (F0 m (pc + 3) ls rest)) : W p l e R s m args below meth c H locs 0 0 Q (F0 m pc ls (.ref (a 4) :: rest)) :=
  xcallV_N (As := []) (n := 0) C M (fun zc sz ho => c_X5_forget ho sz) bw_454 bw_451 bw_453 bw_14 bw_88 rfl (by decide +kernel) 4 rfl rfl ⟨rfl, rfl⟩ hR hsz rfl hrest hdg h kk
theorem ci_X6_147 {cc : ByteArray} {nL : Nat} {D : va_G} {T : ClassId × ClassId} {a : Nat → Nat} {A : Nat → Prop} {p : Program} {l : Launch} {e : Env} {R : Room} {s : State} {m : MethodId} {args : Array Value} {below : List Frame} {meth : Method} {c : Code} {H : Heap} {locs : List Loc} {Q : State → Prop} {x : XS} {z : Int × XS} {pc : Nat} {ls : Array Slot} {rest : List Value} (C : xcx RX6 cc nL D T (xW T a) A p s m args meth c) (M : xmm D (xW T a) A s H locs x) {K : Int → XS → XR} (h : x_call (f_X0_removeLatest x) K = some z) (hR : 0 + 1 ≤ R.frames ∧ 8 + (1 + 11) + 0 ≤ R.locals) (hsz : ls.size = nL) (hrest : (rest.map fun v => v.category).sum ≤ 8) (hdg : decode cc pc = .ok (.invokevirtual 147, 3)) (kk : ∀ (H1 : Heap) (locs1 : List Loc) (x1 : XS), xmm D (xW T a) A s H1 locs1 x1 → K 0 x1 = some z → W p l e R s m args below meth c H1 locs1 0 0 Q (F0 m (pc + 3) ls rest)) : W p l e R s m args below meth c H locs 0 0 Q (F0 m pc ls (.ref (a 2) :: rest)) :=
  xcallV_N (As := []) (n := 0) C M (fun zc sz ho => c_X0_removeLatest ho sz) bw_450 bw_447 bw_449 bw_13 bw_86 rfl (by decide +kernel) 2 rfl rfl ⟨rfl, rfl⟩ hR hsz rfl hrest hdg h kk
set_option maxHeartbeats 4000000 in
set_option maxRecDepth 100000 in
theorem c_X6_undo {l : Launch} {D : va_G} {T : ClassId × ClassId} {a : Nat → Nat} {x : XS} {z : Int × XS} (h : f_X6_undo x = some z) (sz : Nat) : xMetI l yX6_undo cX6_undo 3 .boolean { frames := 1, cells := 0, slots := 0, locals := 21 } D T (xW T a) sz [.ref (a 0)] x z := by
  refine xMetI_of (by decide) (Nat.le_of_ble_eq_true rfl) (xW_ad T a) ?_
  intro p e s m args below meth c A ls C hr M hl
  have hx := C.1
  have hb := C.2.1
  have hl : lv_has ls 3 [(0, .ref (a 0))] := hl
  have C : xcx RX6 cX6_undo 3 D T (xW T a) A p s m args meth c := C
  revert hl M
  generalize ([] : List Loc) = locs
  generalize s.heap = H
  intro M hl
  unfold f_X6_undo at h
  refine lv_aload_n hx hb dX6_undo_0 rfl (lv_at hl 0 rfl) ?_
  refine gf_X6_26 C M dX6_undo_1 ?_
  refine gf_X6_137 C M dX6_undo_4 ?_
  refine z_if_ne (tgt := 17) hx hb dX6_undo_7 (by decide) h (fun h => ?_) (fun h => ?_)
  · refine lv_aload_n hx hb dX6_undo_17 rfl (lv_at hl 0 rfl) ?_
    refine gf_X6_26 C M dX6_undo_18 ?_
    refine gf_X6_138 C M dX6_undo_21 ?_
    refine lv_aload_n hx hb dX6_undo_24 rfl (lv_at hl 0 rfl) ?_
    refine gf_X6_26 C M dX6_undo_25 ?_
    refine gf_X6_137 C M dX6_undo_28 ?_
    refine lv_iconst (v := oI 1) hx hb dX6_undo_31 (by decide) ?_
    refine z_isub hx hb dX6_undo_32 ?_
    refine al_x_20 C M dX6_undo_33 h (fun v1 h => ?_)
    refine lv_istore_n (lv' := [(1, .int (oI v1)), (0, .ref (a 0))]) hx hb dX6_undo_34 rfl hl (by decide) rfl (fun ls hl => ?_)
    refine lv_aload_n hx hb dX6_undo_35 rfl (lv_at hl 1 rfl) ?_
    refine gf_X6_26 C M dX6_undo_36 ?_
    refine gf_X6_141 C M dX6_undo_39 ?_
    refine lv_aload_n hx hb dX6_undo_42 rfl (lv_at hl 1 rfl) ?_
    refine gf_X6_26 C M dX6_undo_43 ?_
    refine gf_X6_137 C M dX6_undo_46 ?_
    refine lv_iconst (v := oI 1) hx hb dX6_undo_49 (by decide) ?_
    refine z_isub hx hb dX6_undo_50 ?_
    refine al_x_21 C M dX6_undo_51 h (fun v2 h => ?_)
    refine lv_istore_n (lv' := [(2, .int (oI v2)), (1, .int (oI v1)), (0, .ref (a 0))]) hx hb dX6_undo_52 rfl hl (by decide) rfl (fun ls hl => ?_)
    refine lv_aload_n hx hb dX6_undo_53 rfl (lv_at hl 2 rfl) ?_
    refine gf_X6_26 C M dX6_undo_54 ?_
    refine ci_X6_144 C M h ⟨Nat.le_of_ble_eq_true rfl, Nat.le_of_ble_eq_true rfl⟩ hl.1 (Nat.le_of_ble_eq_true rfl) dX6_undo_57 (fun H locs x4 M h => ?_)
    refine lv_iload_n hx hb dX6_undo_60 rfl (lv_at hl 1 rfl) ?_
    refine x_jp_el h (fun jp5 ejp5 h => ?_)
    have hjp5 : ∀ (x6 : XS) (H : Heap) (locs : List Loc) (ls : Array Slot), jp5 x6 = some z → xmm D (xW T a) A s H locs x6 → lv_has ls 3 [(0, .ref (a 0))] → W p l e { frames := 1, cells := 0, slots := 0, locals := 21 } s m args below meth c H locs 0 0 (xQI below args s D (xW T a) .boolean z A) (F0 m 89 ls []) := by
      intro x6 H locs ls h M hl
      rw [ejp5] at h
      dsimp only at h
      refine lv_aload_n hx hb dX6_undo_89 rfl (lv_at hl 0 rfl) ?_
      refine gf_X6_35 C M dX6_undo_90 ?_
      refine ci_X6_148 C M h ⟨Nat.le_of_ble_eq_true rfl, Nat.le_of_ble_eq_true rfl⟩ hl.1 (Nat.le_of_ble_eq_true rfl) dX6_undo_93 (fun H locs x8 M h => ?_)
      refine lv_aload_n hx hb dX6_undo_96 rfl (lv_at hl 0 rfl) ?_
      refine ci_X6_91 C M h ⟨Nat.le_of_ble_eq_true rfl, Nat.le_of_ble_eq_true rfl⟩ hl.1 (Nat.le_of_ble_eq_true rfl) dX6_undo_97 (fun r9 H locs x10 M nr9 h => ?_)
      exact xretI C hr M h nr9 dX6_undo_100
    refine z_if_ne (tgt := 74) hx hb dX6_undo_61 (by decide) h (fun h => ?_) (fun h => ?_)
    · refine lv_iload_n hx hb dX6_undo_74 rfl (lv_at hl 1 rfl) ?_
      refine lv_iconst (v := oI 1) hx hb dX6_undo_75 (by decide) ?_
      refine z_icmp_ne (tgt := 89) hx hb dX6_undo_76 (by decide) h (fun h => ?_) (fun h => ?_)
      · exact hjp5 x4 H locs ls h M (lv_sub hl [2] rfl)
      · refine lv_aload_n hx hb dX6_undo_79 rfl (lv_at hl 2 rfl) ?_
        refine gf_X6_19 C M dX6_undo_80 ?_
        refine gf_X6_121 C M dX6_undo_83 ?_
        refine lv_iload_n hx hb dX6_undo_86 rfl (lv_at hl 0 rfl) ?_
        refine lv_iconst (v := oI 0) hx hb dX6_undo_87 (by decide) ?_
        refine as_x_19 C M dX6_undo_88 h (fun H locs x11 M h => ?_)
        exact hjp5 x11 H locs ls h M (lv_sub hl [2] rfl)
    · refine lv_aload_n hx hb dX6_undo_64 rfl (lv_at hl 2 rfl) ?_
      refine gf_X6_19 C M dX6_undo_65 ?_
      refine ci_X6_147 C M h ⟨Nat.le_of_ble_eq_true rfl, Nat.le_of_ble_eq_true rfl⟩ hl.1 (Nat.le_of_ble_eq_true rfl) dX6_undo_68 (fun H locs x13 M h => ?_)
      refine lv_goto (tgt := 89) hx hb dX6_undo_71 (by decide) ?_
      exact hjp5 x13 H locs ls h M (lv_sub hl [2] rfl)
  · refine lv_aload_n hx hb dX6_undo_10 rfl (lv_at hl 0 rfl) ?_
    refine lv_bipush (v := oI 6) hx hb dX6_undo_11 (by decide) ?_
    refine ci_X6_84 C M h ⟨Nat.le_of_ble_eq_true rfl, Nat.le_of_ble_eq_true rfl⟩ hl.1 (Nat.le_of_ble_eq_true rfl) dX6_undo_13 (fun r14 H locs x15 M nr14 h => ?_)
    exact xretI C hr M h nr14 dX6_undo_16
set_option maxHeartbeats 4000000 in
set_option maxRecDepth 100000 in
theorem c_X0_tell {l : Launch} {D : va_G} {T : ClassId × ClassId} {a : Nat → Nat} {x : XS} {p1 : Int} {p2 : Int} {z : Int × XS} (h : f_X0_tell x p1 p2 = some z) (sz : Nat) : xMetI l yX0_tell cX0_tell 3 .int { frames := 0, cells := 0, slots := 0, locals := 0 } D T (xW T a) sz [.ref (a 2), .int (oI p1), .int (oI p2)] x z := by
  refine xMetI_of (by decide) (Nat.le_of_ble_eq_true rfl) (xW_ad T a) ?_
  intro p e s m args below meth c A ls C hr M hl
  have hx := C.1
  have hb := C.2.1
  have hl : lv_has ls 3 [(0, .ref (a 2)), (1, .int (oI p1)), (2, .int (oI p2))] := hl
  have C : xcx RX0 cX0_tell 3 D T (xW T a) A p s m args meth c := C
  revert hl M
  generalize ([] : List Loc) = locs
  generalize s.heap = H
  intro M hl
  unfold f_X0_tell at h
  refine lv_iload_n hx hb dX0_tell_0 rfl (lv_at hl 2 rfl) ?_
  refine x_ts_el h (fun hs0 h => ?_) (fun hrg hs0 h => ?_)
  · refine lv_tableIn (off := 43) (tgt := 44) hx hb dX0_tell_1 (by rw [hs0]; decide) (by rw [hs0]; decide) (by rw [hs0]; rfl) (by decide) ?_
    refine lv_aload_n hx hb dX0_tell_44 rfl (lv_at hl 0 rfl) ?_
    refine gf_X0_9 C M dX0_tell_45 ?_
    refine lv_iload_n hx hb dX0_tell_48 rfl (lv_at hl 1 rfl) ?_
    refine al_x_11 C M dX0_tell_49 h (fun v1 h => ?_)
    exact xretI C hr M h rfl dX0_tell_50
  refine x_ts_el h (fun hs1 h => ?_) (fun hrg hs1 h => ?_)
  · refine lv_tableIn (off := 50) (tgt := 51) hx hb dX0_tell_1 (by rw [hs1]; decide) (by rw [hs1]; decide) (by rw [hs1]; rfl) (by decide) ?_
    refine lv_aload_n hx hb dX0_tell_51 rfl (lv_at hl 0 rfl) ?_
    refine gf_X0_15 C M dX0_tell_52 ?_
    refine lv_iload_n hx hb dX0_tell_55 rfl (lv_at hl 1 rfl) ?_
    refine al_x_12 C M dX0_tell_56 h (fun v2 h => ?_)
    exact xretI C hr M h rfl dX0_tell_57
  refine x_ts_el h (fun hs2 h => ?_) (fun hrg hs2 h => ?_)
  · refine lv_tableIn (off := 57) (tgt := 58) hx hb dX0_tell_1 (by rw [hs2]; decide) (by rw [hs2]; decide) (by rw [hs2]; rfl) (by decide) ?_
    refine lv_aload_n hx hb dX0_tell_58 rfl (lv_at hl 0 rfl) ?_
    refine gf_X0_18 C M dX0_tell_59 ?_
    refine lv_iload_n hx hb dX0_tell_62 rfl (lv_at hl 1 rfl) ?_
    refine al_x_13 C M dX0_tell_63 h (fun v3 h => ?_)
    exact xretI C hr M h rfl dX0_tell_64
  refine x_ts_el h (fun hs3 h => ?_) (fun hrg hs3 h => ?_)
  · refine lv_tableIn (off := 64) (tgt := 65) hx hb dX0_tell_1 (by rw [hs3]; decide) (by rw [hs3]; decide) (by rw [hs3]; rfl) (by decide) ?_
    refine lv_aload_n hx hb dX0_tell_65 rfl (lv_at hl 0 rfl) ?_
    refine gf_X0_21 C M dX0_tell_66 ?_
    refine lv_iload_n hx hb dX0_tell_69 rfl (lv_at hl 1 rfl) ?_
    refine al_x_14 C M dX0_tell_70 h (fun v4 h => ?_)
    exact xretI C hr M h rfl dX0_tell_71
  refine x_ts_el h (fun hs4 h => ?_) (fun hrg hs4 h => ?_)
  · refine lv_tableIn (off := 71) (tgt := 72) hx hb dX0_tell_1 (by rw [hs4]; decide) (by rw [hs4]; decide) (by rw [hs4]; rfl) (by decide) ?_
    refine lv_aload_n hx hb dX0_tell_72 rfl (lv_at hl 0 rfl) ?_
    refine gf_X0_24 C M dX0_tell_73 ?_
    refine lv_iload_n hx hb dX0_tell_76 rfl (lv_at hl 1 rfl) ?_
    refine al_x_15 C M dX0_tell_77 h (fun v5 h => ?_)
    exact xretI C hr M h rfl dX0_tell_78
  refine x_ts_el h (fun hs5 h => ?_) (fun hrg hs5 h => ?_)
  · refine lv_tableIn (off := 78) (tgt := 79) hx hb dX0_tell_1 (by rw [hs5]; decide) (by rw [hs5]; decide) (by rw [hs5]; rfl) (by decide) ?_
    refine lv_aload_n hx hb dX0_tell_79 rfl (lv_at hl 0 rfl) ?_
    refine gf_X0_27 C M dX0_tell_80 ?_
    refine lv_iload_n hx hb dX0_tell_83 rfl (lv_at hl 1 rfl) ?_
    refine al_x_16 C M dX0_tell_84 h (fun v6 h => ?_)
    exact xretI C hr M h rfl dX0_tell_85
  refine x_ts_el h (fun hs6 h => ?_) (fun hrg hs6 h => ?_)
  · refine lv_tableIn (off := 85) (tgt := 86) hx hb dX0_tell_1 (by rw [hs6]; decide) (by rw [hs6]; decide) (by rw [hs6]; rfl) (by decide) ?_
    refine lv_aload_n hx hb dX0_tell_86 rfl (lv_at hl 0 rfl) ?_
    refine gf_X0_30 C M dX0_tell_87 ?_
    refine lv_iload_n hx hb dX0_tell_90 rfl (lv_at hl 1 rfl) ?_
    refine al_x_17 C M dX0_tell_91 h (fun v7 h => ?_)
    exact xretI C hr M h rfl dX0_tell_92
  refine lv_tableOut (tgt := 93) hx hb dX0_tell_1 (x_out7 hrg hs0 hs1 hs2 hs3 hs4 hs5 hs6) (by decide) ?_
  refine lv_aload_n hx hb dX0_tell_93 rfl (lv_at hl 0 rfl) ?_
  refine gf_X0_36 C M dX0_tell_94 ?_
  refine lv_iload_n hx hb dX0_tell_97 rfl (lv_at hl 1 rfl) ?_
  refine al_x_19 C M dX0_tell_98 h (fun v8 h => ?_)
  refine z_if_eq (tgt := 106) hx hb dX0_tell_99 (by decide) h (fun h => ?_) (fun h => ?_)
  · refine lv_iconst (v := oI 0) hx hb dX0_tell_106 (by decide) ?_
    exact xretI C hr M h rfl dX0_tell_107
  · refine lv_iconst (v := oI 1) hx hb dX0_tell_102 (by decide) ?_
    refine lv_goto (tgt := 107) hx hb dX0_tell_103 (by decide) ?_
    exact xretI C hr M h rfl dX0_tell_107
theorem ci_X6_151 {cc : ByteArray} {nL : Nat} {D : va_G} {T : ClassId × ClassId} {a : Nat → Nat} {A : Nat → Prop} {p : Program} {l : Launch} {e : Env} {R : Room} {s : State} {m : MethodId} {args : Array Value} {below : List Frame} {meth : Method} {c : Code} {H : Heap} {locs : List Loc} {Q : State → Prop} {x : XS} {z : Int × XS} {pc : Nat} {ls : Array Slot} {rest : List Value} (C : xcx RX6 cc nL D T (xW T a) A p s m args meth c) (M : xmm D (xW T a) A s H locs x) {p1 p2 : Int} {K : Int → XS → XR} (h : x_call (f_X0_tell x p1 p2) K = some z) (hR : 0 + 1 ≤ R.frames ∧ 8 + (3 + 11) + 0 ≤ R.locals) (hsz : ls.size = nL) (hrest : (rest.map fun v => v.category).sum ≤ 8) (hdg : decode cc pc = .ok (.invokevirtual 151, 3)) (kk : ∀ (r : Int) (H1 : Heap) (locs1 : List Loc) (x1 : XS), xmm D (xW T a) A s H1 locs1 x1 → narrow .int (.int (oI r)) = .int (oI r) → K r x1 = some z → W p l e R s m args below meth c H1 locs1 0 0 Q (F0 m (pc + 3) ls (.int (oI r) :: rest))) : W p l e R s m args below meth c H locs 0 0 Q (F0 m pc ls (.int (oI p2) :: .int (oI p1) :: .ref (a 2) :: rest)) :=
  xcallI_N (As := [.int (oI p1), .int (oI p2)]) (n := 2) C M (fun zc sz ho => c_X0_tell ho sz) bw_462 bw_459 bw_461 bw_15 bw_86 rfl (by decide +kernel) 2 rfl rfl ⟨rfl, rfl⟩ hR hsz rfl hrest hdg h kk
set_option maxHeartbeats 4000000 in
set_option maxRecDepth 100000 in
theorem c_X6_told {l : Launch} {D : va_G} {T : ClassId × ClassId} {a : Nat → Nat} {x : XS} {p1 : Int} {p2 : Int} {z : Int × XS} (h : f_X6_told x p1 p2 = some z) (sz : Nat) : xMetI l yX6_told cX6_told 3 .int { frames := 2, cells := 0, slots := 0, locals := 43 } D T (xW T a) sz [.ref (a 0), .int (oI p1), .int (oI p2)] x z := by
  refine xMetI_of (by decide) (Nat.le_of_ble_eq_true rfl) (xW_ad T a) ?_
  intro p e s m args below meth c A ls C hr M hl
  have hx := C.1
  have hb := C.2.1
  have hl : lv_has ls 3 [(0, .ref (a 0)), (1, .int (oI p1)), (2, .int (oI p2))] := hl
  have C : xcx RX6 cX6_told 3 D T (xW T a) A p s m args meth c := C
  revert hl M
  generalize ([] : List Loc) = locs
  generalize s.heap = H
  intro M hl
  unfold f_X6_told at h
  refine lv_aload_n hx hb dX6_told_0 rfl (lv_at hl 0 rfl) ?_
  refine lv_iload_n hx hb dX6_told_1 rfl (lv_at hl 1 rfl) ?_
  refine ci_X6_118 C M h ⟨Nat.le_of_ble_eq_true rfl, Nat.le_of_ble_eq_true rfl⟩ hl.1 (Nat.le_of_ble_eq_true rfl) dX6_told_2 (fun r1 H locs x2 M nr1 h => ?_)
  refine z_if_ne (tgt := 14) hx hb dX6_told_5 (by decide) h (fun h => ?_) (fun h => ?_)
  · refine lv_iload_n hx hb dX6_told_14 rfl (lv_at hl 2 rfl) ?_
    refine lv_iconst (v := oI 0) hx hb dX6_told_15 (by decide) ?_
    refine lv_bipush (v := oI 7) hx hb dX6_told_16 (by decide) ?_
    refine ci_X6_98 C M h ⟨Nat.le_of_ble_eq_true rfl, Nat.le_of_ble_eq_true rfl⟩ hl.1 (Nat.le_of_ble_eq_true rfl) dX6_told_18 (fun r3 H locs x4 M nr3 h => ?_)
    refine z_if_ne (tgt := 30) hx hb dX6_told_21 (by decide) h (fun h => ?_) (fun h => ?_)
    · refine lv_aload_n hx hb dX6_told_30 rfl (lv_at hl 0 rfl) ?_
      refine lv_aload_n hx hb dX6_told_31 rfl (lv_at hl 0 rfl) ?_
      refine gf_X6_19 C M dX6_told_32 ?_
      refine lv_iload_n hx hb dX6_told_35 rfl (lv_at hl 1 rfl) ?_
      refine lv_iload_n hx hb dX6_told_36 rfl (lv_at hl 2 rfl) ?_
      refine ci_X6_151 C M h ⟨Nat.le_of_ble_eq_true rfl, Nat.le_of_ble_eq_true rfl⟩ hl.1 (Nat.le_of_ble_eq_true rfl) dX6_told_37 (fun r5 H locs x6 M nr5 h => ?_)
      refine ci_X6_77 C M h ⟨Nat.le_of_ble_eq_true rfl, Nat.le_of_ble_eq_true rfl⟩ hl.1 (Nat.le_of_ble_eq_true rfl) dX6_told_40 (fun r7 H locs x8 M nr7 h => ?_)
      exact xretI C hr M h rfl dX6_told_43
    · refine lv_aload_n hx hb dX6_told_24 rfl (lv_at hl 0 rfl) ?_
      refine lv_iconst (v := oI 2) hx hb dX6_told_25 (by decide) ?_
      refine ci_X6_66 C M h ⟨Nat.le_of_ble_eq_true rfl, Nat.le_of_ble_eq_true rfl⟩ hl.1 (Nat.le_of_ble_eq_true rfl) dX6_told_26 (fun r9 H locs x10 M nr9 h => ?_)
      exact xretI C hr M h rfl dX6_told_29
  · refine lv_aload_n hx hb dX6_told_8 rfl (lv_at hl 0 rfl) ?_
    refine lv_iconst (v := oI 1) hx hb dX6_told_9 (by decide) ?_
    refine ci_X6_66 C M h ⟨Nat.le_of_ble_eq_true rfl, Nat.le_of_ble_eq_true rfl⟩ hl.1 (Nat.le_of_ble_eq_true rfl) dX6_told_10 (fun r11 H locs x12 M nr11 h => ?_)
    exact xretI C hr M h rfl dX6_told_13
set_option maxHeartbeats 4000000 in
set_option maxRecDepth 100000 in
theorem c_X6_isChange {l : Launch} {D : va_G} {T : ClassId × ClassId} {a : Nat → Nat} {x : XS} {p1 : Int} {z : Int × XS} (h : f_X6_isChange x p1 = some z) (sz : Nat) : xMetI l yX6_isChange cX6_isChange 2 .boolean { frames := 1, cells := 0, slots := 0, locals := 22 } D T (xW T a) sz [.ref (a 0), .int (oI p1)] x z := by
  refine xMetI_of (by decide) (Nat.le_of_ble_eq_true rfl) (xW_ad T a) ?_
  intro p e s m args below meth c A ls C hr M hl
  have hx := C.1
  have hb := C.2.1
  have hl : lv_has ls 2 [(0, .ref (a 0)), (1, .int (oI p1))] := hl
  have C : xcx RX6 cX6_isChange 2 D T (xW T a) A p s m args meth c := C
  revert hl M
  generalize ([] : List Loc) = locs
  generalize s.heap = H
  intro M hl
  unfold f_X6_isChange at h
  refine lv_iload_n hx hb dX6_isChange_0 rfl (lv_at hl 1 rfl) ?_
  refine lv_iconst (v := oI 0) hx hb dX6_isChange_1 (by decide) ?_
  refine lv_aload_n hx hb dX6_isChange_2 rfl (lv_at hl 0 rfl) ?_
  refine gf_X6_26 C M dX6_isChange_3 ?_
  refine gf_X6_137 C M dX6_isChange_6 ?_
  refine ci_X6_98 C M h ⟨Nat.le_of_ble_eq_true rfl, Nat.le_of_ble_eq_true rfl⟩ hl.1 (Nat.le_of_ble_eq_true rfl) dX6_isChange_9 (fun r1 H locs x2 M nr1 h => ?_)
  exact xretI C hr M h nr1 dX6_isChange_12
set_option maxHeartbeats 4000000 in
set_option maxRecDepth 100000 in
theorem c_X5_repeat {l : Launch} {D : va_G} {T : ClassId × ClassId} {a : Nat → Nat} {x : XS} {p1 : Int} {z : Int × XS} (h : f_X5_repeat x p1 = some z) (sz : Nat) : xMetV l yX5_repeat cX5_repeat 3 { frames := 0, cells := 0, slots := 0, locals := 0 } D T (xW T a) sz [.ref (a 4), .int (oI p1)] x z := by
  refine xMetV_of (by decide) (Nat.le_of_ble_eq_true rfl) (xW_ad T a) ?_
  intro p e s m args below meth c A ls C hr M hl
  have hx := C.1
  have hb := C.2.1
  have hl : lv_has ls 3 [(0, .ref (a 4)), (1, .int (oI p1))] := hl
  have C : xcx RX5 cX5_repeat 3 D T (xW T a) A p s m args meth c := C
  revert hl M
  generalize ([] : List Loc) = locs
  generalize s.heap = H
  intro M hl
  unfold f_X5_repeat at h
  refine lv_aload_n hx hb dX5_repeat_0 rfl (lv_at hl 0 rfl) ?_
  refine gf_X5_70 C M dX5_repeat_1 ?_
  refine gf_X5_93 C M dX5_repeat_4 ?_
  refine lv_iload_n hx hb dX5_repeat_7 rfl (lv_at hl 1 rfl) ?_
  refine al_x_21 C M dX5_repeat_8 h (fun v1 h => ?_)
  refine lv_istore_n (lv' := [(2, .int (oI v1)), (0, .ref (a 4)), (1, .int (oI p1))]) hx hb dX5_repeat_9 rfl hl (by decide) rfl (fun ls hl => ?_)
  refine lv_aload_n hx hb dX5_repeat_10 rfl (lv_at hl 1 rfl) ?_
  refine gf_X5_70 C M dX5_repeat_11 ?_
  refine gf_X5_98 C M dX5_repeat_14 ?_
  refine lv_iload_n hx hb dX5_repeat_17 rfl (lv_at hl 2 rfl) ?_
  refine al_x_20 C M dX5_repeat_18 h (fun v2 h => ?_)
  refine x_ts_el h (fun hs0 h => ?_) (fun hrg hs0 h => ?_)
  · refine lv_tableIn (off := 25) (tgt := 44) hx hb dX5_repeat_19 (by rw [hs0]; decide) (by rw [hs0]; decide) (by rw [hs0]; rfl) (by decide) ?_
    refine lv_aload_n hx hb dX5_repeat_44 rfl (lv_at hl 1 rfl) ?_
    refine lv_dup hx hb dX5_repeat_45 rfl ?_
    refine gf_X5_57 C M dX5_repeat_46 ?_
    refine lv_iconst (v := oI 1) hx hb dX5_repeat_49 (by decide) ?_
    refine z_iadd hx hb dX5_repeat_50 ?_
    refine pf_X5_57 C M dX5_repeat_51 h (fun H locs x3 M h => ?_)
    refine lv_goto (tgt := 105) hx hb dX5_repeat_54 (by decide) ?_
    exact xretV C hr M h dX5_repeat_105
  refine x_ts_el h (fun hs1 h => ?_) (fun hrg hs1 h => ?_)
  · refine lv_tableIn (off := 38) (tgt := 57) hx hb dX5_repeat_19 (by rw [hs1]; decide) (by rw [hs1]; decide) (by rw [hs1]; rfl) (by decide) ?_
    refine lv_aload_n hx hb dX5_repeat_57 rfl (lv_at hl 1 rfl) ?_
    refine gf_X5_18 C M dX5_repeat_58 ?_
    refine lv_iload_n hx hb dX5_repeat_61 rfl (lv_at hl 0 rfl) ?_
    refine lv_iconst (v := oI 1) hx hb dX5_repeat_62 (by decide) ?_
    refine as_x_24 C M dX5_repeat_63 h (fun H locs x4 M h => ?_)
    refine lv_goto (tgt := 105) hx hb dX5_repeat_64 (by decide) ?_
    exact xretV C hr M h dX5_repeat_105
  refine x_ts_el h (fun hs2 h => ?_) (fun hrg hs2 h => ?_)
  · refine lv_tableIn (off := 48) (tgt := 67) hx hb dX5_repeat_19 (by rw [hs2]; decide) (by rw [hs2]; decide) (by rw [hs2]; rfl) (by decide) ?_
    refine lv_aload_n hx hb dX5_repeat_67 rfl (lv_at hl 1 rfl) ?_
    refine gf_X5_26 C M dX5_repeat_68 ?_
    refine lv_iload_n hx hb dX5_repeat_71 rfl (lv_at hl 0 rfl) ?_
    refine lv_aload_n hx hb dX5_repeat_72 rfl (lv_at hl 1 rfl) ?_
    refine gf_X5_70 C M dX5_repeat_73 ?_
    refine gf_X5_101 C M dX5_repeat_76 ?_
    refine lv_iload_n hx hb dX5_repeat_79 rfl (lv_at hl 2 rfl) ?_
    refine al_x_22 C M dX5_repeat_80 h (fun v5 h => ?_)
    refine as_x_26 C M dX5_repeat_81 h (fun H locs x6 M h => ?_)
    refine lv_goto (tgt := 105) hx hb dX5_repeat_82 (by decide) ?_
    exact xretV C hr M h dX5_repeat_105
  refine lv_tableOut (tgt := 85) hx hb dX5_repeat_19 (x_out3 hrg hs0 hs1 hs2) (by decide) ?_
  refine lv_aload_n hx hb dX5_repeat_85 rfl (lv_at hl 1 rfl) ?_
  refine gf_X5_22 C M dX5_repeat_86 ?_
  refine lv_aload_n hx hb dX5_repeat_89 rfl (lv_at hl 1 rfl) ?_
  refine gf_X5_53 C M dX5_repeat_90 ?_
  refine lv_iload_n hx hb dX5_repeat_93 rfl (lv_at hl 2 rfl) ?_
  refine as_x_25 C M dX5_repeat_94 h (fun H locs x7 M h => ?_)
  refine lv_aload_n hx hb dX5_repeat_95 rfl (lv_at hl 1 rfl) ?_
  refine lv_dup hx hb dX5_repeat_96 rfl ?_
  refine gf_X5_53 C M dX5_repeat_97 ?_
  refine lv_iconst (v := oI 1) hx hb dX5_repeat_100 (by decide) ?_
  refine z_iadd hx hb dX5_repeat_101 ?_
  refine pf_X5_53 C M dX5_repeat_102 h (fun H locs x8 M h => ?_)
  exact xretV C hr M h dX5_repeat_105
theorem ci_X5_90 {cc : ByteArray} {nL : Nat} {D : va_G} {T : ClassId × ClassId} {a : Nat → Nat} {A : Nat → Prop} {p : Program} {l : Launch} {e : Env} {R : Room} {s : State} {m : MethodId} {args : Array Value} {below : List Frame} {meth : Method} {c : Code} {H : Heap} {locs : List Loc} {Q : State → Prop} {x : XS} {z : Int × XS} {pc : Nat} {ls : Array Slot} {rest : List Value} (C : xcx RX5 cc nL D T (xW T a) A p s m args meth c) (M : xmm D (xW T a) A s H locs x) {p1 : Int} {K : Int → XS → XR} (h : x_call (f_X5_repeat x p1) K = some z) (hR : 0 + 1 ≤ R.frames ∧ 8 + (3 + 11) + 0 ≤ R.locals) (hsz : ls.size = nL) (hrest : (rest.map fun v => v.category).sum ≤ 8) (hdg : decode cc pc = .ok (.invokevirtual 90, 3)) (kk : ∀ (H1 : Heap) (locs1 : List Loc) (x1 : XS), xmm D (xW T a) A s H1 locs1 x1 → K 0 x1 = some z → W p l e R s m args below meth c H1 locs1 0 0 Q (F0 m (pc + 3) ls rest)) : W p l e R s m args below meth c H locs 0 0 Q (F0 m pc ls (.int (oI p1) :: .ref (a 4) :: rest)) :=
  xcallV_V (As := [.int (oI p1)]) (n := 1) C M (fun zc sz ho => c_X5_repeat ho sz) bw_482 bw_479 bw_481 bw_19 bw_88 rfl (by decide +kernel) 4 rfl rfl ⟨rfl, rfl⟩ hR hsz rfl hrest hdg h kk
set_option maxHeartbeats 4000000 in
set_option maxRecDepth 100000 in
theorem c_X5_replay {l : Launch} {D : va_G} {T : ClassId × ClassId} {a : Nat → Nat} {x : XS} {p1 : Int} {z : Int × XS} (h : f_X5_replay x p1 = some z) (sz : Nat) : xMetV l yX5_replay cX5_replay 3 { frames := 1, cells := 0, slots := 0, locals := 22 } D T (xW T a) sz [.ref (a 4), .int (oI p1)] x z := by
  refine xMetV_of (by decide) (Nat.le_of_ble_eq_true rfl) (xW_ad T a) ?_
  intro p e s m args below meth c A ls C hr M hl
  have hx := C.1
  have hb := C.2.1
  have hl : lv_has ls 3 [(0, .ref (a 4)), (1, .int (oI p1))] := hl
  have C : xcx RX5 cX5_replay 3 D T (xW T a) A p s m args meth c := C
  revert hl M
  generalize ([] : List Loc) = locs
  generalize s.heap = H
  intro M hl
  unfold f_X5_replay at h
  refine lv_iconst (v := oI 0) hx hb dX5_replay_0 (by decide) ?_
  refine lv_istore_n (lv' := [(2, .int (oI 0)), (0, .ref (a 4)), (1, .int (oI p1))]) hx hb dX5_replay_1 rfl hl (by decide) rfl (fun ls hl => ?_)
  refine x_jp_el h (fun kx1 ekx1 h => ?_)
  have hkx1 : ∀ (x2 : XS) (H : Heap) (locs : List Loc) (ls : Array Slot), kx1 x2 = some z → xmm D (xW T a) A s H locs x2 → lv_has ls 3 [(0, .ref (a 4)), (1, .int (oI p1))] → W p l e { frames := 1, cells := 0, slots := 0, locals := 22 } s m args below meth c H locs 0 0 (xQV below args s D (xW T a) z A) (F0 m 26 ls []) := by
    intro x2 H locs ls h M hl
    rw [ekx1] at h
    dsimp only at h
    refine lv_iconst (v := oI 0) hx hb dX5_replay_26 (by decide) ?_
    refine lv_istore_n (lv' := [(2, .int (oI 0)), (0, .ref (a 4)), (1, .int (oI p1))]) hx hb dX5_replay_27 rfl hl (by decide) rfl (fun ls hl => ?_)
    refine x_jp_el h (fun kx3 ekx3 h => ?_)
    have hkx3 : ∀ (x4 : XS) (H : Heap) (locs : List Loc) (ls : Array Slot), kx3 x4 = some z → xmm D (xW T a) A s H locs x4 → lv_has ls 3 [(0, .ref (a 4)), (1, .int (oI p1))] → W p l e { frames := 1, cells := 0, slots := 0, locals := 22 } s m args below meth c H locs 0 0 (xQV below args s D (xW T a) z A) (F0 m 52 ls []) := by
      intro x4 H locs ls h M hl
      rw [ekx3] at h
      dsimp only at h
      refine lv_aload_n hx hb dX5_replay_52 rfl (lv_at hl 0 rfl) ?_
      refine lv_iconst (v := oI 0) hx hb dX5_replay_53 (by decide) ?_
      refine pf_X5_57 C M dX5_replay_54 h (fun H locs x5 M h => ?_)
      refine lv_aload_n hx hb dX5_replay_57 rfl (lv_at hl 0 rfl) ?_
      refine lv_iconst (v := oI 0) hx hb dX5_replay_58 (by decide) ?_
      refine pf_X5_53 C M dX5_replay_59 h (fun H locs x6 M h => ?_)
      refine lv_iconst (v := oI 0) hx hb dX5_replay_62 (by decide) ?_
      refine lv_istore_n (lv' := [(2, .int (oI 0)), (0, .ref (a 4)), (1, .int (oI p1))]) hx hb dX5_replay_63 rfl hl (by decide) rfl (fun ls hl => ?_)
      refine x_jp_el h (fun kx7 ekx7 h => ?_)
      have hkx7 : ∀ (x8 : XS) (H : Heap) (locs : List Loc) (ls : Array Slot), kx7 x8 = some z → xmm D (xW T a) A s H locs x8 → lv_has ls 3 [] → W p l e { frames := 1, cells := 0, slots := 0, locals := 22 } s m args below meth c H locs 0 0 (xQV below args s D (xW T a) z A) (F0 m 80 ls []) := by
        intro x8 H locs ls h M hl
        rw [ekx7] at h
        dsimp only at h
        exact xretV C hr M h dX5_replay_80
      refine x_loop1_ind (P := fun v9 x10 => ∀ (H : Heap) (locs : List Loc) (ls : Array Slot), xmm D (xW T a) A s H locs x10 → lv_has ls 3 [(0, .ref (a 4)), (1, .int (oI p1)), (2, .int (oI v9))] → W p l e { frames := 1, cells := 0, slots := 0, locals := 22 } s m args below meth c H locs 0 0 (xQV below args s D (xW T a) z A) (F0 m 64 ls [])) (fun g11 ig11 v9 x10 h => ?_) x_fuel 0 x6 h H locs ls M (lv_sub hl [1, 2, 0] rfl)
      intro H locs ls M hl
      unfold b_X5_replay_64 at h
      refine lv_iload_n hx hb dX5_replay_64 rfl (lv_at hl 2 rfl) ?_
      refine lv_iload_n hx hb dX5_replay_65 rfl (lv_at hl 1 rfl) ?_
      refine z_icmp_ge (tgt := 80) hx hb dX5_replay_66 (by decide) h (fun h => ?_) (fun h => ?_)
      · exact hkx7 x10 H locs ls h M (lv_sub hl [] rfl)
      · refine lv_aload_n hx hb dX5_replay_69 rfl (lv_at hl 0 rfl) ?_
        refine lv_iload_n hx hb dX5_replay_70 rfl (lv_at hl 2 rfl) ?_
        refine ci_X5_90 C M h ⟨Nat.le_of_ble_eq_true rfl, Nat.le_of_ble_eq_true rfl⟩ hl.1 (Nat.le_of_ble_eq_true rfl) dX5_replay_71 (fun H locs x13 M h => ?_)
        refine x_nm h (fun v14 ev14 h => ?_)
        refine lv_iinc (v := oI v14) (lv' := [(2, .int (oI v14)), (0, .ref (a 4)), (1, .int (oI p1))]) hx hb dX5_replay_74 hl (k := 2) rfl (by rw [ev14]; exact oI_add _ _) (by decide) rfl (fun ls hl => ?_)
        refine lv_goto (tgt := 64) hx hb dX5_replay_77 (by decide) ?_
        exact ig11 v14 x13 h H locs ls M (lv_sub hl [1, 2, 0] rfl)
    refine x_loop1_ind (P := fun v15 x16 => ∀ (H : Heap) (locs : List Loc) (ls : Array Slot), xmm D (xW T a) A s H locs x16 → lv_has ls 3 [(0, .ref (a 4)), (1, .int (oI p1)), (2, .int (oI v15))] → W p l e { frames := 1, cells := 0, slots := 0, locals := 22 } s m args below meth c H locs 0 0 (xQV below args s D (xW T a) z A) (F0 m 28 ls [])) (fun g17 ig17 v15 x16 h => ?_) x_fuel 0 x2 h H locs ls M (lv_sub hl [1, 2, 0] rfl)
    intro H locs ls M hl
    unfold b_X5_replay_28 at h
    refine lv_iload_n hx hb dX5_replay_28 rfl (lv_at hl 2 rfl) ?_
    refine lv_aload_n hx hb dX5_replay_29 rfl (lv_at hl 0 rfl) ?_
    refine gf_X5_66 C M dX5_replay_30 ?_
    refine gf_X5_87 C M dX5_replay_33 ?_
    refine z_icmp_ge (tgt := 52) hx hb dX5_replay_36 (by decide) h (fun h => ?_) (fun h => ?_)
    · exact hkx3 x16 H locs ls h M (lv_sub hl [0, 1] rfl)
    · refine lv_aload_n hx hb dX5_replay_39 rfl (lv_at hl 0 rfl) ?_
      refine gf_X5_26 C M dX5_replay_40 ?_
      refine lv_iload_n hx hb dX5_replay_43 rfl (lv_at hl 2 rfl) ?_
      refine lv_iconst (v := oI 0) hx hb dX5_replay_44 (by decide) ?_
      refine as_x_26 C M dX5_replay_45 h (fun H locs x18 M h => ?_)
      refine x_nm h (fun v19 ev19 h => ?_)
      refine lv_iinc (v := oI v19) (lv' := [(2, .int (oI v19)), (0, .ref (a 4)), (1, .int (oI p1))]) hx hb dX5_replay_46 hl (k := 2) rfl (by rw [ev19]; exact oI_add _ _) (by decide) rfl (fun ls hl => ?_)
      refine lv_goto (tgt := 28) hx hb dX5_replay_49 (by decide) ?_
      exact ig17 v19 x18 h H locs ls M (lv_sub hl [1, 2, 0] rfl)
  refine x_loop1_ind (P := fun v20 x21 => ∀ (H : Heap) (locs : List Loc) (ls : Array Slot), xmm D (xW T a) A s H locs x21 → lv_has ls 3 [(0, .ref (a 4)), (1, .int (oI p1)), (2, .int (oI v20))] → W p l e { frames := 1, cells := 0, slots := 0, locals := 22 } s m args below meth c H locs 0 0 (xQV below args s D (xW T a) z A) (F0 m 2 ls [])) (fun g22 ig22 v20 x21 h => ?_) x_fuel 0 x h H locs ls M (lv_sub hl [1, 2, 0] rfl)
  intro H locs ls M hl
  unfold b_X5_replay_2 at h
  refine lv_iload_n hx hb dX5_replay_2 rfl (lv_at hl 2 rfl) ?_
  refine lv_aload_n hx hb dX5_replay_3 rfl (lv_at hl 0 rfl) ?_
  refine gf_X5_66 C M dX5_replay_4 ?_
  refine gf_X5_84 C M dX5_replay_7 ?_
  refine z_icmp_ge (tgt := 26) hx hb dX5_replay_10 (by decide) h (fun h => ?_) (fun h => ?_)
  · exact hkx1 x21 H locs ls h M (lv_sub hl [0, 1] rfl)
  · refine lv_aload_n hx hb dX5_replay_13 rfl (lv_at hl 0 rfl) ?_
    refine gf_X5_18 C M dX5_replay_14 ?_
    refine lv_iload_n hx hb dX5_replay_17 rfl (lv_at hl 2 rfl) ?_
    refine lv_iconst (v := oI 0) hx hb dX5_replay_18 (by decide) ?_
    refine as_x_24 C M dX5_replay_19 h (fun H locs x23 M h => ?_)
    refine x_nm h (fun v24 ev24 h => ?_)
    refine lv_iinc (v := oI v24) (lv' := [(2, .int (oI v24)), (0, .ref (a 4)), (1, .int (oI p1))]) hx hb dX5_replay_20 hl (k := 2) rfl (by rw [ev24]; exact oI_add _ _) (by decide) rfl (fun ls hl => ?_)
    refine lv_goto (tgt := 2) hx hb dX5_replay_23 (by decide) ?_
    exact ig22 v24 x23 h H locs ls M (lv_sub hl [1, 2, 0] rfl)
set_option maxHeartbeats 4000000 in
set_option maxRecDepth 100000 in
theorem c_X0_plannedLeaving {l : Launch} {D : va_G} {T : ClassId × ClassId} {a : Nat → Nat} {x : XS} {p1 : Int} {p2 : Int} {z : Int × XS} (h : f_X0_plannedLeaving x p1 p2 = some z) (sz : Nat) : xMetI l yX0_plannedLeaving cX0_plannedLeaving 4 .int { frames := 0, cells := 0, slots := 0, locals := 0 } D T (xW T a) sz [.ref (a 2), .int (oI p1), .int (oI p2)] x z := by
  refine xMetI_of (by decide) (Nat.le_of_ble_eq_true rfl) (xW_ad T a) ?_
  intro p e s m args below meth c A ls C hr M hl
  have hx := C.1
  have hb := C.2.1
  have hl : lv_has ls 4 [(0, .ref (a 2)), (1, .int (oI p1)), (2, .int (oI p2))] := hl
  have C : xcx RX0 cX0_plannedLeaving 4 D T (xW T a) A p s m args meth c := C
  revert hl M
  generalize ([] : List Loc) = locs
  generalize s.heap = H
  intro M hl
  unfold f_X0_plannedLeaving at h
  refine lv_aload_n hx hb dX0_plannedLeaving_0 rfl (lv_at hl 0 rfl) ?_
  refine gf_X0_18 C M dX0_plannedLeaving_1 ?_
  refine lv_iload_n hx hb dX0_plannedLeaving_4 rfl (lv_at hl 1 rfl) ?_
  refine al_x_13 C M dX0_plannedLeaving_5 h (fun v1 h => ?_)
  refine lv_iconst (v := oI 2) hx hb dX0_plannedLeaving_6 (by decide) ?_
  refine x_jp_el h (fun jp2 ejp2 h => ?_)
  have hjp2 : ∀ (v3 : Int) (x4 : XS) (H : Heap) (locs : List Loc) (ls : Array Slot), jp2 v3 x4 = some z → xmm D (xW T a) A s H locs x4 → lv_has ls 4 [(0, .ref (a 2)), (1, .int (oI p1)), (2, .int (oI p2))] → W p l e { frames := 0, cells := 0, slots := 0, locals := 0 } s m args below meth c H locs 0 0 (xQI below args s D (xW T a) .int z A) (F0 m 20 ls [.int (oI v3)]) := by
    intro v3 x4 H locs ls h M hl
    rw [ejp2] at h
    dsimp only at h
    refine lv_istore_n (lv' := [(3, .int (oI v3)), (0, .ref (a 2)), (1, .int (oI p1)), (2, .int (oI p2))]) hx hb dX0_plannedLeaving_20 rfl hl (by decide) rfl (fun ls hl => ?_)
    refine lv_aload_n hx hb dX0_plannedLeaving_21 rfl (lv_at hl 1 rfl) ?_
    refine gf_X0_21 C M dX0_plannedLeaving_22 ?_
    refine lv_iload_n hx hb dX0_plannedLeaving_25 rfl (lv_at hl 2 rfl) ?_
    refine al_x_14 C M dX0_plannedLeaving_26 h (fun v5 h => ?_)
    refine lv_iload_n hx hb dX0_plannedLeaving_27 rfl (lv_at hl 3 rfl) ?_
    refine lv_iload_n hx hb dX0_plannedLeaving_28 rfl (lv_at hl 0 rfl) ?_
    refine z_imul hx hb dX0_plannedLeaving_29 ?_
    refine z_iadd hx hb dX0_plannedLeaving_30 ?_
    exact xretI C hr M h rfl dX0_plannedLeaving_31
  refine z_icmp_ne (tgt := 14) hx hb dX0_plannedLeaving_7 (by decide) h (fun h => ?_) (fun h => ?_)
  · refine lv_aload_n hx hb dX0_plannedLeaving_14 rfl (lv_at hl 0 rfl) ?_
    refine gf_X0_30 C M dX0_plannedLeaving_15 ?_
    refine lv_iload_n hx hb dX0_plannedLeaving_18 rfl (lv_at hl 1 rfl) ?_
    refine al_x_17 C M dX0_plannedLeaving_19 h (fun v6 h => ?_)
    exact hjp2 v6 x H locs ls h M (lv_sub hl [0, 1, 2] rfl)
  · refine lv_iconst (v := oI 1) hx hb dX0_plannedLeaving_10 (by decide) ?_
    refine lv_goto (tgt := 20) hx hb dX0_plannedLeaving_11 (by decide) ?_
    exact hjp2 1 x H locs ls h M (lv_sub hl [0, 1, 2] rfl)
set_option maxHeartbeats 4000000 in
set_option maxRecDepth 100000 in
theorem c_X1_isClosing {l : Launch} {D : va_G} {T : ClassId × ClassId} {a : Nat → Nat} {x : XS} {p1 : Int} {p2 : Int} {p3 : Int} {z : Int × XS} (h : f_X1_isClosing x p1 p2 p3 = some z) (sz : Nat) : xMetI l yX1_isClosing cX1_isClosing 4 .boolean { frames := 0, cells := 0, slots := 0, locals := 0 } D T (xW T a) sz [.ref (a 3), .int (oI p1), .int (oI p2), .int (oI p3)] x z := by
  refine xMetI_of (by decide) (Nat.le_of_ble_eq_true rfl) (xW_ad T a) ?_
  intro p e s m args below meth c A ls C hr M hl
  have hx := C.1
  have hb := C.2.1
  have hl : lv_has ls 4 [(0, .ref (a 3)), (1, .int (oI p1)), (2, .int (oI p2)), (3, .int (oI p3))] := hl
  have C : xcx RX1 cX1_isClosing 4 D T (xW T a) A p s m args meth c := C
  revert hl M
  generalize ([] : List Loc) = locs
  generalize s.heap = H
  intro M hl
  unfold f_X1_isClosing at h
  refine lv_aload_n hx hb dX1_isClosing_0 rfl (lv_at hl 0 rfl) ?_
  refine gf_X1_15 C M dX1_isClosing_1 ?_
  refine lv_iload_n hx hb dX1_isClosing_4 rfl (lv_at hl 1 rfl) ?_
  refine al_x_21 C M dX1_isClosing_5 h (fun v1 h => ?_)
  refine lv_iload_n hx hb dX1_isClosing_6 rfl (lv_at hl 2 rfl) ?_
  refine z_icmp_ne (tgt := 34) hx hb dX1_isClosing_7 (by decide) h (fun h => ?_) (fun h => ?_)
  · refine lv_iconst (v := oI 0) hx hb dX1_isClosing_34 (by decide) ?_
    exact xretI C hr M h nb_0 dX1_isClosing_35
  · refine lv_aload_n hx hb dX1_isClosing_10 rfl (lv_at hl 0 rfl) ?_
    refine gf_X1_18 C M dX1_isClosing_11 ?_
    refine lv_iload_n hx hb dX1_isClosing_14 rfl (lv_at hl 1 rfl) ?_
    refine al_x_22 C M dX1_isClosing_15 h (fun v2 h => ?_)
    refine lv_iload_n hx hb dX1_isClosing_16 rfl (lv_at hl 3 rfl) ?_
    refine z_icmp_gt (tgt := 34) hx hb dX1_isClosing_17 (by decide) h (fun h => ?_) (fun h => ?_)
    · refine lv_iconst (v := oI 0) hx hb dX1_isClosing_34 (by decide) ?_
      exact xretI C hr M h nb_0 dX1_isClosing_35
    · refine lv_iload_n hx hb dX1_isClosing_20 rfl (lv_at hl 3 rfl) ?_
      refine lv_aload_n hx hb dX1_isClosing_21 rfl (lv_at hl 0 rfl) ?_
      refine gf_X1_21 C M dX1_isClosing_22 ?_
      refine lv_iload_n hx hb dX1_isClosing_25 rfl (lv_at hl 1 rfl) ?_
      refine al_x_23 C M dX1_isClosing_26 h (fun v3 h => ?_)
      refine z_icmp_gt (tgt := 34) hx hb dX1_isClosing_27 (by decide) h (fun h => ?_) (fun h => ?_)
      · refine lv_iconst (v := oI 0) hx hb dX1_isClosing_34 (by decide) ?_
        exact xretI C hr M h nb_0 dX1_isClosing_35
      · refine lv_iconst (v := oI 1) hx hb dX1_isClosing_30 (by decide) ?_
        refine lv_goto (tgt := 35) hx hb dX1_isClosing_31 (by decide) ?_
        exact xretI C hr M h nb_1 dX1_isClosing_35
