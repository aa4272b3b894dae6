theorem ci_X3_42 {cc : ByteArray} {nL : Nat} {D : va_G} {T : ClassId × ClassId} {a : Nat → Nat} {A : Nat → Prop} {p : Program} {l : Launch} {e : Env} {R : Room} {s : State} {m : MethodId} {args : Array Value} {below : List Frame} {meth : Method} {c : Code} {H : Heap} {locs : List Loc} {Q : State → Prop} {x : XS} {z : Int × XS} {pc : Nat} {ls : Array Slot} {rest : List Value} (C : xcx RX3 cc nL D T (xW T a) A p s m args meth c) (M : xmm D (xW T a) A s H locs x) {K : Int → XS → XR} (h : x_call (f_X3_emptyQueues x) K = some z) (hR : 1 + 1 ≤ R.frames ∧ 8 + (3 + 11) + 21 ≤ R.locals) (hsz : ls.size = nL) (hrest : (rest.map fun v => v.category).sum ≤ 8) (hdg : decode cc pc = .ok (.invokevirtual 42, 3)) (kk : ∀ (H1 : Heap) (locs1 : List Loc) (x1 : XS), xmm D (xW T a) A s H1 locs1 x1 → K 0 x1 = some z → W p l e R s m args below meth c H1 locs1 0 0 Q (F0 m (pc + 3) ls rest)) : W p l e R s m args below meth c H locs 0 0 Q (F0 m pc ls (.ref (a 5) :: rest)) :=
  xcallV_V (As := []) (n := 0) C M (fun zc sz ho => c_X3_emptyQueues ho sz) bw_549 bw_546 bw_548 bw_34 bw_90 rfl (by decide +kernel) 5 rfl rfl ⟨rfl, rfl⟩ hR hsz rfl hrest hdg h kk
theorem ci_X3_64 {cc : ByteArray} {nL : Nat} {D : va_G} {T : ClassId × ClassId} {a : Nat → Nat} {A : Nat → Prop} {p : Program} {l : Launch} {e : Env} {R : Room} {s : State} {m : MethodId} {args : Array Value} {below : List Frame} {meth : Method} {c : Code} {H : Heap} {locs : List Loc} {Q : State → Prop} {x : XS} {z : Int × XS} {pc : Nat} {ls : Array Slot} {rest : List Value} (C : xcx RX3 cc nL D T (xW T a) A p s m args meth c) (M : xmm D (xW T a) A s H locs x) {p1 : Int} {K : Int → XS → XR} (h : x_call (f_X3_worthBehindOthers x p1) K = some z) (hR : 3 + 1 ≤ R.frames ∧ 8 + (5 + 11) + 68 ≤ R.locals) (hsz : ls.size = nL) (hrest : (rest.map fun v => v.category).sum ≤ 8) (hdg : decode cc pc = .ok (.invokevirtual 64, 3)) (kk : ∀ (r : Int) (H1 : Heap) (locs1 : List Loc) (x1 : XS), xmm D (xW T a) A s H1 locs1 x1 → narrow .int (.int (oI r)) = .int (oI r) → K r x1 = some z → W p l e R s m args below meth c H1 locs1 0 0 Q (F0 m (pc + 3) ls (.int (oI r) :: rest))) : W p l e R s m args below meth c H locs 0 0 Q (F0 m pc ls (.int (oI p1) :: .ref (a 5) :: rest)) :=
  xcallI_V (As := [.int (oI p1)]) (n := 1) C M (fun zc sz ho => c_X3_worthBehindOthers ho sz) bw_561 bw_558 bw_560 bw_37 bw_90 rfl (by decide +kernel) 5 rfl rfl ⟨rfl, rfl⟩ hR hsz rfl hrest hdg h kk
set_option maxHeartbeats 4000000 in
set_option maxRecDepth 100000 in
theorem c_X3_spread {l : Launch} {D : va_G} {T : ClassId × ClassId} {a : Nat → Nat} {x : XS} {p1 : Int} {p2 : Int} {p3 : Int} {p4 : Int} (nb4 : narrow .boolean (.int (oI p4)) = .int (oI p4)) {z : Int × XS} (h : f_X3_spread x p1 p2 p3 p4 = some z) (sz : Nat) : xMetV l yX3_spread cX3_spread 7 { frames := 4, cells := 0, slots := 0, locals := 92 } D T (xW T a) sz [.ref (a 5), .int (oI p1), .int (oI p2), .int (oI p3), .int (oI p4)] x z := by
  refine xMetV_of (by decide) (Nat.le_of_ble_eq_true rfl) (xW_ad T a) ?_
  intro p e s m args below meth c A ls C hr M hl
  have hx := C.1
  have hb := C.2.1
  have hl : lv_has ls 7 [(0, .ref (a 5)), (1, .int (oI p1)), (2, .int (oI p2)), (3, .int (oI p3)), (4, .int (oI p4))] := hl
  have C : xcx RX3 cX3_spread 7 D T (xW T a) A p s m args meth c := C
  revert hl M
  generalize ([] : List Loc) = locs
  generalize s.heap = H
  intro M hl
  unfold f_X3_spread at h
  refine lv_aload_n hx hb dX3_spread_0 rfl (lv_at hl 0 rfl) ?_
  refine lv_iload hx hb dX3_spread_1 (lv_at hl 4 rfl) ?_
  refine pf_X3_30 C M nb4 dX3_spread_3 h (fun H locs x1 M h => ?_)
  refine lv_aload_n hx hb dX3_spread_6 rfl (lv_at hl 0 rfl) ?_
  refine ci_X3_42 C M h ⟨Nat.le_of_ble_eq_true rfl, Nat.le_of_ble_eq_true rfl⟩ hl.1 (Nat.le_of_ble_eq_true rfl) dX3_spread_7 (fun H locs x3 M h => ?_)
  refine lv_iconst (v := oI 0) hx hb dX3_spread_10 (by decide) ?_
  refine lv_istore (lv' := [(5, .int (oI 0)), (0, .ref (a 5)), (1, .int (oI p1)), (2, .int (oI p2)), (3, .int (oI p3)), (4, .int (oI p4))]) hx hb dX3_spread_11 hl (by decide) rfl (fun ls hl => ?_)
  refine x_jp_el h (fun kx4 ekx4 h => ?_)
  have hkx4 : ∀ (x5 : XS) (H : Heap) (locs : List Loc) (ls : Array Slot), kx4 x5 = some z → xmm D (xW T a) A s H locs x5 → lv_has ls 7 [] → W p l e { frames := 4, cells := 0, slots := 0, locals := 92 } s m args below meth c H locs 0 0 (xQV below args s D (xW T a) z A) (F0 m 137 ls []) := by
    intro x5 H locs ls h M hl
    rw [ekx4] at h
    dsimp only at h
    exact xretV C hr M h dX3_spread_137
  refine x_loop1_ind (P := fun v6 x7 => ∀ (H : Heap) (locs : List Loc) (ls : Array Slot), xmm D (xW T a) A s H locs x7 → lv_has ls 7 [(0, .ref (a 5)), (1, .int (oI p1)), (2, .int (oI p2)), (3, .int (oI p3)), (4, .int (oI p4)), (5, .int (oI v6))] → W p l e { frames := 4, cells := 0, slots := 0, locals := 92 } s m args below meth c H locs 0 0 (xQV below args s D (xW T a) z A) (F0 m 13 ls [])) (fun g8 ig8 v6 x7 h => ?_) x_fuel 0 x3 h H locs ls M (lv_sub hl [1, 2, 3, 4, 5, 0] rfl)
  intro H locs ls M hl
  unfold b_X3_spread_13 at h
  refine lv_iload hx hb dX3_spread_13 (lv_at hl 5 rfl) ?_
  refine lv_aload_n hx hb dX3_spread_15 rfl (lv_at hl 0 rfl) ?_
  refine gf_X3_38 C M dX3_spread_16 ?_
  refine gf_X3_45 C M dX3_spread_19 ?_
  refine z_icmp_ge (tgt := 137) hx hb dX3_spread_22 (by decide) h (fun h => ?_) (fun h => ?_)
  · exact hkx4 x7 H locs ls h M (lv_sub hl [] rfl)
  · refine lv_aload_n hx hb dX3_spread_25 rfl (lv_at hl 0 rfl) ?_
    refine gf_X3_38 C M dX3_spread_26 ?_
    refine gf_X3_51 C M dX3_spread_29 ?_
    refine lv_iload hx hb dX3_spread_32 (lv_at hl 5 rfl) ?_
    refine al_x_31 C M dX3_spread_34 h (fun v9 h => ?_)
    refine lv_istore (lv' := [(6, .int (oI v9)), (0, .ref (a 5)), (1, .int (oI p1)), (2, .int (oI p2)), (3, .int (oI p3)), (4, .int (oI p4)), (5, .int (oI v6))]) hx hb dX3_spread_35 hl (by decide) rfl (fun ls hl => ?_)
    refine lv_aload_n hx hb dX3_spread_37 rfl (lv_at hl 1 rfl) ?_
    refine gf_X3_38 C M dX3_spread_38 ?_
    refine gf_X3_54 C M dX3_spread_41 ?_
    refine lv_iload hx hb dX3_spread_44 (lv_at hl 0 rfl) ?_
    refine al_x_27 C M dX3_spread_46 h (fun v10 h => ?_)
    refine lv_iload_n hx hb dX3_spread_47 rfl (lv_at hl 4 rfl) ?_
    refine x_jp_el h (fun jp11 ejp11 h => ?_)
    have hjp11 : ∀ (x12 : XS) (H : Heap) (locs : List Loc) (ls : Array Slot), jp11 x12 = some z → xmm D (xW T a) A s H locs x12 → lv_has ls 7 [(0, .ref (a 5)), (1, .int (oI p1)), (2, .int (oI p2)), (3, .int (oI p3)), (4, .int (oI p4)), (5, .int (oI v6))] → W p l e { frames := 4, cells := 0, slots := 0, locals := 92 } s m args below meth c H locs 0 0 (xQV below args s D (xW T a) z A) (F0 m 131 ls []) := by
      intro x12 H locs ls h M hl
      rw [ejp11] at h
      dsimp only at h
      refine x_nm h (fun v13 ev13 h => ?_)
      refine lv_iinc (v := oI v13) (lv' := [(5, .int (oI v13)), (0, .ref (a 5)), (1, .int (oI p1)), (2, .int (oI p2)), (3, .int (oI p3)), (4, .int (oI p4))]) hx hb dX3_spread_131 hl (k := 5) rfl (by rw [ev13]; exact oI_add _ _) (by decide) rfl (fun ls hl => ?_)
      refine lv_goto (tgt := 13) hx hb dX3_spread_134 (by decide) ?_
      exact ig8 v13 x12 h H locs ls M (lv_sub hl [1, 2, 3, 4, 5, 0] rfl)
    refine z_icmp_ne (tgt := 62) hx hb dX3_spread_48 (by decide) h (fun h => ?_) (fun h => ?_)
    · refine lv_aload_n hx hb dX3_spread_62 rfl (lv_at hl 1 rfl) ?_
      refine gf_X3_38 C M dX3_spread_63 ?_
      refine lv_iload hx hb dX3_spread_66 (lv_at hl 0 rfl) ?_
      refine ci_X3_57 C M h ⟨Nat.le_of_ble_eq_true rfl, Nat.le_of_ble_eq_true rfl⟩ hl.1 (Nat.le_of_ble_eq_true rfl) dX3_spread_68 (fun r14 H locs x15 M nr14 h => ?_)
      refine lv_iload_n hx hb dX3_spread_71 rfl (lv_at hl 2 rfl) ?_
      refine x_jp_el h (fun jp16 ejp16 h => ?_)
      have hjp16 : ∀ (x17 : XS) (H : Heap) (locs : List Loc) (ls : Array Slot), jp16 x17 = some z → xmm D (xW T a) A s H locs x17 → lv_has ls 7 [(0, .ref (a 5)), (1, .int (oI p1)), (2, .int (oI p2)), (3, .int (oI p3)), (4, .int (oI p4)), (5, .int (oI v6)), (6, .int (oI v9))] → W p l e { frames := 4, cells := 0, slots := 0, locals := 92 } s m args below meth c H locs 0 0 (xQV below args s D (xW T a) z A) (F0 m 118 ls []) := by
        intro x17 H locs ls h M hl
        rw [ejp16] at h
        dsimp only at h
        refine lv_aload_n hx hb dX3_spread_118 rfl (lv_at hl 0 rfl) ?_
        refine gf_X3_9 C M dX3_spread_119 ?_
        refine lv_iload hx hb dX3_spread_122 (lv_at hl 6 rfl) ?_
        refine lv_aload_n hx hb dX3_spread_124 rfl (lv_at hl 0 rfl) ?_
        refine lv_iload hx hb dX3_spread_125 (lv_at hl 6 rfl) ?_
        refine ci_X3_64 C M h ⟨Nat.le_of_ble_eq_true rfl, Nat.le_of_ble_eq_true rfl⟩ hl.1 (Nat.le_of_ble_eq_true rfl) dX3_spread_127 (fun r18 H locs x19 M nr18 h => ?_)
        refine as_x_35 C M dX3_spread_130 h (fun H locs x20 M h => ?_)
        exact hjp11 x20 H locs ls h M (lv_sub hl [0, 1, 2, 3, 4, 5] rfl)
      refine z_icmp_ne (tgt := 118) hx hb dX3_spread_72 (by decide) h (fun h => ?_) (fun h => ?_)
      · exact hjp16 x15 H locs ls h M (lv_sub hl [1, 2, 3, 4, 5, 6, 0] rfl)
      · refine lv_aload_n hx hb dX3_spread_75 rfl (lv_at hl 1 rfl) ?_
        refine gf_X3_38 C M dX3_spread_76 ?_
        refine gf_X3_61 C M dX3_spread_79 ?_
        refine lv_iload hx hb dX3_spread_82 (lv_at hl 0 rfl) ?_
        refine al_x_28 C M dX3_spread_84 h (fun v21 h => ?_)
        refine lv_iload_n hx hb dX3_spread_85 rfl (lv_at hl 3 rfl) ?_
        refine z_icmp_lt (tgt := 118) hx hb dX3_spread_86 (by decide) h (fun h => ?_) (fun h => ?_)
        · exact hjp16 x15 H locs ls h M (lv_sub hl [1, 2, 3, 4, 5, 6, 0] rfl)
        · refine lv_aload_n hx hb dX3_spread_89 rfl (lv_at hl 1 rfl) ?_
          refine gf_X3_9 C M dX3_spread_90 ?_
          refine lv_iload hx hb dX3_spread_93 (lv_at hl 0 rfl) ?_
          refine lv_iload hx hb dX3_spread_95 (lv_at hl 5 rfl) ?_
          refine x_jp_el h (fun jp22 ejp22 h => ?_)
          have hjp22 : ∀ (v23 : Int) (x24 : XS) (H : Heap) (locs : List Loc) (ls : Array Slot), jp22 v23 x24 = some z → xmm D (xW T a) A s H locs x24 → lv_has ls 7 [(0, .ref (a 5)), (1, .int (oI p1)), (2, .int (oI p2)), (3, .int (oI p3)), (4, .int (oI p4)), (5, .int (oI v6))] → W p l e { frames := 4, cells := 0, slots := 0, locals := 92 } s m args below meth c H locs 0 0 (xQV below args s D (xW T a) z A) (F0 m 114 ls [.int (oI v23), .int (oI v9), .ref (a 35)]) := by
            intro v23 x24 H locs ls h M hl
            rw [ejp22] at h
            dsimp only at h
            refine as_x_35 C M dX3_spread_114 h (fun H locs x25 M h => ?_)
            refine lv_goto (tgt := 131) hx hb dX3_spread_115 (by decide) ?_
            exact hjp11 x25 H locs ls h M (lv_sub hl [0, 1, 2, 3, 4, 5] rfl)
          refine z_if_eq (tgt := 104) hx hb dX3_spread_97 (by decide) h (fun h => ?_) (fun h => ?_)
          · refine lv_aload_n hx hb dX3_spread_104 rfl (lv_at hl 1 rfl) ?_
            refine gf_X3_38 C M dX3_spread_105 ?_
            refine gf_X3_61 C M dX3_spread_108 ?_
            refine lv_iload hx hb dX3_spread_111 (lv_at hl 0 rfl) ?_
            refine al_x_28 C M dX3_spread_113 h (fun v26 h => ?_)
            exact hjp22 v26 x15 H locs ls h M (lv_sub hl [1, 2, 3, 4, 5, 6] rfl)
          · refine lv_iconst (v := oI 1) hx hb dX3_spread_100 (by decide) ?_
            refine lv_goto (tgt := 114) hx hb dX3_spread_101 (by decide) ?_
            exact hjp22 1 x15 H locs ls h M (lv_sub hl [1, 2, 3, 4, 5, 6] rfl)
    · refine lv_aload_n hx hb dX3_spread_51 rfl (lv_at hl 1 rfl) ?_
      refine gf_X3_9 C M dX3_spread_52 ?_
      refine lv_iload hx hb dX3_spread_55 (lv_at hl 0 rfl) ?_
      refine lv_iconst (v := oI (-1)) hx hb dX3_spread_57 (by decide) ?_
      refine as_x_35 C M dX3_spread_58 h (fun H locs x27 M h => ?_)
      refine lv_goto (tgt := 131) hx hb dX3_spread_59 (by decide) ?_
      exact hjp11 x27 H locs ls h M (lv_sub hl [1, 2, 3, 4, 5, 6] rfl)
theorem ci_X6_215 {cc : ByteArray} {nL : Nat} {D : va_G} {T : ClassId × ClassId} {a : Nat → Nat} {A : Nat → Prop} {p : Program} {l : Launch} {e : Env} {R : Room} {s : State} {m : MethodId} {args : Array Value} {below : List Frame} {meth : Method} {c : Code} {H : Heap} {locs : List Loc} {Q : State → Prop} {x : XS} {z : Int × XS} {pc : Nat} {ls : Array Slot} {rest : List Value} (C : xcx RX6 cc nL D T (xW T a) A p s m args meth c) (M : xmm D (xW T a) A s H locs x) {p1 p2 p3 p4 : Int} {K : Int → XS → XR} (h : x_call (f_X3_spread x p1 p2 p3 p4) K = some z) (nb4 : narrow .boolean (.int (oI p4)) = .int (oI p4)) (hR : 4 + 1 ≤ R.frames ∧ 8 + (7 + 11) + 92 ≤ R.locals) (hsz : ls.size = nL) (hrest : (rest.map fun v => v.category).sum ≤ 8) (hdg : decode cc pc = .ok (.invokevirtual 215, 3)) (kk : ∀ (H1 : Heap) (locs1 : List Loc) (x1 : XS), xmm D (xW T a) A s H1 locs1 x1 → K 0 x1 = some z → W p l e R s m args below meth c H1 locs1 0 0 Q (F0 m (pc + 3) ls rest)) : W p l e R s m args below meth c H locs 0 0 Q (F0 m pc ls (.int (oI p4) :: .int (oI p3) :: .int (oI p2) :: .int (oI p1) :: .ref (a 5) :: rest)) :=
  xcallV_N (As := [.int (oI p1), .int (oI p2), .int (oI p3), .int (oI p4)]) (n := 4) C M (fun zc sz ho => c_X3_spread nb4 ho sz) bw_545 bw_542 bw_544 bw_33 bw_90 rfl (by decide +kernel) 5 rfl rfl ⟨rfl, rfl⟩ hR hsz rfl hrest hdg h kk
set_option maxHeartbeats 4000000 in
set_option maxRecDepth 100000 in
theorem c_X6_explore {l : Launch} {D : va_G} {T : ClassId × ClassId} {a : Nat → Nat} {x : XS} {p1 : Int} {p2 : Int} {p3 : Int} {p4 : Int} (nb4 : narrow .boolean (.int (oI p4)) = .int (oI p4)) {z : Int × XS} (h : f_X6_explore x p1 p2 p3 p4 = some z) (sz : Nat) : xMetV l yX6_explore cX6_explore 5 { frames := 5, cells := 0, slots := 0, locals := 118 } D T (xW T a) sz [.ref (a 0), .int (oI p1), .int (oI p2), .int (oI p3), .int (oI p4)] x z := by
  refine xMetV_of (by decide) (Nat.le_of_ble_eq_true rfl) (xW_ad T a) ?_
  intro p e s m args below meth c A ls C hr M hl
  have hx := C.1
  have hb := C.2.1
  have hl : lv_has ls 5 [(0, .ref (a 0)), (1, .int (oI p1)), (2, .int (oI p2)), (3, .int (oI p3)), (4, .int (oI p4))] := hl
  have C : xcx RX6 cX6_explore 5 D T (xW T a) A p s m args meth c := C
  revert hl M
  generalize ([] : List Loc) = locs
  generalize s.heap = H
  intro M hl
  unfold f_X6_explore at h
  refine lv_aload_n hx hb dX6_explore_0 rfl (lv_at hl 0 rfl) ?_
  refine gf_X6_35 C M dX6_explore_1 ?_
  refine lv_iload_n hx hb dX6_explore_4 rfl (lv_at hl 3 rfl) ?_
  refine ci_X6_157 C M h ⟨Nat.le_of_ble_eq_true rfl, Nat.le_of_ble_eq_true rfl⟩ hl.1 (Nat.le_of_ble_eq_true rfl) dX6_explore_5 (fun H locs x2 M h => ?_)
  refine lv_aload_n hx hb dX6_explore_8 rfl (lv_at hl 0 rfl) ?_
  refine gf_X6_44 C M dX6_explore_9 ?_
  refine lv_iload_n hx hb dX6_explore_12 rfl (lv_at hl 1 rfl) ?_
  refine lv_iload_n hx hb dX6_explore_13 rfl (lv_at hl 2 rfl) ?_
  refine lv_iconst (v := oI (-1)) hx hb dX6_explore_14 (by decide) ?_
  refine lv_iload hx hb dX6_explore_15 (lv_at hl 4 rfl) ?_
  refine ci_X6_215 C M h nb4 ⟨Nat.le_of_ble_eq_true rfl, Nat.le_of_ble_eq_true rfl⟩ hl.1 (Nat.le_of_ble_eq_true rfl) dX6_explore_17 (fun H locs x4 M h => ?_)
  exact xretV C hr M h dX6_explore_20
set_option maxHeartbeats 4000000 in
set_option maxRecDepth 100000 in
theorem c_X3_firstComing {l : Launch} {D : va_G} {T : ClassId × ClassId} {a : Nat → Nat} {x : XS} {p1 : Int} {z : Int × XS} (h : f_X3_firstComing x p1 = some z) (sz : Nat) : xMetI l yX3_firstComing cX3_firstComing 3 .int { frames := 1, cells := 0, slots := 0, locals := 21 } D T (xW T a) sz [.ref (a 5), .int (oI p1)] x z := by
  refine xMetI_of (by decide) (Nat.le_of_ble_eq_true rfl) (xW_ad T a) ?_
  intro p e s m args below meth c A ls C hr M hl
  have hx := C.1
  have hb := C.2.1
  have hl : lv_has ls 3 [(0, .ref (a 5)), (1, .int (oI p1))] := hl
  have C : xcx RX3 cX3_firstComing 3 D T (xW T a) A p s m args meth c := C
  revert hl M
  generalize ([] : List Loc) = locs
  generalize s.heap = H
  intro M hl
  unfold f_X3_firstComing at h
  refine lv_aload_n hx hb dX3_firstComing_0 rfl (lv_at hl 0 rfl) ?_
  refine gf_X3_38 C M dX3_firstComing_1 ?_
  refine lv_iload_n hx hb dX3_firstComing_4 rfl (lv_at hl 1 rfl) ?_
  refine ci_X3_67 C M h ⟨Nat.le_of_ble_eq_true rfl, Nat.le_of_ble_eq_true rfl⟩ hl.1 (Nat.le_of_ble_eq_true rfl) dX3_firstComing_5 (fun r1 H locs x2 M nr1 h => ?_)
  refine lv_istore_n (lv' := [(2, .int (oI r1)), (0, .ref (a 5)), (1, .int (oI p1))]) hx hb dX3_firstComing_8 rfl hl (by decide) rfl (fun ls hl => ?_)
  refine x_jp_el h (fun kx3 ekx3 h => ?_)
  have hkx3 : ∀ (v4 : Int) (x5 : XS) (H : Heap) (locs : List Loc) (ls : Array Slot), kx3 v4 x5 = some z → xmm D (xW T a) A s H locs x5 → lv_has ls 3 [(0, .ref (a 5)), (2, .int (oI v4))] → W p l e { frames := 1, cells := 0, slots := 0, locals := 21 } s m args below meth c H locs 0 0 (xQI below args s D (xW T a) .int z A) (F0 m 40 ls []) := by
    intro v4 x5 H locs ls h M hl
    rw [ekx3] at h
    dsimp only at h
    refine lv_aload_n hx hb dX3_firstComing_40 rfl (lv_at hl 0 rfl) ?_
    refine gf_X3_38 C M dX3_firstComing_41 ?_
    refine gf_X3_89 C M dX3_firstComing_44 ?_
    refine lv_aload_n hx hb dX3_firstComing_47 rfl (lv_at hl 0 rfl) ?_
    refine gf_X3_38 C M dX3_firstComing_48 ?_
    refine gf_X3_92 C M dX3_firstComing_51 ?_
    refine lv_iload_n hx hb dX3_firstComing_54 rfl (lv_at hl 1 rfl) ?_
    refine al_x_32 C M dX3_firstComing_55 h (fun v6 h => ?_)
    refine al_x_29 C M dX3_firstComing_56 h (fun v7 h => ?_)
    exact xretI C hr M h rfl dX3_firstComing_57
  refine x_loop1_ind (P := fun v8 x9 => ∀ (H : Heap) (locs : List Loc) (ls : Array Slot), xmm D (xW T a) A s H locs x9 → lv_has ls 3 [(0, .ref (a 5)), (1, .int (oI p1)), (2, .int (oI v8))] → W p l e { frames := 1, cells := 0, slots := 0, locals := 21 } s m args below meth c H locs 0 0 (xQI below args s D (xW T a) .int z A) (F0 m 9 ls [])) (fun g10 ig10 v8 x9 h => ?_) x_fuel r1 x2 h H locs ls M (lv_sub hl [1, 2, 0] rfl)
  intro H locs ls M hl
  unfold b_X3_firstComing_9 at h
  refine lv_iload_n hx hb dX3_firstComing_9 rfl (lv_at hl 2 rfl) ?_
  refine lv_aload_n hx hb dX3_firstComing_10 rfl (lv_at hl 0 rfl) ?_
  refine gf_X3_38 C M dX3_firstComing_11 ?_
  refine gf_X3_86 C M dX3_firstComing_14 ?_
  refine lv_iload_n hx hb dX3_firstComing_17 rfl (lv_at hl 1 rfl) ?_
  refine al_x_34 C M dX3_firstComing_18 h (fun v11 h => ?_)
  refine z_icmp_ge (tgt := 64) hx hb dX3_firstComing_19 (by decide) h (fun h => ?_) (fun h => ?_)
  · refine lv_iconst (v := oI (-1)) hx hb dX3_firstComing_64 (by decide) ?_
    exact xretI C hr M h rfl dX3_firstComing_65
  · refine lv_aload_n hx hb dX3_firstComing_22 rfl (lv_at hl 0 rfl) ?_
    refine gf_X3_9 C M dX3_firstComing_23 ?_
    refine lv_aload_n hx hb dX3_firstComing_26 rfl (lv_at hl 0 rfl) ?_
    refine gf_X3_38 C M dX3_firstComing_27 ?_
    refine gf_X3_92 C M dX3_firstComing_30 ?_
    refine lv_iload_n hx hb dX3_firstComing_33 rfl (lv_at hl 2 rfl) ?_
    refine al_x_32 C M dX3_firstComing_34 h (fun v12 h => ?_)
    refine al_x_35 C M dX3_firstComing_35 h (fun v13 h => ?_)
    refine lv_iconst (v := oI (-1)) hx hb dX3_firstComing_36 (by decide) ?_
    refine z_icmp_eq (tgt := 58) hx hb dX3_firstComing_37 (by decide) h (fun h => ?_) (fun h => ?_)
    · refine x_nm h (fun v14 ev14 h => ?_)
      refine lv_iinc (v := oI v14) (lv' := [(2, .int (oI v14)), (0, .ref (a 5)), (1, .int (oI p1))]) hx hb dX3_firstComing_58 hl (k := 2) rfl (by rw [ev14]; exact oI_add _ _) (by decide) rfl (fun ls hl => ?_)
      refine lv_goto (tgt := 9) hx hb dX3_firstComing_61 (by decide) ?_
      exact ig10 v14 x9 h H locs ls M (lv_sub hl [1, 2, 0] rfl)
    · exact hkx3 v8 x9 H locs ls h M (lv_sub hl [0, 2] rfl)
set_option maxHeartbeats 4000000 in
set_option maxRecDepth 100000 in
theorem c_X6_answerOfWay {l : Launch} {D : va_G} {T : ClassId × ClassId} {a : Nat → Nat} {x : XS} {p1 : Int} {z : Int × XS} (h : f_X6_answerOfWay x p1 = some z) (sz : Nat) : xMetI l yX6_answerOfWay cX6_answerOfWay 2 .int { frames := 1, cells := 0, slots := 0, locals := 21 } D T (xW T a) sz [.ref (a 0), .int (oI p1)] x z := by
  refine xMetI_of (by decide) (Nat.le_of_ble_eq_true rfl) (xW_ad T a) ?_
  intro p e s m args below meth c A ls C hr M hl
  have hx := C.1
  have hb := C.2.1
  have hl : lv_has ls 2 [(0, .ref (a 0)), (1, .int (oI p1))] := hl
  have C : xcx RX6 cX6_answerOfWay 2 D T (xW T a) A p s m args meth c := C
  revert hl M
  generalize ([] : List Loc) = locs
  generalize s.heap = H
  intro M hl
  unfold f_X6_answerOfWay at h
  refine lv_iload_n hx hb dX6_answerOfWay_0 rfl (lv_at hl 1 rfl) ?_
  refine lv_iconst (v := oI (-1)) hx hb dX6_answerOfWay_1 (by decide) ?_
  refine z_icmp_ne (tgt := 13) hx hb dX6_answerOfWay_2 (by decide) h (fun h => ?_) (fun h => ?_)
  · refine lv_aload_n hx hb dX6_answerOfWay_13 rfl (lv_at hl 0 rfl) ?_
    refine lv_iload_n hx hb dX6_answerOfWay_14 rfl (lv_at hl 1 rfl) ?_
    refine ci_X6_77 C M h ⟨Nat.le_of_ble_eq_true rfl, Nat.le_of_ble_eq_true rfl⟩ hl.1 (Nat.le_of_ble_eq_true rfl) dX6_answerOfWay_15 (fun r1 H locs x2 M nr1 h => ?_)
    exact xretI C hr M h rfl dX6_answerOfWay_18
  · refine lv_aload_n hx hb dX6_answerOfWay_5 rfl (lv_at hl 0 rfl) ?_
    refine lv_iconst (v := oI 5) hx hb dX6_answerOfWay_6 (by decide) ?_
    refine ci_X6_66 C M h ⟨Nat.le_of_ble_eq_true rfl, Nat.le_of_ble_eq_true rfl⟩ hl.1 (Nat.le_of_ble_eq_true rfl) dX6_answerOfWay_7 (fun r3 H locs x4 M nr3 h => ?_)
    refine lv_goto (tgt := 18) hx hb dX6_answerOfWay_10 (by decide) ?_
    exact xretI C hr M h rfl dX6_answerOfWay_18
theorem ci_X6_165 {cc : ByteArray} {nL : Nat} {D : va_G} {T : ClassId × ClassId} {a : Nat → Nat} {A : Nat → Prop} {p : Program} {l : Launch} {e : Env} {R : Room} {s : State} {m : MethodId} {args : Array Value} {below : List Frame} {meth : Method} {c : Code} {H : Heap} {locs : List Loc} {Q : State → Prop} {x : XS} {z : Int × XS} {pc : Nat} {ls : Array Slot} {rest : List Value} (C : xcx RX6 cc nL D T (xW T a) A p s m args meth c) (M : xmm D (xW T a) A s H locs x) {p1 p2 p3 p4 p5 : Int} {K : Int → XS → XR} (h : x_call (f_X6_wayFault x p1 p2 p3 p4 p5) K = some z) (hR : 3 + 1 ≤ R.frames ∧ 8 + (6 + 11) + 68 ≤ R.locals) (hsz : ls.size = nL) (hrest : (rest.map fun v => v.category).sum ≤ 8) (hdg : decode cc pc = .ok (.invokevirtual 165, 3)) (kk : ∀ (r : Int) (H1 : Heap) (locs1 : List Loc) (x1 : XS), xmm D (xW T a) A s H1 locs1 x1 → narrow .int (.int (oI r)) = .int (oI r) → K r x1 = some z → W p l e R s m args below meth c H1 locs1 0 0 Q (F0 m (pc + 3) ls (.int (oI r) :: rest))) : W p l e R s m args below meth c H locs 0 0 Q (F0 m pc ls (.int (oI p5) :: .int (oI p4) :: .int (oI p3) :: .int (oI p2) :: .int (oI p1) :: .ref (a 0) :: rest)) :=
  xcallI_V (As := [.int (oI p1), .int (oI p2), .int (oI p3), .int (oI p4), .int (oI p5)]) (n := 5) C M (fun zc sz ho => c_X6_wayFault ho sz) bw_533 bw_530 bw_532 bw_30 bw_84 rfl (by decide +kernel) 0 rfl rfl ⟨rfl, rfl⟩ hR hsz rfl hrest hdg h kk
theorem ci_X6_169 {cc : ByteArray} {nL : Nat} {D : va_G} {T : ClassId × ClassId} {a : Nat → Nat} {A : Nat → Prop} {p : Program} {l : Launch} {e : Env} {R : Room} {s : State} {m : MethodId} {args : Array Value} {below : List Frame} {meth : Method} {c : Code} {H : Heap} {locs : List Loc} {Q : State → Prop} {x : XS} {z : Int × XS} {pc : Nat} {ls : Array Slot} {rest : List Value} (C : xcx RX6 cc nL D T (xW T a) A p s m args meth c) (M : xmm D (xW T a) A s H locs x) {p1 p2 p3 p4 : Int} {K : Int → XS → XR} (h : x_call (f_X6_explore x p1 p2 p3 p4) K = some z) (nb4 : narrow .boolean (.int (oI p4)) = .int (oI p4)) (hR : 5 + 1 ≤ R.frames ∧ 8 + (5 + 11) + 118 ≤ R.locals) (hsz : ls.size = nL) (hrest : (rest.map fun v => v.category).sum ≤ 8) (hdg : decode cc pc = .ok (.invokevirtual 169, 3)) (kk : ∀ (H1 : Heap) (locs1 : List Loc) (x1 : XS), xmm D (xW T a) A s H1 locs1 x1 → K 0 x1 = some z → W p l e R s m args below meth c H1 locs1 0 0 Q (F0 m (pc + 3) ls rest)) : W p l e R s m args below meth c H locs 0 0 Q (F0 m pc ls (.int (oI p4) :: .int (oI p3) :: .int (oI p2) :: .int (oI p1) :: .ref (a 0) :: rest)) :=
  xcallV_V (As := [.int (oI p1), .int (oI p2), .int (oI p3), .int (oI p4)]) (n := 4) C M (fun zc sz ho => c_X6_explore nb4 ho sz) bw_541 bw_538 bw_540 bw_32 bw_84 rfl (by decide +kernel) 0 rfl rfl ⟨rfl, rfl⟩ hR hsz rfl hrest hdg h kk
theorem ci_X6_173 {cc : ByteArray} {nL : Nat} {D : va_G} {T : ClassId × ClassId} {a : Nat → Nat} {A : Nat → Prop} {p : Program} {l : Launch} {e : Env} {R : Room} {s : State} {m : MethodId} {args : Array Value} {below : List Frame} {meth : Method} {c : Code} {H : Heap} {locs : List Loc} {Q : State → Prop} {x : XS} {z : Int × XS} {pc : Nat} {ls : Array Slot} {rest : List Value} (C : xcx RX6 cc nL D T (xW T a) A p s m args meth c) (M : xmm D (xW T a) A s H locs x) {p1 : Int} {K : Int → XS → XR} (h : x_call (f_X3_firstComing x p1) K = some z) (hR : 1 + 1 ≤ R.frames ∧ 8 + (3 + 11) + 21 ≤ R.locals) (hsz : ls.size = nL) (hrest : (rest.map fun v => v.category).sum ≤ 8) (hdg : decode cc pc = .ok (.invokevirtual 173, 3)) (kk : ∀ (r : Int) (H1 : Heap) (locs1 : List Loc) (x1 : XS), xmm D (xW T a) A s H1 locs1 x1 → narrow .int (.int (oI r)) = .int (oI r) → K r x1 = some z → W p l e R s m args below meth c H1 locs1 0 0 Q (F0 m (pc + 3) ls (.int (oI r) :: rest))) : W p l e R s m args below meth c H locs 0 0 Q (F0 m pc ls (.int (oI p1) :: .ref (a 5) :: rest)) :=
  xcallI_N (As := [.int (oI p1)]) (n := 1) C M (fun zc sz ho => c_X3_firstComing ho sz) bw_589 bw_586 bw_588 bw_44 bw_90 rfl (by decide +kernel) 5 rfl rfl ⟨rfl, rfl⟩ hR hsz rfl hrest hdg h kk
theorem ci_X6_176 {cc : ByteArray} {nL : Nat} {D : va_G} {T : ClassId × ClassId} {a : Nat → Nat} {A : Nat → Prop} {p : Program} {l : Launch} {e : Env} {R : Room} {s : State} {m : MethodId} {args : Array Value} {below : List Frame} {meth : Method} {c : Code} {H : Heap} {locs : List Loc} {Q : State → Prop} {x : XS} {z : Int × XS} {pc : Nat} {ls : Array Slot} {rest : List Value} (C : xcx RX6 cc nL D T (xW T a) A p s m args meth c) (M : xmm D (xW T a) A s H locs x) {p1 : Int} {K : Int → XS → XR} (h : x_call (f_X6_answerOfWay x p1) K = some z) (hR : 1 + 1 ≤ R.frames ∧ 8 + (2 + 11) + 21 ≤ R.locals) (hsz : ls.size = nL) (hrest : (rest.map fun v => v.category).sum ≤ 8) (hdg : decode cc pc = .ok (.invokevirtual 176, 3)) (kk : ∀ (r : Int) (H1 : Heap) (locs1 : List Loc) (x1 : XS), xmm D (xW T a) A s H1 locs1 x1 → narrow .int (.int (oI r)) = .int (oI r) → K r x1 = some z → W p l e R s m args below meth c H1 locs1 0 0 Q (F0 m (pc + 3) ls (.int (oI r) :: rest))) : W p l e R s m args below meth c H locs 0 0 Q (F0 m pc ls (.int (oI p1) :: .ref (a 0) :: rest)) :=
  xcallI_V (As := [.int (oI p1)]) (n := 1) C M (fun zc sz ho => c_X6_answerOfWay ho sz) bw_593 bw_590 bw_592 bw_45 bw_84 rfl (by decide +kernel) 0 rfl rfl ⟨rfl, rfl⟩ hR hsz rfl hrest hdg h kk
set_option maxHeartbeats 4000000 in
set_option maxRecDepth 100000 in
theorem c_X6_first {l : Launch} {D : va_G} {T : ClassId × ClassId} {a : Nat → Nat} {x : XS} {p1 : Int} {p2 : Int} {p3 : Int} {p4 : Int} {z : Int × XS} (h : f_X6_first x p1 p2 p3 p4 = some z) (sz : Nat) : xMetI l yX6_first cX6_first 6 .int { frames := 6, cells := 0, slots := 0, locals := 142 } D T (xW T a) sz [.ref (a 0), .int (oI p1), .int (oI p2), .int (oI p3), .int (oI p4)] x z := by
  refine xMetI_of (by decide) (Nat.le_of_ble_eq_true rfl) (xW_ad T a) ?_
  intro p e s m args below meth c A ls C hr M hl
  have hx := C.1
  have hb := C.2.1
  have hl : lv_has ls 6 [(0, .ref (a 0)), (1, .int (oI p1)), (2, .int (oI p2)), (3, .int (oI p3)), (4, .int (oI p4))] := hl
  have C : xcx RX6 cX6_first 6 D T (xW T a) A p s m args meth c := C
  revert hl M
  generalize ([] : List Loc) = locs
  generalize s.heap = H
  intro M hl
  unfold f_X6_first at h
  refine lv_aload_n hx hb dX6_first_0 rfl (lv_at hl 0 rfl) ?_
  refine lv_iload_n hx hb dX6_first_1 rfl (lv_at hl 1 rfl) ?_
  refine lv_iload_n hx hb dX6_first_2 rfl (lv_at hl 2 rfl) ?_
  refine lv_iload_n hx hb dX6_first_3 rfl (lv_at hl 3 rfl) ?_
  refine lv_iload_n hx hb dX6_first_4 rfl (lv_at hl 3 rfl) ?_
  refine lv_iload hx hb dX6_first_5 (lv_at hl 4 rfl) ?_
  refine ci_X6_165 C M h ⟨Nat.le_of_ble_eq_true rfl, Nat.le_of_ble_eq_true rfl⟩ hl.1 (Nat.le_of_ble_eq_true rfl) dX6_first_7 (fun r1 H locs x2 M nr1 h => ?_)
  refine lv_istore (lv' := [(5, .int (oI r1)), (0, .ref (a 0)), (1, .int (oI p1)), (2, .int (oI p2)), (3, .int (oI p3)), (4, .int (oI p4))]) hx hb dX6_first_10 hl (by decide) rfl (fun ls hl => ?_)
  refine lv_iload hx hb dX6_first_12 (lv_at hl 0 rfl) ?_
  refine z_if_eq (tgt := 24) hx hb dX6_first_14 (by decide) h (fun h => ?_) (fun h => ?_)
  · refine lv_aload_n hx hb dX6_first_24 rfl (lv_at hl 1 rfl) ?_
    refine lv_iload_n hx hb dX6_first_25 rfl (lv_at hl 2 rfl) ?_
    refine lv_iload_n hx hb dX6_first_26 rfl (lv_at hl 4 rfl) ?_
    refine lv_iload hx hb dX6_first_27 (lv_at hl 5 rfl) ?_
    refine lv_iconst (v := oI 0) hx hb dX6_first_29 (by decide) ?_
    refine ci_X6_169 C M h nb_0 ⟨Nat.le_of_ble_eq_true rfl, Nat.le_of_ble_eq_true rfl⟩ hl.1 (Nat.le_of_ble_eq_true rfl) dX6_first_30 (fun H locs x4 M h => ?_)
    refine lv_aload_n hx hb dX6_first_33 rfl (lv_at hl 1 rfl) ?_
    refine lv_aload_n hx hb dX6_first_34 rfl (lv_at hl 1 rfl) ?_
    refine gf_X6_44 C M dX6_first_35 ?_
    refine lv_iload_n hx hb dX6_first_38 rfl (lv_at hl 3 rfl) ?_
    refine ci_X6_173 C M h ⟨Nat.le_of_ble_eq_true rfl, Nat.le_of_ble_eq_true rfl⟩ hl.1 (Nat.le_of_ble_eq_true rfl) dX6_first_39 (fun r5 H locs x6 M nr5 h => ?_)
    refine ci_X6_176 C M h ⟨Nat.le_of_ble_eq_true rfl, Nat.le_of_ble_eq_true rfl⟩ hl.1 (Nat.le_of_ble_eq_true rfl) dX6_first_42 (fun r7 H locs x8 M nr7 h => ?_)
    exact xretI C hr M h rfl dX6_first_45
  · refine lv_aload_n hx hb dX6_first_17 rfl (lv_at hl 1 rfl) ?_
    refine lv_iload hx hb dX6_first_18 (lv_at hl 0 rfl) ?_
    refine ci_X6_66 C M h ⟨Nat.le_of_ble_eq_true rfl, Nat.le_of_ble_eq_true rfl⟩ hl.1 (Nat.le_of_ble_eq_true rfl) dX6_first_20 (fun r9 H locs x10 M nr9 h => ?_)
    exact xretI C hr M h rfl dX6_first_23
set_option maxHeartbeats 4000000 in
set_option maxRecDepth 100000 in
theorem c_X3_isEnd {l : Launch} {D : va_G} {T : ClassId × ClassId} {a : Nat → Nat} {x : XS} {p1 : Int} {p2 : Int} {z : Int × XS} (h : f_X3_isEnd x p1 p2 = some z) (sz : Nat) : xMetI l yX3_isEnd cX3_isEnd 3 .boolean { frames := 0, cells := 0, slots := 0, locals := 0 } D T (xW T a) sz [.ref (a 5), .int (oI p1), .int (oI p2)] x z := by
  refine xMetI_of (by decide) (Nat.le_of_ble_eq_true rfl) (xW_ad T a) ?_
  intro p e s m args below meth c A ls C hr M hl
  have hx := C.1
  have hb := C.2.1
  have hl : lv_has ls 3 [(0, .ref (a 5)), (1, .int (oI p1)), (2, .int (oI p2))] := hl
  have C : xcx RX3 cX3_isEnd 3 D T (xW T a) A p s m args meth c := C
  revert hl M
  generalize ([] : List Loc) = locs
  generalize s.heap = H
  intro M hl
  unfold f_X3_isEnd at h
  refine lv_aload_n hx hb dX3_isEnd_0 rfl (lv_at hl 0 rfl) ?_
  refine gf_X3_9 C M dX3_isEnd_1 ?_
  refine lv_iload_n hx hb dX3_isEnd_4 rfl (lv_at hl 1 rfl) ?_
  refine al_x_35 C M dX3_isEnd_5 h (fun v1 h => ?_)
  refine lv_iconst (v := oI (-1)) hx hb dX3_isEnd_6 (by decide) ?_
  refine z_icmp_eq (tgt := 27) hx hb dX3_isEnd_7 (by decide) h (fun h => ?_) (fun h => ?_)
  · refine lv_iconst (v := oI 0) hx hb dX3_isEnd_27 (by decide) ?_
    exact xretI C hr M h nb_0 dX3_isEnd_28
  · refine lv_aload_n hx hb dX3_isEnd_10 rfl (lv_at hl 0 rfl) ?_
    refine gf_X3_38 C M dX3_isEnd_11 ?_
    refine gf_X3_89 C M dX3_isEnd_14 ?_
    refine lv_iload_n hx hb dX3_isEnd_17 rfl (lv_at hl 1 rfl) ?_
    refine al_x_29 C M dX3_isEnd_18 h (fun v2 h => ?_)
    refine lv_iload_n hx hb dX3_isEnd_19 rfl (lv_at hl 2 rfl) ?_
    refine z_icmp_gt (tgt := 27) hx hb dX3_isEnd_20 (by decide) h (fun h => ?_) (fun h => ?_)
    · refine lv_iconst (v := oI 0) hx hb dX3_isEnd_27 (by decide) ?_
      exact xretI C hr M h nb_0 dX3_isEnd_28
    · refine lv_iconst (v := oI 1) hx hb dX3_isEnd_23 (by decide) ?_
      refine lv_goto (tgt := 28) hx hb dX3_isEnd_24 (by decide) ?_
      exact xretI C hr M h nb_1 dX3_isEnd_28
theorem ci_X3_105 {cc : ByteArray} {nL : Nat} {D : va_G} {T : ClassId × ClassId} {a : Nat → Nat} {A : Nat → Prop} {p : Program} {l : Launch} {e : Env} {R : Room} {s : State} {m : MethodId} {args : Array Value} {below : List Frame} {meth : Method} {c : Code} {H : Heap} {locs : List Loc} {Q : State → Prop} {x : XS} {z : Int × XS} {pc : Nat} {ls : Array Slot} {rest : List Value} (C : xcx RX3 cc nL D T (xW T a) A p s m args meth c) (M : xmm D (xW T a) A s H locs x) {p1 p2 : Int} {K : Int → XS → XR} (h : x_call (f_X3_isEnd x p1 p2) K = some z) (hR : 0 + 1 ≤ R.frames ∧ 8 + (3 + 11) + 0 ≤ R.locals) (hsz : ls.size = nL) (hrest : (rest.map fun v => v.category).sum ≤ 8) (hdg : decode cc pc = .ok (.invokevirtual 105, 3)) (kk : ∀ (r : Int) (H1 : Heap) (locs1 : List Loc) (x1 : XS), xmm D (xW T a) A s H1 locs1 x1 → narrow .boolean (.int (oI r)) = .int (oI r) → K r x1 = some z → W p l e R s m args below meth c H1 locs1 0 0 Q (F0 m (pc + 3) ls (.int (oI r) :: rest))) : W p l e R s m args below meth c H locs 0 0 Q (F0 m pc ls (.int (oI p2) :: .int (oI p1) :: .ref (a 5) :: rest)) :=
  xcallI_V (As := [.int (oI p1), .int (oI p2)]) (n := 2) C M (fun zc sz ho => c_X3_isEnd ho sz) bw_605 bw_602 bw_604 bw_47 bw_90 rfl (by decide +kernel) 5 rfl rfl ⟨rfl, rfl⟩ hR hsz rfl hrest hdg h kk
set_option maxHeartbeats 4000000 in
set_option maxRecDepth 100000 in
theorem c_X3_lastLeaving {l : Launch} {D : va_G} {T : ClassId × ClassId} {a : Nat → Nat} {x : XS} {p1 : Int} {p2 : Int} {z : Int × XS} (h : f_X3_lastLeaving x p1 p2 = some z) (sz : Nat) : xMetI l yX3_lastLeaving cX3_lastLeaving 6 .int { frames := 1, cells := 0, slots := 0, locals := 22 } D T (xW T a) sz [.ref (a 5), .int (oI p1), .int (oI p2)] x z := by
  refine xMetI_of (by decide) (Nat.le_of_ble_eq_true rfl) (xW_ad T a) ?_
  intro p e s m args below meth c A ls C hr M hl
  have hx := C.1
  have hb := C.2.1
  have hl : lv_has ls 6 [(0, .ref (a 5)), (1, .int (oI p1)), (2, .int (oI p2))] := hl
  have C : xcx RX3 cX3_lastLeaving 6 D T (xW T a) A p s m args meth c := C
  revert hl M
  generalize ([] : List Loc) = locs
  generalize s.heap = H
  intro M hl
  unfold f_X3_lastLeaving at h
  refine lv_iconst (v := oI (-1)) hx hb dX3_lastLeaving_0 (by decide) ?_
  refine lv_istore_n (lv' := [(3, .int (oI (-1))), (0, .ref (a 5)), (1, .int (oI p1)), (2, .int (oI p2))]) hx hb dX3_lastLeaving_1 rfl hl (by decide) rfl (fun ls hl => ?_)
  refine lv_aload_n hx hb dX3_lastLeaving_2 rfl (lv_at hl 1 rfl) ?_
  refine gf_X3_38 C M dX3_lastLeaving_3 ?_
  refine lv_iload_n hx hb dX3_lastLeaving_6 rfl (lv_at hl 2 rfl) ?_
  refine ci_X3_67 C M h ⟨Nat.le_of_ble_eq_true rfl, Nat.le_of_ble_eq_true rfl⟩ hl.1 (Nat.le_of_ble_eq_true rfl) dX3_lastLeaving_7 (fun r1 H locs x2 M nr1 h => ?_)
  refine lv_istore (lv' := [(4, .int (oI r1)), (3, .int (oI (-1))), (0, .ref (a 5)), (1, .int (oI p1)), (2, .int (oI p2))]) hx hb dX3_lastLeaving_10 hl (by decide) rfl (fun ls hl => ?_)
  refine x_jp_el h (fun kx3 ekx3 h => ?_)
  have hkx3 : ∀ (v4 : Int) (x5 : XS) (H : Heap) (locs : List Loc) (ls : Array Slot), kx3 v4 x5 = some z → xmm D (xW T a) A s H locs x5 → lv_has ls 6 [(3, .int (oI v4))] → W p l e { frames := 1, cells := 0, slots := 0, locals := 22 } s m args below meth c H locs 0 0 (xQI below args s D (xW T a) .int z A) (F0 m 66 ls []) := by
    intro v4 x5 H locs ls h M hl
    rw [ekx3] at h
    dsimp only at h
    refine lv_iload_n hx hb dX3_lastLeaving_66 rfl (lv_at hl 0 rfl) ?_
    exact xretI C hr M h rfl dX3_lastLeaving_67
  refine x_loop2_ind (P := fun v6 v7 x8 => ∀ (H : Heap) (locs : List Loc) (ls : Array Slot), xmm D (xW T a) A s H locs x8 → lv_has ls 6 [(0, .ref (a 5)), (1, .int (oI p1)), (2, .int (oI p2)), (3, .int (oI v6)), (4, .int (oI v7))] → W p l e { frames := 1, cells := 0, slots := 0, locals := 22 } s m args below meth c H locs 0 0 (xQI below args s D (xW T a) .int z A) (F0 m 12 ls [])) (fun g9 ig9 v6 v7 x8 h => ?_) x_fuel (-1) r1 x2 h H locs ls M (lv_sub hl [2, 3, 4, 1, 0] rfl)
  intro H locs ls M hl
  unfold b_X3_lastLeaving_12 at h
  refine lv_iload hx hb dX3_lastLeaving_12 (lv_at hl 4 rfl) ?_
  refine lv_aload_n hx hb dX3_lastLeaving_14 rfl (lv_at hl 0 rfl) ?_
  refine gf_X3_38 C M dX3_lastLeaving_15 ?_
  refine gf_X3_86 C M dX3_lastLeaving_18 ?_
  refine lv_iload_n hx hb dX3_lastLeaving_21 rfl (lv_at hl 1 rfl) ?_
  refine al_x_34 C M dX3_lastLeaving_22 h (fun v10 h => ?_)
  refine z_icmp_ge (tgt := 66) hx hb dX3_lastLeaving_23 (by decide) h (fun h => ?_) (fun h => ?_)
  · exact hkx3 v6 x8 H locs ls h M (lv_sub hl [3] rfl)
  · refine lv_aload_n hx hb dX3_lastLeaving_26 rfl (lv_at hl 0 rfl) ?_
    refine gf_X3_38 C M dX3_lastLeaving_27 ?_
    refine gf_X3_92 C M dX3_lastLeaving_30 ?_
    refine lv_iload hx hb dX3_lastLeaving_33 (lv_at hl 4 rfl) ?_
    refine al_x_32 C M dX3_lastLeaving_35 h (fun v11 h => ?_)
    refine lv_istore (lv' := [(5, .int (oI v11)), (0, .ref (a 5)), (1, .int (oI p1)), (2, .int (oI p2)), (3, .int (oI v6)), (4, .int (oI v7))]) hx hb dX3_lastLeaving_36 hl (by decide) rfl (fun ls hl => ?_)
    refine lv_aload_n hx hb dX3_lastLeaving_38 rfl (lv_at hl 1 rfl) ?_
    refine lv_iload hx hb dX3_lastLeaving_39 (lv_at hl 0 rfl) ?_
    refine lv_iload_n hx hb dX3_lastLeaving_41 rfl (lv_at hl 3 rfl) ?_
    refine ci_X3_105 C M h ⟨Nat.le_of_ble_eq_true rfl, Nat.le_of_ble_eq_true rfl⟩ hl.1 (Nat.le_of_ble_eq_true rfl) dX3_lastLeaving_42 (fun r12 H locs x13 M nr12 h => ?_)
    refine x_jp_el h (fun jp14 ejp14 h => ?_)
    have hjp14 : ∀ (v15 : Int) (x16 : XS) (H : Heap) (locs : List Loc) (ls : Array Slot), jp14 v15 x16 = some z → xmm D (xW T a) A s H locs x16 → lv_has ls 6 [(0, .ref (a 5)), (1, .int (oI p1)), (2, .int (oI p2)), (3, .int (oI v15)), (4, .int (oI v7))] → W p l e { frames := 1, cells := 0, slots := 0, locals := 22 } s m args below meth c H locs 0 0 (xQI below args s D (xW T a) .int z A) (F0 m 60 ls []) := by
      intro v15 x16 H locs ls h M hl
      rw [ejp14] at h
      dsimp only at h
      refine x_nm h (fun v17 ev17 h => ?_)
      refine lv_iinc (v := oI v17) (lv' := [(4, .int (oI v17)), (0, .ref (a 5)), (1, .int (oI p1)), (2, .int (oI p2)), (3, .int (oI v15))]) hx hb dX3_lastLeaving_60 hl (k := 4) rfl (by rw [ev17]; exact oI_add _ _) (by decide) rfl (fun ls hl => ?_)
      refine lv_goto (tgt := 12) hx hb dX3_lastLeaving_63 (by decide) ?_
      exact ig9 v15 v17 x16 h H locs ls M (lv_sub hl [1, 2, 3, 4, 0] rfl)
    refine z_if_eq (tgt := 60) hx hb dX3_lastLeaving_45 (by decide) h (fun h => ?_) (fun h => ?_)
    · exact hjp14 v6 x13 H locs ls h M (lv_sub hl [1, 2, 3, 4, 5] rfl)
    · refine lv_iload_n hx hb dX3_lastLeaving_48 rfl (lv_at hl 4 rfl) ?_
      refine lv_aload_n hx hb dX3_lastLeaving_49 rfl (lv_at hl 1 rfl) ?_
      refine gf_X3_9 C M dX3_lastLeaving_50 ?_
      refine lv_iload hx hb dX3_lastLeaving_53 (lv_at hl 0 rfl) ?_
      refine al_x_35 C M dX3_lastLeaving_55 h (fun v18 h => ?_)
      refine va_mmax (own := RX3) hx hb (C.2.2.1.trans hl.1.symm) C.2.2.2.1 (C.2.2.2.2.1 _ bw_606) (C.2.2.2.2.1 _ bw_607) (C.2.2.2.2.1 _ bw_92) (C.2.2.2.2.1 _ bw_608) (Nat.le_of_ble_eq_true rfl) (Nat.le_of_ble_eq_true rfl) (Nat.zero_le _) (Nat.zero_le _) dX3_lastLeaving_56 ?_
      refine x_topM h (fun v19 h => ?_)
      refine lv_istore_n (lv' := [(3, .int (oI v19)), (5, .int (oI v11)), (0, .ref (a 5)), (1, .int (oI p1)), (2, .int (oI p2)), (4, .int (oI v7))]) hx hb dX3_lastLeaving_59 rfl hl (by decide) rfl (fun ls hl => ?_)
      exact hjp14 v19 x13 H locs ls h M (lv_sub hl [2, 3, 4, 0, 5] rfl)
theorem ci_X6_179 {cc : ByteArray} {nL : Nat} {D : va_G} {T : ClassId × ClassId} {a : Nat → Nat} {A : Nat → Prop} {p : Program} {l : Launch} {e : Env} {R : Room} {s : State} {m : MethodId} {args : Array Value} {below : List Frame} {meth : Method} {c : Code} {H : Heap} {locs : List Loc} {Q : State → Prop} {x : XS} {z : Int × XS} {pc : Nat} {ls : Array Slot} {rest : List Value} (C : xcx RX6 cc nL D T (xW T a) A p s m args meth c) (M : xmm D (xW T a) A s H locs x) {p1 p2 : Int} {K : Int → XS → XR} (h : x_call (f_X3_lastLeaving x p1 p2) K = some z) (hR : 1 + 1 ≤ R.frames ∧ 8 + (6 + 11) + 22 ≤ R.locals) (hsz : ls.size = nL) (hrest : (rest.map fun v => v.category).sum ≤ 8) (hdg : decode cc pc = .ok (.invokevirtual 179, 3)) (kk : ∀ (r : Int) (H1 : Heap) (locs1 : List Loc) (x1 : XS), xmm D (xW T a) A s H1 locs1 x1 → narrow .int (.int (oI r)) = .int (oI r) → K r x1 = some z → W p l e R s m args below meth c H1 locs1 0 0 Q (F0 m (pc + 3) ls (.int (oI r) :: rest))) : W p l e R s m args below meth c H locs 0 0 Q (F0 m pc ls (.int (oI p2) :: .int (oI p1) :: .ref (a 5) :: rest)) :=
  xcallI_N (As := [.int (oI p1), .int (oI p2)]) (n := 2) C M (fun zc sz ho => c_X3_lastLeaving ho sz) bw_601 bw_598 bw_600 bw_46 bw_90 rfl (by decide +kernel) 5 rfl rfl ⟨rfl, rfl⟩ hR hsz rfl hrest hdg h kk
set_option maxHeartbeats 4000000 in
set_option maxRecDepth 100000 in
theorem c_X6_last {l : Launch} {D : va_G} {T : ClassId × ClassId} {a : Nat → Nat} {x : XS} {p1 : Int} {p2 : Int} {p3 : Int} {p4 : Int} {z : Int × XS} (h : f_X6_last x p1 p2 p3 p4 = some z) (sz : Nat) : xMetI l yX6_last cX6_last 6 .int { frames := 6, cells := 0, slots := 0, locals := 142 } D T (xW T a) sz [.ref (a 0), .int (oI p1), .int (oI p2), .int (oI p3), .int (oI p4)] x z := by
  refine xMetI_of (by decide) (Nat.le_of_ble_eq_true rfl) (xW_ad T a) ?_
  intro p e s m args below meth c A ls C hr M hl
  have hx := C.1
  have hb := C.2.1
  have hl : lv_has ls 6 [(0, .ref (a 0)), (1, .int (oI p1)), (2, .int (oI p2)), (3, .int (oI p3)), (4, .int (oI p4))] := hl
  have C : xcx RX6 cX6_last 6 D T (xW T a) A p s m args meth c := C
  revert hl M
  generalize ([] : List Loc) = locs
  generalize s.heap = H
  intro M hl
  unfold f_X6_last at h
  refine lv_aload_n hx hb dX6_last_0 rfl (lv_at hl 0 rfl) ?_
  refine lv_iload_n hx hb dX6_last_1 rfl (lv_at hl 1 rfl) ?_
  refine lv_iload_n hx hb dX6_last_2 rfl (lv_at hl 2 rfl) ?_
  refine lv_iload_n hx hb dX6_last_3 rfl (lv_at hl 3 rfl) ?_
  refine lv_iload_n hx hb dX6_last_4 rfl (lv_at hl 3 rfl) ?_
  refine lv_iload hx hb dX6_last_5 (lv_at hl 4 rfl) ?_
  refine ci_X6_165 C M h ⟨Nat.le_of_ble_eq_true rfl, Nat.le_of_ble_eq_true rfl⟩ hl.1 (Nat.le_of_ble_eq_true rfl) dX6_last_7 (fun r1 H locs x2 M nr1 h => ?_)
  refine lv_istore (lv' := [(5, .int (oI r1)), (0, .ref (a 0)), (1, .int (oI p1)), (2, .int (oI p2)), (3, .int (oI p3)), (4, .int (oI p4))]) hx hb dX6_last_10 hl (by decide) rfl (fun ls hl => ?_)
  refine lv_iload hx hb dX6_last_12 (lv_at hl 0 rfl) ?_
  refine z_if_eq (tgt := 24) hx hb dX6_last_14 (by decide) h (fun h => ?_) (fun h => ?_)
  · refine lv_aload_n hx hb dX6_last_24 rfl (lv_at hl 1 rfl) ?_
    refine lv_iload_n hx hb dX6_last_25 rfl (lv_at hl 2 rfl) ?_
    refine lv_iconst (v := oI 0) hx hb dX6_last_26 (by decide) ?_
    refine lv_iload hx hb dX6_last_27 (lv_at hl 5 rfl) ?_
    refine lv_iconst (v := oI 0) hx hb dX6_last_29 (by decide) ?_
    refine ci_X6_169 C M h nb_0 ⟨Nat.le_of_ble_eq_true rfl, Nat.le_of_ble_eq_true rfl⟩ hl.1 (Nat.le_of_ble_eq_true rfl) dX6_last_30 (fun H locs x4 M h => ?_)
    refine lv_aload_n hx hb dX6_last_33 rfl (lv_at hl 1 rfl) ?_
    refine lv_aload_n hx hb dX6_last_34 rfl (lv_at hl 1 rfl) ?_
    refine gf_X6_44 C M dX6_last_35 ?_
    refine lv_iload_n hx hb dX6_last_38 rfl (lv_at hl 3 rfl) ?_
    refine lv_iload_n hx hb dX6_last_39 rfl (lv_at hl 4 rfl) ?_
    refine ci_X6_179 C M h ⟨Nat.le_of_ble_eq_true rfl, Nat.le_of_ble_eq_true rfl⟩ hl.1 (Nat.le_of_ble_eq_true rfl) dX6_last_40 (fun r5 H locs x6 M nr5 h => ?_)
    refine ci_X6_176 C M h ⟨Nat.le_of_ble_eq_true rfl, Nat.le_of_ble_eq_true rfl⟩ hl.1 (Nat.le_of_ble_eq_true rfl) dX6_last_43 (fun r7 H locs x8 M nr7 h => ?_)
    exact xretI C hr M h rfl dX6_last_46
  · refine lv_aload_n hx hb dX6_last_17 rfl (lv_at hl 1 rfl) ?_
    refine lv_iload hx hb dX6_last_18 (lv_at hl 0 rfl) ?_
    refine ci_X6_66 C M h ⟨Nat.le_of_ble_eq_true rfl, Nat.le_of_ble_eq_true rfl⟩ hl.1 (Nat.le_of_ble_eq_true rfl) dX6_last_20 (fun r9 H locs x10 M nr9 h => ?_)
    exact xretI C hr M h rfl dX6_last_23
set_option maxHeartbeats 4000000 in
set_option maxRecDepth 100000 in
theorem c_X3_leastTicks {l : Launch} {D : va_G} {T : ClassId × ClassId} {a : Nat → Nat} {x : XS} {p1 : Int} {p2 : Int} {z : Int × XS} (h : f_X3_leastTicks x p1 p2 = some z) (sz : Nat) : xMetI l yX3_leastTicks cX3_leastTicks 7 .int { frames := 1, cells := 0, slots := 0, locals := 22 } D T (xW T a) sz [.ref (a 5), .int (oI p1), .int (oI p2)] x z := by
  refine xMetI_of (by decide) (Nat.le_of_ble_eq_true rfl) (xW_ad T a) ?_
  intro p e s m args below meth c A ls C hr M hl
  have hx := C.1
  have hb := C.2.1
  have hl : lv_has ls 7 [(0, .ref (a 5)), (1, .int (oI p1)), (2, .int (oI p2))] := hl
  have C : xcx RX3 cX3_leastTicks 7 D T (xW T a) A p s m args meth c := C
  revert hl M
  generalize ([] : List Loc) = locs
  generalize s.heap = H
  intro M hl
  unfold f_X3_leastTicks at h
  refine lv_iconst (v := oI (-1)) hx hb dX3_leastTicks_0 (by decide) ?_
  refine lv_istore_n (lv' := [(3, .int (oI (-1))), (0, .ref (a 5)), (1, .int (oI p1)), (2, .int (oI p2))]) hx hb dX3_leastTicks_1 rfl hl (by decide) rfl (fun ls hl => ?_)
  refine lv_aload_n hx hb dX3_leastTicks_2 rfl (lv_at hl 1 rfl) ?_
  refine gf_X3_38 C M dX3_leastTicks_3 ?_
  refine lv_iload_n hx hb dX3_leastTicks_6 rfl (lv_at hl 2 rfl) ?_
  refine ci_X3_67 C M h ⟨Nat.le_of_ble_eq_true rfl, Nat.le_of_ble_eq_true rfl⟩ hl.1 (Nat.le_of_ble_eq_true rfl) dX3_leastTicks_7 (fun r1 H locs x2 M nr1 h => ?_)
  refine lv_istore (lv' := [(4, .int (oI r1)), (3, .int (oI (-1))), (0, .ref (a 5)), (1, .int (oI p1)), (2, .int (oI p2))]) hx hb dX3_leastTicks_10 hl (by decide) rfl (fun ls hl => ?_)
  refine x_jp_el h (fun kx3 ekx3 h => ?_)
  have hkx3 : ∀ (v4 : Int) (x5 : XS) (H : Heap) (locs : List Loc) (ls : Array Slot), kx3 v4 x5 = some z → xmm D (xW T a) A s H locs x5 → lv_has ls 7 [(3, .int (oI v4))] → W p l e { frames := 1, cells := 0, slots := 0, locals := 22 } s m args below meth c H locs 0 0 (xQI below args s D (xW T a) .int z A) (F0 m 88 ls []) := by
    intro v4 x5 H locs ls h M hl
    rw [ekx3] at h
    dsimp only at h
    refine lv_iload_n hx hb dX3_leastTicks_88 rfl (lv_at hl 0 rfl) ?_
    exact xretI C hr M h rfl dX3_leastTicks_89
  refine x_loop2_ind (P := fun v6 v7 x8 => ∀ (H : Heap) (locs : List Loc) (ls : Array Slot), xmm D (xW T a) A s H locs x8 → lv_has ls 7 [(0, .ref (a 5)), (1, .int (oI p1)), (2, .int (oI p2)), (3, .int (oI v6)), (4, .int (oI v7))] → W p l e { frames := 1, cells := 0, slots := 0, locals := 22 } s m args below meth c H locs 0 0 (xQI below args s D (xW T a) .int z A) (F0 m 12 ls [])) (fun g9 ig9 v6 v7 x8 h => ?_) x_fuel (-1) r1 x2 h H locs ls M (lv_sub hl [2, 3, 4, 1, 0] rfl)
  intro H locs ls M hl
  unfold b_X3_leastTicks_12 at h
  refine lv_iload hx hb dX3_leastTicks_12 (lv_at hl 4 rfl) ?_
  refine lv_aload_n hx hb dX3_leastTicks_14 rfl (lv_at hl 0 rfl) ?_
  refine gf_X3_38 C M dX3_leastTicks_15 ?_
  refine gf_X3_86 C M dX3_leastTicks_18 ?_
  refine lv_iload_n hx hb dX3_leastTicks_21 rfl (lv_at hl 1 rfl) ?_
  refine al_x_34 C M dX3_leastTicks_22 h (fun v10 h => ?_)
  refine z_icmp_ge (tgt := 88) hx hb dX3_leastTicks_23 (by decide) h (fun h => ?_) (fun h => ?_)
  · exact hkx3 v6 x8 H locs ls h M (lv_sub hl [3] rfl)
  · refine lv_aload_n hx hb dX3_leastTicks_26 rfl (lv_at hl 0 rfl) ?_
    refine gf_X3_38 C M dX3_leastTicks_27 ?_
    refine gf_X3_92 C M dX3_leastTicks_30 ?_
    refine lv_iload hx hb dX3_leastTicks_33 (lv_at hl 4 rfl) ?_
    refine al_x_32 C M dX3_leastTicks_35 h (fun v11 h => ?_)
    refine lv_istore (lv' := [(5, .int (oI v11)), (0, .ref (a 5)), (1, .int (oI p1)), (2, .int (oI p2)), (3, .int (oI v6)), (4, .int (oI v7))]) hx hb dX3_leastTicks_36 hl (by decide) rfl (fun ls hl => ?_)
    refine lv_aload_n hx hb dX3_leastTicks_38 rfl (lv_at hl 1 rfl) ?_
    refine gf_X3_38 C M dX3_leastTicks_39 ?_
    refine gf_X3_89 C M dX3_leastTicks_42 ?_
    refine lv_iload hx hb dX3_leastTicks_45 (lv_at hl 0 rfl) ?_
    refine al_x_29 C M dX3_leastTicks_47 h (fun v12 h => ?_)
    refine lv_aload_n hx hb dX3_leastTicks_48 rfl (lv_at hl 1 rfl) ?_
    refine gf_X3_9 C M dX3_leastTicks_49 ?_
    refine lv_iload hx hb dX3_leastTicks_52 (lv_at hl 0 rfl) ?_
    refine al_x_35 C M dX3_leastTicks_54 h (fun v13 h => ?_)
    refine z_isub hx hb dX3_leastTicks_55 ?_
    refine x_top h (fun v14 h => ?_)
    refine lv_istore (lv' := [(6, .int (oI v14)), (5, .int (oI v11)), (0, .ref (a 5)), (1, .int (oI p1)), (2, .int (oI p2)), (3, .int (oI v6)), (4, .int (oI v7))]) hx hb dX3_leastTicks_56 hl (by decide) rfl (fun ls hl => ?_)
    refine lv_aload_n hx hb dX3_leastTicks_58 rfl (lv_at hl 2 rfl) ?_
    refine lv_iload hx hb dX3_leastTicks_59 (lv_at hl 1 rfl) ?_
    refine lv_iload_n hx hb dX3_leastTicks_61 rfl (lv_at hl 4 rfl) ?_
    refine ci_X3_105 C M h ⟨Nat.le_of_ble_eq_true rfl, Nat.le_of_ble_eq_true rfl⟩ hl.1 (Nat.le_of_ble_eq_true rfl) dX3_leastTicks_62 (fun r15 H locs x16 M nr15 h => ?_)
    refine x_jp_el h (fun jp17 ejp17 h => ?_)
    have hjp17 : ∀ (v18 : Int) (x19 : XS) (H : Heap) (locs : List Loc) (ls : Array Slot), jp17 v18 x19 = some z → xmm D (xW T a) A s H locs x19 → lv_has ls 7 [(0, .ref (a 5)), (1, .int (oI p1)), (2, .int (oI p2)), (3, .int (oI v18)), (4, .int (oI v7))] → W p l e { frames := 1, cells := 0, slots := 0, locals := 22 } s m args below meth c H locs 0 0 (xQI below args s D (xW T a) .int z A) (F0 m 82 ls []) := by
      intro v18 x19 H locs ls h M hl
      rw [ejp17] at h
      dsimp only at h
      refine x_nm h (fun v20 ev20 h => ?_)
      refine lv_iinc (v := oI v20) (lv' := [(4, .int (oI v20)), (0, .ref (a 5)), (1, .int (oI p1)), (2, .int (oI p2)), (3, .int (oI v18))]) hx hb dX3_leastTicks_82 hl (k := 4) rfl (by rw [ev20]; exact oI_add _ _) (by decide) rfl (fun ls hl => ?_)
      refine lv_goto (tgt := 12) hx hb dX3_leastTicks_85 (by decide) ?_
      exact ig9 v18 v20 x19 h H locs ls M (lv_sub hl [1, 2, 3, 4, 0] rfl)
    refine z_if_eq (tgt := 82) hx hb dX3_leastTicks_65 (by decide) h (fun h => ?_) (fun h => ?_)
    · exact hjp17 v6 x16 H locs ls h M (lv_sub hl [2, 3, 4, 5, 6] rfl)
    · refine lv_iload_n hx hb dX3_leastTicks_68 rfl (lv_at hl 5 rfl) ?_
      refine lv_iconst (v := oI (-1)) hx hb dX3_leastTicks_69 (by decide) ?_
      refine x_jp_el h (fun jp21 ejp21 h => ?_)
      have hjp21 : ∀ (x22 : XS) (H : Heap) (locs : List Loc) (ls : Array Slot), jp21 x22 = some z → xmm D (xW T a) A s H locs x22 → lv_has ls 7 [(0, .ref (a 5)), (1, .int (oI p1)), (2, .int (oI p2)), (4, .int (oI v7)), (6, .int (oI v14))] → W p l e { frames := 1, cells := 0, slots := 0, locals := 22 } s m args below meth c H locs 0 0 (xQI below args s D (xW T a) .int z A) (F0 m 79 ls []) := by
        intro x22 H locs ls h M hl
        rw [ejp21] at h
        dsimp only at h
        refine lv_iload hx hb dX3_leastTicks_79 (lv_at hl 4 rfl) ?_
        refine lv_istore_n (lv' := [(3, .int (oI v14)), (0, .ref (a 5)), (1, .int (oI p1)), (2, .int (oI p2)), (4, .int (oI v7)), (6, .int (oI v14))]) hx hb dX3_leastTicks_81 rfl hl (by decide) rfl (fun ls hl => ?_)
        exact hjp17 v14 x22 H locs ls h M (lv_sub hl [1, 2, 3, 0, 4] rfl)
      refine z_icmp_eq (tgt := 79) hx hb dX3_leastTicks_70 (by decide) h (fun h => ?_) (fun h => ?_)
      · exact hjp21 x16 H locs ls h M (lv_sub hl [2, 3, 4, 6, 0] rfl)
      · refine lv_iload hx hb dX3_leastTicks_73 (lv_at hl 0 rfl) ?_
        refine lv_iload_n hx hb dX3_leastTicks_75 rfl (lv_at hl 5 rfl) ?_
        refine z_icmp_ge (tgt := 82) hx hb dX3_leastTicks_76 (by decide) h (fun h => ?_) (fun h => ?_)
        · exact hjp17 v6 x16 H locs ls h M (lv_sub hl [2, 3, 4, 5, 6] rfl)
        · exact hjp21 x16 H locs ls h M (lv_sub hl [2, 3, 4, 6, 0] rfl)
theorem ci_X6_182 {cc : ByteArray} {nL : Nat} {D : va_G} {T : ClassId × ClassId} {a : Nat → Nat} {A : Nat → Prop} {p : Program} {l : Launch} {e : Env} {R : Room} {s : State} {m : MethodId} {args : Array Value} {below : List Frame} {meth : Method} {c : Code} {H : Heap} {locs : List Loc} {Q : State → Prop} {x : XS} {z : Int × XS} {pc : Nat} {ls : Array Slot} {rest : List Value} (C : xcx RX6 cc nL D T (xW T a) A p s m args meth c) (M : xmm D (xW T a) A s H locs x) {p1 p2 : Int} {K : Int → XS → XR} (h : x_call (f_X3_leastTicks x p1 p2) K = some z) (hR : 1 + 1 ≤ R.frames ∧ 8 + (7 + 11) + 22 ≤ R.locals) (hsz : ls.size = nL) (hrest : (rest.map fun v => v.category).sum ≤ 8) (hdg : decode cc pc = .ok (.invokevirtual 182, 3)) (kk : ∀ (r : Int) (H1 : Heap) (locs1 : List Loc) (x1 : XS), xmm D (xW T a) A s H1 locs1 x1 → narrow .int (.int (oI r)) = .int (oI r) → K r x1 = some z → W p l e R s m args below meth c H1 locs1 0 0 Q (F0 m (pc + 3) ls (.int (oI r) :: rest))) : W p l e R s m args below meth c H locs 0 0 Q (F0 m pc ls (.int (oI p2) :: .int (oI p1) :: .ref (a 5) :: rest)) :=
  xcallI_N (As := [.int (oI p1), .int (oI p2)]) (n := 2) C M (fun zc sz ho => c_X3_leastTicks ho sz) bw_616 bw_613 bw_615 bw_48 bw_90 rfl (by decide +kernel) 5 rfl rfl ⟨rfl, rfl⟩ hR hsz rfl hrest hdg h kk
set_option maxHeartbeats 4000000 in
set_option maxRecDepth 100000 in
theorem c_X6_quickest {l : Launch} {D : va_G} {T : ClassId × ClassId} {a : Nat → Nat} {x : XS} {p1 : Int} {p2 : Int} {p3 : Int} {p4 : Int} {p5 : Int} {z : Int × XS} (h : f_X6_quickest x p1 p2 p3 p4 p5 = some z) (sz : Nat) : xMetI l yX6_quickest cX6_quickest 7 .int { frames := 6, cells := 0, slots := 0, locals := 142 } D T (xW T a) sz [.ref (a 0), .int (oI p1), .int (oI p2), .int (oI p3), .int (oI p4), .int (oI p5)] x z := by
  refine xMetI_of (by decide) (Nat.le_of_ble_eq_true rfl) (xW_ad T a) ?_
  intro p e s m args below meth c A ls C hr M hl
  have hx := C.1
  have hb := C.2.1
  have hl : lv_has ls 7 [(0, .ref (a 0)), (1, .int (oI p1)), (2, .int (oI p2)), (3, .int (oI p3)), (4, .int (oI p4)), (5, .int (oI p5))] := hl
  have C : xcx RX6 cX6_quickest 7 D T (xW T a) A p s m args meth c := C
  revert hl M
  generalize ([] : List Loc) = locs
  generalize s.heap = H
  intro M hl
  unfold f_X6_quickest at h
  refine lv_aload_n hx hb dX6_quickest_0 rfl (lv_at hl 0 rfl) ?_
  refine lv_iload_n hx hb dX6_quickest_1 rfl (lv_at hl 1 rfl) ?_
  refine lv_iload_n hx hb dX6_quickest_2 rfl (lv_at hl 2 rfl) ?_
  refine lv_iload_n hx hb dX6_quickest_3 rfl (lv_at hl 3 rfl) ?_
  refine lv_iload hx hb dX6_quickest_4 (lv_at hl 4 rfl) ?_
  refine lv_iload hx hb dX6_quickest_6 (lv_at hl 5 rfl) ?_
  refine ci_X6_165 C M h ⟨Nat.le_of_ble_eq_true rfl, Nat.le_of_ble_eq_true rfl⟩ hl.1 (Nat.le_of_ble_eq_true rfl) dX6_quickest_8 (fun r1 H locs x2 M nr1 h => ?_)
  refine lv_istore (lv' := [(6, .int (oI r1)), (0, .ref (a 0)), (1, .int (oI p1)), (2, .int (oI p2)), (3, .int (oI p3)), (4, .int (oI p4)), (5, .int (oI p5))]) hx hb dX6_quickest_11 hl (by decide) rfl (fun ls hl => ?_)
  refine lv_iload hx hb dX6_quickest_13 (lv_at hl 0 rfl) ?_
  refine z_if_eq (tgt := 25) hx hb dX6_quickest_15 (by decide) h (fun h => ?_) (fun h => ?_)
  · refine lv_aload_n hx hb dX6_quickest_25 rfl (lv_at hl 1 rfl) ?_
    refine lv_iload_n hx hb dX6_quickest_26 rfl (lv_at hl 2 rfl) ?_
    refine lv_iload_n hx hb dX6_quickest_27 rfl (lv_at hl 4 rfl) ?_
    refine lv_iload hx hb dX6_quickest_28 (lv_at hl 6 rfl) ?_
    refine lv_iconst (v := oI 0) hx hb dX6_quickest_30 (by decide) ?_
    refine ci_X6_169 C M h nb_0 ⟨Nat.le_of_ble_eq_true rfl, Nat.le_of_ble_eq_true rfl⟩ hl.1 (Nat.le_of_ble_eq_true rfl) dX6_quickest_31 (fun H locs x4 M h => ?_)
    refine lv_aload_n hx hb dX6_quickest_34 rfl (lv_at hl 1 rfl) ?_
    refine lv_aload_n hx hb dX6_quickest_35 rfl (lv_at hl 1 rfl) ?_
    refine gf_X6_44 C M dX6_quickest_36 ?_
    refine lv_iload_n hx hb dX6_quickest_39 rfl (lv_at hl 3 rfl) ?_
    refine lv_iload hx hb dX6_quickest_40 (lv_at hl 5 rfl) ?_
    refine ci_X6_182 C M h ⟨Nat.le_of_ble_eq_true rfl, Nat.le_of_ble_eq_true rfl⟩ hl.1 (Nat.le_of_ble_eq_true rfl) dX6_quickest_42 (fun r5 H locs x6 M nr5 h => ?_)
    refine ci_X6_176 C M h ⟨Nat.le_of_ble_eq_true rfl, Nat.le_of_ble_eq_true rfl⟩ hl.1 (Nat.le_of_ble_eq_true rfl) dX6_quickest_45 (fun r7 H locs x8 M nr7 h => ?_)
    exact xretI C hr M h rfl dX6_quickest_48
  · refine lv_aload_n hx hb dX6_quickest_18 rfl (lv_at hl 1 rfl) ?_
    refine lv_iload hx hb dX6_quickest_19 (lv_at hl 0 rfl) ?_
    refine ci_X6_66 C M h ⟨Nat.le_of_ble_eq_true rfl, Nat.le_of_ble_eq_true rfl⟩ hl.1 (Nat.le_of_ble_eq_true rfl) dX6_quickest_21 (fun r9 H locs x10 M nr9 h => ?_)
    exact xretI C hr M h rfl dX6_quickest_24
set_option maxHeartbeats 4000000 in
set_option maxRecDepth 100000 in
theorem c_X3_leastRuns {l : Launch} {D : va_G} {T : ClassId × ClassId} {a : Nat → Nat} {x : XS} {p1 : Int} {p2 : Int} {z : Int × XS} (h : f_X3_leastRuns x p1 p2 = some z) (sz : Nat) : xMetI l yX3_leastRuns cX3_leastRuns 6 .int { frames := 1, cells := 0, slots := 0, locals := 22 } D T (xW T a) sz [.ref (a 5), .int (oI p1), .int (oI p2)] x z := by
  refine xMetI_of (by decide) (Nat.le_of_ble_eq_true rfl) (xW_ad T a) ?_
  intro p e s m args below meth c A ls C hr M hl
  have hx := C.1
  have hb := C.2.1
  have hl : lv_has ls 6 [(0, .ref (a 5)), (1, .int (oI p1)), (2, .int (oI p2))] := hl
  have C : xcx RX3 cX3_leastRuns 6 D T (xW T a) A p s m args meth c := C
  revert hl M
  generalize ([] : List Loc) = locs
  generalize s.heap = H
  intro M hl
  unfold f_X3_leastRuns at h
  refine lv_iconst (v := oI (-1)) hx hb dX3_leastRuns_0 (by decide) ?_
  refine lv_istore_n (lv' := [(3, .int (oI (-1))), (0, .ref (a 5)), (1, .int (oI p1)), (2, .int (oI p2))]) hx hb dX3_leastRuns_1 rfl hl (by decide) rfl (fun ls hl => ?_)
  refine lv_aload_n hx hb dX3_leastRuns_2 rfl (lv_at hl 1 rfl) ?_
  refine gf_X3_38 C M dX3_leastRuns_3 ?_
  refine lv_iload_n hx hb dX3_leastRuns_6 rfl (lv_at hl 2 rfl) ?_
  refine ci_X3_67 C M h ⟨Nat.le_of_ble_eq_true rfl, Nat.le_of_ble_eq_true rfl⟩ hl.1 (Nat.le_of_ble_eq_true rfl) dX3_leastRuns_7 (fun r1 H locs x2 M nr1 h => ?_)
  refine lv_istore (lv' := [(4, .int (oI r1)), (3, .int (oI (-1))), (0, .ref (a 5)), (1, .int (oI p1)), (2, .int (oI p2))]) hx hb dX3_leastRuns_10 hl (by decide) rfl (fun ls hl => ?_)
  refine x_jp_el h (fun kx3 ekx3 h => ?_)
  have hkx3 : ∀ (v4 : Int) (x5 : XS) (H : Heap) (locs : List Loc) (ls : Array Slot), kx3 v4 x5 = some z → xmm D (xW T a) A s H locs x5 → lv_has ls 6 [(3, .int (oI v4))] → W p l e { frames := 1, cells := 0, slots := 0, locals := 22 } s m args below meth c H locs 0 0 (xQI below args s D (xW T a) .int z A) (F0 m 78 ls []) := by
    intro v4 x5 H locs ls h M hl
    rw [ekx3] at h
    dsimp only at h
    refine lv_iload_n hx hb dX3_leastRuns_78 rfl (lv_at hl 0 rfl) ?_
    exact xretI C hr M h rfl dX3_leastRuns_79
  refine x_loop2_ind (P := fun v6 v7 x8 => ∀ (H : Heap) (locs : List Loc) (ls : Array Slot), xmm D (xW T a) A s H locs x8 → lv_has ls 6 [(0, .ref (a 5)), (1, .int (oI p1)), (2, .int (oI p2)), (3, .int (oI v6)), (4, .int (oI v7))] → W p l e { frames := 1, cells := 0, slots := 0, locals := 22 } s m args below meth c H locs 0 0 (xQI below args s D (xW T a) .int z A) (F0 m 12 ls [])) (fun g9 ig9 v6 v7 x8 h => ?_) x_fuel (-1) r1 x2 h H locs ls M (lv_sub hl [2, 3, 4, 1, 0] rfl)
  intro H locs ls M hl
  unfold b_X3_leastRuns_12 at h
  refine lv_iload hx hb dX3_leastRuns_12 (lv_at hl 4 rfl) ?_
  refine lv_aload_n hx hb dX3_leastRuns_14 rfl (lv_at hl 0 rfl) ?_
  refine gf_X3_38 C M dX3_leastRuns_15 ?_
  refine gf_X3_86 C M dX3_leastRuns_18 ?_
  refine lv_iload_n hx hb dX3_leastRuns_21 rfl (lv_at hl 1 rfl) ?_
  refine al_x_34 C M dX3_leastRuns_22 h (fun v10 h => ?_)
  refine z_icmp_ge (tgt := 78) hx hb dX3_leastRuns_23 (by decide) h (fun h => ?_) (fun h => ?_)
  · exact hkx3 v6 x8 H locs ls h M (lv_sub hl [3] rfl)
  · refine lv_aload_n hx hb dX3_leastRuns_26 rfl (lv_at hl 0 rfl) ?_
    refine gf_X3_38 C M dX3_leastRuns_27 ?_
    refine gf_X3_92 C M dX3_leastRuns_30 ?_
    refine lv_iload hx hb dX3_leastRuns_33 (lv_at hl 4 rfl) ?_
    refine al_x_32 C M dX3_leastRuns_35 h (fun v11 h => ?_)
    refine lv_istore (lv' := [(5, .int (oI v11)), (0, .ref (a 5)), (1, .int (oI p1)), (2, .int (oI p2)), (3, .int (oI v6)), (4, .int (oI v7))]) hx hb dX3_leastRuns_36 hl (by decide) rfl (fun ls hl => ?_)
    refine lv_aload_n hx hb dX3_leastRuns_38 rfl (lv_at hl 1 rfl) ?_
    refine lv_iload hx hb dX3_leastRuns_39 (lv_at hl 0 rfl) ?_
    refine lv_iload_n hx hb dX3_leastRuns_41 rfl (lv_at hl 3 rfl) ?_
    refine ci_X3_105 C M h ⟨Nat.le_of_ble_eq_true rfl, Nat.le_of_ble_eq_true rfl⟩ hl.1 (Nat.le_of_ble_eq_true rfl) dX3_leastRuns_42 (fun r12 H locs x13 M nr12 h => ?_)
    refine x_jp_el h (fun jp14 ejp14 h => ?_)
    have hjp14 : ∀ (v15 : Int) (x16 : XS) (H : Heap) (locs : List Loc) (ls : Array Slot), jp14 v15 x16 = some z → xmm D (xW T a) A s H locs x16 → lv_has ls 6 [(0, .ref (a 5)), (1, .int (oI p1)), (2, .int (oI p2)), (3, .int (oI v15)), (4, .int (oI v7))] → W p l e { frames := 1, cells := 0, slots := 0, locals := 22 } s m args below meth c H locs 0 0 (xQI below args s D (xW T a) .int z A) (F0 m 72 ls []) := by
      intro v15 x16 H locs ls h M hl
      rw [ejp14] at h
      dsimp only at h
      refine x_nm h (fun v17 ev17 h => ?_)
      refine lv_iinc (v := oI v17) (lv' := [(4, .int (oI v17)), (0, .ref (a 5)), (1, .int (oI p1)), (2, .int (oI p2)), (3, .int (oI v15))]) hx hb dX3_leastRuns_72 hl (k := 4) rfl (by rw [ev17]; exact oI_add _ _) (by decide) rfl (fun ls hl => ?_)
      refine lv_goto (tgt := 12) hx hb dX3_leastRuns_75 (by decide) ?_
      exact ig9 v15 v17 x16 h H locs ls M (lv_sub hl [1, 2, 3, 4, 0] rfl)
    refine z_if_eq (tgt := 72) hx hb dX3_leastRuns_45 (by decide) h (fun h => ?_) (fun h => ?_)
    · exact hjp14 v6 x13 H locs ls h M (lv_sub hl [1, 2, 3, 4, 5] rfl)
    · refine lv_iload_n hx hb dX3_leastRuns_48 rfl (lv_at hl 4 rfl) ?_
      refine lv_iconst (v := oI (-1)) hx hb dX3_leastRuns_49 (by decide) ?_
      refine x_jp_el h (fun jp18 ejp18 h => ?_)
      have hjp18 : ∀ (x19 : XS) (H : Heap) (locs : List Loc) (ls : Array Slot), jp18 x19 = some z → xmm D (xW T a) A s H locs x19 → lv_has ls 6 [(0, .ref (a 5)), (1, .int (oI p1)), (2, .int (oI p2)), (4, .int (oI v7)), (5, .int (oI v11))] → W p l e { frames := 1, cells := 0, slots := 0, locals := 22 } s m args below meth c H locs 0 0 (xQI below args s D (xW T a) .int z A) (F0 m 64 ls []) := by
        intro x19 H locs ls h M hl
        rw [ejp18] at h
        dsimp only at h
        refine lv_aload_n hx hb dX3_leastRuns_64 rfl (lv_at hl 0 rfl) ?_
        refine gf_X3_9 C M dX3_leastRuns_65 ?_
        refine lv_iload hx hb dX3_leastRuns_68 (lv_at hl 4 rfl) ?_
        refine al_x_35 C M dX3_leastRuns_70 h (fun v20 h => ?_)
        refine lv_istore_n (lv' := [(3, .int (oI v20)), (0, .ref (a 5)), (1, .int (oI p1)), (2, .int (oI p2)), (4, .int (oI v7)), (5, .int (oI v11))]) hx hb dX3_leastRuns_71 rfl hl (by decide) rfl (fun ls hl => ?_)
        exact hjp14 v20 x19 H locs ls h M (lv_sub hl [1, 2, 3, 0, 4] rfl)
      refine z_icmp_eq (tgt := 64) hx hb dX3_leastRuns_50 (by decide) h (fun h => ?_) (fun h => ?_)
      · exact hjp18 x13 H locs ls h M (lv_sub hl [1, 2, 3, 5, 0] rfl)
      · refine lv_aload_n hx hb dX3_leastRuns_53 rfl (lv_at hl 1 rfl) ?_
        refine gf_X3_9 C M dX3_leastRuns_54 ?_
        refine lv_iload hx hb dX3_leastRuns_57 (lv_at hl 0 rfl) ?_
        refine al_x_35 C M dX3_leastRuns_59 h (fun v21 h => ?_)
        refine lv_iload_n hx hb dX3_leastRuns_60 rfl (lv_at hl 4 rfl) ?_
        refine z_icmp_ge (tgt := 72) hx hb dX3_leastRuns_61 (by decide) h (fun h => ?_) (fun h => ?_)
        · exact hjp14 v6 x13 H locs ls h M (lv_sub hl [1, 2, 3, 4, 5] rfl)
        · exact hjp18 x13 H locs ls h M (lv_sub hl [1, 2, 3, 5, 0] rfl)
theorem ci_X6_185 {cc : ByteArray} {nL : Nat} {D : va_G} {T : ClassId × ClassId} {a : Nat → Nat} {A : Nat → Prop} {p : Program} {l : Launch} {e : Env} {R : Room} {s : State} {m : MethodId} {args : Array Value} {below : List Frame} {meth : Method} {c : Code} {H : Heap} {locs : List Loc} {Q : State → Prop} {x : XS} {z : Int × XS} {pc : Nat} {ls : Array Slot} {rest : List Value} (C : xcx RX6 cc nL D T (xW T a) A p s m args meth c) (M : xmm D (xW T a) A s H locs x) {p1 p2 : Int} {K : Int → XS → XR} (h : x_call (f_X3_leastRuns x p1 p2) K = some z) (hR : 1 + 1 ≤ R.frames ∧ 8 + (6 + 11) + 22 ≤ R.locals) (hsz : ls.size = nL) (hrest : (rest.map fun v => v.category).sum ≤ 8) (hdg : decode cc pc = .ok (.invokevirtual 185, 3)) (kk : ∀ (r : Int) (H1 : Heap) (locs1 : List Loc) (x1 : XS), xmm D (xW T a) A s H1 locs1 x1 → narrow .int (.int (oI r)) = .int (oI r) → K r x1 = some z → W p l e R s m args below meth c H1 locs1 0 0 Q (F0 m (pc + 3) ls (.int (oI r) :: rest))) : W p l e R s m args below meth c H locs 0 0 Q (F0 m pc ls (.int (oI p2) :: .int (oI p1) :: .ref (a 5) :: rest)) :=
  xcallI_N (As := [.int (oI p1), .int (oI p2)]) (n := 2) C M (fun zc sz ho => c_X3_leastRuns ho sz) bw_624 bw_621 bw_623 bw_49 bw_90 rfl (by decide +kernel) 5 rfl rfl ⟨rfl, rfl⟩ hR hsz rfl hrest hdg h kk
set_option maxHeartbeats 4000000 in
set_option maxRecDepth 100000 in
theorem c_X6_fewest {l : Launch} {D : va_G} {T : ClassId × ClassId} {a : Nat → Nat} {x : XS} {p1 : Int} {p2 : Int} {p3 : Int} {p4 : Int} {p5 : Int} {z : Int × XS} (h : f_X6_fewest x p1 p2 p3 p4 p5 = some z) (sz : Nat) : xMetI l yX6_fewest cX6_fewest 7 .int { frames := 6, cells := 0, slots := 0, locals := 142 } D T (xW T a) sz [.ref (a 0), .int (oI p1), .int (oI p2), .int (oI p3), .int (oI p4), .int (oI p5)] x z := by
  refine xMetI_of (by decide) (Nat.le_of_ble_eq_true rfl) (xW_ad T a) ?_
  intro p e s m args below meth c A ls C hr M hl
  have hx := C.1
  have hb := C.2.1
  have hl : lv_has ls 7 [(0, .ref (a 0)), (1, .int (oI p1)), (2, .int (oI p2)), (3, .int (oI p3)), (4, .int (oI p4)), (5, .int (oI p5))] := hl
  have C : xcx RX6 cX6_fewest 7 D T (xW T a) A p s m args meth c := C
  revert hl M
  generalize ([] : List Loc) = locs
  generalize s.heap = H
  intro M hl
  unfold f_X6_fewest at h
  refine lv_aload_n hx hb dX6_fewest_0 rfl (lv_at hl 0 rfl) ?_
  refine lv_iload_n hx hb dX6_fewest_1 rfl (lv_at hl 1 rfl) ?_
  refine lv_iload_n hx hb dX6_fewest_2 rfl (lv_at hl 2 rfl) ?_
  refine lv_iload_n hx hb dX6_fewest_3 rfl (lv_at hl 3 rfl) ?_
  refine lv_iload hx hb dX6_fewest_4 (lv_at hl 4 rfl) ?_
  refine lv_iload hx hb dX6_fewest_6 (lv_at hl 5 rfl) ?_
  refine ci_X6_165 C M h ⟨Nat.le_of_ble_eq_true rfl, Nat.le_of_ble_eq_true rfl⟩ hl.1 (Nat.le_of_ble_eq_true rfl) dX6_fewest_8 (fun r1 H locs x2 M nr1 h => ?_)
  refine lv_istore (lv' := [(6, .int (oI r1)), (0, .ref (a 0)), (1, .int (oI p1)), (2, .int (oI p2)), (3, .int (oI p3)), (4, .int (oI p4)), (5, .int (oI p5))]) hx hb dX6_fewest_11 hl (by decide) rfl (fun ls hl => ?_)
  refine lv_iload hx hb dX6_fewest_13 (lv_at hl 0 rfl) ?_
  refine z_if_eq (tgt := 25) hx hb dX6_fewest_15 (by decide) h (fun h => ?_) (fun h => ?_)
  · refine lv_aload_n hx hb dX6_fewest_25 rfl (lv_at hl 1 rfl) ?_
    refine lv_iload_n hx hb dX6_fewest_26 rfl (lv_at hl 2 rfl) ?_
    refine lv_iload_n hx hb dX6_fewest_27 rfl (lv_at hl 4 rfl) ?_
    refine lv_iload hx hb dX6_fewest_28 (lv_at hl 6 rfl) ?_
    refine lv_iconst (v := oI 1) hx hb dX6_fewest_30 (by decide) ?_
    refine ci_X6_169 C M h nb_1 ⟨Nat.le_of_ble_eq_true rfl, Nat.le_of_ble_eq_true rfl⟩ hl.1 (Nat.le_of_ble_eq_true rfl) dX6_fewest_31 (fun H locs x4 M h => ?_)
    refine lv_aload_n hx hb dX6_fewest_34 rfl (lv_at hl 1 rfl) ?_
    refine lv_aload_n hx hb dX6_fewest_35 rfl (lv_at hl 1 rfl) ?_
    refine gf_X6_44 C M dX6_fewest_36 ?_
    refine lv_iload_n hx hb dX6_fewest_39 rfl (lv_at hl 3 rfl) ?_
    refine lv_iload hx hb dX6_fewest_40 (lv_at hl 5 rfl) ?_
    refine ci_X6_185 C M h ⟨Nat.le_of_ble_eq_true rfl, Nat.le_of_ble_eq_true rfl⟩ hl.1 (Nat.le_of_ble_eq_true rfl) dX6_fewest_42 (fun r5 H locs x6 M nr5 h => ?_)
    refine ci_X6_176 C M h ⟨Nat.le_of_ble_eq_true rfl, Nat.le_of_ble_eq_true rfl⟩ hl.1 (Nat.le_of_ble_eq_true rfl) dX6_fewest_45 (fun r7 H locs x8 M nr7 h => ?_)
    exact xretI C hr M h rfl dX6_fewest_48
  · refine lv_aload_n hx hb dX6_fewest_18 rfl (lv_at hl 1 rfl) ?_
    refine lv_iload hx hb dX6_fewest_19 (lv_at hl 0 rfl) ?_
    refine ci_X6_66 C M h ⟨Nat.le_of_ble_eq_true rfl, Nat.le_of_ble_eq_true rfl⟩ hl.1 (Nat.le_of_ble_eq_true rfl) dX6_fewest_21 (fun r9 H locs x10 M nr9 h => ?_)
    exact xretI C hr M h rfl dX6_fewest_24
set_option maxHeartbeats 4000000 in
set_option maxRecDepth 100000 in
theorem c_X3_isLesserEnd {l : Launch} {D : va_G} {T : ClassId × ClassId} {a : Nat → Nat} {x : XS} {p1 : Int} {p2 : Int} {z : Int × XS} (h : f_X3_isLesserEnd x p1 p2 = some z) (sz : Nat) : xMetI l yX3_isLesserEnd cX3_isLesserEnd 3 .boolean { frames := 0, cells := 0, slots := 0, locals := 0 } D T (xW T a) sz [.ref (a 5), .int (oI p1), .int (oI p2)] x z := by
  refine xMetI_of (by decide) (Nat.le_of_ble_eq_true rfl) (xW_ad T a) ?_
  intro p e s m args below meth c A ls C hr M hl
  have hx := C.1
  have hb := C.2.1
  have hl : lv_has ls 3 [(0, .ref (a 5)), (1, .int (oI p1)), (2, .int (oI p2))] := hl
  have C : xcx RX3 cX3_isLesserEnd 3 D T (xW T a) A p s m args meth c := C
  revert hl M
  generalize ([] : List Loc) = locs
  generalize s.heap = H
  intro M hl
  unfold f_X3_isLesserEnd at h
  refine lv_aload_n hx hb dX3_isLesserEnd_0 rfl (lv_at hl 0 rfl) ?_
  refine gf_X3_9 C M dX3_isLesserEnd_1 ?_
  refine lv_iload_n hx hb dX3_isLesserEnd_4 rfl (lv_at hl 1 rfl) ?_
  refine al_x_35 C M dX3_isLesserEnd_5 h (fun v1 h => ?_)
  refine lv_aload_n hx hb dX3_isLesserEnd_6 rfl (lv_at hl 0 rfl) ?_
  refine gf_X3_9 C M dX3_isLesserEnd_7 ?_
  refine lv_iload_n hx hb dX3_isLesserEnd_10 rfl (lv_at hl 2 rfl) ?_
  refine al_x_35 C M dX3_isLesserEnd_11 h (fun v2 h => ?_)
  refine x_jp_el h (fun jp3 ejp3 h => ?_)
  have hjp3 : ∀ (x4 : XS) (H : Heap) (locs : List Loc) (ls : Array Slot), jp3 x4 = some z → xmm D (xW T a) A s H locs x4 → lv_has ls 3 [] → W p l e { frames := 0, cells := 0, slots := 0, locals := 0 } s m args below meth c H locs 0 0 (xQI below args s D (xW T a) .boolean z A) (F0 m 35 ls []) := by
    intro x4 H locs ls h M hl
    rw [ejp3] at h
    dsimp only at h
    refine lv_iconst (v := oI 1) hx hb dX3_isLesserEnd_35 (by decide) ?_
    refine lv_goto (tgt := 40) hx hb dX3_isLesserEnd_36 (by decide) ?_
    exact xretI C hr M h nb_1 dX3_isLesserEnd_40
  refine z_icmp_lt (tgt := 35) hx hb dX3_isLesserEnd_12 (by decide) h (fun h => ?_) (fun h => ?_)
  · exact hjp3 x H locs ls h M (lv_sub hl [] rfl)
  · refine lv_aload_n hx hb dX3_isLesserEnd_15 rfl (lv_at hl 0 rfl) ?_
    refine gf_X3_9 C M dX3_isLesserEnd_16 ?_
    refine lv_iload_n hx hb dX3_isLesserEnd_19 rfl (lv_at hl 1 rfl) ?_
    refine al_x_35 C M dX3_isLesserEnd_20 h (fun v5 h => ?_)
    refine lv_aload_n hx hb dX3_isLesserEnd_21 rfl (lv_at hl 0 rfl) ?_
    refine gf_X3_9 C M dX3_isLesserEnd_22 ?_
    refine lv_iload_n hx hb dX3_isLesserEnd_25 rfl (lv_at hl 2 rfl) ?_
    refine al_x_35 C M dX3_isLesserEnd_26 h (fun v6 h => ?_)
    refine z_icmp_ne (tgt := 39) hx hb dX3_isLesserEnd_27 (by decide) h (fun h => ?_) (fun h => ?_)
    · refine lv_iconst (v := oI 0) hx hb dX3_isLesserEnd_39 (by decide) ?_
      exact xretI C hr M h nb_0 dX3_isLesserEnd_40
    · refine lv_iload_n hx hb dX3_isLesserEnd_30 rfl (lv_at hl 1 rfl) ?_
      refine lv_iload_n hx hb dX3_isLesserEnd_31 rfl (lv_at hl 2 rfl) ?_
      refine z_icmp_ge (tgt := 39) hx hb dX3_isLesserEnd_32 (by decide) h (fun h => ?_) (fun h => ?_)
      · refine lv_iconst (v := oI 0) hx hb dX3_isLesserEnd_39 (by decide) ?_
        exact xretI C hr M h nb_0 dX3_isLesserEnd_40
      · exact hjp3 x H locs ls h M (lv_sub hl [] rfl)
theorem ci_X3_102 {cc : ByteArray} {nL : Nat} {D : va_G} {T : ClassId × ClassId} {a : Nat → Nat} {A : Nat → Prop} {p : Program} {l : Launch} {e : Env} {R : Room} {s : State} {m : MethodId} {args : Array Value} {below : List Frame} {meth : Method} {c : Code} {H : Heap} {locs : List Loc} {Q : State → Prop} {x : XS} {z : Int × XS} {pc : Nat} {ls : Array Slot} {rest : List Value} (C : xcx RX3 cc nL D T (xW T a) A p s m args meth c) (M : xmm D (xW T a) A s H locs x) {p1 : Int} {K : Int → XS → XR} (h : x_call (f_X3_firstComing x p1) K = some z) (hR : 1 + 1 ≤ R.frames ∧ 8 + (3 + 11) + 21 ≤ R.locals) (hsz : ls.size = nL) (hrest : (rest.map fun v => v.category).sum ≤ 8) (hdg : decode cc pc = .ok (.invokevirtual 102, 3)) (kk : ∀ (r : Int) (H1 : Heap) (locs1 : List Loc) (x1 : XS), xmm D (xW T a) A s H1 locs1 x1 → narrow .int (.int (oI r)) = .int (oI r) → K r x1 = some z → W p l e R s m args below meth c H1 locs1 0 0 Q (F0 m (pc + 3) ls (.int (oI r) :: rest))) : W p l e R s m args below meth c H locs 0 0 Q (F0 m pc ls (.int (oI p1) :: .ref (a 5) :: rest)) :=
  xcallI_V (As := [.int (oI p1)]) (n := 1) C M (fun zc sz ho => c_X3_firstComing ho sz) bw_589 bw_637 bw_588 bw_44 bw_90 rfl (by decide +kernel) 5 rfl rfl ⟨rfl, rfl⟩ hR hsz rfl hrest hdg h kk
theorem ci_X3_125 {cc : ByteArray} {nL : Nat} {D : va_G} {T : ClassId × ClassId} {a : Nat → Nat} {A : Nat → Prop} {p : Program} {l : Launch} {e : Env} {R : Room} {s : State} {m : MethodId} {args : Array Value} {below : List Frame} {meth : Method} {c : Code} {H : Heap} {locs : List Loc} {Q : State → Prop} {x : XS} {z : Int × XS} {pc : Nat} {ls : Array Slot} {rest : List Value} (C : xcx RX3 cc nL D T (xW T a) A p s m args meth c) (M : xmm D (xW T a) A s H locs x) {p1 p2 : Int} {K : Int → XS → XR} (h : x_call (f_X3_isLesserEnd x p1 p2) K = some z) (hR : 0 + 1 ≤ R.frames ∧ 8 + (3 + 11) + 0 ≤ R.locals) (hsz : ls.size = nL) (hrest : (rest.map fun v => v.category).sum ≤ 8) (hdg : decode cc pc = .ok (.invokevirtual 125, 3)) (kk : ∀ (r : Int) (H1 : Heap) (locs1 : List Loc) (x1 : XS), xmm D (xW T a) A s H1 locs1 x1 → narrow .boolean (.int (oI r)) = .int (oI r) → K r x1 = some z → W p l e R s m args below meth c H1 locs1 0 0 Q (F0 m (pc + 3) ls (.int (oI r) :: rest))) : W p l e R s m args below meth c H locs 0 0 Q (F0 m pc ls (.int (oI p2) :: .int (oI p1) :: .ref (a 5) :: rest)) :=
  xcallI_V (As := [.int (oI p1), .int (oI p2)]) (n := 2) C M (fun zc sz ho => c_X3_isLesserEnd ho sz) bw_641 bw_638 bw_640 bw_52 bw_90 rfl (by decide +kernel) 5 rfl rfl ⟨rfl, rfl⟩ hR hsz rfl hrest hdg h kk
set_option maxHeartbeats 4000000 in
set_option maxRecDepth 100000 in
theorem c_X3_lastOfWay {l : Launch} {D : va_G} {T : ClassId × ClassId} {a : Nat → Nat} {x : XS} {p1 : Int} {z : Int × XS} (h : f_X3_lastOfWay x p1 = some z) (sz : Nat) : xMetI l yX3_lastOfWay cX3_lastOfWay 6 .int { frames := 2, cells := 0, slots := 0, locals := 43 } D T (xW T a) sz [.ref (a 5), .int (oI p1)] x z := by
  refine xMetI_of (by decide) (Nat.le_of_ble_eq_true rfl) (xW_ad T a) ?_
  intro p e s m args below meth c A ls C hr M hl
  have hx := C.1
  have hb := C.2.1
  have hl : lv_has ls 6 [(0, .ref (a 5)), (1, .int (oI p1))] := hl
  have C : xcx RX3 cX3_lastOfWay 6 D T (xW T a) A p s m args meth c := C
  revert hl M
  generalize ([] : List Loc) = locs
  generalize s.heap = H
  intro M hl
  unfold f_X3_lastOfWay at h
  refine lv_aload_n hx hb dX3_lastOfWay_0 rfl (lv_at hl 0 rfl) ?_
  refine lv_iload_n hx hb dX3_lastOfWay_1 rfl (lv_at hl 1 rfl) ?_
  refine ci_X3_102 C M h ⟨Nat.le_of_ble_eq_true rfl, Nat.le_of_ble_eq_true rfl⟩ hl.1 (Nat.le_of_ble_eq_true rfl) dX3_lastOfWay_2 (fun r1 H locs x2 M nr1 h => ?_)
  refine lv_istore_n (lv' := [(2, .int (oI r1)), (0, .ref (a 5)), (1, .int (oI p1))]) hx hb dX3_lastOfWay_5 rfl hl (by decide) rfl (fun ls hl => ?_)
  refine lv_iconst (v := oI (-1)) hx hb dX3_lastOfWay_6 (by decide) ?_
  refine lv_istore_n (lv' := [(3, .int (oI (-1))), (2, .int (oI r1)), (0, .ref (a 5)), (1, .int (oI p1))]) hx hb dX3_lastOfWay_7 rfl hl (by decide) rfl (fun ls hl => ?_)
  refine lv_aload_n hx hb dX3_lastOfWay_8 rfl (lv_at hl 2 rfl) ?_
  refine gf_X3_38 C M dX3_lastOfWay_9 ?_
  refine lv_iload_n hx hb dX3_lastOfWay_12 rfl (lv_at hl 3 rfl) ?_
  refine ci_X3_67 C M h ⟨Nat.le_of_ble_eq_true rfl, Nat.le_of_ble_eq_true rfl⟩ hl.1 (Nat.le_of_ble_eq_true rfl) dX3_lastOfWay_13 (fun r3 H locs x4 M nr3 h => ?_)
  refine lv_istore (lv' := [(4, .int (oI r3)), (3, .int (oI (-1))), (2, .int (oI r1)), (0, .ref (a 5)), (1, .int (oI p1))]) hx hb dX3_lastOfWay_16 hl (by decide) rfl (fun ls hl => ?_)
  refine x_jp_el h (fun kx5 ekx5 h => ?_)
  have hkx5 : ∀ (v6 : Int) (x7 : XS) (H : Heap) (locs : List Loc) (ls : Array Slot), kx5 v6 x7 = some z → xmm D (xW T a) A s H locs x7 → lv_has ls 6 [(3, .int (oI v6))] → W p l e { frames := 2, cells := 0, slots := 0, locals := 43 } s m args below meth c H locs 0 0 (xQI below args s D (xW T a) .int z A) (F0 m 78 ls []) := by
    intro v6 x7 H locs ls h M hl
    rw [ekx5] at h
    dsimp only at h
    refine lv_iload_n hx hb dX3_lastOfWay_78 rfl (lv_at hl 0 rfl) ?_
    exact xretI C hr M h rfl dX3_lastOfWay_79
  refine x_loop2_ind (P := fun v8 v9 x10 => ∀ (H : Heap) (locs : List Loc) (ls : Array Slot), xmm D (xW T a) A s H locs x10 → lv_has ls 6 [(0, .ref (a 5)), (1, .int (oI p1)), (2, .int (oI r1)), (3, .int (oI v8)), (4, .int (oI v9))] → W p l e { frames := 2, cells := 0, slots := 0, locals := 43 } s m args below meth c H locs 0 0 (xQI below args s D (xW T a) .int z A) (F0 m 18 ls [])) (fun g11 ig11 v8 v9 x10 h => ?_) x_fuel (-1) r3 x4 h H locs ls M (lv_sub hl [3, 4, 2, 1, 0] rfl)
  intro H locs ls M hl
  unfold b_X3_lastOfWay_18 at h
  refine lv_iload hx hb dX3_lastOfWay_18 (lv_at hl 4 rfl) ?_
  refine lv_aload_n hx hb dX3_lastOfWay_20 rfl (lv_at hl 0 rfl) ?_
  refine gf_X3_38 C M dX3_lastOfWay_21 ?_
  refine gf_X3_86 C M dX3_lastOfWay_24 ?_
  refine lv_iload_n hx hb dX3_lastOfWay_27 rfl (lv_at hl 1 rfl) ?_
  refine al_x_34 C M dX3_lastOfWay_28 h (fun v12 h => ?_)
  refine z_icmp_ge (tgt := 78) hx hb dX3_lastOfWay_29 (by decide) h (fun h => ?_) (fun h => ?_)
  · exact hkx5 v8 x10 H locs ls h M (lv_sub hl [3] rfl)
  · refine lv_aload_n hx hb dX3_lastOfWay_32 rfl (lv_at hl 0 rfl) ?_
    refine gf_X3_38 C M dX3_lastOfWay_33 ?_
    refine gf_X3_92 C M dX3_lastOfWay_36 ?_
    refine lv_iload hx hb dX3_lastOfWay_39 (lv_at hl 4 rfl) ?_
    refine al_x_32 C M dX3_lastOfWay_41 h (fun v13 h => ?_)
    refine lv_istore (lv' := [(5, .int (oI v13)), (0, .ref (a 5)), (1, .int (oI p1)), (2, .int (oI r1)), (3, .int (oI v8)), (4, .int (oI v9))]) hx hb dX3_lastOfWay_42 hl (by decide) rfl (fun ls hl => ?_)
    refine lv_aload_n hx hb dX3_lastOfWay_44 rfl (lv_at hl 1 rfl) ?_
    refine lv_iload hx hb dX3_lastOfWay_45 (lv_at hl 0 rfl) ?_
    refine lv_iload_n hx hb dX3_lastOfWay_47 rfl (lv_at hl 3 rfl) ?_
    refine ci_X3_105 C M h ⟨Nat.le_of_ble_eq_true rfl, Nat.le_of_ble_eq_true rfl⟩ hl.1 (Nat.le_of_ble_eq_true rfl) dX3_lastOfWay_48 (fun r14 H locs x15 M nr14 h => ?_)
    refine x_jp_el h (fun jp16 ejp16 h => ?_)
    have hjp16 : ∀ (v17 : Int) (x18 : XS) (H : Heap) (locs : List Loc) (ls : Array Slot), jp16 v17 x18 = some z → xmm D (xW T a) A s H locs x18 → lv_has ls 6 [(0, .ref (a 5)), (1, .int (oI p1)), (2, .int (oI r1)), (3, .int (oI v17)), (4, .int (oI v9))] → W p l e { frames := 2, cells := 0, slots := 0, locals := 43 } s m args below meth c H locs 0 0 (xQI below args s D (xW T a) .int z A) (F0 m 72 ls []) := by
      intro v17 x18 H locs ls h M hl
      rw [ejp16] at h
      dsimp only at h
      refine x_nm h (fun v19 ev19 h => ?_)
      refine lv_iinc (v := oI v19) (lv' := [(4, .int (oI v19)), (0, .ref (a 5)), (1, .int (oI p1)), (2, .int (oI r1)), (3, .int (oI v17))]) hx hb dX3_lastOfWay_72 hl (k := 4) rfl (by rw [ev19]; exact oI_add _ _) (by decide) rfl (fun ls hl => ?_)
      refine lv_goto (tgt := 18) hx hb dX3_lastOfWay_75 (by decide) ?_
      exact ig11 v17 v19 x18 h H locs ls M (lv_sub hl [1, 2, 3, 4, 0] rfl)
    refine z_if_eq (tgt := 72) hx hb dX3_lastOfWay_51 (by decide) h (fun h => ?_) (fun h => ?_)
    · exact hjp16 v8 x15 H locs ls h M (lv_sub hl [1, 2, 3, 4, 5] rfl)
    · refine lv_iload_n hx hb dX3_lastOfWay_54 rfl (lv_at hl 4 rfl) ?_
      refine lv_iconst (v := oI (-1)) hx hb dX3_lastOfWay_55 (by decide) ?_
      refine x_jp_el h (fun jp20 ejp20 h => ?_)
      have hjp20 : ∀ (x21 : XS) (H : Heap) (locs : List Loc) (ls : Array Slot), jp20 x21 = some z → xmm D (xW T a) A s H locs x21 → lv_has ls 6 [(0, .ref (a 5)), (1, .int (oI p1)), (2, .int (oI r1)), (4, .int (oI v9)), (5, .int (oI v13))] → W p l e { frames := 2, cells := 0, slots := 0, locals := 43 } s m args below meth c H locs 0 0 (xQI below args s D (xW T a) .int z A) (F0 m 69 ls []) := by
        intro x21 H locs ls h M hl
        rw [ejp20] at h
        dsimp only at h
        refine lv_iload hx hb dX3_lastOfWay_69 (lv_at hl 4 rfl) ?_
        refine lv_istore_n (lv' := [(3, .int (oI v13)), (0, .ref (a 5)), (1, .int (oI p1)), (2, .int (oI r1)), (4, .int (oI v9)), (5, .int (oI v13))]) hx hb dX3_lastOfWay_71 rfl hl (by decide) rfl (fun ls hl => ?_)
        exact hjp16 v13 x21 H locs ls h M (lv_sub hl [1, 2, 3, 0, 4] rfl)
      refine z_icmp_eq (tgt := 69) hx hb dX3_lastOfWay_56 (by decide) h (fun h => ?_) (fun h => ?_)
      · exact hjp20 x15 H locs ls h M (lv_sub hl [1, 2, 3, 5, 0] rfl)
      · refine lv_aload_n hx hb dX3_lastOfWay_59 rfl (lv_at hl 1 rfl) ?_
        refine lv_iload hx hb dX3_lastOfWay_60 (lv_at hl 0 rfl) ?_
        refine lv_iload_n hx hb dX3_lastOfWay_62 rfl (lv_at hl 4 rfl) ?_
        refine ci_X3_125 C M h ⟨Nat.le_of_ble_eq_true rfl, Nat.le_of_ble_eq_true rfl⟩ hl.1 (Nat.le_of_ble_eq_true rfl) dX3_lastOfWay_63 (fun r22 H locs x23 M nr22 h => ?_)
        refine z_if_eq (tgt := 72) hx hb dX3_lastOfWay_66 (by decide) h (fun h => ?_) (fun h => ?_)
        · exact hjp16 v8 x23 H locs ls h M (lv_sub hl [1, 2, 3, 4, 5] rfl)
        · exact hjp20 x23 H locs ls h M (lv_sub hl [1, 2, 3, 5, 0] rfl)
