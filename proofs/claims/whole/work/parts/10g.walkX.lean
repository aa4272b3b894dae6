theorem ci_X6_204 {cc : ByteArray} {nL : Nat} {D : va_G} {T : ClassId × ClassId} {a : Nat → Nat} {A : Nat → Prop} {p : Program} {l : Launch} {e : Env} {R : Room} {s : State} {m : MethodId} {args : Array Value} {below : List Frame} {meth : Method} {c : Code} {H : Heap} {locs : List Loc} {Q : State → Prop} {x : XS} {z : Int × XS} {pc : Nat} {ls : Array Slot} {rest : List Value} (C : xcx RX6 cc nL D T (xW T a) A p s m args meth c) (M : xmm D (xW T a) A s H locs x) {p1 p2 p3 : Int} {K : Int → XS → XR} (h : x_call (f_X6_isFound x p1 p2 p3) K = some z) (hR : 3 + 1 ≤ R.frames ∧ 8 + (4 + 11) + 66 ≤ R.locals) (hsz : ls.size = nL) (hrest : (rest.map fun v => v.category).sum ≤ 8) (hdg : decode cc pc = .ok (.invokevirtual 204, 3)) (kk : ∀ (r : Int) (H1 : Heap) (locs1 : List Loc) (x1 : XS), xmm D (xW T a) A s H1 locs1 x1 → narrow .boolean (.int (oI r)) = .int (oI r) → K r x1 = some z → W p l e R s m args below meth c H1 locs1 0 0 Q (F0 m (pc + 3) ls (.int (oI r) :: rest))) : W p l e R s m args below meth c H locs 0 0 Q (F0 m pc ls (.int (oI p3) :: .int (oI p2) :: .int (oI p1) :: .ref (a 0) :: rest)) :=
  xcallI_V (As := [.int (oI p1), .int (oI p2), .int (oI p3)]) (n := 3) C M (fun zc sz ho => c_X6_isFound ho sz) bw_683 bw_680 bw_682 bw_58 bw_84 rfl (by decide +kernel) 0 rfl rfl ⟨rfl, rfl⟩ hR hsz rfl hrest hdg h kk
set_option maxHeartbeats 4000000 in
set_option maxRecDepth 100000 in
theorem c_X6_reached {l : Launch} {D : va_G} {T : ClassId × ClassId} {a : Nat → Nat} {x : XS} {p1 : Int} {p2 : Int} {p3 : Int} {p4 : Int} {z : Int × XS} (h : f_X6_reached x p1 p2 p3 p4 = some z) (sz : Nat) : xMetI l yX6_reached cX6_reached 8 .int { frames := 6, cells := 0, slots := 0, locals := 142 } D T (xW T a) sz [.ref (a 0), .int (oI p1), .int (oI p2), .int (oI p3), .int (oI p4)] x z := by
  refine xMetI_of (by decide) (Nat.le_of_ble_eq_true rfl) (xW_ad T a) ?_
  intro p e s m args below meth c A ls C hr M hl
  have hx := C.1
  have hb := C.2.1
  have hl : lv_has ls 8 [(0, .ref (a 0)), (1, .int (oI p1)), (2, .int (oI p2)), (3, .int (oI p3)), (4, .int (oI p4))] := hl
  have C : xcx RX6 cX6_reached 8 D T (xW T a) A p s m args meth c := C
  revert hl M
  generalize ([] : List Loc) = locs
  generalize s.heap = H
  intro M hl
  unfold f_X6_reached at h
  refine lv_aload_n hx hb dX6_reached_0 rfl (lv_at hl 0 rfl) ?_
  refine lv_iload_n hx hb dX6_reached_1 rfl (lv_at hl 1 rfl) ?_
  refine lv_iload_n hx hb dX6_reached_2 rfl (lv_at hl 1 rfl) ?_
  refine lv_iload_n hx hb dX6_reached_3 rfl (lv_at hl 2 rfl) ?_
  refine lv_iload_n hx hb dX6_reached_4 rfl (lv_at hl 3 rfl) ?_
  refine lv_iload hx hb dX6_reached_5 (lv_at hl 4 rfl) ?_
  refine ci_X6_201 C M h ⟨Nat.le_of_ble_eq_true rfl, Nat.le_of_ble_eq_true rfl⟩ hl.1 (Nat.le_of_ble_eq_true rfl) dX6_reached_7 (fun r1 H locs x2 M nr1 h => ?_)
  refine lv_istore (lv' := [(5, .int (oI r1)), (0, .ref (a 0)), (1, .int (oI p1)), (2, .int (oI p2)), (3, .int (oI p3)), (4, .int (oI p4))]) hx hb dX6_reached_10 hl (by decide) rfl (fun ls hl => ?_)
  refine lv_iload hx hb dX6_reached_12 (lv_at hl 0 rfl) ?_
  refine z_if_eq (tgt := 24) hx hb dX6_reached_14 (by decide) h (fun h => ?_) (fun h => ?_)
  · refine lv_aload_n hx hb dX6_reached_24 rfl (lv_at hl 1 rfl) ?_
    refine lv_iload_n hx hb dX6_reached_25 rfl (lv_at hl 2 rfl) ?_
    refine lv_iload_n hx hb dX6_reached_26 rfl (lv_at hl 3 rfl) ?_
    refine lv_iload hx hb dX6_reached_27 (lv_at hl 5 rfl) ?_
    refine lv_iconst (v := oI 0) hx hb dX6_reached_29 (by decide) ?_
    refine ci_X6_169 C M h nb_0 ⟨Nat.le_of_ble_eq_true rfl, Nat.le_of_ble_eq_true rfl⟩ hl.1 (Nat.le_of_ble_eq_true rfl) dX6_reached_30 (fun H locs x4 M h => ?_)
    refine lv_iconst (v := oI 0) hx hb dX6_reached_33 (by decide) ?_
    refine lv_istore (lv' := [(6, .int (oI 0)), (5, .int (oI r1)), (0, .ref (a 0)), (1, .int (oI p1)), (2, .int (oI p2)), (3, .int (oI p3)), (4, .int (oI p4))]) hx hb dX6_reached_34 hl (by decide) rfl (fun ls hl => ?_)
    refine lv_iconst (v := oI 0) hx hb dX6_reached_36 (by decide) ?_
    refine lv_istore (lv' := [(7, .int (oI 0)), (6, .int (oI 0)), (5, .int (oI r1)), (0, .ref (a 0)), (1, .int (oI p1)), (2, .int (oI p2)), (3, .int (oI p3)), (4, .int (oI p4))]) hx hb dX6_reached_37 hl (by decide) rfl (fun ls hl => ?_)
    refine x_jp_el h (fun kx5 ekx5 h => ?_)
    have hkx5 : ∀ (v6 : Int) (x7 : XS) (H : Heap) (locs : List Loc) (ls : Array Slot), kx5 v6 x7 = some z → xmm D (xW T a) A s H locs x7 → lv_has ls 8 [(0, .ref (a 0)), (6, .int (oI v6))] → W p l e { frames := 6, cells := 0, slots := 0, locals := 142 } s m args below meth c H locs 0 0 (xQI below args s D (xW T a) .int z A) (F0 m 71 ls []) := by
      intro v6 x7 H locs ls h M hl
      rw [ekx5] at h
      dsimp only at h
      refine lv_aload_n hx hb dX6_reached_71 rfl (lv_at hl 0 rfl) ?_
      refine lv_iload hx hb dX6_reached_72 (lv_at hl 1 rfl) ?_
      refine ci_X6_77 C M h ⟨Nat.le_of_ble_eq_true rfl, Nat.le_of_ble_eq_true rfl⟩ hl.1 (Nat.le_of_ble_eq_true rfl) dX6_reached_74 (fun r8 H locs x9 M nr8 h => ?_)
      exact xretI C hr M h rfl dX6_reached_77
    refine x_loop2_ind (P := fun v10 v11 x12 => ∀ (H : Heap) (locs : List Loc) (ls : Array Slot), xmm D (xW T a) A s H locs x12 → lv_has ls 8 [(0, .ref (a 0)), (1, .int (oI p1)), (3, .int (oI p3)), (6, .int (oI v10)), (7, .int (oI v11))] → W p l e { frames := 6, cells := 0, slots := 0, locals := 142 } s m args below meth c H locs 0 0 (xQI below args s D (xW T a) .int z A) (F0 m 39 ls [])) (fun g13 ig13 v10 v11 x12 h => ?_) x_fuel 0 0 x4 h H locs ls M (lv_sub hl [3, 4, 6, 1, 0] rfl)
    intro H locs ls M hl
    unfold b_X6_reached_39 at h
    refine lv_iload hx hb dX6_reached_39 (lv_at hl 4 rfl) ?_
    refine lv_aload_n hx hb dX6_reached_41 rfl (lv_at hl 0 rfl) ?_
    refine gf_X6_12 C M dX6_reached_42 ?_
    refine gf_X6_70 C M dX6_reached_45 ?_
    refine z_icmp_ge (tgt := 71) hx hb dX6_reached_48 (by decide) h (fun h => ?_) (fun h => ?_)
    · exact hkx5 v10 x12 H locs ls h M (lv_sub hl [0, 3] rfl)
    · refine lv_aload_n hx hb dX6_reached_51 rfl (lv_at hl 0 rfl) ?_
      refine lv_iload_n hx hb dX6_reached_52 rfl (lv_at hl 1 rfl) ?_
      refine lv_iload hx hb dX6_reached_53 (lv_at hl 4 rfl) ?_
      refine lv_iload_n hx hb dX6_reached_55 rfl (lv_at hl 2 rfl) ?_
      refine ci_X6_204 C M h ⟨Nat.le_of_ble_eq_true rfl, Nat.le_of_ble_eq_true rfl⟩ hl.1 (Nat.le_of_ble_eq_true rfl) dX6_reached_56 (fun r14 H locs x15 M nr14 h => ?_)
      refine x_jp_el h (fun jp16 ejp16 h => ?_)
      have hjp16 : ∀ (v17 : Int) (x18 : XS) (H : Heap) (locs : List Loc) (ls : Array Slot), jp16 v17 x18 = some z → xmm D (xW T a) A s H locs x18 → lv_has ls 8 [(0, .ref (a 0)), (1, .int (oI p1)), (3, .int (oI p3)), (6, .int (oI v17)), (7, .int (oI v11))] → W p l e { frames := 6, cells := 0, slots := 0, locals := 142 } s m args below meth c H locs 0 0 (xQI below args s D (xW T a) .int z A) (F0 m 65 ls []) := by
        intro v17 x18 H locs ls h M hl
        rw [ejp16] at h
        dsimp only at h
        refine x_nm h (fun v19 ev19 h => ?_)
        refine lv_iinc (v := oI v19) (lv' := [(7, .int (oI v19)), (0, .ref (a 0)), (1, .int (oI p1)), (3, .int (oI p3)), (6, .int (oI v17))]) hx hb dX6_reached_65 hl (k := 4) rfl (by rw [ev19]; exact oI_add _ _) (by decide) rfl (fun ls hl => ?_)
        refine lv_goto (tgt := 39) hx hb dX6_reached_68 (by decide) ?_
        exact ig13 v17 v19 x18 h H locs ls M (lv_sub hl [1, 2, 3, 4, 0] rfl)
      refine z_if_eq (tgt := 65) hx hb dX6_reached_59 (by decide) h (fun h => ?_) (fun h => ?_)
      · exact hjp16 v10 x15 H locs ls h M (lv_sub hl [0, 1, 2, 3, 4] rfl)
      · refine x_nm h (fun v20 ev20 h => ?_)
        refine lv_iinc (v := oI v20) (lv' := [(6, .int (oI v20)), (0, .ref (a 0)), (1, .int (oI p1)), (3, .int (oI p3)), (7, .int (oI v11))]) hx hb dX6_reached_62 hl (k := 3) rfl (by rw [ev20]; exact oI_add _ _) (by decide) rfl (fun ls hl => ?_)
        exact hjp16 v20 x15 H locs ls h M (lv_sub hl [1, 2, 3, 0, 4] rfl)
  · refine lv_aload_n hx hb dX6_reached_17 rfl (lv_at hl 1 rfl) ?_
    refine lv_iload hx hb dX6_reached_18 (lv_at hl 0 rfl) ?_
    refine ci_X6_66 C M h ⟨Nat.le_of_ble_eq_true rfl, Nat.le_of_ble_eq_true rfl⟩ hl.1 (Nat.le_of_ble_eq_true rfl) dX6_reached_20 (fun r21 H locs x22 M nr21 h => ?_)
    exact xretI C hr M h rfl dX6_reached_23
set_option maxHeartbeats 4000000 in
set_option maxRecDepth 100000 in
theorem c_X6_isReached {l : Launch} {D : va_G} {T : ClassId × ClassId} {a : Nat → Nat} {x : XS} {p1 : Int} {p2 : Int} {p3 : Int} {p4 : Int} {p5 : Int} {z : Int × XS} (h : f_X6_isReached x p1 p2 p3 p4 p5 = some z) (sz : Nat) : xMetI l yX6_isReached cX6_isReached 7 .int { frames := 6, cells := 0, slots := 0, locals := 142 } D T (xW T a) sz [.ref (a 0), .int (oI p1), .int (oI p2), .int (oI p3), .int (oI p4), .int (oI p5)] x z := by
  refine xMetI_of (by decide) (Nat.le_of_ble_eq_true rfl) (xW_ad T a) ?_
  intro p e s m args below meth c A ls C hr M hl
  have hx := C.1
  have hb := C.2.1
  have hl : lv_has ls 7 [(0, .ref (a 0)), (1, .int (oI p1)), (2, .int (oI p2)), (3, .int (oI p3)), (4, .int (oI p4)), (5, .int (oI p5))] := hl
  have C : xcx RX6 cX6_isReached 7 D T (xW T a) A p s m args meth c := C
  revert hl M
  generalize ([] : List Loc) = locs
  generalize s.heap = H
  intro M hl
  unfold f_X6_isReached at h
  refine lv_aload_n hx hb dX6_isReached_0 rfl (lv_at hl 0 rfl) ?_
  refine lv_iload_n hx hb dX6_isReached_1 rfl (lv_at hl 1 rfl) ?_
  refine lv_iload_n hx hb dX6_isReached_2 rfl (lv_at hl 2 rfl) ?_
  refine lv_iload_n hx hb dX6_isReached_3 rfl (lv_at hl 3 rfl) ?_
  refine lv_iload hx hb dX6_isReached_4 (lv_at hl 4 rfl) ?_
  refine lv_iload hx hb dX6_isReached_6 (lv_at hl 5 rfl) ?_
  refine ci_X6_201 C M h ⟨Nat.le_of_ble_eq_true rfl, Nat.le_of_ble_eq_true rfl⟩ hl.1 (Nat.le_of_ble_eq_true rfl) dX6_isReached_8 (fun r1 H locs x2 M nr1 h => ?_)
  refine lv_istore (lv' := [(6, .int (oI r1)), (0, .ref (a 0)), (1, .int (oI p1)), (2, .int (oI p2)), (3, .int (oI p3)), (4, .int (oI p4)), (5, .int (oI p5))]) hx hb dX6_isReached_11 hl (by decide) rfl (fun ls hl => ?_)
  refine lv_iload hx hb dX6_isReached_13 (lv_at hl 0 rfl) ?_
  refine z_if_eq (tgt := 25) hx hb dX6_isReached_15 (by decide) h (fun h => ?_) (fun h => ?_)
  · refine lv_aload_n hx hb dX6_isReached_25 rfl (lv_at hl 1 rfl) ?_
    refine lv_iload_n hx hb dX6_isReached_26 rfl (lv_at hl 2 rfl) ?_
    refine lv_iload_n hx hb dX6_isReached_27 rfl (lv_at hl 4 rfl) ?_
    refine lv_iload hx hb dX6_isReached_28 (lv_at hl 6 rfl) ?_
    refine lv_iconst (v := oI 0) hx hb dX6_isReached_30 (by decide) ?_
    refine ci_X6_169 C M h nb_0 ⟨Nat.le_of_ble_eq_true rfl, Nat.le_of_ble_eq_true rfl⟩ hl.1 (Nat.le_of_ble_eq_true rfl) dX6_isReached_31 (fun H locs x4 M h => ?_)
    refine lv_aload_n hx hb dX6_isReached_34 rfl (lv_at hl 1 rfl) ?_
    refine lv_aload_n hx hb dX6_isReached_35 rfl (lv_at hl 1 rfl) ?_
    refine lv_iload_n hx hb dX6_isReached_36 rfl (lv_at hl 2 rfl) ?_
    refine lv_iload_n hx hb dX6_isReached_37 rfl (lv_at hl 3 rfl) ?_
    refine lv_iload hx hb dX6_isReached_38 (lv_at hl 5 rfl) ?_
    refine ci_X6_204 C M h ⟨Nat.le_of_ble_eq_true rfl, Nat.le_of_ble_eq_true rfl⟩ hl.1 (Nat.le_of_ble_eq_true rfl) dX6_isReached_40 (fun r5 H locs x6 M nr5 h => ?_)
    refine x_jp_el h (fun jp7 ejp7 h => ?_)
    have hjp7 : ∀ (v8 : Int) (x9 : XS) (H : Heap) (locs : List Loc) (ls : Array Slot), jp7 v8 x9 = some z → xmm D (xW T a) A s H locs x9 → lv_has ls 7 [] → W p l e { frames := 6, cells := 0, slots := 0, locals := 142 } s m args below meth c H locs 0 0 (xQI below args s D (xW T a) .int z A) (F0 m 51 ls [.int (oI v8), .ref (a 0)]) := by
      intro v8 x9 H locs ls h M hl
      rw [ejp7] at h
      dsimp only at h
      refine ci_X6_77 C M h ⟨Nat.le_of_ble_eq_true rfl, Nat.le_of_ble_eq_true rfl⟩ hl.1 (Nat.le_of_ble_eq_true rfl) dX6_isReached_51 (fun r10 H locs x11 M nr10 h => ?_)
      exact xretI C hr M h rfl dX6_isReached_54
    refine z_if_eq (tgt := 50) hx hb dX6_isReached_43 (by decide) h (fun h => ?_) (fun h => ?_)
    · refine lv_iconst (v := oI 0) hx hb dX6_isReached_50 (by decide) ?_
      exact hjp7 0 x6 H locs ls h M (lv_sub hl [] rfl)
    · refine lv_iconst (v := oI 1) hx hb dX6_isReached_46 (by decide) ?_
      refine lv_goto (tgt := 51) hx hb dX6_isReached_47 (by decide) ?_
      exact hjp7 1 x6 H locs ls h M (lv_sub hl [] rfl)
  · refine lv_aload_n hx hb dX6_isReached_18 rfl (lv_at hl 1 rfl) ?_
    refine lv_iload hx hb dX6_isReached_19 (lv_at hl 0 rfl) ?_
    refine ci_X6_66 C M h ⟨Nat.le_of_ble_eq_true rfl, Nat.le_of_ble_eq_true rfl⟩ hl.1 (Nat.le_of_ble_eq_true rfl) dX6_isReached_21 (fun r12 H locs x13 M nr12 h => ?_)
    exact xretI C hr M h rfl dX6_isReached_24
set_option maxHeartbeats 4000000 in
set_option maxRecDepth 100000 in
theorem c_X6_comingWithout {l : Launch} {D : va_G} {T : ClassId × ClassId} {a : Nat → Nat} {x : XS} {p1 : Int} {p2 : Int} {p3 : Int} {p4 : Int} {z : Int × XS} (h : f_X6_comingWithout x p1 p2 p3 p4 = some z) (sz : Nat) : xMetI l yX6_comingWithout cX6_comingWithout 6 .int { frames := 5, cells := 0, slots := 0, locals := 118 } D T (xW T a) sz [.ref (a 0), .int (oI p1), .int (oI p2), .int (oI p3), .int (oI p4)] x z := by
  refine xMetI_of (by decide) (Nat.le_of_ble_eq_true rfl) (xW_ad T a) ?_
  intro p e s m args below meth c A ls C hr M hl
  have hx := C.1
  have hb := C.2.1
  have hl : lv_has ls 6 [(0, .ref (a 0)), (1, .int (oI p1)), (2, .int (oI p2)), (3, .int (oI p3)), (4, .int (oI p4))] := hl
  have C : xcx RX6 cX6_comingWithout 6 D T (xW T a) A p s m args meth c := C
  revert hl M
  generalize ([] : List Loc) = locs
  generalize s.heap = H
  intro M hl
  unfold f_X6_comingWithout at h
  refine lv_aload_n hx hb dX6_comingWithout_0 rfl (lv_at hl 0 rfl) ?_
  refine gf_X6_35 C M dX6_comingWithout_1 ?_
  refine lv_aload_n hx hb dX6_comingWithout_4 rfl (lv_at hl 0 rfl) ?_
  refine gf_X6_26 C M dX6_comingWithout_5 ?_
  refine gf_X6_137 C M dX6_comingWithout_8 ?_
  refine ci_X6_157 C M h ⟨Nat.le_of_ble_eq_true rfl, Nat.le_of_ble_eq_true rfl⟩ hl.1 (Nat.le_of_ble_eq_true rfl) dX6_comingWithout_11 (fun H locs x2 M h => ?_)
  refine lv_aload_n hx hb dX6_comingWithout_14 rfl (lv_at hl 0 rfl) ?_
  refine gf_X6_44 C M dX6_comingWithout_15 ?_
  refine lv_iload_n hx hb dX6_comingWithout_18 rfl (lv_at hl 1 rfl) ?_
  refine lv_iload_n hx hb dX6_comingWithout_19 rfl (lv_at hl 3 rfl) ?_
  refine lv_iload hx hb dX6_comingWithout_20 (lv_at hl 4 rfl) ?_
  refine lv_iconst (v := oI 0) hx hb dX6_comingWithout_22 (by decide) ?_
  refine ci_X6_215 C M h nb_0 ⟨Nat.le_of_ble_eq_true rfl, Nat.le_of_ble_eq_true rfl⟩ hl.1 (Nat.le_of_ble_eq_true rfl) dX6_comingWithout_23 (fun H locs x4 M h => ?_)
  refine lv_aload_n hx hb dX6_comingWithout_26 rfl (lv_at hl 0 rfl) ?_
  refine gf_X6_44 C M dX6_comingWithout_27 ?_
  refine lv_iload_n hx hb dX6_comingWithout_30 rfl (lv_at hl 2 rfl) ?_
  refine ci_X6_173 C M h ⟨Nat.le_of_ble_eq_true rfl, Nat.le_of_ble_eq_true rfl⟩ hl.1 (Nat.le_of_ble_eq_true rfl) dX6_comingWithout_31 (fun r5 H locs x6 M nr5 h => ?_)
  refine lv_istore (lv' := [(5, .int (oI r5)), (0, .ref (a 0)), (1, .int (oI p1)), (2, .int (oI p2)), (3, .int (oI p3)), (4, .int (oI p4))]) hx hb dX6_comingWithout_34 hl (by decide) rfl (fun ls hl => ?_)
  refine lv_iload hx hb dX6_comingWithout_36 (lv_at hl 0 rfl) ?_
  refine lv_iconst (v := oI (-1)) hx hb dX6_comingWithout_38 (by decide) ?_
  refine z_icmp_ne (tgt := 48) hx hb dX6_comingWithout_39 (by decide) h (fun h => ?_) (fun h => ?_)
  · refine lv_iload hx hb dX6_comingWithout_48 (lv_at hl 0 rfl) ?_
    exact xretI C hr M h rfl dX6_comingWithout_50
  · refine lv_sipush (v := oI 5001) hx hb dX6_comingWithout_42 (by decide) ?_
    refine lv_goto (tgt := 50) hx hb dX6_comingWithout_45 (by decide) ?_
    exact xretI C hr M h rfl dX6_comingWithout_50
theorem ci_X6_207 {cc : ByteArray} {nL : Nat} {D : va_G} {T : ClassId × ClassId} {a : Nat → Nat} {A : Nat → Prop} {p : Program} {l : Launch} {e : Env} {R : Room} {s : State} {m : MethodId} {args : Array Value} {below : List Frame} {meth : Method} {c : Code} {H : Heap} {locs : List Loc} {Q : State → Prop} {x : XS} {z : Int × XS} {pc : Nat} {ls : Array Slot} {rest : List Value} (C : xcx RX6 cc nL D T (xW T a) A p s m args meth c) (M : xmm D (xW T a) A s H locs x) {p1 p2 p3 p4 : Int} {K : Int → XS → XR} (h : x_call (f_X6_comingWithout x p1 p2 p3 p4) K = some z) (hR : 5 + 1 ≤ R.frames ∧ 8 + (6 + 11) + 118 ≤ R.locals) (hsz : ls.size = nL) (hrest : (rest.map fun v => v.category).sum ≤ 8) (hdg : decode cc pc = .ok (.invokevirtual 207, 3)) (kk : ∀ (r : Int) (H1 : Heap) (locs1 : List Loc) (x1 : XS), xmm D (xW T a) A s H1 locs1 x1 → narrow .int (.int (oI r)) = .int (oI r) → K r x1 = some z → W p l e R s m args below meth c H1 locs1 0 0 Q (F0 m (pc + 3) ls (.int (oI r) :: rest))) : W p l e R s m args below meth c H locs 0 0 Q (F0 m pc ls (.int (oI p4) :: .int (oI p3) :: .int (oI p2) :: .int (oI p1) :: .ref (a 0) :: rest)) :=
  xcallI_V (As := [.int (oI p1), .int (oI p2), .int (oI p3), .int (oI p4)]) (n := 4) C M (fun zc sz ho => c_X6_comingWithout ho sz) bw_699 bw_696 bw_698 bw_60 bw_84 rfl (by decide +kernel) 0 rfl rfl ⟨rfl, rfl⟩ hR hsz rfl hrest hdg h kk
set_option maxHeartbeats 4000000 in
set_option maxRecDepth 100000 in
theorem c_X6_without {l : Launch} {D : va_G} {T : ClassId × ClassId} {a : Nat → Nat} {x : XS} {p1 : Int} {p2 : Int} {p3 : Int} {p4 : Int} {z : Int × XS} (h : f_X6_without x p1 p2 p3 p4 = some z) (sz : Nat) : xMetI l yX6_without cX6_without 6 .int { frames := 6, cells := 0, slots := 0, locals := 143 } D T (xW T a) sz [.ref (a 0), .int (oI p1), .int (oI p2), .int (oI p3), .int (oI p4)] x z := by
  refine xMetI_of (by decide) (Nat.le_of_ble_eq_true rfl) (xW_ad T a) ?_
  intro p e s m args below meth c A ls C hr M hl
  have hx := C.1
  have hb := C.2.1
  have hl : lv_has ls 6 [(0, .ref (a 0)), (1, .int (oI p1)), (2, .int (oI p2)), (3, .int (oI p3)), (4, .int (oI p4))] := hl
  have C : xcx RX6 cX6_without 6 D T (xW T a) A p s m args meth c := C
  revert hl M
  generalize ([] : List Loc) = locs
  generalize s.heap = H
  intro M hl
  unfold f_X6_without at h
  refine lv_aload_n hx hb dX6_without_0 rfl (lv_at hl 0 rfl) ?_
  refine lv_iload_n hx hb dX6_without_1 rfl (lv_at hl 1 rfl) ?_
  refine lv_iload_n hx hb dX6_without_2 rfl (lv_at hl 2 rfl) ?_
  refine ci_X6_95 C M h ⟨Nat.le_of_ble_eq_true rfl, Nat.le_of_ble_eq_true rfl⟩ hl.1 (Nat.le_of_ble_eq_true rfl) dX6_without_3 (fun r1 H locs x2 M nr1 h => ?_)
  refine x_jp_el h (fun jp3 ejp3 h => ?_)
  have hjp3 : ∀ (x4 : XS) (H : Heap) (locs : List Loc) (ls : Array Slot), jp3 x4 = some z → xmm D (xW T a) A s H locs x4 → lv_has ls 6 [(0, .ref (a 0))] → W p l e { frames := 6, cells := 0, slots := 0, locals := 143 } s m args below meth c H locs 0 0 (xQI below args s D (xW T a) .int z A) (F0 m 18 ls []) := by
    intro x4 H locs ls h M hl
    rw [ejp3] at h
    dsimp only at h
    refine lv_aload_n hx hb dX6_without_18 rfl (lv_at hl 0 rfl) ?_
    refine lv_iconst (v := oI 1) hx hb dX6_without_19 (by decide) ?_
    refine ci_X6_66 C M h ⟨Nat.le_of_ble_eq_true rfl, Nat.le_of_ble_eq_true rfl⟩ hl.1 (Nat.le_of_ble_eq_true rfl) dX6_without_20 (fun r5 H locs x6 M nr5 h => ?_)
    exact xretI C hr M h rfl dX6_without_23
  refine z_if_eq (tgt := 18) hx hb dX6_without_6 (by decide) h (fun h => ?_) (fun h => ?_)
  · exact hjp3 x2 H locs ls h M (lv_sub hl [0] rfl)
  · refine lv_aload_n hx hb dX6_without_9 rfl (lv_at hl 0 rfl) ?_
    refine lv_iload hx hb dX6_without_10 (lv_at hl 4 rfl) ?_
    refine ci_X6_118 C M h ⟨Nat.le_of_ble_eq_true rfl, Nat.le_of_ble_eq_true rfl⟩ hl.1 (Nat.le_of_ble_eq_true rfl) dX6_without_12 (fun r7 H locs x8 M nr7 h => ?_)
    refine z_if_ne (tgt := 24) hx hb dX6_without_15 (by decide) h (fun h => ?_) (fun h => ?_)
    · refine lv_iload_n hx hb dX6_without_24 rfl (lv_at hl 3 rfl) ?_
      refine ci_X6_131 C M h ⟨Nat.le_of_ble_eq_true rfl, Nat.le_of_ble_eq_true rfl⟩ hl.1 (Nat.le_of_ble_eq_true rfl) dX6_without_25 (fun r9 H locs x10 M nr9 h => ?_)
      refine z_if_ne (tgt := 37) hx hb dX6_without_28 (by decide) h (fun h => ?_) (fun h => ?_)
      · refine lv_aload_n hx hb dX6_without_37 rfl (lv_at hl 0 rfl) ?_
        refine lv_iload_n hx hb dX6_without_38 rfl (lv_at hl 1 rfl) ?_
        refine lv_iload_n hx hb dX6_without_39 rfl (lv_at hl 2 rfl) ?_
        refine lv_iload_n hx hb dX6_without_40 rfl (lv_at hl 3 rfl) ?_
        refine lv_iload hx hb dX6_without_41 (lv_at hl 4 rfl) ?_
        refine ci_X6_207 C M h ⟨Nat.le_of_ble_eq_true rfl, Nat.le_of_ble_eq_true rfl⟩ hl.1 (Nat.le_of_ble_eq_true rfl) dX6_without_43 (fun r11 H locs x12 M nr11 h => ?_)
        refine lv_istore (lv' := [(5, .int (oI r11)), (0, .ref (a 0)), (1, .int (oI p1)), (2, .int (oI p2)), (3, .int (oI p3)), (4, .int (oI p4))]) hx hb dX6_without_46 hl (by decide) rfl (fun ls hl => ?_)
        refine lv_iload hx hb dX6_without_48 (lv_at hl 0 rfl) ?_
        refine lv_sipush (v := oI 5001) hx hb dX6_without_50 (by decide) ?_
        refine z_icmp_ne (tgt := 64) hx hb dX6_without_53 (by decide) h (fun h => ?_) (fun h => ?_)
        · refine lv_aload_n hx hb dX6_without_64 rfl (lv_at hl 1 rfl) ?_
          refine lv_iload hx hb dX6_without_65 (lv_at hl 0 rfl) ?_
          refine ci_X6_77 C M h ⟨Nat.le_of_ble_eq_true rfl, Nat.le_of_ble_eq_true rfl⟩ hl.1 (Nat.le_of_ble_eq_true rfl) dX6_without_67 (fun r13 H locs x14 M nr13 h => ?_)
          exact xretI C hr M h rfl dX6_without_70
        · refine lv_aload_n hx hb dX6_without_56 rfl (lv_at hl 1 rfl) ?_
          refine lv_iconst (v := oI 5) hx hb dX6_without_57 (by decide) ?_
          refine ci_X6_66 C M h ⟨Nat.le_of_ble_eq_true rfl, Nat.le_of_ble_eq_true rfl⟩ hl.1 (Nat.le_of_ble_eq_true rfl) dX6_without_58 (fun r15 H locs x16 M nr15 h => ?_)
          refine lv_goto (tgt := 70) hx hb dX6_without_61 (by decide) ?_
          exact xretI C hr M h rfl dX6_without_70
      · refine lv_aload_n hx hb dX6_without_31 rfl (lv_at hl 0 rfl) ?_
        refine lv_iconst (v := oI 2) hx hb dX6_without_32 (by decide) ?_
        refine ci_X6_66 C M h ⟨Nat.le_of_ble_eq_true rfl, Nat.le_of_ble_eq_true rfl⟩ hl.1 (Nat.le_of_ble_eq_true rfl) dX6_without_33 (fun r17 H locs x18 M nr17 h => ?_)
        exact xretI C hr M h rfl dX6_without_36
    · exact hjp3 x8 H locs ls h M (lv_sub hl [0] rfl)
set_option maxHeartbeats 4000000 in
set_option maxRecDepth 100000 in
theorem c_X6_isInSpareRow {l : Launch} {D : va_G} {T : ClassId × ClassId} {a : Nat → Nat} {x : XS} {p1 : Int} {p2 : Int} {z : Int × XS} (h : f_X6_isInSpareRow x p1 p2 = some z) (sz : Nat) : xMetI l yX6_isInSpareRow cX6_isInSpareRow 4 .boolean { frames := 0, cells := 0, slots := 0, locals := 0 } D T (xW T a) sz [.ref (a 0), .int (oI p1), .int (oI p2)] x z := by
  refine xMetI_of (by decide) (Nat.le_of_ble_eq_true rfl) (xW_ad T a) ?_
  intro p e s m args below meth c A ls C hr M hl
  have hx := C.1
  have hb := C.2.1
  have hl : lv_has ls 4 [(0, .ref (a 0)), (1, .int (oI p1)), (2, .int (oI p2))] := hl
  have C : xcx RX6 cX6_isInSpareRow 4 D T (xW T a) A p s m args meth c := C
  revert hl M
  generalize ([] : List Loc) = locs
  generalize s.heap = H
  intro M hl
  unfold f_X6_isInSpareRow at h
  refine lv_iconst (v := oI 0) hx hb dX6_isInSpareRow_0 (by decide) ?_
  refine lv_istore_n (lv' := [(3, .int (oI 0)), (0, .ref (a 0)), (1, .int (oI p1)), (2, .int (oI p2))]) hx hb dX6_isInSpareRow_1 rfl hl (by decide) rfl (fun ls hl => ?_)
  refine x_jp_el h (fun kx1 ekx1 h => ?_)
  have hkx1 : ∀ (x2 : XS) (H : Heap) (locs : List Loc) (ls : Array Slot), kx1 x2 = some z → xmm D (xW T a) A s H locs x2 → lv_has ls 4 [] → W p l e { frames := 0, cells := 0, slots := 0, locals := 0 } s m args below meth c H locs 0 0 (xQI below args s D (xW T a) .boolean z A) (F0 m 27 ls []) := by
    intro x2 H locs ls h M hl
    rw [ekx1] at h
    dsimp only at h
    refine lv_iconst (v := oI 0) hx hb dX6_isInSpareRow_27 (by decide) ?_
    exact xretI C hr M h nb_0 dX6_isInSpareRow_28
  refine x_loop1_ind (P := fun v3 x4 => ∀ (H : Heap) (locs : List Loc) (ls : Array Slot), xmm D (xW T a) A s H locs x4 → lv_has ls 4 [(0, .ref (a 0)), (1, .int (oI p1)), (2, .int (oI p2)), (3, .int (oI v3))] → W p l e { frames := 0, cells := 0, slots := 0, locals := 0 } s m args below meth c H locs 0 0 (xQI below args s D (xW T a) .boolean z A) (F0 m 2 ls [])) (fun g5 ig5 v3 x4 h => ?_) x_fuel 0 x h H locs ls M (lv_sub hl [1, 2, 3, 0] rfl)
  intro H locs ls M hl
  unfold b_X6_isInSpareRow_2 at h
  refine lv_iload_n hx hb dX6_isInSpareRow_2 rfl (lv_at hl 3 rfl) ?_
  refine lv_iload_n hx hb dX6_isInSpareRow_3 rfl (lv_at hl 2 rfl) ?_
  refine z_icmp_ge (tgt := 27) hx hb dX6_isInSpareRow_4 (by decide) h (fun h => ?_) (fun h => ?_)
  · exact hkx1 x4 H locs ls h M (lv_sub hl [] rfl)
  · refine lv_aload_n hx hb dX6_isInSpareRow_7 rfl (lv_at hl 0 rfl) ?_
    refine gf_X6_52 C M dX6_isInSpareRow_8 ?_
    refine lv_iconst (v := oI 2) hx hb dX6_isInSpareRow_11 (by decide) ?_
    refine lv_iload_n hx hb dX6_isInSpareRow_12 rfl (lv_at hl 3 rfl) ?_
    refine z_imul hx hb dX6_isInSpareRow_13 ?_
    refine al_x_8 C M dX6_isInSpareRow_14 h (fun v6 h => ?_)
    refine lv_iload_n hx hb dX6_isInSpareRow_15 rfl (lv_at hl 1 rfl) ?_
    refine z_icmp_ne (tgt := 21) hx hb dX6_isInSpareRow_16 (by decide) h (fun h => ?_) (fun h => ?_)
    · refine x_nm h (fun v7 ev7 h => ?_)
      refine lv_iinc (v := oI v7) (lv' := [(3, .int (oI v7)), (0, .ref (a 0)), (1, .int (oI p1)), (2, .int (oI p2))]) hx hb dX6_isInSpareRow_21 hl (k := 3) rfl (by rw [ev7]; exact oI_add _ _) (by decide) rfl (fun ls hl => ?_)
      refine lv_goto (tgt := 2) hx hb dX6_isInSpareRow_24 (by decide) ?_
      exact ig5 v7 x4 h H locs ls M (lv_sub hl [1, 2, 3, 0] rfl)
    · refine lv_iconst (v := oI 1) hx hb dX6_isInSpareRow_19 (by decide) ?_
      exact xretI C hr M h nb_1 dX6_isInSpareRow_20
theorem ci_X6_188_8 {cc : ByteArray} {nL : Nat} {D : va_G} {T : ClassId × ClassId} {a : Nat → Nat} {A : Nat → Prop} {p : Program} {l : Launch} {e : Env} {R : Room} {s : State} {m : MethodId} {args : Array Value} {below : List Frame} {meth : Method} {c : Code} {H : Heap} {locs : List Loc} {Q : State → Prop} {x : XS} {z : Int × XS} {pc : Nat} {ls : Array Slot} {rest : List Value} (C : xcx RX6 cc nL D T (xW T a) A p s m args meth c) (M : xmm D (xW T a) A s H locs x) {p1 : Int} {K : Int → XS → XR} (h : x_call (f_X3_trace 1 x p1) K = some z) (hR : 3 + 1 ≤ R.frames ∧ 8 + (6 + 11) + 68 ≤ R.locals) (hsz : ls.size = nL) (hrest : (rest.map fun v => v.category).sum ≤ 8) (hdg : decode cc pc = .ok (.invokevirtual 188, 3)) (kk : ∀ (r : Int) (H1 : Heap) (locs1 : List Loc) (x1 : XS), xmm D (xW T a) A s H1 locs1 x1 → narrow .int (.int (oI r)) = .int (oI r) → K r x1 = some z → W p l e R s m args below meth c H1 locs1 0 0 Q (F0 m (pc + 3) ls (.int (oI r) :: rest))) : W p l e R s m args below meth c H locs 0 0 Q (F0 m pc ls (.ref (a 8) :: .int (oI p1) :: .ref (a 5) :: rest)) :=
  xcallI_N (As := [.int (oI p1), .ref (a 8)]) (n := 2) C M (fun zc sz ho => c_X3_trace_8 ho sz) bw_632 bw_629 bw_631 bw_50 bw_90 rfl (by decide +kernel) 5 rfl rfl ⟨rfl, rfl⟩ hR hsz rfl hrest hdg h kk
theorem ci_X6_211 {cc : ByteArray} {nL : Nat} {D : va_G} {T : ClassId × ClassId} {a : Nat → Nat} {A : Nat → Prop} {p : Program} {l : Launch} {e : Env} {R : Room} {s : State} {m : MethodId} {args : Array Value} {below : List Frame} {meth : Method} {c : Code} {H : Heap} {locs : List Loc} {Q : State → Prop} {x : XS} {z : Int × XS} {pc : Nat} {ls : Array Slot} {rest : List Value} (C : xcx RX6 cc nL D T (xW T a) A p s m args meth c) (M : xmm D (xW T a) A s H locs x) {p1 p2 : Int} {K : Int → XS → XR} (h : x_call (f_X6_isInSpareRow x p1 p2) K = some z) (hR : 0 + 1 ≤ R.frames ∧ 8 + (4 + 11) + 0 ≤ R.locals) (hsz : ls.size = nL) (hrest : (rest.map fun v => v.category).sum ≤ 8) (hdg : decode cc pc = .ok (.invokevirtual 211, 3)) (kk : ∀ (r : Int) (H1 : Heap) (locs1 : List Loc) (x1 : XS), xmm D (xW T a) A s H1 locs1 x1 → narrow .boolean (.int (oI r)) = .int (oI r) → K r x1 = some z → W p l e R s m args below meth c H1 locs1 0 0 Q (F0 m (pc + 3) ls (.int (oI r) :: rest))) : W p l e R s m args below meth c H locs 0 0 Q (F0 m pc ls (.int (oI p2) :: .int (oI p1) :: .ref (a 0) :: rest)) :=
  xcallI_V (As := [.int (oI p1), .int (oI p2)]) (n := 2) C M (fun zc sz ho => c_X6_isInSpareRow ho sz) bw_707 bw_704 bw_706 bw_61 bw_84 rfl (by decide +kernel) 0 rfl rfl ⟨rfl, rfl⟩ hR hsz rfl hrest hdg h kk
set_option maxHeartbeats 4000000 in
set_option maxRecDepth 100000 in
theorem c_X6_weakest {l : Launch} {D : va_G} {T : ClassId × ClassId} {a : Nat → Nat} {x : XS} {p1 : Int} {p2 : Int} {p3 : Int} {z : Int × XS} (h : f_X6_weakest x p1 p2 p3 = some z) (sz : Nat) : xMetI l yX6_weakest cX6_weakest 10 .int { frames := 6, cells := 0, slots := 0, locals := 143 } D T (xW T a) sz [.ref (a 0), .int (oI p1), .int (oI p2), .int (oI p3)] x z := by
  refine xMetI_of (by decide) (Nat.le_of_ble_eq_true rfl) (xW_ad T a) ?_
  intro p e s m args below meth c A ls C hr M hl
  have hx := C.1
  have hb := C.2.1
  have hl : lv_has ls 10 [(0, .ref (a 0)), (1, .int (oI p1)), (2, .int (oI p2)), (3, .int (oI p3))] := hl
  have C : xcx RX6 cX6_weakest 10 D T (xW T a) A p s m args meth c := C
  revert hl M
  generalize ([] : List Loc) = locs
  generalize s.heap = H
  intro M hl
  unfold f_X6_weakest at h
  refine lv_aload_n hx hb dX6_weakest_0 rfl (lv_at hl 0 rfl) ?_
  refine lv_iload_n hx hb dX6_weakest_1 rfl (lv_at hl 1 rfl) ?_
  refine lv_iload_n hx hb dX6_weakest_2 rfl (lv_at hl 2 rfl) ?_
  refine lv_iload_n hx hb dX6_weakest_3 rfl (lv_at hl 3 rfl) ?_
  refine lv_iload_n hx hb dX6_weakest_4 rfl (lv_at hl 3 rfl) ?_
  refine lv_aload_n hx hb dX6_weakest_5 rfl (lv_at hl 0 rfl) ?_
  refine gf_X6_26 C M dX6_weakest_6 ?_
  refine gf_X6_137 C M dX6_weakest_9 ?_
  refine ci_X6_165 C M h ⟨Nat.le_of_ble_eq_true rfl, Nat.le_of_ble_eq_true rfl⟩ hl.1 (Nat.le_of_ble_eq_true rfl) dX6_weakest_12 (fun r1 H locs x2 M nr1 h => ?_)
  refine lv_istore (lv' := [(4, .int (oI r1)), (0, .ref (a 0)), (1, .int (oI p1)), (2, .int (oI p2)), (3, .int (oI p3))]) hx hb dX6_weakest_15 hl (by decide) rfl (fun ls hl => ?_)
  refine lv_iload hx hb dX6_weakest_17 (lv_at hl 0 rfl) ?_
  refine z_if_eq (tgt := 29) hx hb dX6_weakest_19 (by decide) h (fun h => ?_) (fun h => ?_)
  · refine lv_aload_n hx hb dX6_weakest_29 rfl (lv_at hl 1 rfl) ?_
    refine lv_iload_n hx hb dX6_weakest_30 rfl (lv_at hl 2 rfl) ?_
    refine lv_iload_n hx hb dX6_weakest_31 rfl (lv_at hl 4 rfl) ?_
    refine lv_aload_n hx hb dX6_weakest_32 rfl (lv_at hl 1 rfl) ?_
    refine gf_X6_26 C M dX6_weakest_33 ?_
    refine gf_X6_137 C M dX6_weakest_36 ?_
    refine lv_iconst (v := oI 1) hx hb dX6_weakest_39 (by decide) ?_
    refine ci_X6_169 C M h nb_1 ⟨Nat.le_of_ble_eq_true rfl, Nat.le_of_ble_eq_true rfl⟩ hl.1 (Nat.le_of_ble_eq_true rfl) dX6_weakest_40 (fun H locs x4 M h => ?_)
    refine lv_aload_n hx hb dX6_weakest_43 rfl (lv_at hl 1 rfl) ?_
    refine gf_X6_44 C M dX6_weakest_44 ?_
    refine lv_iload_n hx hb dX6_weakest_47 rfl (lv_at hl 3 rfl) ?_
    refine lv_aload_n hx hb dX6_weakest_48 rfl (lv_at hl 1 rfl) ?_
    refine gf_X6_52 C M dX6_weakest_49 ?_
    refine ci_X6_188_8 C M h ⟨Nat.le_of_ble_eq_true rfl, Nat.le_of_ble_eq_true rfl⟩ hl.1 (Nat.le_of_ble_eq_true rfl) dX6_weakest_52 (fun r5 H locs x6 M nr5 h => ?_)
    refine lv_istore (lv' := [(5, .int (oI r5)), (4, .int (oI r1)), (0, .ref (a 0)), (1, .int (oI p1)), (2, .int (oI p2)), (3, .int (oI p3))]) hx hb dX6_weakest_55 hl (by decide) rfl (fun ls hl => ?_)
    refine lv_iconst (v := oI (-1)) hx hb dX6_weakest_57 (by decide) ?_
    refine lv_istore (lv' := [(6, .int (oI (-1))), (5, .int (oI r5)), (4, .int (oI r1)), (0, .ref (a 0)), (1, .int (oI p1)), (2, .int (oI p2)), (3, .int (oI p3))]) hx hb dX6_weakest_58 hl (by decide) rfl (fun ls hl => ?_)
    refine lv_iconst (v := oI (-1)) hx hb dX6_weakest_60 (by decide) ?_
    refine lv_istore (lv' := [(7, .int (oI (-1))), (6, .int (oI (-1))), (5, .int (oI r5)), (4, .int (oI r1)), (0, .ref (a 0)), (1, .int (oI p1)), (2, .int (oI p2)), (3, .int (oI p3))]) hx hb dX6_weakest_61 hl (by decide) rfl (fun ls hl => ?_)
    refine lv_iconst (v := oI 0) hx hb dX6_weakest_63 (by decide) ?_
    refine lv_istore (lv' := [(8, .int (oI 0)), (7, .int (oI (-1))), (6, .int (oI (-1))), (5, .int (oI r5)), (4, .int (oI r1)), (0, .ref (a 0)), (1, .int (oI p1)), (2, .int (oI p2)), (3, .int (oI p3))]) hx hb dX6_weakest_64 hl (by decide) rfl (fun ls hl => ?_)
    refine x_jp_el h (fun kx7 ekx7 h => ?_)
    have hkx7 : ∀ (v8 : Int) (x9 : XS) (H : Heap) (locs : List Loc) (ls : Array Slot), kx7 v8 x9 = some z → xmm D (xW T a) A s H locs x9 → lv_has ls 10 [(0, .ref (a 0)), (6, .int (oI v8))] → W p l e { frames := 6, cells := 0, slots := 0, locals := 143 } s m args below meth c H locs 0 0 (xQI below args s D (xW T a) .int z A) (F0 m 125 ls []) := by
      intro v8 x9 H locs ls h M hl
      rw [ekx7] at h
      dsimp only at h
      refine lv_aload_n hx hb dX6_weakest_125 rfl (lv_at hl 0 rfl) ?_
      refine lv_iload hx hb dX6_weakest_126 (lv_at hl 1 rfl) ?_
      refine ci_X6_176 C M h ⟨Nat.le_of_ble_eq_true rfl, Nat.le_of_ble_eq_true rfl⟩ hl.1 (Nat.le_of_ble_eq_true rfl) dX6_weakest_128 (fun r10 H locs x11 M nr10 h => ?_)
      exact xretI C hr M h rfl dX6_weakest_131
    refine x_loop3_ind (P := fun v12 v13 v14 x15 => ∀ (H : Heap) (locs : List Loc) (ls : Array Slot), xmm D (xW T a) A s H locs x15 → lv_has ls 10 [(0, .ref (a 0)), (1, .int (oI p1)), (2, .int (oI p2)), (3, .int (oI p3)), (5, .int (oI r5)), (6, .int (oI v12)), (7, .int (oI v13)), (8, .int (oI v14))] → W p l e { frames := 6, cells := 0, slots := 0, locals := 143 } s m args below meth c H locs 0 0 (xQI below args s D (xW T a) .int z A) (F0 m 66 ls [])) (fun g16 ig16 v12 v13 v14 x15 h => ?_) x_fuel (-1) (-1) 0 x6 h H locs ls M (lv_sub hl [5, 6, 7, 8, 3, 2, 1, 0] rfl)
    intro H locs ls M hl
    unfold b_X6_weakest_66 at h
    refine lv_iload hx hb dX6_weakest_66 (lv_at hl 7 rfl) ?_
    refine lv_aload_n hx hb dX6_weakest_68 rfl (lv_at hl 0 rfl) ?_
    refine gf_X6_19 C M dX6_weakest_69 ?_
    refine gf_X6_105 C M dX6_weakest_72 ?_
    refine z_icmp_ge (tgt := 125) hx hb dX6_weakest_75 (by decide) h (fun h => ?_) (fun h => ?_)
    · exact hkx7 v12 x15 H locs ls h M (lv_sub hl [0, 5] rfl)
    · refine lv_aload_n hx hb dX6_weakest_78 rfl (lv_at hl 0 rfl) ?_
      refine lv_iload hx hb dX6_weakest_79 (lv_at hl 7 rfl) ?_
      refine lv_iload hx hb dX6_weakest_81 (lv_at hl 4 rfl) ?_
      refine ci_X6_211 C M h ⟨Nat.le_of_ble_eq_true rfl, Nat.le_of_ble_eq_true rfl⟩ hl.1 (Nat.le_of_ble_eq_true rfl) dX6_weakest_83 (fun r17 H locs x18 M nr17 h => ?_)
      refine x_jp_el h (fun jp19 ejp19 h => ?_)
      have hjp19 : ∀ (v20 : Int) (x21 : XS) (H : Heap) (locs : List Loc) (ls : Array Slot), jp19 v20 x21 = some z → xmm D (xW T a) A s H locs x21 → lv_has ls 10 [(0, .ref (a 0)), (1, .int (oI p1)), (2, .int (oI p2)), (3, .int (oI p3)), (5, .int (oI r5)), (6, .int (oI v12)), (7, .int (oI v13)), (8, .int (oI v14))] → W p l e { frames := 6, cells := 0, slots := 0, locals := 143 } s m args below meth c H locs 0 0 (xQI below args s D (xW T a) .int z A) (F0 m 102 ls [.int (oI v20)]) := by
        intro v20 x21 H locs ls h M hl
        rw [ejp19] at h
        dsimp only at h
        refine lv_istore (lv' := [(9, .int (oI v20)), (0, .ref (a 0)), (1, .int (oI p1)), (2, .int (oI p2)), (3, .int (oI p3)), (5, .int (oI r5)), (6, .int (oI v12)), (7, .int (oI v13)), (8, .int (oI v14))]) hx hb dX6_weakest_102 hl (by decide) rfl (fun ls hl => ?_)
        refine lv_iload hx hb dX6_weakest_104 (lv_at hl 0 rfl) ?_
        refine lv_iload hx hb dX6_weakest_106 (lv_at hl 7 rfl) ?_
        refine x_jp_el h (fun jp22 ejp22 h => ?_)
        have hjp22 : ∀ (v23 : Int) (v24 : Int) (x25 : XS) (H : Heap) (locs : List Loc) (ls : Array Slot), jp22 v23 v24 x25 = some z → xmm D (xW T a) A s H locs x25 → lv_has ls 10 [(0, .ref (a 0)), (1, .int (oI p1)), (2, .int (oI p2)), (3, .int (oI p3)), (5, .int (oI r5)), (6, .int (oI v23)), (7, .int (oI v24)), (8, .int (oI v14))] → W p l e { frames := 6, cells := 0, slots := 0, locals := 143 } s m args below meth c H locs 0 0 (xQI below args s D (xW T a) .int z A) (F0 m 119 ls []) := by
          intro v23 v24 x25 H locs ls h M hl
          rw [ejp22] at h
          dsimp only at h
          refine x_nm h (fun v26 ev26 h => ?_)
          refine lv_iinc (v := oI v26) (lv' := [(8, .int (oI v26)), (0, .ref (a 0)), (1, .int (oI p1)), (2, .int (oI p2)), (3, .int (oI p3)), (5, .int (oI r5)), (6, .int (oI v23)), (7, .int (oI v24))]) hx hb dX6_weakest_119 hl (k := 7) rfl (by rw [ev26]; exact oI_add _ _) (by decide) rfl (fun ls hl => ?_)
          refine lv_goto (tgt := 66) hx hb dX6_weakest_122 (by decide) ?_
          exact ig16 v23 v24 v26 x25 h H locs ls M (lv_sub hl [1, 2, 3, 4, 5, 6, 7, 0] rfl)
        refine z_icmp_le (tgt := 119) hx hb dX6_weakest_108 (by decide) h (fun h => ?_) (fun h => ?_)
        · exact hjp22 v12 v13 x21 H locs ls h M (lv_sub hl [1, 2, 3, 4, 5, 6, 7, 8] rfl)
        · refine lv_iload hx hb dX6_weakest_111 (lv_at hl 0 rfl) ?_
          refine lv_istore (lv' := [(7, .int (oI v20)), (9, .int (oI v20)), (0, .ref (a 0)), (1, .int (oI p1)), (2, .int (oI p2)), (3, .int (oI p3)), (5, .int (oI r5)), (6, .int (oI v12)), (8, .int (oI v14))]) hx hb dX6_weakest_113 hl (by decide) rfl (fun ls hl => ?_)
          refine lv_iload hx hb dX6_weakest_115 (lv_at hl 8 rfl) ?_
          refine lv_istore (lv' := [(6, .int (oI v14)), (7, .int (oI v20)), (9, .int (oI v20)), (0, .ref (a 0)), (1, .int (oI p1)), (2, .int (oI p2)), (3, .int (oI p3)), (5, .int (oI r5)), (8, .int (oI v14))]) hx hb dX6_weakest_117 hl (by decide) rfl (fun ls hl => ?_)
          exact hjp22 v14 v20 x21 H locs ls h M (lv_sub hl [3, 4, 5, 6, 7, 0, 1, 8] rfl)
      refine z_if_eq (tgt := 101) hx hb dX6_weakest_86 (by decide) h (fun h => ?_) (fun h => ?_)
      · refine lv_iconst (v := oI (-1)) hx hb dX6_weakest_101 (by decide) ?_
        exact hjp19 (-1) x18 H locs ls h M (lv_sub hl [0, 1, 2, 3, 4, 5, 6, 7] rfl)
      · refine lv_aload_n hx hb dX6_weakest_89 rfl (lv_at hl 0 rfl) ?_
        refine lv_iload_n hx hb dX6_weakest_90 rfl (lv_at hl 1 rfl) ?_
        refine lv_iload_n hx hb dX6_weakest_91 rfl (lv_at hl 2 rfl) ?_
        refine lv_iload_n hx hb dX6_weakest_92 rfl (lv_at hl 3 rfl) ?_
        refine lv_iload hx hb dX6_weakest_93 (lv_at hl 7 rfl) ?_
        refine ci_X6_207 C M h ⟨Nat.le_of_ble_eq_true rfl, Nat.le_of_ble_eq_true rfl⟩ hl.1 (Nat.le_of_ble_eq_true rfl) dX6_weakest_95 (fun r27 H locs x28 M nr27 h => ?_)
        refine lv_goto (tgt := 102) hx hb dX6_weakest_98 (by decide) ?_
        exact hjp19 r27 x28 H locs ls h M (lv_sub hl [0, 1, 2, 3, 4, 5, 6, 7] rfl)
  · refine lv_aload_n hx hb dX6_weakest_22 rfl (lv_at hl 1 rfl) ?_
    refine lv_iload hx hb dX6_weakest_23 (lv_at hl 0 rfl) ?_
    refine ci_X6_66 C M h ⟨Nat.le_of_ble_eq_true rfl, Nat.le_of_ble_eq_true rfl⟩ hl.1 (Nat.le_of_ble_eq_true rfl) dX6_weakest_25 (fun r29 H locs x30 M nr29 h => ?_)
    exact xretI C hr M h rfl dX6_weakest_28
set_option maxHeartbeats 4000000 in
set_option maxRecDepth 100000 in
theorem c_X6_stand {l : Launch} {D : va_G} {T : ClassId × ClassId} {a : Nat → Nat} {x : XS} {p1 : Int} {z : Int × XS} (h : f_X6_stand x p1 = some z) (sz : Nat) : xMetI l yX6_stand cX6_stand 2 .int { frames := 5, cells := 0, slots := 0, locals := 112 } D T (xW T a) sz [.ref (a 0), .int (oI p1)] x z := by
  refine xMetI_of (by decide) (Nat.le_of_ble_eq_true rfl) (xW_ad T a) ?_
  intro p e s m args below meth c A ls C hr M hl
  have hx := C.1
  have hb := C.2.1
  have hl : lv_has ls 2 [(0, .ref (a 0)), (1, .int (oI p1))] := hl
  have C : xcx RX6 cX6_stand 2 D T (xW T a) A p s m args meth c := C
  revert hl M
  generalize ([] : List Loc) = locs
  generalize s.heap = H
  intro M hl
  unfold f_X6_stand at h
  refine lv_aload_n hx hb dX6_stand_0 rfl (lv_at hl 0 rfl) ?_
  refine lv_iload_n hx hb dX6_stand_1 rfl (lv_at hl 1 rfl) ?_
  refine ci_X6_154 C M h ⟨Nat.le_of_ble_eq_true rfl, Nat.le_of_ble_eq_true rfl⟩ hl.1 (Nat.le_of_ble_eq_true rfl) dX6_stand_2 (fun r1 H locs x2 M nr1 h => ?_)
  refine z_if_ne (tgt := 15) hx hb dX6_stand_5 (by decide) h (fun h => ?_) (fun h => ?_)
  · refine lv_aload_n hx hb dX6_stand_15 rfl (lv_at hl 0 rfl) ?_
    refine gf_X6_35 C M dX6_stand_16 ?_
    refine lv_iload_n hx hb dX6_stand_19 rfl (lv_at hl 1 rfl) ?_
    refine ci_X6_157 C M h ⟨Nat.le_of_ble_eq_true rfl, Nat.le_of_ble_eq_true rfl⟩ hl.1 (Nat.le_of_ble_eq_true rfl) dX6_stand_20 (fun H locs x4 M h => ?_)
    refine lv_aload_n hx hb dX6_stand_23 rfl (lv_at hl 0 rfl) ?_
    refine lv_aload_n hx hb dX6_stand_24 rfl (lv_at hl 0 rfl) ?_
    refine gf_X6_35 C M dX6_stand_25 ?_
    refine gf_X6_214 C M dX6_stand_28 ?_
    refine ci_X6_77 C M h ⟨Nat.le_of_ble_eq_true rfl, Nat.le_of_ble_eq_true rfl⟩ hl.1 (Nat.le_of_ble_eq_true rfl) dX6_stand_31 (fun r5 H locs x6 M nr5 h => ?_)
    exact xretI C hr M h rfl dX6_stand_34
  · refine lv_aload_n hx hb dX6_stand_8 rfl (lv_at hl 0 rfl) ?_
    refine lv_bipush (v := oI 6) hx hb dX6_stand_9 (by decide) ?_
    refine ci_X6_66 C M h ⟨Nat.le_of_ble_eq_true rfl, Nat.le_of_ble_eq_true rfl⟩ hl.1 (Nat.le_of_ble_eq_true rfl) dX6_stand_11 (fun r7 H locs x8 M nr7 h => ?_)
    exact xretI C hr M h rfl dX6_stand_14
