set_option maxHeartbeats 4000000 in
set_option maxRecDepth 100000 in
theorem law_case0 {Inv : XS → XS → Prop} (hO : (stepOK Inv (fun x => f_X6_status x) (fun y => f_X7_status y))) {D : va_G} {T : ClassId × ClassId} {a q : Nat → Nat} {A : Nat → Prop} {b L : Nat} {xs : Nat → Int32} {p : Program} {l : Launch} {e : Env} {s : State} {m : MethodId} {below : List Frame} {meth : Method} {c : Code} {Q : State → Prop} (K : lcx D T a q A b L xs p s m meth c) (hL : L ≤ 4096) {i : Nat} {x3 : Int32} (hi : i + 8 ≤ L) (e3 : x3 = nI i)  {x y : XS} (hI : Inv x y) {H : Heap} {locs : List Loc} {ls : Array Slot} (M : lmm D T a q A s H locs x y) (hl : lv_has ls 4 [(0, .ref b), (1, .ref (a 0)), (2, .ref (q 0)), (3, .int x3)])
    (hgo : ∀ (x y : XS) (H : Heap) (locs : List Loc) (ls : Array Slot), Inv x y → lmm D T a q A s H locs x y → lv_has ls 4 [(0, .ref b), (1, .ref (a 0)), (2, .ref (q 0)), (3, .int x3)] → W p l e room_1 s m #[Value.ref b] below meth c H locs 70 41445 Q (F0 m 1206 ls [])) : W p l e room_1 s m #[Value.ref b] below meth c H locs 70 41445 Q (F0 m 144 ls []) := by
  have hx := K.1.1
  have hb := K.1.2.1
  have hap := K.2.2.1
  obtain ⟨r, x', y', hfx, hfy, hI2⟩ := hO   x y hI
  refine lv_aload_n hx hb dL_law_144 rfl (lv_at hl 1 rfl) ?_
  refine l_callI (n := 0) (As := []) K.1 ⟨M.1, M.2.2⟩ (hap x y) M.2.1 (fun sz => c_X6_status hfx sz) bw_349 bw_346 bw_347 bw_348 bw_84 rfl (by decide +kernel) 0 rfl rfl ⟨rfl, rfl⟩ ⟨Nat.le_of_ble_eq_true rfl, Nat.le_of_ble_eq_true rfl⟩ hl.1 rfl (Nat.le_of_ble_eq_true rfl) ⟨Nat.le_of_ble_eq_true rfl, Nat.le_of_ble_eq_true rfl⟩ dL_law_145 (fun H locs hP hP2 hS => ?_)
  have M : lmm D T a q A s H locs x' y := ⟨hP, hP2, hS⟩
  refine lv_aload_n hx hb dL_law_148 rfl (lv_at hl 2 rfl) ?_
  refine l_callI (n := 0) (As := []) K.2.1 ⟨M.2.1, M.2.2⟩ (fun i j u v hu hv h => hap x' y j i v u hv hu h.symm) M.1 (fun sz => c_X7_status hfy sz) bw_830 bw_827 bw_828 bw_829 bw_91 rfl (by decide +kernel) 0 rfl rfl ⟨rfl, rfl⟩ ⟨Nat.le_of_ble_eq_true rfl, Nat.le_of_ble_eq_true rfl⟩ hl.1 rfl (Nat.le_of_ble_eq_true rfl) ⟨Nat.le_of_ble_eq_true rfl, Nat.le_of_ble_eq_true rfl⟩ dL_law_149 (fun H locs hP hP2 hS => ?_)
  have M : lmm D T a q A s H locs x' y' := ⟨hP2, hP, hS⟩
  refine lv_icmp_eq (tgt := 1206) hx hb dL_law_152 (by decide) (fun _ => ?_) (fun hc3 => absurd rfl hc3)
  exact hgo x' y' H locs ls hI2 M hl
set_option maxHeartbeats 4000000 in
set_option maxRecDepth 100000 in
theorem law_case1 {Inv : XS → XS → Prop} (hO : (∀ (w1 w2 : Int), rg w1 → rg w2 → stepOK Inv (fun x => f_X6_node x w1 w2) (fun y => f_X7_node y w1 w2))) {D : va_G} {T : ClassId × ClassId} {a q : Nat → Nat} {A : Nat → Prop} {b L : Nat} {xs : Nat → Int32} {p : Program} {l : Launch} {e : Env} {s : State} {m : MethodId} {below : List Frame} {meth : Method} {c : Code} {Q : State → Prop} (K : lcx D T a q A b L xs p s m meth c) (hL : L ≤ 4096) {i : Nat} {x3 : Int32} (hi : i + 8 ≤ L) (e3 : x3 = nI i) {w1 w2 : Int} (hw1 : xs (x3 + 1).toNatClampNeg = oI w1) (hg1 : rg w1) (hw2 : xs (x3 + 2).toNatClampNeg = oI w2) (hg2 : rg w2) {x y : XS} (hI : Inv x y) {H : Heap} {locs : List Loc} {ls : Array Slot} (M : lmm D T a q A s H locs x y) (hl : lv_has ls 4 [(0, .ref b), (1, .ref (a 0)), (2, .ref (q 0)), (3, .int x3)])
    (hgo : ∀ (x y : XS) (H : Heap) (locs : List Loc) (ls : Array Slot), Inv x y → lmm D T a q A s H locs x y → lv_has ls 4 [(0, .ref b), (1, .ref (a 0)), (2, .ref (q 0)), (3, .int x3)] → W p l e room_1 s m #[Value.ref b] below meth c H locs 70 41445 Q (F0 m 1206 ls [])) : W p l e room_1 s m #[Value.ref b] below meth c H locs 70 41445 Q (F0 m 157 ls []) := by
  have hx := K.1.1
  have hb := K.1.2.1
  have hap := K.2.2.1
  obtain ⟨r, x', y', hfx, hfy, hI2⟩ := hO w1 w2 hg1 hg2 x y hI
  refine lv_aload_n hx hb dL_law_157 rfl (lv_at hl 1 rfl) ?_
  refine lv_aload_n hx hb dL_law_158 rfl (lv_at hl 0 rfl) ?_
  refine lv_iload_n hx hb dL_law_159 rfl (lv_at hl 3 rfl) ?_
  refine lv_iconst (v := 1) hx hb dL_law_160 (by decide) ?_
  refine lv_iadd hx hb dL_law_161 ?_
  refine l_sld K M (l_in (k := 1) e3 (by omega) hL) hw1 dL_law_162 ?_
  refine lv_aload_n hx hb dL_law_163 rfl (lv_at hl 0 rfl) ?_
  refine lv_iload_n hx hb dL_law_164 rfl (lv_at hl 3 rfl) ?_
  refine lv_iconst (v := 2) hx hb dL_law_165 (by decide) ?_
  refine lv_iadd hx hb dL_law_166 ?_
  refine l_sld K M (l_in (k := 2) e3 (by omega) hL) hw2 dL_law_167 ?_
  refine l_callI (n := 2) (As := [.int (oI w1), .int (oI w2)]) K.1 ⟨M.1, M.2.2⟩ (hap x y) M.2.1 (fun sz => c_X6_node hfx sz) bw_353 bw_350 bw_351 bw_352 bw_84 rfl (by decide +kernel) 0 rfl rfl ⟨rfl, rfl⟩ ⟨Nat.le_of_ble_eq_true rfl, Nat.le_of_ble_eq_true rfl⟩ hl.1 rfl (Nat.le_of_ble_eq_true rfl) ⟨Nat.le_of_ble_eq_true rfl, Nat.le_of_ble_eq_true rfl⟩ dL_law_168 (fun H locs hP hP2 hS => ?_)
  have M : lmm D T a q A s H locs x' y := ⟨hP, hP2, hS⟩
  refine lv_aload_n hx hb dL_law_171 rfl (lv_at hl 2 rfl) ?_
  refine lv_aload_n hx hb dL_law_172 rfl (lv_at hl 0 rfl) ?_
  refine lv_iload_n hx hb dL_law_173 rfl (lv_at hl 3 rfl) ?_
  refine lv_iconst (v := 1) hx hb dL_law_174 (by decide) ?_
  refine lv_iadd hx hb dL_law_175 ?_
  refine l_sld K M (l_in (k := 1) e3 (by omega) hL) hw1 dL_law_176 ?_
  refine lv_aload_n hx hb dL_law_177 rfl (lv_at hl 0 rfl) ?_
  refine lv_iload_n hx hb dL_law_178 rfl (lv_at hl 3 rfl) ?_
  refine lv_iconst (v := 2) hx hb dL_law_179 (by decide) ?_
  refine lv_iadd hx hb dL_law_180 ?_
  refine l_sld K M (l_in (k := 2) e3 (by omega) hL) hw2 dL_law_181 ?_
  refine l_callI (n := 2) (As := [.int (oI w1), .int (oI w2)]) K.2.1 ⟨M.2.1, M.2.2⟩ (fun i j u v hu hv h => hap x' y j i v u hv hu h.symm) M.1 (fun sz => c_X7_node hfy sz) bw_834 bw_831 bw_832 bw_833 bw_91 rfl (by decide +kernel) 0 rfl rfl ⟨rfl, rfl⟩ ⟨Nat.le_of_ble_eq_true rfl, Nat.le_of_ble_eq_true rfl⟩ hl.1 rfl (Nat.le_of_ble_eq_true rfl) ⟨Nat.le_of_ble_eq_true rfl, Nat.le_of_ble_eq_true rfl⟩ dL_law_182 (fun H locs hP hP2 hS => ?_)
  have M : lmm D T a q A s H locs x' y' := ⟨hP2, hP, hS⟩
  refine lv_icmp_eq (tgt := 1206) hx hb dL_law_185 (by decide) (fun _ => ?_) (fun hc3 => absurd rfl hc3)
  exact hgo x' y' H locs ls hI2 M hl
set_option maxHeartbeats 4000000 in
set_option maxRecDepth 100000 in
theorem law_case2 {Inv : XS → XS → Prop} (hO : (∀ (w1 w2 w3 : Int), rg w1 → rg w2 → rg w3 → stepOK Inv (fun x => f_X6_waits x w1 w2 w3) (fun y => f_X7_waits y w1 w2 w3))) {D : va_G} {T : ClassId × ClassId} {a q : Nat → Nat} {A : Nat → Prop} {b L : Nat} {xs : Nat → Int32} {p : Program} {l : Launch} {e : Env} {s : State} {m : MethodId} {below : List Frame} {meth : Method} {c : Code} {Q : State → Prop} (K : lcx D T a q A b L xs p s m meth c) (hL : L ≤ 4096) {i : Nat} {x3 : Int32} (hi : i + 8 ≤ L) (e3 : x3 = nI i) {w1 w2 w3 : Int} (hw1 : xs (x3 + 1).toNatClampNeg = oI w1) (hg1 : rg w1) (hw2 : xs (x3 + 2).toNatClampNeg = oI w2) (hg2 : rg w2) (hw3 : xs (x3 + 3).toNatClampNeg = oI w3) (hg3 : rg w3) {x y : XS} (hI : Inv x y) {H : Heap} {locs : List Loc} {ls : Array Slot} (M : lmm D T a q A s H locs x y) (hl : lv_has ls 4 [(0, .ref b), (1, .ref (a 0)), (2, .ref (q 0)), (3, .int x3)])
    (hgo : ∀ (x y : XS) (H : Heap) (locs : List Loc) (ls : Array Slot), Inv x y → lmm D T a q A s H locs x y → lv_has ls 4 [(0, .ref b), (1, .ref (a 0)), (2, .ref (q 0)), (3, .int x3)] → W p l e room_1 s m #[Value.ref b] below meth c H locs 70 41445 Q (F0 m 1206 ls [])) : W p l e room_1 s m #[Value.ref b] below meth c H locs 70 41445 Q (F0 m 190 ls []) := by
  have hx := K.1.1
  have hb := K.1.2.1
  have hap := K.2.2.1
  obtain ⟨r, x', y', hfx, hfy, hI2⟩ := hO w1 w2 w3 hg1 hg2 hg3 x y hI
  refine lv_aload_n hx hb dL_law_190 rfl (lv_at hl 1 rfl) ?_
  refine lv_aload_n hx hb dL_law_191 rfl (lv_at hl 0 rfl) ?_
  refine lv_iload_n hx hb dL_law_192 rfl (lv_at hl 3 rfl) ?_
  refine lv_iconst (v := 1) hx hb dL_law_193 (by decide) ?_
  refine lv_iadd hx hb dL_law_194 ?_
  refine l_sld K M (l_in (k := 1) e3 (by omega) hL) hw1 dL_law_195 ?_
  refine lv_aload_n hx hb dL_law_196 rfl (lv_at hl 0 rfl) ?_
  refine lv_iload_n hx hb dL_law_197 rfl (lv_at hl 3 rfl) ?_
  refine lv_iconst (v := 2) hx hb dL_law_198 (by decide) ?_
  refine lv_iadd hx hb dL_law_199 ?_
  refine l_sld K M (l_in (k := 2) e3 (by omega) hL) hw2 dL_law_200 ?_
  refine lv_aload_n hx hb dL_law_201 rfl (lv_at hl 0 rfl) ?_
  refine lv_iload_n hx hb dL_law_202 rfl (lv_at hl 3 rfl) ?_
  refine lv_iconst (v := 3) hx hb dL_law_203 (by decide) ?_
  refine lv_iadd hx hb dL_law_204 ?_
  refine l_sld K M (l_in (k := 3) e3 (by omega) hL) hw3 dL_law_205 ?_
  refine l_callI (n := 3) (As := [.int (oI w1), .int (oI w2), .int (oI w3)]) K.1 ⟨M.1, M.2.2⟩ (hap x y) M.2.1 (fun sz => c_X6_waits hfx sz) bw_379 bw_376 bw_377 bw_378 bw_84 rfl (by decide +kernel) 0 rfl rfl ⟨rfl, rfl⟩ ⟨Nat.le_of_ble_eq_true rfl, Nat.le_of_ble_eq_true rfl⟩ hl.1 rfl (Nat.le_of_ble_eq_true rfl) ⟨Nat.le_of_ble_eq_true rfl, Nat.le_of_ble_eq_true rfl⟩ dL_law_206 (fun H locs hP hP2 hS => ?_)
  have M : lmm D T a q A s H locs x' y := ⟨hP, hP2, hS⟩
  refine lv_aload_n hx hb dL_law_209 rfl (lv_at hl 2 rfl) ?_
  refine lv_aload_n hx hb dL_law_210 rfl (lv_at hl 0 rfl) ?_
  refine lv_iload_n hx hb dL_law_211 rfl (lv_at hl 3 rfl) ?_
  refine lv_iconst (v := 1) hx hb dL_law_212 (by decide) ?_
  refine lv_iadd hx hb dL_law_213 ?_
  refine l_sld K M (l_in (k := 1) e3 (by omega) hL) hw1 dL_law_214 ?_
  refine lv_aload_n hx hb dL_law_215 rfl (lv_at hl 0 rfl) ?_
  refine lv_iload_n hx hb dL_law_216 rfl (lv_at hl 3 rfl) ?_
  refine lv_iconst (v := 2) hx hb dL_law_217 (by decide) ?_
  refine lv_iadd hx hb dL_law_218 ?_
  refine l_sld K M (l_in (k := 2) e3 (by omega) hL) hw2 dL_law_219 ?_
  refine lv_aload_n hx hb dL_law_220 rfl (lv_at hl 0 rfl) ?_
  refine lv_iload_n hx hb dL_law_221 rfl (lv_at hl 3 rfl) ?_
  refine lv_iconst (v := 3) hx hb dL_law_222 (by decide) ?_
  refine lv_iadd hx hb dL_law_223 ?_
  refine l_sld K M (l_in (k := 3) e3 (by omega) hL) hw3 dL_law_224 ?_
  refine l_callI (n := 3) (As := [.int (oI w1), .int (oI w2), .int (oI w3)]) K.2.1 ⟨M.2.1, M.2.2⟩ (fun i j u v hu hv h => hap x' y j i v u hv hu h.symm) M.1 (fun sz => c_X7_waits hfy sz) bw_845 bw_842 bw_843 bw_844 bw_91 rfl (by decide +kernel) 0 rfl rfl ⟨rfl, rfl⟩ ⟨Nat.le_of_ble_eq_true rfl, Nat.le_of_ble_eq_true rfl⟩ hl.1 rfl (Nat.le_of_ble_eq_true rfl) ⟨Nat.le_of_ble_eq_true rfl, Nat.le_of_ble_eq_true rfl⟩ dL_law_225 (fun H locs hP hP2 hS => ?_)
  have M : lmm D T a q A s H locs x' y' := ⟨hP2, hP, hS⟩
  refine lv_icmp_eq (tgt := 1206) hx hb dL_law_228 (by decide) (fun _ => ?_) (fun hc3 => absurd rfl hc3)
  exact hgo x' y' H locs ls hI2 M hl
set_option maxHeartbeats 4000000 in
set_option maxRecDepth 100000 in
theorem law_case3 {Inv : XS → XS → Prop} (hO : (∀ (w1 w2 w3 w4 w5 w6 w7 : Int), rg w1 → rg w2 → rg w3 → rg w4 → rg w5 → rg w6 → rg w7 → stepOK Inv (fun x => f_X6_line x w1 w2 w3 w4 w5 w6 w7) (fun y => f_X7_line y w1 w2 w3 w4 w5 w6 w7))) {D : va_G} {T : ClassId × ClassId} {a q : Nat → Nat} {A : Nat → Prop} {b L : Nat} {xs : Nat → Int32} {p : Program} {l : Launch} {e : Env} {s : State} {m : MethodId} {below : List Frame} {meth : Method} {c : Code} {Q : State → Prop} (K : lcx D T a q A b L xs p s m meth c) (hL : L ≤ 4096) {i : Nat} {x3 : Int32} (hi : i + 8 ≤ L) (e3 : x3 = nI i) {w1 w2 w3 w4 w5 w6 w7 : Int} (hw1 : xs (x3 + 1).toNatClampNeg = oI w1) (hg1 : rg w1) (hw2 : xs (x3 + 2).toNatClampNeg = oI w2) (hg2 : rg w2) (hw3 : xs (x3 + 3).toNatClampNeg = oI w3) (hg3 : rg w3) (hw4 : xs (x3 + 4).toNatClampNeg = oI w4) (hg4 : rg w4) (hw5 : xs (x3 + 5).toNatClampNeg = oI w5) (hg5 : rg w5) (hw6 : xs (x3 + 6).toNatClampNeg = oI w6) (hg6 : rg w6) (hw7 : xs (x3 + 7).toNatClampNeg = oI w7) (hg7 : rg w7) {x y : XS} (hI : Inv x y) {H : Heap} {locs : List Loc} {ls : Array Slot} (M : lmm D T a q A s H locs x y) (hl : lv_has ls 4 [(0, .ref b), (1, .ref (a 0)), (2, .ref (q 0)), (3, .int x3)])
    (hgo : ∀ (x y : XS) (H : Heap) (locs : List Loc) (ls : Array Slot), Inv x y → lmm D T a q A s H locs x y → lv_has ls 4 [(0, .ref b), (1, .ref (a 0)), (2, .ref (q 0)), (3, .int x3)] → W p l e room_1 s m #[Value.ref b] below meth c H locs 70 41445 Q (F0 m 1206 ls [])) : W p l e room_1 s m #[Value.ref b] below meth c H locs 70 41445 Q (F0 m 233 ls []) := by
  have hx := K.1.1
  have hb := K.1.2.1
  have hap := K.2.2.1
  obtain ⟨r, x', y', hfx, hfy, hI2⟩ := hO w1 w2 w3 w4 w5 w6 w7 hg1 hg2 hg3 hg4 hg5 hg6 hg7 x y hI
  refine lv_aload_n hx hb dL_law_233 rfl (lv_at hl 1 rfl) ?_
  refine lv_aload_n hx hb dL_law_234 rfl (lv_at hl 0 rfl) ?_
  refine lv_iload_n hx hb dL_law_235 rfl (lv_at hl 3 rfl) ?_
  refine lv_iconst (v := 1) hx hb dL_law_236 (by decide) ?_
  refine lv_iadd hx hb dL_law_237 ?_
  refine l_sld K M (l_in (k := 1) e3 (by omega) hL) hw1 dL_law_238 ?_
  refine lv_aload_n hx hb dL_law_239 rfl (lv_at hl 0 rfl) ?_
  refine lv_iload_n hx hb dL_law_240 rfl (lv_at hl 3 rfl) ?_
  refine lv_iconst (v := 2) hx hb dL_law_241 (by decide) ?_
  refine lv_iadd hx hb dL_law_242 ?_
  refine l_sld K M (l_in (k := 2) e3 (by omega) hL) hw2 dL_law_243 ?_
  refine lv_aload_n hx hb dL_law_244 rfl (lv_at hl 0 rfl) ?_
  refine lv_iload_n hx hb dL_law_245 rfl (lv_at hl 3 rfl) ?_
  refine lv_iconst (v := 3) hx hb dL_law_246 (by decide) ?_
  refine lv_iadd hx hb dL_law_247 ?_
  refine l_sld K M (l_in (k := 3) e3 (by omega) hL) hw3 dL_law_248 ?_
  refine lv_aload_n hx hb dL_law_249 rfl (lv_at hl 0 rfl) ?_
  refine lv_iload_n hx hb dL_law_250 rfl (lv_at hl 3 rfl) ?_
  refine lv_iconst (v := 4) hx hb dL_law_251 (by decide) ?_
  refine lv_iadd hx hb dL_law_252 ?_
  refine l_sld K M (l_in (k := 4) e3 (by omega) hL) hw4 dL_law_253 ?_
  refine lv_aload_n hx hb dL_law_254 rfl (lv_at hl 0 rfl) ?_
  refine lv_iload_n hx hb dL_law_255 rfl (lv_at hl 3 rfl) ?_
  refine lv_iconst (v := 5) hx hb dL_law_256 (by decide) ?_
  refine lv_iadd hx hb dL_law_257 ?_
  refine l_sld K M (l_in (k := 5) e3 (by omega) hL) hw5 dL_law_258 ?_
  refine lv_aload_n hx hb dL_law_259 rfl (lv_at hl 0 rfl) ?_
  refine lv_iload_n hx hb dL_law_260 rfl (lv_at hl 3 rfl) ?_
  refine lv_bipush (v := 6) hx hb dL_law_261 (by decide) ?_
  refine lv_iadd hx hb dL_law_263 ?_
  refine l_sld K M (l_in (k := 6) e3 (by omega) hL) hw6 dL_law_264 ?_
  refine lv_aload_n hx hb dL_law_265 rfl (lv_at hl 0 rfl) ?_
  refine lv_iload_n hx hb dL_law_266 rfl (lv_at hl 3 rfl) ?_
  refine lv_bipush (v := 7) hx hb dL_law_267 (by decide) ?_
  refine lv_iadd hx hb dL_law_269 ?_
  refine l_sld K M (l_in (k := 7) e3 (by omega) hL) hw7 dL_law_270 ?_
  refine l_callI (n := 7) (As := [.int (oI w1), .int (oI w2), .int (oI w3), .int (oI w4), .int (oI w5), .int (oI w6), .int (oI w7)]) K.1 ⟨M.1, M.2.2⟩ (hap x y) M.2.1 (fun sz => c_X6_line hfx sz) bw_396 bw_393 bw_394 bw_395 bw_84 rfl (by decide +kernel) 0 rfl rfl ⟨rfl, rfl⟩ ⟨Nat.le_of_ble_eq_true rfl, Nat.le_of_ble_eq_true rfl⟩ hl.1 rfl (Nat.le_of_ble_eq_true rfl) ⟨Nat.le_of_ble_eq_true rfl, Nat.le_of_ble_eq_true rfl⟩ dL_law_271 (fun H locs hP hP2 hS => ?_)
  have M : lmm D T a q A s H locs x' y := ⟨hP, hP2, hS⟩
  refine lv_aload_n hx hb dL_law_274 rfl (lv_at hl 2 rfl) ?_
  refine lv_aload_n hx hb dL_law_275 rfl (lv_at hl 0 rfl) ?_
  refine lv_iload_n hx hb dL_law_276 rfl (lv_at hl 3 rfl) ?_
  refine lv_iconst (v := 1) hx hb dL_law_277 (by decide) ?_
  refine lv_iadd hx hb dL_law_278 ?_
  refine l_sld K M (l_in (k := 1) e3 (by omega) hL) hw1 dL_law_279 ?_
  refine lv_aload_n hx hb dL_law_280 rfl (lv_at hl 0 rfl) ?_
  refine lv_iload_n hx hb dL_law_281 rfl (lv_at hl 3 rfl) ?_
  refine lv_iconst (v := 2) hx hb dL_law_282 (by decide) ?_
  refine lv_iadd hx hb dL_law_283 ?_
  refine l_sld K M (l_in (k := 2) e3 (by omega) hL) hw2 dL_law_284 ?_
  refine lv_aload_n hx hb dL_law_285 rfl (lv_at hl 0 rfl) ?_
  refine lv_iload_n hx hb dL_law_286 rfl (lv_at hl 3 rfl) ?_
  refine lv_iconst (v := 3) hx hb dL_law_287 (by decide) ?_
  refine lv_iadd hx hb dL_law_288 ?_
  refine l_sld K M (l_in (k := 3) e3 (by omega) hL) hw3 dL_law_289 ?_
  refine lv_aload_n hx hb dL_law_290 rfl (lv_at hl 0 rfl) ?_
  refine lv_iload_n hx hb dL_law_291 rfl (lv_at hl 3 rfl) ?_
  refine lv_iconst (v := 4) hx hb dL_law_292 (by decide) ?_
  refine lv_iadd hx hb dL_law_293 ?_
  refine l_sld K M (l_in (k := 4) e3 (by omega) hL) hw4 dL_law_294 ?_
  refine lv_aload_n hx hb dL_law_295 rfl (lv_at hl 0 rfl) ?_
  refine lv_iload_n hx hb dL_law_296 rfl (lv_at hl 3 rfl) ?_
  refine lv_iconst (v := 5) hx hb dL_law_297 (by decide) ?_
  refine lv_iadd hx hb dL_law_298 ?_
  refine l_sld K M (l_in (k := 5) e3 (by omega) hL) hw5 dL_law_299 ?_
  refine lv_aload_n hx hb dL_law_300 rfl (lv_at hl 0 rfl) ?_
  refine lv_iload_n hx hb dL_law_301 rfl (lv_at hl 3 rfl) ?_
  refine lv_bipush (v := 6) hx hb dL_law_302 (by decide) ?_
  refine lv_iadd hx hb dL_law_304 ?_
  refine l_sld K M (l_in (k := 6) e3 (by omega) hL) hw6 dL_law_305 ?_
  refine lv_aload_n hx hb dL_law_306 rfl (lv_at hl 0 rfl) ?_
  refine lv_iload_n hx hb dL_law_307 rfl (lv_at hl 3 rfl) ?_
  refine lv_bipush (v := 7) hx hb dL_law_308 (by decide) ?_
  refine lv_iadd hx hb dL_law_310 ?_
  refine l_sld K M (l_in (k := 7) e3 (by omega) hL) hw7 dL_law_311 ?_
  refine l_callI (n := 7) (As := [.int (oI w1), .int (oI w2), .int (oI w3), .int (oI w4), .int (oI w5), .int (oI w6), .int (oI w7)]) K.2.1 ⟨M.2.1, M.2.2⟩ (fun i j u v hu hv h => hap x' y j i v u hv hu h.symm) M.1 (fun sz => c_X7_line hfy sz) bw_857 bw_854 bw_855 bw_856 bw_91 rfl (by decide +kernel) 0 rfl rfl ⟨rfl, rfl⟩ ⟨Nat.le_of_ble_eq_true rfl, Nat.le_of_ble_eq_true rfl⟩ hl.1 rfl (Nat.le_of_ble_eq_true rfl) ⟨Nat.le_of_ble_eq_true rfl, Nat.le_of_ble_eq_true rfl⟩ dL_law_312 (fun H locs hP hP2 hS => ?_)
  have M : lmm D T a q A s H locs x' y' := ⟨hP2, hP, hS⟩
  refine lv_icmp_eq (tgt := 1206) hx hb dL_law_315 (by decide) (fun _ => ?_) (fun hc3 => absurd rfl hc3)
  exact hgo x' y' H locs ls hI2 M hl
set_option maxHeartbeats 4000000 in
set_option maxRecDepth 100000 in
theorem law_case4 {Inv : XS → XS → Prop} (hO : (∀ (w1 : Int), rg w1 → stepOK Inv (fun x => f_X6_strike x w1) (fun y => f_X7_strike y w1))) {D : va_G} {T : ClassId × ClassId} {a q : Nat → Nat} {A : Nat → Prop} {b L : Nat} {xs : Nat → Int32} {p : Program} {l : Launch} {e : Env} {s : State} {m : MethodId} {below : List Frame} {meth : Method} {c : Code} {Q : State → Prop} (K : lcx D T a q A b L xs p s m meth c) (hL : L ≤ 4096) {i : Nat} {x3 : Int32} (hi : i + 8 ≤ L) (e3 : x3 = nI i) {w1 : Int} (hw1 : xs (x3 + 1).toNatClampNeg = oI w1) (hg1 : rg w1) {x y : XS} (hI : Inv x y) {H : Heap} {locs : List Loc} {ls : Array Slot} (M : lmm D T a q A s H locs x y) (hl : lv_has ls 4 [(0, .ref b), (1, .ref (a 0)), (2, .ref (q 0)), (3, .int x3)])
    (hgo : ∀ (x y : XS) (H : Heap) (locs : List Loc) (ls : Array Slot), Inv x y → lmm D T a q A s H locs x y → lv_has ls 4 [(0, .ref b), (1, .ref (a 0)), (2, .ref (q 0)), (3, .int x3)] → W p l e room_1 s m #[Value.ref b] below meth c H locs 70 41445 Q (F0 m 1206 ls [])) : W p l e room_1 s m #[Value.ref b] below meth c H locs 70 41445 Q (F0 m 320 ls []) := by
  have hx := K.1.1
  have hb := K.1.2.1
  have hap := K.2.2.1
  obtain ⟨r, x', y', hfx, hfy, hI2⟩ := hO w1 hg1 x y hI
  refine lv_aload_n hx hb dL_law_320 rfl (lv_at hl 1 rfl) ?_
  refine lv_aload_n hx hb dL_law_321 rfl (lv_at hl 0 rfl) ?_
  refine lv_iload_n hx hb dL_law_322 rfl (lv_at hl 3 rfl) ?_
  refine lv_iconst (v := 1) hx hb dL_law_323 (by decide) ?_
  refine lv_iadd hx hb dL_law_324 ?_
  refine l_sld K M (l_in (k := 1) e3 (by omega) hL) hw1 dL_law_325 ?_
  refine l_callI (n := 1) (As := [.int (oI w1)]) K.1 ⟨M.1, M.2.2⟩ (hap x y) M.2.1 (fun sz => c_X6_strike hfx sz) bw_419 bw_416 bw_417 bw_418 bw_84 rfl (by decide +kernel) 0 rfl rfl ⟨rfl, rfl⟩ ⟨Nat.le_of_ble_eq_true rfl, Nat.le_of_ble_eq_true rfl⟩ hl.1 rfl (Nat.le_of_ble_eq_true rfl) ⟨Nat.le_of_ble_eq_true rfl, Nat.le_of_ble_eq_true rfl⟩ dL_law_326 (fun H locs hP hP2 hS => ?_)
  have M : lmm D T a q A s H locs x' y := ⟨hP, hP2, hS⟩
  refine lv_aload_n hx hb dL_law_329 rfl (lv_at hl 2 rfl) ?_
  refine lv_aload_n hx hb dL_law_330 rfl (lv_at hl 0 rfl) ?_
  refine lv_iload_n hx hb dL_law_331 rfl (lv_at hl 3 rfl) ?_
  refine lv_iconst (v := 1) hx hb dL_law_332 (by decide) ?_
  refine lv_iadd hx hb dL_law_333 ?_
  refine l_sld K M (l_in (k := 1) e3 (by omega) hL) hw1 dL_law_334 ?_
  refine l_callI (n := 1) (As := [.int (oI w1)]) K.2.1 ⟨M.2.1, M.2.2⟩ (fun i j u v hu hv h => hap x' y j i v u hv hu h.symm) M.1 (fun sz => c_X7_strike hfy sz) bw_868 bw_865 bw_866 bw_867 bw_91 rfl (by decide +kernel) 0 rfl rfl ⟨rfl, rfl⟩ ⟨Nat.le_of_ble_eq_true rfl, Nat.le_of_ble_eq_true rfl⟩ hl.1 rfl (Nat.le_of_ble_eq_true rfl) ⟨Nat.le_of_ble_eq_true rfl, Nat.le_of_ble_eq_true rfl⟩ dL_law_335 (fun H locs hP hP2 hS => ?_)
  have M : lmm D T a q A s H locs x' y' := ⟨hP2, hP, hS⟩
  refine lv_icmp_eq (tgt := 1206) hx hb dL_law_338 (by decide) (fun _ => ?_) (fun hc3 => absurd rfl hc3)
  exact hgo x' y' H locs ls hI2 M hl
set_option maxHeartbeats 4000000 in
set_option maxRecDepth 100000 in
theorem law_case5 {Inv : XS → XS → Prop} (hO : (∀ (w1 w2 w3 : Int), rg w1 → rg w2 → rg w3 → stepOK Inv (fun x => f_X6_delay x w1 w2 w3) (fun y => f_X7_delay y w1 w2 w3))) {D : va_G} {T : ClassId × ClassId} {a q : Nat → Nat} {A : Nat → Prop} {b L : Nat} {xs : Nat → Int32} {p : Program} {l : Launch} {e : Env} {s : State} {m : MethodId} {below : List Frame} {meth : Method} {c : Code} {Q : State → Prop} (K : lcx D T a q A b L xs p s m meth c) (hL : L ≤ 4096) {i : Nat} {x3 : Int32} (hi : i + 8 ≤ L) (e3 : x3 = nI i) {w1 w2 w3 : Int} (hw1 : xs (x3 + 1).toNatClampNeg = oI w1) (hg1 : rg w1) (hw2 : xs (x3 + 2).toNatClampNeg = oI w2) (hg2 : rg w2) (hw3 : xs (x3 + 3).toNatClampNeg = oI w3) (hg3 : rg w3) {x y : XS} (hI : Inv x y) {H : Heap} {locs : List Loc} {ls : Array Slot} (M : lmm D T a q A s H locs x y) (hl : lv_has ls 4 [(0, .ref b), (1, .ref (a 0)), (2, .ref (q 0)), (3, .int x3)])
    (hgo : ∀ (x y : XS) (H : Heap) (locs : List Loc) (ls : Array Slot), Inv x y → lmm D T a q A s H locs x y → lv_has ls 4 [(0, .ref b), (1, .ref (a 0)), (2, .ref (q 0)), (3, .int x3)] → W p l e room_1 s m #[Value.ref b] below meth c H locs 70 41445 Q (F0 m 1206 ls [])) : W p l e room_1 s m #[Value.ref b] below meth c H locs 70 41445 Q (F0 m 343 ls []) := by
  have hx := K.1.1
  have hb := K.1.2.1
  have hap := K.2.2.1
  obtain ⟨r, x', y', hfx, hfy, hI2⟩ := hO w1 w2 w3 hg1 hg2 hg3 x y hI
  refine lv_aload_n hx hb dL_law_343 rfl (lv_at hl 1 rfl) ?_
  refine lv_aload_n hx hb dL_law_344 rfl (lv_at hl 0 rfl) ?_
  refine lv_iload_n hx hb dL_law_345 rfl (lv_at hl 3 rfl) ?_
  refine lv_iconst (v := 1) hx hb dL_law_346 (by decide) ?_
  refine lv_iadd hx hb dL_law_347 ?_
  refine l_sld K M (l_in (k := 1) e3 (by omega) hL) hw1 dL_law_348 ?_
  refine lv_aload_n hx hb dL_law_349 rfl (lv_at hl 0 rfl) ?_
  refine lv_iload_n hx hb dL_law_350 rfl (lv_at hl 3 rfl) ?_
  refine lv_iconst (v := 2) hx hb dL_law_351 (by decide) ?_
  refine lv_iadd hx hb dL_law_352 ?_
  refine l_sld K M (l_in (k := 2) e3 (by omega) hL) hw2 dL_law_353 ?_
  refine lv_aload_n hx hb dL_law_354 rfl (lv_at hl 0 rfl) ?_
  refine lv_iload_n hx hb dL_law_355 rfl (lv_at hl 3 rfl) ?_
  refine lv_iconst (v := 3) hx hb dL_law_356 (by decide) ?_
  refine lv_iadd hx hb dL_law_357 ?_
  refine l_sld K M (l_in (k := 3) e3 (by omega) hL) hw3 dL_law_358 ?_
  refine l_callI (n := 3) (As := [.int (oI w1), .int (oI w2), .int (oI w3)]) K.1 ⟨M.1, M.2.2⟩ (hap x y) M.2.1 (fun sz => c_X6_delay hfx sz) bw_427 bw_424 bw_425 bw_426 bw_84 rfl (by decide +kernel) 0 rfl rfl ⟨rfl, rfl⟩ ⟨Nat.le_of_ble_eq_true rfl, Nat.le_of_ble_eq_true rfl⟩ hl.1 rfl (Nat.le_of_ble_eq_true rfl) ⟨Nat.le_of_ble_eq_true rfl, Nat.le_of_ble_eq_true rfl⟩ dL_law_359 (fun H locs hP hP2 hS => ?_)
  have M : lmm D T a q A s H locs x' y := ⟨hP, hP2, hS⟩
  refine lv_aload_n hx hb dL_law_362 rfl (lv_at hl 2 rfl) ?_
  refine lv_aload_n hx hb dL_law_363 rfl (lv_at hl 0 rfl) ?_
  refine lv_iload_n hx hb dL_law_364 rfl (lv_at hl 3 rfl) ?_
  refine lv_iconst (v := 1) hx hb dL_law_365 (by decide) ?_
  refine lv_iadd hx hb dL_law_366 ?_
  refine l_sld K M (l_in (k := 1) e3 (by omega) hL) hw1 dL_law_367 ?_
  refine lv_aload_n hx hb dL_law_368 rfl (lv_at hl 0 rfl) ?_
  refine lv_iload_n hx hb dL_law_369 rfl (lv_at hl 3 rfl) ?_
  refine lv_iconst (v := 2) hx hb dL_law_370 (by decide) ?_
  refine lv_iadd hx hb dL_law_371 ?_
  refine l_sld K M (l_in (k := 2) e3 (by omega) hL) hw2 dL_law_372 ?_
  refine lv_aload_n hx hb dL_law_373 rfl (lv_at hl 0 rfl) ?_
  refine lv_iload_n hx hb dL_law_374 rfl (lv_at hl 3 rfl) ?_
  refine lv_iconst (v := 3) hx hb dL_law_375 (by decide) ?_
  refine lv_iadd hx hb dL_law_376 ?_
  refine l_sld K M (l_in (k := 3) e3 (by omega) hL) hw3 dL_law_377 ?_
  refine l_callI (n := 3) (As := [.int (oI w1), .int (oI w2), .int (oI w3)]) K.2.1 ⟨M.2.1, M.2.2⟩ (fun i j u v hu hv h => hap x' y j i v u hv hu h.symm) M.1 (fun sz => c_X7_delay hfy sz) bw_880 bw_877 bw_878 bw_879 bw_91 rfl (by decide +kernel) 0 rfl rfl ⟨rfl, rfl⟩ ⟨Nat.le_of_ble_eq_true rfl, Nat.le_of_ble_eq_true rfl⟩ hl.1 rfl (Nat.le_of_ble_eq_true rfl) ⟨Nat.le_of_ble_eq_true rfl, Nat.le_of_ble_eq_true rfl⟩ dL_law_378 (fun H locs hP hP2 hS => ?_)
  have M : lmm D T a q A s H locs x' y' := ⟨hP2, hP, hS⟩
  refine lv_icmp_eq (tgt := 1206) hx hb dL_law_381 (by decide) (fun _ => ?_) (fun hc3 => absurd rfl hc3)
  exact hgo x' y' H locs ls hI2 M hl
set_option maxHeartbeats 4000000 in
set_option maxRecDepth 100000 in
theorem law_case6 {Inv : XS → XS → Prop} (hO : (∀ (w1 w2 w3 : Int), rg w1 → rg w2 → rg w3 → stepOK Inv (fun x => f_X6_close x w1 w2 w3) (fun y => f_X7_close y w1 w2 w3))) {D : va_G} {T : ClassId × ClassId} {a q : Nat → Nat} {A : Nat → Prop} {b L : Nat} {xs : Nat → Int32} {p : Program} {l : Launch} {e : Env} {s : State} {m : MethodId} {below : List Frame} {meth : Method} {c : Code} {Q : State → Prop} (K : lcx D T a q A b L xs p s m meth c) (hL : L ≤ 4096) {i : Nat} {x3 : Int32} (hi : i + 8 ≤ L) (e3 : x3 = nI i) {w1 w2 w3 : Int} (hw1 : xs (x3 + 1).toNatClampNeg = oI w1) (hg1 : rg w1) (hw2 : xs (x3 + 2).toNatClampNeg = oI w2) (hg2 : rg w2) (hw3 : xs (x3 + 3).toNatClampNeg = oI w3) (hg3 : rg w3) {x y : XS} (hI : Inv x y) {H : Heap} {locs : List Loc} {ls : Array Slot} (M : lmm D T a q A s H locs x y) (hl : lv_has ls 4 [(0, .ref b), (1, .ref (a 0)), (2, .ref (q 0)), (3, .int x3)])
    (hgo : ∀ (x y : XS) (H : Heap) (locs : List Loc) (ls : Array Slot), Inv x y → lmm D T a q A s H locs x y → lv_has ls 4 [(0, .ref b), (1, .ref (a 0)), (2, .ref (q 0)), (3, .int x3)] → W p l e room_1 s m #[Value.ref b] below meth c H locs 70 41445 Q (F0 m 1206 ls [])) : W p l e room_1 s m #[Value.ref b] below meth c H locs 70 41445 Q (F0 m 386 ls []) := by
  have hx := K.1.1
  have hb := K.1.2.1
  have hap := K.2.2.1
  obtain ⟨r, x', y', hfx, hfy, hI2⟩ := hO w1 w2 w3 hg1 hg2 hg3 x y hI
  refine lv_aload_n hx hb dL_law_386 rfl (lv_at hl 1 rfl) ?_
  refine lv_aload_n hx hb dL_law_387 rfl (lv_at hl 0 rfl) ?_
  refine lv_iload_n hx hb dL_law_388 rfl (lv_at hl 3 rfl) ?_
  refine lv_iconst (v := 1) hx hb dL_law_389 (by decide) ?_
  refine lv_iadd hx hb dL_law_390 ?_
  refine l_sld K M (l_in (k := 1) e3 (by omega) hL) hw1 dL_law_391 ?_
  refine lv_aload_n hx hb dL_law_392 rfl (lv_at hl 0 rfl) ?_
  refine lv_iload_n hx hb dL_law_393 rfl (lv_at hl 3 rfl) ?_
  refine lv_iconst (v := 2) hx hb dL_law_394 (by decide) ?_
  refine lv_iadd hx hb dL_law_395 ?_
  refine l_sld K M (l_in (k := 2) e3 (by omega) hL) hw2 dL_law_396 ?_
  refine lv_aload_n hx hb dL_law_397 rfl (lv_at hl 0 rfl) ?_
  refine lv_iload_n hx hb dL_law_398 rfl (lv_at hl 3 rfl) ?_
  refine lv_iconst (v := 3) hx hb dL_law_399 (by decide) ?_
  refine lv_iadd hx hb dL_law_400 ?_
  refine l_sld K M (l_in (k := 3) e3 (by omega) hL) hw3 dL_law_401 ?_
  refine l_callI (n := 3) (As := [.int (oI w1), .int (oI w2), .int (oI w3)]) K.1 ⟨M.1, M.2.2⟩ (hap x y) M.2.1 (fun sz => c_X6_close hfx sz) bw_431 bw_428 bw_429 bw_430 bw_84 rfl (by decide +kernel) 0 rfl rfl ⟨rfl, rfl⟩ ⟨Nat.le_of_ble_eq_true rfl, Nat.le_of_ble_eq_true rfl⟩ hl.1 rfl (Nat.le_of_ble_eq_true rfl) ⟨Nat.le_of_ble_eq_true rfl, Nat.le_of_ble_eq_true rfl⟩ dL_law_402 (fun H locs hP hP2 hS => ?_)
  have M : lmm D T a q A s H locs x' y := ⟨hP, hP2, hS⟩
  refine lv_aload_n hx hb dL_law_405 rfl (lv_at hl 2 rfl) ?_
  refine lv_aload_n hx hb dL_law_406 rfl (lv_at hl 0 rfl) ?_
  refine lv_iload_n hx hb dL_law_407 rfl (lv_at hl 3 rfl) ?_
  refine lv_iconst (v := 1) hx hb dL_law_408 (by decide) ?_
  refine lv_iadd hx hb dL_law_409 ?_
  refine l_sld K M (l_in (k := 1) e3 (by omega) hL) hw1 dL_law_410 ?_
  refine lv_aload_n hx hb dL_law_411 rfl (lv_at hl 0 rfl) ?_
  refine lv_iload_n hx hb dL_law_412 rfl (lv_at hl 3 rfl) ?_
  refine lv_iconst (v := 2) hx hb dL_law_413 (by decide) ?_
  refine lv_iadd hx hb dL_law_414 ?_
  refine l_sld K M (l_in (k := 2) e3 (by omega) hL) hw2 dL_law_415 ?_
  refine lv_aload_n hx hb dL_law_416 rfl (lv_at hl 0 rfl) ?_
  refine lv_iload_n hx hb dL_law_417 rfl (lv_at hl 3 rfl) ?_
  refine lv_iconst (v := 3) hx hb dL_law_418 (by decide) ?_
  refine lv_iadd hx hb dL_law_419 ?_
  refine l_sld K M (l_in (k := 3) e3 (by omega) hL) hw3 dL_law_420 ?_
  refine l_callI (n := 3) (As := [.int (oI w1), .int (oI w2), .int (oI w3)]) K.2.1 ⟨M.2.1, M.2.2⟩ (fun i j u v hu hv h => hap x' y j i v u hv hu h.symm) M.1 (fun sz => c_X7_close hfy sz) bw_884 bw_881 bw_882 bw_883 bw_91 rfl (by decide +kernel) 0 rfl rfl ⟨rfl, rfl⟩ ⟨Nat.le_of_ble_eq_true rfl, Nat.le_of_ble_eq_true rfl⟩ hl.1 rfl (Nat.le_of_ble_eq_true rfl) ⟨Nat.le_of_ble_eq_true rfl, Nat.le_of_ble_eq_true rfl⟩ dL_law_421 (fun H locs hP hP2 hS => ?_)
  have M : lmm D T a q A s H locs x' y' := ⟨hP2, hP, hS⟩
  refine lv_icmp_eq (tgt := 1206) hx hb dL_law_424 (by decide) (fun _ => ?_) (fun hc3 => absurd rfl hc3)
  exact hgo x' y' H locs ls hI2 M hl
set_option maxHeartbeats 4000000 in
set_option maxRecDepth 100000 in
theorem law_case7 {Inv : XS → XS → Prop} (hO : (stepOK Inv (fun x => f_X6_changes x) (fun y => f_X7_changes y))) {D : va_G} {T : ClassId × ClassId} {a q : Nat → Nat} {A : Nat → Prop} {b L : Nat} {xs : Nat → Int32} {p : Program} {l : Launch} {e : Env} {s : State} {m : MethodId} {below : List Frame} {meth : Method} {c : Code} {Q : State → Prop} (K : lcx D T a q A b L xs p s m meth c) (hL : L ≤ 4096) {i : Nat} {x3 : Int32} (hi : i + 8 ≤ L) (e3 : x3 = nI i)  {x y : XS} (hI : Inv x y) {H : Heap} {locs : List Loc} {ls : Array Slot} (M : lmm D T a q A s H locs x y) (hl : lv_has ls 4 [(0, .ref b), (1, .ref (a 0)), (2, .ref (q 0)), (3, .int x3)])
    (hgo : ∀ (x y : XS) (H : Heap) (locs : List Loc) (ls : Array Slot), Inv x y → lmm D T a q A s H locs x y → lv_has ls 4 [(0, .ref b), (1, .ref (a 0)), (2, .ref (q 0)), (3, .int x3)] → W p l e room_1 s m #[Value.ref b] below meth c H locs 70 41445 Q (F0 m 1206 ls [])) : W p l e room_1 s m #[Value.ref b] below meth c H locs 70 41445 Q (F0 m 429 ls []) := by
  have hx := K.1.1
  have hb := K.1.2.1
  have hap := K.2.2.1
  obtain ⟨r, x', y', hfx, hfy, hI2⟩ := hO   x y hI
  refine lv_aload_n hx hb dL_law_429 rfl (lv_at hl 1 rfl) ?_
  refine l_callI (n := 0) (As := []) K.1 ⟨M.1, M.2.2⟩ (hap x y) M.2.1 (fun sz => c_X6_changes hfx sz) bw_438 bw_435 bw_436 bw_437 bw_84 rfl (by decide +kernel) 0 rfl rfl ⟨rfl, rfl⟩ ⟨Nat.le_of_ble_eq_true rfl, Nat.le_of_ble_eq_true rfl⟩ hl.1 rfl (Nat.le_of_ble_eq_true rfl) ⟨Nat.le_of_ble_eq_true rfl, Nat.le_of_ble_eq_true rfl⟩ dL_law_430 (fun H locs hP hP2 hS => ?_)
  have M : lmm D T a q A s H locs x' y := ⟨hP, hP2, hS⟩
  refine lv_aload_n hx hb dL_law_433 rfl (lv_at hl 2 rfl) ?_
  refine l_callI (n := 0) (As := []) K.2.1 ⟨M.2.1, M.2.2⟩ (fun i j u v hu hv h => hap x' y j i v u hv hu h.symm) M.1 (fun sz => c_X7_changes hfy sz) bw_888 bw_885 bw_886 bw_887 bw_91 rfl (by decide +kernel) 0 rfl rfl ⟨rfl, rfl⟩ ⟨Nat.le_of_ble_eq_true rfl, Nat.le_of_ble_eq_true rfl⟩ hl.1 rfl (Nat.le_of_ble_eq_true rfl) ⟨Nat.le_of_ble_eq_true rfl, Nat.le_of_ble_eq_true rfl⟩ dL_law_434 (fun H locs hP hP2 hS => ?_)
  have M : lmm D T a q A s H locs x' y' := ⟨hP2, hP, hS⟩
  refine lv_icmp_eq (tgt := 1206) hx hb dL_law_437 (by decide) (fun _ => ?_) (fun hc3 => absurd rfl hc3)
  exact hgo x' y' H locs ls hI2 M hl
set_option maxHeartbeats 4000000 in
set_option maxRecDepth 100000 in
theorem law_case8 {Inv : XS → XS → Prop} (hO : (stepOK Inv (fun x => f_X6_undo x) (fun y => f_X7_undo y))) {D : va_G} {T : ClassId × ClassId} {a q : Nat → Nat} {A : Nat → Prop} {b L : Nat} {xs : Nat → Int32} {p : Program} {l : Launch} {e : Env} {s : State} {m : MethodId} {below : List Frame} {meth : Method} {c : Code} {Q : State → Prop} (K : lcx D T a q A b L xs p s m meth c) (hL : L ≤ 4096) {i : Nat} {x3 : Int32} (hi : i + 8 ≤ L) (e3 : x3 = nI i)  {x y : XS} (hI : Inv x y) {H : Heap} {locs : List Loc} {ls : Array Slot} (M : lmm D T a q A s H locs x y) (hl : lv_has ls 4 [(0, .ref b), (1, .ref (a 0)), (2, .ref (q 0)), (3, .int x3)])
    (hgo : ∀ (x y : XS) (H : Heap) (locs : List Loc) (ls : Array Slot), Inv x y → lmm D T a q A s H locs x y → lv_has ls 4 [(0, .ref b), (1, .ref (a 0)), (2, .ref (q 0)), (3, .int x3)] → W p l e room_1 s m #[Value.ref b] below meth c H locs 70 41445 Q (F0 m 1206 ls [])) : W p l e room_1 s m #[Value.ref b] below meth c H locs 70 41445 Q (F0 m 442 ls []) := by
  have hx := K.1.1
  have hb := K.1.2.1
  have hap := K.2.2.1
  obtain ⟨r, x', y', hfx, hfy, hI2⟩ := hO   x y hI
  refine lv_aload_n hx hb dL_law_442 rfl (lv_at hl 1 rfl) ?_
  refine l_callI (n := 0) (As := []) K.1 ⟨M.1, M.2.2⟩ (hap x y) M.2.1 (fun sz => c_X6_undo hfx sz) bw_442 bw_439 bw_440 bw_441 bw_84 rfl (by decide +kernel) 0 rfl rfl ⟨rfl, rfl⟩ ⟨Nat.le_of_ble_eq_true rfl, Nat.le_of_ble_eq_true rfl⟩ hl.1 rfl (Nat.le_of_ble_eq_true rfl) ⟨Nat.le_of_ble_eq_true rfl, Nat.le_of_ble_eq_true rfl⟩ dL_law_443 (fun H locs hP hP2 hS => ?_)
  have M : lmm D T a q A s H locs x' y := ⟨hP, hP2, hS⟩
  refine lv_aload_n hx hb dL_law_446 rfl (lv_at hl 2 rfl) ?_
  refine l_callI (n := 0) (As := []) K.2.1 ⟨M.2.1, M.2.2⟩ (fun i j u v hu hv h => hap x' y j i v u hv hu h.symm) M.1 (fun sz => c_X7_undo hfy sz) bw_892 bw_889 bw_890 bw_891 bw_91 rfl (by decide +kernel) 0 rfl rfl ⟨rfl, rfl⟩ ⟨Nat.le_of_ble_eq_true rfl, Nat.le_of_ble_eq_true rfl⟩ hl.1 rfl (Nat.le_of_ble_eq_true rfl) ⟨Nat.le_of_ble_eq_true rfl, Nat.le_of_ble_eq_true rfl⟩ dL_law_447 (fun H locs hP hP2 hS => ?_)
  have M : lmm D T a q A s H locs x' y' := ⟨hP2, hP, hS⟩
  refine lv_icmp_eq (tgt := 1206) hx hb dL_law_450 (by decide) (fun _ => ?_) (fun hc3 => absurd rfl hc3)
  exact hgo x' y' H locs ls hI2 M hl
set_option maxHeartbeats 4000000 in
set_option maxRecDepth 100000 in
theorem law_case9 {Inv : XS → XS → Prop} (hO : (∀ (w1 w2 : Int), rg w1 → rg w2 → stepOK Inv (fun x => f_X6_told x w1 w2) (fun y => f_X7_told y w1 w2))) {D : va_G} {T : ClassId × ClassId} {a q : Nat → Nat} {A : Nat → Prop} {b L : Nat} {xs : Nat → Int32} {p : Program} {l : Launch} {e : Env} {s : State} {m : MethodId} {below : List Frame} {meth : Method} {c : Code} {Q : State → Prop} (K : lcx D T a q A b L xs p s m meth c) (hL : L ≤ 4096) {i : Nat} {x3 : Int32} (hi : i + 8 ≤ L) (e3 : x3 = nI i) {w1 w2 : Int} (hw1 : xs (x3 + 1).toNatClampNeg = oI w1) (hg1 : rg w1) (hw2 : xs (x3 + 2).toNatClampNeg = oI w2) (hg2 : rg w2) {x y : XS} (hI : Inv x y) {H : Heap} {locs : List Loc} {ls : Array Slot} (M : lmm D T a q A s H locs x y) (hl : lv_has ls 4 [(0, .ref b), (1, .ref (a 0)), (2, .ref (q 0)), (3, .int x3)])
    (hgo : ∀ (x y : XS) (H : Heap) (locs : List Loc) (ls : Array Slot), Inv x y → lmm D T a q A s H locs x y → lv_has ls 4 [(0, .ref b), (1, .ref (a 0)), (2, .ref (q 0)), (3, .int x3)] → W p l e room_1 s m #[Value.ref b] below meth c H locs 70 41445 Q (F0 m 1206 ls [])) : W p l e room_1 s m #[Value.ref b] below meth c H locs 70 41445 Q (F0 m 455 ls []) := by
  have hx := K.1.1
  have hb := K.1.2.1
  have hap := K.2.2.1
  obtain ⟨r, x', y', hfx, hfy, hI2⟩ := hO w1 w2 hg1 hg2 x y hI
  refine lv_aload_n hx hb dL_law_455 rfl (lv_at hl 1 rfl) ?_
  refine lv_aload_n hx hb dL_law_456 rfl (lv_at hl 0 rfl) ?_
  refine lv_iload_n hx hb dL_law_457 rfl (lv_at hl 3 rfl) ?_
  refine lv_iconst (v := 1) hx hb dL_law_458 (by decide) ?_
  refine lv_iadd hx hb dL_law_459 ?_
  refine l_sld K M (l_in (k := 1) e3 (by omega) hL) hw1 dL_law_460 ?_
  refine lv_aload_n hx hb dL_law_461 rfl (lv_at hl 0 rfl) ?_
  refine lv_iload_n hx hb dL_law_462 rfl (lv_at hl 3 rfl) ?_
  refine lv_iconst (v := 2) hx hb dL_law_463 (by decide) ?_
  refine lv_iadd hx hb dL_law_464 ?_
  refine l_sld K M (l_in (k := 2) e3 (by omega) hL) hw2 dL_law_465 ?_
  refine l_callI (n := 2) (As := [.int (oI w1), .int (oI w2)]) K.1 ⟨M.1, M.2.2⟩ (hap x y) M.2.1 (fun sz => c_X6_told hfx sz) bw_458 bw_455 bw_456 bw_457 bw_84 rfl (by decide +kernel) 0 rfl rfl ⟨rfl, rfl⟩ ⟨Nat.le_of_ble_eq_true rfl, Nat.le_of_ble_eq_true rfl⟩ hl.1 rfl (Nat.le_of_ble_eq_true rfl) ⟨Nat.le_of_ble_eq_true rfl, Nat.le_of_ble_eq_true rfl⟩ dL_law_466 (fun H locs hP hP2 hS => ?_)
  have M : lmm D T a q A s H locs x' y := ⟨hP, hP2, hS⟩
  refine lv_aload_n hx hb dL_law_469 rfl (lv_at hl 2 rfl) ?_
  refine lv_aload_n hx hb dL_law_470 rfl (lv_at hl 0 rfl) ?_
  refine lv_iload_n hx hb dL_law_471 rfl (lv_at hl 3 rfl) ?_
  refine lv_iconst (v := 1) hx hb dL_law_472 (by decide) ?_
  refine lv_iadd hx hb dL_law_473 ?_
  refine l_sld K M (l_in (k := 1) e3 (by omega) hL) hw1 dL_law_474 ?_
  refine lv_aload_n hx hb dL_law_475 rfl (lv_at hl 0 rfl) ?_
  refine lv_iload_n hx hb dL_law_476 rfl (lv_at hl 3 rfl) ?_
  refine lv_iconst (v := 2) hx hb dL_law_477 (by decide) ?_
  refine lv_iadd hx hb dL_law_478 ?_
  refine l_sld K M (l_in (k := 2) e3 (by omega) hL) hw2 dL_law_479 ?_
  refine l_callI (n := 2) (As := [.int (oI w1), .int (oI w2)]) K.2.1 ⟨M.2.1, M.2.2⟩ (fun i j u v hu hv h => hap x' y j i v u hv hu h.symm) M.1 (fun sz => c_X7_told hfy sz) bw_896 bw_893 bw_894 bw_895 bw_91 rfl (by decide +kernel) 0 rfl rfl ⟨rfl, rfl⟩ ⟨Nat.le_of_ble_eq_true rfl, Nat.le_of_ble_eq_true rfl⟩ hl.1 rfl (Nat.le_of_ble_eq_true rfl) ⟨Nat.le_of_ble_eq_true rfl, Nat.le_of_ble_eq_true rfl⟩ dL_law_480 (fun H locs hP hP2 hS => ?_)
  have M : lmm D T a q A s H locs x' y' := ⟨hP2, hP, hS⟩
  refine lv_icmp_eq (tgt := 1206) hx hb dL_law_483 (by decide) (fun _ => ?_) (fun hc3 => absurd rfl hc3)
  exact hgo x' y' H locs ls hI2 M hl
set_option maxHeartbeats 4000000 in
set_option maxRecDepth 100000 in
theorem law_case10 {Inv : XS → XS → Prop} (hO : (∀ (w1 w2 w3 w4 : Int), rg w1 → rg w2 → rg w3 → rg w4 → stepOK Inv (fun x => f_X6_run x w1 w2 w3 w4) (fun y => f_X7_run y w1 w2 w3 w4))) {D : va_G} {T : ClassId × ClassId} {a q : Nat → Nat} {A : Nat → Prop} {b L : Nat} {xs : Nat → Int32} {p : Program} {l : Launch} {e : Env} {s : State} {m : MethodId} {below : List Frame} {meth : Method} {c : Code} {Q : State → Prop} (K : lcx D T a q A b L xs p s m meth c) (hL : L ≤ 4096) {i : Nat} {x3 : Int32} (hi : i + 8 ≤ L) (e3 : x3 = nI i) {w1 w2 w3 w4 : Int} (hw1 : xs (x3 + 1).toNatClampNeg = oI w1) (hg1 : rg w1) (hw2 : xs (x3 + 2).toNatClampNeg = oI w2) (hg2 : rg w2) (hw3 : xs (x3 + 3).toNatClampNeg = oI w3) (hg3 : rg w3) (hw4 : xs (x3 + 4).toNatClampNeg = oI w4) (hg4 : rg w4) {x y : XS} (hI : Inv x y) {H : Heap} {locs : List Loc} {ls : Array Slot} (M : lmm D T a q A s H locs x y) (hl : lv_has ls 4 [(0, .ref b), (1, .ref (a 0)), (2, .ref (q 0)), (3, .int x3)])
    (hgo : ∀ (x y : XS) (H : Heap) (locs : List Loc) (ls : Array Slot), Inv x y → lmm D T a q A s H locs x y → lv_has ls 4 [(0, .ref b), (1, .ref (a 0)), (2, .ref (q 0)), (3, .int x3)] → W p l e room_1 s m #[Value.ref b] below meth c H locs 70 41445 Q (F0 m 1206 ls [])) : W p l e room_1 s m #[Value.ref b] below meth c H locs 70 41445 Q (F0 m 488 ls []) := by
  have hx := K.1.1
  have hb := K.1.2.1
  have hap := K.2.2.1
  obtain ⟨r, x', y', hfx, hfy, hI2⟩ := hO w1 w2 w3 w4 hg1 hg2 hg3 hg4 x y hI
  refine lv_aload_n hx hb dL_law_488 rfl (lv_at hl 1 rfl) ?_
  refine lv_aload_n hx hb dL_law_489 rfl (lv_at hl 0 rfl) ?_
  refine lv_iload_n hx hb dL_law_490 rfl (lv_at hl 3 rfl) ?_
  refine lv_iconst (v := 1) hx hb dL_law_491 (by decide) ?_
  refine lv_iadd hx hb dL_law_492 ?_
  refine l_sld K M (l_in (k := 1) e3 (by omega) hL) hw1 dL_law_493 ?_
  refine lv_aload_n hx hb dL_law_494 rfl (lv_at hl 0 rfl) ?_
  refine lv_iload_n hx hb dL_law_495 rfl (lv_at hl 3 rfl) ?_
  refine lv_iconst (v := 2) hx hb dL_law_496 (by decide) ?_
  refine lv_iadd hx hb dL_law_497 ?_
  refine l_sld K M (l_in (k := 2) e3 (by omega) hL) hw2 dL_law_498 ?_
  refine lv_aload_n hx hb dL_law_499 rfl (lv_at hl 0 rfl) ?_
  refine lv_iload_n hx hb dL_law_500 rfl (lv_at hl 3 rfl) ?_
  refine lv_iconst (v := 3) hx hb dL_law_501 (by decide) ?_
  refine lv_iadd hx hb dL_law_502 ?_
  refine l_sld K M (l_in (k := 3) e3 (by omega) hL) hw3 dL_law_503 ?_
  refine lv_aload_n hx hb dL_law_504 rfl (lv_at hl 0 rfl) ?_
  refine lv_iload_n hx hb dL_law_505 rfl (lv_at hl 3 rfl) ?_
  refine lv_iconst (v := 4) hx hb dL_law_506 (by decide) ?_
  refine lv_iadd hx hb dL_law_507 ?_
  refine l_sld K M (l_in (k := 4) e3 (by omega) hL) hw4 dL_law_508 ?_
  refine l_callI (n := 4) (As := [.int (oI w1), .int (oI w2), .int (oI w3), .int (oI w4)]) K.1 ⟨M.1, M.2.2⟩ (hap x y) M.2.1 (fun sz => c_X6_run hfx sz) bw_466 bw_463 bw_464 bw_465 bw_84 rfl (by decide +kernel) 0 rfl rfl ⟨rfl, rfl⟩ ⟨Nat.le_of_ble_eq_true rfl, Nat.le_of_ble_eq_true rfl⟩ hl.1 rfl (Nat.le_of_ble_eq_true rfl) ⟨Nat.le_of_ble_eq_true rfl, Nat.le_of_ble_eq_true rfl⟩ dL_law_509 (fun H locs hP hP2 hS => ?_)
  have M : lmm D T a q A s H locs x' y := ⟨hP, hP2, hS⟩
  refine lv_aload_n hx hb dL_law_512 rfl (lv_at hl 2 rfl) ?_
  refine lv_aload_n hx hb dL_law_513 rfl (lv_at hl 0 rfl) ?_
  refine lv_iload_n hx hb dL_law_514 rfl (lv_at hl 3 rfl) ?_
  refine lv_iconst (v := 1) hx hb dL_law_515 (by decide) ?_
  refine lv_iadd hx hb dL_law_516 ?_
  refine l_sld K M (l_in (k := 1) e3 (by omega) hL) hw1 dL_law_517 ?_
  refine lv_aload_n hx hb dL_law_518 rfl (lv_at hl 0 rfl) ?_
  refine lv_iload_n hx hb dL_law_519 rfl (lv_at hl 3 rfl) ?_
  refine lv_iconst (v := 2) hx hb dL_law_520 (by decide) ?_
  refine lv_iadd hx hb dL_law_521 ?_
  refine l_sld K M (l_in (k := 2) e3 (by omega) hL) hw2 dL_law_522 ?_
  refine lv_aload_n hx hb dL_law_523 rfl (lv_at hl 0 rfl) ?_
  refine lv_iload_n hx hb dL_law_524 rfl (lv_at hl 3 rfl) ?_
  refine lv_iconst (v := 3) hx hb dL_law_525 (by decide) ?_
  refine lv_iadd hx hb dL_law_526 ?_
  refine l_sld K M (l_in (k := 3) e3 (by omega) hL) hw3 dL_law_527 ?_
  refine lv_aload_n hx hb dL_law_528 rfl (lv_at hl 0 rfl) ?_
  refine lv_iload_n hx hb dL_law_529 rfl (lv_at hl 3 rfl) ?_
  refine lv_iconst (v := 4) hx hb dL_law_530 (by decide) ?_
  refine lv_iadd hx hb dL_law_531 ?_
  refine l_sld K M (l_in (k := 4) e3 (by omega) hL) hw4 dL_law_532 ?_
  refine l_callI (n := 4) (As := [.int (oI w1), .int (oI w2), .int (oI w3), .int (oI w4)]) K.2.1 ⟨M.2.1, M.2.2⟩ (fun i j u v hu hv h => hap x' y j i v u hv hu h.symm) M.1 (fun sz => c_X7_run hfy sz) bw_1011 bw_1008 bw_1009 bw_1010 bw_91 rfl (by decide +kernel) 0 rfl rfl ⟨rfl, rfl⟩ ⟨Nat.le_of_ble_eq_true rfl, Nat.le_of_ble_eq_true rfl⟩ hl.1 rfl (Nat.le_of_ble_eq_true rfl) ⟨Nat.le_of_ble_eq_true rfl, Nat.le_of_ble_eq_true rfl⟩ dL_law_533 (fun H locs hP hP2 hS => ?_)
  have M : lmm D T a q A s H locs x' y' := ⟨hP2, hP, hS⟩
  refine lv_icmp_eq (tgt := 1206) hx hb dL_law_536 (by decide) (fun _ => ?_) (fun hc3 => absurd rfl hc3)
  exact hgo x' y' H locs ls hI2 M hl
set_option maxHeartbeats 4000000 in
set_option maxRecDepth 100000 in
theorem law_case11 {Inv : XS → XS → Prop} (hO : (∀ (w1 w2 w3 w4 : Int), rg w1 → rg w2 → rg w3 → rg w4 → stepOK Inv (fun x => f_X6_first x w1 w2 w3 w4) (fun y => f_X7_first y w1 w2 w3 w4))) {D : va_G} {T : ClassId × ClassId} {a q : Nat → Nat} {A : Nat → Prop} {b L : Nat} {xs : Nat → Int32} {p : Program} {l : Launch} {e : Env} {s : State} {m : MethodId} {below : List Frame} {meth : Method} {c : Code} {Q : State → Prop} (K : lcx D T a q A b L xs p s m meth c) (hL : L ≤ 4096) {i : Nat} {x3 : Int32} (hi : i + 8 ≤ L) (e3 : x3 = nI i) {w1 w2 w3 w4 : Int} (hw1 : xs (x3 + 1).toNatClampNeg = oI w1) (hg1 : rg w1) (hw2 : xs (x3 + 2).toNatClampNeg = oI w2) (hg2 : rg w2) (hw3 : xs (x3 + 3).toNatClampNeg = oI w3) (hg3 : rg w3) (hw4 : xs (x3 + 4).toNatClampNeg = oI w4) (hg4 : rg w4) {x y : XS} (hI : Inv x y) {H : Heap} {locs : List Loc} {ls : Array Slot} (M : lmm D T a q A s H locs x y) (hl : lv_has ls 4 [(0, .ref b), (1, .ref (a 0)), (2, .ref (q 0)), (3, .int x3)])
    (hgo : ∀ (x y : XS) (H : Heap) (locs : List Loc) (ls : Array Slot), Inv x y → lmm D T a q A s H locs x y → lv_has ls 4 [(0, .ref b), (1, .ref (a 0)), (2, .ref (q 0)), (3, .int x3)] → W p l e room_1 s m #[Value.ref b] below meth c H locs 70 41445 Q (F0 m 1206 ls [])) : W p l e room_1 s m #[Value.ref b] below meth c H locs 70 41445 Q (F0 m 541 ls []) := by
  have hx := K.1.1
  have hb := K.1.2.1
  have hap := K.2.2.1
  obtain ⟨r, x', y', hfx, hfy, hI2⟩ := hO w1 w2 w3 w4 hg1 hg2 hg3 hg4 x y hI
  refine lv_aload_n hx hb dL_law_541 rfl (lv_at hl 1 rfl) ?_
  refine lv_aload_n hx hb dL_law_542 rfl (lv_at hl 0 rfl) ?_
  refine lv_iload_n hx hb dL_law_543 rfl (lv_at hl 3 rfl) ?_
  refine lv_iconst (v := 1) hx hb dL_law_544 (by decide) ?_
  refine lv_iadd hx hb dL_law_545 ?_
  refine l_sld K M (l_in (k := 1) e3 (by omega) hL) hw1 dL_law_546 ?_
  refine lv_aload_n hx hb dL_law_547 rfl (lv_at hl 0 rfl) ?_
  refine lv_iload_n hx hb dL_law_548 rfl (lv_at hl 3 rfl) ?_
  refine lv_iconst (v := 2) hx hb dL_law_549 (by decide) ?_
  refine lv_iadd hx hb dL_law_550 ?_
  refine l_sld K M (l_in (k := 2) e3 (by omega) hL) hw2 dL_law_551 ?_
  refine lv_aload_n hx hb dL_law_552 rfl (lv_at hl 0 rfl) ?_
  refine lv_iload_n hx hb dL_law_553 rfl (lv_at hl 3 rfl) ?_
  refine lv_iconst (v := 3) hx hb dL_law_554 (by decide) ?_
  refine lv_iadd hx hb dL_law_555 ?_
  refine l_sld K M (l_in (k := 3) e3 (by omega) hL) hw3 dL_law_556 ?_
  refine lv_aload_n hx hb dL_law_557 rfl (lv_at hl 0 rfl) ?_
  refine lv_iload_n hx hb dL_law_558 rfl (lv_at hl 3 rfl) ?_
  refine lv_iconst (v := 4) hx hb dL_law_559 (by decide) ?_
  refine lv_iadd hx hb dL_law_560 ?_
  refine l_sld K M (l_in (k := 4) e3 (by omega) hL) hw4 dL_law_561 ?_
  refine l_callI (n := 4) (As := [.int (oI w1), .int (oI w2), .int (oI w3), .int (oI w4)]) K.1 ⟨M.1, M.2.2⟩ (hap x y) M.2.1 (fun sz => c_X6_first hfx sz) bw_529 bw_526 bw_527 bw_528 bw_84 rfl (by decide +kernel) 0 rfl rfl ⟨rfl, rfl⟩ ⟨Nat.le_of_ble_eq_true rfl, Nat.le_of_ble_eq_true rfl⟩ hl.1 rfl (Nat.le_of_ble_eq_true rfl) ⟨Nat.le_of_ble_eq_true rfl, Nat.le_of_ble_eq_true rfl⟩ dL_law_562 (fun H locs hP hP2 hS => ?_)
  have M : lmm D T a q A s H locs x' y := ⟨hP, hP2, hS⟩
  refine lv_aload_n hx hb dL_law_565 rfl (lv_at hl 2 rfl) ?_
  refine lv_aload_n hx hb dL_law_566 rfl (lv_at hl 0 rfl) ?_
  refine lv_iload_n hx hb dL_law_567 rfl (lv_at hl 3 rfl) ?_
  refine lv_iconst (v := 1) hx hb dL_law_568 (by decide) ?_
  refine lv_iadd hx hb dL_law_569 ?_
  refine l_sld K M (l_in (k := 1) e3 (by omega) hL) hw1 dL_law_570 ?_
  refine lv_aload_n hx hb dL_law_571 rfl (lv_at hl 0 rfl) ?_
  refine lv_iload_n hx hb dL_law_572 rfl (lv_at hl 3 rfl) ?_
  refine lv_iconst (v := 2) hx hb dL_law_573 (by decide) ?_
  refine lv_iadd hx hb dL_law_574 ?_
  refine l_sld K M (l_in (k := 2) e3 (by omega) hL) hw2 dL_law_575 ?_
  refine lv_aload_n hx hb dL_law_576 rfl (lv_at hl 0 rfl) ?_
  refine lv_iload_n hx hb dL_law_577 rfl (lv_at hl 3 rfl) ?_
  refine lv_iconst (v := 3) hx hb dL_law_578 (by decide) ?_
  refine lv_iadd hx hb dL_law_579 ?_
  refine l_sld K M (l_in (k := 3) e3 (by omega) hL) hw3 dL_law_580 ?_
  refine lv_aload_n hx hb dL_law_581 rfl (lv_at hl 0 rfl) ?_
  refine lv_iload_n hx hb dL_law_582 rfl (lv_at hl 3 rfl) ?_
  refine lv_iconst (v := 4) hx hb dL_law_583 (by decide) ?_
  refine lv_iadd hx hb dL_law_584 ?_
  refine l_sld K M (l_in (k := 4) e3 (by omega) hL) hw4 dL_law_585 ?_
  refine l_callI (n := 4) (As := [.int (oI w1), .int (oI w2), .int (oI w3), .int (oI w4)]) K.2.1 ⟨M.2.1, M.2.2⟩ (fun i j u v hu hv h => hap x' y j i v u hv hu h.symm) M.1 (fun sz => c_X7_first hfy sz) bw_900 bw_897 bw_898 bw_899 bw_91 rfl (by decide +kernel) 0 rfl rfl ⟨rfl, rfl⟩ ⟨Nat.le_of_ble_eq_true rfl, Nat.le_of_ble_eq_true rfl⟩ hl.1 rfl (Nat.le_of_ble_eq_true rfl) ⟨Nat.le_of_ble_eq_true rfl, Nat.le_of_ble_eq_true rfl⟩ dL_law_586 (fun H locs hP hP2 hS => ?_)
  have M : lmm D T a q A s H locs x' y' := ⟨hP2, hP, hS⟩
  refine lv_icmp_eq (tgt := 1206) hx hb dL_law_589 (by decide) (fun _ => ?_) (fun hc3 => absurd rfl hc3)
  exact hgo x' y' H locs ls hI2 M hl
set_option maxHeartbeats 4000000 in
set_option maxRecDepth 100000 in
theorem law_case12 {Inv : XS → XS → Prop} (hO : (∀ (w1 w2 w3 w4 : Int), rg w1 → rg w2 → rg w3 → rg w4 → stepOK Inv (fun x => f_X6_last x w1 w2 w3 w4) (fun y => f_X7_last y w1 w2 w3 w4))) {D : va_G} {T : ClassId × ClassId} {a q : Nat → Nat} {A : Nat → Prop} {b L : Nat} {xs : Nat → Int32} {p : Program} {l : Launch} {e : Env} {s : State} {m : MethodId} {below : List Frame} {meth : Method} {c : Code} {Q : State → Prop} (K : lcx D T a q A b L xs p s m meth c) (hL : L ≤ 4096) {i : Nat} {x3 : Int32} (hi : i + 8 ≤ L) (e3 : x3 = nI i) {w1 w2 w3 w4 : Int} (hw1 : xs (x3 + 1).toNatClampNeg = oI w1) (hg1 : rg w1) (hw2 : xs (x3 + 2).toNatClampNeg = oI w2) (hg2 : rg w2) (hw3 : xs (x3 + 3).toNatClampNeg = oI w3) (hg3 : rg w3) (hw4 : xs (x3 + 4).toNatClampNeg = oI w4) (hg4 : rg w4) {x y : XS} (hI : Inv x y) {H : Heap} {locs : List Loc} {ls : Array Slot} (M : lmm D T a q A s H locs x y) (hl : lv_has ls 4 [(0, .ref b), (1, .ref (a 0)), (2, .ref (q 0)), (3, .int x3)])
    (hgo : ∀ (x y : XS) (H : Heap) (locs : List Loc) (ls : Array Slot), Inv x y → lmm D T a q A s H locs x y → lv_has ls 4 [(0, .ref b), (1, .ref (a 0)), (2, .ref (q 0)), (3, .int x3)] → W p l e room_1 s m #[Value.ref b] below meth c H locs 70 41445 Q (F0 m 1206 ls [])) : W p l e room_1 s m #[Value.ref b] below meth c H locs 70 41445 Q (F0 m 594 ls []) := by
  have hx := K.1.1
  have hb := K.1.2.1
  have hap := K.2.2.1
  obtain ⟨r, x', y', hfx, hfy, hI2⟩ := hO w1 w2 w3 w4 hg1 hg2 hg3 hg4 x y hI
  refine lv_aload_n hx hb dL_law_594 rfl (lv_at hl 1 rfl) ?_
  refine lv_aload_n hx hb dL_law_595 rfl (lv_at hl 0 rfl) ?_
  refine lv_iload_n hx hb dL_law_596 rfl (lv_at hl 3 rfl) ?_
  refine lv_iconst (v := 1) hx hb dL_law_597 (by decide) ?_
  refine lv_iadd hx hb dL_law_598 ?_
  refine l_sld K M (l_in (k := 1) e3 (by omega) hL) hw1 dL_law_599 ?_
  refine lv_aload_n hx hb dL_law_600 rfl (lv_at hl 0 rfl) ?_
  refine lv_iload_n hx hb dL_law_601 rfl (lv_at hl 3 rfl) ?_
  refine lv_iconst (v := 2) hx hb dL_law_602 (by decide) ?_
  refine lv_iadd hx hb dL_law_603 ?_
  refine l_sld K M (l_in (k := 2) e3 (by omega) hL) hw2 dL_law_604 ?_
  refine lv_aload_n hx hb dL_law_605 rfl (lv_at hl 0 rfl) ?_
  refine lv_iload_n hx hb dL_law_606 rfl (lv_at hl 3 rfl) ?_
  refine lv_iconst (v := 3) hx hb dL_law_607 (by decide) ?_
  refine lv_iadd hx hb dL_law_608 ?_
  refine l_sld K M (l_in (k := 3) e3 (by omega) hL) hw3 dL_law_609 ?_
  refine lv_aload_n hx hb dL_law_610 rfl (lv_at hl 0 rfl) ?_
  refine lv_iload_n hx hb dL_law_611 rfl (lv_at hl 3 rfl) ?_
  refine lv_iconst (v := 4) hx hb dL_law_612 (by decide) ?_
  refine lv_iadd hx hb dL_law_613 ?_
  refine l_sld K M (l_in (k := 4) e3 (by omega) hL) hw4 dL_law_614 ?_
  refine l_callI (n := 4) (As := [.int (oI w1), .int (oI w2), .int (oI w3), .int (oI w4)]) K.1 ⟨M.1, M.2.2⟩ (hap x y) M.2.1 (fun sz => c_X6_last hfx sz) bw_597 bw_594 bw_595 bw_596 bw_84 rfl (by decide +kernel) 0 rfl rfl ⟨rfl, rfl⟩ ⟨Nat.le_of_ble_eq_true rfl, Nat.le_of_ble_eq_true rfl⟩ hl.1 rfl (Nat.le_of_ble_eq_true rfl) ⟨Nat.le_of_ble_eq_true rfl, Nat.le_of_ble_eq_true rfl⟩ dL_law_615 (fun H locs hP hP2 hS => ?_)
  have M : lmm D T a q A s H locs x' y := ⟨hP, hP2, hS⟩
  refine lv_aload_n hx hb dL_law_618 rfl (lv_at hl 2 rfl) ?_
  refine lv_aload_n hx hb dL_law_619 rfl (lv_at hl 0 rfl) ?_
  refine lv_iload_n hx hb dL_law_620 rfl (lv_at hl 3 rfl) ?_
  refine lv_iconst (v := 1) hx hb dL_law_621 (by decide) ?_
  refine lv_iadd hx hb dL_law_622 ?_
  refine l_sld K M (l_in (k := 1) e3 (by omega) hL) hw1 dL_law_623 ?_
  refine lv_aload_n hx hb dL_law_624 rfl (lv_at hl 0 rfl) ?_
  refine lv_iload_n hx hb dL_law_625 rfl (lv_at hl 3 rfl) ?_
  refine lv_iconst (v := 2) hx hb dL_law_626 (by decide) ?_
  refine lv_iadd hx hb dL_law_627 ?_
  refine l_sld K M (l_in (k := 2) e3 (by omega) hL) hw2 dL_law_628 ?_
  refine lv_aload_n hx hb dL_law_629 rfl (lv_at hl 0 rfl) ?_
  refine lv_iload_n hx hb dL_law_630 rfl (lv_at hl 3 rfl) ?_
  refine lv_iconst (v := 3) hx hb dL_law_631 (by decide) ?_
  refine lv_iadd hx hb dL_law_632 ?_
  refine l_sld K M (l_in (k := 3) e3 (by omega) hL) hw3 dL_law_633 ?_
  refine lv_aload_n hx hb dL_law_634 rfl (lv_at hl 0 rfl) ?_
  refine lv_iload_n hx hb dL_law_635 rfl (lv_at hl 3 rfl) ?_
  refine lv_iconst (v := 4) hx hb dL_law_636 (by decide) ?_
  refine lv_iadd hx hb dL_law_637 ?_
  refine l_sld K M (l_in (k := 4) e3 (by omega) hL) hw4 dL_law_638 ?_
  refine l_callI (n := 4) (As := [.int (oI w1), .int (oI w2), .int (oI w3), .int (oI w4)]) K.2.1 ⟨M.2.1, M.2.2⟩ (fun i j u v hu hv h => hap x' y j i v u hv hu h.symm) M.1 (fun sz => c_X7_last hfy sz) bw_947 bw_944 bw_945 bw_946 bw_91 rfl (by decide +kernel) 0 rfl rfl ⟨rfl, rfl⟩ ⟨Nat.le_of_ble_eq_true rfl, Nat.le_of_ble_eq_true rfl⟩ hl.1 rfl (Nat.le_of_ble_eq_true rfl) ⟨Nat.le_of_ble_eq_true rfl, Nat.le_of_ble_eq_true rfl⟩ dL_law_639 (fun H locs hP hP2 hS => ?_)
  have M : lmm D T a q A s H locs x' y' := ⟨hP2, hP, hS⟩
  refine lv_icmp_eq (tgt := 1206) hx hb dL_law_642 (by decide) (fun _ => ?_) (fun hc3 => absurd rfl hc3)
  exact hgo x' y' H locs ls hI2 M hl
set_option maxHeartbeats 4000000 in
set_option maxRecDepth 100000 in
theorem law_case13 {Inv : XS → XS → Prop} (hO : (∀ (w1 w2 w3 w4 w5 : Int), rg w1 → rg w2 → rg w3 → rg w4 → rg w5 → stepOK Inv (fun x => f_X6_quickest x w1 w2 w3 w4 w5) (fun y => f_X7_quickest y w1 w2 w3 w4 w5))) {D : va_G} {T : ClassId × ClassId} {a q : Nat → Nat} {A : Nat → Prop} {b L : Nat} {xs : Nat → Int32} {p : Program} {l : Launch} {e : Env} {s : State} {m : MethodId} {below : List Frame} {meth : Method} {c : Code} {Q : State → Prop} (K : lcx D T a q A b L xs p s m meth c) (hL : L ≤ 4096) {i : Nat} {x3 : Int32} (hi : i + 8 ≤ L) (e3 : x3 = nI i) {w1 w2 w3 w4 w5 : Int} (hw1 : xs (x3 + 1).toNatClampNeg = oI w1) (hg1 : rg w1) (hw2 : xs (x3 + 2).toNatClampNeg = oI w2) (hg2 : rg w2) (hw3 : xs (x3 + 3).toNatClampNeg = oI w3) (hg3 : rg w3) (hw4 : xs (x3 + 4).toNatClampNeg = oI w4) (hg4 : rg w4) (hw5 : xs (x3 + 5).toNatClampNeg = oI w5) (hg5 : rg w5) {x y : XS} (hI : Inv x y) {H : Heap} {locs : List Loc} {ls : Array Slot} (M : lmm D T a q A s H locs x y) (hl : lv_has ls 4 [(0, .ref b), (1, .ref (a 0)), (2, .ref (q 0)), (3, .int x3)])
    (hgo : ∀ (x y : XS) (H : Heap) (locs : List Loc) (ls : Array Slot), Inv x y → lmm D T a q A s H locs x y → lv_has ls 4 [(0, .ref b), (1, .ref (a 0)), (2, .ref (q 0)), (3, .int x3)] → W p l e room_1 s m #[Value.ref b] below meth c H locs 70 41445 Q (F0 m 1206 ls [])) : W p l e room_1 s m #[Value.ref b] below meth c H locs 70 41445 Q (F0 m 647 ls []) := by
  have hx := K.1.1
  have hb := K.1.2.1
  have hap := K.2.2.1
  obtain ⟨r, x', y', hfx, hfy, hI2⟩ := hO w1 w2 w3 w4 w5 hg1 hg2 hg3 hg4 hg5 x y hI
  refine lv_aload_n hx hb dL_law_647 rfl (lv_at hl 1 rfl) ?_
  refine lv_aload_n hx hb dL_law_648 rfl (lv_at hl 0 rfl) ?_
  refine lv_iload_n hx hb dL_law_649 rfl (lv_at hl 3 rfl) ?_
  refine lv_iconst (v := 1) hx hb dL_law_650 (by decide) ?_
  refine lv_iadd hx hb dL_law_651 ?_
  refine l_sld K M (l_in (k := 1) e3 (by omega) hL) hw1 dL_law_652 ?_
  refine lv_aload_n hx hb dL_law_653 rfl (lv_at hl 0 rfl) ?_
  refine lv_iload_n hx hb dL_law_654 rfl (lv_at hl 3 rfl) ?_
  refine lv_iconst (v := 2) hx hb dL_law_655 (by decide) ?_
  refine lv_iadd hx hb dL_law_656 ?_
  refine l_sld K M (l_in (k := 2) e3 (by omega) hL) hw2 dL_law_657 ?_
  refine lv_aload_n hx hb dL_law_658 rfl (lv_at hl 0 rfl) ?_
  refine lv_iload_n hx hb dL_law_659 rfl (lv_at hl 3 rfl) ?_
  refine lv_iconst (v := 3) hx hb dL_law_660 (by decide) ?_
  refine lv_iadd hx hb dL_law_661 ?_
  refine l_sld K M (l_in (k := 3) e3 (by omega) hL) hw3 dL_law_662 ?_
  refine lv_aload_n hx hb dL_law_663 rfl (lv_at hl 0 rfl) ?_
  refine lv_iload_n hx hb dL_law_664 rfl (lv_at hl 3 rfl) ?_
  refine lv_iconst (v := 4) hx hb dL_law_665 (by decide) ?_
  refine lv_iadd hx hb dL_law_666 ?_
  refine l_sld K M (l_in (k := 4) e3 (by omega) hL) hw4 dL_law_667 ?_
  refine lv_aload_n hx hb dL_law_668 rfl (lv_at hl 0 rfl) ?_
  refine lv_iload_n hx hb dL_law_669 rfl (lv_at hl 3 rfl) ?_
  refine lv_iconst (v := 5) hx hb dL_law_670 (by decide) ?_
  refine lv_iadd hx hb dL_law_671 ?_
  refine l_sld K M (l_in (k := 5) e3 (by omega) hL) hw5 dL_law_672 ?_
  refine l_callI (n := 5) (As := [.int (oI w1), .int (oI w2), .int (oI w3), .int (oI w4), .int (oI w5)]) K.1 ⟨M.1, M.2.2⟩ (hap x y) M.2.1 (fun sz => c_X6_quickest hfx sz) bw_612 bw_609 bw_610 bw_611 bw_84 rfl (by decide +kernel) 0 rfl rfl ⟨rfl, rfl⟩ ⟨Nat.le_of_ble_eq_true rfl, Nat.le_of_ble_eq_true rfl⟩ hl.1 rfl (Nat.le_of_ble_eq_true rfl) ⟨Nat.le_of_ble_eq_true rfl, Nat.le_of_ble_eq_true rfl⟩ dL_law_673 (fun H locs hP hP2 hS => ?_)
  have M : lmm D T a q A s H locs x' y := ⟨hP, hP2, hS⟩
  refine lv_aload_n hx hb dL_law_676 rfl (lv_at hl 2 rfl) ?_
  refine lv_aload_n hx hb dL_law_677 rfl (lv_at hl 0 rfl) ?_
  refine lv_iload_n hx hb dL_law_678 rfl (lv_at hl 3 rfl) ?_
  refine lv_iconst (v := 1) hx hb dL_law_679 (by decide) ?_
  refine lv_iadd hx hb dL_law_680 ?_
  refine l_sld K M (l_in (k := 1) e3 (by omega) hL) hw1 dL_law_681 ?_
  refine lv_aload_n hx hb dL_law_682 rfl (lv_at hl 0 rfl) ?_
  refine lv_iload_n hx hb dL_law_683 rfl (lv_at hl 3 rfl) ?_
  refine lv_iconst (v := 2) hx hb dL_law_684 (by decide) ?_
  refine lv_iadd hx hb dL_law_685 ?_
  refine l_sld K M (l_in (k := 2) e3 (by omega) hL) hw2 dL_law_686 ?_
  refine lv_aload_n hx hb dL_law_687 rfl (lv_at hl 0 rfl) ?_
  refine lv_iload_n hx hb dL_law_688 rfl (lv_at hl 3 rfl) ?_
  refine lv_iconst (v := 3) hx hb dL_law_689 (by decide) ?_
  refine lv_iadd hx hb dL_law_690 ?_
  refine l_sld K M (l_in (k := 3) e3 (by omega) hL) hw3 dL_law_691 ?_
  refine lv_aload_n hx hb dL_law_692 rfl (lv_at hl 0 rfl) ?_
  refine lv_iload_n hx hb dL_law_693 rfl (lv_at hl 3 rfl) ?_
  refine lv_iconst (v := 4) hx hb dL_law_694 (by decide) ?_
  refine lv_iadd hx hb dL_law_695 ?_
  refine l_sld K M (l_in (k := 4) e3 (by omega) hL) hw4 dL_law_696 ?_
  refine lv_aload_n hx hb dL_law_697 rfl (lv_at hl 0 rfl) ?_
  refine lv_iload_n hx hb dL_law_698 rfl (lv_at hl 3 rfl) ?_
  refine lv_iconst (v := 5) hx hb dL_law_699 (by decide) ?_
  refine lv_iadd hx hb dL_law_700 ?_
  refine l_sld K M (l_in (k := 5) e3 (by omega) hL) hw5 dL_law_701 ?_
  refine l_callI (n := 5) (As := [.int (oI w1), .int (oI w2), .int (oI w3), .int (oI w4), .int (oI w5)]) K.2.1 ⟨M.2.1, M.2.2⟩ (fun i j u v hu hv h => hap x' y j i v u hv hu h.symm) M.1 (fun sz => c_X7_quickest hfy sz) bw_951 bw_948 bw_949 bw_950 bw_91 rfl (by decide +kernel) 0 rfl rfl ⟨rfl, rfl⟩ ⟨Nat.le_of_ble_eq_true rfl, Nat.le_of_ble_eq_true rfl⟩ hl.1 rfl (Nat.le_of_ble_eq_true rfl) ⟨Nat.le_of_ble_eq_true rfl, Nat.le_of_ble_eq_true rfl⟩ dL_law_702 (fun H locs hP hP2 hS => ?_)
  have M : lmm D T a q A s H locs x' y' := ⟨hP2, hP, hS⟩
  refine lv_icmp_eq (tgt := 1206) hx hb dL_law_705 (by decide) (fun _ => ?_) (fun hc3 => absurd rfl hc3)
  exact hgo x' y' H locs ls hI2 M hl
set_option maxHeartbeats 4000000 in
set_option maxRecDepth 100000 in
theorem law_case14 {Inv : XS → XS → Prop} (hO : (∀ (w1 w2 w3 w4 w5 : Int), rg w1 → rg w2 → rg w3 → rg w4 → rg w5 → stepOK Inv (fun x => f_X6_fewest x w1 w2 w3 w4 w5) (fun y => f_X7_fewest y w1 w2 w3 w4 w5))) {D : va_G} {T : ClassId × ClassId} {a q : Nat → Nat} {A : Nat → Prop} {b L : Nat} {xs : Nat → Int32} {p : Program} {l : Launch} {e : Env} {s : State} {m : MethodId} {below : List Frame} {meth : Method} {c : Code} {Q : State → Prop} (K : lcx D T a q A b L xs p s m meth c) (hL : L ≤ 4096) {i : Nat} {x3 : Int32} (hi : i + 8 ≤ L) (e3 : x3 = nI i) {w1 w2 w3 w4 w5 : Int} (hw1 : xs (x3 + 1).toNatClampNeg = oI w1) (hg1 : rg w1) (hw2 : xs (x3 + 2).toNatClampNeg = oI w2) (hg2 : rg w2) (hw3 : xs (x3 + 3).toNatClampNeg = oI w3) (hg3 : rg w3) (hw4 : xs (x3 + 4).toNatClampNeg = oI w4) (hg4 : rg w4) (hw5 : xs (x3 + 5).toNatClampNeg = oI w5) (hg5 : rg w5) {x y : XS} (hI : Inv x y) {H : Heap} {locs : List Loc} {ls : Array Slot} (M : lmm D T a q A s H locs x y) (hl : lv_has ls 4 [(0, .ref b), (1, .ref (a 0)), (2, .ref (q 0)), (3, .int x3)])
    (hgo : ∀ (x y : XS) (H : Heap) (locs : List Loc) (ls : Array Slot), Inv x y → lmm D T a q A s H locs x y → lv_has ls 4 [(0, .ref b), (1, .ref (a 0)), (2, .ref (q 0)), (3, .int x3)] → W p l e room_1 s m #[Value.ref b] below meth c H locs 70 41445 Q (F0 m 1206 ls [])) : W p l e room_1 s m #[Value.ref b] below meth c H locs 70 41445 Q (F0 m 710 ls []) := by
  have hx := K.1.1
  have hb := K.1.2.1
  have hap := K.2.2.1
  obtain ⟨r, x', y', hfx, hfy, hI2⟩ := hO w1 w2 w3 w4 w5 hg1 hg2 hg3 hg4 hg5 x y hI
  refine lv_aload_n hx hb dL_law_710 rfl (lv_at hl 1 rfl) ?_
  refine lv_aload_n hx hb dL_law_711 rfl (lv_at hl 0 rfl) ?_
  refine lv_iload_n hx hb dL_law_712 rfl (lv_at hl 3 rfl) ?_
  refine lv_iconst (v := 1) hx hb dL_law_713 (by decide) ?_
  refine lv_iadd hx hb dL_law_714 ?_
  refine l_sld K M (l_in (k := 1) e3 (by omega) hL) hw1 dL_law_715 ?_
  refine lv_aload_n hx hb dL_law_716 rfl (lv_at hl 0 rfl) ?_
  refine lv_iload_n hx hb dL_law_717 rfl (lv_at hl 3 rfl) ?_
  refine lv_iconst (v := 2) hx hb dL_law_718 (by decide) ?_
  refine lv_iadd hx hb dL_law_719 ?_
  refine l_sld K M (l_in (k := 2) e3 (by omega) hL) hw2 dL_law_720 ?_
  refine lv_aload_n hx hb dL_law_721 rfl (lv_at hl 0 rfl) ?_
  refine lv_iload_n hx hb dL_law_722 rfl (lv_at hl 3 rfl) ?_
  refine lv_iconst (v := 3) hx hb dL_law_723 (by decide) ?_
  refine lv_iadd hx hb dL_law_724 ?_
  refine l_sld K M (l_in (k := 3) e3 (by omega) hL) hw3 dL_law_725 ?_
  refine lv_aload_n hx hb dL_law_726 rfl (lv_at hl 0 rfl) ?_
  refine lv_iload_n hx hb dL_law_727 rfl (lv_at hl 3 rfl) ?_
  refine lv_iconst (v := 4) hx hb dL_law_728 (by decide) ?_
  refine lv_iadd hx hb dL_law_729 ?_
  refine l_sld K M (l_in (k := 4) e3 (by omega) hL) hw4 dL_law_730 ?_
  refine lv_aload_n hx hb dL_law_731 rfl (lv_at hl 0 rfl) ?_
  refine lv_iload_n hx hb dL_law_732 rfl (lv_at hl 3 rfl) ?_
  refine lv_iconst (v := 5) hx hb dL_law_733 (by decide) ?_
  refine lv_iadd hx hb dL_law_734 ?_
  refine l_sld K M (l_in (k := 5) e3 (by omega) hL) hw5 dL_law_735 ?_
  refine l_callI (n := 5) (As := [.int (oI w1), .int (oI w2), .int (oI w3), .int (oI w4), .int (oI w5)]) K.1 ⟨M.1, M.2.2⟩ (hap x y) M.2.1 (fun sz => c_X6_fewest hfx sz) bw_620 bw_617 bw_618 bw_619 bw_84 rfl (by decide +kernel) 0 rfl rfl ⟨rfl, rfl⟩ ⟨Nat.le_of_ble_eq_true rfl, Nat.le_of_ble_eq_true rfl⟩ hl.1 rfl (Nat.le_of_ble_eq_true rfl) ⟨Nat.le_of_ble_eq_true rfl, Nat.le_of_ble_eq_true rfl⟩ dL_law_736 (fun H locs hP hP2 hS => ?_)
  have M : lmm D T a q A s H locs x' y := ⟨hP, hP2, hS⟩
  refine lv_aload_n hx hb dL_law_739 rfl (lv_at hl 2 rfl) ?_
  refine lv_aload_n hx hb dL_law_740 rfl (lv_at hl 0 rfl) ?_
  refine lv_iload_n hx hb dL_law_741 rfl (lv_at hl 3 rfl) ?_
  refine lv_iconst (v := 1) hx hb dL_law_742 (by decide) ?_
  refine lv_iadd hx hb dL_law_743 ?_
  refine l_sld K M (l_in (k := 1) e3 (by omega) hL) hw1 dL_law_744 ?_
  refine lv_aload_n hx hb dL_law_745 rfl (lv_at hl 0 rfl) ?_
  refine lv_iload_n hx hb dL_law_746 rfl (lv_at hl 3 rfl) ?_
  refine lv_iconst (v := 2) hx hb dL_law_747 (by decide) ?_
  refine lv_iadd hx hb dL_law_748 ?_
  refine l_sld K M (l_in (k := 2) e3 (by omega) hL) hw2 dL_law_749 ?_
  refine lv_aload_n hx hb dL_law_750 rfl (lv_at hl 0 rfl) ?_
  refine lv_iload_n hx hb dL_law_751 rfl (lv_at hl 3 rfl) ?_
  refine lv_iconst (v := 3) hx hb dL_law_752 (by decide) ?_
  refine lv_iadd hx hb dL_law_753 ?_
  refine l_sld K M (l_in (k := 3) e3 (by omega) hL) hw3 dL_law_754 ?_
  refine lv_aload_n hx hb dL_law_755 rfl (lv_at hl 0 rfl) ?_
  refine lv_iload_n hx hb dL_law_756 rfl (lv_at hl 3 rfl) ?_
  refine lv_iconst (v := 4) hx hb dL_law_757 (by decide) ?_
  refine lv_iadd hx hb dL_law_758 ?_
  refine l_sld K M (l_in (k := 4) e3 (by omega) hL) hw4 dL_law_759 ?_
  refine lv_aload_n hx hb dL_law_760 rfl (lv_at hl 0 rfl) ?_
  refine lv_iload_n hx hb dL_law_761 rfl (lv_at hl 3 rfl) ?_
  refine lv_iconst (v := 5) hx hb dL_law_762 (by decide) ?_
  refine lv_iadd hx hb dL_law_763 ?_
  refine l_sld K M (l_in (k := 5) e3 (by omega) hL) hw5 dL_law_764 ?_
  refine l_callI (n := 5) (As := [.int (oI w1), .int (oI w2), .int (oI w3), .int (oI w4), .int (oI w5)]) K.2.1 ⟨M.2.1, M.2.2⟩ (fun i j u v hu hv h => hap x' y j i v u hv hu h.symm) M.1 (fun sz => c_X7_fewest hfy sz) bw_955 bw_952 bw_953 bw_954 bw_91 rfl (by decide +kernel) 0 rfl rfl ⟨rfl, rfl⟩ ⟨Nat.le_of_ble_eq_true rfl, Nat.le_of_ble_eq_true rfl⟩ hl.1 rfl (Nat.le_of_ble_eq_true rfl) ⟨Nat.le_of_ble_eq_true rfl, Nat.le_of_ble_eq_true rfl⟩ dL_law_765 (fun H locs hP hP2 hS => ?_)
  have M : lmm D T a q A s H locs x' y' := ⟨hP2, hP, hS⟩
  refine lv_icmp_eq (tgt := 1206) hx hb dL_law_768 (by decide) (fun _ => ?_) (fun hc3 => absurd rfl hc3)
  exact hgo x' y' H locs ls hI2 M hl
set_option maxHeartbeats 4000000 in
set_option maxRecDepth 100000 in
theorem law_case15 {Inv : XS → XS → Prop} (hO : (∀ (w1 w2 w3 w4 : Int), rg w1 → rg w2 → rg w3 → rg w4 → stepOK Inv (fun x => f_X6_way x w1 w2 w3 w4) (fun y => f_X7_way y w1 w2 w3 w4))) {D : va_G} {T : ClassId × ClassId} {a q : Nat → Nat} {A : Nat → Prop} {b L : Nat} {xs : Nat → Int32} {p : Program} {l : Launch} {e : Env} {s : State} {m : MethodId} {below : List Frame} {meth : Method} {c : Code} {Q : State → Prop} (K : lcx D T a q A b L xs p s m meth c) (hL : L ≤ 4096) {i : Nat} {x3 : Int32} (hi : i + 8 ≤ L) (e3 : x3 = nI i) {w1 w2 w3 w4 : Int} (hw1 : xs (x3 + 1).toNatClampNeg = oI w1) (hg1 : rg w1) (hw2 : xs (x3 + 2).toNatClampNeg = oI w2) (hg2 : rg w2) (hw3 : xs (x3 + 3).toNatClampNeg = oI w3) (hg3 : rg w3) (hw4 : xs (x3 + 4).toNatClampNeg = oI w4) (hg4 : rg w4) {x y : XS} (hI : Inv x y) {H : Heap} {locs : List Loc} {ls : Array Slot} (M : lmm D T a q A s H locs x y) (hl : lv_has ls 4 [(0, .ref b), (1, .ref (a 0)), (2, .ref (q 0)), (3, .int x3)])
    (hgo : ∀ (x y : XS) (H : Heap) (locs : List Loc) (ls : Array Slot), Inv x y → lmm D T a q A s H locs x y → lv_has ls 4 [(0, .ref b), (1, .ref (a 0)), (2, .ref (q 0)), (3, .int x3)] → W p l e room_1 s m #[Value.ref b] below meth c H locs 70 41445 Q (F0 m 1206 ls [])) : W p l e room_1 s m #[Value.ref b] below meth c H locs 70 41445 Q (F0 m 773 ls []) := by
  have hx := K.1.1
  have hb := K.1.2.1
  have hap := K.2.2.1
  obtain ⟨r, x', y', hfx, hfy, hI2⟩ := hO w1 w2 w3 w4 hg1 hg2 hg3 hg4 x y hI
  refine lv_aload_n hx hb dL_law_773 rfl (lv_at hl 1 rfl) ?_
  refine lv_aload_n hx hb dL_law_774 rfl (lv_at hl 0 rfl) ?_
  refine lv_iload_n hx hb dL_law_775 rfl (lv_at hl 3 rfl) ?_
  refine lv_iconst (v := 1) hx hb dL_law_776 (by decide) ?_
  refine lv_iadd hx hb dL_law_777 ?_
  refine l_sld K M (l_in (k := 1) e3 (by omega) hL) hw1 dL_law_778 ?_
  refine lv_aload_n hx hb dL_law_779 rfl (lv_at hl 0 rfl) ?_
  refine lv_iload_n hx hb dL_law_780 rfl (lv_at hl 3 rfl) ?_
  refine lv_iconst (v := 2) hx hb dL_law_781 (by decide) ?_
  refine lv_iadd hx hb dL_law_782 ?_
  refine l_sld K M (l_in (k := 2) e3 (by omega) hL) hw2 dL_law_783 ?_
  refine lv_aload_n hx hb dL_law_784 rfl (lv_at hl 0 rfl) ?_
  refine lv_iload_n hx hb dL_law_785 rfl (lv_at hl 3 rfl) ?_
  refine lv_iconst (v := 3) hx hb dL_law_786 (by decide) ?_
  refine lv_iadd hx hb dL_law_787 ?_
  refine l_sld K M (l_in (k := 3) e3 (by omega) hL) hw3 dL_law_788 ?_
  refine lv_aload_n hx hb dL_law_789 rfl (lv_at hl 0 rfl) ?_
  refine lv_iload_n hx hb dL_law_790 rfl (lv_at hl 3 rfl) ?_
  refine lv_iconst (v := 4) hx hb dL_law_791 (by decide) ?_
  refine lv_iadd hx hb dL_law_792 ?_
  refine l_sld K M (l_in (k := 4) e3 (by omega) hL) hw4 dL_law_793 ?_
  refine l_callI (n := 4) (As := [.int (oI w1), .int (oI w2), .int (oI w3), .int (oI w4)]) K.1 ⟨M.1, M.2.2⟩ (hap x y) M.2.1 (fun sz => c_X6_way hfx sz) bw_628 bw_625 bw_626 bw_627 bw_84 rfl (by decide +kernel) 0 rfl rfl ⟨rfl, rfl⟩ ⟨Nat.le_of_ble_eq_true rfl, Nat.le_of_ble_eq_true rfl⟩ hl.1 rfl (Nat.le_of_ble_eq_true rfl) ⟨Nat.le_of_ble_eq_true rfl, Nat.le_of_ble_eq_true rfl⟩ dL_law_794 (fun H locs hP hP2 hS => ?_)
  have M : lmm D T a q A s H locs x' y := ⟨hP, hP2, hS⟩
  refine lv_aload_n hx hb dL_law_797 rfl (lv_at hl 2 rfl) ?_
  refine lv_aload_n hx hb dL_law_798 rfl (lv_at hl 0 rfl) ?_
  refine lv_iload_n hx hb dL_law_799 rfl (lv_at hl 3 rfl) ?_
  refine lv_iconst (v := 1) hx hb dL_law_800 (by decide) ?_
  refine lv_iadd hx hb dL_law_801 ?_
  refine l_sld K M (l_in (k := 1) e3 (by omega) hL) hw1 dL_law_802 ?_
  refine lv_aload_n hx hb dL_law_803 rfl (lv_at hl 0 rfl) ?_
  refine lv_iload_n hx hb dL_law_804 rfl (lv_at hl 3 rfl) ?_
  refine lv_iconst (v := 2) hx hb dL_law_805 (by decide) ?_
  refine lv_iadd hx hb dL_law_806 ?_
  refine l_sld K M (l_in (k := 2) e3 (by omega) hL) hw2 dL_law_807 ?_
  refine lv_aload_n hx hb dL_law_808 rfl (lv_at hl 0 rfl) ?_
  refine lv_iload_n hx hb dL_law_809 rfl (lv_at hl 3 rfl) ?_
  refine lv_iconst (v := 3) hx hb dL_law_810 (by decide) ?_
  refine lv_iadd hx hb dL_law_811 ?_
  refine l_sld K M (l_in (k := 3) e3 (by omega) hL) hw3 dL_law_812 ?_
  refine lv_aload_n hx hb dL_law_813 rfl (lv_at hl 0 rfl) ?_
  refine lv_iload_n hx hb dL_law_814 rfl (lv_at hl 3 rfl) ?_
  refine lv_iconst (v := 4) hx hb dL_law_815 (by decide) ?_
  refine lv_iadd hx hb dL_law_816 ?_
  refine l_sld K M (l_in (k := 4) e3 (by omega) hL) hw4 dL_law_817 ?_
  refine l_callI (n := 4) (As := [.int (oI w1), .int (oI w2), .int (oI w3), .int (oI w4)]) K.2.1 ⟨M.2.1, M.2.2⟩ (fun i j u v hu hv h => hap x' y j i v u hv hu h.symm) M.1 (fun sz => c_X7_way hfy sz) bw_959 bw_956 bw_957 bw_958 bw_91 rfl (by decide +kernel) 0 rfl rfl ⟨rfl, rfl⟩ ⟨Nat.le_of_ble_eq_true rfl, Nat.le_of_ble_eq_true rfl⟩ hl.1 rfl (Nat.le_of_ble_eq_true rfl) ⟨Nat.le_of_ble_eq_true rfl, Nat.le_of_ble_eq_true rfl⟩ dL_law_818 (fun H locs hP hP2 hS => ?_)
  have M : lmm D T a q A s H locs x' y' := ⟨hP2, hP, hS⟩
  refine lv_icmp_eq (tgt := 1206) hx hb dL_law_821 (by decide) (fun _ => ?_) (fun hc3 => absurd rfl hc3)
  exact hgo x' y' H locs ls hI2 M hl
set_option maxHeartbeats 4000000 in
set_option maxRecDepth 100000 in
theorem law_case16 {Inv : XS → XS → Prop} (hO : (∀ (w1 : Int), rg w1 → stepOK Inv (fun x => f_X6_out x w1) (fun y => f_X7_out y w1))) {D : va_G} {T : ClassId × ClassId} {a q : Nat → Nat} {A : Nat → Prop} {b L : Nat} {xs : Nat → Int32} {p : Program} {l : Launch} {e : Env} {s : State} {m : MethodId} {below : List Frame} {meth : Method} {c : Code} {Q : State → Prop} (K : lcx D T a q A b L xs p s m meth c) (hL : L ≤ 4096) {i : Nat} {x3 : Int32} (hi : i + 8 ≤ L) (e3 : x3 = nI i) {w1 : Int} (hw1 : xs (x3 + 1).toNatClampNeg = oI w1) (hg1 : rg w1) {x y : XS} (hI : Inv x y) {H : Heap} {locs : List Loc} {ls : Array Slot} (M : lmm D T a q A s H locs x y) (hl : lv_has ls 4 [(0, .ref b), (1, .ref (a 0)), (2, .ref (q 0)), (3, .int x3)])
    (hgo : ∀ (x y : XS) (H : Heap) (locs : List Loc) (ls : Array Slot), Inv x y → lmm D T a q A s H locs x y → lv_has ls 4 [(0, .ref b), (1, .ref (a 0)), (2, .ref (q 0)), (3, .int x3)] → W p l e room_1 s m #[Value.ref b] below meth c H locs 70 41445 Q (F0 m 1206 ls [])) : W p l e room_1 s m #[Value.ref b] below meth c H locs 70 41445 Q (F0 m 826 ls []) := by
  have hx := K.1.1
  have hb := K.1.2.1
  have hap := K.2.2.1
  obtain ⟨r, x', y', hfx, hfy, hI2⟩ := hO w1 hg1 x y hI
  refine lv_aload_n hx hb dL_law_826 rfl (lv_at hl 1 rfl) ?_
  refine lv_aload_n hx hb dL_law_827 rfl (lv_at hl 0 rfl) ?_
  refine lv_iload_n hx hb dL_law_828 rfl (lv_at hl 3 rfl) ?_
  refine lv_iconst (v := 1) hx hb dL_law_829 (by decide) ?_
  refine lv_iadd hx hb dL_law_830 ?_
  refine l_sld K M (l_in (k := 1) e3 (by omega) hL) hw1 dL_law_831 ?_
  refine l_callI (n := 1) (As := [.int (oI w1)]) K.1 ⟨M.1, M.2.2⟩ (hap x y) M.2.1 (fun sz => c_X6_out hfx sz) bw_654 bw_651 bw_652 bw_653 bw_84 rfl (by decide +kernel) 0 rfl rfl ⟨rfl, rfl⟩ ⟨Nat.le_of_ble_eq_true rfl, Nat.le_of_ble_eq_true rfl⟩ hl.1 rfl (Nat.le_of_ble_eq_true rfl) ⟨Nat.le_of_ble_eq_true rfl, Nat.le_of_ble_eq_true rfl⟩ dL_law_832 (fun H locs hP hP2 hS => ?_)
  have M : lmm D T a q A s H locs x' y := ⟨hP, hP2, hS⟩
  refine lv_aload_n hx hb dL_law_835 rfl (lv_at hl 2 rfl) ?_
  refine lv_aload_n hx hb dL_law_836 rfl (lv_at hl 0 rfl) ?_
  refine lv_iload_n hx hb dL_law_837 rfl (lv_at hl 3 rfl) ?_
  refine lv_iconst (v := 1) hx hb dL_law_838 (by decide) ?_
  refine lv_iadd hx hb dL_law_839 ?_
  refine l_sld K M (l_in (k := 1) e3 (by omega) hL) hw1 dL_law_840 ?_
  refine l_callI (n := 1) (As := [.int (oI w1)]) K.2.1 ⟨M.2.1, M.2.2⟩ (fun i j u v hu hv h => hap x' y j i v u hv hu h.symm) M.1 (fun sz => c_X7_out hfy sz) bw_971 bw_968 bw_969 bw_970 bw_91 rfl (by decide +kernel) 0 rfl rfl ⟨rfl, rfl⟩ ⟨Nat.le_of_ble_eq_true rfl, Nat.le_of_ble_eq_true rfl⟩ hl.1 rfl (Nat.le_of_ble_eq_true rfl) ⟨Nat.le_of_ble_eq_true rfl, Nat.le_of_ble_eq_true rfl⟩ dL_law_841 (fun H locs hP hP2 hS => ?_)
  have M : lmm D T a q A s H locs x' y' := ⟨hP2, hP, hS⟩
  refine lv_icmp_eq (tgt := 1206) hx hb dL_law_844 (by decide) (fun _ => ?_) (fun hc3 => absurd rfl hc3)
  exact hgo x' y' H locs ls hI2 M hl
set_option maxHeartbeats 4000000 in
set_option maxRecDepth 100000 in
theorem law_case17 {Inv : XS → XS → Prop} (hO : (∀ (w1 w2 w3 : Int), rg w1 → rg w2 → rg w3 → stepOK Inv (fun x => f_X6_pairs x w1 w2 w3) (fun y => f_X7_pairs y w1 w2 w3))) {D : va_G} {T : ClassId × ClassId} {a q : Nat → Nat} {A : Nat → Prop} {b L : Nat} {xs : Nat → Int32} {p : Program} {l : Launch} {e : Env} {s : State} {m : MethodId} {below : List Frame} {meth : Method} {c : Code} {Q : State → Prop} (K : lcx D T a q A b L xs p s m meth c) (hL : L ≤ 4096) {i : Nat} {x3 : Int32} (hi : i + 8 ≤ L) (e3 : x3 = nI i) {w1 w2 w3 : Int} (hw1 : xs (x3 + 1).toNatClampNeg = oI w1) (hg1 : rg w1) (hw2 : xs (x3 + 2).toNatClampNeg = oI w2) (hg2 : rg w2) (hw3 : xs (x3 + 3).toNatClampNeg = oI w3) (hg3 : rg w3) {x y : XS} (hI : Inv x y) {H : Heap} {locs : List Loc} {ls : Array Slot} (M : lmm D T a q A s H locs x y) (hl : lv_has ls 4 [(0, .ref b), (1, .ref (a 0)), (2, .ref (q 0)), (3, .int x3)])
    (hgo : ∀ (x y : XS) (H : Heap) (locs : List Loc) (ls : Array Slot), Inv x y → lmm D T a q A s H locs x y → lv_has ls 4 [(0, .ref b), (1, .ref (a 0)), (2, .ref (q 0)), (3, .int x3)] → W p l e room_1 s m #[Value.ref b] below meth c H locs 70 41445 Q (F0 m 1206 ls [])) : W p l e room_1 s m #[Value.ref b] below meth c H locs 70 41445 Q (F0 m 849 ls []) := by
  have hx := K.1.1
  have hb := K.1.2.1
  have hap := K.2.2.1
  obtain ⟨r, x', y', hfx, hfy, hI2⟩ := hO w1 w2 w3 hg1 hg2 hg3 x y hI
  refine lv_aload_n hx hb dL_law_849 rfl (lv_at hl 1 rfl) ?_
  refine lv_aload_n hx hb dL_law_850 rfl (lv_at hl 0 rfl) ?_
  refine lv_iload_n hx hb dL_law_851 rfl (lv_at hl 3 rfl) ?_
  refine lv_iconst (v := 1) hx hb dL_law_852 (by decide) ?_
  refine lv_iadd hx hb dL_law_853 ?_
  refine l_sld K M (l_in (k := 1) e3 (by omega) hL) hw1 dL_law_854 ?_
  refine lv_aload_n hx hb dL_law_855 rfl (lv_at hl 0 rfl) ?_
  refine lv_iload_n hx hb dL_law_856 rfl (lv_at hl 3 rfl) ?_
  refine lv_iconst (v := 2) hx hb dL_law_857 (by decide) ?_
  refine lv_iadd hx hb dL_law_858 ?_
  refine l_sld K M (l_in (k := 2) e3 (by omega) hL) hw2 dL_law_859 ?_
  refine lv_aload_n hx hb dL_law_860 rfl (lv_at hl 0 rfl) ?_
  refine lv_iload_n hx hb dL_law_861 rfl (lv_at hl 3 rfl) ?_
  refine lv_iconst (v := 3) hx hb dL_law_862 (by decide) ?_
  refine lv_iadd hx hb dL_law_863 ?_
  refine l_sld K M (l_in (k := 3) e3 (by omega) hL) hw3 dL_law_864 ?_
  refine l_callI (n := 3) (As := [.int (oI w1), .int (oI w2), .int (oI w3)]) K.1 ⟨M.1, M.2.2⟩ (hap x y) M.2.1 (fun sz => c_X6_pairs hfx sz) bw_658 bw_655 bw_656 bw_657 bw_84 rfl (by decide +kernel) 0 rfl rfl ⟨rfl, rfl⟩ ⟨Nat.le_of_ble_eq_true rfl, Nat.le_of_ble_eq_true rfl⟩ hl.1 rfl (Nat.le_of_ble_eq_true rfl) ⟨Nat.le_of_ble_eq_true rfl, Nat.le_of_ble_eq_true rfl⟩ dL_law_865 (fun H locs hP hP2 hS => ?_)
  have M : lmm D T a q A s H locs x' y := ⟨hP, hP2, hS⟩
  refine lv_aload_n hx hb dL_law_868 rfl (lv_at hl 2 rfl) ?_
  refine lv_aload_n hx hb dL_law_869 rfl (lv_at hl 0 rfl) ?_
  refine lv_iload_n hx hb dL_law_870 rfl (lv_at hl 3 rfl) ?_
  refine lv_iconst (v := 1) hx hb dL_law_871 (by decide) ?_
  refine lv_iadd hx hb dL_law_872 ?_
  refine l_sld K M (l_in (k := 1) e3 (by omega) hL) hw1 dL_law_873 ?_
  refine lv_aload_n hx hb dL_law_874 rfl (lv_at hl 0 rfl) ?_
  refine lv_iload_n hx hb dL_law_875 rfl (lv_at hl 3 rfl) ?_
  refine lv_iconst (v := 2) hx hb dL_law_876 (by decide) ?_
  refine lv_iadd hx hb dL_law_877 ?_
  refine l_sld K M (l_in (k := 2) e3 (by omega) hL) hw2 dL_law_878 ?_
  refine lv_aload_n hx hb dL_law_879 rfl (lv_at hl 0 rfl) ?_
  refine lv_iload_n hx hb dL_law_880 rfl (lv_at hl 3 rfl) ?_
  refine lv_iconst (v := 3) hx hb dL_law_881 (by decide) ?_
  refine lv_iadd hx hb dL_law_882 ?_
  refine l_sld K M (l_in (k := 3) e3 (by omega) hL) hw3 dL_law_883 ?_
  refine l_callI (n := 3) (As := [.int (oI w1), .int (oI w2), .int (oI w3)]) K.2.1 ⟨M.2.1, M.2.2⟩ (fun i j u v hu hv h => hap x' y j i v u hv hu h.symm) M.1 (fun sz => c_X7_pairs hfy sz) bw_975 bw_972 bw_973 bw_974 bw_91 rfl (by decide +kernel) 0 rfl rfl ⟨rfl, rfl⟩ ⟨Nat.le_of_ble_eq_true rfl, Nat.le_of_ble_eq_true rfl⟩ hl.1 rfl (Nat.le_of_ble_eq_true rfl) ⟨Nat.le_of_ble_eq_true rfl, Nat.le_of_ble_eq_true rfl⟩ dL_law_884 (fun H locs hP hP2 hS => ?_)
  have M : lmm D T a q A s H locs x' y' := ⟨hP2, hP, hS⟩
  refine lv_icmp_eq (tgt := 1206) hx hb dL_law_887 (by decide) (fun _ => ?_) (fun hc3 => absurd rfl hc3)
  exact hgo x' y' H locs ls hI2 M hl
set_option maxHeartbeats 4000000 in
set_option maxRecDepth 100000 in
theorem law_case18 {Inv : XS → XS → Prop} (hO : (∀ (w1 w2 w3 w4 w5 : Int), rg w1 → rg w2 → rg w3 → rg w4 → (w5 = 0 ∨ w5 = 1) → stepOK Inv (fun x => f_X6_pair x w1 w2 w3 w4 w5) (fun y => f_X7_pair y w1 w2 w3 w4 w5))) {D : va_G} {T : ClassId × ClassId} {a q : Nat → Nat} {A : Nat → Prop} {b L : Nat} {xs : Nat → Int32} {p : Program} {l : Launch} {e : Env} {s : State} {m : MethodId} {below : List Frame} {meth : Method} {c : Code} {Q : State → Prop} (K : lcx D T a q A b L xs p s m meth c) (hL : L ≤ 4096) {i : Nat} {x3 : Int32} (hi : i + 8 ≤ L) (e3 : x3 = nI i) {w1 w2 w3 w4 w5 : Int} (hw1 : xs (x3 + 1).toNatClampNeg = oI w1) (hg1 : rg w1) (hw2 : xs (x3 + 2).toNatClampNeg = oI w2) (hg2 : rg w2) (hw3 : xs (x3 + 3).toNatClampNeg = oI w3) (hg3 : rg w3) (hw4 : xs (x3 + 4).toNatClampNeg = oI w4) (hg4 : rg w4) (hw5 : xs (x3 + 5).toNatClampNeg = oI w5) (hg5 : rg w5) {x y : XS} (hI : Inv x y) {H : Heap} {locs : List Loc} {ls : Array Slot} (M : lmm D T a q A s H locs x y) (hl : lv_has ls 4 [(0, .ref b), (1, .ref (a 0)), (2, .ref (q 0)), (3, .int x3)])
    (hgo : ∀ (x y : XS) (H : Heap) (locs : List Loc) (ls : Array Slot), Inv x y → lmm D T a q A s H locs x y → lv_has ls 4 [(0, .ref b), (1, .ref (a 0)), (2, .ref (q 0)), (3, .int x3)] → W p l e room_1 s m #[Value.ref b] below meth c H locs 70 41445 Q (F0 m 1206 ls [])) : W p l e room_1 s m #[Value.ref b] below meth c H locs 70 41445 Q (F0 m 892 ls []) := by
  have hx := K.1.1
  have hb := K.1.2.1
  have hap := K.2.2.1
  refine lv_aload_n hx hb dL_law_892 rfl (lv_at hl 1 rfl) ?_
  refine lv_aload_n hx hb dL_law_893 rfl (lv_at hl 0 rfl) ?_
  refine lv_iload_n hx hb dL_law_894 rfl (lv_at hl 3 rfl) ?_
  refine lv_iconst (v := 1) hx hb dL_law_895 (by decide) ?_
  refine lv_iadd hx hb dL_law_896 ?_
  refine l_sld K M (l_in (k := 1) e3 (by omega) hL) hw1 dL_law_897 ?_
  refine lv_aload_n hx hb dL_law_898 rfl (lv_at hl 0 rfl) ?_
  refine lv_iload_n hx hb dL_law_899 rfl (lv_at hl 3 rfl) ?_
  refine lv_iconst (v := 2) hx hb dL_law_900 (by decide) ?_
  refine lv_iadd hx hb dL_law_901 ?_
  refine l_sld K M (l_in (k := 2) e3 (by omega) hL) hw2 dL_law_902 ?_
  refine lv_aload_n hx hb dL_law_903 rfl (lv_at hl 0 rfl) ?_
  refine lv_iload_n hx hb dL_law_904 rfl (lv_at hl 3 rfl) ?_
  refine lv_iconst (v := 3) hx hb dL_law_905 (by decide) ?_
  refine lv_iadd hx hb dL_law_906 ?_
  refine l_sld K M (l_in (k := 3) e3 (by omega) hL) hw3 dL_law_907 ?_
  refine lv_aload_n hx hb dL_law_908 rfl (lv_at hl 0 rfl) ?_
  refine lv_iload_n hx hb dL_law_909 rfl (lv_at hl 3 rfl) ?_
  refine lv_iconst (v := 4) hx hb dL_law_910 (by decide) ?_
  refine lv_iadd hx hb dL_law_911 ?_
  refine l_sld K M (l_in (k := 4) e3 (by omega) hL) hw4 dL_law_912 ?_
  refine lv_aload_n hx hb dL_law_913 rfl (lv_at hl 0 rfl) ?_
  refine lv_iload_n hx hb dL_law_914 rfl (lv_at hl 3 rfl) ?_
  refine lv_iconst (v := 5) hx hb dL_law_915 (by decide) ?_
  refine lv_iadd hx hb dL_law_916 ?_
  refine l_sld K M (l_in (k := 5) e3 (by omega) hL) hw5 dL_law_917 ?_
  refine lv_if_eq (tgt := 925) hx hb dL_law_918 (by decide) (fun hc => ?_) (fun hc => ?_)
  · obtain ⟨r, x', y', hfx, hfy, hI2⟩ := hO w1 w2 w3 w4 0 hg1 hg2 hg3 hg4 (Or.inl rfl) x y hI
    refine lv_iconst (v := oI 0) hx hb dL_law_925 (by decide) ?_
    refine l_callI (n := 5) (As := [.int (oI w1), .int (oI w2), .int (oI w3), .int (oI w4), .int (oI 0)]) K.1 ⟨M.1, M.2.2⟩ (hap x y) M.2.1 (fun sz => c_X6_pair nb_0 hfx sz) bw_670 bw_667 bw_668 bw_669 bw_84 rfl (by decide +kernel) 0 rfl rfl ⟨rfl, rfl⟩ ⟨Nat.le_of_ble_eq_true rfl, Nat.le_of_ble_eq_true rfl⟩ hl.1 rfl (Nat.le_of_ble_eq_true rfl) ⟨Nat.le_of_ble_eq_true rfl, Nat.le_of_ble_eq_true rfl⟩ dL_law_926 (fun H locs hP hP2 hS => ?_)
    have M : lmm D T a q A s H locs x' y := ⟨hP, hP2, hS⟩
    refine lv_aload_n hx hb dL_law_929 rfl (lv_at hl 2 rfl) ?_
    refine lv_aload_n hx hb dL_law_930 rfl (lv_at hl 0 rfl) ?_
    refine lv_iload_n hx hb dL_law_931 rfl (lv_at hl 3 rfl) ?_
    refine lv_iconst (v := 1) hx hb dL_law_932 (by decide) ?_
    refine lv_iadd hx hb dL_law_933 ?_
    refine l_sld K M (l_in (k := 1) e3 (by omega) hL) hw1 dL_law_934 ?_
    refine lv_aload_n hx hb dL_law_935 rfl (lv_at hl 0 rfl) ?_
    refine lv_iload_n hx hb dL_law_936 rfl (lv_at hl 3 rfl) ?_
    refine lv_iconst (v := 2) hx hb dL_law_937 (by decide) ?_
    refine lv_iadd hx hb dL_law_938 ?_
    refine l_sld K M (l_in (k := 2) e3 (by omega) hL) hw2 dL_law_939 ?_
    refine lv_aload_n hx hb dL_law_940 rfl (lv_at hl 0 rfl) ?_
    refine lv_iload_n hx hb dL_law_941 rfl (lv_at hl 3 rfl) ?_
    refine lv_iconst (v := 3) hx hb dL_law_942 (by decide) ?_
    refine lv_iadd hx hb dL_law_943 ?_
    refine l_sld K M (l_in (k := 3) e3 (by omega) hL) hw3 dL_law_944 ?_
    refine lv_aload_n hx hb dL_law_945 rfl (lv_at hl 0 rfl) ?_
    refine lv_iload_n hx hb dL_law_946 rfl (lv_at hl 3 rfl) ?_
    refine lv_iconst (v := 4) hx hb dL_law_947 (by decide) ?_
    refine lv_iadd hx hb dL_law_948 ?_
    refine l_sld K M (l_in (k := 4) e3 (by omega) hL) hw4 dL_law_949 ?_
    refine lv_aload_n hx hb dL_law_950 rfl (lv_at hl 0 rfl) ?_
    refine lv_iload_n hx hb dL_law_951 rfl (lv_at hl 3 rfl) ?_
    refine lv_iconst (v := 5) hx hb dL_law_952 (by decide) ?_
    refine lv_iadd hx hb dL_law_953 ?_
    refine l_sld K M (l_in (k := 5) e3 (by omega) hL) hw5 dL_law_954 ?_
    refine lv_if_eq (tgt := 962) hx hb dL_law_955 (by decide) (fun hc2 => ?_) (fun hc2 => absurd hc hc2)
    refine lv_iconst (v := oI 0) hx hb dL_law_962 (by decide) ?_
    refine l_callI (n := 5) (As := [.int (oI w1), .int (oI w2), .int (oI w3), .int (oI w4), .int (oI 0)]) K.2.1 ⟨M.2.1, M.2.2⟩ (fun i j u v hu hv h => hap x' y j i v u hv hu h.symm) M.1 (fun sz => c_X7_pair nb_0 hfy sz) bw_983 bw_980 bw_981 bw_982 bw_91 rfl (by decide +kernel) 0 rfl rfl ⟨rfl, rfl⟩ ⟨Nat.le_of_ble_eq_true rfl, Nat.le_of_ble_eq_true rfl⟩ hl.1 rfl (Nat.le_of_ble_eq_true rfl) ⟨Nat.le_of_ble_eq_true rfl, Nat.le_of_ble_eq_true rfl⟩ dL_law_963 (fun H locs hP hP2 hS => ?_)
    have M : lmm D T a q A s H locs x' y' := ⟨hP2, hP, hS⟩
    refine lv_icmp_eq (tgt := 1206) hx hb dL_law_966 (by decide) (fun _ => ?_) (fun hc3 => absurd rfl hc3)
    exact hgo x' y' H locs ls hI2 M hl
  · obtain ⟨r, x', y', hfx, hfy, hI2⟩ := hO w1 w2 w3 w4 1 hg1 hg2 hg3 hg4 (Or.inr rfl) x y hI
    refine lv_iconst (v := oI 1) hx hb dL_law_921 (by decide) ?_
    refine lv_goto (tgt := 926) hx hb dL_law_922 (by decide) ?_
    refine l_callI (n := 5) (As := [.int (oI w1), .int (oI w2), .int (oI w3), .int (oI w4), .int (oI 1)]) K.1 ⟨M.1, M.2.2⟩ (hap x y) M.2.1 (fun sz => c_X6_pair nb_1 hfx sz) bw_670 bw_667 bw_668 bw_669 bw_84 rfl (by decide +kernel) 0 rfl rfl ⟨rfl, rfl⟩ ⟨Nat.le_of_ble_eq_true rfl, Nat.le_of_ble_eq_true rfl⟩ hl.1 rfl (Nat.le_of_ble_eq_true rfl) ⟨Nat.le_of_ble_eq_true rfl, Nat.le_of_ble_eq_true rfl⟩ dL_law_926 (fun H locs hP hP2 hS => ?_)
    have M : lmm D T a q A s H locs x' y := ⟨hP, hP2, hS⟩
    refine lv_aload_n hx hb dL_law_929 rfl (lv_at hl 2 rfl) ?_
    refine lv_aload_n hx hb dL_law_930 rfl (lv_at hl 0 rfl) ?_
    refine lv_iload_n hx hb dL_law_931 rfl (lv_at hl 3 rfl) ?_
    refine lv_iconst (v := 1) hx hb dL_law_932 (by decide) ?_
    refine lv_iadd hx hb dL_law_933 ?_
    refine l_sld K M (l_in (k := 1) e3 (by omega) hL) hw1 dL_law_934 ?_
    refine lv_aload_n hx hb dL_law_935 rfl (lv_at hl 0 rfl) ?_
    refine lv_iload_n hx hb dL_law_936 rfl (lv_at hl 3 rfl) ?_
    refine lv_iconst (v := 2) hx hb dL_law_937 (by decide) ?_
    refine lv_iadd hx hb dL_law_938 ?_
    refine l_sld K M (l_in (k := 2) e3 (by omega) hL) hw2 dL_law_939 ?_
    refine lv_aload_n hx hb dL_law_940 rfl (lv_at hl 0 rfl) ?_
    refine lv_iload_n hx hb dL_law_941 rfl (lv_at hl 3 rfl) ?_
    refine lv_iconst (v := 3) hx hb dL_law_942 (by decide) ?_
    refine lv_iadd hx hb dL_law_943 ?_
    refine l_sld K M (l_in (k := 3) e3 (by omega) hL) hw3 dL_law_944 ?_
    refine lv_aload_n hx hb dL_law_945 rfl (lv_at hl 0 rfl) ?_
    refine lv_iload_n hx hb dL_law_946 rfl (lv_at hl 3 rfl) ?_
    refine lv_iconst (v := 4) hx hb dL_law_947 (by decide) ?_
    refine lv_iadd hx hb dL_law_948 ?_
    refine l_sld K M (l_in (k := 4) e3 (by omega) hL) hw4 dL_law_949 ?_
    refine lv_aload_n hx hb dL_law_950 rfl (lv_at hl 0 rfl) ?_
    refine lv_iload_n hx hb dL_law_951 rfl (lv_at hl 3 rfl) ?_
    refine lv_iconst (v := 5) hx hb dL_law_952 (by decide) ?_
    refine lv_iadd hx hb dL_law_953 ?_
    refine l_sld K M (l_in (k := 5) e3 (by omega) hL) hw5 dL_law_954 ?_
    refine lv_if_eq (tgt := 962) hx hb dL_law_955 (by decide) (fun hc2 => absurd hc2 hc) (fun hc2 => ?_)
    refine lv_iconst (v := oI 1) hx hb dL_law_958 (by decide) ?_
    refine lv_goto (tgt := 963) hx hb dL_law_959 (by decide) ?_
    refine l_callI (n := 5) (As := [.int (oI w1), .int (oI w2), .int (oI w3), .int (oI w4), .int (oI 1)]) K.2.1 ⟨M.2.1, M.2.2⟩ (fun i j u v hu hv h => hap x' y j i v u hv hu h.symm) M.1 (fun sz => c_X7_pair nb_1 hfy sz) bw_983 bw_980 bw_981 bw_982 bw_91 rfl (by decide +kernel) 0 rfl rfl ⟨rfl, rfl⟩ ⟨Nat.le_of_ble_eq_true rfl, Nat.le_of_ble_eq_true rfl⟩ hl.1 rfl (Nat.le_of_ble_eq_true rfl) ⟨Nat.le_of_ble_eq_true rfl, Nat.le_of_ble_eq_true rfl⟩ dL_law_963 (fun H locs hP hP2 hS => ?_)
    have M : lmm D T a q A s H locs x' y' := ⟨hP2, hP, hS⟩
    refine lv_icmp_eq (tgt := 1206) hx hb dL_law_966 (by decide) (fun _ => ?_) (fun hc3 => absurd rfl hc3)
    exact hgo x' y' H locs ls hI2 M hl
set_option maxHeartbeats 4000000 in
set_option maxRecDepth 100000 in
theorem law_case19 {Inv : XS → XS → Prop} (hO : (∀ (w1 w2 w3 w4 : Int), rg w1 → rg w2 → rg w3 → rg w4 → stepOK Inv (fun x => f_X6_reached x w1 w2 w3 w4) (fun y => f_X7_reached y w1 w2 w3 w4))) {D : va_G} {T : ClassId × ClassId} {a q : Nat → Nat} {A : Nat → Prop} {b L : Nat} {xs : Nat → Int32} {p : Program} {l : Launch} {e : Env} {s : State} {m : MethodId} {below : List Frame} {meth : Method} {c : Code} {Q : State → Prop} (K : lcx D T a q A b L xs p s m meth c) (hL : L ≤ 4096) {i : Nat} {x3 : Int32} (hi : i + 8 ≤ L) (e3 : x3 = nI i) {w1 w2 w3 w4 : Int} (hw1 : xs (x3 + 1).toNatClampNeg = oI w1) (hg1 : rg w1) (hw2 : xs (x3 + 2).toNatClampNeg = oI w2) (hg2 : rg w2) (hw3 : xs (x3 + 3).toNatClampNeg = oI w3) (hg3 : rg w3) (hw4 : xs (x3 + 4).toNatClampNeg = oI w4) (hg4 : rg w4) {x y : XS} (hI : Inv x y) {H : Heap} {locs : List Loc} {ls : Array Slot} (M : lmm D T a q A s H locs x y) (hl : lv_has ls 4 [(0, .ref b), (1, .ref (a 0)), (2, .ref (q 0)), (3, .int x3)])
    (hgo : ∀ (x y : XS) (H : Heap) (locs : List Loc) (ls : Array Slot), Inv x y → lmm D T a q A s H locs x y → lv_has ls 4 [(0, .ref b), (1, .ref (a 0)), (2, .ref (q 0)), (3, .int x3)] → W p l e room_1 s m #[Value.ref b] below meth c H locs 70 41445 Q (F0 m 1206 ls [])) : W p l e room_1 s m #[Value.ref b] below meth c H locs 70 41445 Q (F0 m 971 ls []) := by
  have hx := K.1.1
  have hb := K.1.2.1
  have hap := K.2.2.1
  obtain ⟨r, x', y', hfx, hfy, hI2⟩ := hO w1 w2 w3 w4 hg1 hg2 hg3 hg4 x y hI
  refine lv_aload_n hx hb dL_law_971 rfl (lv_at hl 1 rfl) ?_
  refine lv_aload_n hx hb dL_law_972 rfl (lv_at hl 0 rfl) ?_
  refine lv_iload_n hx hb dL_law_973 rfl (lv_at hl 3 rfl) ?_
  refine lv_iconst (v := 1) hx hb dL_law_974 (by decide) ?_
  refine lv_iadd hx hb dL_law_975 ?_
  refine l_sld K M (l_in (k := 1) e3 (by omega) hL) hw1 dL_law_976 ?_
  refine lv_aload_n hx hb dL_law_977 rfl (lv_at hl 0 rfl) ?_
  refine lv_iload_n hx hb dL_law_978 rfl (lv_at hl 3 rfl) ?_
  refine lv_iconst (v := 2) hx hb dL_law_979 (by decide) ?_
  refine lv_iadd hx hb dL_law_980 ?_
  refine l_sld K M (l_in (k := 2) e3 (by omega) hL) hw2 dL_law_981 ?_
  refine lv_aload_n hx hb dL_law_982 rfl (lv_at hl 0 rfl) ?_
  refine lv_iload_n hx hb dL_law_983 rfl (lv_at hl 3 rfl) ?_
  refine lv_iconst (v := 3) hx hb dL_law_984 (by decide) ?_
  refine lv_iadd hx hb dL_law_985 ?_
  refine l_sld K M (l_in (k := 3) e3 (by omega) hL) hw3 dL_law_986 ?_
  refine lv_aload_n hx hb dL_law_987 rfl (lv_at hl 0 rfl) ?_
  refine lv_iload_n hx hb dL_law_988 rfl (lv_at hl 3 rfl) ?_
  refine lv_iconst (v := 4) hx hb dL_law_989 (by decide) ?_
  refine lv_iadd hx hb dL_law_990 ?_
  refine l_sld K M (l_in (k := 4) e3 (by omega) hL) hw4 dL_law_991 ?_
  refine l_callI (n := 4) (As := [.int (oI w1), .int (oI w2), .int (oI w3), .int (oI w4)]) K.1 ⟨M.1, M.2.2⟩ (hap x y) M.2.1 (fun sz => c_X6_reached hfx sz) bw_679 bw_676 bw_677 bw_678 bw_84 rfl (by decide +kernel) 0 rfl rfl ⟨rfl, rfl⟩ ⟨Nat.le_of_ble_eq_true rfl, Nat.le_of_ble_eq_true rfl⟩ hl.1 rfl (Nat.le_of_ble_eq_true rfl) ⟨Nat.le_of_ble_eq_true rfl, Nat.le_of_ble_eq_true rfl⟩ dL_law_992 (fun H locs hP hP2 hS => ?_)
  have M : lmm D T a q A s H locs x' y := ⟨hP, hP2, hS⟩
  refine lv_aload_n hx hb dL_law_995 rfl (lv_at hl 2 rfl) ?_
  refine lv_aload_n hx hb dL_law_996 rfl (lv_at hl 0 rfl) ?_
  refine lv_iload_n hx hb dL_law_997 rfl (lv_at hl 3 rfl) ?_
  refine lv_iconst (v := 1) hx hb dL_law_998 (by decide) ?_
  refine lv_iadd hx hb dL_law_999 ?_
  refine l_sld K M (l_in (k := 1) e3 (by omega) hL) hw1 dL_law_1000 ?_
  refine lv_aload_n hx hb dL_law_1001 rfl (lv_at hl 0 rfl) ?_
  refine lv_iload_n hx hb dL_law_1002 rfl (lv_at hl 3 rfl) ?_
  refine lv_iconst (v := 2) hx hb dL_law_1003 (by decide) ?_
  refine lv_iadd hx hb dL_law_1004 ?_
  refine l_sld K M (l_in (k := 2) e3 (by omega) hL) hw2 dL_law_1005 ?_
  refine lv_aload_n hx hb dL_law_1006 rfl (lv_at hl 0 rfl) ?_
  refine lv_iload_n hx hb dL_law_1007 rfl (lv_at hl 3 rfl) ?_
  refine lv_iconst (v := 3) hx hb dL_law_1008 (by decide) ?_
  refine lv_iadd hx hb dL_law_1009 ?_
  refine l_sld K M (l_in (k := 3) e3 (by omega) hL) hw3 dL_law_1010 ?_
  refine lv_aload_n hx hb dL_law_1011 rfl (lv_at hl 0 rfl) ?_
  refine lv_iload_n hx hb dL_law_1012 rfl (lv_at hl 3 rfl) ?_
  refine lv_iconst (v := 4) hx hb dL_law_1013 (by decide) ?_
  refine lv_iadd hx hb dL_law_1014 ?_
  refine l_sld K M (l_in (k := 4) e3 (by omega) hL) hw4 dL_law_1015 ?_
  refine l_callI (n := 4) (As := [.int (oI w1), .int (oI w2), .int (oI w3), .int (oI w4)]) K.2.1 ⟨M.2.1, M.2.2⟩ (fun i j u v hu hv h => hap x' y j i v u hv hu h.symm) M.1 (fun sz => c_X7_reached hfy sz) bw_987 bw_984 bw_985 bw_986 bw_91 rfl (by decide +kernel) 0 rfl rfl ⟨rfl, rfl⟩ ⟨Nat.le_of_ble_eq_true rfl, Nat.le_of_ble_eq_true rfl⟩ hl.1 rfl (Nat.le_of_ble_eq_true rfl) ⟨Nat.le_of_ble_eq_true rfl, Nat.le_of_ble_eq_true rfl⟩ dL_law_1016 (fun H locs hP hP2 hS => ?_)
  have M : lmm D T a q A s H locs x' y' := ⟨hP2, hP, hS⟩
  refine lv_icmp_eq (tgt := 1206) hx hb dL_law_1019 (by decide) (fun _ => ?_) (fun hc3 => absurd rfl hc3)
  exact hgo x' y' H locs ls hI2 M hl
set_option maxHeartbeats 4000000 in
set_option maxRecDepth 100000 in
theorem law_case20 {Inv : XS → XS → Prop} (hO : (∀ (w1 w2 w3 w4 w5 : Int), rg w1 → rg w2 → rg w3 → rg w4 → rg w5 → stepOK Inv (fun x => f_X6_isReached x w1 w2 w3 w4 w5) (fun y => f_X7_isReached y w1 w2 w3 w4 w5))) {D : va_G} {T : ClassId × ClassId} {a q : Nat → Nat} {A : Nat → Prop} {b L : Nat} {xs : Nat → Int32} {p : Program} {l : Launch} {e : Env} {s : State} {m : MethodId} {below : List Frame} {meth : Method} {c : Code} {Q : State → Prop} (K : lcx D T a q A b L xs p s m meth c) (hL : L ≤ 4096) {i : Nat} {x3 : Int32} (hi : i + 8 ≤ L) (e3 : x3 = nI i) {w1 w2 w3 w4 w5 : Int} (hw1 : xs (x3 + 1).toNatClampNeg = oI w1) (hg1 : rg w1) (hw2 : xs (x3 + 2).toNatClampNeg = oI w2) (hg2 : rg w2) (hw3 : xs (x3 + 3).toNatClampNeg = oI w3) (hg3 : rg w3) (hw4 : xs (x3 + 4).toNatClampNeg = oI w4) (hg4 : rg w4) (hw5 : xs (x3 + 5).toNatClampNeg = oI w5) (hg5 : rg w5) {x y : XS} (hI : Inv x y) {H : Heap} {locs : List Loc} {ls : Array Slot} (M : lmm D T a q A s H locs x y) (hl : lv_has ls 4 [(0, .ref b), (1, .ref (a 0)), (2, .ref (q 0)), (3, .int x3)])
    (hgo : ∀ (x y : XS) (H : Heap) (locs : List Loc) (ls : Array Slot), Inv x y → lmm D T a q A s H locs x y → lv_has ls 4 [(0, .ref b), (1, .ref (a 0)), (2, .ref (q 0)), (3, .int x3)] → W p l e room_1 s m #[Value.ref b] below meth c H locs 70 41445 Q (F0 m 1206 ls [])) : W p l e room_1 s m #[Value.ref b] below meth c H locs 70 41445 Q (F0 m 1024 ls []) := by
  have hx := K.1.1
  have hb := K.1.2.1
  have hap := K.2.2.1
  obtain ⟨r, x', y', hfx, hfy, hI2⟩ := hO w1 w2 w3 w4 w5 hg1 hg2 hg3 hg4 hg5 x y hI
  refine lv_aload_n hx hb dL_law_1024 rfl (lv_at hl 1 rfl) ?_
  refine lv_aload_n hx hb dL_law_1025 rfl (lv_at hl 0 rfl) ?_
  refine lv_iload_n hx hb dL_law_1026 rfl (lv_at hl 3 rfl) ?_
  refine lv_iconst (v := 1) hx hb dL_law_1027 (by decide) ?_
  refine lv_iadd hx hb dL_law_1028 ?_
  refine l_sld K M (l_in (k := 1) e3 (by omega) hL) hw1 dL_law_1029 ?_
  refine lv_aload_n hx hb dL_law_1030 rfl (lv_at hl 0 rfl) ?_
  refine lv_iload_n hx hb dL_law_1031 rfl (lv_at hl 3 rfl) ?_
  refine lv_iconst (v := 2) hx hb dL_law_1032 (by decide) ?_
  refine lv_iadd hx hb dL_law_1033 ?_
  refine l_sld K M (l_in (k := 2) e3 (by omega) hL) hw2 dL_law_1034 ?_
  refine lv_aload_n hx hb dL_law_1035 rfl (lv_at hl 0 rfl) ?_
  refine lv_iload_n hx hb dL_law_1036 rfl (lv_at hl 3 rfl) ?_
  refine lv_iconst (v := 3) hx hb dL_law_1037 (by decide) ?_
  refine lv_iadd hx hb dL_law_1038 ?_
  refine l_sld K M (l_in (k := 3) e3 (by omega) hL) hw3 dL_law_1039 ?_
  refine lv_aload_n hx hb dL_law_1040 rfl (lv_at hl 0 rfl) ?_
  refine lv_iload_n hx hb dL_law_1041 rfl (lv_at hl 3 rfl) ?_
  refine lv_iconst (v := 4) hx hb dL_law_1042 (by decide) ?_
  refine lv_iadd hx hb dL_law_1043 ?_
  refine l_sld K M (l_in (k := 4) e3 (by omega) hL) hw4 dL_law_1044 ?_
  refine lv_aload_n hx hb dL_law_1045 rfl (lv_at hl 0 rfl) ?_
  refine lv_iload_n hx hb dL_law_1046 rfl (lv_at hl 3 rfl) ?_
  refine lv_iconst (v := 5) hx hb dL_law_1047 (by decide) ?_
  refine lv_iadd hx hb dL_law_1048 ?_
  refine l_sld K M (l_in (k := 5) e3 (by omega) hL) hw5 dL_law_1049 ?_
  refine l_callI (n := 5) (As := [.int (oI w1), .int (oI w2), .int (oI w3), .int (oI w4), .int (oI w5)]) K.1 ⟨M.1, M.2.2⟩ (hap x y) M.2.1 (fun sz => c_X6_isReached hfx sz) bw_691 bw_688 bw_689 bw_690 bw_84 rfl (by decide +kernel) 0 rfl rfl ⟨rfl, rfl⟩ ⟨Nat.le_of_ble_eq_true rfl, Nat.le_of_ble_eq_true rfl⟩ hl.1 rfl (Nat.le_of_ble_eq_true rfl) ⟨Nat.le_of_ble_eq_true rfl, Nat.le_of_ble_eq_true rfl⟩ dL_law_1050 (fun H locs hP hP2 hS => ?_)
  have M : lmm D T a q A s H locs x' y := ⟨hP, hP2, hS⟩
  refine lv_aload_n hx hb dL_law_1053 rfl (lv_at hl 2 rfl) ?_
  refine lv_aload_n hx hb dL_law_1054 rfl (lv_at hl 0 rfl) ?_
  refine lv_iload_n hx hb dL_law_1055 rfl (lv_at hl 3 rfl) ?_
  refine lv_iconst (v := 1) hx hb dL_law_1056 (by decide) ?_
  refine lv_iadd hx hb dL_law_1057 ?_
  refine l_sld K M (l_in (k := 1) e3 (by omega) hL) hw1 dL_law_1058 ?_
  refine lv_aload_n hx hb dL_law_1059 rfl (lv_at hl 0 rfl) ?_
  refine lv_iload_n hx hb dL_law_1060 rfl (lv_at hl 3 rfl) ?_
  refine lv_iconst (v := 2) hx hb dL_law_1061 (by decide) ?_
  refine lv_iadd hx hb dL_law_1062 ?_
  refine l_sld K M (l_in (k := 2) e3 (by omega) hL) hw2 dL_law_1063 ?_
  refine lv_aload_n hx hb dL_law_1064 rfl (lv_at hl 0 rfl) ?_
  refine lv_iload_n hx hb dL_law_1065 rfl (lv_at hl 3 rfl) ?_
  refine lv_iconst (v := 3) hx hb dL_law_1066 (by decide) ?_
  refine lv_iadd hx hb dL_law_1067 ?_
  refine l_sld K M (l_in (k := 3) e3 (by omega) hL) hw3 dL_law_1068 ?_
  refine lv_aload_n hx hb dL_law_1069 rfl (lv_at hl 0 rfl) ?_
  refine lv_iload_n hx hb dL_law_1070 rfl (lv_at hl 3 rfl) ?_
  refine lv_iconst (v := 4) hx hb dL_law_1071 (by decide) ?_
  refine lv_iadd hx hb dL_law_1072 ?_
  refine l_sld K M (l_in (k := 4) e3 (by omega) hL) hw4 dL_law_1073 ?_
  refine lv_aload_n hx hb dL_law_1074 rfl (lv_at hl 0 rfl) ?_
  refine lv_iload_n hx hb dL_law_1075 rfl (lv_at hl 3 rfl) ?_
  refine lv_iconst (v := 5) hx hb dL_law_1076 (by decide) ?_
  refine lv_iadd hx hb dL_law_1077 ?_
  refine l_sld K M (l_in (k := 5) e3 (by omega) hL) hw5 dL_law_1078 ?_
  refine l_callI (n := 5) (As := [.int (oI w1), .int (oI w2), .int (oI w3), .int (oI w4), .int (oI w5)]) K.2.1 ⟨M.2.1, M.2.2⟩ (fun i j u v hu hv h => hap x' y j i v u hv hu h.symm) M.1 (fun sz => c_X7_isReached hfy sz) bw_999 bw_996 bw_997 bw_998 bw_91 rfl (by decide +kernel) 0 rfl rfl ⟨rfl, rfl⟩ ⟨Nat.le_of_ble_eq_true rfl, Nat.le_of_ble_eq_true rfl⟩ hl.1 rfl (Nat.le_of_ble_eq_true rfl) ⟨Nat.le_of_ble_eq_true rfl, Nat.le_of_ble_eq_true rfl⟩ dL_law_1079 (fun H locs hP hP2 hS => ?_)
  have M : lmm D T a q A s H locs x' y' := ⟨hP2, hP, hS⟩
  refine lv_icmp_eq (tgt := 1206) hx hb dL_law_1082 (by decide) (fun _ => ?_) (fun hc3 => absurd rfl hc3)
  exact hgo x' y' H locs ls hI2 M hl
set_option maxHeartbeats 4000000 in
set_option maxRecDepth 100000 in
theorem law_case21 {Inv : XS → XS → Prop} (hO : (∀ (w1 w2 w3 w4 : Int), rg w1 → rg w2 → rg w3 → rg w4 → stepOK Inv (fun x => f_X6_without x w1 w2 w3 w4) (fun y => f_X7_without y w1 w2 w3 w4))) {D : va_G} {T : ClassId × ClassId} {a q : Nat → Nat} {A : Nat → Prop} {b L : Nat} {xs : Nat → Int32} {p : Program} {l : Launch} {e : Env} {s : State} {m : MethodId} {below : List Frame} {meth : Method} {c : Code} {Q : State → Prop} (K : lcx D T a q A b L xs p s m meth c) (hL : L ≤ 4096) {i : Nat} {x3 : Int32} (hi : i + 8 ≤ L) (e3 : x3 = nI i) {w1 w2 w3 w4 : Int} (hw1 : xs (x3 + 1).toNatClampNeg = oI w1) (hg1 : rg w1) (hw2 : xs (x3 + 2).toNatClampNeg = oI w2) (hg2 : rg w2) (hw3 : xs (x3 + 3).toNatClampNeg = oI w3) (hg3 : rg w3) (hw4 : xs (x3 + 4).toNatClampNeg = oI w4) (hg4 : rg w4) {x y : XS} (hI : Inv x y) {H : Heap} {locs : List Loc} {ls : Array Slot} (M : lmm D T a q A s H locs x y) (hl : lv_has ls 4 [(0, .ref b), (1, .ref (a 0)), (2, .ref (q 0)), (3, .int x3)])
    (hgo : ∀ (x y : XS) (H : Heap) (locs : List Loc) (ls : Array Slot), Inv x y → lmm D T a q A s H locs x y → lv_has ls 4 [(0, .ref b), (1, .ref (a 0)), (2, .ref (q 0)), (3, .int x3)] → W p l e room_1 s m #[Value.ref b] below meth c H locs 70 41445 Q (F0 m 1206 ls [])) : W p l e room_1 s m #[Value.ref b] below meth c H locs 70 41445 Q (F0 m 1087 ls []) := by
  have hx := K.1.1
  have hb := K.1.2.1
  have hap := K.2.2.1
  obtain ⟨r, x', y', hfx, hfy, hI2⟩ := hO w1 w2 w3 w4 hg1 hg2 hg3 hg4 x y hI
  refine lv_aload_n hx hb dL_law_1087 rfl (lv_at hl 1 rfl) ?_
  refine lv_aload_n hx hb dL_law_1088 rfl (lv_at hl 0 rfl) ?_
  refine lv_iload_n hx hb dL_law_1089 rfl (lv_at hl 3 rfl) ?_
  refine lv_iconst (v := 1) hx hb dL_law_1090 (by decide) ?_
  refine lv_iadd hx hb dL_law_1091 ?_
  refine l_sld K M (l_in (k := 1) e3 (by omega) hL) hw1 dL_law_1092 ?_
  refine lv_aload_n hx hb dL_law_1093 rfl (lv_at hl 0 rfl) ?_
  refine lv_iload_n hx hb dL_law_1094 rfl (lv_at hl 3 rfl) ?_
  refine lv_iconst (v := 2) hx hb dL_law_1095 (by decide) ?_
  refine lv_iadd hx hb dL_law_1096 ?_
  refine l_sld K M (l_in (k := 2) e3 (by omega) hL) hw2 dL_law_1097 ?_
  refine lv_aload_n hx hb dL_law_1098 rfl (lv_at hl 0 rfl) ?_
  refine lv_iload_n hx hb dL_law_1099 rfl (lv_at hl 3 rfl) ?_
  refine lv_iconst (v := 3) hx hb dL_law_1100 (by decide) ?_
  refine lv_iadd hx hb dL_law_1101 ?_
  refine l_sld K M (l_in (k := 3) e3 (by omega) hL) hw3 dL_law_1102 ?_
  refine lv_aload_n hx hb dL_law_1103 rfl (lv_at hl 0 rfl) ?_
  refine lv_iload_n hx hb dL_law_1104 rfl (lv_at hl 3 rfl) ?_
  refine lv_iconst (v := 4) hx hb dL_law_1105 (by decide) ?_
  refine lv_iadd hx hb dL_law_1106 ?_
  refine l_sld K M (l_in (k := 4) e3 (by omega) hL) hw4 dL_law_1107 ?_
  refine l_callI (n := 4) (As := [.int (oI w1), .int (oI w2), .int (oI w3), .int (oI w4)]) K.1 ⟨M.1, M.2.2⟩ (hap x y) M.2.1 (fun sz => c_X6_without hfx sz) bw_695 bw_692 bw_693 bw_694 bw_84 rfl (by decide +kernel) 0 rfl rfl ⟨rfl, rfl⟩ ⟨Nat.le_of_ble_eq_true rfl, Nat.le_of_ble_eq_true rfl⟩ hl.1 rfl (Nat.le_of_ble_eq_true rfl) ⟨Nat.le_of_ble_eq_true rfl, Nat.le_of_ble_eq_true rfl⟩ dL_law_1108 (fun H locs hP hP2 hS => ?_)
  have M : lmm D T a q A s H locs x' y := ⟨hP, hP2, hS⟩
  refine lv_aload_n hx hb dL_law_1111 rfl (lv_at hl 2 rfl) ?_
  refine lv_aload_n hx hb dL_law_1112 rfl (lv_at hl 0 rfl) ?_
  refine lv_iload_n hx hb dL_law_1113 rfl (lv_at hl 3 rfl) ?_
  refine lv_iconst (v := 1) hx hb dL_law_1114 (by decide) ?_
  refine lv_iadd hx hb dL_law_1115 ?_
  refine l_sld K M (l_in (k := 1) e3 (by omega) hL) hw1 dL_law_1116 ?_
  refine lv_aload_n hx hb dL_law_1117 rfl (lv_at hl 0 rfl) ?_
  refine lv_iload_n hx hb dL_law_1118 rfl (lv_at hl 3 rfl) ?_
  refine lv_iconst (v := 2) hx hb dL_law_1119 (by decide) ?_
  refine lv_iadd hx hb dL_law_1120 ?_
  refine l_sld K M (l_in (k := 2) e3 (by omega) hL) hw2 dL_law_1121 ?_
  refine lv_aload_n hx hb dL_law_1122 rfl (lv_at hl 0 rfl) ?_
  refine lv_iload_n hx hb dL_law_1123 rfl (lv_at hl 3 rfl) ?_
  refine lv_iconst (v := 3) hx hb dL_law_1124 (by decide) ?_
  refine lv_iadd hx hb dL_law_1125 ?_
  refine l_sld K M (l_in (k := 3) e3 (by omega) hL) hw3 dL_law_1126 ?_
  refine lv_aload_n hx hb dL_law_1127 rfl (lv_at hl 0 rfl) ?_
  refine lv_iload_n hx hb dL_law_1128 rfl (lv_at hl 3 rfl) ?_
  refine lv_iconst (v := 4) hx hb dL_law_1129 (by decide) ?_
  refine lv_iadd hx hb dL_law_1130 ?_
  refine l_sld K M (l_in (k := 4) e3 (by omega) hL) hw4 dL_law_1131 ?_
  refine l_callI (n := 4) (As := [.int (oI w1), .int (oI w2), .int (oI w3), .int (oI w4)]) K.2.1 ⟨M.2.1, M.2.2⟩ (fun i j u v hu hv h => hap x' y j i v u hv hu h.symm) M.1 (fun sz => c_X7_without hfy sz) bw_1003 bw_1000 bw_1001 bw_1002 bw_91 rfl (by decide +kernel) 0 rfl rfl ⟨rfl, rfl⟩ ⟨Nat.le_of_ble_eq_true rfl, Nat.le_of_ble_eq_true rfl⟩ hl.1 rfl (Nat.le_of_ble_eq_true rfl) ⟨Nat.le_of_ble_eq_true rfl, Nat.le_of_ble_eq_true rfl⟩ dL_law_1132 (fun H locs hP hP2 hS => ?_)
  have M : lmm D T a q A s H locs x' y' := ⟨hP2, hP, hS⟩
  refine lv_icmp_eq (tgt := 1206) hx hb dL_law_1135 (by decide) (fun _ => ?_) (fun hc3 => absurd rfl hc3)
  exact hgo x' y' H locs ls hI2 M hl
set_option maxHeartbeats 4000000 in
set_option maxRecDepth 100000 in
theorem law_case22 {Inv : XS → XS → Prop} (hO : (∀ (w1 w2 w3 : Int), rg w1 → rg w2 → rg w3 → stepOK Inv (fun x => f_X6_weakest x w1 w2 w3) (fun y => f_X7_weakest y w1 w2 w3))) {D : va_G} {T : ClassId × ClassId} {a q : Nat → Nat} {A : Nat → Prop} {b L : Nat} {xs : Nat → Int32} {p : Program} {l : Launch} {e : Env} {s : State} {m : MethodId} {below : List Frame} {meth : Method} {c : Code} {Q : State → Prop} (K : lcx D T a q A b L xs p s m meth c) (hL : L ≤ 4096) {i : Nat} {x3 : Int32} (hi : i + 8 ≤ L) (e3 : x3 = nI i) {w1 w2 w3 : Int} (hw1 : xs (x3 + 1).toNatClampNeg = oI w1) (hg1 : rg w1) (hw2 : xs (x3 + 2).toNatClampNeg = oI w2) (hg2 : rg w2) (hw3 : xs (x3 + 3).toNatClampNeg = oI w3) (hg3 : rg w3) {x y : XS} (hI : Inv x y) {H : Heap} {locs : List Loc} {ls : Array Slot} (M : lmm D T a q A s H locs x y) (hl : lv_has ls 4 [(0, .ref b), (1, .ref (a 0)), (2, .ref (q 0)), (3, .int x3)])
    (hgo : ∀ (x y : XS) (H : Heap) (locs : List Loc) (ls : Array Slot), Inv x y → lmm D T a q A s H locs x y → lv_has ls 4 [(0, .ref b), (1, .ref (a 0)), (2, .ref (q 0)), (3, .int x3)] → W p l e room_1 s m #[Value.ref b] below meth c H locs 70 41445 Q (F0 m 1206 ls [])) : W p l e room_1 s m #[Value.ref b] below meth c H locs 70 41445 Q (F0 m 1140 ls []) := by
  have hx := K.1.1
  have hb := K.1.2.1
  have hap := K.2.2.1
  obtain ⟨r, x', y', hfx, hfy, hI2⟩ := hO w1 w2 w3 hg1 hg2 hg3 x y hI
  refine lv_aload_n hx hb dL_law_1140 rfl (lv_at hl 1 rfl) ?_
  refine lv_aload_n hx hb dL_law_1141 rfl (lv_at hl 0 rfl) ?_
  refine lv_iload_n hx hb dL_law_1142 rfl (lv_at hl 3 rfl) ?_
  refine lv_iconst (v := 1) hx hb dL_law_1143 (by decide) ?_
  refine lv_iadd hx hb dL_law_1144 ?_
  refine l_sld K M (l_in (k := 1) e3 (by omega) hL) hw1 dL_law_1145 ?_
  refine lv_aload_n hx hb dL_law_1146 rfl (lv_at hl 0 rfl) ?_
  refine lv_iload_n hx hb dL_law_1147 rfl (lv_at hl 3 rfl) ?_
  refine lv_iconst (v := 2) hx hb dL_law_1148 (by decide) ?_
  refine lv_iadd hx hb dL_law_1149 ?_
  refine l_sld K M (l_in (k := 2) e3 (by omega) hL) hw2 dL_law_1150 ?_
  refine lv_aload_n hx hb dL_law_1151 rfl (lv_at hl 0 rfl) ?_
  refine lv_iload_n hx hb dL_law_1152 rfl (lv_at hl 3 rfl) ?_
  refine lv_iconst (v := 3) hx hb dL_law_1153 (by decide) ?_
  refine lv_iadd hx hb dL_law_1154 ?_
  refine l_sld K M (l_in (k := 3) e3 (by omega) hL) hw3 dL_law_1155 ?_
  refine l_callI (n := 3) (As := [.int (oI w1), .int (oI w2), .int (oI w3)]) K.1 ⟨M.1, M.2.2⟩ (hap x y) M.2.1 (fun sz => c_X6_weakest hfx sz) bw_703 bw_700 bw_701 bw_702 bw_84 rfl (by decide +kernel) 0 rfl rfl ⟨rfl, rfl⟩ ⟨Nat.le_of_ble_eq_true rfl, Nat.le_of_ble_eq_true rfl⟩ hl.1 rfl (Nat.le_of_ble_eq_true rfl) ⟨Nat.le_of_ble_eq_true rfl, Nat.le_of_ble_eq_true rfl⟩ dL_law_1156 (fun H locs hP hP2 hS => ?_)
  have M : lmm D T a q A s H locs x' y := ⟨hP, hP2, hS⟩
  refine lv_aload_n hx hb dL_law_1159 rfl (lv_at hl 2 rfl) ?_
  refine lv_aload_n hx hb dL_law_1160 rfl (lv_at hl 0 rfl) ?_
  refine lv_iload_n hx hb dL_law_1161 rfl (lv_at hl 3 rfl) ?_
  refine lv_iconst (v := 1) hx hb dL_law_1162 (by decide) ?_
  refine lv_iadd hx hb dL_law_1163 ?_
  refine l_sld K M (l_in (k := 1) e3 (by omega) hL) hw1 dL_law_1164 ?_
  refine lv_aload_n hx hb dL_law_1165 rfl (lv_at hl 0 rfl) ?_
  refine lv_iload_n hx hb dL_law_1166 rfl (lv_at hl 3 rfl) ?_
  refine lv_iconst (v := 2) hx hb dL_law_1167 (by decide) ?_
  refine lv_iadd hx hb dL_law_1168 ?_
  refine l_sld K M (l_in (k := 2) e3 (by omega) hL) hw2 dL_law_1169 ?_
  refine lv_aload_n hx hb dL_law_1170 rfl (lv_at hl 0 rfl) ?_
  refine lv_iload_n hx hb dL_law_1171 rfl (lv_at hl 3 rfl) ?_
  refine lv_iconst (v := 3) hx hb dL_law_1172 (by decide) ?_
  refine lv_iadd hx hb dL_law_1173 ?_
  refine l_sld K M (l_in (k := 3) e3 (by omega) hL) hw3 dL_law_1174 ?_
  refine l_callI (n := 3) (As := [.int (oI w1), .int (oI w2), .int (oI w3)]) K.2.1 ⟨M.2.1, M.2.2⟩ (fun i j u v hu hv h => hap x' y j i v u hv hu h.symm) M.1 (fun sz => c_X7_weakest hfy sz) bw_1007 bw_1004 bw_1005 bw_1006 bw_91 rfl (by decide +kernel) 0 rfl rfl ⟨rfl, rfl⟩ ⟨Nat.le_of_ble_eq_true rfl, Nat.le_of_ble_eq_true rfl⟩ hl.1 rfl (Nat.le_of_ble_eq_true rfl) ⟨Nat.le_of_ble_eq_true rfl, Nat.le_of_ble_eq_true rfl⟩ dL_law_1175 (fun H locs hP hP2 hS => ?_)
  have M : lmm D T a q A s H locs x' y' := ⟨hP2, hP, hS⟩
  refine lv_icmp_eq (tgt := 1206) hx hb dL_law_1178 (by decide) (fun _ => ?_) (fun hc3 => absurd rfl hc3)
  exact hgo x' y' H locs ls hI2 M hl
set_option maxHeartbeats 4000000 in
set_option maxRecDepth 100000 in
theorem law_case23 {Inv : XS → XS → Prop} (hO : (∀ (w1 : Int), rg w1 → stepOK Inv (fun x => f_X6_stand x w1) (fun y => f_X7_stand y w1))) {D : va_G} {T : ClassId × ClassId} {a q : Nat → Nat} {A : Nat → Prop} {b L : Nat} {xs : Nat → Int32} {p : Program} {l : Launch} {e : Env} {s : State} {m : MethodId} {below : List Frame} {meth : Method} {c : Code} {Q : State → Prop} (K : lcx D T a q A b L xs p s m meth c) (hL : L ≤ 4096) {i : Nat} {x3 : Int32} (hi : i + 8 ≤ L) (e3 : x3 = nI i) {w1 : Int} (hw1 : xs (x3 + 1).toNatClampNeg = oI w1) (hg1 : rg w1) {x y : XS} (hI : Inv x y) {H : Heap} {locs : List Loc} {ls : Array Slot} (M : lmm D T a q A s H locs x y) (hl : lv_has ls 4 [(0, .ref b), (1, .ref (a 0)), (2, .ref (q 0)), (3, .int x3)])
    (hgo : ∀ (x y : XS) (H : Heap) (locs : List Loc) (ls : Array Slot), Inv x y → lmm D T a q A s H locs x y → lv_has ls 4 [(0, .ref b), (1, .ref (a 0)), (2, .ref (q 0)), (3, .int x3)] → W p l e room_1 s m #[Value.ref b] below meth c H locs 70 41445 Q (F0 m 1206 ls [])) : W p l e room_1 s m #[Value.ref b] below meth c H locs 70 41445 Q (F0 m 1183 ls []) := by
  have hx := K.1.1
  have hb := K.1.2.1
  have hap := K.2.2.1
  obtain ⟨r, x', y', hfx, hfy, hI2⟩ := hO w1 hg1 x y hI
  refine lv_aload_n hx hb dL_law_1183 rfl (lv_at hl 1 rfl) ?_
  refine lv_aload_n hx hb dL_law_1184 rfl (lv_at hl 0 rfl) ?_
  refine lv_iload_n hx hb dL_law_1185 rfl (lv_at hl 3 rfl) ?_
  refine lv_iconst (v := 1) hx hb dL_law_1186 (by decide) ?_
  refine lv_iadd hx hb dL_law_1187 ?_
  refine l_sld K M (l_in (k := 1) e3 (by omega) hL) hw1 dL_law_1188 ?_
  refine l_callI (n := 1) (As := [.int (oI w1)]) K.1 ⟨M.1, M.2.2⟩ (hap x y) M.2.1 (fun sz => c_X6_stand hfx sz) bw_711 bw_708 bw_709 bw_710 bw_84 rfl (by decide +kernel) 0 rfl rfl ⟨rfl, rfl⟩ ⟨Nat.le_of_ble_eq_true rfl, Nat.le_of_ble_eq_true rfl⟩ hl.1 rfl (Nat.le_of_ble_eq_true rfl) ⟨Nat.le_of_ble_eq_true rfl, Nat.le_of_ble_eq_true rfl⟩ dL_law_1189 (fun H locs hP hP2 hS => ?_)
  have M : lmm D T a q A s H locs x' y := ⟨hP, hP2, hS⟩
  refine lv_aload_n hx hb dL_law_1192 rfl (lv_at hl 2 rfl) ?_
  refine lv_aload_n hx hb dL_law_1193 rfl (lv_at hl 0 rfl) ?_
  refine lv_iload_n hx hb dL_law_1194 rfl (lv_at hl 3 rfl) ?_
  refine lv_iconst (v := 1) hx hb dL_law_1195 (by decide) ?_
  refine lv_iadd hx hb dL_law_1196 ?_
  refine l_sld K M (l_in (k := 1) e3 (by omega) hL) hw1 dL_law_1197 ?_
  refine l_callI (n := 1) (As := [.int (oI w1)]) K.2.1 ⟨M.2.1, M.2.2⟩ (fun i j u v hu hv h => hap x' y j i v u hv hu h.symm) M.1 (fun sz => c_X7_stand hfy sz) bw_1015 bw_1012 bw_1013 bw_1014 bw_91 rfl (by decide +kernel) 0 rfl rfl ⟨rfl, rfl⟩ ⟨Nat.le_of_ble_eq_true rfl, Nat.le_of_ble_eq_true rfl⟩ hl.1 rfl (Nat.le_of_ble_eq_true rfl) ⟨Nat.le_of_ble_eq_true rfl, Nat.le_of_ble_eq_true rfl⟩ dL_law_1198 (fun H locs hP hP2 hS => ?_)
  have M : lmm D T a q A s H locs x' y' := ⟨hP2, hP, hS⟩
  refine lv_icmp_eq (tgt := 1206) hx hb dL_law_1201 (by decide) (fun _ => ?_) (fun hc3 => absurd rfl hc3)
  exact hgo x' y' H locs ls hI2 M hl
