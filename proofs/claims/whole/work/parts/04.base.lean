abbrev XS : Type := (Nat → Int) × (Nat → Nat → Int)
abbrev XR : Type := Option (Int × XS)
def oI (i : Int) : Int32 := Int32.ofInt i
def rg (a : Int) : Prop := -2147483648 ≤ a ∧ a < 2147483648
theorem oI_toInt {a : Int} (h : rg a) : (oI a).toInt = a := Int32.toInt_ofInt_of_le h.1 h.2
theorem oI_of (v : Int32) : v = oI v.toInt := (Int32.ofInt_toInt v).symm
theorem rg_of (v : Int32) : rg v.toInt := ⟨v.le_toInt, v.toInt_lt⟩
theorem oI_lt {a b : Int} (ha : rg a) (hb : rg b) : oI a < oI b ↔ a < b := by rw [Int32.lt_iff_toInt_lt, oI_toInt ha, oI_toInt hb]
theorem oI_le {a b : Int} (ha : rg a) (hb : rg b) : oI a ≤ oI b ↔ a ≤ b := by rw [Int32.le_iff_toInt_le, oI_toInt ha, oI_toInt hb]
theorem oI_eq {a b : Int} (ha : rg a) (hb : rg b) : oI a = oI b ↔ a = b := by rw [← Int32.toInt_inj, oI_toInt ha, oI_toInt hb]
theorem oI_add (a b : Int) : oI a + oI b = oI (a + b) := (Int32.ofInt_add a b).symm
theorem oI_sub (a b : Int) : oI a - oI b = oI (a - b) := (Int32.ofInt_sub a b).symm
theorem oI_mul (a b : Int) : oI a * oI b = oI (a * b) := (Int32.ofInt_mul a b).symm
theorem oI_cl {a : Int} (h0 : 0 ≤ a) (h : a < 2147483648) : (oI a).toNatClampNeg = a.toNat := by rw [← Int32.toNat_toInt, oI_toInt ⟨by omega, h⟩]
theorem oI_in {a : Int} {n : Nat} (hn : n < 2147483648) (h : 0 ≤ a ∧ a < (n : Int)) : vp_in (oI a) n := by
  rw [vp_in_iff, oI_toInt ⟨by omega, by omega⟩]; exact h
def xpS (x : XS) (k : Nat) (v : Int) : XS := (fun i => cond (Nat.beq i k) v (x.1 i), x.2)
def xpA (x : XS) (j : Nat) (f : Nat → Int) : XS := (x.1, fun i => cond (Nat.beq i j) f (x.2 i))
def zup (f : Nat → Int) (k : Nat) (v : Int) : Nat → Int := fun j => if j = k then v else f j
theorem zup_oI (f : Nat → Int) (k : Nat) (v : Int) : upd (fun i => oI (f i)) k (oI v) = fun i => oI (zup f k v i) := by
  funext i
  unfold upd zup
  split <;> rfl
def x_fuel : Nat := 100000
def x_let {α : Type} (a : α) (k : α → XR) : XR := k a
def x_jp {α : Type} (k : α) (b : α → XR) : XR := b k
def x_lt (a b : Int) (A B : XR) : XR := if (-2147483648 ≤ a ∧ a < 2147483648) ∧ (-2147483648 ≤ b ∧ b < 2147483648) then (if a < b then A else B) else none
def x_le (a b : Int) (A B : XR) : XR := if (-2147483648 ≤ a ∧ a < 2147483648) ∧ (-2147483648 ≤ b ∧ b < 2147483648) then (if a ≤ b then A else B) else none
def x_eq (a b : Int) (A B : XR) : XR := if (-2147483648 ≤ a ∧ a < 2147483648) ∧ (-2147483648 ≤ b ∧ b < 2147483648) then (if a = b then A else B) else none
def x_max (a b : Int) (k : Int → XR) : XR := if (-2147483648 ≤ a ∧ a < 2147483648) ∧ (-2147483648 ≤ b ∧ b < 2147483648) then k (if a < b then b else a) else none
def x_min (a b : Int) (k : Int → XR) : XR := if (-2147483648 ≤ a ∧ a < 2147483648) ∧ (-2147483648 ≤ b ∧ b < 2147483648) then k (if b < a then b else a) else none
def x_ld (f : Nat → Int) (n : Nat) (i : Int) (k : Int → XR) : XR := if 0 ≤ i ∧ i < (n : Int) then k (f i.toNat) else none
def x_st (x : XS) (j n : Nat) (i v : Int) (k : XS → XR) : XR := if 0 ≤ i ∧ i < (n : Int) then k (xpA x j (zup (x.2 j) i.toNat v)) else none
def x_stb (x : XS) (j n : Nat) (i v : Int) (k : XS → XR) : XR := if (0 ≤ i ∧ i < (n : Int)) ∧ (v = 0 ∨ v = 1) then k (xpA x j (zup (x.2 j) i.toNat v)) else none
def x_call (o : XR) (k : Int → XS → XR) : XR := match o with
  | none => none
  | some z => k z.1 z.2
theorem x_jp_el {α : Type} {k : α} {b : α → XR} {z : Int × XS} {G : Prop} (h : x_jp k b = some z) (kk : ∀ k', k' = k → b k' = some z → G) : G := kk k rfl h
theorem x_nm {e : Int} {K : Int → XR} {z : Int × XS} {G : Prop} (h : x_let e K = some z) (kk : ∀ y, y = e → K y = some z → G) : G := kk e rfl h
theorem x_call_el {o : XR} {K : Int → XS → XR} {z : Int × XS} {G : Prop} (h : x_call o K = some z) (kk : ∀ zc, o = some zc → K zc.1 zc.2 = some z → G) : G := by
  cases o with
  | none => cases h
  | some zc => exact kk zc rfl h
theorem x_lt_el {a b : Int} {A B : XR} {z : Int × XS} (h : x_lt a b A B = some z) : rg a ∧ rg b ∧ ((a < b ∧ A = some z) ∨ (¬ a < b ∧ B = some z)) := by
  unfold x_lt at h
  by_cases hg : (-2147483648 ≤ a ∧ a < 2147483648) ∧ (-2147483648 ≤ b ∧ b < 2147483648)
  · rw [if_pos hg] at h
    refine ⟨hg.1, hg.2, ?_⟩
    by_cases hc : a < b
    · rw [if_pos hc] at h; exact Or.inl ⟨hc, h⟩
    · rw [if_neg hc] at h; exact Or.inr ⟨hc, h⟩
  · rw [if_neg hg] at h; cases h
theorem x_le_el {a b : Int} {A B : XR} {z : Int × XS} (h : x_le a b A B = some z) : rg a ∧ rg b ∧ ((a ≤ b ∧ A = some z) ∨ (¬ a ≤ b ∧ B = some z)) := by
  unfold x_le at h
  by_cases hg : (-2147483648 ≤ a ∧ a < 2147483648) ∧ (-2147483648 ≤ b ∧ b < 2147483648)
  · rw [if_pos hg] at h
    refine ⟨hg.1, hg.2, ?_⟩
    by_cases hc : a ≤ b
    · rw [if_pos hc] at h; exact Or.inl ⟨hc, h⟩
    · rw [if_neg hc] at h; exact Or.inr ⟨hc, h⟩
  · rw [if_neg hg] at h; cases h
theorem x_eq_el {a b : Int} {A B : XR} {z : Int × XS} (h : x_eq a b A B = some z) : rg a ∧ rg b ∧ ((a = b ∧ A = some z) ∨ (¬ a = b ∧ B = some z)) := by
  unfold x_eq at h
  by_cases hg : (-2147483648 ≤ a ∧ a < 2147483648) ∧ (-2147483648 ≤ b ∧ b < 2147483648)
  · rw [if_pos hg] at h
    refine ⟨hg.1, hg.2, ?_⟩
    by_cases hc : a = b
    · rw [if_pos hc] at h; exact Or.inl ⟨hc, h⟩
    · rw [if_neg hc] at h; exact Or.inr ⟨hc, h⟩
  · rw [if_neg hg] at h; cases h
theorem x_ts_el {a b : Int} {A B : XR} {z : Int × XS} {G : Prop} (h : x_eq a b A B = some z) (kt : a = b → A = some z → G) (kf : rg a → ¬ a = b → B = some z → G) : G := by
  obtain ⟨h1, h2, ⟨h3, h4⟩ | ⟨h3, h4⟩⟩ := x_eq_el h
  · exact kt h3 h4
  · exact kf h1 h3 h4
theorem nb_0 : narrow .boolean (.int (oI 0)) = .int (oI 0) := rfl
theorem nb_1 : narrow .boolean (.int (oI 1)) = .int (oI 1) := rfl
-- words
def xg_big : List Cond := lw_tbl.filter goodWord
def xg_isN (w : Cond) : Bool := match w with
  | .fieldLinkNest _ _ _ _ _ _ => true
  | .methodLinkNest _ _ _ _ => true
  | _ => false
def xg_nest : List Cond := lw_tbl.filter xg_isN
theorem xb_mem {w : Cond} (i : Nat) (h : lw_tbl[i]? = some w) (g : goodWord w = true) : w ∈ xg_big := List.mem_filter.mpr ⟨List.mem_of_getElem? h, g⟩
theorem xb_nem {w : Cond} (i : Nat) (h : lw_tbl[i]? = some w) (g : xg_isN w = true) : w ∈ xg_nest := List.mem_filter.mpr ⟨List.mem_of_getElem? h, g⟩
theorem xb_good {w : Cond} (h : w ∈ xg_big) : (w.onTables && w.keeps) = true ∨ ∃ ty, w = .arrayClass ty := good_of_word (List.mem_filter.mp h).2
theorem xb_pay {args : Array Value} {s : State} (hts : ∀ w ∈ xg_big, w.before args s = true) {c0 : Cond} (hc : c0 ∈ xg_big) : ∀ w ∈ (c0 :: xg_big), ∀ (a' : Array Value) (U : State), s.WarmedH U.vm → w.before a' U = true := by
  intro w hw a' U hW
  have hw2 : w ∈ xg_big := by
    rcases List.mem_cons.mp hw with h | h
    · rw [h]; exact hc
    · exact h
  exact word_at hW (xb_good hw2) (hts w hw2)
theorem xb_non {w : Cond} (h : w ∈ xg_nest) : w.onTables = true := by
  have h2 := (List.mem_filter.mp h).2
  cases w <;> first | rfl | (simp [xg_isN] at h2)
theorem xb_nw {w : Cond} (h : w ∈ xg_nest) {s U : State} (hW : s.WarmedH U.vm) (hZ : va_Nw w s) : va_Nw w U := by
  have h2 := (List.mem_filter.mp h).2
  cases w <;> first | exact hZ.warmF hW | exact hZ.warmM hW | (simp [xg_isN] at h2)
-- context of a method's walk
def xcx (own : String) (cc : ByteArray) (nL : Nat) (D : va_G) (T : ClassId × ClassId) (w : XS → va_W) (A : Nat → Prop) (p : Program) (s : State) (m : MethodId) (args : Array Value) (meth : Method) (c : Code) : Prop :=
  p.tables.exec = Jvm.exec ∧ c.code = cc ∧ c.maxLocals = nL ∧ s.vm.findClass own = some m.cls ∧ (∀ w ∈ xg_big, w.before args s = true) ∧ (∀ w ∈ xg_nest, va_Nw w s) ∧ va_K D vwCl [(T.1, .int), (T.2, .boolean)] s ∧ (∀ x, va_D A (w x)) ∧ meth.locks = false ∧ (∀ q, s.heap.size ≤ q → A q)
def xmm (D : va_G) (w : XS → va_W) (A : Nat → Prop) (s : State) (H : Heap) (locs : List Loc) (x : XS) : Prop := va_P D vwCl (w x) H ∧ va_S A s.heap H locs
def xpre (D : va_G) (T : ClassId × ClassId) (w : XS → va_W) (sz : Nat) (x : XS) (U : State) : Prop := U.heap.size = sz ∧ va_P D vwCl (w x) U.heap ∧ (∀ x', va_D (fun _ => True) (w x')) ∧ va_K D vwCl [(T.1, .int), (T.2, .boolean)] U ∧ (∀ w ∈ xg_nest, va_Nw w U)
def xPI (D : va_G) (w : XS → va_W) (rt : FieldType) (z : Int × XS) (A : Nat → Prop) : Array Value → State → Outcome → State → Prop := va_Qi (fun (r : Int32) (u : XS) => ∃ r0 : Int, r = oI r0 ∧ (r0, u) = z ∧ narrow rt (.int r) = .int r) (fun u t => va_P D vwCl (w u) t.heap) A
def xPV (D : va_G) (w : XS → va_W) (z : Int × XS) (A : Nat → Prop) : Array Value → State → Outcome → State → Prop := va_Qv (fun (u : XS) => ((0 : Int), u) = z) (fun u t => va_P D vwCl (w u) t.heap) A
def xMetI (l : Launch) (y : MethodName) (cc : ByteArray) (mL : Nat) (rt : FieldType) (rm : Room) (D : va_G) (T : ClassId × ClassId) (w : XS → va_W) (sz : Nat) (av : List Value) (x : XS) (z : Int × XS) : Prop :=
  Met l y (.code y cc mL (some rt) :: xg_big) rm (va_Pc av (xpre D T w sz x)) (xPI D w rt z (va_A (w x) sz)) 0 0 (va_A (w x) sz)
def xMetV (l : Launch) (y : MethodName) (cc : ByteArray) (mL : Nat) (rm : Room) (D : va_G) (T : ClassId × ClassId) (w : XS → va_W) (sz : Nat) (av : List Value) (x : XS) (z : Int × XS) : Prop :=
  Met l y (.code y cc mL none :: xg_big) rm (va_Pc av (xpre D T w sz x)) (xPV D w z (va_A (w x) sz)) 0 0 (va_A (w x) sz)
def xQI (below : List Frame) (args : Array Value) (s : State) (D : va_G) (w : XS → va_W) (rt : FieldType) (z : Int × XS) (A : Nat → Prop) : State → Prop := MQ below (xPI D w rt z A) args s 0 0 A
def xQV (below : List Frame) (args : Array Value) (s : State) (D : va_G) (w : XS → va_W) (z : Int × XS) (A : Nat → Prop) : State → Prop := MQ below (xPV D w z A) args s 0 0 A
theorem xD_self {w : XS → va_W} (ha : ∀ x x' : XS, (w x).map Prod.fst = (w x').map Prod.fst) (h : ∀ x', va_D (fun _ => True) (w x')) (x : XS) (sz : Nat) : ∀ x', va_D (va_A (w x) sz) (w x') := by
  intro x'
  refine ⟨(h x').1, fun k q hk => ?_⟩
  have h1 : ((w x').map Prod.fst)[k]? = some q.1 := by rw [List.getElem?_map, hk]; rfl
  rw [ha x' x, List.getElem?_map] at h1
  cases h2 : (w x)[k]? with
  | none => rw [h2] at h1; cases h1
  | some q2 =>
    rw [h2] at h1
    have h3 : q2.1 = q.1 := Option.some.inj h1
    exact Or.inl ⟨k, q2.2, by rw [h2, ← h3]⟩
theorem xMetI_of {l : Launch} {y : MethodName} {cc : ByteArray} {mL : Nat} {rt : FieldType} {rm : Room} {D : va_G} {T : ClassId × ClassId} {w : XS → va_W} {sz : Nat} {av : List Value} {x : XS} {z : Int × XS} (hy : plainName y.cls = true) (hn : (lg_sl av).length ≤ mL) (ha : ∀ x x' : XS, (w x).map Prod.fst = (w x').map Prod.fst)
    (body : ∀ (p : Program) (e : Env) (s : State) (m : MethodId) (args : Array Value) (below : List Frame) (meth : Method) (c : Code) (A : Nat → Prop) (ls : Array Slot), xcx y.cls cc mL D T w A p s m args meth c → meth.sig.returnType = some rt → xmm D w A s s.heap [] x → lv_has ls mL (lv_args 0 av) → W p l e rm s m args below meth c s.heap [] 0 0 (xQI below args s D w rt z A) (F0 m 0 ls [])) : xMetI l y cc mL rt rm D T w sz av x z := by
  refine Met.ofW (cc := cc) (maxL := mL) (ret := some rt) hy rfl ?_
  intro p e s m args below meth c s₁ B hml hv
  obtain ⟨rfl, hsz, hP, hD, hK, hN⟩ := hv
  subst hsz
  have hts := atoms_spec (ws := (Cond.code y cc mL (some rt) :: xg_big)) B.pre
  have hl := lv_entry av (n := mL) hn
  rw [lg_entry_eq]
  generalize (lg_sl av ++ List.replicate (mL - (lg_sl av).length) Slot.unset).toArray = ls at hl ⊢
  exact body p e s m _ below meth c (va_A (w x) s.heap.size) ls ⟨B.exec, B.bytes, hml, findClass_of_methodNamed B.named, fun w hw => hts w (List.mem_cons_of_mem _ hw), hN, hK, xD_self ha hD x _, B.notSynchronized, fun q h => Or.inr h⟩ B.returns ⟨hP, va_S.rf⟩ hl
theorem xMetV_of {l : Launch} {y : MethodName} {cc : ByteArray} {mL : Nat} {rm : Room} {D : va_G} {T : ClassId × ClassId} {w : XS → va_W} {sz : Nat} {av : List Value} {x : XS} {z : Int × XS} (hy : plainName y.cls = true) (hn : (lg_sl av).length ≤ mL) (ha : ∀ x x' : XS, (w x).map Prod.fst = (w x').map Prod.fst)
    (body : ∀ (p : Program) (e : Env) (s : State) (m : MethodId) (args : Array Value) (below : List Frame) (meth : Method) (c : Code) (A : Nat → Prop) (ls : Array Slot), xcx y.cls cc mL D T w A p s m args meth c → meth.sig.returnType = none → xmm D w A s s.heap [] x → lv_has ls mL (lv_args 0 av) → W p l e rm s m args below meth c s.heap [] 0 0 (xQV below args s D w z A) (F0 m 0 ls [])) : xMetV l y cc mL rm D T w sz av x z := by
  refine Met.ofW (cc := cc) (maxL := mL) (ret := none) hy rfl ?_
  intro p e s m args below meth c s₁ B hml hv
  obtain ⟨rfl, hsz, hP, hD, hK, hN⟩ := hv
  subst hsz
  have hts := atoms_spec (ws := (Cond.code y cc mL none :: xg_big)) B.pre
  have hl := lv_entry av (n := mL) hn
  rw [lg_entry_eq]
  generalize (lg_sl av ++ List.replicate (mL - (lg_sl av).length) Slot.unset).toArray = ls at hl ⊢
  exact body p e s m _ below meth c (va_A (w x) s.heap.size) ls ⟨B.exec, B.bytes, hml, findClass_of_methodNamed B.named, fun w hw => hts w (List.mem_cons_of_mem _ hw), hN, hK, xD_self ha hD x _, B.notSynchronized, fun q h => Or.inr h⟩ B.returns ⟨hP, va_S.rf⟩ hl
section XB
variable {own : String} {cc : ByteArray} {nL : Nat} {D : va_G} {T : ClassId × ClassId} {w : XS → va_W} {A : Nat → Prop} {p : Program} {l : Launch} {e : Env} {R : Room} {s : State} {m : MethodId} {args : Array Value} {below : List Frame} {meth : Method} {c : Code} {H : Heap} {locs : List Loc} {Q : State → Prop} {x : XS} {z : Int × XS} {pc : Nat} {ls : Array Slot} {rest : List Value}
theorem xretI {rt : FieldType} {v : Int} (C : xcx own cc nL D T w A p s m args meth c) (hr : meth.sig.returnType = some rt) (M : xmm D w A s H locs x) (h : some (v, x) = some z) (hn : narrow rt (.int (oI v)) = .int (oI v)) (hdg : decode cc pc = .ok (.ireturn, 1)) : W p l e R s m args below meth c H locs 0 0 (xQI below args s D w rt z A) (F0 m pc ls [.int (oI v)]) := by
  have hlocks : meth.locks = false := C.2.2.2.2.2.2.2.2.1
  exact W.zret (v := oI v) C.1 C.2.1 hr hn (fun t ht hW => ⟨⟨oI v, x, rfl, ⟨v, rfl, Option.some.inj h, hn⟩, by show va_P D vwCl (w x) t.heap; rw [ht]; exact M.1⟩, M.2.F ht⟩) M.2.2.2 hdg
theorem xretV (C : xcx own cc nL D T w A p s m args meth c) (hr : meth.sig.returnType = none) (M : xmm D w A s H locs x) (h : some ((0 : Int), x) = some z) (hdg : decode cc pc = .ok (.return_, 1)) : W p l e R s m args below meth c H locs 0 0 (xQV below args s D w z A) (F0 m pc ls []) := by
  have hlocks : meth.locks = false := C.2.2.2.2.2.2.2.2.1
  exact W.vret C.1 C.2.1 hr (fun t ht hW => ⟨⟨x, rfl, Option.some.inj h, by show va_P D vwCl (w x) t.heap; rw [ht]; exact M.1⟩, M.2.F ht⟩) M.2.2.2 hdg
theorem x_top {e0 : Int} {K : Int → XR} (h : x_let e0 K = some z) (kk : ∀ y, K y = some z → W p l e R s m args below meth c H locs 0 0 Q (F0 m pc ls (.int (oI y) :: rest))) : W p l e R s m args below meth c H locs 0 0 Q (F0 m pc ls (.int (oI e0) :: rest)) := kk e0 h
theorem x_topM {a b : Int} {K : Int → XR} (h : x_max a b K = some z) (kk : ∀ y, K y = some z → W p l e R s m args below meth c H locs 0 0 Q (F0 m pc ls (.int (oI y) :: rest))) : W p l e R s m args below meth c H locs 0 0 Q (F0 m pc ls (.int (if oI a < oI b then oI b else oI a) :: rest)) := by
  unfold x_max at h
  by_cases hg : (-2147483648 ≤ a ∧ a < 2147483648) ∧ (-2147483648 ≤ b ∧ b < 2147483648)
  · rw [if_pos hg] at h
    have e1 : (if oI a < oI b then oI b else oI a) = oI (if a < b then b else a) := by
      by_cases hc : a < b
      · rw [if_pos hc, if_pos ((oI_lt hg.1 hg.2).mpr hc)]
      · rw [if_neg hc, if_neg (fun q => hc ((oI_lt hg.1 hg.2).mp q))]
    rw [e1]
    exact kk _ h
  · rw [if_neg hg] at h; cases h
theorem x_topm {a b : Int} {K : Int → XR} (h : x_min a b K = some z) (kk : ∀ y, K y = some z → W p l e R s m args below meth c H locs 0 0 Q (F0 m pc ls (.int (oI y) :: rest))) : W p l e R s m args below meth c H locs 0 0 Q (F0 m pc ls (.int (if oI b < oI a then oI b else oI a) :: rest)) := by
  unfold x_min at h
  by_cases hg : (-2147483648 ≤ a ∧ a < 2147483648) ∧ (-2147483648 ≤ b ∧ b < 2147483648)
  · rw [if_pos hg] at h
    have e1 : (if oI b < oI a then oI b else oI a) = oI (if b < a then b else a) := by
      by_cases hc : b < a
      · rw [if_pos hc, if_pos ((oI_lt hg.2 hg.1).mpr hc)]
      · rw [if_neg hc, if_neg (fun q => hc ((oI_lt hg.2 hg.1).mp q))]
    rw [e1]
    exact kk _ h
  · rw [if_neg hg] at h; cases h
theorem z_iadd {a b : Int} (hx : p.tables.exec = Jvm.exec) (hb : c.code = cc) (hdg : decode cc pc = .ok (.iadd, 1)) (kk : W p l e R s m args below meth c H locs 0 0 Q (F0 m (pc + 1) ls (.int (oI (a + b)) :: rest))) : W p l e R s m args below meth c H locs 0 0 Q (F0 m pc ls (.int (oI b) :: .int (oI a) :: rest)) := lv_iadd hx hb hdg (by rw [oI_add]; exact kk)
theorem z_isub {a b : Int} (hx : p.tables.exec = Jvm.exec) (hb : c.code = cc) (hdg : decode cc pc = .ok (.isub, 1)) (kk : W p l e R s m args below meth c H locs 0 0 Q (F0 m (pc + 1) ls (.int (oI (a - b)) :: rest))) : W p l e R s m args below meth c H locs 0 0 Q (F0 m pc ls (.int (oI b) :: .int (oI a) :: rest)) := lv_isub hx hb hdg (by rw [oI_sub]; exact kk)
theorem z_imul {a b : Int} (hx : p.tables.exec = Jvm.exec) (hb : c.code = cc) (hdg : decode cc pc = .ok (.imul, 1)) (kk : W p l e R s m args below meth c H locs 0 0 Q (F0 m (pc + 1) ls (.int (oI (a * b)) :: rest))) : W p l e R s m args below meth c H locs 0 0 Q (F0 m pc ls (.int (oI b) :: .int (oI a) :: rest)) := lv_imul hx hb hdg (by rw [oI_mul]; exact kk)

theorem z_icmp_eq {a b : Int} {A B : XR} {off : Int} {tgt : Nat} (hx : p.tables.exec = Jvm.exec) (hb : c.code = cc) (hdg : decode cc pc = .ok (.if_icmp .eq off, 3)) (ht : (pc : Int) + off = (tgt : Int)) (h : x_eq a b A B = some z) (kt : A = some z → W p l e R s m args below meth c H locs 0 0 Q (F0 m tgt ls rest)) (kf : B = some z → W p l e R s m args below meth c H locs 0 0 Q (F0 m (pc + 3) ls rest)) : W p l e R s m args below meth c H locs 0 0 Q (F0 m pc ls (.int (oI b) :: .int (oI a) :: rest)) := by
  obtain ⟨h1, h2, h3⟩ := x_eq_el h
  refine lv_icmp_eq (tgt := tgt) hx hb hdg ht (fun hc => ?_) (fun hc => ?_)
  · rcases h3 with ⟨h3, h4⟩ | ⟨h3, h4⟩
    · exact kt h4
    · exact absurd ((oI_eq h1 h2).mp hc) h3
  · rcases h3 with ⟨h3, h4⟩ | ⟨h3, h4⟩
    · exact absurd ((oI_eq h1 h2).mpr h3) hc
    · exact kf h4
theorem z_if_eq {a : Int} {A B : XR} {off : Int} {tgt : Nat} (hx : p.tables.exec = Jvm.exec) (hb : c.code = cc) (hdg : decode cc pc = .ok (.ifCond .eq off, 3)) (ht : (pc : Int) + off = (tgt : Int)) (h : x_eq a 0 A B = some z) (kt : A = some z → W p l e R s m args below meth c H locs 0 0 Q (F0 m tgt ls rest)) (kf : B = some z → W p l e R s m args below meth c H locs 0 0 Q (F0 m (pc + 3) ls rest)) : W p l e R s m args below meth c H locs 0 0 Q (F0 m pc ls (.int (oI a) :: rest)) := by
  obtain ⟨h1, h2, h3⟩ := x_eq_el h
  refine lv_if_eq (tgt := tgt) hx hb hdg ht (fun hc => ?_) (fun hc => ?_)
  · rcases h3 with ⟨h3, h4⟩ | ⟨h3, h4⟩
    · exact kt h4
    · exact absurd ((oI_eq h1 h2).mp hc) h3
  · rcases h3 with ⟨h3, h4⟩ | ⟨h3, h4⟩
    · exact absurd ((oI_eq h1 h2).mpr h3) hc
    · exact kf h4
theorem z_icmp_ne {a b : Int} {A B : XR} {off : Int} {tgt : Nat} (hx : p.tables.exec = Jvm.exec) (hb : c.code = cc) (hdg : decode cc pc = .ok (.if_icmp .ne off, 3)) (ht : (pc : Int) + off = (tgt : Int)) (h : x_eq a b A B = some z) (kt : B = some z → W p l e R s m args below meth c H locs 0 0 Q (F0 m tgt ls rest)) (kf : A = some z → W p l e R s m args below meth c H locs 0 0 Q (F0 m (pc + 3) ls rest)) : W p l e R s m args below meth c H locs 0 0 Q (F0 m pc ls (.int (oI b) :: .int (oI a) :: rest)) := by
  obtain ⟨h1, h2, h3⟩ := x_eq_el h
  refine lv_icmp_ne (tgt := tgt) hx hb hdg ht (fun hc => ?_) (fun hc => ?_)
  · rcases h3 with ⟨h3, h4⟩ | ⟨h3, h4⟩
    · exact absurd ((oI_eq h1 h2).mpr h3) hc
    · exact kt h4
  · rcases h3 with ⟨h3, h4⟩ | ⟨h3, h4⟩
    · exact kf h4
    · exact absurd ((oI_eq h1 h2).mp hc) h3
theorem z_if_ne {a : Int} {A B : XR} {off : Int} {tgt : Nat} (hx : p.tables.exec = Jvm.exec) (hb : c.code = cc) (hdg : decode cc pc = .ok (.ifCond .ne off, 3)) (ht : (pc : Int) + off = (tgt : Int)) (h : x_eq a 0 A B = some z) (kt : B = some z → W p l e R s m args below meth c H locs 0 0 Q (F0 m tgt ls rest)) (kf : A = some z → W p l e R s m args below meth c H locs 0 0 Q (F0 m (pc + 3) ls rest)) : W p l e R s m args below meth c H locs 0 0 Q (F0 m pc ls (.int (oI a) :: rest)) := by
  obtain ⟨h1, h2, h3⟩ := x_eq_el h
  refine lv_if_ne (tgt := tgt) hx hb hdg ht (fun hc => ?_) (fun hc => ?_)
  · rcases h3 with ⟨h3, h4⟩ | ⟨h3, h4⟩
    · exact absurd ((oI_eq h1 h2).mpr h3) hc
    · exact kt h4
  · rcases h3 with ⟨h3, h4⟩ | ⟨h3, h4⟩
    · exact kf h4
    · exact absurd ((oI_eq h1 h2).mp hc) h3
theorem z_icmp_lt {a b : Int} {A B : XR} {off : Int} {tgt : Nat} (hx : p.tables.exec = Jvm.exec) (hb : c.code = cc) (hdg : decode cc pc = .ok (.if_icmp .lt off, 3)) (ht : (pc : Int) + off = (tgt : Int)) (h : x_lt a b A B = some z) (kt : A = some z → W p l e R s m args below meth c H locs 0 0 Q (F0 m tgt ls rest)) (kf : B = some z → W p l e R s m args below meth c H locs 0 0 Q (F0 m (pc + 3) ls rest)) : W p l e R s m args below meth c H locs 0 0 Q (F0 m pc ls (.int (oI b) :: .int (oI a) :: rest)) := by
  obtain ⟨h1, h2, h3⟩ := x_lt_el h
  refine lv_icmp_lt (tgt := tgt) hx hb hdg ht (fun hc => ?_) (fun hc => ?_)
  · rcases h3 with ⟨h3, h4⟩ | ⟨h3, h4⟩
    · exact kt h4
    · exact absurd ((oI_lt h1 h2).mp hc) h3
  · rcases h3 with ⟨h3, h4⟩ | ⟨h3, h4⟩
    · exact absurd ((oI_lt h1 h2).mpr h3) hc
    · exact kf h4
theorem z_if_lt {a : Int} {A B : XR} {off : Int} {tgt : Nat} (hx : p.tables.exec = Jvm.exec) (hb : c.code = cc) (hdg : decode cc pc = .ok (.ifCond .lt off, 3)) (ht : (pc : Int) + off = (tgt : Int)) (h : x_lt a 0 A B = some z) (kt : A = some z → W p l e R s m args below meth c H locs 0 0 Q (F0 m tgt ls rest)) (kf : B = some z → W p l e R s m args below meth c H locs 0 0 Q (F0 m (pc + 3) ls rest)) : W p l e R s m args below meth c H locs 0 0 Q (F0 m pc ls (.int (oI a) :: rest)) := by
  obtain ⟨h1, h2, h3⟩ := x_lt_el h
  refine lv_if_lt (tgt := tgt) hx hb hdg ht (fun hc => ?_) (fun hc => ?_)
  · rcases h3 with ⟨h3, h4⟩ | ⟨h3, h4⟩
    · exact kt h4
    · exact absurd ((oI_lt h1 h2).mp hc) h3
  · rcases h3 with ⟨h3, h4⟩ | ⟨h3, h4⟩
    · exact absurd ((oI_lt h1 h2).mpr h3) hc
    · exact kf h4
theorem z_icmp_ge {a b : Int} {A B : XR} {off : Int} {tgt : Nat} (hx : p.tables.exec = Jvm.exec) (hb : c.code = cc) (hdg : decode cc pc = .ok (.if_icmp .ge off, 3)) (ht : (pc : Int) + off = (tgt : Int)) (h : x_le b a A B = some z) (kt : A = some z → W p l e R s m args below meth c H locs 0 0 Q (F0 m tgt ls rest)) (kf : B = some z → W p l e R s m args below meth c H locs 0 0 Q (F0 m (pc + 3) ls rest)) : W p l e R s m args below meth c H locs 0 0 Q (F0 m pc ls (.int (oI b) :: .int (oI a) :: rest)) := by
  obtain ⟨h1, h2, h3⟩ := x_le_el h
  refine lv_icmp_ge (tgt := tgt) hx hb hdg ht (fun hc => ?_) (fun hc => ?_)
  · rcases h3 with ⟨h3, h4⟩ | ⟨h3, h4⟩
    · exact kt h4
    · exact absurd ((oI_le h1 h2).mp hc) h3
  · rcases h3 with ⟨h3, h4⟩ | ⟨h3, h4⟩
    · exact absurd ((oI_le h1 h2).mpr h3) hc
    · exact kf h4
theorem z_if_ge {a : Int} {A B : XR} {off : Int} {tgt : Nat} (hx : p.tables.exec = Jvm.exec) (hb : c.code = cc) (hdg : decode cc pc = .ok (.ifCond .ge off, 3)) (ht : (pc : Int) + off = (tgt : Int)) (h : x_le 0 a A B = some z) (kt : A = some z → W p l e R s m args below meth c H locs 0 0 Q (F0 m tgt ls rest)) (kf : B = some z → W p l e R s m args below meth c H locs 0 0 Q (F0 m (pc + 3) ls rest)) : W p l e R s m args below meth c H locs 0 0 Q (F0 m pc ls (.int (oI a) :: rest)) := by
  obtain ⟨h1, h2, h3⟩ := x_le_el h
  refine lv_if_ge (tgt := tgt) hx hb hdg ht (fun hc => ?_) (fun hc => ?_)
  · rcases h3 with ⟨h3, h4⟩ | ⟨h3, h4⟩
    · exact kt h4
    · exact absurd ((oI_le h1 h2).mp hc) h3
  · rcases h3 with ⟨h3, h4⟩ | ⟨h3, h4⟩
    · exact absurd ((oI_le h1 h2).mpr h3) hc
    · exact kf h4
theorem z_icmp_gt {a b : Int} {A B : XR} {off : Int} {tgt : Nat} (hx : p.tables.exec = Jvm.exec) (hb : c.code = cc) (hdg : decode cc pc = .ok (.if_icmp .gt off, 3)) (ht : (pc : Int) + off = (tgt : Int)) (h : x_lt b a A B = some z) (kt : A = some z → W p l e R s m args below meth c H locs 0 0 Q (F0 m tgt ls rest)) (kf : B = some z → W p l e R s m args below meth c H locs 0 0 Q (F0 m (pc + 3) ls rest)) : W p l e R s m args below meth c H locs 0 0 Q (F0 m pc ls (.int (oI b) :: .int (oI a) :: rest)) := by
  obtain ⟨h1, h2, h3⟩ := x_lt_el h
  refine lv_icmp_gt (tgt := tgt) hx hb hdg ht (fun hc => ?_) (fun hc => ?_)
  · rcases h3 with ⟨h3, h4⟩ | ⟨h3, h4⟩
    · exact kt h4
    · exact absurd ((oI_lt h1 h2).mp hc) h3
  · rcases h3 with ⟨h3, h4⟩ | ⟨h3, h4⟩
    · exact absurd ((oI_lt h1 h2).mpr h3) hc
    · exact kf h4
theorem z_if_gt {a : Int} {A B : XR} {off : Int} {tgt : Nat} (hx : p.tables.exec = Jvm.exec) (hb : c.code = cc) (hdg : decode cc pc = .ok (.ifCond .gt off, 3)) (ht : (pc : Int) + off = (tgt : Int)) (h : x_lt 0 a A B = some z) (kt : A = some z → W p l e R s m args below meth c H locs 0 0 Q (F0 m tgt ls rest)) (kf : B = some z → W p l e R s m args below meth c H locs 0 0 Q (F0 m (pc + 3) ls rest)) : W p l e R s m args below meth c H locs 0 0 Q (F0 m pc ls (.int (oI a) :: rest)) := by
  obtain ⟨h1, h2, h3⟩ := x_lt_el h
  refine lv_if_gt (tgt := tgt) hx hb hdg ht (fun hc => ?_) (fun hc => ?_)
  · rcases h3 with ⟨h3, h4⟩ | ⟨h3, h4⟩
    · exact kt h4
    · exact absurd ((oI_lt h1 h2).mp hc) h3
  · rcases h3 with ⟨h3, h4⟩ | ⟨h3, h4⟩
    · exact absurd ((oI_lt h1 h2).mpr h3) hc
    · exact kf h4
theorem z_icmp_le {a b : Int} {A B : XR} {off : Int} {tgt : Nat} (hx : p.tables.exec = Jvm.exec) (hb : c.code = cc) (hdg : decode cc pc = .ok (.if_icmp .le off, 3)) (ht : (pc : Int) + off = (tgt : Int)) (h : x_le a b A B = some z) (kt : A = some z → W p l e R s m args below meth c H locs 0 0 Q (F0 m tgt ls rest)) (kf : B = some z → W p l e R s m args below meth c H locs 0 0 Q (F0 m (pc + 3) ls rest)) : W p l e R s m args below meth c H locs 0 0 Q (F0 m pc ls (.int (oI b) :: .int (oI a) :: rest)) := by
  obtain ⟨h1, h2, h3⟩ := x_le_el h
  refine lv_icmp_le (tgt := tgt) hx hb hdg ht (fun hc => ?_) (fun hc => ?_)
  · rcases h3 with ⟨h3, h4⟩ | ⟨h3, h4⟩
    · exact kt h4
    · exact absurd ((oI_le h1 h2).mp hc) h3
  · rcases h3 with ⟨h3, h4⟩ | ⟨h3, h4⟩
    · exact absurd ((oI_le h1 h2).mpr h3) hc
    · exact kf h4
theorem z_if_le {a : Int} {A B : XR} {off : Int} {tgt : Nat} (hx : p.tables.exec = Jvm.exec) (hb : c.code = cc) (hdg : decode cc pc = .ok (.ifCond .le off, 3)) (ht : (pc : Int) + off = (tgt : Int)) (h : x_le a 0 A B = some z) (kt : A = some z → W p l e R s m args below meth c H locs 0 0 Q (F0 m tgt ls rest)) (kf : B = some z → W p l e R s m args below meth c H locs 0 0 Q (F0 m (pc + 3) ls rest)) : W p l e R s m args below meth c H locs 0 0 Q (F0 m pc ls (.int (oI a) :: rest)) := by
  obtain ⟨h1, h2, h3⟩ := x_le_el h
  refine lv_if_le (tgt := tgt) hx hb hdg ht (fun hc => ?_) (fun hc => ?_)
  · rcases h3 with ⟨h3, h4⟩ | ⟨h3, h4⟩
    · exact kt h4
    · exact absurd ((oI_le h1 h2).mp hc) h3
  · rcases h3 with ⟨h3, h4⟩ | ⟨h3, h4⟩
    · exact absurd ((oI_le h1 h2).mpr h3) hc
    · exact kf h4
theorem xg_get (C : xcx own cc nL D T w A p s m args meth c) (M : xmm D w A s H locs x) {Cn : String} {Tn : u_T} {N ci index : Nat} {a : Nat} {fs : List Value} (q0 : Nat) (he : (w x)[q0]? = some (a, .inr (ci, fs))) (hc : vwCl[ci]? = some (Cn, Tn, N)) (hin : ∀ w ∈ u_ws Cn Tn N, w ∈ xg_big) (k : Nat) (hk : k < N) (ho : (Tn k).1 = Cn) (hl : Cond.fieldLink own index Cn (Tn k).2.1 (Tn k).2.2.1 ∈ xg_big) {v : Value} (hv : fs[k]? = some v) (hdg : decode cc pc = .ok (.getfield index, 3))
    (kk : W p l e R s m args below meth c H locs 0 0 Q (F0 m (pc + 3) ls (v :: rest))) : W p l e R s m args below meth c H locs 0 0 Q (F0 m pc ls (.ref a :: rest)) :=
  va_get (D := D) C.1 C.2.1 C.2.2.2.2.1 hin C.2.2.2.1 C.2.2.2.2.2.2.1 M.1 q0 he hc k hk (C.2.2.2.2.1 _ hl) (fun y h => by rw [ho] at h; exact h) hv hdg kk
theorem xg_getN (C : xcx own cc nL D T w A p s m args meth c) (M : xmm D w A s H locs x) {Cn host : String} {Tn : u_T} {N ci index : Nat} {a : Nat} {fs : List Value} (q0 : Nat) (he : (w x)[q0]? = some (a, .inr (ci, fs))) (hc : vwCl[ci]? = some (Cn, Tn, N)) (hin : ∀ w ∈ u_ws Cn Tn N, w ∈ xg_big) (k : Nat) (hk : k < N) (ho : (Tn k).1 = Cn) (hl : Cond.fieldLinkNest own index Cn (Tn k).2.1 (Tn k).2.2.1 host ∈ xg_nest) {v : Value} (hv : fs[k]? = some v) (hdg : decode cc pc = .ok (.getfield index, 3))
    (kk : W p l e R s m args below meth c H locs 0 0 Q (F0 m (pc + 3) ls (v :: rest))) : W p l e R s m args below meth c H locs 0 0 Q (F0 m pc ls (.ref a :: rest)) :=
  va_getN (D := D) C.1 C.2.1 C.2.2.2.2.1 hin C.2.2.2.1 C.2.2.2.2.2.2.1 M.1 q0 he hc k hk (va_Nw.use (xb_non hl) (C.2.2.2.2.2.1 _ hl)) (fun y h => by rw [ho] at h; exact h) hv hdg kk
theorem xg_put (C : xcx own cc nL D T w A p s m args meth c) (M : xmm D w A s H locs x) {Cn : String} {Tn : u_T} {N ci index : Nat} {a : Nat} {fs : List Value} (q0 : Nat) (he : (w x)[q0]? = some (a, .inr (ci, fs))) (hc : vwCl[ci]? = some (Cn, Tn, N)) (hin : ∀ w ∈ u_ws Cn Tn N, w ∈ xg_big) (ty0 : Nat → FieldType) (hty : ∀ k, k < N → parseFieldDescriptor (Tn k).2.2.1 = some (ty0 k)) (hnm : ∀ a, a < N → ∀ b, b < N → a ≠ b → (Tn a).2.1 ≠ (Tn b).2.1) (k : Nat) (hk : k < N) (ho : (Tn k).1 = Cn) (hl : Cond.fieldLink own index Cn (Tn k).2.1 (Tn k).2.2.1 ∈ xg_big) (hfin : (Tn k).2.2.2 = false) {v : Int} (hn : narrow (ty0 k) (.int (oI v)) = .int (oI v)) (hfit : fits (ty0 k) (.int (oI v)) = true) (hlen : k < fs.length) {x' : XS} (hset : (w x).set q0 (a, .inr (ci, fs.set k (.int (oI v)))) = w x') (hdg : decode cc pc = .ok (.putfield index, 3)) {K : XS → XR} (h : x_let x' K = some z)
    (kk : ∀ (H1 : Heap) (locs1 : List Loc) (x1 : XS), xmm D w A s H1 locs1 x1 → K x1 = some z → W p l e R s m args below meth c H1 locs1 0 0 Q (F0 m (pc + 3) ls rest)) : W p l e R s m args below meth c H locs 0 0 Q (F0 m pc ls (.int (oI v) :: .ref a :: rest)) :=
  va_put (D := D) C.1 C.2.1 C.2.2.2.2.1 hin ty0 hty hnm C.2.2.2.1 C.2.2.2.2.2.2.1 M.1 (C.2.2.2.2.2.2.2.1 x) M.2 q0 he hc k hk (C.2.2.2.2.1 _ hl) (fun y h => by rw [ho] at h; exact h) hfin (hty k hk) hn hfit hlen hdg (fun H1 locs1 hP _ hS => kk H1 locs1 x' ⟨by rw [← hset]; exact hP, hS⟩ h)
theorem xg_putN (C : xcx own cc nL D T w A p s m args meth c) (M : xmm D w A s H locs x) {Cn host : String} {Tn : u_T} {N ci index : Nat} {a : Nat} {fs : List Value} (q0 : Nat) (he : (w x)[q0]? = some (a, .inr (ci, fs))) (hc : vwCl[ci]? = some (Cn, Tn, N)) (hin : ∀ w ∈ u_ws Cn Tn N, w ∈ xg_big) (ty0 : Nat → FieldType) (hty : ∀ k, k < N → parseFieldDescriptor (Tn k).2.2.1 = some (ty0 k)) (hnm : ∀ a, a < N → ∀ b, b < N → a ≠ b → (Tn a).2.1 ≠ (Tn b).2.1) (k : Nat) (hk : k < N) (ho : (Tn k).1 = Cn) (hl : Cond.fieldLinkNest own index Cn (Tn k).2.1 (Tn k).2.2.1 host ∈ xg_nest) (hfin : (Tn k).2.2.2 = false) {v : Int} (hn : narrow (ty0 k) (.int (oI v)) = .int (oI v)) (hfit : fits (ty0 k) (.int (oI v)) = true) (hlen : k < fs.length) {x' : XS} (hset : (w x).set q0 (a, .inr (ci, fs.set k (.int (oI v)))) = w x') (hdg : decode cc pc = .ok (.putfield index, 3)) {K : XS → XR} (h : x_let x' K = some z)
    (kk : ∀ (H1 : Heap) (locs1 : List Loc) (x1 : XS), xmm D w A s H1 locs1 x1 → K x1 = some z → W p l e R s m args below meth c H1 locs1 0 0 Q (F0 m (pc + 3) ls rest)) : W p l e R s m args below meth c H locs 0 0 Q (F0 m pc ls (.int (oI v) :: .ref a :: rest)) :=
  va_putN (D := D) C.1 C.2.1 C.2.2.2.2.1 hin ty0 hty hnm C.2.2.2.1 C.2.2.2.2.2.2.1 M.1 (C.2.2.2.2.2.2.2.1 x) M.2 q0 he hc k hk (va_Nw.use (xb_non hl) (C.2.2.2.2.2.1 _ hl)) (fun y h => by rw [ho] at h; exact h) hfin (hty k hk) hn hfit hlen hdg (fun H1 locs1 hP _ hS => kk H1 locs1 x' ⟨by rw [← hset]; exact hP, hS⟩ h)
theorem xg_ald (C : xcx own cc nL D T w A p s m args meth c) (M : xmm D w A s H locs x) {a n : Nat} {f : Nat → Int} (q0 : Nat) (hn : n < 2147483648) (he : (w x)[q0]? = some (a, .inl (T.1, n, .inl (fun i => oI (f i))))) {i : Int} (hdg : decode cc pc = .ok (.iaload, 1)) {K : Int → XR} (h : x_ld f n i K = some z)
    (kk : ∀ v : Int, K v = some z → W p l e R s m args below meth c H locs 0 0 Q (F0 m (pc + 1) ls (.int (oI v) :: rest))) : W p l e R s m args below meth c H locs 0 0 Q (F0 m pc ls (.int (oI i) :: .ref a :: rest)) := by
  unfold x_ld at h
  by_cases hc : 0 ≤ i ∧ i < (n : Int)
  · rw [if_pos hc] at h
    refine va_iald C.1 C.2.1 C.2.2.2.2.2.2.1 M.1 q0 0 he rfl (oI_in hn hc) hdg ?_
    rw [oI_cl hc.1 (by omega)]
    exact kk _ h
  · rw [if_neg hc] at h; cases h
theorem xg_zald (C : xcx own cc nL D T w A p s m args meth c) (M : xmm D w A s H locs x) {a n : Nat} {f : Nat → Int} (q0 : Nat) (hn : n < 2147483648) (he : (w x)[q0]? = some (a, .inl (T.2, n, .inl (fun i => oI (f i))))) {i : Int} (hdg : decode cc pc = .ok (.baload, 1)) {K : Int → XR} (h : x_ld f n i K = some z)
    (kk : ∀ v : Int, K v = some z → W p l e R s m args below meth c H locs 0 0 Q (F0 m (pc + 1) ls (.int (oI v) :: rest))) : W p l e R s m args below meth c H locs 0 0 Q (F0 m pc ls (.int (oI i) :: .ref a :: rest)) := by
  unfold x_ld at h
  by_cases hc : 0 ≤ i ∧ i < (n : Int)
  · rw [if_pos hc] at h
    refine va_zald C.1 C.2.1 C.2.2.2.2.2.2.1 M.1 q0 1 he rfl (oI_in hn hc) hdg ?_
    rw [oI_cl hc.1 (by omega)]
    exact kk _ h
  · rw [if_neg hc] at h; cases h
theorem xg_ast (C : xcx own cc nL D T w A p s m args meth c) (M : xmm D w A s H locs x) {a n j : Nat} (q0 : Nat) (hn : n < 2147483648) (he : (w x)[q0]? = some (a, .inl (T.1, n, .inl (fun i => oI (x.2 j i))))) (hset : ∀ f : Nat → Int, (w x).set q0 (a, .inl (T.1, n, .inl (fun i => oI (f i)))) = w (xpA x j f)) {i v : Int} (hdg : decode cc pc = .ok (.iastore, 1)) {K : XS → XR} (h : x_st x j n i v K = some z)
    (kk : ∀ (H1 : Heap) (locs1 : List Loc) (x1 : XS), xmm D w A s H1 locs1 x1 → K x1 = some z → W p l e R s m args below meth c H1 locs1 0 0 Q (F0 m (pc + 1) ls rest)) : W p l e R s m args below meth c H locs 0 0 Q (F0 m pc ls (.int (oI v) :: .int (oI i) :: .ref a :: rest)) := by
  unfold x_st at h
  by_cases hc : 0 ≤ i ∧ i < (n : Int)
  · rw [if_pos hc] at h
    refine va_iast C.1 C.2.1 C.2.2.2.2.2.2.1 M.1 (C.2.2.2.2.2.2.2.1 x) M.2 q0 0 he rfl (oI_in hn hc) hdg (fun H1 locs1 hP _ hS => ?_)
    rw [oI_cl hc.1 (by omega), zup_oI, hset] at hP
    exact kk H1 locs1 _ ⟨hP, hS⟩ h
  · rw [if_neg hc] at h; cases h
theorem xg_zast (C : xcx own cc nL D T w A p s m args meth c) (M : xmm D w A s H locs x) {a n j : Nat} (q0 : Nat) (hn : n < 2147483648) (he : (w x)[q0]? = some (a, .inl (T.2, n, .inl (fun i => oI (x.2 j i))))) (hset : ∀ f : Nat → Int, (w x).set q0 (a, .inl (T.2, n, .inl (fun i => oI (f i)))) = w (xpA x j f)) {i v : Int} (hdg : decode cc pc = .ok (.bastore, 1)) {K : XS → XR} (h : x_stb x j n i v K = some z)
    (kk : ∀ (H1 : Heap) (locs1 : List Loc) (x1 : XS), xmm D w A s H1 locs1 x1 → K x1 = some z → W p l e R s m args below meth c H1 locs1 0 0 Q (F0 m (pc + 1) ls rest)) : W p l e R s m args below meth c H locs 0 0 Q (F0 m pc ls (.int (oI v) :: .int (oI i) :: .ref a :: rest)) := by
  unfold x_stb at h
  by_cases hc : (0 ≤ i ∧ i < (n : Int)) ∧ (v = 0 ∨ v = 1)
  · rw [if_pos hc] at h
    have hv : vp_nar .boolean (oI v) = oI v := by
      rcases hc.2 with e1 | e1 <;> rw [e1] <;> rfl
    refine va_zast C.1 C.2.1 C.2.2.2.2.2.2.1 M.1 (C.2.2.2.2.2.2.2.1 x) M.2 q0 1 he rfl (oI_in hn hc.1) hdg (fun H1 locs1 hP _ hS => ?_)
    rw [oI_cl hc.1.1 (by omega), hv, zup_oI, hset] at hP
    exact kk H1 locs1 _ ⟨hP, hS⟩ h
  · rw [if_neg hc] at h; cases h
theorem xb_blind {sz : Nat} {av : List Value} : FrameBlind (va_Pc av (xpre D T w sz x)) := fun a U g mk q => by
  obtain ⟨q0, q1, qP, qD, qK, qN⟩ := q
  exact ⟨q0, q1, qP, qD, va_K.moved (u := U) (U := U.calling g mk a) (Vm.Alike.refl U.vm) qK, fun w hw => va_Nw.same (u := U) (U := U.calling g mk a) (xb_non hw) rfl (qN w hw)⟩
theorem xb_pre (C : xcx own cc nL D T w A p s m args meth c) (M : xmm D w A s H locs x) (av : List Value) : ∀ U : State, U.heap = H → s.WarmedH U.vm → va_Pc av (xpre D T w H.size x) av.toArray U := fun U hU hW =>
  ⟨rfl, by rw [hU], by rw [hU]; exact M.1, fun x' => (C.2.2.2.2.2.2.2.1 x').weaken (fun _ _ _ _ => trivial), va_K.moved hW.alike C.2.2.2.2.2.2.1, fun w hw => xb_nw hw hW (C.2.2.2.2.2.1 w hw)⟩
theorem xb_fre (C : xcx own cc nL D T w A p s m args meth c) (M : xmm D w A s H locs x) : ∀ q, va_A (w x) H.size q → A q := by
  intro q h
  rcases h with ⟨k, e, h⟩ | h
  · exact (C.2.2.2.2.2.2.2.1 x).2 k (q, e) h
  · exact C.2.2.2.2.2.2.2.2.2 q (Nat.le_trans M.2.1 h)
theorem xb_callB (C : xcx own cc nL D T w A p s m args meth c) {y : MethodName} {cy : ByteArray} {mLy n index : Nat} {ret : Option FieldType} {rm : Room} (hcode : Cond.code y cy mLy ret ∈ xg_big) (hlink : Cond.methodLink own index y ∈ xg_big) (hini : Cond.initialized y.cls ∈ xg_big) (hd : y.cls ≠ "java/lang/invoke/MethodHandle" ∧ y.cls ≠ "java/lang/invoke/VarHandle" ∧ (parseMethodDescriptor y.desc).map (fun d => d.parameters.length) = some n) (hrm : rm.cells = 0 ∧ rm.slots = 0) (hR : rm.frames + 1 ≤ R.frames ∧ 8 + (mLy + 11) + rm.locals ≤ R.locals) : CallB R s args own index y cy mLy ret (.code y cy mLy ret :: xg_big) rm 0 0 n := by
  have hts := C.2.2.2.2.1
  refine ⟨hrm.1, hrm.2, hR.1, hR.2, xb_pay hts hcode, List.mem_cons_self, hts _ hcode, hts _ hini, ⟨hd.1, hd.2.1⟩, fun sig h => ?_, hts _ hlink⟩
  have h2 := hd.2.2
  rw [h] at h2
  exact (Option.some.inj h2).symm
theorem xb_callN (C : xcx own cc nL D T w A p s m args meth c) {y : MethodName} {cy : ByteArray} {mLy n index : Nat} {ret : Option FieldType} {rm : Room} {host : String} (hcode : Cond.code y cy mLy ret ∈ xg_big) (hlink : Cond.methodLinkNest own index y host ∈ xg_nest) (hini : Cond.initialized y.cls ∈ xg_big) (hd : y.cls ≠ "java/lang/invoke/MethodHandle" ∧ y.cls ≠ "java/lang/invoke/VarHandle" ∧ (parseMethodDescriptor y.desc).map (fun d => d.parameters.length) = some n) (hrm : rm.cells = 0 ∧ rm.slots = 0) (hR : rm.frames + 1 ≤ R.frames ∧ 8 + (mLy + 11) + rm.locals ≤ R.locals) : va_CN R s args own index y host cy mLy ret (.code y cy mLy ret :: xg_big) rm 0 0 n := by
  have hts := C.2.2.2.2.1
  refine ⟨⟨hrm.1, hrm.2, hR.1, hR.2, xb_pay hts hcode, List.mem_cons_self⟩, hts _ hcode, hts _ hini, ⟨hd.1, hd.2.1⟩, fun sig h => ?_, va_Nw.use (xb_non hlink) (C.2.2.2.2.2.1 _ hlink)⟩
  have h2 := hd.2.2
  rw [h] at h2
  exact (Option.some.inj h2).symm
theorem xb_fix (C : xcx own cc nL D T w A p s m args meth c) : CallFix p m c cc nL s args xg_big own := ⟨C.1, C.2.1, C.2.2.1, C.2.2.2.1, C.2.2.2.2.1⟩
-- behind a call
theorem xb_afterI {g0 : JFrame} {st0 : List Value} {av : Array Value} {rt : FieldType} {zc : Int × XS} (C : xcx own cc nL D T w A p s m args meth c) (M : xmm D w A s H locs x) (hr : va_Run p l e R s m args below meth c H locs 0 0 0 0 (F0 m pc ls st0) rest (xPI D w rt zc (va_A (w x) H.size) av) (va_A (w x) H.size)) {K : Int → XS → XR} (h : K zc.1 zc.2 = some z)
    (kk : ∀ (r : Int) (H1 : Heap) (locs1 : List Loc) (x1 : XS), xmm D w A s H1 locs1 x1 → narrow rt (.int (oI r)) = .int (oI r) → K r x1 = some z → W p l e R s m args below meth c H1 locs1 0 0 Q (F0 m (pc + 3) ls (.int (oI r) :: rest))) : W p l e R s m args below meth c H locs 0 0 Q (F0 m pc ls st0) := by
  refine va_calli hr M.2 (fun q _ h => xb_fre C M q h) (xb_fre C M) (fun r u t H1 locs1 ht hvm hw hB hz1 hk1 hS => ?_)
  rw [ht] at hB
  obtain ⟨r0, hw0, hw1, hw2⟩ := hw
  subst hw0
  subst hw1
  exact kk r0 H1 locs1 u ⟨hB, hS⟩ hw2 h
theorem xb_afterV {st0 : List Value} {av : Array Value} {zc : Int × XS} (C : xcx own cc nL D T w A p s m args meth c) (M : xmm D w A s H locs x) (hr : va_Run p l e R s m args below meth c H locs 0 0 0 0 (F0 m pc ls st0) rest (xPV D w zc (va_A (w x) H.size) av) (va_A (w x) H.size)) {K : Int → XS → XR} (h : K zc.1 zc.2 = some z)
    (kk : ∀ (H1 : Heap) (locs1 : List Loc) (x1 : XS), xmm D w A s H1 locs1 x1 → K 0 x1 = some z → W p l e R s m args below meth c H1 locs1 0 0 Q (F0 m (pc + 3) ls rest)) : W p l e R s m args below meth c H locs 0 0 Q (F0 m pc ls st0) := by
  refine va_callv hr M.2 (fun q _ h => xb_fre C M q h) (xb_fre C M) (fun u t H1 locs1 ht hvm hw hB hz1 hk1 hS => ?_)
  rw [ht] at hB
  subst hw
  exact kk H1 locs1 u ⟨hB, hS⟩ h
variable {y : MethodName} {cy : ByteArray} {mLy index n : Nat} {rt : FieldType} {rm : Room} {o : XR} {K : Int → XS → XR} {st : List Value} {As : List Value} {ad ci N : Nat} {Cn host : String} {Tn : u_T} {fs : List Value}
theorem xcallI_V (C : xcx own cc nL D T w A p s m args meth c) (M : xmm D w A s H locs x) (hM : ∀ zc sz, o = some zc → xMetI l y cy mLy rt rm D T w sz (.ref ad :: As) x zc) (hcode : Cond.code y cy mLy (some rt) ∈ xg_big) (hlink : Cond.methodLink own index y ∈ xg_big) (hinst : Cond.instanceMethod y ∈ xg_big) (hsel : Cond.selects Cn y y ∈ xg_big) (hini : Cond.initialized y.cls ∈ xg_big) (hnn : As.length = n) (hd : y.cls ≠ "java/lang/invoke/MethodHandle" ∧ y.cls ≠ "java/lang/invoke/VarHandle" ∧ (parseMethodDescriptor y.desc).map (fun d => d.parameters.length) = some n) (q0 : Nat) (he : (w x)[q0]? = some (ad, .inr (ci, fs))) (hc : vwCl[ci]? = some (Cn, Tn, N)) (hrm : rm.cells = 0 ∧ rm.slots = 0) (hR : rm.frames + 1 ≤ R.frames ∧ 8 + (mLy + 11) + rm.locals ≤ R.locals) (hsz : ls.size = nL) (hst : st = As.reverse ++ .ref ad :: rest) (hrest : (rest.map fun v => v.category).sum ≤ 8) (hdg : decode cc pc = .ok (.invokevirtual index, 3)) (h : x_call o K = some z)
    (kk : ∀ (r : Int) (H1 : Heap) (locs1 : List Loc) (x1 : XS), xmm D w A s H1 locs1 x1 → narrow rt (.int (oI r)) = .int (oI r) → K r x1 = some z → W p l e R s m args below meth c H1 locs1 0 0 Q (F0 m (pc + 3) ls (.int (oI r) :: rest))) : W p l e R s m args below meth c H locs 0 0 Q (F0 m pc ls st) := by
  refine x_call_el h (fun zc ho h => ?_)
  exact xb_afterI (g0 := F0 m pc ls st) C M (va_runV (As := As) (rest := rest) (xb_fix C) (hM zc H.size ho) ⟨xb_callB C hcode hlink hini hd hrm hR, C.2.2.2.2.1 _ hinst, C.2.2.2.2.1 _ hsel⟩ ⟨xb_blind, va_recv C.2.2.2.2.2.2.1 M.1 hc he, xb_pre C M _⟩ rfl hnn hsz hst (lv_room hrest) hdg ⟨Nat.zero_le _, Nat.zero_le _⟩) h kk
theorem xcallV_V (C : xcx own cc nL D T w A p s m args meth c) (M : xmm D w A s H locs x) (hM : ∀ zc sz, o = some zc → xMetV l y cy mLy rm D T w sz (.ref ad :: As) x zc) (hcode : Cond.code y cy mLy none ∈ xg_big) (hlink : Cond.methodLink own index y ∈ xg_big) (hinst : Cond.instanceMethod y ∈ xg_big) (hsel : Cond.selects Cn y y ∈ xg_big) (hini : Cond.initialized y.cls ∈ xg_big) (hnn : As.length = n) (hd : y.cls ≠ "java/lang/invoke/MethodHandle" ∧ y.cls ≠ "java/lang/invoke/VarHandle" ∧ (parseMethodDescriptor y.desc).map (fun d => d.parameters.length) = some n) (q0 : Nat) (he : (w x)[q0]? = some (ad, .inr (ci, fs))) (hc : vwCl[ci]? = some (Cn, Tn, N)) (hrm : rm.cells = 0 ∧ rm.slots = 0) (hR : rm.frames + 1 ≤ R.frames ∧ 8 + (mLy + 11) + rm.locals ≤ R.locals) (hsz : ls.size = nL) (hst : st = As.reverse ++ .ref ad :: rest) (hrest : (rest.map fun v => v.category).sum ≤ 8) (hdg : decode cc pc = .ok (.invokevirtual index, 3)) (h : x_call o K = some z)
    (kk : ∀ (H1 : Heap) (locs1 : List Loc) (x1 : XS), xmm D w A s H1 locs1 x1 → K 0 x1 = some z → W p l e R s m args below meth c H1 locs1 0 0 Q (F0 m (pc + 3) ls rest)) : W p l e R s m args below meth c H locs 0 0 Q (F0 m pc ls st) := by
  refine x_call_el h (fun zc ho h => ?_)
  exact xb_afterV C M (va_runV (As := As) (rest := rest) (xb_fix C) (hM zc H.size ho) ⟨xb_callB C hcode hlink hini hd hrm hR, C.2.2.2.2.1 _ hinst, C.2.2.2.2.1 _ hsel⟩ ⟨xb_blind, va_recv C.2.2.2.2.2.2.1 M.1 hc he, xb_pre C M _⟩ rfl hnn hsz hst (lv_room hrest) hdg ⟨Nat.zero_le _, Nat.zero_le _⟩) h kk
theorem xcallI_N (C : xcx own cc nL D T w A p s m args meth c) (M : xmm D w A s H locs x) (hM : ∀ zc sz, o = some zc → xMetI l y cy mLy rt rm D T w sz (.ref ad :: As) x zc) (hcode : Cond.code y cy mLy (some rt) ∈ xg_big) (hlink : Cond.methodLinkNest own index y host ∈ xg_nest) (hinst : Cond.instanceMethod y ∈ xg_big) (hsel : Cond.selects Cn y y ∈ xg_big) (hini : Cond.initialized y.cls ∈ xg_big) (hnn : As.length = n) (hd : y.cls ≠ "java/lang/invoke/MethodHandle" ∧ y.cls ≠ "java/lang/invoke/VarHandle" ∧ (parseMethodDescriptor y.desc).map (fun d => d.parameters.length) = some n) (q0 : Nat) (he : (w x)[q0]? = some (ad, .inr (ci, fs))) (hc : vwCl[ci]? = some (Cn, Tn, N)) (hrm : rm.cells = 0 ∧ rm.slots = 0) (hR : rm.frames + 1 ≤ R.frames ∧ 8 + (mLy + 11) + rm.locals ≤ R.locals) (hsz : ls.size = nL) (hst : st = As.reverse ++ .ref ad :: rest) (hrest : (rest.map fun v => v.category).sum ≤ 8) (hdg : decode cc pc = .ok (.invokevirtual index, 3)) (h : x_call o K = some z)
    (kk : ∀ (r : Int) (H1 : Heap) (locs1 : List Loc) (x1 : XS), xmm D w A s H1 locs1 x1 → narrow rt (.int (oI r)) = .int (oI r) → K r x1 = some z → W p l e R s m args below meth c H1 locs1 0 0 Q (F0 m (pc + 3) ls (.int (oI r) :: rest))) : W p l e R s m args below meth c H locs 0 0 Q (F0 m pc ls st) := by
  refine x_call_el h (fun zc ho h => ?_)
  exact xb_afterI (g0 := F0 m pc ls st) C M (va_runVN (As := As) (rest := rest) (xb_fix C) (hM zc H.size ho) ⟨xb_callN C hcode hlink hini hd hrm hR, C.2.2.2.2.1 _ hinst, C.2.2.2.2.1 _ hsel⟩ ⟨xb_blind, va_recv C.2.2.2.2.2.2.1 M.1 hc he, xb_pre C M _⟩ rfl hnn hsz hst (lv_room hrest) hdg ⟨Nat.zero_le _, Nat.zero_le _⟩) h kk
theorem xcallV_N (C : xcx own cc nL D T w A p s m args meth c) (M : xmm D w A s H locs x) (hM : ∀ zc sz, o = some zc → xMetV l y cy mLy rm D T w sz (.ref ad :: As) x zc) (hcode : Cond.code y cy mLy none ∈ xg_big) (hlink : Cond.methodLinkNest own index y host ∈ xg_nest) (hinst : Cond.instanceMethod y ∈ xg_big) (hsel : Cond.selects Cn y y ∈ xg_big) (hini : Cond.initialized y.cls ∈ xg_big) (hnn : As.length = n) (hd : y.cls ≠ "java/lang/invoke/MethodHandle" ∧ y.cls ≠ "java/lang/invoke/VarHandle" ∧ (parseMethodDescriptor y.desc).map (fun d => d.parameters.length) = some n) (q0 : Nat) (he : (w x)[q0]? = some (ad, .inr (ci, fs))) (hc : vwCl[ci]? = some (Cn, Tn, N)) (hrm : rm.cells = 0 ∧ rm.slots = 0) (hR : rm.frames + 1 ≤ R.frames ∧ 8 + (mLy + 11) + rm.locals ≤ R.locals) (hsz : ls.size = nL) (hst : st = As.reverse ++ .ref ad :: rest) (hrest : (rest.map fun v => v.category).sum ≤ 8) (hdg : decode cc pc = .ok (.invokevirtual index, 3)) (h : x_call o K = some z)
    (kk : ∀ (H1 : Heap) (locs1 : List Loc) (x1 : XS), xmm D w A s H1 locs1 x1 → K 0 x1 = some z → W p l e R s m args below meth c H1 locs1 0 0 Q (F0 m (pc + 3) ls rest)) : W p l e R s m args below meth c H locs 0 0 Q (F0 m pc ls st) := by
  refine x_call_el h (fun zc ho h => ?_)
  exact xb_afterV C M (va_runVN (As := As) (rest := rest) (xb_fix C) (hM zc H.size ho) ⟨xb_callN C hcode hlink hini hd hrm hR, C.2.2.2.2.1 _ hinst, C.2.2.2.2.1 _ hsel⟩ ⟨xb_blind, va_recv C.2.2.2.2.2.2.1 M.1 hc he, xb_pre C M _⟩ rfl hnn hsz hst (lv_room hrest) hdg ⟨Nat.zero_le _, Nat.zero_le _⟩) h kk
theorem xcallI_S (C : xcx own cc nL D T w A p s m args meth c) (M : xmm D w A s H locs x) (hM : ∀ zc sz, o = some zc → xMetI l y cy mLy rt rm D T w sz As x zc) (hcode : Cond.code y cy mLy (some rt) ∈ xg_big) (hlink : Cond.methodLink own index y ∈ xg_big) (hsta : Cond.static y ∈ xg_big) (hini : Cond.initialized y.cls ∈ xg_big) (hnn : As.length = n) (hd : y.cls ≠ "java/lang/invoke/MethodHandle" ∧ y.cls ≠ "java/lang/invoke/VarHandle" ∧ (parseMethodDescriptor y.desc).map (fun d => d.parameters.length) = some n) (hrm : rm.cells = 0 ∧ rm.slots = 0) (hR : rm.frames + 1 ≤ R.frames ∧ 8 + (mLy + 11) + rm.locals ≤ R.locals) (hsz : ls.size = nL) (hst : st = As.reverse ++ rest) (hrest : (rest.map fun v => v.category).sum ≤ 8) (hdg : decode cc pc = .ok (.invokestatic index, 3)) (h : x_call o K = some z)
    (kk : ∀ (r : Int) (H1 : Heap) (locs1 : List Loc) (x1 : XS), xmm D w A s H1 locs1 x1 → narrow rt (.int (oI r)) = .int (oI r) → K r x1 = some z → W p l e R s m args below meth c H1 locs1 0 0 Q (F0 m (pc + 3) ls (.int (oI r) :: rest))) : W p l e R s m args below meth c H locs 0 0 Q (F0 m pc ls st) := by
  refine x_call_el h (fun zc ho h => ?_)
  exact xb_afterI (g0 := F0 m pc ls st) C M (va_runS (As := As) (rest := rest) (xb_fix C) (hM zc H.size ho) ⟨xb_callB C hcode hlink hini hd hrm hR, C.2.2.2.2.1 _ hsta⟩ ⟨xb_blind, xb_pre C M _⟩ rfl hnn hsz hst (lv_room hrest) hdg ⟨Nat.zero_le _, Nat.zero_le _⟩) h kk
theorem xcallI_SN (C : xcx own cc nL D T w A p s m args meth c) (M : xmm D w A s H locs x) (hM : ∀ zc sz, o = some zc → xMetI l y cy mLy rt rm D T w sz As x zc) (hcode : Cond.code y cy mLy (some rt) ∈ xg_big) (hlink : Cond.methodLinkNest own index y host ∈ xg_nest) (hsta : Cond.static y ∈ xg_big) (hini : Cond.initialized y.cls ∈ xg_big) (hnn : As.length = n) (hd : y.cls ≠ "java/lang/invoke/MethodHandle" ∧ y.cls ≠ "java/lang/invoke/VarHandle" ∧ (parseMethodDescriptor y.desc).map (fun d => d.parameters.length) = some n) (hrm : rm.cells = 0 ∧ rm.slots = 0) (hR : rm.frames + 1 ≤ R.frames ∧ 8 + (mLy + 11) + rm.locals ≤ R.locals) (hsz : ls.size = nL) (hst : st = As.reverse ++ rest) (hrest : (rest.map fun v => v.category).sum ≤ 8) (hdg : decode cc pc = .ok (.invokestatic index, 3)) (h : x_call o K = some z)
    (kk : ∀ (r : Int) (H1 : Heap) (locs1 : List Loc) (x1 : XS), xmm D w A s H1 locs1 x1 → narrow rt (.int (oI r)) = .int (oI r) → K r x1 = some z → W p l e R s m args below meth c H1 locs1 0 0 Q (F0 m (pc + 3) ls (.int (oI r) :: rest))) : W p l e R s m args below meth c H locs 0 0 Q (F0 m pc ls st) := by
  refine x_call_el h (fun zc ho h => ?_)
  exact xb_afterI (g0 := F0 m pc ls st) C M (va_runSN (As := As) (rest := rest) (xb_fix C) (hM zc H.size ho) ⟨xb_callN C hcode hlink hini hd hrm hR, C.2.2.2.2.1 _ hsta, trivial⟩ ⟨xb_blind, xb_pre C M _⟩ rfl hnn hsz hst (lv_room hrest) hdg ⟨Nat.zero_le _, Nat.zero_le _⟩) h kk
end XB
def x_loop0 (B : (XS → XR) → XS → XR) : Nat → XS → XR
  | 0, _ => none
  | n + 1, x => B (x_loop0 B n) x
theorem x_loop0_ind {B : (XS → XR) → XS → XR} {z : Int × XS} {P : XS → Prop} (hs : ∀ (g : XS → XR), (∀ (x : XS), g  x = some z → P  x) → ∀ (x : XS), B g  x = some z → P  x) : ∀ (n : Nat) (x : XS), x_loop0 B n  x = some z → P  x
  | 0, _, h => by cases h
  | n + 1, x, h => hs (x_loop0 B n) (x_loop0_ind hs n) x h
def x_loop1 (B : (Int → XS → XR) → Int → XS → XR) : Nat → Int → XS → XR
  | 0, _, _ => none
  | n + 1, i0, x => B (x_loop1 B n) i0 x
theorem x_loop1_ind {B : (Int → XS → XR) → Int → XS → XR} {z : Int × XS} {P : Int → XS → Prop} (hs : ∀ (g : Int → XS → XR), (∀ (i0 : Int) (x : XS), g i0 x = some z → P i0 x) → ∀ (i0 : Int) (x : XS), B g i0 x = some z → P i0 x) : ∀ (n : Nat) (i0 : Int) (x : XS), x_loop1 B n i0 x = some z → P i0 x
  | 0, _, _, h => by cases h
  | n + 1, i0, x, h => hs (x_loop1 B n) (x_loop1_ind hs n) i0 x h
def x_loop2 (B : (Int → Int → XS → XR) → Int → Int → XS → XR) : Nat → Int → Int → XS → XR
  | 0, _, _, _ => none
  | n + 1, i0, i1, x => B (x_loop2 B n) i0 i1 x
theorem x_loop2_ind {B : (Int → Int → XS → XR) → Int → Int → XS → XR} {z : Int × XS} {P : Int → Int → XS → Prop} (hs : ∀ (g : Int → Int → XS → XR), (∀ (i0 i1 : Int) (x : XS), g i0 i1 x = some z → P i0 i1 x) → ∀ (i0 i1 : Int) (x : XS), B g i0 i1 x = some z → P i0 i1 x) : ∀ (n : Nat) (i0 i1 : Int) (x : XS), x_loop2 B n i0 i1 x = some z → P i0 i1 x
  | 0, _, _, _, h => by cases h
  | n + 1, i0, i1, x, h => hs (x_loop2 B n) (x_loop2_ind hs n) i0 i1 x h
def x_loop3 (B : (Int → Int → Int → XS → XR) → Int → Int → Int → XS → XR) : Nat → Int → Int → Int → XS → XR
  | 0, _, _, _, _ => none
  | n + 1, i0, i1, i2, x => B (x_loop3 B n) i0 i1 i2 x
theorem x_loop3_ind {B : (Int → Int → Int → XS → XR) → Int → Int → Int → XS → XR} {z : Int × XS} {P : Int → Int → Int → XS → Prop} (hs : ∀ (g : Int → Int → Int → XS → XR), (∀ (i0 i1 i2 : Int) (x : XS), g i0 i1 i2 x = some z → P i0 i1 i2 x) → ∀ (i0 i1 i2 : Int) (x : XS), B g i0 i1 i2 x = some z → P i0 i1 i2 x) : ∀ (n : Nat) (i0 i1 i2 : Int) (x : XS), x_loop3 B n i0 i1 i2 x = some z → P i0 i1 i2 x
  | 0, _, _, _, _, h => by cases h
  | n + 1, i0, i1, i2, x, h => hs (x_loop3 B n) (x_loop3_ind hs n) i0 i1 i2 x h
def x_loop4 (B : (Int → Int → Int → Int → XS → XR) → Int → Int → Int → Int → XS → XR) : Nat → Int → Int → Int → Int → XS → XR
  | 0, _, _, _, _, _ => none
  | n + 1, i0, i1, i2, i3, x => B (x_loop4 B n) i0 i1 i2 i3 x
theorem x_loop4_ind {B : (Int → Int → Int → Int → XS → XR) → Int → Int → Int → Int → XS → XR} {z : Int × XS} {P : Int → Int → Int → Int → XS → Prop} (hs : ∀ (g : Int → Int → Int → Int → XS → XR), (∀ (i0 i1 i2 i3 : Int) (x : XS), g i0 i1 i2 i3 x = some z → P i0 i1 i2 i3 x) → ∀ (i0 i1 i2 i3 : Int) (x : XS), B g i0 i1 i2 i3 x = some z → P i0 i1 i2 i3 x) : ∀ (n : Nat) (i0 i1 i2 i3 : Int) (x : XS), x_loop4 B n i0 i1 i2 i3 x = some z → P i0 i1 i2 i3 x
  | 0, _, _, _, _, _, h => by cases h
  | n + 1, i0, i1, i2, i3, x, h => hs (x_loop4 B n) (x_loop4_ind hs n) i0 i1 i2 i3 x h
def x_loop5 (B : (Int → Int → Int → Int → Int → XS → XR) → Int → Int → Int → Int → Int → XS → XR) : Nat → Int → Int → Int → Int → Int → XS → XR
  | 0, _, _, _, _, _, _ => none
  | n + 1, i0, i1, i2, i3, i4, x => B (x_loop5 B n) i0 i1 i2 i3 i4 x
theorem x_loop5_ind {B : (Int → Int → Int → Int → Int → XS → XR) → Int → Int → Int → Int → Int → XS → XR} {z : Int × XS} {P : Int → Int → Int → Int → Int → XS → Prop} (hs : ∀ (g : Int → Int → Int → Int → Int → XS → XR), (∀ (i0 i1 i2 i3 i4 : Int) (x : XS), g i0 i1 i2 i3 i4 x = some z → P i0 i1 i2 i3 i4 x) → ∀ (i0 i1 i2 i3 i4 : Int) (x : XS), B g i0 i1 i2 i3 i4 x = some z → P i0 i1 i2 i3 i4 x) : ∀ (n : Nat) (i0 i1 i2 i3 i4 : Int) (x : XS), x_loop5 B n i0 i1 i2 i3 i4 x = some z → P i0 i1 i2 i3 i4 x
  | 0, _, _, _, _, _, _, h => by cases h
  | n + 1, i0, i1, i2, i3, i4, x, h => hs (x_loop5 B n) (x_loop5_ind hs n) i0 i1 i2 i3 i4 x h
def x_loop6 (B : (Int → Int → Int → Int → Int → Int → XS → XR) → Int → Int → Int → Int → Int → Int → XS → XR) : Nat → Int → Int → Int → Int → Int → Int → XS → XR
  | 0, _, _, _, _, _, _, _ => none
  | n + 1, i0, i1, i2, i3, i4, i5, x => B (x_loop6 B n) i0 i1 i2 i3 i4 i5 x
theorem x_loop6_ind {B : (Int → Int → Int → Int → Int → Int → XS → XR) → Int → Int → Int → Int → Int → Int → XS → XR} {z : Int × XS} {P : Int → Int → Int → Int → Int → Int → XS → Prop} (hs : ∀ (g : Int → Int → Int → Int → Int → Int → XS → XR), (∀ (i0 i1 i2 i3 i4 i5 : Int) (x : XS), g i0 i1 i2 i3 i4 i5 x = some z → P i0 i1 i2 i3 i4 i5 x) → ∀ (i0 i1 i2 i3 i4 i5 : Int) (x : XS), B g i0 i1 i2 i3 i4 i5 x = some z → P i0 i1 i2 i3 i4 i5 x) : ∀ (n : Nat) (i0 i1 i2 i3 i4 i5 : Int) (x : XS), x_loop6 B n i0 i1 i2 i3 i4 i5 x = some z → P i0 i1 i2 i3 i4 i5 x
  | 0, _, _, _, _, _, _, _, h => by cases h
  | n + 1, i0, i1, i2, i3, i4, i5, x, h => hs (x_loop6 B n) (x_loop6_ind hs n) i0 i1 i2 i3 i4 i5 x h
def x_loop7 (B : (Int → Int → Int → Int → Int → Int → Int → XS → XR) → Int → Int → Int → Int → Int → Int → Int → XS → XR) : Nat → Int → Int → Int → Int → Int → Int → Int → XS → XR
  | 0, _, _, _, _, _, _, _, _ => none
  | n + 1, i0, i1, i2, i3, i4, i5, i6, x => B (x_loop7 B n) i0 i1 i2 i3 i4 i5 i6 x
theorem x_loop7_ind {B : (Int → Int → Int → Int → Int → Int → Int → XS → XR) → Int → Int → Int → Int → Int → Int → Int → XS → XR} {z : Int × XS} {P : Int → Int → Int → Int → Int → Int → Int → XS → Prop} (hs : ∀ (g : Int → Int → Int → Int → Int → Int → Int → XS → XR), (∀ (i0 i1 i2 i3 i4 i5 i6 : Int) (x : XS), g i0 i1 i2 i3 i4 i5 i6 x = some z → P i0 i1 i2 i3 i4 i5 i6 x) → ∀ (i0 i1 i2 i3 i4 i5 i6 : Int) (x : XS), B g i0 i1 i2 i3 i4 i5 i6 x = some z → P i0 i1 i2 i3 i4 i5 i6 x) : ∀ (n : Nat) (i0 i1 i2 i3 i4 i5 i6 : Int) (x : XS), x_loop7 B n i0 i1 i2 i3 i4 i5 i6 x = some z → P i0 i1 i2 i3 i4 i5 i6 x
  | 0, _, _, _, _, _, _, _, _, h => by cases h
  | n + 1, i0, i1, i2, i3, i4, i5, i6, x, h => hs (x_loop7 B n) (x_loop7_ind hs n) i0 i1 i2 i3 i4 i5 i6 x h
def x_loop8 (B : (Int → Int → Int → Int → Int → Int → Int → Int → XS → XR) → Int → Int → Int → Int → Int → Int → Int → Int → XS → XR) : Nat → Int → Int → Int → Int → Int → Int → Int → Int → XS → XR
  | 0, _, _, _, _, _, _, _, _, _ => none
  | n + 1, i0, i1, i2, i3, i4, i5, i6, i7, x => B (x_loop8 B n) i0 i1 i2 i3 i4 i5 i6 i7 x
theorem x_loop8_ind {B : (Int → Int → Int → Int → Int → Int → Int → Int → XS → XR) → Int → Int → Int → Int → Int → Int → Int → Int → XS → XR} {z : Int × XS} {P : Int → Int → Int → Int → Int → Int → Int → Int → XS → Prop} (hs : ∀ (g : Int → Int → Int → Int → Int → Int → Int → Int → XS → XR), (∀ (i0 i1 i2 i3 i4 i5 i6 i7 : Int) (x : XS), g i0 i1 i2 i3 i4 i5 i6 i7 x = some z → P i0 i1 i2 i3 i4 i5 i6 i7 x) → ∀ (i0 i1 i2 i3 i4 i5 i6 i7 : Int) (x : XS), B g i0 i1 i2 i3 i4 i5 i6 i7 x = some z → P i0 i1 i2 i3 i4 i5 i6 i7 x) : ∀ (n : Nat) (i0 i1 i2 i3 i4 i5 i6 i7 : Int) (x : XS), x_loop8 B n i0 i1 i2 i3 i4 i5 i6 i7 x = some z → P i0 i1 i2 i3 i4 i5 i6 i7 x
  | 0, _, _, _, _, _, _, _, _, _, h => by cases h
  | n + 1, i0, i1, i2, i3, i4, i5, i6, i7, x, h => hs (x_loop8 B n) (x_loop8_ind hs n) i0 i1 i2 i3 i4 i5 i6 i7 x h
