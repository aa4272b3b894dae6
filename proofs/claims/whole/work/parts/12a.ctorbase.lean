theorem bw_98 : (Cond.methodLink RX6 3 objectInit : Cond) ∈ xg_big := xb_mem 98 (by decide +kernel) rfl
theorem bw_99 : (Cond.instanceMethod objectInit : Cond) ∈ xg_big := xb_mem 99 (by decide +kernel) rfl
theorem bw_100 : (Cond.code objectInit ⟨#[0xb1]⟩ 1 none : Cond) ∈ xg_big := xb_mem 100 (by decide +kernel) rfl
theorem bw_101 : (Cond.classLink RX6 9 RX2 : Cond) ∈ xg_big := xb_mem 101 (by decide +kernel) rfl
theorem bw_102 : (Cond.instantiable RX2 3 : Cond) ∈ xg_big := xb_mem 102 (by decide +kernel) rfl
theorem bw_103 : (Cond.methodLinkNest RX6 11 yX2_init "TimedNet" : Cond) ∈ xg_nest := xb_nem 103 (by decide +kernel) rfl
theorem bw_104 : (Cond.instanceMethod yX2_init : Cond) ∈ xg_big := xb_mem 104 (by decide +kernel) rfl
theorem bw_105 : (Cond.code yX2_init cX2_init 1 none : Cond) ∈ xg_big := xb_mem 105 (by decide +kernel) rfl
theorem bw_106 : (Cond.methodLink RX2 3 objectInit : Cond) ∈ xg_big := xb_mem 106 (by decide +kernel) rfl
theorem bw_118 : (Cond.arrayClass .int : Cond) ∈ xg_big := xb_mem 118 (by decide +kernel) rfl
theorem bw_119 : (Cond.classLink RX6 16 RX0 : Cond) ∈ xg_big := xb_mem 119 (by decide +kernel) rfl
theorem bw_120 : (Cond.instantiable RX0 11 : Cond) ∈ xg_big := xb_mem 120 (by decide +kernel) rfl
theorem bw_121 : (Cond.methodLinkNest RX6 18 yX0_init "TimedNet" : Cond) ∈ xg_nest := xb_nem 121 (by decide +kernel) rfl
theorem bw_122 : (Cond.instanceMethod yX0_init : Cond) ∈ xg_big := xb_mem 122 (by decide +kernel) rfl
theorem bw_123 : (Cond.code yX0_init cX0_init 1 none : Cond) ∈ xg_big := xb_mem 123 (by decide +kernel) rfl
theorem bw_124 : (Cond.methodLink RX0 3 objectInit : Cond) ∈ xg_big := xb_mem 124 (by decide +kernel) rfl
theorem bw_171 : (Cond.arrayClass .boolean : Cond) ∈ xg_big := xb_mem 171 (by decide +kernel) rfl
theorem bw_172 : (Cond.classLink RX6 23 RX1 : Cond) ∈ xg_big := xb_mem 172 (by decide +kernel) rfl
theorem bw_173 : (Cond.instantiable RX1 6 : Cond) ∈ xg_big := xb_mem 173 (by decide +kernel) rfl
theorem bw_174 : (Cond.methodLinkNest RX6 25 yX1_init "TimedNet" : Cond) ∈ xg_nest := xb_nem 174 (by decide +kernel) rfl
theorem bw_175 : (Cond.instanceMethod yX1_init : Cond) ∈ xg_big := xb_mem 175 (by decide +kernel) rfl
theorem bw_176 : (Cond.code yX1_init cX1_init 1 none : Cond) ∈ xg_big := xb_mem 176 (by decide +kernel) rfl
theorem bw_177 : (Cond.methodLink RX1 3 objectInit : Cond) ∈ xg_big := xb_mem 177 (by decide +kernel) rfl
theorem bw_204 : (Cond.classLink RX6 30 RX5 : Cond) ∈ xg_big := xb_mem 204 (by decide +kernel) rfl
theorem bw_205 : (Cond.instantiable RX5 18 : Cond) ∈ xg_big := xb_mem 205 (by decide +kernel) rfl
theorem bw_206 : (Cond.methodLinkNest RX6 32 yX5_init "TimedNet" : Cond) ∈ xg_nest := xb_nem 206 (by decide +kernel) rfl
theorem bw_207 : (Cond.instanceMethod yX5_init : Cond) ∈ xg_big := xb_mem 207 (by decide +kernel) rfl
theorem bw_208 : (Cond.code yX5_init cX5_init 3 none : Cond) ∈ xg_big := xb_mem 208 (by decide +kernel) rfl
theorem bw_209 : (Cond.methodLink RX5 3 objectInit : Cond) ∈ xg_big := xb_mem 209 (by decide +kernel) rfl
theorem bw_210 : (Cond.classLink RX5 9 RX4 : Cond) ∈ xg_big := xb_mem 210 (by decide +kernel) rfl
theorem bw_211 : (Cond.instantiable RX4 1 : Cond) ∈ xg_big := xb_mem 211 (by decide +kernel) rfl
theorem bw_212 : (Cond.methodLinkNest RX5 11 yX4_init "TimedNet" : Cond) ∈ xg_nest := xb_nem 212 (by decide +kernel) rfl
theorem bw_213 : (Cond.instanceMethod yX4_init : Cond) ∈ xg_big := xb_mem 213 (by decide +kernel) rfl
theorem bw_214 : (Cond.code yX4_init cX4_init 1 none : Cond) ∈ xg_big := xb_mem 214 (by decide +kernel) rfl
theorem bw_215 : (Cond.methodLink RX4 3 objectInit : Cond) ∈ xg_big := xb_mem 215 (by decide +kernel) rfl
theorem bw_284 : (Cond.classLink RX6 39 RX3 : Cond) ∈ xg_big := xb_mem 284 (by decide +kernel) rfl
theorem bw_285 : (Cond.instantiable RX3 9 : Cond) ∈ xg_big := xb_mem 285 (by decide +kernel) rfl
theorem bw_286 : (Cond.methodLinkNest RX6 41 yX3_init "TimedNet" : Cond) ∈ xg_nest := xb_nem 286 (by decide +kernel) rfl
theorem bw_287 : (Cond.instanceMethod yX3_init : Cond) ∈ xg_big := xb_mem 287 (by decide +kernel) rfl
theorem bw_288 : (Cond.code yX3_init cX3_init 3 none : Cond) ∈ xg_big := xb_mem 288 (by decide +kernel) rfl
theorem bw_289 : (Cond.methodLink RX3 3 objectInit : Cond) ∈ xg_big := xb_mem 289 (by decide +kernel) rfl
theorem bw_717 : (Cond.methodLink RX7 1 objectInit : Cond) ∈ xg_big := xb_mem 717 (by decide +kernel) rfl
def xkx (own : String) (cc : ByteArray) (nL : Nat) (D : va_G) (T : ClassId × ClassId) (A : Nat → Prop) (p : Program) (s : State) (m : MethodId) (args : Array Value) (meth : Method) (c : Code) : Prop :=
  p.tables.exec = Jvm.exec ∧ c.code = cc ∧ c.maxLocals = nL ∧ s.vm.findClass own = some m.cls ∧ (∀ w ∈ xg_big, w.before args s = true) ∧ (∀ w ∈ xg_nest, va_Nw w s) ∧ va_K D vwCl [(T.1, .int), (T.2, .boolean)] s ∧ meth.locks = false ∧ (∀ q, s.heap.size ≤ q → A q) ∧ meth.name = "<init>"
def kpre (D : va_G) (T : ClassId × ClassId) (ws : va_W) (sz : Nat) (U : State) : Prop := U.heap.size = sz ∧ va_P D vwCl ws U.heap ∧ va_D (fun _ => True) ws ∧ va_K D vwCl [(T.1, .int), (T.2, .boolean)] U ∧ (∀ w ∈ xg_nest, va_Nw w U)
def kPV (D : va_G) (wI : (Nat → Nat) → va_W) (A : Nat → Prop) : Array Value → State → Outcome → State → Prop := va_Qv (fun _ : Nat → Nat => True) (fun u t => va_P D vwCl (wI u) t.heap ∧ va_D A (wI u)) A
def kMet (l : Launch) (y : MethodName) (cc : ByteArray) (mL : Nat) (rm : Room) (D : va_G) (T : ClassId × ClassId) (ws : va_W) (sz : Nat) (av : List Value) (wI : (Nat → Nat) → va_W) (mc ms : Nat) : Prop := Met l y (.code y cc mL none :: xg_big) rm (va_Pc av (kpre D T ws sz)) (kPV D wI (va_A ws sz)) mc ms (va_A ws sz)
def kQ (below : List Frame) (args : Array Value) (s : State) (D : va_G) (wI : (Nat → Nat) → va_W) (A : Nat → Prop) (mc ms : Nat) : State → Prop := MQ below (kPV D wI A) args s mc ms A
theorem kMet_of {l : Launch} {y : MethodName} {cc : ByteArray} {mL : Nat} {rm : Room} {D : va_G} {T : ClassId × ClassId} {ws : va_W} {sz : Nat} {av : List Value} {wI : (Nat → Nat) → va_W} {mc ms : Nat} (hy : plainName y.cls = true) (hn : (lg_sl av).length ≤ mL) (hin : y.name = "<init>")
    (body : ∀ (p : Program) (e : Env) (s : State) (m : MethodId) (args : Array Value) (below : List Frame) (meth : Method) (c : Code) (A : Nat → Prop) (ls : Array Slot), xkx y.cls cc mL D T A p s m args meth c → meth.sig.returnType = none → va_P D vwCl ws s.heap → va_D A ws → va_S A s.heap s.heap [] → lv_has ls mL (lv_args 0 av) → W p l e rm s m args below meth c s.heap [] 0 0 (kQ below args s D wI A mc ms) (F0 m 0 ls [])) : kMet l y cc mL rm D T ws sz av wI mc ms := by
  refine Met.ofW (cc := cc) (maxL := mL) (ret := none) hy rfl ?_
  intro p e s m args below meth c s₁ B hml hv
  obtain ⟨rfl, hsz, hP, hD, hK, hN⟩ := hv
  subst hsz
  have hts := atoms_spec (ws := (Cond.code y cc mL none :: xg_big)) B.pre
  have hl := lv_entry av (n := mL) hn
  rw [lg_entry_eq]
  generalize (lg_sl av ++ List.replicate (mL - (lg_sl av).length) Slot.unset).toArray = ls at hl ⊢
  exact body p e s m _ below meth c (va_A ws s.heap.size) ls ⟨B.exec, B.bytes, hml, findClass_of_methodNamed B.named, fun w hw => hts w (List.mem_cons_of_mem _ hw), hN, hK, B.notSynchronized, fun q h => Or.inr h, (name_of_methodNamed B.named B.method).1.trans hin⟩ B.returns hP hD.self va_S.rf hl
section KB
variable {own : String} {cc : ByteArray} {nL : Nat} {D : va_G} {T : ClassId × ClassId} {A : Nat → Prop} {p : Program} {l : Launch} {e : Env} {R : Room} {s : State} {m : MethodId} {args : Array Value} {below : List Frame} {meth : Method} {c : Code} {H : Heap} {locs : List Loc} {Q : State → Prop} {pc : Nat} {ls : Array Slot} {rest : List Value} {ws : va_W} {cells slots : Nat}
theorem k_ret {wI : (Nat → Nat) → va_W} (u : Nat → Nat) (C : xkx own cc nL D T A p s m args meth c) (hr : meth.sig.returnType = none) (hP : va_P D vwCl (wI u) H) (hD : va_D A (wI u)) (hS : va_S A s.heap H locs) (hdg : decode cc pc = .ok (.return_, 1)) : W p l e R s m args below meth c H locs cells slots (kQ below args s D wI A cells slots) (F0 m pc ls []) := by
  have hlocks : meth.locks = false := C.2.2.2.2.2.2.2.1
  exact W.vret C.1 C.2.1 hr (fun t ht hW => ⟨⟨u, rfl, trivial, by show va_P D vwCl (wI u) t.heap; rw [ht]; exact hP, hD⟩, hS.F ht⟩) hS.2.2 hdg
theorem k_cI {cA : ClassId} (h : va_K D vwCl ([(T.1, .int), (T.2, .boolean)] ++ [(cA, .int)]) s) : cA = T.1 := by
  have h1 := (h.2 2 (cA, .int) rfl).2
  have h2 := (h.2 0 (T.1, .int) rfl).2
  exact Option.some.inj (Eq.trans (Eq.symm h1) h2)
theorem k_cZ {cA : ClassId} (h : va_K D vwCl ([(T.1, .int), (T.2, .boolean)] ++ [(cA, .boolean)]) s) : cA = T.2 := by
  have h1 := (h.2 2 (cA, .boolean) rfl).2
  have h2 := (h.2 1 (T.2, .boolean) rfl).2
  exact Option.some.inj (Eq.trans (Eq.symm h1) h2)
theorem k_newI (C : xkx own cc nL D T A p s m args meth c) (hP : va_P D vwCl ws H) (hD : va_D A ws) (hS : va_S A s.heap H locs) {n : Int32} (N : Nat) (hn : ¬ n < 0) (hN : n.toNatClampNeg = N) (hb : N * componentBytes .int ≤ 536870912) (hcells : cells + 1 ≤ R.cells) (hslots : slots + N ≤ R.slots) (hdg : decode cc pc = .ok (.newarray .int, 2))
    (kk : ∀ (q : Nat) (H1 : Heap), va_P D vwCl (ws ++ [(q, .inl (T.1, N, .inl (fun _ => 0)))]) H1 → va_D A (ws ++ [(q, .inl (T.1, N, .inl (fun _ => 0)))]) → va_S A s.heap H1 locs → W p l e R s m args below meth c H1 locs (cells + 1) (slots + N) Q (F0 m (pc + 2) ls (.ref q :: rest))) : W p l e R s m args below meth c H locs cells slots Q (F0 m pc ls (.int n :: rest)) := by
  refine va_newa (atype := .int) (D := D) (cl := vwCl) (tys := [(T.1, .int), (T.2, .boolean)]) (a0 := (N, .inl (fun _ => 0))) (ty := .int) C.1 C.2.1 (C.2.2.2.2.1 _ bw_118) rfl C.2.2.2.2.2.2.1 hP hD hS C.2.2.2.2.2.2.2.2.1 (fun _ => rfl) hn hN hb hcells hslots hdg (fun q cA H1 hK hP hD hS => ?_)
  have e1 := k_cI hK
  subst e1
  exact kk q H1 hP hD hS
theorem k_newZ (C : xkx own cc nL D T A p s m args meth c) (hP : va_P D vwCl ws H) (hD : va_D A ws) (hS : va_S A s.heap H locs) {n : Int32} (N : Nat) (hn : ¬ n < 0) (hN : n.toNatClampNeg = N) (hb : N * componentBytes .boolean ≤ 536870912) (hcells : cells + 1 ≤ R.cells) (hslots : slots + N ≤ R.slots) (hdg : decode cc pc = .ok (.newarray .boolean, 2))
    (kk : ∀ (q : Nat) (H1 : Heap), va_P D vwCl (ws ++ [(q, .inl (T.2, N, .inl (fun _ => 0)))]) H1 → va_D A (ws ++ [(q, .inl (T.2, N, .inl (fun _ => 0)))]) → va_S A s.heap H1 locs → W p l e R s m args below meth c H1 locs (cells + 1) (slots + N) Q (F0 m (pc + 2) ls (.ref q :: rest))) : W p l e R s m args below meth c H locs cells slots Q (F0 m pc ls (.int n :: rest)) := by
  refine va_newa (atype := .boolean) (D := D) (cl := vwCl) (tys := [(T.1, .int), (T.2, .boolean)]) (a0 := (N, .inl (fun _ => 0))) (ty := .boolean) C.1 C.2.1 (C.2.2.2.2.1 _ bw_171) rfl C.2.2.2.2.2.2.1 hP hD hS C.2.2.2.2.2.2.2.2.1 (fun _ => rfl) hn hN hb hcells hslots hdg (fun q cA H1 hK hP hD hS => ?_)
  have e1 := k_cZ hK
  subst e1
  exact kk q H1 hP hD hS
theorem k_putF (C : xkx own cc nL D T A p s m args meth c) (hP : va_P D vwCl ws H) (hD : va_D A ws) (hS : va_S A s.heap H locs) {Cn : String} {Tn : u_T} {N ci index : Nat} {a : Nat} {fs : List Value} (q0 : Nat) (he : ws[q0]? = some (a, .inr (ci, fs))) (hc : vwCl[ci]? = some (Cn, Tn, N)) (hin : ∀ w ∈ u_ws Cn Tn N, w ∈ xg_big) (ty0 : Nat → FieldType) (hty : ∀ k, k < N → parseFieldDescriptor (Tn k).2.2.1 = some (ty0 k)) (hnm : ∀ a, a < N → ∀ b, b < N → a ≠ b → (Tn a).2.1 ≠ (Tn b).2.1) (k : Nat) (hk : k < N) (ho : (Tn k).1 = Cn) (hcn : Cn = own) (hl : Cond.fieldLink own index Cn (Tn k).2.1 (Tn k).2.2.1 ∈ xg_big) (hfin : (Tn k).2.2.2 = true) {v : Value} (hn : narrow (ty0 k) v = v) (hfit : fits (ty0 k) v = true) (hlen : k < fs.length) (hdg : decode cc pc = .ok (.putfield index, 3))
    (kk : ∀ (H1 : Heap) (locs1 : List Loc), va_P D vwCl (ws.set q0 (a, .inr (ci, fs.set k v))) H1 → va_D A (ws.set q0 (a, .inr (ci, fs.set k v))) → va_S A s.heap H1 locs1 → W p l e R s m args below meth c H1 locs1 cells slots Q (F0 m (pc + 3) ls rest)) : W p l e R s m args below meth c H locs cells slots Q (F0 m pc ls (v :: .ref a :: rest)) :=
  va_putF (D := D) C.1 C.2.1 C.2.2.2.2.1 hin ty0 hty hnm C.2.2.2.1 C.2.2.2.2.2.2.1 hP hD hS q0 he hc k hk (C.2.2.2.2.1 _ hl) (fun y h => by rw [ho] at h; exact h) hfin C.2.2.2.2.2.2.2.2.2 (ho.trans hcn) (hty k hk) hn hfit hlen hdg kk
theorem k_put (C : xkx own cc nL D T A p s m args meth c) (hP : va_P D vwCl ws H) (hD : va_D A ws) (hS : va_S A s.heap H locs) {Cn : String} {Tn : u_T} {N ci index : Nat} {a : Nat} {fs : List Value} (q0 : Nat) (he : ws[q0]? = some (a, .inr (ci, fs))) (hc : vwCl[ci]? = some (Cn, Tn, N)) (hin : ∀ w ∈ u_ws Cn Tn N, w ∈ xg_big) (ty0 : Nat → FieldType) (hty : ∀ k, k < N → parseFieldDescriptor (Tn k).2.2.1 = some (ty0 k)) (hnm : ∀ a, a < N → ∀ b, b < N → a ≠ b → (Tn a).2.1 ≠ (Tn b).2.1) (k : Nat) (hk : k < N) (ho : (Tn k).1 = Cn) (hl : Cond.fieldLink own index Cn (Tn k).2.1 (Tn k).2.2.1 ∈ xg_big) (hfin : (Tn k).2.2.2 = false) {v : Value} (hn : narrow (ty0 k) v = v) (hfit : fits (ty0 k) v = true) (hlen : k < fs.length) (hdg : decode cc pc = .ok (.putfield index, 3))
    (kk : ∀ (H1 : Heap) (locs1 : List Loc), va_P D vwCl (ws.set q0 (a, .inr (ci, fs.set k v))) H1 → va_D A (ws.set q0 (a, .inr (ci, fs.set k v))) → va_S A s.heap H1 locs1 → W p l e R s m args below meth c H1 locs1 cells slots Q (F0 m (pc + 3) ls rest)) : W p l e R s m args below meth c H locs cells slots Q (F0 m pc ls (v :: .ref a :: rest)) :=
  va_put (D := D) C.1 C.2.1 C.2.2.2.2.1 hin ty0 hty hnm C.2.2.2.1 C.2.2.2.2.2.2.1 hP hD hS q0 he hc k hk (C.2.2.2.2.1 _ hl) (fun y h => by rw [ho] at h; exact h) hfin (hty k hk) hn hfit hlen hdg kk
theorem k_get (C : xkx own cc nL D T A p s m args meth c) (hP : va_P D vwCl ws H) {Cn : String} {Tn : u_T} {N ci index : Nat} {a : Nat} {fs : List Value} (q0 : Nat) (he : ws[q0]? = some (a, .inr (ci, fs))) (hc : vwCl[ci]? = some (Cn, Tn, N)) (hin : ∀ w ∈ u_ws Cn Tn N, w ∈ xg_big) (k : Nat) (hk : k < N) (ho : (Tn k).1 = Cn) (hl : Cond.fieldLink own index Cn (Tn k).2.1 (Tn k).2.2.1 ∈ xg_big) {v : Value} (hv : fs[k]? = some v) (hdg : decode cc pc = .ok (.getfield index, 3))
    (kk : W p l e R s m args below meth c H locs cells slots Q (F0 m (pc + 3) ls (v :: rest))) : W p l e R s m args below meth c H locs cells slots Q (F0 m pc ls (.ref a :: rest)) :=
  va_get (D := D) C.1 C.2.1 C.2.2.2.2.1 hin C.2.2.2.1 C.2.2.2.2.2.2.1 hP q0 he hc k hk (C.2.2.2.2.1 _ hl) (fun y h => by rw [ho] at h; exact h) hv hdg kk
theorem k_obj (C : xkx own cc nL D T A p s m args meth c) {idx : Nat} (hl : Cond.methodLink own idx objectInit ∈ xg_big) (hsz : ls.size = nL) {a : Addr} (hdg : decode cc pc = .ok (.invokespecial idx, 3)) (hf : 1 ≤ R.frames) (hlo : 12 ≤ R.locals) (kk : W p l e R s m args below meth c H locs cells slots Q (F0 m (pc + 3) ls [])) : W p l e R s m args below meth c H locs cells slots Q (F0 m pc ls [.ref a]) :=
  W.objInit C.1 C.2.1 C.2.2.2.1 (C.2.2.2.2.1 _ hl) (C.2.2.2.2.1 _ bw_99) (C.2.2.2.2.1 _ bw_100) rfl (hsz.trans C.2.2.1.symm) rfl hdg hf (show 2 * 0 + 0 + 12 ≤ _ by omega) kk
theorem k_new (C : xkx own cc nL D T A p s m args meth c) (hP : va_P D vwCl ws H) (hD : va_D A ws) (hS : va_S A s.heap H locs) {Cn : String} {Tn : u_T} {N ci index : Nat} (hc : vwCl[ci]? = some (Cn, Tn, N)) (hin : ∀ w ∈ u_ws Cn Tn N, w ∈ xg_big) (ty0 : Nat → FieldType) (hty : ∀ k, k < N → parseFieldDescriptor (Tn k).2.2.1 = some (ty0 k)) (hcl : Cond.classLink own index Cn ∈ xg_big) (hinst : Cond.instantiable Cn N ∈ xg_big) (hini : Cond.initialized Cn ∈ xg_big) {fs : List Value} (hfs : ∀ j, j < N → defaultValue (ty0 j) = vp_V fs j) (hcells : cells + 1 ≤ R.cells) (hslots : slots + N ≤ R.slots) (hdg : decode cc pc = .ok (.new index, 3))
    (kk : ∀ (q : Nat) (H1 : Heap), va_P D vwCl (ws ++ [(q, .inr (ci, fs))]) H1 → va_D A (ws ++ [(q, .inr (ci, fs))]) → va_S A s.heap H1 locs → W p l e R s m args below meth c H1 locs (cells + 1) (slots + N) Q (F0 m (pc + 3) ls (.ref q :: rest))) : W p l e R s m args below meth c H locs cells slots Q (F0 m pc ls rest) :=
  va_new C.1 C.2.1 C.2.2.2.2.1 hin ty0 hty C.2.2.2.1 (C.2.2.2.2.1 _ hcl) (C.2.2.2.2.1 _ hinst) (C.2.2.2.2.1 _ hini) C.2.2.2.2.2.2.1 hP hD hS C.2.2.2.2.2.2.2.2.1 hc hfs hcells hslots hdg kk
theorem k_blind {sz : Nat} {av : List Value} : FrameBlind (va_Pc av (kpre D T ws sz)) := fun a U g mk q => by
  obtain ⟨q0, q1, qP, qD, qK, qN⟩ := q
  exact ⟨q0, q1, qP, qD, va_K.moved (u := U) (U := U.calling g mk a) (Vm.Alike.refl U.vm) qK, fun w hw => va_Nw.same (u := U) (U := U.calling g mk a) (xb_non hw) rfl (qN w hw)⟩
/-- behind a constructor's call: its new cells beside the rest -/
theorem k_join {h0 : Nat} {e0 : va_E} {w1 : va_W} {H1 : Heap} (hP : va_P D vwCl (ws ++ [(h0, e0)]) H) (hD : va_D A (ws ++ [(h0, e0)])) (hf : ∀ q, va_A [(h0, e0)] H.size q → A q) (hk : ∀ q : Nat, q < H.size → ¬ va_A [(h0, e0)] H.size q → H1[q]? = H[q]?) (hP1 : va_P D vwCl w1 H1) (hD1 : va_D (va_A [(h0, e0)] H.size) w1) : va_P D vwCl (ws ++ w1) H1 ∧ va_D A (ws ++ w1) := by
  have hin : ∀ (k : Nat) (q : Nat × va_E), ws[k]? = some q → (ws ++ [(h0, e0)])[k]? = some q := fun k q h => by
    rw [List.getElem?_append_left (List.getElem?_eq_some_iff.mp h).1]; exact h
  have hl : (ws ++ [(h0, e0)])[ws.length]? = some (h0, e0) := by rw [List.getElem?_append_right (Nat.le_refl _), Nat.sub_self]; rfl
  have apart : ∀ (k : Nat) (q : Nat × va_E), ws[k]? = some q → q.1 < H.size ∧ ¬ va_A [(h0, e0)] H.size q.1 := by
    intro k q hq
    have hlt := (hP k q (hin k q hq)).lt
    refine ⟨hlt, fun h => ?_⟩
    rcases h with ⟨k2, e, h⟩ | h
    · have hk2 : k2 = 0 := by
        have := (List.getElem?_eq_some_iff.mp h).1
        simp at this
        exact this
      subst hk2
      cases h
      have := hD.1 k ws.length q (q.1, e0) (hin k q hq) hl rfl
      have h3 := (List.getElem?_eq_some_iff.mp hq).1
      omega
    · omega
  refine ⟨va_P.app (fun k q hq => (hP k q (hin k q hq)).kept (hk q.1 (apart k q hq).1 (apart k q hq).2)) hP1, va_D.app ⟨fun i j x y hi hj hxy => hD.1 i j x y (hin i x hi) (hin j y hj) hxy, fun k q hq => hD.2 k q (hin k q hq)⟩ (hD1.weaken (fun k q _ h => hf q.1 h)) (fun i j x y hx hy hxy => ?_)⟩
  exact (apart i x hx).2 (by rw [hxy]; exact hD1.2 j y hy)
theorem k_call (C : xkx own cc nL D T A p s m args meth c) {h0 ci index mLy n mc ms : Nat} {fs : List Value} {y : MethodName} {cy : ByteArray} {rm : Room} {host : String} {As : List Value} {st : List Value} {wI : (Nat → Nat) → va_W} (hP : va_P D vwCl (ws ++ [(h0, .inr (ci, fs))]) H) (hD : va_D A (ws ++ [(h0, .inr (ci, fs))])) (hS : va_S A s.heap H locs) (hM : ∀ sz, kMet l y cy mLy rm D T [(h0, .inr (ci, fs))] sz (.ref h0 :: As) wI mc ms) (hcode : Cond.code y cy mLy none ∈ xg_big) (hlink : Cond.methodLinkNest own index y host ∈ xg_nest) (hinst : Cond.instanceMethod y ∈ xg_big) (hini : Cond.initialized y.cls ∈ xg_big) (hy1 : y.name = "<init>") (hnn : As.length = n) (hd : y.cls ≠ "java/lang/invoke/MethodHandle" ∧ y.cls ≠ "java/lang/invoke/VarHandle" ∧ (parseMethodDescriptor y.desc).map (fun d => d.parameters.length) = some n) (hrm : rm.cells = mc ∧ rm.slots = ms) (hR : rm.frames + 1 ≤ R.frames ∧ 8 + (mLy + 11) + rm.locals ≤ R.locals) (hsz : ls.size = nL) (hst : st = As.reverse ++ .ref h0 :: rest) (hrest : (rest.map fun v => v.category).sum ≤ 8) (hf : cells + mc ≤ R.cells ∧ slots + ms ≤ R.slots) (hdg : decode cc pc = .ok (.invokespecial index, 3))
    (kk : ∀ (u : Nat → Nat) (H1 : Heap) (locs1 : List Loc), va_P D vwCl (ws ++ wI u) H1 → va_D A (ws ++ wI u) → va_S A s.heap H1 locs1 → W p l e R s m args below meth c H1 locs1 (cells + mc) (slots + ms) Q (F0 m (pc + 3) ls rest)) : W p l e R s m args below meth c H locs cells slots Q (F0 m pc ls st) := by
  have hts := C.2.2.2.2.1
  have hl : (ws ++ [(h0, Sum.inr (ci, fs))])[ws.length]? = some (h0, (Sum.inr (ci, fs) : va_E)) := by rw [List.getElem?_append_right (Nat.le_refl _), Nat.sub_self]; rfl
  have hP0 : va_P D vwCl [(h0, .inr (ci, fs))] H := fun k q hq => by
    have hk2 : k = 0 := by
      have := (List.getElem?_eq_some_iff.mp hq).1
      simp at this
      exact this
    subst hk2
    cases hq
    exact hP _ _ hl
  have hD0 : va_D (fun _ => True) [(h0, (Sum.inr (ci, fs) : va_E))] := ⟨fun i j x y hi hj _ => by
    have h1 := (List.getElem?_eq_some_iff.mp hi).1
    have h2 := (List.getElem?_eq_some_iff.mp hj).1
    simp at h1 h2
    omega, fun _ _ _ => trivial⟩
  have hF : ∀ q, va_A [(h0, (Sum.inr (ci, fs) : va_E))] H.size q → A q := by
    intro q h
    rcases h with ⟨k, e, h⟩ | h
    · have hk2 : k = 0 := by
        have := (List.getElem?_eq_some_iff.mp h).1
        simp at this
        exact this
      subst hk2
      cases h
      exact hD.2 _ _ hl
    · exact C.2.2.2.2.2.2.2.2.1 q (Nat.le_trans hS.1 h)
  have cw : va_CN R s args own index y host cy mLy none (.code y cy mLy none :: xg_big) rm mc ms n := by
    refine ⟨⟨hrm.1, hrm.2, hR.1, hR.2, xb_pay hts hcode, List.mem_cons_self⟩, hts _ hcode, hts _ hini, ⟨hd.1, hd.2.1⟩, fun sig h => ?_, va_Nw.use (xb_non hlink) (C.2.2.2.2.2.1 _ hlink)⟩
    have h2 := hd.2.2
    rw [h] at h2
    exact (Option.some.inj h2).symm
  refine va_callv (va_runIN (As := As) (rest := rest) ⟨C.1, C.2.1, C.2.2.1, C.2.2.2.1, hts⟩ (hM H.size) ⟨cw, hy1, hts _ hinst⟩ ⟨k_blind, fun U hU hW => ⟨rfl, by rw [hU], by rw [hU]; exact hP0, hD0, va_K.moved hW.alike C.2.2.2.2.2.2.1, fun w hw => xb_nw hw hW (C.2.2.2.2.2.1 w hw)⟩⟩ rfl hnn hsz hst (lv_room hrest) hdg hf) hS (fun q _ h => hF q h) hF (fun u t H1 locs1 ht hvm hw hB hz1 hk1 hS => ?_)
  rw [ht] at hB
  obtain ⟨hP1, hD1⟩ := k_join hP hD hF hk1 hB.1 hB.2
  exact kk u H1 locs1 hP1 hD1 hS
end KB
def x_ini : XS := (fun k => cond (Nat.beq k 10) (-1) 0, fun _ _ => 0)
def y_ini : XS := (fun _ => 0, fun _ _ => 0)
