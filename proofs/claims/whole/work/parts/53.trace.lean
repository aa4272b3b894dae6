/-- the least run of S, by line, then by number -/
def lst (S : Int → Int → Prop) (l r : Int) : Prop := S l r ∧ ∀ l' r' : Int, S l' r' → (l < l' ∨ (l = l' ∧ r ≤ r'))
theorem lst_u {S : Int → Int → Prop} {l r l' r' : Int} (h : lst S l r) (h' : lst S l' r') : l = l' ∧ r = r' := by
  have h1 := h.2 l' r' h'.1
  have h2 := h'.2 l r h.1
  omega
def fstC (y : XS) (v : Nat) (F : Int → Int → Int) (b come : Int) : Prop := (∃ l r : Int, F l r ≠ -1 ∧ rd y 3 l = b ∧ cm y v l r = come) ∧ ∀ l r : Int, F l r ≠ -1 → rd y 3 l = b → come ≤ cm y v l r
def endE (y : XS) (v : Nat) (F : Int → Int → Int) (b come n l r : Int) : Prop := F l r = n ∧ rd y 3 l = b ∧ cm y v l r = come
def fewC (y : XS) (v : Nat) (F : Int → Int → Int) (b come n : Int) : Prop := (∃ l r : Int, endE y v F b come n l r) ∧ ∀ l r : Int, F l r ≠ -1 → rd y 3 l = b → cm y v l r = come → n ≤ F l r
/-- (l, r) belongs to place k of the way in the row A -/
def nxt (y : XS) (v : Nat) (F : Int → Int → Int) (b come n : Int) (A : Int → Int) (k l r : Int) : Prop := (k = n - 1 ∧ lst (endE y v F b come n) l r) ∨ (k < n - 1 ∧ lst (fun l' r' => F l' r' = k + 1 ∧ fw y v l' r' (A (2 * (k + 1))) (A (2 * (k + 1) + 1))) l r)
def wyK (y : XS) (v : Nat) (F : Int → Int → Int) (b come n : Int) (A : Int → Int) (k0 : Int) : Prop := ∀ k : Int, k0 ≤ k → k < n → nxt y v F b come n A k (A (2 * k)) (A (2 * k + 1))
section WK
variable {y : XS} {v : Nat} {F : Int → Int → Int} {b come n : Int} {A A' : Int → Int}
theorem fstC_u {c c' : Int} (h : fstC y v F b c) (h' : fstC y v F b c') : c = c' := by
  obtain ⟨⟨l, r, a1, a2, a3⟩, a4⟩ := h
  obtain ⟨⟨l', r', b1, b2, b3⟩, b4⟩ := h'
  have h1 := a4 l' r' b1 b2
  have h2 := b4 l r a1 a2
  omega
theorem fewC_u {c c' : Int} (h0 : c ≠ -1) (h0' : c' ≠ -1) (h : fewC y v F b come c) (h' : fewC y v F b come c') : c = c' := by
  obtain ⟨⟨l, r, a1, a2, a3⟩, a4⟩ := h
  obtain ⟨⟨l', r', b1, b2, b3⟩, b4⟩ := h'
  have h1 := a4 l' r' (by omega) b2 b3
  have h2 := b4 l r (by omega) a2 a3
  omega
theorem nxt_c {k l r : Int} (h : nxt y v F b come n A k l r) (e1 : A' (2 * (k + 1)) = A (2 * (k + 1))) (e2 : A' (2 * (k + 1) + 1) = A (2 * (k + 1) + 1)) : nxt y v F b come n A' k l r := by
  unfold nxt at *
  rw [e1, e2]
  exact h
theorem wyK_u (h : wyK y v F b come n A 0) (h' : wyK y v F b come n A' 0) : ∀ (d : Nat) (k : Int), 0 ≤ k → k < n → n - 1 - k ≤ d → A (2 * k) = A' (2 * k) ∧ A (2 * k + 1) = A' (2 * k + 1)
  | 0, k, h0, h1, h2 => by
    have k1 := h k h0 h1
    have k2 := h' k h0 h1
    unfold nxt at k1 k2
    rcases k1 with ⟨-, k1⟩ | ⟨q, -⟩
    · rcases k2 with ⟨-, k2⟩ | ⟨q, -⟩
      · exact lst_u k1 k2
      · omega
    · omega
  | d + 1, k, h0, h1, h2 => by
    have k1 := h k h0 h1
    have k2 := h' k h0 h1
    unfold nxt at k1 k2
    rcases k1 with ⟨q, k1⟩ | ⟨q, k1⟩
    · rcases k2 with ⟨-, k2⟩ | ⟨q', -⟩
      · exact lst_u k1 k2
      · omega
    · rcases k2 with ⟨q', -⟩ | ⟨-, k2⟩
      · omega
      · obtain ⟨e1, e2⟩ := wyK_u h h' d (k + 1) (by omega) (by omega) (by omega)
        rw [← e1, ← e2] at k2
        exact lst_u k1 k2
end WK
def kyW (t : XS) (i : Int) : Int := rd t 28 i * 2000 + i
section TR
variable {P : Int → XS → Prop} {x y t z : XS} {v : Nat} {w a tick b : Int} {Bf Cf F : Int → Int → Int}
theorem id_le (hI : Inv x y) (hv : (v : Int) ≤ y.1 5) {l r l' r' : Int} (h : Sr y v w l r) (h' : Sr y v w l' r') (e : bs y l.toNat + r ≤ bs y l'.toNat + r') : l < l' ∨ (l = l' ∧ r ≤ r') := by
  have hnp := inv_np hI hv
  obtain ⟨a1, a2, a3, a4, -, -⟩ := h
  obtain ⟨b1, b2, b3, b4, -, -⟩ := h'
  by_cases hgt : l' < l
  · have := bs_lt hI b1 hgt (by omega)
    omega
  · by_cases hl : l = l'
    · subst hl
      exact Or.inr ⟨rfl, by omega⟩
    · exact Or.inl (by omega)
theorem sX_isLesserEnd {p q : Int} (hp : 0 ≤ p ∧ p < 1200) (hq : 0 ≤ q ∧ q < 1200) (w1 : -1 ≤ rd t 28 p ∧ rd t 28 p ≤ 5000) (w2 : -1 ≤ rd t 28 q ∧ rd t 28 q ≤ 5000) (h1 : kyW t p < kyW t q → P 1 t) (h0 : kyW t q ≤ kyW t p → P 0 t) : wp (f_X3_isLesserEnd t p q) P := by
  unfold f_X3_isLesserEnd
  unfold kyW at h1 h0
  refine wp_ld hp.1 (by omega) ?_
  refine wp_ld hq.1 (by omega) ?_
  refine wp_jp ?_
  refine wp_lt (by omega) (by omega) (by omega) (by omega) (fun c => wp_ret (h1 (by omega))) (fun c => ?_)
  refine wp_ld hp.1 (by omega) ?_
  refine wp_ld hq.1 (by omega) ?_
  refine wp_eq (by omega) (by omega) (by omega) (by omega) (fun c2 => ?_) (fun c2 => wp_ret (h0 (by omega)))
  exact wp_le (by omega) (by omega) (by omega) (by omega) (fun c3 => wp_ret (h0 (by omega))) (fun c3 => wp_ret (h1 (by omega)))
theorem sX_lastOfWay (hI : Inv t y) (hv : (v : Int) ≤ y.1 5) (H : vwOK t y v) (hw : wv t y v F) (hf : fo y v w F) (hb : 0 ≤ b ∧ b < 24) (h0 : (∀ l r : Int, ¬ (F l r ≠ -1 ∧ rd y 3 l = b)) → P (-1) t)
    (h1 : ∀ i come : Int, isR y v i → rd t 23 i = 1 → rd t 28 i ≠ -1 → fstC y v F b come → fewC y v F b come (rd t 28 i) → lst (endE y v F b come (rd t 28 i)) (rd t 20 i) (qX t y i) → P i t) : wp (f_X3_lastOfWay t b) P := by
  have hsg := H.2.2.2.2.2.2.1 b hb.1 hb.2
  have hsz := H.2.2.1
  have sg := fun (m : Int) (h1 : gB t b ≤ m) (h2 : m < rd t 27 b) => X_seg hI hv H hw hf hb h1 h2
  unfold f_X3_lastOfWay
  refine wp_call (sX_firstComing hI hv H hw hf hb (fun come hc hcr => ?_))
  refine wp_call (sX_goalBegin hb.1 hb.2 ?_)
  refine wp_jp ?_
  refine wp_loop2 (fun f m z => z = t ∧ (gB t b ≤ m ∧ m ≤ rd t 27 b) ∧ oA (gB t b) m (fun m => rd t 28 (rd t 25 m) ≠ -1 ∧ rd t 22 (rd t 25 m) ≤ come) (fun m => rd t 25 m) (kyW t) (-1) f) (fun _ m _ => (rd t 27 b - m).toNat) (fun g f m z hJ ih => ?_) x_fuel _ _ t ⟨rfl, ⟨by omega, by omega⟩, oA_ini⟩ (fu (by omega))
  obtain ⟨rfl, ⟨m1, m2⟩, m4⟩ := hJ
  unfold b_X3_lastOfWay_18
  refine wp_ld hb.1 (by omega) ?_
  refine wp_le (by omega) (by omega) (by omega) (by omega) (fun hd => ?_) (fun hd => ?_)
  · have em : m = rd z 27 b := by omega
    rw [em] at m4
    refine wp_ret ?_
    rcases m4 with ⟨e1, e2⟩ | ⟨m', c1, c2, c3, c4, c5⟩
    · rw [e1]
      refine h0 (fun l r hT => ?_)
      rcases hc with ⟨-, e⟩ | ⟨l', r', d1, d2, d3⟩
      · exact e l r hT
      · have d2 : cm y v l' r' = come := d2
        obtain ⟨m'', f1, f2, f3, f4, f5⟩ := X_seg2 hI hv H hf d1.1 d1.2
        have hs := sg m'' f1 f2
        refine e2 m'' f1 f2 ⟨?_, ?_⟩
        · rw [hs.2.2.1, f3, f4]; exact d1.1
        · rw [hs.2.2.2.1, f3, f4]; omega
    · have c4 : rd z 25 m' = f := c4
      have hs := sg m' c1 c2
      have hR := H.2.2.2.2.2.2.2.1 b m' hb.1 hb.2 c1 c2
      rw [c4] at hs hR c3
      have hF : F (rd z 20 f) (qX z y f) ≠ -1 := by rw [← hs.2.2.1]; exact c3.1
      rcases hc with ⟨-, e⟩ | ⟨l', r', d1, d2, d3⟩
      · exact absurd ⟨hF, hR.2.2⟩ (e _ _)
      · have d2 : cm y v l' r' = come := d2
        have d4 : ∀ l r : Int, F l r ≠ -1 → rd y 3 l = b → come ≤ cm y v l r := fun l r p1 p2 => d3 l r ⟨p1, p2⟩
        have hcm : cm y v (rd z 20 f) (qX z y f) = come := by
          have p1 := d4 _ _ hF hR.2.2
          have p2 := c3.2
          omega
        have hE : endE y v F b come (rd z 28 f) (rd z 20 f) (qX z y f) := ⟨hs.2.2.1.symm, hR.2.2, hcm⟩
        have hk : ∀ l r : Int, F l r ≠ -1 → rd y 3 l = b → cm y v l r = come → rd z 28 f * 2000 + f ≤ F l r * 2000 + (bs y l.toNat + r) ∧ (0 ≤ bs y l.toNat + r ∧ bs y l.toNat + r < 1200) := by
          intro l r p1 p2 p3
          obtain ⟨m'', f1, f2, f3, f4, f5⟩ := X_seg2 hI hv H hf p1 p2
          have hs2 := sg m'' f1 f2
          rw [f3, f4] at hs2
          have := c5 m'' f1 f2 ⟨by rw [hs2.2.2.1]; exact p1, by omega⟩
          unfold kyW at this
          simp only [] at this
          rw [hs2.2.2.1, f5] at this
          rw [f5] at hs2
          exact ⟨this, hs2.2.1⟩
        have hR2 := hs.2.1
        refine h1 f come hR.1 hR.2.1 c3.1 ⟨⟨l', r', d1.1, d1.2, d2⟩, d4⟩ ⟨⟨_, _, hE⟩, fun l r p1 p2 p3 => ?_⟩ ⟨hE, fun l r p => ?_⟩
        · have := hk l r p1 p2 p3
          omega
        · obtain ⟨p1, p2, p3⟩ := p
          have hFl : F l r ≠ -1 := by rw [p1]; exact c3.1
          have := hk l r hFl p2 p3
          have e5 := hs.2.2.2.2.1
          exact id_le hI hv (hf.1 _ _ hF) (hf.1 l r hFl) (by omega)
  · have hs := sg m m1 hd
    refine wp_ld hs.1.1 (by omega) ?_
    refine wp_call (sX_isEnd hs.2.1 (rg_lit (by omega) (by omega)) (rg_lit (by omega) (by omega)) (rg_lit (by omega) (by omega)) (fun e1 e2 => ?_) (fun e1 => ?_))
    · have take : (f ≠ -1 → kyW z (rd z 25 m) ≤ kyW z f) → wp (x_let (m + 1) (fun v19 => g (rd z 25 m) v19 z)) P := fun hk => wp_let (ih _ (m + 1) z ⟨rfl, ⟨by omega, by omega⟩, oA_take (run := fun m => rd z 25 m) m4 m1 ⟨e1, e2⟩ hk (fun i p1 p2 p3 => by
        have := sg i p1 (by omega)
        show rd z 25 i ≠ -1
        omega)⟩ (by omega))
      refine wp_jp ?_
      refine wp_e1 ?_
      refine wp_jp ?_
      have hfr : f = -1 ∨ ∃ m' : Int, gB z b ≤ m' ∧ m' < m ∧ rd z 25 m' = f := by
        rcases m4 with ⟨p, -⟩ | ⟨m', p1, p2, -, p3, -⟩
        · exact Or.inl p
        · exact Or.inr ⟨m', p1, p2, p3⟩
      rcases hfr with e | ⟨m', p1, p2, p3⟩
      · exact wp_eq (by omega) (by omega) (by omega) (by omega) (fun q => take (fun q' => absurd q q')) (fun q => absurd e q)
      · have hs' := sg m' p1 (by omega)
        rw [p3] at hs'
        refine wp_eq (by omega) (by omega) (by omega) (by omega) (fun q => take (fun q' => absurd q q')) (fun q => ?_)
        refine wp_call (sX_isLesserEnd hs.2.1 hs'.2.1 (by omega) (by omega) (fun q2 => ?_) (fun q2 => ?_))
        · refine wp_e1 ?_
          exact take (fun _ => by omega)
        · refine wp_e0 ?_
          exact wp_let (ih f (m + 1) z ⟨rfl, ⟨by omega, by omega⟩, oA_keep m4 q q2⟩ (by omega))
    · refine wp_jp ?_
      refine wp_e0 ?_
      refine wp_let (ih f (m + 1) z ⟨rfl, ⟨by omega, by omega⟩, oA_skip m4 (fun q => ?_)⟩ (by omega))
      have := q.1
      have := q.2
      omega
theorem sX_oneAhead (hI : Inv t y) (hv : (v : Int) ≤ y.1 5) (H : vwOK t y v) (hw : wv t y v F) (hf : fo y v w F) (zj : ∀ (j : Nat) (q : Int), 2 ≤ j → rd z j q = rd t j q) {i : Int} (hi : isR y v i) (hi1 : rd t 23 i = 1) (hi2 : 1 ≤ rd t 28 i)
    (h0 : (∀ l r : Int, F l r = rd t 28 i - 1 → ¬ fw y v l r (rd t 20 i) (qX t y i)) → P (-1) z)
    (h1 : ∀ f : Int, isR y v f → rd t 23 f = 1 → rd t 28 f = rd t 28 i - 1 → lst (fun l r => F l r = rd t 28 i - 1 ∧ fw y v l r (rd t 20 i) (qX t y i)) (rd t 20 f) (qX t y f) → P f z) : wp (f_X3_oneAhead z i) P := by
  have hA := X_at hI hv H hi hi1
  obtain ⟨n, en⟩ : ∃ n, n = rd y 2 (rd t 20 i) := ⟨_, rfl⟩
  obtain ⟨L, eL⟩ : ∃ L, L = rd t 21 i := ⟨_, rfl⟩
  have hn24 := hI.1.2.1
  have hn : 0 ≤ n ∧ n < y.1 2 := by rw [en]; exact hA.2.2.2.2.2.2.2.1
  have hb : 0 ≤ n ∧ n < 24 := by omega
  have hL : 0 ≤ L ∧ L ≤ 5000 := by omega
  have hnd := hI.1.2.2.2 n hn.1 hn.2
  have hln := (hI.2.1.2.2.2.2.2.2 (rd t 20 i) hA.1.1 hA.1.2.2).1
  have hl100 := hI.2.1.2.1
  have hsg := H.2.2.2.2.2.2.1 n hb.1 hb.2
  have hsz := H.2.2.1
  have sg := fun (m : Int) (h1 : gB t n ≤ m) (h2 : m < rd t 27 n) => X_seg hI hv H hw hf hb h1 h2
  have zg : gB z n = gB t n := by unfold gB; rw [zj 27 _ (by decide)]
  have hwi := hw i hi hi1
  have hwr := hf.2 (rd t 20 i) (qX t y i)
  rw [← hwi] at hwr
  -- what fits
  have fit : ∀ m : Int, gB t n ≤ m → m < rd t 27 n → (fw y v (rd t 20 (rd t 25 m)) (qX t y (rd t 25 m)) (rd t 20 i) (qX t y i) ↔ (soonf (rd y 1 n) L ≤ rd t 22 (rd t 25 m) ∧ rd t 22 (rd t 25 m) ≤ L - rd y 0 n)) := by
    intro m p1 p2
    have hR := H.2.2.2.2.2.2.2.1 n m hb.1 hb.2 p1 p2
    have hs := sg m p1 p2
    refine Iff.trans (X_fw hI hv H hi hi1 hR.1 hR.2.1) ?_
    rw [← en, ← eL, hR.2.2]
    unfold soonf
    split <;> omega
  unfold f_X3_oneAhead
  refine wp_call (sX_startOf hA.2.2.2.2.2.1.1 hA.2.2.2.2.2.1.2 (by rw [zj 20 _ (by decide)]; exact hA.1.1) (by rw [zj 20 _ (by decide)]; omega) ?_)
  rw [zj 20 _ (by decide), zj 4 _ (by decide), hln.1, ← en]
  refine wp_ld hA.2.2.2.2.2.1.1 (by omega) ?_
  rw [zj 21 _ (by decide), ← eL]
  refine wp_call (sX_soonestComing hb.1 hb.2 (by rw [zj 3 _ (by decide), hnd.2.1]; exact (rg_lit (by omega) (by omega))) ?_)
  rw [zj 3 _ (by decide), hnd.2.1]
  refine wp_ld hA.2.2.2.2.2.1.1 (by omega) ?_
  rw [zj 21 _ (by decide), ← eL]
  refine wp_call (sX_latestComing hb.1 hb.2 ?_)
  rw [zj 2 _ (by decide), hnd.1]
  refine wp_call (sX_goalBegin hb.1 hb.2 ?_)
  rw [zg]
  have hso : soonf (rd y 1 n) L = 0 ∨ soonf (rd y 1 n) L = L - rd y 1 n := by
    unfold soonf
    split
    · exact Or.inl rfl
    · exact Or.inr rfl
  obtain ⟨so, eso⟩ : ∃ so, so = soonf (rd y 1 n) L := ⟨_, rfl⟩
  rw [← eso] at hso fit ⊢
  refine wp_jp ?_
  refine wp_loop2 (fun f m z' => z' = z ∧ (gB t n ≤ m ∧ m ≤ rd t 27 n) ∧ oA (gB t n) m (fun m => rd t 28 (rd t 25 m) = rd t 28 i - 1 ∧ so ≤ rd t 22 (rd t 25 m) ∧ rd t 22 (rd t 25 m) ≤ L - rd y 0 n) (fun m => rd t 25 m) idk (-1) f) (fun _ m _ => (rd t 27 n - m).toNat) (fun g f m z' hJ ih => ?_) x_fuel _ _ z ⟨rfl, ⟨by omega, by omega⟩, oA_ini⟩ (fu (by omega))
  obtain ⟨rfl, ⟨m1, m2⟩, m4⟩ := hJ
  unfold b_X3_oneAhead_59
  refine wp_ld hb.1 (by omega) ?_
  rw [zj 27 _ (by decide)]
  refine wp_le (by omega) (by omega) (by omega) (by omega) (fun hd => ?_) (fun hd => ?_)
  · have em : m = rd t 27 n := by omega
    rw [em] at m4
    refine wp_ret ?_
    rcases m4 with ⟨e1, e2⟩ | ⟨m', c1, c2, c3, c4, c5⟩
    · rw [e1]
      refine h0 (fun l r p1 p2 => ?_)
      have hto : rd y 3 l = n := by rw [en]; exact p2.1.symm
      obtain ⟨m'', f1, f2, f3, f4, f5⟩ := X_seg2 hI hv H hf (show F l r ≠ -1 by omega) hto
      have hs := sg m'' f1 f2
      have ft := fit m'' f1 f2
      rw [f3, f4] at hs ft
      exact e2 m'' f1 f2 ⟨by rw [hs.2.2.1]; exact p1, ft.mp p2⟩
    · have c4 : rd t 25 m' = f := c4
      have hs := sg m' c1 c2
      have hR := H.2.2.2.2.2.2.2.1 n m' hb.1 hb.2 c1 c2
      have ft := fit m' c1 c2
      rw [c4] at hs hR c3 ft
      have hF : F (rd t 20 f) (qX t y f) ≠ -1 := by rw [← hs.2.2.1]; omega
      refine h1 f hR.1 hR.2.1 c3.1 ⟨⟨by rw [← hs.2.2.1]; exact c3.1, ft.mpr c3.2⟩, fun l r p => ?_⟩
      obtain ⟨p1, p2⟩ := p
      have hto : rd y 3 l = n := by rw [en]; exact p2.1.symm
      have hFl : F l r ≠ -1 := by omega
      obtain ⟨m'', f1, f2, f3, f4, f5⟩ := X_seg2 hI hv H hf hFl hto
      have hs2 := sg m'' f1 f2
      have ft2 := fit m'' f1 f2
      rw [f3, f4] at hs2 ft2
      have := c5 m'' f1 f2 ⟨by rw [hs2.2.2.1]; exact p1, ft2.mp p2⟩
      unfold idk at this
      simp only [] at this
      have e5 := hs.2.2.2.2.1
      exact id_le hI hv (hf.1 _ _ hF) (hf.1 l r hFl) (by omega)
  · have hs := sg m m1 hd
    refine wp_ld hs.1.1 (by omega) ?_
    rw [zj 25 _ (by decide)]
    refine wp_ld hs.2.1.1 (by omega) ?_
    rw [zj 28 _ (by decide)]
    refine wp_ld hA.2.2.2.2.2.1.1 (by omega) ?_
    rw [zj 28 _ (by decide)]
    have skip : ¬ (rd t 28 (rd t 25 m) = rd t 28 i - 1 ∧ so ≤ rd t 22 (rd t 25 m) ∧ rd t 22 (rd t 25 m) ≤ L - rd y 0 n) → wp (x_let (m + 1) (fun v28 => g f v28 z')) P := fun q => wp_let (ih f (m + 1) z' ⟨rfl, ⟨by omega, by omega⟩, oA_skip m4 q⟩ (by omega))
    have hfr : f = -1 ∨ (0 ≤ f ∧ f < 1200) := by
      rcases m4 with ⟨p, -⟩ | ⟨m', p1, p2, -, p3, -⟩
      · exact Or.inl p
      · have := (sg m' p1 (by omega)).2.1
        have p3 : rd t 25 m' = f := p3
        omega
    refine wp_jp ?_
    refine wp_jp ?_
    refine wp_eq (by omega) (by omega) (by omega) (by omega) (fun q1 => ?_) (fun q1 => ?_)
    · refine wp_ld hs.2.1.1 (by omega) ?_
      rw [zj 22 _ (by decide)]
      refine wp_call (sX_isBetween (rg_lit (by omega) (by omega)) (rg_lit (by omega) (by omega)) (rg_lit (by omega) (by omega)) (fun q2 q3 => ?_) (fun q2 => ?_))
      · refine wp_e1 ?_
        refine wp_jp ?_
        refine wp_e1 ?_
        refine wp_jp ?_
        have take : (f ≠ -1 → rd t 25 m ≤ f) → wp (x_let (m + 1) (fun v28 => g (rd t 25 m) v28 z')) P := fun hk => wp_let (ih _ (m + 1) z' ⟨rfl, ⟨by omega, by omega⟩, oA_take (run := fun m => rd t 25 m) m4 m1 ⟨q1, q2, q3⟩ hk (fun i p1 p2 p3 => by
          have := sg i p1 (by omega)
          show rd t 25 i ≠ -1
          omega)⟩ (by omega))
        refine wp_eq (by omega) (by omega) (by omega) (by omega) (fun q => take (fun q' => absurd q q')) (fun q => ?_)
        refine wp_le (by omega) (by omega) (by omega) (by omega) (fun q' => ?_) (fun q' => take (fun _ => by omega))
        exact wp_let (ih f (m + 1) z' ⟨rfl, ⟨by omega, by omega⟩, oA_keep m4 q q'⟩ (by omega))
      · refine wp_e0 ?_
        refine wp_jp ?_
        refine wp_e0 ?_
        exact skip (fun q => by omega)
    · refine wp_jp ?_
      refine wp_e0 ?_
      exact skip (fun q => q1 q.1)
theorem sX_placeOf {i : Int} (h0 : 0 ≤ i ∧ i < 1200) (h1 : 0 ≤ rd z 20 i ∧ rd z 20 i < 100) (h : P (i - rd z 11 (rd z 20 i)) z) : wp (f_X5_placeOf z i) P := by
  unfold f_X5_placeOf
  refine wp_ld h0.1 (by omega) ?_
  refine wp_ld h1.1 (by omega) ?_
  exact wp_ret h
theorem sX_trace (hI : Inv t y) (hv : (v : Int) ≤ y.1 5) (H : vwOK t y v) (hw : wv t y v Cf) (hcw : cw y v w a tick Bf Cf) (hb : 0 ≤ b ∧ b < 24) {j1 : Nat} (hj : j1 < 2) (h0 : (∀ l r : Int, ¬ (Cf l r ≠ -1 ∧ rd y 3 l = b)) → P (-1) t)
    (h1 : ∀ (z : XS) (n come : Int), fstC y v Cf b come → fewC y v Cf b come n → (1 ≤ n ∧ n ≤ 1200) → (∀ k : Nat, z.1 k = t.1 k) → (∀ (j : Nat) (q : Int), j ≠ j1 → rd z j q = rd t j q) → wyK y v Cf b come n (fun q => rd z j1 q) 0 → P n z) : wp (f_X3_trace j1 t b) P := by
  have hf := cw_fC hcw
  have hl100 := hI.2.1.2.1
  unfold f_X3_trace
  refine wp_call (sX_lastOfWay hI hv H hw hf hb (fun hno => wp_eq (by omega) (by omega) (by omega) (by omega) (fun _ => wp_ret (h0 hno)) (fun q => absurd rfl q)) (fun i come hi hi1 hi2 hfs hfe hls => ?_))
  have hA := X_at hI hv H hi hi1
  refine wp_eq (by omega) (by omega) (by omega) (by omega) (fun q => absurd q (by omega)) (fun _ => ?_)
  refine wp_ld hA.2.2.2.2.2.1.1 (by omega) ?_
  obtain ⟨n, en⟩ : ∃ n, n = rd t 28 i := ⟨_, rfl⟩
  have hwi := hw i hi hi1
  have hS := hf.1 _ _ (show Cf (rd t 20 i) (qX t y i) ≠ -1 by rw [← hwi]; exact hi2)
  have hn : 1 ≤ n ∧ n ≤ 1200 := by
    have := (hcw.2.1 _ _ hS).2.1
    omega
  rw [← en] at hfe hls ⊢
  refine wp_let (wp_jp ?_)
  refine wp_loop2 (fun i k z => (∀ k : Nat, z.1 k = t.1 k) ∧ (∀ (j : Nat) (q : Int), j ≠ j1 → rd z j q = rd t j q) ∧ (-1 ≤ k ∧ k < n) ∧ wyK y v Cf b come n (fun q => rd z j1 q) (k + 1) ∧ (0 ≤ k → isR y v i ∧ rd t 23 i = 1 ∧ rd t 28 i = k + 1 ∧ nxt y v Cf b come n (fun q => rd z j1 q) k (rd t 20 i) (qX t y i))) (fun _ k _ => (k + 1).toNat) (fun g i k z hJ ih => ?_) x_fuel i (n - 1) t ⟨fun _ => rfl, fun _ _ _ => rfl, ⟨by omega, by omega⟩, fun k p1 p2 => absurd p2 (by omega), fun _ => ⟨hi, hi1, by omega, Or.inl ⟨rfl, hls⟩⟩⟩ (fu (by omega))
  obtain ⟨z1, zj, ⟨k1, k2⟩, k3, k4⟩ := hJ
  unfold b_X3_trace_27
  refine wp_lt (by omega) (by omega) (by omega) (by omega) (fun hk => wp_ret ?_) (fun hk => ?_)
  · have ek : k + 1 = 0 := by omega
    rw [ek] at k3
    exact h1 z n come hfs hfe hn z1 zj k3
  obtain ⟨r1, r2, r3, r4⟩ := k4 hk
  have hB := X_at hI hv H r1 r2
  refine wp_eq (by omega) (by omega) (by omega) (by omega) (fun q => absurd q (by omega)) (fun _ => ?_)
  refine wp_ld hB.2.2.2.2.2.1.1 (by omega) ?_
  rw [zj 20 _ (by omega)]
  refine wp_st (by omega) (by omega) ?_
  have hbs := (hI.2.1.2.2.2.2.2.2 (rd t 20 i) hB.1.1 hB.1.2.2).1.2.2.2.2.2.2.2
  have e20 : rd (wr z j1 (2 * k) (rd t 20 i)) 20 i = rd t 20 i := by rw [rd_wr_j (by omega)]; exact zj 20 i (by omega)
  have e11 : rd (wr z j1 (2 * k) (rd t 20 i)) 11 (rd t 20 i) = bs y (rd t 20 i).toNat := by rw [rd_wr_j (by omega), zj 11 _ (by omega)]; exact hbs
  refine wp_call (sX_placeOf hB.2.2.2.2.2.1 (by rw [e20]; omega) ?_)
  rw [e20, e11]
  refine wp_st (by omega) (by omega) ?_
  have eq : i - bs y (rd t 20 i).toNat = qX t y i := rfl
  rw [eq]
  obtain ⟨z', ez⟩ : ∃ z', z' = wr (wr z j1 (2 * k) (rd t 20 i)) j1 (2 * k + 1) (qX t y i) := ⟨_, rfl⟩
  rw [← ez]
  have z1' : ∀ k : Nat, z'.1 k = t.1 k := fun k => by rw [ez]; exact z1 k
  have zj' : ∀ (j : Nat) (q : Int), j ≠ j1 → rd z' j q = rd t j q := fun j q h => by rw [ez, rd_wr_j h, rd_wr_j h]; exact zj j q h
  have A0 : rd z' j1 (2 * k) = rd t 20 i := by rw [ez, rd_wr_ne (by omega) (by omega) (by omega), rd_wr_eq]
  have A1 : rd z' j1 (2 * k + 1) = qX t y i := by rw [ez, rd_wr_eq]
  have A2 : ∀ q : Int, 2 * k + 2 ≤ q → rd z' j1 q = rd z j1 q := fun q h => by rw [ez, rd_wr_ne (by omega) (by omega) (by omega), rd_wr_ne (by omega) (by omega) (by omega)]
  have hwy : wyK y v Cf b come n (fun q => rd z' j1 q) k := by
    intro k' p1 p2
    by_cases hkk : k' = k
    · subst hkk
      show nxt y v Cf b come n (fun q => rd z' j1 q) k' (rd z' j1 (2 * k')) (rd z' j1 (2 * k' + 1))
      rw [A0, A1]
      exact nxt_c r4 (A2 _ (by omega)) (A2 _ (by omega))
    · have := k3 k' (by omega) p2
      show nxt y v Cf b come n (fun q => rd z' j1 q) k' (rd z' j1 (2 * k')) (rd z' j1 (2 * k' + 1))
      rw [A2 _ (by omega), A2 _ (by omega)]
      exact nxt_c this (A2 _ (by omega)) (A2 _ (by omega))
  have ek : k + -1 + 1 = k := by omega
  refine wp_call (sX_oneAhead hI hv H hw hf (fun j q h => zj' j q (by omega)) r1 r2 (by omega) (fun hno => ?_) (fun f f1 f2 f3 f4 => ?_))
  · refine wp_let (ih (-1) (k + -1) z' ⟨z1', zj', ⟨by omega, by omega⟩, by rw [ek]; exact hwy, fun hk' => ?_⟩ (by omega))
    have hCi := hw i r1 r2
    obtain ⟨l', r', d1, d2, d3⟩ := hcw.2.2.1 (rd t 20 i) (qX t y i) (by omega) (by omega)
    exact absurd d1 (hno l' r' (by omega))
  · refine wp_let (ih f (k + -1) z' ⟨z1', zj', ⟨by omega, by omega⟩, by rw [ek]; exact hwy, fun hk' => ⟨f1, f2, by omega, Or.inr ⟨by omega, ?_⟩⟩⟩ (by omega))
    rw [ek]
    show lst (fun l' r' => Cf l' r' = k ∧ fw y v l' r' (rd z' j1 (2 * k)) (rd z' j1 (2 * k + 1))) (rd t 20 f) (qX t y f)
    rw [A0, A1]
    rw [r3, show k + 1 - 1 = k by omega] at f4
    exact f4
end TR
