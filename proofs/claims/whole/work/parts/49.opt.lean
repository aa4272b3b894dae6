/-- f: the best of the rows lo..hi in S, or none -/
def oA (lo hi : Int) (S : Int → Prop) (run key : Int → Int) (none f : Int) : Prop := (f = none ∧ ∀ i, lo ≤ i → i < hi → ¬ S i) ∨ (∃ i, lo ≤ i ∧ i < hi ∧ S i ∧ run i = f ∧ ∀ i', lo ≤ i' → i' < hi → S i' → key f ≤ key (run i'))
def oP (S : Int → Int → Prop) (g : Int → Int → Int) (key : Int → Int) (none f : Int) : Prop := (f = none ∧ ∀ l r, ¬ S l r) ∨ (∃ l r, S l r ∧ g l r = f ∧ ∀ l' r', S l' r' → key f ≤ key (g l' r'))
section OP
variable {lo hi none f : Int} {S : Int → Prop} {run key p q : Int → Int} {T : Int → Int → Prop} {g : Int → Int → Int}
theorem oA_ini : oA lo lo S run key none none := Or.inl ⟨rfl, fun i a b => absurd b (by omega)⟩
theorem oA_skip (h : oA lo hi S run key none f) (hS : ¬ S hi) : oA lo (hi + 1) S run key none f := by
  rcases h with ⟨a, b⟩ | ⟨i, a1, a2, a3, a4, a5⟩
  · refine Or.inl ⟨a, fun i c d => ?_⟩
    by_cases hi' : i = hi
    · rw [hi']; exact hS
    · exact b i c (by omega)
  · refine Or.inr ⟨i, a1, by omega, a3, a4, fun i' c d e => ?_⟩
    by_cases hi' : i' = hi
    · rw [hi'] at e; exact absurd e hS
    · exact a5 i' c (by omega) e
theorem oA_take (h : oA lo hi S run key none f) (hlo : lo ≤ hi) (hS : S hi) (hk : f ≠ none → key (run hi) ≤ key f) (hne : ∀ i, lo ≤ i → i < hi → S i → run i ≠ none) : oA lo (hi + 1) S run key none (run hi) := by
  refine Or.inr ⟨hi, hlo, by omega, hS, rfl, fun i' c d e => ?_⟩
  by_cases hi' : i' = hi
  · rw [hi']; exact Int.le_refl _
  · rcases h with ⟨a, b⟩ | ⟨i, a1, a2, a3, a4, a5⟩
    · exact absurd e (b i' c (by omega))
    · have h1 := a5 i' c (by omega) e
      have h2 := hk (fun q => hne i a1 a2 a3 (by omega))
      omega
theorem oA_keep (h : oA lo hi S run key none f) (hf : f ≠ none) (hk : key f ≤ key (run hi)) : oA lo (hi + 1) S run key none f := by
  rcases h with ⟨a, b⟩ | ⟨i, a1, a2, a3, a4, a5⟩
  · exact absurd a hf
  · refine Or.inr ⟨i, a1, by omega, a3, a4, fun i' c d e => ?_⟩
    by_cases hi' : i' = hi
    · rw [hi']; exact hk
    · exact a5 i' c (by omega) e
theorem oA_oP (h : oA lo hi S run key none f) (h1 : ∀ i, lo ≤ i → i < hi → S i → T (p i) (q i) ∧ g (p i) (q i) = run i) (h2 : ∀ l r, T l r → ∃ i, lo ≤ i ∧ i < hi ∧ S i ∧ p i = l ∧ q i = r) : oP T g key none f := by
  rcases h with ⟨a, b⟩ | ⟨i, a1, a2, a3, a4, a5⟩
  · refine Or.inl ⟨a, fun l r ht => ?_⟩
    obtain ⟨i, c1, c2, c3, c4, c5⟩ := h2 l r ht
    exact b i c1 c2 c3
  · refine Or.inr ⟨p i, q i, (h1 i a1 a2 a3).1, by rw [(h1 i a1 a2 a3).2]; exact a4, fun l r ht => ?_⟩
    obtain ⟨i', c1, c2, c3, c4, c5⟩ := h2 l r ht
    have := a5 i' c1 c2 c3
    rw [← (h1 i' c1 c2 c3).2, c4, c5] at this
    exact this
theorem oP_uniq {n1 n2 f1 f2 : Int} (hk : ∀ a b : Int, key a ≤ key b → key b ≤ key a → a = b) (h1 : oP T g key n1 f1) (h2 : oP T g key n2 f2) : (f1 = n1 ∧ f2 = n2 ∧ ∀ l r, ¬ T l r) ∨ (f1 = f2 ∧ ∃ l r, T l r ∧ g l r = f1) := by
  rcases h1 with ⟨a, b⟩ | ⟨l, r, a1, a2, a3⟩
  · rcases h2 with ⟨c, d⟩ | ⟨l', r', c1, c2, c3⟩
    · exact Or.inl ⟨a, c, b⟩
    · exact absurd c1 (b l' r')
  · rcases h2 with ⟨c, d⟩ | ⟨l', r', c1, c2, c3⟩
    · exact absurd a1 (d l r)
    · refine Or.inr ⟨hk f1 f2 ?_ ?_, l, r, a1, a2⟩
      · rw [← c2]; exact a3 l' r' c1
      · rw [← a2]; exact c3 l r a1
theorem oP_cg {T' : Int → Int → Prop} {g' : Int → Int → Int} (h : oP T g key none f) (h1 : ∀ l r, T l r ↔ T' l r) (h2 : ∀ l r, T l r → g l r = g' l r) : oP T' g' key none f := by
  rcases h with ⟨a, b⟩ | ⟨l, r, a1, a2, a3⟩
  · exact Or.inl ⟨a, fun l r q => b l r ((h1 l r).mpr q)⟩
  · refine Or.inr ⟨l, r, (h1 l r).mp a1, by rw [← h2 l r a1]; exact a2, fun l' r' q => ?_⟩
    rw [← h2 l' r' ((h1 l' r').mpr q)]
    exact a3 l' r' ((h1 l' r').mpr q)
end OP
def idk (a : Int) : Int := a
def ngk (a : Int) : Int := -a
theorem idk_i (a b : Int) (h1 : idk a ≤ idk b) (h2 : idk b ≤ idk a) : a = b := by unfold idk at *; omega
theorem ngk_i (a b : Int) (h1 : ngk a ≤ ngk b) (h2 : ngk b ≤ ngk a) : a = b := by unfold ngk at *; omega
/-- a worth: of runs that stand, and small -/
def fo (y : XS) (v : Nat) (w : Int) (F : Int → Int → Int) : Prop := (∀ l r : Int, F l r ≠ -1 → Sr y v w l r) ∧ ∀ l r : Int, F l r = -1 ∨ (0 ≤ F l r ∧ F l r ≤ 5000)
/-- the ends at b -/
def eT (y : XS) (v : Nat) (F : Int → Int → Int) (b u : Int) (l r : Int) : Prop := F l r ≠ -1 ∧ rd y 3 l = b ∧ cm y v l r ≤ u
section XQ
variable {x y t : XS} {v : Nat} {w a tick b : Int} {Bf Cf F : Int → Int → Int} {P : Int → XS → Prop}
theorem cw_fB (hI : Inv x y) (hv : (v : Int) ≤ y.1 5) (h : cw y v w a tick Bf Cf) : fo y v w Bf := by
  refine ⟨fun l r q => cw_Sr h (Or.inl q), fun l r => ?_⟩
  by_cases hs : Bf l r = -1
  · exact Or.inl hs
  · have hS := cw_Sr h (Or.inl hs)
    have h1 := (h.2.1 l r hS).1
    have h2 := (Sr_rg hI hv hS).1
    omega
theorem cw_fC (h : cw y v w a tick Bf Cf) : fo y v w Cf := by
  refine ⟨fun l r q => cw_Sr h (Or.inr q), fun l r => ?_⟩
  by_cases hs : Cf l r = -1
  · exact Or.inl hs
  · have h1 := (h.2.1 l r (cw_Sr h (Or.inr hs))).2.1
    omega
/-- the rows of b's part of byGoal -/
theorem X_seg (hI : Inv t y) (hv : (v : Int) ≤ y.1 5) (H : vwOK t y v) (hw : wv t y v F) (hf : fo y v w F) (hb : 0 ≤ b ∧ b < 24) {m : Int} (h1 : gB t b ≤ m) (h2 : m < rd t 27 b) : (0 ≤ m ∧ m < 1200) ∧ (0 ≤ rd t 25 m ∧ rd t 25 m < 1200) ∧ rd t 28 (rd t 25 m) = F (rd t 20 (rd t 25 m)) (qX t y (rd t 25 m)) ∧ rd t 22 (rd t 25 m) = cm y v (rd t 20 (rd t 25 m)) (qX t y (rd t 25 m)) ∧ rd t 25 m = bs y (rd t 20 (rd t 25 m)).toNat + qX t y (rd t 25 m) ∧ rd y 3 (rd t 20 (rd t 25 m)) = b ∧ (rd t 28 (rd t 25 m) = -1 ∨ (0 ≤ rd t 28 (rd t 25 m) ∧ rd t 28 (rd t 25 m) ≤ 5000)) ∧ (0 ≤ rd t 22 (rd t 25 m) ∧ rd t 22 (rd t 25 m) ≤ 5000) := by
  have hsg := H.2.2.2.2.2.2.1 b hb.1 hb.2
  have hsz := H.2.2.1
  obtain ⟨c1, c2, c3⟩ := H.2.2.2.2.2.2.2.1 b m hb.1 hb.2 h1 h2
  have hA := X_at hI hv H c1 c2
  have hW := hw _ c1 c2
  have hr := hf.2 (rd t 20 (rd t 25 m)) (qX t y (rd t 25 m))
  rw [← hW] at hr
  exact ⟨by omega, hA.2.2.2.2.2.1, hW, hA.2.2.2.2.1, hA.2.2.2.2.2.2.2.2.2, c3, hr, by omega⟩
theorem X_seg2 (hI : Inv t y) (hv : (v : Int) ≤ y.1 5) (H : vwOK t y v) (hf : fo y v w F) {l r : Int} (h : F l r ≠ -1) (hl : rd y 3 l = b) : ∃ m : Int, gB t b ≤ m ∧ m < rd t 27 b ∧ rd t 20 (rd t 25 m) = l ∧ qX t y (rd t 25 m) = r ∧ rd t 25 m = bs y l.toNat + r := by
  obtain ⟨a1, a2, a3, a4, a5, a6⟩ := hf.1 l r h
  obtain ⟨b1, b2, b3, b4⟩ := H.2.1 l r a1 a2 a3 a4
  obtain ⟨m, c1, c2, c3⟩ := H.2.2.2.2.2.2.2.2.1 (bs y l.toNat + r) ⟨l, r, a1, a2, a3, a4, rfl⟩ (by omega)
  rw [b1, hl] at c1 c2
  refine ⟨m, c1, c2, by rw [c3]; exact b1, ?_, c3⟩
  rw [c3]
  unfold qX
  rw [b1]
  omega
theorem sX_firstComing (hI : Inv t y) (hv : (v : Int) ≤ y.1 5) (H : vwOK t y v) (hw : wv t y v F) (hf : fo y v w F) (hb : 0 ≤ b ∧ b < 24) (h : ∀ f : Int, oP (fun l r => F l r ≠ -1 ∧ rd y 3 l = b) (fun l r => cm y v l r) idk (-1) f → (f = -1 ∨ (0 ≤ f ∧ f ≤ 5000)) → P f t) : wp (f_X3_firstComing t b) P := by
  have hsg := H.2.2.2.2.2.2.1 b hb.1 hb.2
  have hsz := H.2.2.1
  have sg := fun (m : Int) (h1 : gB t b ≤ m) (h2 : m < rd t 27 b) => X_seg hI hv H hw hf hb h1 h2
  have fin : ∀ f : Int, oA (gB t b) (rd t 27 b) (fun m => rd t 28 (rd t 25 m) ≠ -1) (fun m => rd t 22 (rd t 25 m)) idk (-1) f → P f t := by
    intro f hA
    refine h f (oA_oP (p := fun m => rd t 20 (rd t 25 m)) (q := fun m => qX t y (rd t 25 m)) hA (fun m a b hS => ?_) (fun l r hT => ?_)) ?_
    · have hs := sg m a b
      refine ⟨⟨?_, hs.2.2.2.2.2.1⟩, hs.2.2.2.1.symm⟩
      rw [← hs.2.2.1]; exact hS
    · obtain ⟨m, c1, c2, c3, c4, c5⟩ := X_seg2 hI hv H hf hT.1 hT.2
      refine ⟨m, c1, c2, ?_, c3, c4⟩
      show rd t 28 (rd t 25 m) ≠ -1
      rw [(sg m c1 c2).2.2.1, c3, c4]
      exact hT.1
    · rcases hA with ⟨q, -⟩ | ⟨m, a1, a2, a3, a4, a5⟩
      · exact Or.inl q
      · have := (sg m a1 a2).2.2.2.2.2.2.2
        rw [← a4]
        exact Or.inr this
  unfold f_X3_firstComing
  refine wp_call (sX_goalBegin hb.1 hb.2 ?_)
  refine wp_jp ?_
  refine wp_loop1 (fun m z => z = t ∧ (gB t b ≤ m ∧ m ≤ rd t 27 b) ∧ ∀ m' : Int, gB t b ≤ m' → m' < m → rd t 28 (rd t 25 m') = -1) (fun m _ => (rd t 27 b - m).toNat) (fun g m z hJ ih => ?_) x_fuel _ t ⟨rfl, ⟨by omega, by omega⟩, fun m' a b => absurd b (by omega)⟩ (fu (by omega))
  obtain ⟨rfl, ⟨m1, m2⟩, m3⟩ := hJ
  unfold b_X3_firstComing_9
  refine wp_ld hb.1 (by omega) ?_
  refine wp_le (by omega) (by omega) (by omega) (by omega) (fun hd => ?_) (fun hd => ?_)
  · exact wp_ret (fin (-1) (Or.inl ⟨rfl, fun i a b q => q (m3 i a (by omega))⟩))
  · have hs := sg m m1 hd
    refine wp_ld hs.1.1 (by omega) ?_
    refine wp_ld hs.2.1.1 (by omega) ?_
    refine wp_eq (by omega) (by omega) (by omega) (by omega) (fun hq => ?_) (fun hq => ?_)
    · refine wp_let (ih (m + 1) z ⟨rfl, ⟨by omega, by omega⟩, fun m' a b => ?_⟩ (by omega))
      by_cases hm : m' = m
      · rw [hm]; exact hq
      · exact m3 m' a (by omega)
    · refine wp_ld hs.1.1 (by omega) ?_
      refine wp_ld hs.2.1.1 (by omega) ?_
      refine wp_ret (fin _ (Or.inr ⟨m, m1, hd, hq, rfl, fun i a b c => ?_⟩))
      by_cases him : i = m
      · rw [him]; exact Int.le_refl _
      · by_cases hlt : i < m
        · exact absurd (m3 i a hlt) c
        · exact H.2.2.2.2.2.2.2.2.2 _ m i hb.1 hb.2 m1 (by omega) b
theorem sX_isEnd {i u : Int} (h0 : 0 ≤ i ∧ i < 1200) (g1 : rg (rd t 28 i)) (g2 : rg (rd t 22 i)) (gu : rg u) (h1 : rd t 28 i ≠ -1 → rd t 22 i ≤ u → P 1 t) (h2 : (rd t 28 i = -1 ∨ u < rd t 22 i) → P 0 t) : wp (f_X3_isEnd t i u) P := by
  unfold f_X3_isEnd
  refine wp_ld h0.1 (by omega) ?_
  refine wp_eq g1.1 g1.2 (by omega) (by omega) (fun h => wp_ret (h2 (Or.inl h))) (fun h => ?_)
  refine wp_ld h0.1 (by omega) ?_
  exact wp_lt gu.1 gu.2 g2.1 g2.2 (fun h' => wp_ret (h2 (Or.inr h'))) (fun h' => wp_ret (h1 h h'))
/-- from the rows of b's part to the ends at b -/
theorem X_fin (hI : Inv t y) (hv : (v : Int) ≤ y.1 5) (H : vwOK t y v) (hw : wv t y v F) (hf : fo y v w F) (hb : 0 ≤ b ∧ b < 24) {u none f : Int} {key : Int → Int} {G : Int → Int} {g : Int → Int → Int} (hg : ∀ m : Int, gB t b ≤ m → m < rd t 27 b → g (rd t 20 (rd t 25 m)) (qX t y (rd t 25 m)) = G m)
    (hA : oA (gB t b) (rd t 27 b) (fun m => rd t 28 (rd t 25 m) ≠ -1 ∧ rd t 22 (rd t 25 m) ≤ u) G key none f) : oP (eT y v F b u) g key none f := by
  refine oA_oP (p := fun m => rd t 20 (rd t 25 m)) (q := fun m => qX t y (rd t 25 m)) hA (fun m a b hS => ?_) (fun l r hT => ?_)
  · have hs := X_seg hI hv H hw hf hb a b
    refine ⟨⟨?_, hs.2.2.2.2.2.1, ?_⟩, hg m a b⟩
    · rw [← hs.2.2.1]; exact hS.1
    · rw [← hs.2.2.2.1]; exact hS.2
  · obtain ⟨m, c1, c2, c3, c4, c5⟩ := X_seg2 hI hv H hf hT.1 hT.2.1
    have hs := X_seg hI hv H hw hf hb c1 c2
    refine ⟨m, c1, c2, ⟨?_, ?_⟩, c3, c4⟩
    · rw [hs.2.2.1, c3, c4]; exact hT.1
    · rw [hs.2.2.2.1, c3, c4]; exact hT.2.2
theorem sX_lastLeaving (hI : Inv t y) (hv : (v : Int) ≤ y.1 5) (H : vwOK t y v) (hw : wv t y v F) (hf : fo y v w F) (hb : 0 ≤ b ∧ b < 24) {u : Int} (gu : rg u) (h : ∀ f : Int, oP (eT y v F b u) F ngk (-1) f → (f = -1 ∨ (0 ≤ f ∧ f ≤ 5000)) → P f t) : wp (f_X3_lastLeaving t b u) P := by
  have hsg := H.2.2.2.2.2.2.1 b hb.1 hb.2
  have hsz := H.2.2.1
  have sg := fun (m : Int) (h1 : gB t b ≤ m) (h2 : m < rd t 27 b) => X_seg hI hv H hw hf hb h1 h2
  unfold f_X3_lastLeaving
  refine wp_call (sX_goalBegin hb.1 hb.2 ?_)
  refine wp_jp ?_
  refine wp_loop2 (fun f m z => z = t ∧ (gB t b ≤ m ∧ m ≤ rd t 27 b) ∧ (f = -1 ∨ (0 ≤ f ∧ f ≤ 5000)) ∧ oA (gB t b) m (fun m => rd t 28 (rd t 25 m) ≠ -1 ∧ rd t 22 (rd t 25 m) ≤ u) (fun m => rd t 28 (rd t 25 m)) ngk (-1) f) (fun _ m _ => (rd t 27 b - m).toNat) (fun g f m z hJ ih => ?_) x_fuel _ _ t ⟨rfl, ⟨by omega, by omega⟩, Or.inl rfl, oA_ini⟩ (fu (by omega))
  obtain ⟨rfl, ⟨m1, m2⟩, m3, m4⟩ := hJ
  unfold b_X3_lastLeaving_12
  refine wp_ld hb.1 (by omega) ?_
  refine wp_le (by omega) (by omega) (by omega) (by omega) (fun hd => ?_) (fun hd => ?_)
  · have em : m = rd z 27 b := by omega
    rw [em] at m4
    exact wp_ret (h f (X_fin hI hv H hw hf hb (fun m a b => (sg m a b).2.2.1.symm) m4) m3)
  · have hs := sg m m1 hd
    refine wp_ld hs.1.1 (by omega) ?_
    refine wp_call (sX_isEnd hs.2.1 (rg_lit (by omega) (by omega)) (rg_lit (by omega) (by omega)) gu (fun e1 e2 => ?_) (fun e1 => ?_))
    · refine wp_jp ?_
      refine wp_e1 ?_
      refine wp_ld hs.2.1.1 (by omega) ?_
      refine wp_max (by omega) (by omega) (by omega) (by omega) (fun n hn => ?_)
      refine wp_let ?_
      rcases hn with ⟨n1, n2⟩ | ⟨n1, n2⟩
      · rw [n2]
        refine ih _ (m + 1) z ⟨rfl, ⟨by omega, by omega⟩, by omega, oA_take m4 m1 ⟨e1, e2⟩ (fun _ => ?_) (fun i a b c => c.1)⟩ (by omega)
        unfold ngk
        omega
      · rw [n2]
        refine ih _ (m + 1) z ⟨rfl, ⟨by omega, by omega⟩, m3, oA_keep m4 (by omega) ?_⟩ (by omega)
        unfold ngk
        omega
    · refine wp_jp ?_
      refine wp_e0 ?_
      refine wp_let (ih f (m + 1) z ⟨rfl, ⟨by omega, by omega⟩, m3, oA_skip m4 (fun q => ?_)⟩ (by omega))
      have := q.1
      have := q.2
      omega
theorem sX_leastTicks (hI : Inv t y) (hv : (v : Int) ≤ y.1 5) (H : vwOK t y v) (hw : wv t y v F) (hf : fo y v w F) (hF : ∀ l r : Int, F l r ≠ -1 → F l r < cm y v l r) (hb : 0 ≤ b ∧ b < 24) {u : Int} (gu : rg u) (h : ∀ f : Int, oP (eT y v F b u) (fun l r => cm y v l r - F l r) idk (-1) f → (f = -1 ∨ (0 ≤ f ∧ f ≤ 5000)) → P f t) : wp (f_X3_leastTicks t b u) P := by
  have hsg := H.2.2.2.2.2.2.1 b hb.1 hb.2
  have hsz := H.2.2.1
  have sg := fun (m : Int) (h1 : gB t b ≤ m) (h2 : m < rd t 27 b) => X_seg hI hv H hw hf hb h1 h2
  unfold f_X3_leastTicks
  refine wp_call (sX_goalBegin hb.1 hb.2 ?_)
  refine wp_jp ?_
  refine wp_loop2 (fun f m z => z = t ∧ (gB t b ≤ m ∧ m ≤ rd t 27 b) ∧ (f = -1 ∨ (0 ≤ f ∧ f ≤ 5000)) ∧ oA (gB t b) m (fun m => rd t 28 (rd t 25 m) ≠ -1 ∧ rd t 22 (rd t 25 m) ≤ u) (fun m => rd t 22 (rd t 25 m) - rd t 28 (rd t 25 m)) idk (-1) f) (fun _ m _ => (rd t 27 b - m).toNat) (fun g f m z hJ ih => ?_) x_fuel _ _ t ⟨rfl, ⟨by omega, by omega⟩, Or.inl rfl, oA_ini⟩ (fu (by omega))
  obtain ⟨rfl, ⟨m1, m2⟩, m3, m4⟩ := hJ
  unfold b_X3_leastTicks_12
  refine wp_ld hb.1 (by omega) ?_
  refine wp_le (by omega) (by omega) (by omega) (by omega) (fun hd => ?_) (fun hd => ?_)
  · have em : m = rd z 27 b := by omega
    rw [em] at m4
    exact wp_ret (h f (X_fin hI hv H hw hf hb (fun m a b => by rw [(sg m a b).2.2.1, (sg m a b).2.2.2.1]) m4) m3)
  · have hs := sg m m1 hd
    have hpos : ∀ m : Int, gB z b ≤ m → m < rd z 27 b → rd z 28 (rd z 25 m) ≠ -1 → rd z 28 (rd z 25 m) < rd z 22 (rd z 25 m) := by
      intro m a b c
      have hs := sg m a b
      rw [hs.2.2.1] at c ⊢
      rw [hs.2.2.2.1]
      exact hF _ _ c
    refine wp_ld hs.1.1 (by omega) ?_
    refine wp_ld hs.2.1.1 (by omega) ?_
    refine wp_ld hs.2.1.1 (by omega) ?_
    refine wp_let ?_
    refine wp_call (sX_isEnd hs.2.1 (rg_lit (by omega) (by omega)) (rg_lit (by omega) (by omega)) gu (fun e1 e2 => ?_) (fun e1 => ?_))
    · have hp := hpos m m1 hd e1
      have take : (f ≠ -1 → rd z 22 (rd z 25 m) - rd z 28 (rd z 25 m) ≤ f) → wp (x_let (m + 1) (fun v20 => g (rd z 22 (rd z 25 m) - rd z 28 (rd z 25 m)) v20 z)) P := by
        intro hk
        refine wp_let (ih _ (m + 1) z ⟨rfl, ⟨by omega, by omega⟩, by omega, oA_take (run := fun m => rd z 22 (rd z 25 m) - rd z 28 (rd z 25 m)) m4 m1 ⟨e1, e2⟩ hk (fun i a b c => ?_)⟩ (by omega))
        have := hpos i a (by omega) c.1
        omega
      refine wp_jp ?_
      refine wp_e1 ?_
      refine wp_jp ?_
      refine wp_eq (by omega) (by omega) (by omega) (by omega) (fun q => take (fun q' => absurd q q')) (fun q => ?_)
      refine wp_le (by omega) (by omega) (by omega) (by omega) (fun q' => ?_) (fun q' => take (fun _ => by omega))
      exact wp_let (ih f (m + 1) z ⟨rfl, ⟨by omega, by omega⟩, m3, oA_keep m4 q q'⟩ (by omega))
    · refine wp_jp ?_
      refine wp_e0 ?_
      refine wp_let (ih f (m + 1) z ⟨rfl, ⟨by omega, by omega⟩, m3, oA_skip m4 (fun q => ?_)⟩ (by omega))
      have := q.1
      have := q.2
      omega
theorem sX_leastRuns (hI : Inv t y) (hv : (v : Int) ≤ y.1 5) (H : vwOK t y v) (hw : wv t y v F) (hf : fo y v w F) (hb : 0 ≤ b ∧ b < 24) {u : Int} (gu : rg u) (h : ∀ f : Int, oP (eT y v F b u) F idk (-1) f → (f = -1 ∨ (0 ≤ f ∧ f ≤ 5000)) → P f t) : wp (f_X3_leastRuns t b u) P := by
  have hsg := H.2.2.2.2.2.2.1 b hb.1 hb.2
  have hsz := H.2.2.1
  have sg := fun (m : Int) (h1 : gB t b ≤ m) (h2 : m < rd t 27 b) => X_seg hI hv H hw hf hb h1 h2
  unfold f_X3_leastRuns
  refine wp_call (sX_goalBegin hb.1 hb.2 ?_)
  refine wp_jp ?_
  refine wp_loop2 (fun f m z => z = t ∧ (gB t b ≤ m ∧ m ≤ rd t 27 b) ∧ (f = -1 ∨ (0 ≤ f ∧ f ≤ 5000)) ∧ oA (gB t b) m (fun m => rd t 28 (rd t 25 m) ≠ -1 ∧ rd t 22 (rd t 25 m) ≤ u) (fun m => rd t 28 (rd t 25 m)) idk (-1) f) (fun _ m _ => (rd t 27 b - m).toNat) (fun g f m z hJ ih => ?_) x_fuel _ _ t ⟨rfl, ⟨by omega, by omega⟩, Or.inl rfl, oA_ini⟩ (fu (by omega))
  obtain ⟨rfl, ⟨m1, m2⟩, m3, m4⟩ := hJ
  unfold b_X3_leastRuns_12
  refine wp_ld hb.1 (by omega) ?_
  refine wp_le (by omega) (by omega) (by omega) (by omega) (fun hd => ?_) (fun hd => ?_)
  · have em : m = rd z 27 b := by omega
    rw [em] at m4
    exact wp_ret (h f (X_fin hI hv H hw hf hb (fun m a b => (sg m a b).2.2.1.symm) m4) m3)
  · have hs := sg m m1 hd
    refine wp_ld hs.1.1 (by omega) ?_
    refine wp_call (sX_isEnd hs.2.1 (rg_lit (by omega) (by omega)) (rg_lit (by omega) (by omega)) gu (fun e1 e2 => ?_) (fun e1 => ?_))
    · have take : (f ≠ -1 → rd z 28 (rd z 25 m) ≤ f) → wp (x_ld (z.2 28) 1200 (rd z 25 m) (fun v20 => x_let (m + 1) (fun v17 => g v20 v17 z))) P := by
        intro hk
        refine wp_ld hs.2.1.1 (by omega) ?_
        exact wp_let (ih _ (m + 1) z ⟨rfl, ⟨by omega, by omega⟩, by omega, oA_take (run := fun m => rd z 28 (rd z 25 m)) m4 m1 ⟨e1, e2⟩ hk (fun i a b c => c.1)⟩ (by omega))
      refine wp_jp ?_
      refine wp_e1 ?_
      refine wp_jp ?_
      refine wp_eq (by omega) (by omega) (by omega) (by omega) (fun q => take (fun q' => absurd q q')) (fun q => ?_)
      refine wp_ld hs.2.1.1 (by omega) ?_
      refine wp_le (by omega) (by omega) (by omega) (by omega) (fun q' => ?_) (fun q' => take (fun _ => by omega))
      exact wp_let (ih f (m + 1) z ⟨rfl, ⟨by omega, by omega⟩, m3, oA_keep m4 q q'⟩ (by omega))
    · refine wp_jp ?_
      refine wp_e0 ?_
      refine wp_let (ih f (m + 1) z ⟨rfl, ⟨by omega, by omega⟩, m3, oA_skip m4 (fun q => ?_)⟩ (by omega))
      have := q.1
      have := q.2
      omega
end XQ
