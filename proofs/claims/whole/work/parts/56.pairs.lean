/-- the n pairs (pl k, pc k) are those of T that none beats, in their order -/
def pr (T : Int → Int → Prop) (n : Int) (pl pc : Int → Int) : Prop :=
  (∀ k : Int, 0 ≤ k → k < n → T (pl k) (pc k)) ∧ (∀ L C : Int, T L C → ∃ k : Int, 0 ≤ k ∧ k < n ∧ L ≤ pl k ∧ pc k ≤ C) ∧ (∀ i j : Int, 0 ≤ i → i < j → j < n → pl i < pl j ∧ pc i < pc j)
section PR
variable {T T' : Int → Int → Prop} {n n' : Int} {pl pc pl' pc' : Int → Int}
theorem pr_emb (h : pr T n pl pc) (h' : pr T n' pl' pc') {k : Int} (h0 : 0 ≤ k) (h1 : k < n) : ∃ k' : Int, 0 ≤ k' ∧ k' < n' ∧ pl' k' = pl k ∧ pc' k' = pc k := by
  obtain ⟨k', a1, a2, a3, a4⟩ := h'.2.1 _ _ (h.1 k h0 h1)
  obtain ⟨k2, b1, b2, b3, b4⟩ := h.2.1 _ _ (h'.1 k' a1 a2)
  have e : k2 = k := by
    by_cases hlt : k2 < k
    · have := h.2.2 k2 k b1 hlt h1
      omega
    · by_cases hgt : k < k2
      · have := h.2.2 k k2 h0 hgt b2
        omega
      · omega
  rw [e] at b3 b4
  exact ⟨k', a1, a2, by omega, by omega⟩
theorem pr_ge (h : pr T n pl pc) (h' : pr T n' pl' pc') : ∀ (d : Nat) (k' : Int), (d : Int) < n → 0 ≤ k' → k' < n' → pl' k' = pl d → (d : Int) ≤ k'
  | 0, k', _, h0, _, _ => h0
  | d + 1, k', hd, h0, h1, e => by
    obtain ⟨k0, a1, a2, a3, a4⟩ := pr_emb h h' (k := (d : Int)) (by omega) (by omega)
    have ih := pr_ge h h' d k0 (by omega) a1 a2 a3
    have hs := h.2.2 (d : Int) ((d + 1 : Nat) : Int) (by omega) (by omega) hd
    have hlt : k0 < k' := by
      by_cases hc : k' < k0
      · have := h'.2.2 k' k0 h0 hc a2
        omega
      · by_cases he : k' = k0
        · rw [he] at e
          omega
        · omega
    omega
theorem pr_at (h : pr T n pl pc) (h' : pr T n' pl' pc') {k : Int} (h0 : 0 ≤ k) (h1 : k < n) : k < n' ∧ pl' k = pl k ∧ pc' k = pc k := by
  obtain ⟨k', a1, a2, a3, a4⟩ := pr_emb h h' h0 h1
  have e1 : ((k.toNat : Nat) : Int) = k := by omega
  have e2 : ((k'.toNat : Nat) : Int) = k' := by omega
  have g1 := pr_ge h h' k.toNat k' (by omega) a1 a2 (by rw [e1]; exact a3)
  have g2 := pr_ge h' h k'.toNat k (by omega) h0 h1 (by rw [e2]; exact a3.symm)
  have e : k' = k := by omega
  rw [e] at a2 a3 a4
  exact ⟨a2, a3, a4⟩
theorem pr_n (h : pr T n pl pc) (h' : pr T n' pl' pc') (h0 : 0 ≤ n) (h0' : 0 ≤ n') : n = n' := by
  by_cases h1 : n < n'
  · have := (pr_at h' h h0 h1).1
    omega
  · by_cases h2 : n' < n
    · have := (pr_at h h' h0' h2).1
      omega
    · omega
theorem pr_cg (h : pr T n pl pc) (hT : ∀ L C : Int, T L C ↔ T' L C) : pr T' n pl pc := ⟨fun k p1 p2 => (hT _ _).mp (h.1 k p1 p2), fun L C p => h.2.1 L C ((hT L C).mpr p), h.2.2⟩
theorem pr_skip (h : pr T n pl pc) (h1 : ∀ L C : Int, T L C → T' L C) (h2 : ∀ L C : Int, T' L C → T L C ∨ ∃ k : Int, 0 ≤ k ∧ k < n ∧ L ≤ pl k ∧ pc k ≤ C) : pr T' n pl pc := by
  refine ⟨fun k p1 p2 => h1 _ _ (h.1 k p1 p2), fun L C p => ?_, h.2.2⟩
  rcases h2 L C p with q | q
  · exact h.2.1 L C q
  · exact q
theorem pr_app {n1 L0 C0 : Int} (h : pr T n pl pc) (hT : ∀ L C : Int, T' L C ↔ (T L C ∨ (L = L0 ∧ C = C0))) (hn : 0 ≤ n1 ∧ (n1 = n ∨ (n1 = n - 1 ∧ pc n1 = C0 ∧ pl n1 ≤ L0))) (hs : ∀ i : Int, 0 ≤ i → i < n1 → pl i < L0 ∧ pc i < C0) (e1 : ∀ i : Int, 0 ≤ i → i < n1 → pl' i = pl i ∧ pc' i = pc i) (e2 : pl' n1 = L0 ∧ pc' n1 = C0) : pr T' (n1 + 1) pl' pc' := by
  refine ⟨fun k p1 p2 => ?_, fun L C p => ?_, fun i j p1 p2 p3 => ?_⟩
  · by_cases hk : k = n1
    · rw [hk, e2.1, e2.2]
      exact (hT _ _).mpr (Or.inr ⟨rfl, rfl⟩)
    · rw [(e1 k p1 (by omega)).1, (e1 k p1 (by omega)).2]
      exact (hT _ _).mpr (Or.inl (h.1 k p1 (by omega)))
  · rcases (hT L C).mp p with q | ⟨q1, q2⟩
    · obtain ⟨k, a1, a2, a3, a4⟩ := h.2.1 L C q
      by_cases hk : k < n1
      · have := e1 k a1 hk
        exact ⟨k, a1, by omega, by omega, by omega⟩
      · have ek : k = n1 := by omega
        rw [ek] at a3 a4
        exact ⟨n1, hn.1, by omega, by omega, by omega⟩
    · exact ⟨n1, hn.1, by omega, by omega, by omega⟩
  · have hi := e1 i p1 (by omega)
    by_cases hj : j = n1
    · rw [hj]
      have := hs i p1 (by omega)
      omega
    · have hj' := e1 j (by omega) (by omega)
      have := h.2.2 i j p1 p2 (by omega)
      omega
theorem pr_ins {left k l c : Int} {p1 c1 p2 c2 : Int → Int} (h : pr T n pl pc) (hT : ∀ L C : Int, T' L C ↔ (T L C ∨ (L = l ∧ C = c))) (hnb : ∀ i : Int, 0 ≤ i → i < n → ¬ (l ≤ pl i ∧ pc i ≤ c))
    (F1 : ∀ i : Int, 0 ≤ i → i < left → ∃ i0 : Int, 0 ≤ i0 ∧ i0 < n ∧ p1 i = pl i0 ∧ c1 i = pc i0 ∧ ¬ (pl i0 ≤ l ∧ c ≤ pc i0)) (F2 : ∀ i0 : Int, 0 ≤ i0 → i0 < n → ¬ (pl i0 ≤ l ∧ c ≤ pc i0) → ∃ i : Int, 0 ≤ i ∧ i < left ∧ p1 i = pl i0 ∧ c1 i = pc i0) (F3 : ∀ i j : Int, 0 ≤ i → i < j → j < left → p1 i < p1 j ∧ c1 i < c1 j)
    (hk : 0 ≤ k ∧ k ≤ left) (hk1 : k = 0 ∨ p1 (k - 1) ≤ l) (hk2 : ∀ i : Int, k ≤ i → i < left → l < p1 i) (e1 : ∀ i : Int, 0 ≤ i → i < k → p2 i = p1 i ∧ c2 i = c1 i) (e2 : p2 k = l ∧ c2 k = c) (e3 : ∀ i : Int, k ≤ i → i < left → p2 (i + 1) = p1 i ∧ c2 (i + 1) = c1 i) : pr T' (left + 1) p2 c2 := by
  -- a kept one lies on one side
  have lo : ∀ i : Int, 0 ≤ i → i < k → p1 i < l ∧ c1 i < c := by
    intro i q1 q2
    obtain ⟨i0, a1, a2, a3, a4, a5⟩ := F1 i q1 (by omega)
    have hb := hnb i0 a1 a2
    have hle : p1 i ≤ l := by
      rcases hk1 with e | e
      · omega
      · by_cases hi : i = k - 1
        · rw [hi]; exact e
        · have := F3 i (k - 1) q1 (by omega) (by omega)
          omega
    omega
  have hi : ∀ i : Int, k ≤ i → i < left → l < p1 i ∧ c < c1 i := by
    intro i q1 q2
    obtain ⟨i0, a1, a2, a3, a4, a5⟩ := F1 i (by omega) q2
    have hb := hnb i0 a1 a2
    have := hk2 i q1 q2
    omega
  have e3' : ∀ j : Int, k < j → j < left + 1 → p2 j = p1 (j - 1) ∧ c2 j = c1 (j - 1) := by
    intro j q1 q2
    have := e3 (j - 1) (by omega) (by omega)
    rw [show j - 1 + 1 = j by omega] at this
    exact this
  refine ⟨fun i q1 q2 => ?_, fun L C p => ?_, fun i j q1 q2 q3 => ?_⟩
  · by_cases hik : i < k
    · obtain ⟨i0, a1, a2, a3, a4, a5⟩ := F1 i q1 (by omega)
      rw [(e1 i q1 hik).1, (e1 i q1 hik).2, a3, a4]
      exact (hT _ _).mpr (Or.inl (h.1 i0 a1 a2))
    · by_cases hik2 : i = k
      · rw [hik2, e2.1, e2.2]
        exact (hT _ _).mpr (Or.inr ⟨rfl, rfl⟩)
      · obtain ⟨i0, a1, a2, a3, a4, a5⟩ := F1 (i - 1) (by omega) (by omega)
        rw [(e3' i (by omega) q2).1, (e3' i (by omega) q2).2, a3, a4]
        exact (hT _ _).mpr (Or.inl (h.1 i0 a1 a2))
  · have self : L ≤ l → c ≤ C → ∃ k : Int, 0 ≤ k ∧ k < left + 1 ∧ L ≤ p2 k ∧ c2 k ≤ C := fun q1 q2 => ⟨k, hk.1, by omega, by omega, by omega⟩
    rcases (hT L C).mp p with q | ⟨q1, q2⟩
    · obtain ⟨i0, a1, a2, a3, a4⟩ := h.2.1 L C q
      by_cases hkeep : pl i0 ≤ l ∧ c ≤ pc i0
      · exact self (by omega) (by omega)
      · obtain ⟨i, b1, b2, b3, b4⟩ := F2 i0 a1 a2 hkeep
        by_cases hik : i < k
        · have := e1 i b1 hik
          exact ⟨i, b1, by omega, by omega, by omega⟩
        · have := e3 i (by omega) b2
          exact ⟨i + 1, by omega, by omega, by omega, by omega⟩
    · exact self (by omega) (by omega)
  · by_cases hj : j < k
    · have h1 := e1 i q1 (by omega)
      have h2 := e1 j (by omega) hj
      have h3 := F3 i j q1 q2 (by omega)
      omega
    · by_cases hj2 : j = k
      · rw [hj2]
        have h1 := e1 i q1 (by omega)
        have h2 := lo i q1 (by omega)
        omega
      · have h2 := e3' j (by omega) q3
        have h3 := hi (j - 1) (by omega) (by omega)
        by_cases hik : i < k
        · have h1 := e1 i q1 hik
          have h4 := F3 i (j - 1) q1 (by omega) (by omega)
          omega
        · by_cases hik2 : i = k
          · rw [hik2]
            omega
          · have h1 := e3' i (by omega) (by omega)
            have h4 := F3 (i - 1) (j - 1) (by omega) (by omega) (by omega)
            omega
end PR
def pT (y : XS) (v : Nat) (F : Int → Int → Int) (b L C : Int) : Prop := ∃ l r : Int, F l r ≠ -1 ∧ rd y 3 l = b ∧ F l r = L ∧ cm y v l r = C
section PX
variable {P : Int → XS → Prop} {x y t z q : XS} {v : Nat} {w a tick b : Int} {Bf Cf F : Int → Int → Int}
theorem sX_pairComing {k : Int} (h0 : 0 ≤ k ∧ k < 1200) (h1 : 0 ≤ rd z 33 k ∧ rd z 33 k < 1200) (h : P (rd z 22 (rd z 33 k)) z) : wp (f_X3_pairComing z k) P := by
  unfold f_X3_pairComing
  refine wp_ld h0.1 (by omega) ?_
  refine wp_ld h1.1 (by omega) ?_
  exact wp_ret h
theorem sX_pairLeaving {k : Int} (h0 : 0 ≤ k ∧ k < 1200) (h1 : 0 ≤ rd z 33 k ∧ rd z 33 k < 1200) (h : P (rd z 28 (rd z 33 k)) z) : wp (f_X3_pairLeaving z k) P := by
  unfold f_X3_pairLeaving
  refine wp_ld h0.1 (by omega) ?_
  refine wp_ld h1.1 (by omega) ?_
  exact wp_ret h
theorem sX_findBestPairs (hI : Inv t y) (hv : (v : Int) ≤ y.1 5) (H : vwOK t y v) (hw : wv t y v F) (hf : fo y v w F) (hb : 0 ≤ b ∧ b < 24)
    (h : ∀ (z : XS) (n : Int), (∀ k : Nat, z.1 k = t.1 k) → (∀ (j : Nat) (i : Int), j ≠ 33 → rd z j i = rd t j i) → (0 ≤ n ∧ n ≤ 1200) → (∀ k : Int, 0 ≤ k → k < n → 0 ≤ rd z 33 k ∧ rd z 33 k < 1200) → pr (pT y v F b) n (fun k => rd z 28 (rd z 33 k)) (fun k => rd z 22 (rd z 33 k)) → P n z) : wp (f_X3_findBestPairs t b) P := by
  have hsg := H.2.2.2.2.2.2.1 b hb.1 hb.2
  have hsz := H.2.2.1
  have sg := fun (m : Int) (h1 : gB t b ≤ m) (h2 : m < rd t 27 b) => X_seg hI hv H hw hf hb h1 h2
  unfold f_X3_findBestPairs
  refine wp_call (sX_goalBegin hb.1 hb.2 ?_)
  refine wp_jp ?_
  refine wp_loop3 (fun c la m z => (∀ k : Nat, z.1 k = t.1 k) ∧ (∀ (j : Nat) (i : Int), j ≠ 33 → rd z j i = rd t j i) ∧ (gB t b ≤ m ∧ m ≤ rd t 27 b) ∧ (0 ≤ c ∧ c ≤ m - gB t b) ∧ (∀ k : Int, 0 ≤ k → k < c → 0 ≤ rd z 33 k ∧ rd z 33 k < 1200) ∧ ((c = 0 ∧ la = -1) ∨ (0 < c ∧ la = rd t 28 (rd z 33 (c - 1)))) ∧ pr (fun L C => ∃ m' : Int, (gB t b ≤ m' ∧ m' < m) ∧ rd t 28 (rd t 25 m') ≠ -1 ∧ rd t 28 (rd t 25 m') = L ∧ rd t 22 (rd t 25 m') = C) c (fun k => rd t 28 (rd z 33 k)) (fun k => rd t 22 (rd z 33 k))) (fun _ _ m _ => (rd t 27 b - m).toNat) (fun g c la m z hJ ih => ?_) x_fuel 0 (-1) _ t ⟨fun _ => rfl, fun _ _ _ => rfl, ⟨by omega, by omega⟩, ⟨by omega, by omega⟩, fun k p1 p2 => absurd p2 (by omega), Or.inl ⟨rfl, rfl⟩, fun k p1 p2 => absurd p2 (by omega), fun L C ⟨m', p1, p2⟩ => absurd p1 (by omega), fun i j p1 p2 p3 => absurd p3 (by omega)⟩ (fu (by omega))
  obtain ⟨z1, zj, ⟨m1, m2⟩, ⟨c1, c2⟩, c3, c4, c5⟩ := hJ
  unfold b_X3_findBestPairs_14
  refine wp_ld hb.1 (by omega) ?_
  rw [zj 27 _ (by decide)]
  refine wp_le (by omega) (by omega) (by omega) (by omega) (fun hd => ?_) (fun hd => ?_)
  · have em : m = rd t 27 b := by omega
    refine wp_ret (h z c z1 zj ⟨c1, by omega⟩ c3 ?_)
    have e28 : (fun k => rd z 28 (rd z 33 k)) = (fun k => rd t 28 (rd z 33 k)) := funext (fun k => zj 28 _ (by decide))
    have e22 : (fun k => rd z 22 (rd z 33 k)) = (fun k => rd t 22 (rd z 33 k)) := funext (fun k => zj 22 _ (by decide))
    rw [e28, e22]
    refine pr_cg c5 (fun L C => ⟨?_, ?_⟩)
    · rintro ⟨m', p1, p2, p3, p4⟩
      have hs := sg m' p1.1 (by omega)
      refine ⟨rd t 20 (rd t 25 m'), qX t y (rd t 25 m'), ?_, hs.2.2.2.2.2.1, ?_, ?_⟩
      · rw [← hs.2.2.1]; exact p2
      · rw [← hs.2.2.1]; exact p3
      · rw [← hs.2.2.2.1]; exact p4
    · rintro ⟨l, r, p1, p2, p3, p4⟩
      obtain ⟨m', f1, f2, f3, f4, f5⟩ := X_seg2 hI hv H hf p1 p2
      have hs := sg m' f1 f2
      rw [f3, f4] at hs
      refine ⟨m', ⟨f1, by omega⟩, ?_, ?_, ?_⟩
      · rw [hs.2.2.1]; exact p1
      · rw [hs.2.2.1]; exact p3
      · rw [hs.2.2.2.1]; exact p4
  · have hs := sg m m1 hd
    obtain ⟨i, ei⟩ : ∃ i, i = rd t 25 m := ⟨_, rfl⟩
    refine wp_ld hs.1.1 (by omega) ?_
    rw [zj 25 _ (by decide), ← ei]
    rw [← ei] at hs
    refine wp_ld hs.2.1.1 (by omega) ?_
    rw [zj 28 _ (by decide)]
    refine wp_jp ?_
    -- those ahead come no later
    have hord : ∀ L C : Int, (∃ m' : Int, (gB t b ≤ m' ∧ m' < m) ∧ rd t 28 (rd t 25 m') ≠ -1 ∧ rd t 28 (rd t 25 m') = L ∧ rd t 22 (rd t 25 m') = C) → C ≤ rd t 22 i ∧ (0 ≤ L ∧ L ≤ 5000) := by
      rintro L C ⟨m', p1, p2, p3, p4⟩
      have h1 := H.2.2.2.2.2.2.2.2.2 b m' m hb.1 hb.2 p1.1 p1.2 hd
      have h2 := sg m' p1.1 (by omega)
      rw [← ei] at h1
      omega
    have hlast : 0 < c → (0 ≤ rd t 28 (rd z 33 (c - 1)) ∧ rd t 28 (rd z 33 (c - 1)) ≤ 5000) ∧ rd t 22 (rd z 33 (c - 1)) ≤ rd t 22 i := by
      intro hc
      have := hord _ _ (c5.1 (c - 1) (by omega) (by omega))
      exact ⟨this.2, this.1⟩
    have hla : -1 ≤ la ∧ la ≤ 5000 := by
      rcases c4 with e | e
      · omega
      · have := hlast e.1
        omega
    refine wp_le (by omega) (by omega) (by omega) (by omega) (fun p => ?_) (fun p => ?_)
    · refine wp_let (ih c la (m + 1) z ⟨z1, zj, ⟨by omega, by omega⟩, ⟨c1, by omega⟩, c3, c4, pr_skip c5 (fun L C => ?_) (fun L C => ?_)⟩ (by omega))
      · rintro ⟨m', p1, p2⟩
        exact ⟨m', ⟨p1.1, by omega⟩, p2⟩
      · rintro ⟨m', p1, p2, p3, p4⟩
        by_cases hm : m' = m
        · rw [hm, ← ei] at p2 p3 p4
          rcases c4 with e | e
          · omega
          · have := hlast e.1
            refine Or.inr ⟨c - 1, by omega, by omega, ?_, ?_⟩
            · show L ≤ rd t 28 (rd z 33 (c - 1))
              omega
            · show rd t 22 (rd z 33 (c - 1)) ≤ C
              omega
        · exact Or.inl ⟨m', ⟨p1.1, by omega⟩, p2, p3, p4⟩
    · refine wp_ld hs.2.1.1 (by omega) ?_
      rw [zj 28 _ (by decide)]
      refine wp_jp ?_
      have put : ∀ n1 : Int, (0 ≤ n1 ∧ (n1 = c ∨ (n1 = c - 1 ∧ rd t 22 (rd z 33 n1) = rd t 22 i))) → (∀ k : Int, 0 ≤ k → k < n1 → rd t 28 (rd z 33 k) < rd t 28 i ∧ rd t 22 (rd z 33 k) < rd t 22 i) → wp (x_st z 33 1200 n1 i (fun x23 => x_let (n1 + 1) (fun v24 => x_let (m + 1) (fun v18 => g v24 (rd t 28 i) v18 x23)))) P := by
        intro n1 h1 h2
        refine wp_st h1.1 (by omega) ?_
        have o33 : ∀ k : Int, 0 ≤ k → k ≠ n1 → rd (wr z 33 n1 i) 33 k = rd z 33 k := fun k p1 p2 => rd_wr_ne h1.1 p1 p2
        have n33 : rd (wr z 33 n1 i) 33 n1 = i := rd_wr_eq
        refine wp_let (wp_let (ih (n1 + 1) (rd t 28 i) (m + 1) _ ⟨z1, fun j q hj => by rw [rd_wr_j hj]; exact zj j q hj, ⟨by omega, by omega⟩, ⟨by omega, by omega⟩, fun k p1 p2 => ?_, Or.inr ⟨by omega, ?_⟩, pr_app (n1 := n1) (L0 := rd t 28 i) (C0 := rd t 22 i) c5 (fun L C => ⟨?_, ?_⟩) ⟨h1.1, ?_⟩ h2 (fun k p1 p2 => ?_) ⟨?_, ?_⟩⟩ (by omega)))
        · by_cases hk : k = n1
          · rw [hk, n33]; exact hs.2.1
          · rw [o33 k p1 hk]; exact c3 k p1 (by omega)
        · rw [show n1 + 1 - 1 = n1 by omega, n33]
        · rintro ⟨m', p1, p2, p3, p4⟩
          by_cases hm : m' = m
          · rw [hm, ← ei] at p3 p4
            exact Or.inr ⟨p3.symm, p4.symm⟩
          · exact Or.inl ⟨m', ⟨p1.1, by omega⟩, p2, p3, p4⟩
        · rintro (⟨m', p1, p2⟩ | ⟨p1, p2⟩)
          · exact ⟨m', ⟨p1.1, by omega⟩, p2⟩
          · exact ⟨m, ⟨m1, by omega⟩, by rw [← ei]; omega, by rw [← ei]; exact p1.symm, by rw [← ei]; exact p2.symm⟩
        · rcases h1.2 with e | ⟨e, e'⟩
          · exact Or.inl e
          · refine Or.inr ⟨e, e', ?_⟩
            show rd t 28 (rd z 33 n1) ≤ rd t 28 i
            rcases c4 with d | d
            · omega
            · rw [e]; omega
        · show rd t 28 (rd (wr z 33 n1 i) 33 k) = rd t 28 (rd z 33 k) ∧ rd t 22 (rd (wr z 33 n1 i) 33 k) = rd t 22 (rd z 33 k)
          rw [o33 k p1 (by omega)]
          exact ⟨rfl, rfl⟩
        · show rd t 28 (rd (wr z 33 n1 i) 33 n1) = rd t 28 i
          rw [n33]
        · show rd t 22 (rd (wr z 33 n1 i) 33 n1) = rd t 22 i
          rw [n33]
      refine wp_le (by omega) (by omega) (by omega) (by omega) (fun p2 => put c ⟨c1, Or.inl rfl⟩ (fun k q1 q2 => absurd q2 (by omega))) (fun p2 => ?_)
      have hl := hlast p2
      have ela : la = rd t 28 (rd z 33 (c - 1)) := by omega
      have hsl := c3 (c - 1) (by omega) (by omega)
      refine wp_call (sX_pairComing ⟨by omega, by omega⟩ hsl ?_)
      rw [zj 22 _ (by decide)]
      refine wp_ld hs.2.1.1 (by omega) ?_
      rw [zj 22 _ (by decide)]
      have hmon : ∀ k : Int, 0 ≤ k → k < c - 1 → rd t 28 (rd z 33 k) < rd t 28 (rd z 33 (c - 1)) ∧ rd t 22 (rd z 33 k) < rd t 22 (rd z 33 (c - 1)) := fun k q1 q2 => c5.2.2 k (c - 1) q1 q2 (by omega)
      have h22 : 0 ≤ rd t 22 (rd z 33 (c - 1)) := by
        obtain ⟨m', p1, -, -, p4⟩ := c5.1 (c - 1) (by omega) (by omega)
        have p4 : rd t 22 (rd t 25 m') = rd t 22 (rd z 33 (c - 1)) := p4
        have := (sg m' p1.1 (by omega)).2.2.2.2.2.2.2
        omega
      refine wp_eq (by omega) (by omega) (by omega) (by omega) (fun p3 => ?_) (fun p3 => ?_)
      · refine wp_let ?_
        refine put (c + -1) ⟨by omega, Or.inr ⟨by omega, by rw [show c + -1 = c - 1 by omega]; exact p3⟩⟩ (fun k q1 q2 => ?_)
        have := hmon k q1 (by omega)
        omega
      · refine put c ⟨c1, Or.inl rfl⟩ (fun k q1 q2 => ?_)
        by_cases hk : k = c - 1
        · rw [hk]; omega
        · have := hmon k q1 (by omega)
          omega
end PX
