def DX (x y : XS) (v : Nat) (w i : Int) : Prop := isR y v i ∧ rd x 23 i = 1 ∧ rd x 20 i ≠ w
def pX (x : XS) (i : Int) : Int := rd x 20 i
def qX (x y : XS) (i : Int) : Int := i - bs y (rd x 20 i).toNat
section SP
variable {P : Int → XS → Prop} {x y : XS} {v : Nat} {w : Int}
theorem X_at (hI : Inv x y) (hv : (v : Int) ≤ y.1 5) (H : vwOK x y v) {i : Int} (h : isR y v i) (h1 : rd x 23 i = 1) : (0 ≤ rd x 20 i ∧ rd x 20 i < nput y v ∧ rd x 20 i < y.1 3) ∧ (0 ≤ qX x y i ∧ qX x y i < rd y 7 (rd x 20 i)) ∧ stB y v (rd x 20 i) (qX x y i) = 1 ∧ rd x 21 i = lv y v (rd x 20 i) (qX x y i) ∧ rd x 22 i = cm y v (rd x 20 i) (qX x y i) ∧ (0 ≤ i ∧ i < 1200) ∧ (0 ≤ rd x 21 i ∧ rd x 21 i < rd x 22 i ∧ rd x 22 i ≤ 5000) ∧ (0 ≤ rd y 2 (rd x 20 i) ∧ rd y 2 (rd x 20 i) < y.1 2) ∧ (0 ≤ rd y 3 (rd x 20 i) ∧ rd y 3 (rd x 20 i) < y.1 2) ∧ i = bs y (rd x 20 i).toNat + qX x y i := by
  obtain ⟨l, r, a1, a2, a3, a4, a5⟩ := h
  obtain ⟨b1, b2, b3, b4⟩ := H.2.1 l r a1 a2 a3 a4
  rw [← a5] at b1 b2 b3 b4
  have eq : qX x y i = r := by unfold qX; rw [b1]; omega
  rw [eq, b1]
  have hS : Sr y v (-1) l r := ⟨a1, a2, a3, a4, by omega, by omega⟩
  have hR := Sr_rg hI hv hS
  exact ⟨⟨a1, a2, hR.2.2.2.1⟩, ⟨a3, a4⟩, by omega, b2, b3, by omega, by omega, hR.2.1, hR.2.2.1, a5⟩
theorem X_cov (hI : Inv x y) (hv : (v : Int) ≤ y.1 5) (H : vwOK x y v) : cov y v w (DX x y v w) (pX x) (qX x y) := by
  refine ⟨fun i h => ?_, fun l r h => ?_⟩
  · have := X_at hI hv H h.1 h.2.1
    exact ⟨this.1.1, this.1.2.1, this.2.1.1, this.2.1.2, h.2.2, this.2.2.1⟩
  · obtain ⟨a1, a2, a3, a4, a5, a6⟩ := h
    obtain ⟨b1, b2, b3, b4⟩ := H.2.1 l r a1 a2 a3 a4
    refine ⟨bs y l.toNat + r, ⟨⟨l, r, a1, a2, a3, a4, rfl⟩, by omega, by rw [b1]; exact a5⟩, b1, ?_⟩
    unfold qX
    rw [b1]
    omega
theorem X_fw (hI : Inv x y) (hv : (v : Int) ≤ y.1 5) (H : vwOK x y v) {i j : Int} (hi : isR y v i) (hi1 : rd x 23 i = 1) (hj : isR y v j) (hj1 : rd x 23 j = 1) : fw y v (pX x j) (qX x y j) (pX x i) (qX x y i) ↔ (rd y 2 (rd x 20 i) = rd y 3 (rd x 20 j) ∧ rd y 0 (rd y 3 (rd x 20 j)) ≤ rd x 21 i - rd x 22 j ∧ (rd y 1 (rd y 3 (rd x 20 j)) < 0 ∨ rd x 21 i - rd x 22 j ≤ rd y 1 (rd y 3 (rd x 20 j)))) := by
  have h1 := X_at hI hv H hi hi1
  have h2 := X_at hI hv H hj hj1
  rw [h1.2.2.2.1, h2.2.2.2.2.1]
  exact Iff.rfl
theorem sX_goalBegin {n : Int} (h0 : 0 ≤ n) (h1 : n < 24) (h : P (gB x n) x) : wp (f_X5_goalBegin x n) P := by
  unfold f_X5_goalBegin
  unfold gB at h
  refine wp_eq (by omega) (by omega) (by omega) (by omega) (fun hc => ?_) (fun hc => ?_)
  · rw [if_pos hc] at h
    exact wp_ret h
  · rw [if_neg hc] at h
    refine wp_ld (by omega) (by omega) ?_
    exact wp_ret h
theorem sX_startOf {q : Int} (h0 : 0 ≤ q) (h1 : q < 1200) (h2 : 0 ≤ rd x 20 q) (h3 : rd x 20 q < 100) (h : P (rd x 4 (rd x 20 q)) x) : wp (f_X5_startOf x q) P := by
  unfold f_X5_startOf
  refine wp_ld h0 (by omega) ?_
  refine wp_ld h2 (by omega) ?_
  exact wp_ret h
theorem sX_latestComing {n t : Int} (h0 : 0 ≤ n) (h1 : n < 24) (h : P (t - rd x 2 n) x) : wp (f_X2_latestComing x n t) P := by
  unfold f_X2_latestComing
  refine wp_ld h0 (by omega) ?_
  exact wp_ret h
def soonf (m t : Int) : Int := if m = -1 then 0 else t - m
theorem sX_soonestComing {n t : Int} (h0 : 0 ≤ n) (h1 : n < 24) (h2 : rg (rd x 3 n)) (h : P (soonf (rd x 3 n) t) x) : wp (f_X2_soonestComing x n t) P := by
  unfold f_X2_soonestComing
  unfold soonf at h
  refine wp_ld h0 (by omega) ?_
  refine wp_eq h2.1 h2.2 (by omega) (by omega) (fun hc => ?_) (fun hc => ?_)
  · rw [if_pos hc] at h
    exact wp_ret h
  · rw [if_neg hc] at h
    refine wp_ld h0 (by omega) ?_
    exact wp_ret h
theorem sX_emptyQueues (h : ∀ z : XS, (∀ k : Nat, z.1 k = x.1 k) → (∀ (j : Nat) (i : Int), j ≠ 30 → j ≠ 31 → j ≠ 32 → rd z j i = rd x j i) → (∀ n : Int, 0 ≤ n → n < 24 → rd z 30 n = gB x n ∧ rd z 31 n = gB x n ∧ rd z 32 n = gB x n) → P 0 z) : wp (f_X3_emptyQueues x) P := by
  unfold f_X3_emptyQueues
  refine wp_jp ?_
  refine wp_loop1 (fun n z => (0 ≤ n ∧ n ≤ 24) ∧ (∀ k : Nat, z.1 k = x.1 k) ∧ (∀ (j : Nat) (i : Int), j ≠ 30 → j ≠ 31 → j ≠ 32 → rd z j i = rd x j i) ∧ (∀ m : Int, 0 ≤ m → m < n → rd z 30 m = gB x m ∧ rd z 31 m = gB x m ∧ rd z 32 m = gB x m)) (fun n _ => (24 - n).toNat) (fun g n z hJ ih => ?_) x_fuel 0 x ⟨⟨by omega, by omega⟩, fun _ => rfl, fun _ _ _ _ _ => rfl, fun m a b => absurd b (by omega)⟩ (fu (by omega))
  obtain ⟨⟨n1, n2⟩, z1, zj, zo⟩ := hJ
  unfold b_X3_emptyQueues_2
  refine wp_le (by omega) (by omega) (by omega) (by omega) (fun hc => ?_) (fun hc => ?_)
  · have en : n = 24 := by omega
    subst en
    exact wp_ret (h z z1 zj zo)
  · have eg : gB z n = gB x n := by unfold gB; rw [zj 27 _ (by decide) (by decide) (by decide)]
    refine wp_call (sX_goalBegin n1 (by omega) ?_)
    rw [eg]
    refine wp_st (by omega) (by omega) ?_
    refine wp_st (by omega) (by omega) ?_
    refine wp_st (by omega) (by omega) ?_
    refine wp_let (ih (n + 1) _ ⟨⟨by omega, by omega⟩, z1, fun j i a b c => ?_, fun m a b => ?_⟩ (by omega))
    · rw [rd_wr_j c, rd_wr_j b, rd_wr_j a]; exact zj j i a b c
    · by_cases hm : m = n
      · subst hm
        exact ⟨by rw [rd_wr_j (by decide), rd_wr_j (by decide), rd_wr_eq], by rw [rd_wr_j (by decide), rd_wr_eq], rd_wr_eq⟩
      · have := zo m a (by omega)
        refine ⟨?_, ?_, ?_⟩
        · rw [rd_wr_j (by decide), rd_wr_j (by decide), rd_wr_ne n1 a hm]; exact this.1
        · rw [rd_wr_j (by decide), rd_wr_ne n1 a hm, rd_wr_j (by decide)]; exact this.2.1
        · rw [rd_wr_ne n1 a hm, rd_wr_j (by decide), rd_wr_j (by decide)]; exact this.2.2
end SP
