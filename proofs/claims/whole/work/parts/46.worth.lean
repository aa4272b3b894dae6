/-- the queue of node n, asked last for a leaving at tau -/
def nq (x y t : XS) (c tau n : Int) : Prop := (∀ m : Int, gB x n ≤ m → m < rd t 32 n → rd x 22 (rd x 25 m) ≤ tau - rd y 0 n) ∧ qi t c n (rd t 32 n) (soonf (rd y 1 n) tau)
theorem soonf_le {m a b : Int} (h : a ≤ b) : soonf m a ≤ soonf m b := by
  unfold soonf
  split <;> omega
section WO
variable {P : Int → XS → Prop} {x y : XS} {v : Nat} {w : Int}
theorem sX_worth (hI : Inv x y) (hv : (v : Int) ≤ y.1 5) (H : vwOK x y v) {t : XS} {c tau i : Int} (hc : c = 0 ∨ c = 1) (t11 : t.1 11 = c) (tj : ∀ (j : Nat) (q : Int), (j < 28 ∨ 32 < j) → rd t j q = rd x j q) (hi : isR y v i) (hi1 : rd x 23 i = 1)
    (hdone : ∀ j : Int, isR y v j → rd x 23 j = 1 → rd x 21 j < rd x 21 i → (rd t 28 j = -1 ∨ (0 ≤ rd t 28 j ∧ rd t 28 j ≤ rd x 21 j + c)) ∧ (rd x 20 j = w → rd t 28 j = -1))
    (ht : tau ≤ rd x 21 i) (hq : nq x y t c tau (rd y 2 (rd x 20 i)))
    (h : ∀ (r : Int) (z : XS), (∀ k : Nat, z.1 k = t.1 k) → (∀ (j : Nat) (q : Int), (j < 29 ∨ 32 < j) → rd z j q = rd t j q) → (∀ q : Int, 0 ≤ q → q ≠ rd y 2 (rd x 20 i) → rd z 30 q = rd t 30 q ∧ rd z 31 q = rd t 31 q ∧ rd z 32 q = rd t 32 q) → (∀ q : Int, 0 ≤ q → (q < gB x (rd y 2 (rd x 20 i)) ∨ rd x 27 (rd y 2 (rd x 20 i)) ≤ q) → rd z 29 q = rd t 29 q) → nq x y z c (rd x 21 i) (rd y 2 (rd x 20 i)) →
      ((r = -1 ∧ ∀ j, DX x y v w j → fw y v (pX x j) (qX x y j) (pX x i) (qX x y i) → rd t 28 j = -1) ∨ (r ≠ -1 ∧ (∃ j, DX x y v w j ∧ fw y v (pX x j) (qX x y j) (pX x i) (qX x y i) ∧ rd t 28 j ≠ -1 ∧ r = rd t 28 j + c) ∧ ∀ j, DX x y v w j → fw y v (pX x j) (qX x y j) (pX x i) (qX x y i) → rd t 28 j ≠ -1 → vl c (rd t 28 j + c) ≤ vl c r)) → P r z) : wp (f_X3_worthBehindOthers t i) P := by
  have hA := X_at hI hv H hi hi1
  obtain ⟨n, en⟩ : ∃ n, n = rd y 2 (rd x 20 i) := ⟨_, rfl⟩
  obtain ⟨L, eL⟩ : ∃ L, L = rd x 21 i := ⟨_, rfl⟩
  rw [← en] at hq h
  rw [← eL] at hdone ht h
  have hn24 := hI.1.2.1
  have hn : 0 ≤ n ∧ n < y.1 2 := by rw [en]; exact hA.2.2.2.2.2.2.2.1
  have hL : 0 ≤ L ∧ L ≤ 5000 := by rw [eL]; omega
  have hnd := hI.1.2.2.2 n hn.1 hn.2
  have hln := (hI.2.1.2.2.2.2.2.2 (rd x 20 i) hA.1.1 hA.1.2.2).1
  have hl100 := hI.2.1.2.1
  have tg : ∀ q : Int, gB t q = gB x q := fun q => by unfold gB; rw [tj 27 _ (by omega)]
  have t2 : rd t 2 n = rd y 0 n := by rw [tj 2 _ (by omega)]; exact hnd.1
  have t3 : rd t 3 n = rd y 1 n := by rw [tj 3 _ (by omega)]; exact hnd.2.1
  have t20 : ∀ q : Int, rd t 20 q = rd x 20 q := fun q => tj 20 q (by omega)
  have t21 : ∀ q : Int, rd t 21 q = rd x 21 q := fun q => tj 21 q (by omega)
  have t22 : ∀ q : Int, rd t 22 q = rd x 22 q := fun q => tj 22 q (by omega)
  have t25 : ∀ q : Int, rd t 25 q = rd x 25 q := fun q => tj 25 q (by omega)
  have t27 : ∀ q : Int, rd t 27 q = rd x 27 q := fun q => tj 27 q (by omega)
  have hsg := H.2.2.2.2.2.2.1 n hn.1 (by omega)
  have hsz := H.2.2.1
  -- a row of the node's part
  have seg : ∀ m : Int, gB x n ≤ m → m < rd x 27 n → isR y v (rd x 25 m) ∧ rd x 23 (rd x 25 m) = 1 ∧ rd y 3 (rd x 20 (rd x 25 m)) = n ∧ (0 ≤ rd x 25 m ∧ rd x 25 m < 1200) ∧ (0 ≤ rd x 21 (rd x 25 m) ∧ rd x 21 (rd x 25 m) < rd x 22 (rd x 25 m) ∧ rd x 22 (rd x 25 m) ≤ 5000) := by
    intro m a b
    obtain ⟨c1, c2, c3⟩ := H.2.2.2.2.2.2.2.1 n m hn.1 (by omega) a b
    have := X_at hI hv H c1 c2
    exact ⟨c1, c2, c3, this.2.2.2.2.2.1, this.2.2.2.2.2.2.1⟩
  unfold f_X3_worthBehindOthers
  refine wp_call (sX_startOf hA.2.2.2.2.2.1.1 hA.2.2.2.2.2.1.2 (by rw [t20]; exact hA.1.1) (by rw [t20]; omega) ?_)
  rw [t20, tj 4 _ (by omega), hln.1, ← en]
  refine wp_ld hA.2.2.2.2.2.1.1 (by omega) ?_
  rw [t21, ← eL]
  refine wp_call (sX_latestComing hn.1 (by omega) ?_)
  rw [t2]
  refine wp_call (sX_takeIn (sg := soonf (rd y 1 n) tau) ⟨hn.1, by omega⟩ (by rw [t11]; exact hc) (rg_lit (by omega) (by omega)) (by rw [t11]; exact hq.2) (by rw [tg]; exact hsg.1) (by rw [t27]; omega) (fun m a b => ?_) (fun m m' a b d => ?_) (fun u u1 uj u29 u31 uq ule uin uout => ?_))
  · rw [tg] at a
    rw [t27] at b
    rw [t25, t22]
    have hs := seg m a b
    refine ⟨hs.2.2.2.1, (rg_lit (by omega) (by omega)), fun hor => ?_⟩
    have hlt : rd x 21 (rd x 25 m) < L := by
      rcases hor with q | q
      · have := hq.1 m a q
        omega
      · omega
    have := (hdone _ hs.1 hs.2.1 hlt).1
    exact (rg_lit (by omega) (by omega))
  · rw [tg] at a
    rw [t27] at d
    rw [t25, t25, t22, t22]
    exact H.2.2.2.2.2.2.2.2.2 n m m' hn.1 (by omega) a b d
  rw [tg, t27] at u29
  rw [t27] at uout
  rw [u1, t11] at uq
  have k2 : ∀ (j : Nat) (q : Int), (j < 29 ∨ 32 < j ∨ j = 30) → rd u j q = rd t j q := fun j q a => uj j q (by omega) (by omega) (by omega)
  have ug : gB u n = gB x n := by unfold gB; rw [k2 27 _ (by omega), t27]
  have k20 : ∀ q : Int, rd u 20 q = rd x 20 q := fun q => by rw [k2 20 q (by omega)]; exact t20 q
  have k22 : ∀ q : Int, rd u 22 q = rd x 22 q := fun q => by rw [k2 22 q (by omega)]; exact t22 q
  have k25 : ∀ q : Int, rd u 25 q = rd x 25 q := fun q => by rw [k2 25 q (by omega)]; exact t25 q
  have k27 : ∀ q : Int, rd u 27 q = rd x 27 q := fun q => by rw [k2 27 q (by omega)]; exact t27 q
  have k28 : ∀ q : Int, rd u 28 q = rd t 28 q := fun q => k2 28 q (by omega)
  refine wp_call (sX_soonestComing hn.1 (by omega) (by rw [k2 3 _ (by omega), t3]; exact (rg_lit (by omega) (by omega))) ?_)
  rw [k2 3 _ (by omega), t3]
  have hso : soonf (rd y 1 n) L = 0 ∨ soonf (rd y 1 n) L = L - rd y 1 n := by
    unfold soonf
    split
    · exact Or.inl rfl
    · exact Or.inr rfl
  refine wp_call (sX_dropOld (c := c) (N := rd u 32 n) (sg := soonf (rd y 1 n) tau) ⟨hn.1, by omega⟩ (rg_lit (by omega) (by omega)) uq (soonf_le ht) (by rw [ug]; exact hsg.1) (by rw [k27]; omega) (fun m a b => ?_) (fun z z1 zj z30 zq zso => ?_))
  · rw [ug] at a
    rw [k27] at b
    rw [k25, k22]
    exact ⟨(seg m a b).2.2.2.1, by have := seg m a b; exact (rg_lit (by omega) (by omega))⟩
  have l20 : ∀ q : Int, rd z 20 q = rd x 20 q := fun q => by rw [zj 20 q (by decide)]; exact k20 q
  have l22 : ∀ q : Int, rd z 22 q = rd x 22 q := fun q => by rw [zj 22 q (by decide)]; exact k22 q
  have l25 : ∀ q : Int, rd z 25 q = rd x 25 q := fun q => by rw [zj 25 q (by decide)]; exact k25 q
  have l27 : ∀ q : Int, rd z 27 q = rd x 27 q := fun q => by rw [zj 27 q (by decide)]; exact k27 q
  have l28 : ∀ q : Int, rd z 28 q = rd t 28 q := fun q => by rw [zj 28 q (by decide)]; exact k28 q
  have l32 : ∀ q : Int, rd z 32 q = rd u 32 q := fun q => zj 32 q (by decide)
  have zg : gB z n = gB x n := by unfold gB; rw [l27]
  have z11 : z.1 11 = c := by rw [z1, u1, t11]
  -- all that was looked at came by then
  have hin : ∀ m : Int, gB x n ≤ m → m < rd u 32 n → rd x 22 (rd x 25 m) ≤ L - rd y 0 n := by
    intro m a b
    by_cases hm : m < rd t 32 n
    · have := hq.1 m a hm
      omega
    · have := uin m (by omega) b
      rw [t25, t22] at this
      exact this
  have fin : ∀ r : Int, ((r = -1 ∧ ∀ j, DX x y v w j → fw y v (pX x j) (qX x y j) (pX x i) (qX x y i) → rd t 28 j = -1) ∨ (r ≠ -1 ∧ (∃ j, DX x y v w j ∧ fw y v (pX x j) (qX x y j) (pX x i) (qX x y i) ∧ rd t 28 j ≠ -1 ∧ r = rd t 28 j + c) ∧ ∀ j, DX x y v w j → fw y v (pX x j) (qX x y j) (pX x i) (qX x y i) → rd t 28 j ≠ -1 → vl c (rd t 28 j + c) ≤ vl c r)) → P r z := by
    intro r hr
    refine h r z (fun k => (z1 k).trans (u1 k)) (fun j q a => ?_) (fun q a b => ⟨?_, ?_, ?_⟩) (fun q a b => ?_) ⟨?_, ?_⟩ hr
    · rw [zj j q (by omega)]; exact k2 j q (by omega)
    · rw [z30 q a b]; exact k2 30 q (by omega)
    · rw [zj 31 q (by decide)]; exact (u31 q a b).1
    · rw [l32]; exact (u31 q a b).2
    · rw [zj 29 q (by decide)]; exact u29 q a b
    · intro m a b
      rw [l32] at b
      exact hin m a b
    · rw [l32]; exact zq
  obtain ⟨⟨q1, q2, q3, q4⟩, q5, q6, q7⟩ := zq
  rw [zg] at q1
  rw [l27] at q4
  -- one from which one may go on
  have fromF : ∀ j, DX x y v w j → fw y v (pX x j) (qX x y j) (pX x i) (qX x y i) → rd t 28 j ≠ -1 → ∃ k : Int, rd z 30 n ≤ k ∧ k < rd z 31 n ∧ vl c (rd t 28 j) ≤ vl c (rd z 28 (rd z 29 k)) := by
    intro j hj hf hw
    have hf2 := (X_fw hI hv H hi hi1 hj.1 hj.2.1).mp hf
    rw [← en, ← eL] at hf2
    obtain ⟨m, c1, c2, c3⟩ := H.2.2.2.2.2.2.2.2.1 j hj.1 hj.2.1
    rw [← hf2.1] at c1 c2 hf2
    have hj2 := X_at hI hv H hj.1 hj.2.1
    have hmN : m < rd u 32 n := by
      by_cases hlt : m < rd u 32 n
      · exact hlt
      · have := uout m (by omega) c2
        rw [t25, t22, c3] at this
        omega
    have := q7 m (by rw [zg]; exact c1) hmN (by rw [l25, l28, c3]; exact hw) (by rw [l25, l22, c3]; unfold soonf; split <;> omega)
    obtain ⟨k, d1, d2, d3, d4⟩ := this
    rw [l25, c3, l28] at d4
    exact ⟨k, d1, d2, d4⟩
  refine wp_ld hn.1 (by omega) ?_
  refine wp_ld hn.1 (by omega) ?_
  refine wp_lt (by omega) (by omega) (by omega) (by omega) (fun hlt => ?_) (fun hge => wp_ret (fin (-1) (Or.inl ⟨rfl, fun j hj hf => ?_⟩)))
  · refine wp_ld hn.1 (by omega) ?_
    refine wp_ld (by omega) (by omega) ?_
    obtain ⟨m, c1, c2, c3, c4⟩ := q5 (rd z 30 n) (Int.le_refl _) hlt
    rw [zg] at c1
    rw [l25] at c3 c4
    rw [l28] at c4
    have hs := seg m c1 (by omega)
    rw [c3]
    refine wp_ld hs.2.2.2.1.1 (by omega) ?_
    rw [l28]
    have hcm := hin m c1 c2
    have hd := hdone _ hs.1 hs.2.1 (by omega)
    have hD : DX x y v w (rd x 25 m) := ⟨hs.1, hs.2.1, fun q => c4 (hd.2 q)⟩
    have hso2 := zso (rd z 30 n) (Int.le_refl _) hlt
    rw [c3, l22] at hso2
    have hF : fw y v (pX x (rd x 25 m)) (qX x y (rd x 25 m)) (pX x i) (qX x y i) := by
      refine (X_fw hI hv H hi hi1 hs.1 hs.2.1).mpr ?_
      rw [← en, ← eL, hs.2.2.1]
      refine ⟨rfl, by omega, ?_⟩
      unfold soonf at hso2
      by_cases hneg : rd y 1 n = -1
      · exact Or.inl (by omega)
      · rw [if_neg hneg] at hso2
        exact Or.inr (by omega)
    have best : ∀ j, DX x y v w j → fw y v (pX x j) (qX x y j) (pX x i) (qX x y i) → rd t 28 j ≠ -1 → vl c (rd t 28 j) ≤ vl c (rd t 28 (rd x 25 m)) := by
      intro j hj hf hw
      obtain ⟨k, d1, d2, d3⟩ := fromF j hj hf hw
      by_cases hk : k = rd z 30 n
      · rw [hk, c3, l28] at d3
        exact d3
      · have := (q6 (rd z 30 n) k (Int.le_refl _) (by omega) d2).1
        rw [c3, l28 (rd x 25 m)] at this
        omega
    have hw0 := hd.1
    rw [z11]
    rcases hc with hc0 | hc1
    · rw [hc0]
      refine wp_e0 ?_
      rw [hc0] at best fin
      refine wp_ret (fin _ (Or.inr ⟨c4, ⟨_, hD, hF, c4, by omega⟩, fun j hj hf hw => ?_⟩))
      have := best j hj hf hw
      unfold vl at *
      rw [if_pos rfl, if_pos rfl] at *
      omega
    · rw [hc1]
      refine wp_e1 ?_
      rw [hc1] at best fin
      refine wp_ret (fin _ (Or.inr ⟨by omega, ⟨_, hD, hF, c4, by omega⟩, fun j hj hf hw => ?_⟩))
      have := best j hj hf hw
      unfold vl at *
      rw [if_neg (by decide), if_neg (by decide)] at *
      omega
  · by_cases hw : rd t 28 j = -1
    · exact hw
    · obtain ⟨k, d1, d2, d3⟩ := fromF j hj hf hw
      omega
end WO
