section GO
variable {P : Int → XS → Prop} {x y z : XS} {v : Nat} {w : Int}
/-- Y's rows: the run of row s -/
def pY (z : XS) (s : Int) : Int := rd z 15 s
def qY (z : XS) (s : Int) : Int := rd z 16 s
def DY (z : XS) (s : Int) : Prop := 0 ≤ s ∧ s < z.1 7
theorem ly_cov (h : ly y z v w) : cov y v w (DY z) (pY z) (qY z) := by
  obtain ⟨h1, h2, h3, h4⟩ := h
  refine ⟨fun s hs => ?_, fun l r hr => ?_⟩
  · obtain ⟨l', r', b1, b2, b3, b4, b5, b6, b7, b8, b9, b10⟩ := h2 s hs.1 hs.2
    unfold pY qY
    rw [b7, b8]
    exact ⟨b1, b2, b3, b4, b5, b6⟩
  · obtain ⟨a1, a2, a3, a4, a5, a6⟩ := hr
    obtain ⟨s, b1, b2, b3, b4⟩ := h3 l r a1 a2 a3 a4 a5 a6
    exact ⟨s, ⟨b1, b2⟩, b3, b4⟩
theorem ly_at (h : ly y z v w) {s : Int} (hs : DY z s) : rd z 17 s = lv y v (pY z s) (qY z s) ∧ rd z 18 s = cm y v (pY z s) (qY z s) := by
  obtain ⟨l', r', b1, b2, b3, b4, b5, b6, b7, b8, b9, b10⟩ := h.2.1 s hs.1 hs.2
  unfold pY qY
  rw [b7, b8]
  exact ⟨b9, b10⟩
/-- who is followed stands ahead in the row -/
theorem ly_lt (hI : Inv x y) (hv : (v : Int) ≤ y.1 5) (h : ly y z v w) {r s : Int} (hr : DY z r) (hs : DY z s) (hf : fw y v (pY z r) (qY z r) (pY z s) (qY z s)) : r < s := by
  have h1 := fw_lt hI hv ((ly_cov h).1 r hr) hf
  have h2 := (ly_at h hr).1
  have h3 := (ly_at h hs).1
  by_cases hlt : r < s
  · exact hlt
  · by_cases he : r = s
    · subst he; omega
    · have := h.2.2.2 s r hs.1 (by omega) hr.2
      omega
theorem sY_follows (hI : Inv x y) (hv : (v : Int) ≤ y.1 5) (h : ly y z v w) {t : XS} (ht : ∀ (j : Nat) (i : Int), j ≤ 18 → rd t j i = rd z j i) (hz : ∀ (j : Nat) (i : Int), j ≤ 12 → rd z j i = rd y j i) {r s : Int} (hr : DY z r) (hs : DY z s) (h1 : fw y v (pY z r) (qY z r) (pY z s) (qY z s) → P 1 t) (h0 : ¬ fw y v (pY z r) (qY z r) (pY z s) (qY z s) → P 0 t) : wp (f_X7_follows t r s) P := by
  have c1 := Sr_rg hI hv ((ly_cov h).1 r hr)
  have c2 := Sr_rg hI hv ((ly_cov h).1 s hs)
  have b1 := ((ly_cov h).1 r hr).1
  have b2 := ((ly_cov h).1 s hs).1
  have a1 := ly_at h hr
  have a2 := ly_at h hs
  have hm := h.1.2.1
  have hln := hI.2.1.2.1
  have hn24 := hI.1.2.1
  have hnd := hI.1.2.2.2 (rd y 3 (pY z r)) c1.2.2.1.1 c1.2.2.1.2
  have hr' := hr
  have hs' := hs
  unfold DY at hr' hs'
  have e15r : rd t 15 r = pY z r := ht 15 r (by decide)
  have e15s : rd t 15 s = pY z s := ht 15 s (by decide)
  have e3 : rd t 3 (pY z r) = rd y 3 (pY z r) := by rw [ht 3 _ (by decide), hz 3 _ (by decide)]
  have e2 : rd t 2 (pY z s) = rd y 2 (pY z s) := by rw [ht 2 _ (by decide), hz 2 _ (by decide)]
  have e17 : rd t 17 s = lv y v (pY z s) (qY z s) := by rw [ht 17 s (by decide)]; exact a2.1
  have e18 : rd t 18 r = cm y v (pY z r) (qY z r) := by rw [ht 18 r (by decide)]; exact a1.2
  have e0 : rd t 0 (rd y 3 (pY z r)) = rd y 0 (rd y 3 (pY z r)) := by rw [ht 0 _ (by decide), hz 0 _ (by decide)]
  have e1 : rd t 1 (rd y 3 (pY z r)) = rd y 1 (rd y 3 (pY z r)) := by rw [ht 1 _ (by decide), hz 1 _ (by decide)]
  unfold f_X7_follows
  unfold fw at h1 h0
  refine wp_ld (by omega) (by omega) ?_
  rw [e15r]
  refine wp_ld (by omega) (by omega) ?_
  rw [e3]
  refine wp_ld (by omega) (by omega) ?_
  rw [e15s]
  refine wp_ld (by omega) (by omega) ?_
  rw [e2]
  refine wp_eq (by omega) (by omega) (by omega) (by omega) (fun k1 => ?_) (fun k1 => ?_)
  · refine wp_ld (by omega) (by omega) ?_
    rw [e17]
    refine wp_ld (by omega) (by omega) ?_
    rw [e18]
    refine wp_let ?_
    refine wp_ld (by omega) (by omega) ?_
    rw [e0]
    refine wp_lt (by omega) (by omega) (by omega) (by omega) (fun k2 => ?_) (fun k2 => ?_)
    · exact wp_ret (h0 (by omega))
    refine wp_ld (by omega) (by omega) ?_
    rw [e1]
    refine wp_jp ?_
    refine wp_lt (by omega) (by omega) (by omega) (by omega) (fun k3 => ?_) (fun k3 => ?_)
    · exact wp_ret (h1 (by omega))
    refine wp_ld (by omega) (by omega) ?_
    rw [e1]
    refine wp_lt (by omega) (by omega) (by omega) (by omega) (fun k4 => ?_) (fun k4 => ?_)
    · exact wp_ret (h0 (by omega))
    · exact wp_ret (h1 (by omega))
  · exact wp_ret (h0 (by omega))
/-- a row's worth with the rows ahead of it up to m looked at; f reached, b begun, c steps -/
def pe (y z t : XS) (v : Nat) (a tick s m f b c : Int) : Prop :=
  (f = 0 ∨ f = 1) ∧ (stt y v a tick (pY z s) (qY z s) → f = 1 ∧ b = lv y v (pY z s) (qY z s) ∧ c = 1) ∧
  (¬ stt y v a tick (pY z s) (qY z s) → (f = 0 ∧ b = -1 ∧ c = 1000000 ∧ ∀ j, 0 ≤ j → j < m → fw y v (pY z j) (qY z j) (pY z s) (qY z s) → rd t 21 j = 0) ∨
    (f = 1 ∧ (∃ j, 0 ≤ j ∧ j < m ∧ fw y v (pY z j) (qY z j) (pY z s) (qY z s) ∧ rd t 21 j = 1 ∧ rd t 19 j = b) ∧ (∀ j, 0 ≤ j → j < m → fw y v (pY z j) (qY z j) (pY z s) (qY z s) → rd t 21 j = 1 → rd t 19 j ≤ b) ∧ (∃ j, 0 ≤ j ∧ j < m ∧ fw y v (pY z j) (qY z j) (pY z s) (qY z s) ∧ rd t 21 j = 1 ∧ c = rd t 20 j + 1) ∧ (∀ j, 0 ≤ j → j < m → fw y v (pY z j) (qY z j) (pY z s) (qY z s) → rd t 21 j = 1 → c ≤ rd t 20 j + 1))) ∧
  (f = 1 → 0 ≤ b ∧ b ≤ lv y v (pY z s) (qY z s) ∧ 1 ≤ c ∧ c ≤ s + 1) ∧ (f = 0 → b = -1 ∧ c = 1000000)
theorem pe_keep {t t' : XS} {a tick s m f b c : Int} (h : pe y z t v a tick s m f b c) (he : ∀ (q : Nat) (j : Int), 19 ≤ q → q ≤ 21 → 0 ≤ j → j < m → rd t' q j = rd t q j) : pe y z t' v a tick s m f b c := by
  obtain ⟨h1, h2, h3, h4⟩ := h
  refine ⟨h1, h2, fun hs => ?_, h4⟩
  rcases h3 hs with ⟨a1, a2, a3, a4⟩ | ⟨a1, ⟨j, b1, b2, b3, b4, b5⟩, a3, ⟨j', d1, d2, d3, d4, d5⟩, a5⟩
  · exact Or.inl ⟨a1, a2, a3, fun j c1 c2 c3 => by rw [he 21 j (by omega) (by omega) c1 c2]; exact a4 j c1 c2 c3⟩
  · refine Or.inr ⟨a1, ⟨j, b1, b2, b3, by rw [he 21 j (by omega) (by omega) b1 b2]; exact b4, by rw [he 19 j (by omega) (by omega) b1 b2]; exact b5⟩, fun j c1 c2 c3 c4 => ?_, ⟨j', d1, d2, d3, by rw [he 21 j' (by omega) (by omega) d1 d2]; exact d4, by rw [he 20 j' (by omega) (by omega) d1 d2]; exact d5⟩, fun j c1 c2 c3 c4 => ?_⟩
    · rw [he 21 j (by omega) (by omega) c1 c2] at c4
      rw [he 19 j (by omega) (by omega) c1 c2]
      exact a3 j c1 c2 c3 c4
    · rw [he 21 j (by omega) (by omega) c1 c2] at c4
      rw [he 20 j (by omega) (by omega) c1 c2]
      exact a5 j c1 c2 c3 c4
end GO
