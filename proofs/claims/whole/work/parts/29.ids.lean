section ID
variable {x y : XS}
theorem bs_up (hI : Inv x y) (a : Nat) : ∀ d : Nat, ((a + d : Nat) : Int) ≤ y.1 3 → bs y a + d ≤ bs y (a + d)
  | 0, _ => by simp
  | d + 1, hd => by
    have h1 := bs_up hI a d (by omega)
    have h2 := inv_times hI (l := ((a + d : Nat) : Int)) (by omega) (by omega)
    have e : bs y (a + (d + 1)) = bs y (a + d) + rd y 7 ((a + d : Nat) : Int) := rfl
    rw [e]
    omega
theorem bs_lt (hI : Inv x y) {l l' : Int} (h0 : 0 ≤ l) (h1 : l < l') (h2 : l' ≤ y.1 3) : bs y l.toNat + rd y 7 l ≤ bs y l'.toNat := by
  have e1 := bs_s (y := y) h0
  have e2 := bs_up hI (l + 1).toNat (l'.toNat - (l + 1).toNat) (by omega)
  rw [show (l + 1).toNat + (l'.toNat - (l + 1).toNat) = l'.toNat by omega] at e2
  omega
theorem bs_nn (hI : Inv x y) {l : Int} (h0 : 0 ≤ l) (h2 : l ≤ y.1 3) : 0 ≤ bs y l.toNat := by
  have e2 := bs_up hI 0 l.toNat (by omega)
  rw [show 0 + l.toNat = l.toNat by omega] at e2
  have : bs y 0 = 0 := rfl
  omega
/-- a run's number is in its row -/
theorem id_in (hI : Inv x y) {l r : Int} (h0 : 0 ≤ l) (h1 : l < y.1 3) (h2 : 0 ≤ r) (h3 : r < rd y 7 l) : 0 ≤ bs y l.toNat + r ∧ bs y l.toNat + r < y.1 4 ∧ bs y l.toNat + r < 1200 := by
  have e1 := bs_nn hI h0 (by omega)
  have e2 := bs_lt hI h0 h1 (Int.le_refl _)
  have e3 := hI.2.1.2.2.2.2.1
  have e4 := hI.2.1.2.2.2.2.2.1
  omega
theorem id_inj (hI : Inv x y) {l r l' r' : Int} (h0 : 0 ≤ l) (h1 : l < y.1 3) (h2 : 0 ≤ r) (h3 : r < rd y 7 l) (g0 : 0 ≤ l') (g1 : l' < y.1 3) (g2 : 0 ≤ r') (g3 : r' < rd y 7 l') (e : bs y l.toNat + r = bs y l'.toNat + r') : l = l' ∧ r = r' := by
  by_cases hlt : l < l'
  · have := bs_lt hI h0 hlt (by omega)
    omega
  by_cases hgt : l' < l
  · have := bs_lt hI g0 hgt (by omega)
    omega
  have hl : l = l' := by omega
  subst hl
  exact ⟨rfl, by omega⟩
theorem nclo_mono (y : XS) (a : Nat) : ∀ d : Nat, nclo y a ≤ nclo y (a + d)
  | 0 => Int.le_refl _
  | d + 1 => by
    have := nclo_mono y a d
    have e : nclo y (a + (d + 1)) = nclo y (a + d) + (if rd y 9 ((a + d : Nat) : Int) = 3 then 1 else 0) := rfl
    rw [e]
    split <;> omega
theorem inv_nc (hI : Inv x y) {c : Nat} (h1 : (c : Int) ≤ y.1 5) : 0 ≤ nclo y c ∧ nclo y c ≤ 60 := by
  have h2 := hI.2.2.1.2.2.2.2.2.1
  have h4 := hI.2.2.1.2.2.2.2.2.2.1
  have h3 := nclo_mono y c ((y.1 5).toNat - c)
  rw [show c + ((y.1 5).toNat - c) = (y.1 5).toNat by omega, ← h2] at h3
  have h5 := nclo_mono y 0 c
  rw [show 0 + c = c by omega] at h5
  have : nclo y 0 = 0 := rfl
  omega
theorem late_s {l r c : Int} (hc : 0 ≤ c) : late y l r (c + 1).toNat = if rd y 9 c = 2 ∧ rd y 10 c = l ∧ rd y 11 c = r then rd y 12 c else late y l r c.toNat := by
  have e1 : (c + 1).toNat = c.toNat + 1 := by omega
  have e2 : ((c.toNat : Nat) : Int) = c := by omega
  rw [e1]
  show (if rd y 9 (c.toNat : Int) = 2 ∧ rd y 10 (c.toNat : Int) = l ∧ rd y 11 (c.toNat : Int) = r then rd y 12 (c.toNat : Int) else late y l r c.toNat) = _
  rw [e2]
theorem clo_s {n t c : Int} (hc : 0 ≤ c) : clo y n t (c + 1).toNat = if rd y 9 c = 3 ∧ rd y 10 c = n ∧ rd y 11 c ≤ t ∧ t ≤ rd y 12 c then 1 else clo y n t c.toNat := by
  have e1 : (c + 1).toNat = c.toNat + 1 := by omega
  have e2 : ((c.toNat : Nat) : Int) = c := by omega
  rw [e1]
  show (if rd y 9 (c.toNat : Int) = 3 ∧ rd y 10 (c.toNat : Int) = n ∧ rd y 11 (c.toNat : Int) ≤ t ∧ t ≤ rd y 12 (c.toNat : Int) then 1 else clo y n t c.toNat) = _
  rw [e2]
theorem clo_01 (y : XS) (n t : Int) : ∀ v : Nat, clo y n t v = 0 ∨ clo y n t v = 1
  | 0 => Or.inl rfl
  | v + 1 => by
    unfold clo
    split
    · exact Or.inr rfl
    · exact clo_01 y n t v
/-- closed: some change says so -/
theorem clo_iff (y : XS) (n t : Int) : ∀ v : Nat, clo y n t v = 1 ↔ ∃ c : Nat, c < v ∧ rd y 9 c = 3 ∧ rd y 10 c = n ∧ rd y 11 c ≤ t ∧ t ≤ rd y 12 c
  | 0 => ⟨fun h => absurd (show (0 : Int) = 1 from h) (by decide), fun ⟨c, h, _⟩ => absurd h (Nat.not_lt_zero c)⟩
  | v + 1 => by
    have ih := clo_iff y n t v
    have e : clo y n t (v + 1) = if rd y 9 (v : Int) = 3 ∧ rd y 10 (v : Int) = n ∧ rd y 11 (v : Int) ≤ t ∧ t ≤ rd y 12 (v : Int) then 1 else clo y n t v := rfl
    rw [e]
    constructor
    · intro h
      by_cases hc : rd y 9 (v : Int) = 3 ∧ rd y 10 (v : Int) = n ∧ rd y 11 (v : Int) ≤ t ∧ t ≤ rd y 12 (v : Int)
      · exact ⟨v, by omega, hc⟩
      · rw [if_neg hc] at h
        obtain ⟨c, h1, h2⟩ := ih.mp h
        exact ⟨c, by omega, h2⟩
    · rintro ⟨c, h1, h2⟩
      by_cases hc : rd y 9 (v : Int) = 3 ∧ rd y 10 (v : Int) = n ∧ rd y 11 (v : Int) ≤ t ∧ t ≤ rd y 12 (v : Int)
      · rw [if_pos hc]
      · rw [if_neg hc]
        refine ih.mpr ⟨c, ?_, h2⟩
        by_cases hcv : c = v
        · subst hcv
          exact absurd h2 hc
        · omega
end ID
