-- X arrays: 0 outRow 1 spareRow 2 least 3 longest 4 from 5 to 6 kind 7 leaves 8 takes 9 runs 10 period 11 base 12 struck 13 kinds 14 subjects 15 firsts 16 seconds 17 v.struck 18 v.closings 19 delays 20 owners 21 leavings 22 comings 23 stands 24 byLeaving 25 byGoal 26 goalKeys 27 goalEnds 28 worth 29 queue 30 heads 31 tails 32 nexts 33 pairEnds 34 spare
-- X numbers: 0 outSize 1 status 2 nodes 3 lines 4 allRuns 5 changes 6 closings 7 closingCount 8 lineCount 9 view size 10 shown 11 isCounting
-- Y arrays: 0 change 1 longest 2 from 3 to 4 kind 5 leaves 6 takes 7 times 8 period 9 what 10 one 11 two 12 three 13 isThere 14 isStruck 15 runLine 16 runNumber 17 runLeaves 18 runComes 19 begun 20 steps 21 reached 22 out 23 pairLeaves 24 pairComes 25 wayLine 26 kept
-- Y numbers: 0 status 1 thrown 2 nodes 3 lines 4 runs 5 changes 6 spans 7 many 8 outs
def bs (y : XS) : Nat → Int
  | 0 => 0
  | n + 1 => bs y n + rd y 7 n
def nput (y : XS) : Nat → Int
  | 0 => 0
  | c + 1 => nput y c + (if rd y 9 c = 0 then 1 else 0)
def nclo (y : XS) : Nat → Int
  | 0 => 0
  | c + 1 => nclo y c + (if rd y 9 c = 3 then 1 else 0)
def skd (y : XS) (l : Int) : Nat → Int
  | 0 => 0
  | c + 1 => if rd y 9 c = 1 ∧ rd y 10 c = l then 1 else skd y l c
def late (y : XS) (l r : Int) : Nat → Int
  | 0 => 0
  | c + 1 => if rd y 9 c = 2 ∧ rd y 10 c = l ∧ rd y 11 c = r then rd y 12 c else late y l r c
def clo (y : XS) (n t : Int) : Nat → Int
  | 0 => 0
  | c + 1 => if rd y 9 c = 3 ∧ rd y 10 c = n ∧ rd y 11 c ≤ t ∧ t ≤ rd y 12 c then 1 else clo y n t c
def lv (y : XS) (v : Nat) (l r : Int) : Int := rd y 5 l + (if rd y 4 l = 1 then r * rd y 8 l else r) + late y l r v
def cm (y : XS) (v : Nat) (l r : Int) : Int := lv y v l r + rd y 6 l
def stB (y : XS) (v : Nat) (l r : Int) : Int := if skd y l v = 0 ∧ cm y v l r ≤ 5000 ∧ clo y (rd y 2 l) (lv y v l r) v = 0 ∧ clo y (rd y 3 l) (cm y v l r) v = 0 then 1 else 0
def nst (y : XS) (v : Nat) (l : Int) : Nat → Int
  | 0 => 0
  | r + 1 => nst y v l r + stB y v l r
def tot (y : XS) (v : Nat) : Nat → Int
  | 0 => 0
  | l + 1 => tot y v l + nst y v l (rd y 7 l).toNat
/-- a run's number over all lines -/
def isR (y : XS) (v : Nat) (q : Int) : Prop := ∃ l r : Int, 0 ≤ l ∧ l < nput y v ∧ 0 ≤ r ∧ r < rd y 7 l ∧ q = bs y l.toNat + r
def gB (x : XS) (n : Int) : Int := if n = 0 then 0 else rd x 27 (n - 1)
def vwOK (x y : XS) (v : Nat) : Prop :=
  x.1 8 = nput y v ∧
  (∀ l r : Int, 0 ≤ l → l < nput y v → 0 ≤ r → r < rd y 7 l → rd x 20 (bs y l.toNat + r) = l ∧ rd x 21 (bs y l.toNat + r) = lv y v l r ∧ rd x 22 (bs y l.toNat + r) = cm y v l r ∧ rd x 23 (bs y l.toNat + r) = stB y v l r) ∧
  (0 ≤ x.1 9 ∧ x.1 9 ≤ 1200 ∧ x.1 9 = tot y v (nput y v).toNat) ∧
  (∀ i : Int, 0 ≤ i → i < x.1 9 → isR y v (rd x 24 i) ∧ rd x 23 (rd x 24 i) = 1) ∧
  (∀ q : Int, isR y v q → rd x 23 q = 1 → ∃ i : Int, 0 ≤ i ∧ i < x.1 9 ∧ rd x 24 i = q) ∧
  (∀ i j : Int, 0 ≤ i → i < j → j < x.1 9 → rd x 21 (rd x 24 i) ≤ rd x 21 (rd x 24 j)) ∧
  (∀ n : Int, 0 ≤ n → n < 24 → 0 ≤ gB x n ∧ gB x n ≤ rd x 27 n ∧ rd x 27 n ≤ x.1 9) ∧
  (∀ n i : Int, 0 ≤ n → n < 24 → gB x n ≤ i → i < rd x 27 n → isR y v (rd x 25 i) ∧ rd x 23 (rd x 25 i) = 1 ∧ rd y 3 (rd x 20 (rd x 25 i)) = n) ∧
  (∀ q : Int, isR y v q → rd x 23 q = 1 → ∃ i : Int, gB x (rd y 3 (rd x 20 q)) ≤ i ∧ i < rd x 27 (rd y 3 (rd x 20 q)) ∧ rd x 25 i = q) ∧
  (∀ n i j : Int, 0 ≤ n → n < 24 → gB x n ≤ i → i < j → j < rd x 27 n → rd x 22 (rd x 25 i) ≤ rd x 22 (rd x 25 j))
def iNod (x y : XS) : Prop := 0 ≤ y.1 2 ∧ y.1 2 ≤ 24 ∧ x.1 2 = y.1 2 ∧ ∀ i : Int, 0 ≤ i → i < y.1 2 → rd x 2 i = rd y 0 i ∧ rd x 3 i = rd y 1 i ∧ 0 ≤ rd y 0 i ∧ rd y 0 i ≤ 200 ∧ -1 ≤ rd y 1 i ∧ rd y 1 i ≤ 5000
def lnOK (y : XS) (l : Int) : Prop := 0 ≤ rd y 2 l ∧ rd y 2 l < y.1 2 ∧ 0 ≤ rd y 3 l ∧ rd y 3 l < y.1 2 ∧ 0 ≤ rd y 4 l ∧ rd y 4 l ≤ 2 ∧ 0 ≤ rd y 5 l ∧ rd y 5 l ≤ 5000 ∧ 1 ≤ rd y 6 l ∧ rd y 6 l ≤ 500 ∧ 1 ≤ rd y 7 l ∧ rd y 7 l ≤ 60 ∧ 0 ≤ rd y 8 l ∧ rd y 8 l ≤ 500 ∧ (rd y 4 l = 0 → rd y 7 l = 1)
def lnEQ (x y : XS) (l : Int) : Prop := rd x 4 l = rd y 2 l ∧ rd x 5 l = rd y 3 l ∧ rd x 6 l = rd y 4 l ∧ rd x 7 l = rd y 5 l ∧ rd x 8 l = rd y 6 l ∧ rd x 9 l = rd y 7 l ∧ rd x 10 l = rd y 8 l ∧ rd x 11 l = bs y l.toNat
def iLin (x y : XS) : Prop := 0 ≤ y.1 3 ∧ y.1 3 ≤ 100 ∧ x.1 3 = y.1 3 ∧ x.1 4 = y.1 4 ∧ y.1 4 = bs y (y.1 3).toNat ∧ y.1 4 ≤ 1200 ∧ ∀ l : Int, 0 ≤ l → l < y.1 3 → lnEQ x y l ∧ lnOK y l
def lgOK (x y : XS) (c : Int) : Prop := rd x 13 c = rd y 9 c ∧
  ((rd y 9 c = 0 ∧ rd x 14 c = rd y 10 c ∧ rd y 10 c = nput y c.toNat) ∨
   (rd y 9 c = 1 ∧ rd x 14 c = rd y 10 c ∧ 0 ≤ rd y 10 c ∧ rd y 10 c < nput y c.toNat ∧ skd y (rd y 10 c) c.toNat = 0) ∨
   (rd y 9 c = 2 ∧ 0 ≤ rd y 10 c ∧ rd y 10 c < nput y c.toNat ∧ 0 ≤ rd y 11 c ∧ rd y 11 c < rd y 7 (rd y 10 c) ∧ rd x 14 c = bs y (rd y 10 c).toNat + rd y 11 c ∧ rd x 15 c = rd y 12 c ∧ 0 ≤ rd y 12 c ∧ rd y 12 c ≤ 500) ∨
   (rd y 9 c = 3 ∧ rd x 14 c = rd y 10 c ∧ rd x 15 c = rd y 11 c ∧ rd x 16 c = rd y 12 c ∧ 0 ≤ rd y 10 c ∧ rd y 10 c < y.1 2 ∧ 0 ≤ rd y 11 c ∧ rd y 11 c ≤ 5000 ∧ 0 ≤ rd y 12 c ∧ rd y 12 c ≤ 5000))
def iLog (x y : XS) : Prop := 0 ≤ y.1 5 ∧ y.1 5 ≤ 400 ∧ x.1 5 = y.1 5 ∧ nput y (y.1 5).toNat = y.1 3 ∧ x.1 6 = y.1 6 ∧ y.1 6 = nclo y (y.1 5).toNat ∧ y.1 6 ≤ 60 ∧ (∀ c : Int, 0 ≤ c → c < y.1 5 → lgOK x y c) ∧ ∀ l : Int, 0 ≤ l → l < y.1 3 → rd x 12 l = skd y l (y.1 5).toNat
def iOut (x y : XS) : Prop := x.1 0 = y.1 8 ∧ 0 ≤ y.1 8 ∧ y.1 8 ≤ 2400 ∧ ∀ k : Int, 0 ≤ k → k < y.1 8 → rd x 0 k = rd y 22 k
def iSta (x y : XS) : Prop := x.1 1 = y.1 0 ∧ 0 ≤ y.1 0 ∧ y.1 0 ≤ 7
def iVw (x y : XS) : Prop := x.1 10 = -1 ∨ (0 ≤ x.1 10 ∧ x.1 10 ≤ y.1 5 ∧ vwOK x y (x.1 10).toNat)
def Inv (x y : XS) : Prop := iNod x y ∧ iLin x y ∧ iLog x y ∧ iOut x y ∧ iSta x y ∧ iVw x y
theorem inv_ini : Inv x_ini y_ini := by
  refine ⟨⟨by decide, by decide, rfl, fun i h1 h2 => absurd h2 (by show ¬ i < 0; omega)⟩, ⟨by decide, by decide, rfl, rfl, rfl, by decide, fun l h1 h2 => absurd h2 (by show ¬ l < 0; omega)⟩, ⟨by decide, by decide, rfl, rfl, rfl, rfl, by decide, fun l h1 h2 => absurd h2 (by show ¬ l < 0; omega), fun l h1 h2 => absurd h2 (by show ¬ l < 0; omega)⟩, ⟨rfl, by decide, by decide, fun l h1 h2 => absurd h2 (by show ¬ l < 0; omega)⟩, ⟨rfl, by decide, by decide⟩, Or.inl rfl⟩
-- what depends on what
def agr (y y' : XS) (v : Nat) : Prop := (∀ c : Nat, c < v → rd y' 9 c = rd y 9 c ∧ rd y' 10 c = rd y 10 c ∧ rd y' 11 c = rd y 11 c ∧ rd y' 12 c = rd y 12 c) ∧ (∀ l : Int, 0 ≤ l → l < nput y v → rd y' 2 l = rd y 2 l ∧ rd y' 3 l = rd y 3 l ∧ rd y' 4 l = rd y 4 l ∧ rd y' 5 l = rd y 5 l ∧ rd y' 6 l = rd y 6 l ∧ rd y' 7 l = rd y 7 l ∧ rd y' 8 l = rd y 8 l)
theorem nput_c {y y' : XS} : ∀ {v : Nat}, (∀ c : Nat, c < v → rd y' 9 c = rd y 9 c) → nput y' v = nput y v
  | 0, _ => rfl
  | v + 1, h => by
    unfold nput
    rw [nput_c (fun c hc => h c (by omega)), h v (by omega)]
theorem nclo_c {y y' : XS} : ∀ {v : Nat}, (∀ c : Nat, c < v → rd y' 9 c = rd y 9 c) → nclo y' v = nclo y v
  | 0, _ => rfl
  | v + 1, h => by
    unfold nclo
    rw [nclo_c (fun c hc => h c (by omega)), h v (by omega)]
theorem bs_c {y y' : XS} : ∀ {n : Nat}, (∀ c : Nat, c < n → rd y' 7 c = rd y 7 c) → bs y' n = bs y n
  | 0, _ => rfl
  | v + 1, h => by
    unfold bs
    rw [bs_c (fun c hc => h c (by omega)), h v (by omega)]
theorem skd_c {y y' : XS} {l : Int} : ∀ {v : Nat}, (∀ c : Nat, c < v → rd y' 9 c = rd y 9 c ∧ rd y' 10 c = rd y 10 c) → skd y' l v = skd y l v
  | 0, _ => rfl
  | v + 1, h => by
    unfold skd
    rw [skd_c (fun c hc => h c (by omega)), (h v (by omega)).1, (h v (by omega)).2]
theorem late_c {y y' : XS} {l r : Int} : ∀ {v : Nat}, (∀ c : Nat, c < v → rd y' 9 c = rd y 9 c ∧ rd y' 10 c = rd y 10 c ∧ rd y' 11 c = rd y 11 c ∧ rd y' 12 c = rd y 12 c) → late y' l r v = late y l r v
  | 0, _ => rfl
  | v + 1, h => by
    unfold late
    rw [late_c (fun c hc => h c (by omega)), (h v (by omega)).1, (h v (by omega)).2.1, (h v (by omega)).2.2.1, (h v (by omega)).2.2.2]
theorem clo_c {y y' : XS} {n t : Int} : ∀ {v : Nat}, (∀ c : Nat, c < v → rd y' 9 c = rd y 9 c ∧ rd y' 10 c = rd y 10 c ∧ rd y' 11 c = rd y 11 c ∧ rd y' 12 c = rd y 12 c) → clo y' n t v = clo y n t v
  | 0, _ => rfl
  | v + 1, h => by
    unfold clo
    rw [clo_c (fun c hc => h c (by omega)), (h v (by omega)).1, (h v (by omega)).2.1, (h v (by omega)).2.2.1, (h v (by omega)).2.2.2]
section AG
variable {y y' : XS} {v : Nat}
theorem agr_np (h : agr y y' v) : nput y' v = nput y v := nput_c (fun c hc => (h.1 c hc).1)
theorem agr_bs (h : agr y y' v) {l : Int} (h2 : l ≤ nput y v) : bs y' l.toNat = bs y l.toNat := bs_c (fun c hc => (h.2 c (by omega) (by omega)).2.2.2.2.2.1)
theorem agr_lv (h : agr y y' v) {l r : Int} (h1 : 0 ≤ l) (h2 : l < nput y v) : lv y' v l r = lv y v l r := by
  obtain ⟨a1, a2, a3, a4, a5, a6, a7⟩ := h.2 l h1 h2
  unfold lv
  rw [a3, a4, a7, late_c h.1]
theorem agr_cm (h : agr y y' v) {l r : Int} (h1 : 0 ≤ l) (h2 : l < nput y v) : cm y' v l r = cm y v l r := by
  obtain ⟨a1, a2, a3, a4, a5, a6, a7⟩ := h.2 l h1 h2
  unfold cm
  rw [agr_lv h h1 h2, a5]
theorem agr_st (h : agr y y' v) {l r : Int} (h1 : 0 ≤ l) (h2 : l < nput y v) : stB y' v l r = stB y v l r := by
  obtain ⟨a1, a2, a3, a4, a5, a6, a7⟩ := h.2 l h1 h2
  unfold stB
  rw [agr_lv h h1 h2, agr_cm h h1 h2, a1, a2, skd_c (fun c hc => ⟨(h.1 c hc).1, (h.1 c hc).2.1⟩), clo_c h.1, clo_c h.1]
theorem agr_nst (h : agr y y' v) {l : Int} (h1 : 0 ≤ l) (h2 : l < nput y v) : ∀ n : Nat, nst y' v l n = nst y v l n
  | 0 => rfl
  | n + 1 => by
    unfold nst
    rw [agr_nst h h1 h2 n, agr_st h h1 h2]
theorem agr_tot (h : agr y y' v) : ∀ n : Nat, (n : Int) ≤ nput y v → tot y' v n = tot y v n
  | 0, _ => rfl
  | n + 1, hn => by
    unfold tot
    rw [agr_tot h n (by omega), agr_nst h (by omega) (by omega), (h.2 n (by omega) (by omega)).2.2.2.2.2.1]
theorem agr_isR (h : agr y y' v) (q : Int) : isR y' v q ↔ isR y v q := by
  constructor
  · rintro ⟨l, r, a1, a2, a3, a4, a5⟩
    rw [agr_np h] at a2
    refine ⟨l, r, a1, a2, a3, ?_, ?_⟩
    · rw [← (h.2 l a1 a2).2.2.2.2.2.1]; exact a4
    · rw [a5, agr_bs h (by omega)]
  · rintro ⟨l, r, a1, a2, a3, a4, a5⟩
    refine ⟨l, r, a1, ?_, a3, ?_, ?_⟩
    · rw [agr_np h]; exact a2
    · rw [(h.2 l a1 a2).2.2.2.2.2.1]; exact a4
    · rw [a5, agr_bs h (by omega)]
theorem vwOK.own {x : XS} (h : vwOK x y v) {q : Int} (hq : isR y v q) : 0 ≤ rd x 20 q ∧ rd x 20 q < nput y v := by
  obtain ⟨l, r, a1, a2, a3, a4, a5⟩ := hq
  have := (h.2.1 l r a1 a2 a3 a4).1
  rw [← a5] at this
  omega
theorem nput_nn (y : XS) : ∀ n : Nat, 0 ≤ nput y n
  | 0 => by unfold nput; omega
  | n + 1 => by
    have := nput_nn y n
    unfold nput
    split <;> omega
theorem vw_cong {x x' : XS} (h : agr y y' v) (hx : ∀ j : Nat, (j = 20 ∨ j = 21 ∨ j = 22 ∨ j = 23 ∨ j = 24 ∨ j = 25 ∨ j = 27) → ∀ i : Int, rd x' j i = rd x j i) (h8 : x'.1 8 = x.1 8) (h9 : x'.1 9 = x.1 9) (H : vwOK x y v) : vwOK x' y' v := by
  have e20 := hx 20 (by omega)
  have e21 := hx 21 (by omega)
  have e22 := hx 22 (by omega)
  have e23 := hx 23 (by omega)
  have e24 := hx 24 (by omega)
  have e25 := hx 25 (by omega)
  have e27 := hx 27 (by omega)
  have eg : ∀ n : Int, gB x' n = gB x n := fun n => by unfold gB; rw [e27]
  have hto : ∀ q : Int, isR y v q → rd y' 3 (rd x 20 q) = rd y 3 (rd x 20 q) := fun q hq => (h.2 _ (H.own hq).1 (H.own hq).2).2.1
  obtain ⟨a1, a2, a3, a4, a5, a6, a7, a8, a9, a10⟩ := H
  refine ⟨?_, ?_, ?_, ?_, ?_, ?_, ?_, ?_, ?_, ?_⟩
  · rw [h8, agr_np h, a1]
  · intro l r b1 b2 b3 b4
    rw [agr_np h] at b2
    rw [(h.2 l b1 b2).2.2.2.2.2.1] at b4
    rw [agr_bs h (by omega), e20, e21, e22, e23, agr_lv h b1 b2, agr_cm h b1 b2, agr_st h b1 b2]
    exact a2 l r b1 b2 b3 b4
  · rw [h9, agr_np h, agr_tot h _ (by have := nput_nn y v; omega)]; exact a3
  · intro i b1 b2
    rw [h9] at b2
    rw [e24, e23, agr_isR h]
    exact a4 i b1 b2
  · intro q b1 b2
    rw [agr_isR h] at b1
    rw [e23] at b2
    obtain ⟨i, c1, c2, c3⟩ := a5 q b1 b2
    exact ⟨i, c1, by rw [h9]; exact c2, by rw [e24]; exact c3⟩
  · intro i j b1 b2 b3
    rw [h9] at b3
    rw [e24, e24, e21, e21]
    exact a6 i j b1 b2 b3
  · intro n b1 b2
    rw [eg, e27, h9]
    exact a7 n b1 b2
  · intro n i b1 b2 b3 b4
    rw [eg] at b3
    rw [e27] at b4
    obtain ⟨c1, c2, c3⟩ := a8 n i b1 b2 b3 b4
    rw [e25, e23, e20, agr_isR h, hto _ c1]
    exact ⟨c1, c2, c3⟩
  · intro q b1 b2
    rw [agr_isR h] at b1
    rw [e23] at b2
    obtain ⟨i, c1, c2, c3⟩ := a9 q b1 b2
    refine ⟨i, ?_, ?_, ?_⟩
    · rw [eg, e20, hto q b1]; exact c1
    · rw [e27, e20, hto q b1]; exact c2
    · rw [e25]; exact c3
  · intro n i j b1 b2 b3 b4 b5
    rw [eg] at b3
    rw [e27] at b5
    rw [e25, e25, e22, e22]
    exact a10 n i j b1 b2 b3 b4 b5
end AG
