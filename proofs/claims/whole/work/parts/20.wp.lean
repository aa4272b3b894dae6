def wp (o : XR) (P : Int → XS → Prop) : Prop := ∃ (r : Int) (x : XS), o = some (r, x) ∧ P r x
def rd (x : XS) (j : Nat) (i : Int) : Int := x.2 j i.toNat
def wr (x : XS) (j : Nat) (i v : Int) : XS := xpA x j (zup (x.2 j) i.toNat v)
theorem rd_wr_eq {x : XS} {j : Nat} {i v : Int} : rd (wr x j i v) j i = v := by
  unfold rd wr xpA zup
  simp
theorem rd_wr_ne {x : XS} {j : Nat} {i i' v : Int} (h0 : 0 ≤ i) (h1 : 0 ≤ i') (h : i' ≠ i) : rd (wr x j i v) j i' = rd x j i' := by
  have : ¬ i'.toNat = i.toNat := by omega
  unfold rd wr xpA zup
  simp [this]
theorem rd_wr_j {x : XS} {j j' : Nat} {i i' v : Int} (h : j' ≠ j) : rd (wr x j i v) j' i' = rd x j' i' := by
  have : Nat.beq j' j = false := by
    cases h2 : Nat.beq j' j with
    | true => exact absurd (Nat.eq_of_beq_eq_true h2) h
    | false => rfl
  unfold rd wr xpA
  simp [this]
theorem rd_ps {x : XS} {k j : Nat} {i v : Int} : rd (xpS x k v) j i = rd x j i := rfl
theorem wr_1 {x : XS} {j k : Nat} {i v : Int} : (wr x j i v).1 k = x.1 k := rfl
theorem ps_eq {x : XS} {k : Nat} {v : Int} : (xpS x k v).1 k = v := by
  unfold xpS
  simp
theorem ps_ne {x : XS} {k k' : Nat} {v : Int} (h : k' ≠ k) : (xpS x k v).1 k' = x.1 k' := by
  have : Nat.beq k' k = false := by
    cases h2 : Nat.beq k' k with
    | true => exact absurd (Nat.eq_of_beq_eq_true h2) h
    | false => rfl
  unfold xpS
  simp [this]
section WP
variable {P Q : Int → XS → Prop}
theorem wp_ret {r : Int} {x : XS} (h : P r x) : wp (some (r, x)) P := ⟨r, x, rfl, h⟩
theorem wp_let {α : Type} {a : α} {k : α → XR} (h : wp (k a) P) : wp (x_let a k) P := h
theorem wp_jp {α : Type} {k : α} {b : α → XR} (h : wp (b k) P) : wp (x_jp k b) P := h
theorem wp_ld {x : XS} {j n : Nat} {i : Int} {k : Int → XR} (h1 : 0 ≤ i) (h2 : i < (n : Int)) (h : wp (k (rd x j i)) P) : wp (x_ld (x.2 j) n i k) P := by
  unfold x_ld
  rw [if_pos ⟨h1, h2⟩]
  exact h
theorem wp_st {x : XS} {j n : Nat} {i v : Int} {k : XS → XR} (h1 : 0 ≤ i) (h2 : i < (n : Int)) (h : wp (k (wr x j i v)) P) : wp (x_st x j n i v k) P := by
  unfold x_st
  rw [if_pos ⟨h1, h2⟩]
  exact h
theorem wp_stb {x : XS} {j n : Nat} {i v : Int} {k : XS → XR} (h1 : 0 ≤ i) (h2 : i < (n : Int)) (h3 : v = 0 ∨ v = 1) (h : wp (k (wr x j i v)) P) : wp (x_stb x j n i v k) P := by
  unfold x_stb
  rw [if_pos ⟨⟨h1, h2⟩, h3⟩]
  exact h
theorem wp_call {o : XR} {k : Int → XS → XR} (h : wp o (fun r x => wp (k r x) P)) : wp (x_call o k) P := by
  obtain ⟨r, x, e, h⟩ := h
  rw [e]
  exact h
theorem wp_mono {o : XR} (h : wp o P) (hPQ : ∀ r x, P r x → Q r x) : wp o Q := by
  obtain ⟨r, x, e, h⟩ := h
  exact ⟨r, x, e, hPQ r x h⟩
theorem wp_lt {a b : Int} {A B : XR} (h1 : -2147483648 ≤ a) (h2 : a < 2147483648) (h3 : -2147483648 ≤ b) (h4 : b < 2147483648) (ht : a < b → wp A P) (hf : b ≤ a → wp B P) : wp (x_lt a b A B) P := by
  unfold x_lt
  rw [if_pos ⟨⟨h1, h2⟩, ⟨h3, h4⟩⟩]
  split
  · exact ht (by assumption)
  · exact hf (by omega)
theorem wp_le {a b : Int} {A B : XR} (h1 : -2147483648 ≤ a) (h2 : a < 2147483648) (h3 : -2147483648 ≤ b) (h4 : b < 2147483648) (ht : a ≤ b → wp A P) (hf : b < a → wp B P) : wp (x_le a b A B) P := by
  unfold x_le
  rw [if_pos ⟨⟨h1, h2⟩, ⟨h3, h4⟩⟩]
  split
  · exact ht (by assumption)
  · exact hf (by omega)
theorem wp_eq {a b : Int} {A B : XR} (h1 : -2147483648 ≤ a) (h2 : a < 2147483648) (h3 : -2147483648 ≤ b) (h4 : b < 2147483648) (ht : a = b → wp A P) (hf : a ≠ b → wp B P) : wp (x_eq a b A B) P := by
  unfold x_eq
  rw [if_pos ⟨⟨h1, h2⟩, ⟨h3, h4⟩⟩]
  split
  · exact ht (by assumption)
  · exact hf (by assumption)
theorem wp_max {a b : Int} {k : Int → XR} (h1 : -2147483648 ≤ a) (h2 : a < 2147483648) (h3 : -2147483648 ≤ b) (h4 : b < 2147483648) (h : ∀ v, (a < b ∧ v = b) ∨ (b ≤ a ∧ v = a) → wp (k v) P) : wp (x_max a b k) P := by
  unfold x_max
  rw [if_pos ⟨⟨h1, h2⟩, ⟨h3, h4⟩⟩]
  apply h
  split
  · left; exact ⟨by assumption, rfl⟩
  · right; exact ⟨by omega, rfl⟩
theorem wp_min {a b : Int} {k : Int → XR} (h1 : -2147483648 ≤ a) (h2 : a < 2147483648) (h3 : -2147483648 ≤ b) (h4 : b < 2147483648) (h : ∀ v, (b < a ∧ v = b) ∨ (a ≤ b ∧ v = a) → wp (k v) P) : wp (x_min a b k) P := by
  unfold x_min
  rw [if_pos ⟨⟨h1, h2⟩, ⟨h3, h4⟩⟩]
  apply h
  split
  · left; exact ⟨by assumption, rfl⟩
  · right; exact ⟨by omega, rfl⟩
theorem wp_loop1 {B : (Int → XS → XR) → Int → XS → XR} (I : Int → XS → Prop) (μ : Int → XS → Nat) (hs : ∀ (g : Int → XS → XR) (i : Int) (x : XS), I i x → (∀ i' x', I i' x' → μ i' x' < μ i x → wp (g i' x') P) → wp (B g i x) P) : ∀ (n : Nat) (i : Int) (x : XS), I i x → μ i x < n → wp (x_loop1 B n i x) P
  | 0, _, _, _, hn => absurd hn (Nat.not_lt_zero _)
  | n + 1, i, x, hI, hn => hs (x_loop1 B n) i x hI (fun i' x' hI' hm => wp_loop1 I μ hs n i' x' hI' (by omega))
theorem wp_loop2 {B : (Int → Int → XS → XR) → Int → Int → XS → XR} (I : Int → Int → XS → Prop) (μ : Int → Int → XS → Nat) (hs : ∀ (g : Int → Int → XS → XR) (i j : Int) (x : XS), I i j x → (∀ i' j' x', I i' j' x' → μ i' j' x' < μ i j x → wp (g i' j' x') P) → wp (B g i j x) P) : ∀ (n : Nat) (i j : Int) (x : XS), I i j x → μ i j x < n → wp (x_loop2 B n i j x) P
  | 0, _, _, _, _, hn => absurd hn (Nat.not_lt_zero _)
  | n + 1, i, j, x, hI, hn => hs (x_loop2 B n) i j x hI (fun i' j' x' hI' hm => wp_loop2 I μ hs n i' j' x' hI' (by omega))
theorem wp_loop3 {B : (Int → Int → Int → XS → XR) → Int → Int → Int → XS → XR} (I : Int → Int → Int → XS → Prop) (μ : Int → Int → Int → XS → Nat) (hs : ∀ (g : Int → Int → Int → XS → XR) (i j k : Int) (x : XS), I i j k x → (∀ i' j' k' x', I i' j' k' x' → μ i' j' k' x' < μ i j k x → wp (g i' j' k' x') P) → wp (B g i j k x) P) : ∀ (n : Nat) (i j k : Int) (x : XS), I i j k x → μ i j k x < n → wp (x_loop3 B n i j k x) P
  | 0, _, _, _, _, _, hn => absurd hn (Nat.not_lt_zero _)
  | n + 1, i, j, k, x, hI, hn => hs (x_loop3 B n) i j k x hI (fun i' j' k' x' hI' hm => wp_loop3 I μ hs n i' j' k' x' hI' (by omega))
end WP
theorem fu {n : Nat} (h : n < 90000) : n < x_fuel := Nat.lt_of_lt_of_le h (by decide)
-- X: the small ones
section SX
variable {P : Int → XS → Prop}
theorem sX_isBetween {x : XS} {n l m : Int} (hn : rg n) (hl : rg l) (hm : rg m) (h1 : l ≤ n → n ≤ m → P 1 x) (h0 : (n < l ∨ m < n) → P 0 x) : wp (f_X6_isBetween x n l m) P := by
  unfold f_X6_isBetween
  refine wp_lt hn.1 hn.2 hl.1 hl.2 (fun h => wp_ret (h0 (Or.inl h))) (fun h => ?_)
  exact wp_lt hm.1 hm.2 hn.1 hn.2 (fun h' => wp_ret (h0 (Or.inr h'))) (fun h' => wp_ret (h1 h h'))
theorem rg_lit {a : Int} (h : -100000 ≤ a) (h2 : a ≤ 2000000) : rg a := ⟨by omega, by omega⟩
theorem x01 {r : Int} {A B : XR} {P : Int → XS → Prop} (h : r = 0 ∨ r = 1) (h0 : r = 0 → wp A P) (h1 : r = 1 → wp B P) : wp (x_eq r 0 A B) P := by
  refine wp_eq (by omega) (by omega) (by omega) (by omega) h0 (fun h' => h1 (by omega))
theorem sX_isNode {x : XS} {n : Int} (hn : rg n) (hs : 0 ≤ x.1 2 ∧ x.1 2 ≤ 24) (h1 : 0 ≤ n → n < x.1 2 → P 1 x) (h0 : (n < 0 ∨ x.1 2 ≤ n) → P 0 x) : wp (f_X6_isNode x n) P := by
  unfold f_X6_isNode
  refine wp_call (sX_isBetween hn (rg_lit (by omega) (by omega)) (rg_lit (by omega) (by omega)) (fun a b => wp_ret (h1 a (by omega))) (fun a => wp_ret (h0 (by omega))))
theorem sX_isLine {x : XS} {n : Int} (hn : rg n) (hs : 0 ≤ x.1 3 ∧ x.1 3 ≤ 100) (h1 : 0 ≤ n → n < x.1 3 → P 1 x) (h0 : (n < 0 ∨ x.1 3 ≤ n) → P 0 x) : wp (f_X6_isLine x n) P := by
  unfold f_X6_isLine
  refine wp_call (sX_isBetween hn (rg_lit (by omega) (by omega)) (rg_lit (by omega) (by omega)) (fun a b => wp_ret (h1 a (by omega))) (fun a => wp_ret (h0 (by omega))))
theorem sX_isChange {x : XS} {n : Int} (hn : rg n) (hs : 0 ≤ x.1 5 ∧ x.1 5 ≤ 400) (h1 : 0 ≤ n → n ≤ x.1 5 → P 1 x) (h0 : (n < 0 ∨ x.1 5 < n) → P 0 x) : wp (f_X6_isChange x n) P := by
  unfold f_X6_isChange
  refine wp_call (sX_isBetween hn (rg_lit (by omega) (by omega)) (rg_lit (by omega) (by omega)) (fun a b => wp_ret (h1 a (by omega))) (fun a => wp_ret (h0 (by omega))))
theorem sX_isTick {x : XS} {n : Int} (hn : rg n) (h1 : 0 ≤ n → n ≤ 5000 → P 1 x) (h0 : (n < 0 ∨ 5000 < n) → P 0 x) : wp (f_X6_isTick x n) P := by
  unfold f_X6_isTick
  refine wp_call (sX_isBetween hn (rg_lit (by omega) (by omega)) (rg_lit (by omega) (by omega)) (fun a b => wp_ret (h1 a (by omega))) (fun a => wp_ret (h0 (by omega))))
theorem sX_isFull {x : XS} (hs : 0 ≤ x.1 5 ∧ x.1 5 ≤ 400) (h1 : x.1 5 = 400 → P 1 x) (h0 : x.1 5 < 400 → P 0 x) : wp (f_X1_isFull x) P := by
  unfold f_X1_isFull
  exact wp_lt (by omega) (by omega) (by omega) (by omega) (fun h => wp_ret (h0 h)) (fun h => wp_ret (h1 (by omega)))
theorem sX_areEnds {x : XS} {a b : Int} (ha : rg a) (hb : rg b) (hs : 0 ≤ x.1 2 ∧ x.1 2 ≤ 24) (h1 : 0 ≤ a → a < x.1 2 → 0 ≤ b → b < x.1 2 → a ≠ b → P 1 x) (h0 : (a < 0 ∨ x.1 2 ≤ a ∨ b < 0 ∨ x.1 2 ≤ b ∨ a = b) → P 0 x) : wp (f_X6_areEnds x a b) P := by
  unfold f_X6_areEnds
  refine wp_call (sX_isNode ha hs (fun a1 a2 => ?_) (fun a1 => ?_))
  · refine x01 (Or.inr rfl) (fun h => absurd h (by decide)) (fun _ => ?_)
    refine wp_call (sX_isNode hb hs (fun b1 b2 => ?_) (fun b1 => ?_))
    · refine x01 (Or.inr rfl) (fun h => absurd h (by decide)) (fun _ => ?_)
      exact wp_eq ha.1 ha.2 hb.1 hb.2 (fun h => wp_ret (h0 (by omega))) (fun h => wp_ret (h1 a1 a2 b1 b2 h))
    · exact x01 (Or.inl rfl) (fun _ => wp_ret (h0 (by omega))) (fun h => absurd h (by decide))
  · exact x01 (Or.inl rfl) (fun _ => wp_ret (h0 (by omega))) (fun h => absurd h (by decide))
theorem sX_areWaits {x : XS} {a b : Int} (ha : rg a) (hb : rg b) (h1 : 0 ≤ a → a ≤ 200 → (b = -1 ∨ (a ≤ b ∧ b ≤ 5000)) → P 1 x) (h0 : (a < 0 ∨ 200 < a ∨ (b ≠ -1 ∧ (b < a ∨ 5000 < b))) → P 0 x) : wp (f_X6_areWaits x a b) P := by
  unfold f_X6_areWaits
  refine wp_call (sX_isBetween ha (rg_lit (by omega) (by omega)) (rg_lit (by omega) (by omega)) (fun a1 a2 => ?_) (fun a1 => ?_))
  · refine x01 (Or.inr rfl) (fun h => absurd h (by decide)) (fun _ => ?_)
    refine wp_jp ?_
    refine wp_eq hb.1 hb.2 (by omega) (by omega) (fun h => wp_ret (h1 a1 a2 (by omega))) (fun h => ?_)
    refine wp_call (sX_isBetween hb ha (rg_lit (by omega) (by omega)) (fun b1 b2 => ?_) (fun b1 => ?_))
    · exact x01 (Or.inr rfl) (fun h => absurd h (by decide)) (fun _ => wp_ret (h1 a1 a2 (by omega)))
    · exact x01 (Or.inl rfl) (fun _ => wp_ret (h0 (by omega))) (fun h => absurd h (by decide))
  · exact x01 (Or.inl rfl) (fun _ => wp_ret (h0 (by omega))) (fun h => absurd h (by decide))
theorem sX_isPlan {x : XS} {k t q : Int} (hk : rg k) (ht : rg t) (hq : rg q) (h1 : (k = 0 ∨ (k = 2 ∧ 2 ≤ t ∧ t ≤ 60) ∨ (k = 1 ∧ 2 ≤ t ∧ t ≤ 60 ∧ 1 ≤ q ∧ q ≤ 500)) → P 1 x) (h0 : ¬ (k = 0 ∨ (k = 2 ∧ 2 ≤ t ∧ t ≤ 60) ∨ (k = 1 ∧ 2 ≤ t ∧ t ≤ 60 ∧ 1 ≤ q ∧ q ≤ 500)) → P 0 x) : wp (f_X6_isPlan x k t q) P := by
  unfold f_X6_isPlan
  refine wp_eq hk.1 hk.2 (by omega) (by omega) (fun h => wp_ret (h1 (by omega))) (fun h => ?_)
  refine wp_jp ?_
  have hrest : (k = 1 ∨ k = 2) → wp (x_call (f_X6_isBetween x t 2 60) (fun r3 x4 => x_eq r3 0 (some (0, x4)) (x_jp (fun (x6 : XS) => some (1, x6)) (fun jp5 => x_eq k 2 (jp5 x4) (x_call (f_X6_isBetween x4 q 1 500) (fun r7 x8 => x_eq r7 0 (some (0, x8)) (jp5 x8))))))) P := by
    intro hk12
    refine wp_call (sX_isBetween ht (rg_lit (by omega) (by omega)) (rg_lit (by omega) (by omega)) (fun a1 a2 => ?_) (fun a1 => ?_))
    · refine x01 (Or.inr rfl) (fun h => absurd h (by decide)) (fun _ => ?_)
      refine wp_jp ?_
      refine wp_eq hk.1 hk.2 (by omega) (by omega) (fun h => wp_ret (h1 (by omega))) (fun h => ?_)
      refine wp_call (sX_isBetween hq (rg_lit (by omega) (by omega)) (rg_lit (by omega) (by omega)) (fun b1 b2 => ?_) (fun b1 => ?_))
      · exact x01 (Or.inr rfl) (fun h => absurd h (by decide)) (fun _ => wp_ret (h1 (by omega)))
      · exact x01 (Or.inl rfl) (fun _ => wp_ret (h0 (by omega))) (fun h => absurd h (by decide))
    · exact x01 (Or.inl rfl) (fun _ => wp_ret (h0 (by omega))) (fun h => absurd h (by decide))
  refine wp_eq hk.1 hk.2 (by omega) (by omega) (fun h => hrest (Or.inl h)) (fun h2 => ?_)
  refine wp_eq hk.1 hk.2 (by omega) (by omega) (fun h => hrest (Or.inr h)) (fun h3 => ?_)
  exact wp_ret (h0 (by omega))
theorem sX_refuse {x : XS} {a : Int} (h : P (-1) (xpS x 1 a)) : wp (f_X6_refuse x a) P := wp_let (wp_ret h)
theorem sX_answer {x : XS} {a : Int} (h : P a (xpS x 1 0)) : wp (f_X6_answer x a) P := wp_let (wp_ret h)
theorem sX_deny {x : XS} {a : Int} (h : P 0 (xpS x 1 a)) : wp (f_X6_deny x a) P := wp_let (wp_ret h)
theorem sX_agree {x : XS} (h : P 1 (xpS x 1 0)) : wp (f_X6_agree x) P := wp_let (wp_ret h)
theorem sY_refuse {x : XS} {a : Int} (h : P (-1) (xpS x 0 a)) : wp (f_X7_refuse x a) P := wp_let (wp_ret h)
theorem sY_no {x : XS} {a : Int} (h : P 0 (xpS x 0 a)) : wp (f_X7_no x a) P := wp_let (wp_ret h)
theorem sY_isNode {x : XS} {n : Int} (hn : rg n) (hs : 0 ≤ x.1 2 ∧ x.1 2 ≤ 24) (h1 : 0 ≤ n → n < x.1 2 → P 1 x) (h0 : (n < 0 ∨ x.1 2 ≤ n) → P 0 x) : wp (f_X7_isNode x n) P := by
  unfold f_X7_isNode
  refine wp_lt hn.1 hn.2 (by omega) (by omega) (fun h => wp_ret (h0 (by omega))) (fun h => ?_)
  exact wp_le (by omega) (by omega) hn.1 hn.2 (fun h => wp_ret (h0 (by omega))) (fun h => wp_ret (h1 (by omega) (by omega)))
theorem sY_isLine {x : XS} {n : Int} (hn : rg n) (hs : 0 ≤ x.1 3 ∧ x.1 3 ≤ 100) (h1 : 0 ≤ n → n < x.1 3 → P 1 x) (h0 : (n < 0 ∨ x.1 3 ≤ n) → P 0 x) : wp (f_X7_isLine x n) P := by
  unfold f_X7_isLine
  refine wp_lt hn.1 hn.2 (by omega) (by omega) (fun h => wp_ret (h0 (by omega))) (fun h => ?_)
  exact wp_le (by omega) (by omega) hn.1 hn.2 (fun h => wp_ret (h0 (by omega))) (fun h => wp_ret (h1 (by omega) (by omega)))
theorem sY_isTick {x : XS} {n : Int} (hn : rg n) (h1 : 0 ≤ n → n ≤ 5000 → P 1 x) (h0 : (n < 0 ∨ 5000 < n) → P 0 x) : wp (f_X7_isTick x n) P := by
  unfold f_X7_isTick
  refine wp_lt hn.1 hn.2 (by omega) (by omega) (fun h => wp_ret (h0 (by omega))) (fun h => ?_)
  exact wp_lt (by omega) (by omega) hn.1 hn.2 (fun h => wp_ret (h0 (by omega))) (fun h => wp_ret (h1 (by omega) (by omega)))
theorem sY_areWaits {x : XS} {a b : Int} (ha : rg a) (hb : rg b) (h1 : 0 ≤ a → a ≤ 200 → (b = -1 ∨ (a ≤ b ∧ b ≤ 5000)) → P 1 x) (h0 : (a < 0 ∨ 200 < a ∨ (b ≠ -1 ∧ (b < a ∨ 5000 < b))) → P 0 x) : wp (f_X7_areWaits x a b) P := by
  unfold f_X7_areWaits
  refine wp_lt ha.1 ha.2 (by omega) (by omega) (fun h => wp_ret (h0 (by omega))) (fun a1 => ?_)
  refine wp_lt (by omega) (by omega) ha.1 ha.2 (fun h => wp_ret (h0 (by omega))) (fun a2 => ?_)
  refine wp_jp ?_
  refine wp_eq hb.1 hb.2 (by omega) (by omega) (fun h => wp_ret (h1 a1 a2 (by omega))) (fun h => ?_)
  refine wp_lt hb.1 hb.2 ha.1 ha.2 (fun h => wp_ret (h0 (by omega))) (fun b1 => ?_)
  exact wp_lt (by omega) (by omega) hb.1 hb.2 (fun h => wp_ret (h0 (by omega))) (fun h => wp_ret (h1 a1 a2 (by omega)))
end SX
