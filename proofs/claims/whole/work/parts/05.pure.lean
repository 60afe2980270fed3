/-! ===== pure words: the jugs ===== -/
def p_has (n a : Int) : Int := if 0 ≤ a ∧ a < n ∧ a < 4 then 1 else 0
def p_haveAct (n a : Int) : Int := if 0 ≤ a ∧ a < 24 ∧ k_giver a < n ∧ k_taker a < n ∧ k_giver a ≠ k_taker a then 1 else 0
def p_there (tp : Int) (hd : Int → Int) (f : Int) : Int := if 0 ≤ f then hd f else if tp = 0 then 0 else 10
def p_room (dr : Int) (sz hd : Int → Int) (t : Int) : Int := if 0 ≤ t then sz t - hd t else if dr = 0 then 0 else 10
def p_mv (n tp dr : Int) (sz hd : Int → Int) (a : Int) : Int :=
  if a < 0 ∨ 24 ≤ a then 0 else if n ≤ k_giver a ∨ n ≤ k_taker a ∨ k_giver a = k_taker a then 0
  else if p_there tp hd (k_giver a) < p_room dr sz hd (k_taker a) then p_there tp hd (k_giver a) else p_room dr sz hd (k_taker a)
def p_wt (wt : Int → Int) (f : Int) : Int := if 0 ≤ f then wt f else 0
def p_shift (n tp dr : Int) (sz hd wt : Int → Int) (a : Int) : Int :=
  if p_mv n tp dr sz hd a = 0 then 0 else p_mv n tp dr sz hd a * (p_wt wt (k_taker a) - p_wt wt (k_giver a))
def p_spilt (hd : Int → Int) (a : Int) : Int := if 0 ≤ a ∧ a < 24 ∧ k_taker a < 0 ∧ 0 ≤ k_giver a then hd (k_giver a) else 0
/-- the sum of f over 0 .. i - 1 -/
def sN (f : Int → Int) : Nat → Int
  | 0 => 0
  | k + 1 => sN f k + f k
def sT (f : Int → Int) (i : Int) : Int := sN f i.toNat
theorem sT_0 (f : Int → Int) : sT f 0 = 0 := rfl
theorem sT_s (f : Int → Int) {i : Int} (h : 0 ≤ i) : sT f (i + 1) = sT f i + f i := by
  unfold sT
  have h1 : (i + 1).toNat = i.toNat + 1 := by omega
  rw [h1, sN, Int.toNat_of_nonneg h]
/-- what is left of a code behind k digits -/
def rN (sz : Int → Int) (c : Int) : Nat → Int
  | 0 => c
  | k + 1 => rN sz c k / (sz k + 1)
def rT (sz : Int → Int) (c i : Int) : Int := rN sz c i.toNat
theorem rT_0 (sz : Int → Int) (c : Int) : rT sz c 0 = c := rfl
theorem rT_s (sz : Int → Int) (c : Int) {i : Int} (h : 0 ≤ i) : rT sz c (i + 1) = rT sz c i / (sz i + 1) := by
  unfold rT
  have h1 : (i + 1).toNat = i.toNat + 1 := by omega
  rw [h1, rN, Int.toNat_of_nonneg h]
/-- what the jugs hold when a code is laid out -/
def p_stand (n : Int) (sz hd : Int → Int) (c : Int) : Int → Int := fun j => if 0 ≤ j ∧ j < n then rT sz c j % (sz j + 1) else hd j
/-- some of the first i jugs holds v -/
def p_any (hd : Int → Int) (v : Int) : Nat → Bool
  | 0 => false
  | k + 1 => p_any hd v k || decide (hd k = v)
def p_meet (n : Int) (hd : Int → Int) (i v : Int) : Int := if 0 ≤ i then (if 0 ≤ i ∧ i < n ∧ i < 4 ∧ hd i = v then 1 else 0) else if p_any hd v n.toNat then 1 else 0
theorem p_any_s (hd : Int → Int) (v : Int) {i : Int} (h : 0 ≤ i) : p_any hd v (i + 1).toNat = (p_any hd v i.toNat || decide (hd i = v)) := by
  have h1 : (i + 1).toNat = i.toNat + 1 := by omega
  rw [h1, p_any, Int.toNat_of_nonneg h]
theorem p_any_mono (hd : Int → Int) (v : Int) {a b : Nat} (h : a ≤ b) (ha : p_any hd v a = true) : p_any hd v b = true := by
  induction h with
  | refl => exact ha
  | step _ ih => simp [p_any, ih]
theorem k_giver_r (a : Int) : -1 ≤ k_giver a ∧ k_giver a ≤ 3 := by
  unfold k_giver
  by_cases h : a.toNat < 24
  · have : ∀ j, j < 24 → -1 ≤ ([-1, -1, -1, -1, 0, 1, 2, 3, 0, 0, 0, 0, 1, 1, 1, 1, 2, 2, 2, 2, 3, 3, 3, 3] : List Int).getD j 0 ∧ ([-1, -1, -1, -1, 0, 1, 2, 3, 0, 0, 0, 0, 1, 1, 1, 1, 2, 2, 2, 2, 3, 3, 3, 3] : List Int).getD j 0 ≤ 3 := by decide
    exact this _ h
  · rw [List.getD_eq_getElem?_getD, List.getElem?_eq_none (by simp; omega)]
    exact ⟨by decide, by decide⟩
theorem k_taker_r (a : Int) : -1 ≤ k_taker a ∧ k_taker a ≤ 3 := by
  unfold k_taker
  by_cases h : a.toNat < 24
  · have : ∀ j, j < 24 → -1 ≤ ([0, 1, 2, 3, -1, -1, -1, -1, 0, 1, 2, 3, 0, 1, 2, 3, 0, 1, 2, 3, 0, 1, 2, 3] : List Int).getD j 0 ∧ ([0, 1, 2, 3, -1, -1, -1, -1, 0, 1, 2, 3, 0, 1, 2, 3, 0, 1, 2, 3, 0, 1, 2, 3] : List Int).getD j 0 ≤ 3 := by decide
    exact this _ h
  · rw [List.getD_eq_getElem?_getD, List.getElem?_eq_none (by simp; omega)]
    exact ⟨by decide, by decide⟩
/-- the jugs of an object are in order: how many, sizes, what is held, tap and drain -/
def Jok (I : Nat → Int) (A : Nat → Int → Int) : Prop := 0 ≤ I 0 ∧ I 0 ≤ 4 ∧ (I 2 = 0 ∨ I 2 = 1) ∧ (I 3 = 0 ∨ I 3 = 1) ∧ (∀ i, 0 ≤ i → i < I 0 → 1 ≤ A 4 i ∧ A 4 i ≤ 10) ∧ (∀ i, 0 ≤ i → i < I 0 → 0 ≤ A 5 i ∧ A 5 i ≤ A 4 i) ∧ (∀ i, 0 ≤ i → i < I 0 → 1 ≤ A 6 i ∧ A 6 i ≤ 1331) ∧ 1 ≤ I 1 ∧ I 1 ≤ 14641
theorem va_up_id {α : Type} (f : Nat → α) (k : Nat) : va_up f k (f k) = f := by
  funext j
  unfold va_up
  split
  · next q => rw [q]
  · rfl
theorem div_rng {z d : Int} (h0 : 0 ≤ z) (h1 : z < 2147483648) (hd : 0 < d) : 0 ≤ z / d ∧ z / d < 2147483648 := by
  refine ⟨Int.ediv_nonneg h0 (by omega), ?_⟩
  have := Int.ediv_le_self d h0
  omega
theorem p_stand_s (sz hd : Int → Int) (c : Int) {i : Int} (h : 0 ≤ i) : uf (p_stand i sz hd c) i (rT sz c i % (sz i + 1)) = p_stand (i + 1) sz hd c := by
  funext j
  unfold uf p_stand
  by_cases hj : j = i
  · subst hj
    rw [if_pos rfl, if_pos (by omega)]
  · rw [if_neg hj]
    by_cases h2 : 0 ≤ j ∧ j < i
    · rw [if_pos h2, if_pos (by omega)]
    · rw [if_neg h2, if_neg (by omega)]
theorem p_has_r (n a : Int) : p_has n a = 0 ∨ p_has n a = 1 := by unfold p_has; split <;> omega
theorem p_has_1 {n a : Int} (h : ¬ p_has n a = 0) : 0 ≤ a ∧ a < n ∧ a < 4 := by
  unfold p_has at h
  split at h
  · assumption
  · omega
theorem p_has_0 {n a : Int} (h : p_has n a = 0) : ¬ (0 ≤ a ∧ a < n ∧ a < 4) := by
  unfold p_has at h
  split at h
  · omega
  · assumption
theorem p_haveAct_r (n a : Int) : p_haveAct n a = 0 ∨ p_haveAct n a = 1 := by unfold p_haveAct; split <;> omega
theorem p_haveAct_1 {n a : Int} (h : ¬ p_haveAct n a = 0) : 0 ≤ a ∧ a < 24 ∧ k_giver a < n ∧ k_taker a < n ∧ k_giver a ≠ k_taker a := by
  unfold p_haveAct at h
  split at h
  · assumption
  · omega
theorem p_mv_1 {n tp dr : Int} {sz hd : Int → Int} {a : Int} (h : ¬ p_mv n tp dr sz hd a = 0) : 0 ≤ a ∧ a < 24 ∧ k_giver a < n ∧ k_taker a < n ∧ k_giver a ≠ k_taker a := by
  unfold p_mv at h
  split at h
  · omega
  · split at h
    · omega
    · omega
theorem p_mv_r {I : Nat → Int} {A : Nat → Int → Int} (hj : Jok I A) (a : Int) : 0 ≤ p_mv (I 0) (I 2) (I 3) (A 4) (A 5) a ∧ p_mv (I 0) (I 2) (I 3) (A 4) (A 5) a ≤ 10 := by
  obtain ⟨hj1, hj2, hj3, hj4, hj5, hj6, hj7, hj8, hj9⟩ := hj
  unfold p_mv
  split
  · omega
  · split
    · omega
    · have h1 : 0 ≤ p_there (I 2) (A 5) (k_giver a) ∧ p_there (I 2) (A 5) (k_giver a) ≤ 10 := by
        unfold p_there
        split
        · have h5 := hj5 (k_giver a) (by omega) (by omega)
          have h6 := hj6 (k_giver a) (by omega) (by omega)
          omega
        · split <;> omega
      have h2 : 0 ≤ p_room (I 3) (A 4) (A 5) (k_taker a) ∧ p_room (I 3) (A 4) (A 5) (k_taker a) ≤ 10 := by
        unfold p_room
        split
        · have h5 := hj5 (k_taker a) (by omega) (by omega)
          have h6 := hj6 (k_taker a) (by omega) (by omega)
          omega
        · split <;> omega
      split <;> omega
def p_move (hd : Int → Int) (a u : Int) : Int → Int :=
  if 0 ≤ k_taker a then (if 0 ≤ k_giver a then uf (uf hd (k_giver a) (hd (k_giver a) - u)) (k_taker a) (uf hd (k_giver a) (hd (k_giver a) - u) (k_taker a) + u) else uf hd (k_taker a) (hd (k_taker a) + u))
  else if 0 ≤ k_giver a then uf hd (k_giver a) (hd (k_giver a) - u) else hd
