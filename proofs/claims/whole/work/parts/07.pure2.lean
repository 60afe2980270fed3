/-! ===== pure words: the reference's own ===== -/
def p_in (v a b : Int) : Int := if a ≤ v ∧ v ≤ b then 1 else 0
theorem p_in_r (v a b : Int) : p_in v a b = 0 ∨ p_in v a b = 1 := by unfold p_in; split <;> omega
theorem p_in_1 {v a b : Int} (h : ¬ p_in v a b = 0) : a ≤ v ∧ v ≤ b := by
  unfold p_in at h
  split at h
  · assumption
  · omega
theorem p_in_0 {v a b : Int} (h : p_in v a b = 0) : ¬ (a ≤ v ∧ v ≤ b) := by
  unfold p_in at h
  split at h
  · omega
  · assumption
def cpN (n : Int) (f g : Int → Int) : Int → Int := fun j => if 0 ≤ j ∧ j < n then f j else g j
theorem cpN_s (f g : Int → Int) {i : Int} (h : 0 ≤ i) : uf (cpN i f g) i (f i) = cpN (i + 1) f g := by
  funext j
  unfold uf cpN
  by_cases hj : j = i
  · subst hj
    rw [if_pos rfl, if_pos (by omega)]
  · rw [if_neg hj]
    by_cases h2 : 0 ≤ j ∧ j < i
    · rw [if_pos h2, if_pos (by omega)]
    · rw [if_neg h2, if_neg (by omega)]
theorem cpN_0 (f g : Int → Int) : cpN 0 f g = g := by
  funext j
  unfold cpN
  rw [if_neg (by omega)]
/-- the number of a state, from the first jug on -/
def nN (rm hs : Int → Int) : Nat → Int
  | 0 => 0
  | k + 1 => nN rm hs k * (rm k + 1) + hs k
def nT (rm hs : Int → Int) (i : Int) : Int := nN rm hs i.toNat
theorem nT_s (rm hs : Int → Int) {i : Int} (h : 0 ≤ i) : nT rm hs (i + 1) = nT rm hs i * (rm i + 1) + hs i := by
  unfold nT
  have h1 : (i + 1).toNat = i.toNat + 1 := by omega
  rw [h1, nN, Int.toNat_of_nonneg h]
/-- how many states there are -/
def mN (rm : Int → Int) : Nat → Int
  | 0 => 1
  | k + 1 => mN rm k * (rm k + 1)
def mT (rm : Int → Int) (i : Int) : Int := mN rm i.toNat
theorem mT_s (rm : Int → Int) {i : Int} (h : 0 ≤ i) : mT rm (i + 1) = mT rm i * (rm i + 1) := by
  unfold mT
  have h1 : (i + 1).toNat = i.toNat + 1 := by omega
  rw [h1, mN, Int.toNat_of_nonneg h]
def rv (n : Int) (f : Int → Int) : Int → Int := fun j => f (n - 1 - j)
/-- what is held in the state of that number; digits from the last jug on, those from i on are laid -/
def p_layI (n i : Int) (rm hs : Int → Int) (x : Int) : Int → Int := fun j => if i ≤ j ∧ j < n then rT (rv n rm) x (n - 1 - j) % (rm j + 1) else hs j
theorem p_layI_s (n : Int) (rm hs : Int → Int) (x : Int) {i : Int} (h : 0 ≤ i) (hn : i < n) : uf (p_layI n (i + 1) rm hs x) i (rT (rv n rm) x (n - 1 - i) % (rm i + 1)) = p_layI n i rm hs x := by
  funext j
  unfold uf p_layI
  by_cases hj : j = i
  · subst hj
    rw [if_pos rfl, if_pos (by omega)]
  · rw [if_neg hj]
    by_cases h2 : i + 1 ≤ j ∧ j < n
    · rw [if_pos h2, if_pos (by omega)]
    · rw [if_neg h2, if_neg (by omega)]
def p_lay (n : Int) (rm hs : Int → Int) (x : Int) : Int → Int := p_layI n 0 rm hs x
/-- the trial's jugs are in order -/
def Tok (I : Nat → Int) (A : Nat → Int → Int) : Prop := 0 ≤ I 7 ∧ I 7 ≤ 4 ∧ (I 10 = 0 ∨ I 10 = 1) ∧ (I 11 = 0 ∨ I 11 = 1) ∧ (∀ i, 0 ≤ i → i < I 7 → 1 ≤ A 8 i ∧ A 8 i ≤ 10) ∧ (∀ i, 0 ≤ i → i < I 7 → 0 ≤ A 9 i ∧ A 9 i ≤ A 8 i)
/-- the reference's own jugs and glasses are in order -/
def Mok (I : Nat → Int) (A : Nat → Int → Int) : Prop := 0 ≤ I 0 ∧ I 0 ≤ 4 ∧ (I 3 = 0 ∨ I 3 = 1) ∧ (I 4 = 0 ∨ I 4 = 1) ∧ (∀ i, 0 ≤ i → i < I 0 → 1 ≤ A 1 i ∧ A 1 i ≤ 10) ∧ (∀ i, 0 ≤ i → i < I 0 → 0 ≤ A 2 i ∧ A 2 i ≤ A 1 i) ∧ 0 ≤ I 5 ∧ I 5 ≤ 3 ∧ (∀ i, 0 ≤ i → i < I 5 → 1 ≤ A 6 i ∧ A 6 i ≤ 12)
def p_do (hd : Int → Int) (a u : Int) : Int → Int := if 0 < u then p_move hd a u else hd
theorem k_acts {a : Int} (h0 : 0 ≤ a) (h : a < 24) : (a < 4 → k_taker a = a % 4 ∧ k_giver a = -1) ∧ (4 ≤ a → a < 8 → k_giver a = a % 4 ∧ k_taker a = -1) ∧ (8 ≤ a → k_giver a = (a - 8) / 4 ∧ k_taker a = a % 4) := by
  have key : ∀ j : Nat, j < 24 → ((j : Int) < 4 → k_taker j = j % 4 ∧ k_giver j = -1) ∧ (4 ≤ (j : Int) → (j : Int) < 8 → k_giver j = j % 4 ∧ k_taker j = -1) ∧ (8 ≤ (j : Int) → k_giver j = (j - 8) / 4 ∧ k_taker j = j % 4) := by decide
  have := key a.toNat (by omega)
  rwa [Int.toNat_of_nonneg h0] at this
/-- which moves there are: the act's jugs are there -/
def p_act (n a : Int) : Prop := k_giver a < n ∧ k_taker a < n ∧ k_giver a ≠ k_taker a
theorem p_mv_act {n tp dr : Int} {sz hd : Int → Int} {a : Int} (h0 : 0 ≤ a) (h : a < 24) (hp : p_act n a) : p_mv n tp dr sz hd a = if p_there tp hd (k_giver a) < p_room dr sz hd (k_taker a) then p_there tp hd (k_giver a) else p_room dr sz hd (k_taker a) := by
  unfold p_mv
  unfold p_act at hp
  rw [if_neg (by omega), if_neg (by omega)]
theorem p_mv_no {n tp dr : Int} {sz hd : Int → Int} {a : Int} (hp : ¬ p_act n a) : p_mv n tp dr sz hd a = 0 := by
  unfold p_mv
  unfold p_act at hp
  split
  · rfl
  · rw [if_pos (by omega)]
