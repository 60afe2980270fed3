/-! ===== pure: numbers of states and moves, within bounds ===== -/
def Vh (n : Int) (rm hd : Int → Int) : Prop := ∀ i, 0 ≤ i → i < n → 0 ≤ hd i ∧ hd i ≤ rm i
def Rm (n : Int) (rm : Int → Int) : Prop := 0 ≤ n ∧ n ≤ 4 ∧ ∀ i, 0 ≤ i → i < n → 1 ≤ rm i ∧ rm i ≤ 10
theorem mN_pos {rm : Int → Int} : ∀ (k : Nat), (∀ i : Int, 0 ≤ i → i < k → 1 ≤ rm i) → 1 ≤ mN rm k
  | 0, _ => by simp [mN]
  | k + 1, h => by
    have h1 := mN_pos k (fun i a b => h i a (by omega))
    have h2 := h k (by omega) (by omega)
    rw [mN]
    have := Int.mul_le_mul h1 (show (1 : Int) ≤ rm k + 1 by omega) (by omega) (by omega)
    omega
theorem mN_le {rm : Int → Int} : ∀ (k : Nat), (∀ i : Int, 0 ≤ i → i < k → 1 ≤ rm i ∧ rm i ≤ 10) → mN rm k ≤ 11 ^ k
  | 0, _ => by simp [mN]
  | k + 1, h => by
    have h1 := mN_le k (fun i a b => h i a (by omega))
    have h0 := mN_pos (rm := rm) k (fun i a b => (h i a (by omega)).1)
    have h2 := h k (by omega) (by omega)
    rw [mN, Int.pow_succ]
    exact Int.mul_le_mul h1 (by omega) (by omega) (by have : (0 : Int) ≤ 11 ^ k := Int.pow_nonneg (by decide); exact this)
theorem nN_r {rm hd : Int → Int} : ∀ (k : Nat), (∀ i : Int, 0 ≤ i → i < k → 0 ≤ hd i ∧ hd i ≤ rm i) → 0 ≤ nN rm hd k ∧ nN rm hd k < mN rm k
  | 0, _ => by simp [mN, nN]
  | k + 1, h => by
    have h1 := nN_r k (fun i a b => h i a (by omega))
    have h2 := h k (by omega) (by omega)
    rw [mN, nN]
    have h3 : 0 ≤ nN rm hd k * (rm k + 1) := Int.mul_nonneg h1.1 (by omega)
    have h4 : (nN rm hd k + 1) * (rm k + 1) ≤ mN rm k * (rm k + 1) := Int.mul_le_mul_of_nonneg_right (by omega) (by omega)
    rw [Int.add_mul] at h4
    omega
theorem mT_r {n : Int} {rm : Int → Int} (h : Rm n rm) : 1 ≤ mT rm n ∧ mT rm n ≤ 14641 := by
  obtain ⟨h0, h4, hr⟩ := h
  unfold mT
  refine ⟨mN_pos _ (fun i a b => (hr i a (by omega)).1), ?_⟩
  have h1 := mN_le (rm := rm) n.toNat (fun i a b => hr i a (by omega))
  have h2 : ∀ k : Nat, k < 5 → (11 : Int) ^ k ≤ 14641 := by decide
  have h3 := h2 n.toNat (by omega)
  omega
theorem nT_r {n : Int} {rm hd : Int → Int} (h0 : 0 ≤ n) (h : Vh n rm hd) : 0 ≤ nT rm hd n ∧ nT rm hd n < mT rm n := nN_r n.toNat (fun i a b => h i a (by omega))
theorem nN_congr {rm rm2 hd hd2 : Int → Int} : ∀ (k : Nat), (∀ i : Int, 0 ≤ i → i < k → rm i = rm2 i ∧ hd i = hd2 i) → nN rm hd k = nN rm2 hd2 k
  | 0, _ => rfl
  | k + 1, h => by
    have h2 := h k (by omega) (by omega)
    rw [nN, nN, nN_congr k (fun i a b => h i a (by omega)), h2.1, h2.2]
theorem nT_congr {n : Int} {rm hd hd2 : Int → Int} (h : ∀ i, 0 ≤ i → i < n → hd i = hd2 i) : nT rm hd n = nT rm hd2 n := nN_congr n.toNat (fun i a b => ⟨rfl, h i a (by omega)⟩)
/-- the digits of a state's number -/
def DG (n : Int) (rm : Int → Int) (x : Int) : Int → Int := fun j => rT (rv n rm) x (n - 1 - j) % (rm j + 1)
theorem p_lay_DG {n : Int} {rm hs : Int → Int} {x j : Int} (h0 : 0 ≤ j) (h : j < n) : p_lay n rm hs x j = DG n rm x j := by
  unfold p_lay p_layI DG
  rw [if_pos ⟨h0, h⟩]
theorem DG_v {n : Int} {rm : Int → Int} (h : Rm n rm) (x : Int) : Vh n rm (DG n rm x) := by
  intro i h0 h1
  have h2 := h.2.2 i h0 h1
  unfold DG
  have h3 := Int.emod_nonneg (rT (rv n rm) x (n - 1 - i)) (show rm i + 1 ≠ 0 by omega)
  have h4 := Int.emod_lt_of_pos (rT (rv n rm) x (n - 1 - i)) (show 0 < rm i + 1 by omega)
  omega
theorem p_mv_le {n tp dr : Int} {rm hd : Int → Int} {a : Int} (h0 : 0 ≤ a) (h : a < 24) (hp : p_act n a) : (0 ≤ k_giver a → p_mv n tp dr rm hd a ≤ hd (k_giver a)) ∧ (0 ≤ k_taker a → p_mv n tp dr rm hd a ≤ rm (k_taker a) - hd (k_taker a)) := by
  rw [p_mv_act h0 h hp]
  unfold p_there p_room
  refine ⟨fun q => ?_, fun q => ?_⟩
  · rw [if_pos q]
    split <;> omega
  · rw [if_pos q]
    split <;> omega
theorem p_mv_pos_act {n tp dr : Int} {rm hd : Int → Int} {a : Int} (h : 0 < p_mv n tp dr rm hd a) : 0 ≤ a ∧ a < 24 ∧ p_act n a := by
  have := p_mv_1 (n := n) (tp := tp) (dr := dr) (sz := rm) (hd := hd) (a := a) (by omega)
  exact ⟨this.1, this.2.1, this.2.2⟩
theorem move_v {n tp dr : Int} {rm hd : Int → Int} {a : Int} (hv : Vh n rm hd) (hu : 0 < p_mv n tp dr rm hd a) : Vh n rm (p_move hd a (p_mv n tp dr rm hd a)) := by
  obtain ⟨h0, h1, hp⟩ := p_mv_pos_act hu
  obtain ⟨hg, ht⟩ := p_mv_le (tp := tp) (dr := dr) (rm := rm) (hd := hd) h0 h1 hp
  generalize p_mv n tp dr rm hd a = u at *
  unfold p_act at hp
  intro i hi0 hi1
  have hvi := hv i hi0 hi1
  unfold p_move
  split
  · next q =>
    have ht := ht q
    have hvt := hv (k_taker a) q (by omega)
    split
    · next q2 =>
      have hg := hg q2
      have hvg := hv (k_giver a) q2 (by omega)
      unfold uf
      split
      · next q3 => subst q3; rw [if_neg (by omega)]; omega
      · split
        · next q4 => subst q4; omega
        · omega
    · unfold uf
      split
      · next q3 => subst q3; omega
      · omega
  · split
    · next q2 =>
      have hg := hg q2
      have hvg := hv (k_giver a) q2 (by omega)
      unfold uf
      split
      · next q3 => subst q3; omega
      · omega
    · omega
/-- moves between numbers of states (the reference) -/
def mvM (n tp dr : Int) (rm : Int → Int) (x a : Int) : Int := p_mv n tp dr rm (DG n rm x) a
def nxM (n tp dr : Int) (rm : Int → Int) (x a : Int) : Int := if 0 < mvM n tp dr rm x a then nT rm (p_move (DG n rm x) a (mvM n tp dr rm x a)) n else -1
def spM (n tp dr : Int) (rm : Int → Int) (x a : Int) : Int := if 0 < mvM n tp dr rm x a then (if 4 ≤ a ∧ a < 8 then mvM n tp dr rm x a else 0) else 0
theorem nxM_r {n tp dr : Int} {rm : Int → Int} (h : Rm n rm) (x a : Int) : nxM n tp dr rm x a = -1 ∨ (0 ≤ nxM n tp dr rm x a ∧ nxM n tp dr rm x a < mT rm n) := by
  unfold nxM
  split
  · next q => exact Or.inr (nT_r h.1 (move_v (DG_v h x) q))
  · exact Or.inl rfl
theorem mvM_r {n tp dr : Int} {rm : Int → Int} (h : Rm n rm) (x a : Int) : 0 ≤ mvM n tp dr rm x a ∧ mvM n tp dr rm x a ≤ 10 := p_mv_nn' h.2.2 (DG_v h x) a
theorem spM_r {n tp dr : Int} {rm : Int → Int} (h : Rm n rm) (x a : Int) : 0 ≤ spM n tp dr rm x a ∧ spM n tp dr rm x a ≤ 10 := by
  have := mvM_r (tp := tp) (dr := dr) h x a
  unfold spM
  split
  · split <;> omega
  · omega
theorem p_mv_lay (n tp dr : Int) (rm hs : Int → Int) (x a : Int) : p_mv n tp dr rm (p_lay n rm hs x) a = mvM n tp dr rm x a := p_mv_congr (fun _ _ _ => rfl) (fun _ h0 h => p_lay_DG h0 h) a
theorem nx_eq {n tp dr : Int} {rm hs : Int → Int} {x a : Int} (h : 0 < mvM n tp dr rm x a) : nT rm (p_do (p_lay n rm hs x) a (mvM n tp dr rm x a)) n = nxM n tp dr rm x a := by
  unfold nxM p_do
  rw [if_pos h, if_pos h]
  exact nT_congr (fun i h0 h1 => p_move_congr (fun _ a b => p_lay_DG a b) (p_mv_pos_act h).2.2 h0 h1)
theorem lay_v {n : Int} {rm : Int → Int} (h : Rm n rm) (hs : Int → Int) (x : Int) : Vh n rm (p_lay n rm hs x) := fun i h0 h1 => by
  rw [p_lay_DG h0 h1]
  exact DG_v h x i h0 h1
/-- the tables of moves stand up to a place -/
def LA (n tp dr : Int) (rm p14 p15 : Int → Int) (z : Int) : Prop := ∀ s b, 0 ≤ s → 0 ≤ b → b < 24 → 24 * s + b < z → p14 (24 * s + b) = nxM n tp dr rm s b ∧ p15 (24 * s + b) = spM n tp dr rm s b
theorem LA_s {n tp dr : Int} {rm p14 p15 : Int → Int} {x a : Int} (h : LA n tp dr rm p14 p15 (24 * x + a)) (ha : 0 ≤ a) (ha2 : a < 24) {t u : Int} (ht : t = nxM n tp dr rm x a) (hu : u = spM n tp dr rm x a) : LA n tp dr rm (uf p14 (24 * x + a) t) (uf p15 (24 * x + a) u) (24 * x + (a + 1)) := by
  intro s b hs hb hb2 hz
  by_cases e : 24 * s + b = 24 * x + a
  · have e1 : s = x := by omega
    have e2 : b = a := by omega
    subst e1; subst e2
    rw [uf_same, uf_same]
    exact ⟨ht, hu⟩
  · rw [uf_ne _ _ e, uf_ne _ _ e]
    exact h s b hs hb hb2 (by omega)
theorem Tok_of {I : Nat → Int} {A : Nat → Int → Int} (h : Rm (I 7) (A 8)) (h10 : I 10 = 0 ∨ I 10 = 1) (h11 : I 11 = 0 ∨ I 11 = 1) (hv : Vh (I 7) (A 8) (A 9)) : Tok I A := ⟨h.1, h.2.1, h10, h11, h.2.2, hv⟩
