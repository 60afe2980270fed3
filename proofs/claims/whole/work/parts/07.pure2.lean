/-! ===== pure words: the reference's own ===== -/
def p_in (v a b : Int) : Int := if a ≤ v ∧ v ≤ b then 1 else 0
theorem p_in_r (v a b : Int) : p_in v a b = 0 ∨ p_in v a b = 1 := by unfold p_in; split <;> omega
theorem p_in_1 {v a b : Int} (h : ¬ p_in v a b = 0) : a ≤ v ∧ v ≤ b := by
  unfold p_in at h
  split at h
  · assumption
  · omega
theorem p_in_0 {v a b : Int} (h : p_in v a b = 0) : ¬ (a ≤ v ∧ v ≤ b) := by
  unfold p_in at h
  split at h
  · omega
  · assumption
def cpN (n : Int) (f g : Int → Int) : Int → Int := fun j => if 0 ≤ j ∧ j < n then f j else g j
theorem cpN_s (f g : Int → Int) {i : Int} (h : 0 ≤ i) : uf (cpN i f g) i (f i) = cpN (i + 1) f g := by
  funext j
  unfold uf cpN
  by_cases hj : j = i
  · subst hj
    rw [if_pos rfl, if_pos (by omega)]
  · rw [if_neg hj]
    by_cases h2 : 0 ≤ j ∧ j < i
    · rw [if_pos h2, if_pos (by omega)]
    · rw [if_neg h2, if_neg (by omega)]
theorem cpN_0 (f g : Int → Int) : cpN 0 f g = g := by
  funext j
  unfold cpN
  rw [if_neg (by omega)]
/-- the number of a state, from the first jug on -/
def nN (rm hs : Int → Int) : Nat → Int
  | 0 => 0
  | k + 1 => nN rm hs k * (rm k + 1) + hs k
def nT (rm hs : Int → Int) (i : Int) : Int := nN rm hs i.toNat
theorem nT_s (rm hs : Int → Int) {i : Int} (h : 0 ≤ i) : nT rm hs (i + 1) = nT rm hs i * (rm i + 1) + hs i := by
  unfold nT
  have h1 : (i + 1).toNat = i.toNat + 1 := by omega
  rw [h1, nN, Int.toNat_of_nonneg h]
/-- how many states there are -/
def mN (rm : Int → Int) : Nat → Int
  | 0 => 1
  | k + 1 => mN rm k * (rm k + 1)
def mT (rm : Int → Int) (i : Int) : Int := mN rm i.toNat
theorem mT_s (rm : Int → Int) {i : Int} (h : 0 ≤ i) : mT rm (i + 1) = mT rm i * (rm i + 1) := by
  unfold mT
  have h1 : (i + 1).toNat = i.toNat + 1 := by omega
  rw [h1, mN, Int.toNat_of_nonneg h]
def rv (n : Int) (f : Int → Int) : Int → Int := fun j => f (n - 1 - j)
/-- what is held in the state of that number; digits from the last jug on, those from i on are laid -/
def p_layI (n i : Int) (rm hs : Int → Int) (x : Int) : Int → Int := fun j => if i ≤ j ∧ j < n then rT (rv n rm) x (n - 1 - j) % (rm j + 1) else hs j
theorem p_layI_s (n : Int) (rm hs : Int → Int) (x : Int) {i : Int} (h : 0 ≤ i) (hn : i < n) : uf (p_layI n (i + 1) rm hs x) i (rT (rv n rm) x (n - 1 - i) % (rm i + 1)) = p_layI n i rm hs x := by
  funext j
  unfold uf p_layI
  by_cases hj : j = i
  · subst hj
    rw [if_pos rfl, if_pos (by omega)]
  · rw [if_neg hj]
    by_cases h2 : i + 1 ≤ j ∧ j < n
    · rw [if_pos h2, if_pos (by omega)]
    · rw [if_neg h2, if_neg (by omega)]
def p_lay (n : Int) (rm hs : Int → Int) (x : Int) : Int → Int := p_layI n 0 rm hs x
/-- the trial's jugs are in order -/
def Tok (I : Nat → Int) (A : Nat → Int → Int) : Prop := 0 ≤ I 7 ∧ I 7 ≤ 4 ∧ (I 10 = 0 ∨ I 10 = 1) ∧ (I 11 = 0 ∨ I 11 = 1) ∧ (∀ i, 0 ≤ i → i < I 7 → 1 ≤ A 8 i ∧ A 8 i ≤ 10) ∧ (∀ i, 0 ≤ i → i < I 7 → 0 ≤ A 9 i ∧ A 9 i ≤ A 8 i)
/-- the reference's own jugs and glasses are in order -/
def Mok (I : Nat → Int) (A : Nat → Int → Int) : Prop := 0 ≤ I 0 ∧ I 0 ≤ 4 ∧ (I 3 = 0 ∨ I 3 = 1) ∧ (I 4 = 0 ∨ I 4 = 1) ∧ (∀ i, 0 ≤ i → i < I 0 → 1 ≤ A 1 i ∧ A 1 i ≤ 10) ∧ (∀ i, 0 ≤ i → i < I 0 → 0 ≤ A 2 i ∧ A 2 i ≤ A 1 i) ∧ 0 ≤ I 5 ∧ I 5 ≤ 3 ∧ (∀ i, 0 ≤ i → i < I 5 → 1 ≤ A 6 i ∧ A 6 i ≤ 12)
def p_do (hd : Int → Int) (a u : Int) : Int → Int := if 0 < u then p_move hd a u else hd
theorem k_acts {a : Int} (h0 : 0 ≤ a) (h : a < 24) : (a < 4 → k_taker a = a % 4 ∧ k_giver a = -1) ∧ (4 ≤ a → a < 8 → k_giver a = a % 4 ∧ k_taker a = -1) ∧ (8 ≤ a → k_giver a = (a - 8) / 4 ∧ k_taker a = a % 4) := by
  have key : ∀ j : Nat, j < 24 → ((j : Int) < 4 → k_taker j = j % 4 ∧ k_giver j = -1) ∧ (4 ≤ (j : Int) → (j : Int) < 8 → k_giver j = j % 4 ∧ k_taker j = -1) ∧ (8 ≤ (j : Int) → k_giver j = (j - 8) / 4 ∧ k_taker j = j % 4) := by decide
  have := key a.toNat (by omega)
  rwa [Int.toNat_of_nonneg h0] at this
/-- which moves there are: the act's jugs are there -/
def p_act (n a : Int) : Prop := k_giver a < n ∧ k_taker a < n ∧ k_giver a ≠ k_taker a
theorem p_mv_act {n tp dr : Int} {sz hd : Int → Int} {a : Int} (h0 : 0 ≤ a) (h : a < 24) (hp : p_act n a) : p_mv n tp dr sz hd a = if p_there tp hd (k_giver a) < p_room dr sz hd (k_taker a) then p_there tp hd (k_giver a) else p_room dr sz hd (k_taker a) := by
  unfold p_mv
  unfold p_act at hp
  rw [if_neg (by omega), if_neg (by omega)]
theorem p_mv_no {n tp dr : Int} {sz hd : Int → Int} {a : Int} (hp : ¬ p_act n a) : p_mv n tp dr sz hd a = 0 := by
  unfold p_mv
  unfold p_act at hp
  split
  · rfl
  · rw [if_pos (by omega)]
theorem do_fill (hd : Int → Int) {a u : Int} (h0 : 0 ≤ a) (h : a < 4) (hu : 0 ≤ u) : uf hd (a % 4) (hd (a % 4) + u) = p_do hd a u := by
  obtain ⟨k1, k2⟩ := (k_acts h0 (by omega)).1 h
  unfold p_do p_move
  split
  · rw [if_pos (by omega), if_neg (by omega), k1]
  · have : u = 0 := by omega
    subst this
    funext j
    unfold uf
    split
    · next q => rw [q]; omega
    · rfl
theorem do_empty (hd : Int → Int) {a u : Int} (h0 : 4 ≤ a) (h : a < 8) (hu : 0 ≤ u) : uf hd (a % 4) (hd (a % 4) - u) = p_do hd a u := by
  obtain ⟨k1, k2⟩ := (k_acts (by omega) (by omega)).2.1 h0 h
  unfold p_do p_move
  split
  · rw [if_neg (by omega), if_pos (by omega), k1]
  · have : u = 0 := by omega
    subst this
    funext j
    unfold uf
    split
    · next q => rw [q]; omega
    · rfl
theorem do_pour (hd : Int → Int) {a u : Int} (h0 : 8 ≤ a) (h : a < 24) (hne : (a - 8) / 4 ≠ a % 4) (hu : 0 ≤ u) : uf (uf hd ((a - 8) / 4) (hd ((a - 8) / 4) - u)) (a % 4) (uf hd ((a - 8) / 4) (hd ((a - 8) / 4) - u) (a % 4) + u) = p_do hd a u := by
  obtain ⟨k1, k2⟩ := (k_acts (by omega) h).2.2 h0
  unfold p_do p_move
  split
  · rw [if_pos (by omega), if_pos (by omega), k1, k2]
  · have : u = 0 := by omega
    subst this
    funext j
    unfold uf
    split
    · next q =>
      rw [q]
      split
      · next q2 => omega
      · omega
    · split
      · next q2 => rw [q2]; omega
      · rfl
theorem p_mv_congr {n tp dr : Int} {sz sz2 hd hd2 : Int → Int} (hs : ∀ i, 0 ≤ i → i < n → sz i = sz2 i) (hh : ∀ i, 0 ≤ i → i < n → hd i = hd2 i) (a : Int) : p_mv n tp dr sz hd a = p_mv n tp dr sz2 hd2 a := by
  unfold p_mv
  split
  · rfl
  · split
    · rfl
    · have e1 : p_there tp hd (k_giver a) = p_there tp hd2 (k_giver a) := by
        unfold p_there
        split
        · exact hh _ (by omega) (by omega)
        · rfl
      have e2 : p_room dr sz hd (k_taker a) = p_room dr sz2 hd2 (k_taker a) := by
        unfold p_room
        split
        · rw [hh _ (by omega) (by omega), hs _ (by omega) (by omega)]
        · rfl
      rw [e1, e2]
theorem cpN_in {n : Int} {f g : Int → Int} {j : Int} (h0 : 0 ≤ j) (h : j < n) : cpN n f g j = f j := by
  unfold cpN
  rw [if_pos ⟨h0, h⟩]
theorem p_mv_cp (n tp dr : Int) (sz s2 hd h2 : Int → Int) (a : Int) : p_mv n tp dr (cpN n sz s2) (cpN n hd h2) a = p_mv n tp dr sz hd a :=
  p_mv_congr (fun _ h0 h => cpN_in h0 h) (fun _ h0 h => cpN_in h0 h) a
theorem p_move_congr {n : Int} {hd hd2 : Int → Int} (hh : ∀ i, 0 ≤ i → i < n → hd i = hd2 i) {a u j : Int} (hp : p_act n a) (h0 : 0 ≤ j) (h : j < n) : p_move hd a u j = p_move hd2 a u j := by
  unfold p_act at hp
  unfold p_move
  split
  · split
    · unfold uf
      split
      · split
        · rw [hh _ (by omega) (by omega)]
        · rw [hh _ (by omega) (by omega)]
      · split
        · rw [hh _ (by omega) (by omega)]
        · exact hh _ h0 h
    · unfold uf
      split
      · rw [hh _ (by omega) (by omega)]
      · exact hh _ h0 h
  · split
    · unfold uf
      split
      · rw [hh _ (by omega) (by omega)]
      · exact hh _ h0 h
    · exact hh _ h0 h
theorem Tok_own {I : Nat → Int} {A : Nat → Int → Int} (h : Mok I A) : Tok (va_up (va_up (va_up I 7 (I 0)) 10 (I 3)) 11 (I 4)) (va_up (va_up A 8 (cpN (I 0) (A 1) (A 8))) 9 (cpN (I 0) (A 2) (A 9))) := by
  obtain ⟨h1, h2, h3, h4, h5, h6, -⟩ := h
  refine ⟨h1, h2, h3, h4, ?_, ?_⟩
  · intro i hi hn
    have hn : i < I 0 := hn
    show 1 ≤ cpN (I 0) (A 1) (A 8) i ∧ cpN (I 0) (A 1) (A 8) i ≤ 10
    rw [cpN_in hi hn]
    exact h5 i hi hn
  · intro i hi hn
    have hn : i < I 0 := hn
    show 0 ≤ cpN (I 0) (A 2) (A 9) i ∧ cpN (I 0) (A 2) (A 9) i ≤ cpN (I 0) (A 1) (A 8) i
    rw [cpN_in hi hn, cpN_in hi hn]
    exact h6 i hi hn
/-- what the reference holds for its own stays -/
def RS (I I' : Nat → Int) (A A' : Nat → Int → Int) : Prop := I' 0 = I 0 ∧ I' 3 = I 3 ∧ I' 4 = I 4 ∧ I' 5 = I 5 ∧ A' 1 = A 1 ∧ A' 2 = A 2 ∧ A' 6 = A 6
theorem RS.tr {I I1 I2 : Nat → Int} {A A1 A2 : Nat → Int → Int} (h : RS I I1 A A1) (h2 : RS I1 I2 A1 A2) : RS I I2 A A2 := by
  obtain ⟨a1, a2, a3, a4, a5, a6, a7⟩ := h
  obtain ⟨b1, b2, b3, b4, b5, b6, b7⟩ := h2
  exact ⟨b1.trans a1, b2.trans a2, b3.trans a3, b4.trans a4, b5.trans a5, b6.trans a6, b7.trans a7⟩
theorem RS.mok {I I' : Nat → Int} {A A' : Nat → Int → Int} (h : RS I I' A A') (hm : Mok I A) : Mok I' A' := by
  obtain ⟨a1, a2, a3, a4, a5, a6, a7⟩ := h
  unfold Mok
  rw [a1, a2, a3, a4, a5, a6, a7]
  exact hm
section AN
variable {p : Program} {l : Launch} {e : Env} {Rm : Room} {s : State} {m : MethodId} {args : Array Value} {below : List Frame} {meth : Method} {c : Code} {H : Heap} {locs : List Loc} {cells slots : Nat} {Q : State → Prop}
variable {cc : ByteArray} {pc : Nat} {ls : Array Slot} {rest : List Value}
theorem j_irem_any (hexec : p.tables.exec = Jvm.exec) (hb : c.code = cc) {x y : Int} (hy : 0 < y) (hy2 : y < 2147483648) (hdg : decode cc pc = .ok (.irem, 1)) (k : ∀ z : Int, i32 z → (0 ≤ x → x < 2147483648 → z = x % y) → W p l e Rm s m args below meth c H locs cells slots Q (F0 m (pc + 1) ls (.int (J z) :: rest))) : W p l e Rm s m args below meth c H locs cells slots Q (F0 m pc ls (.int (J y) :: .int (J x) :: rest)) := by
  refine lv_irem hexec hb hdg ?_ ?_
  · rw [J_zero, J_eq ⟨by omega, by omega⟩ ⟨by omega, by omega⟩]
    omega
  · by_cases h0 : 0 ≤ x ∧ x < 2147483648
    · rw [J_rem h0.1 h0.2 hy hy2]
      have h1 := Int.emod_nonneg x (show y ≠ 0 by omega)
      have h2 := Int.emod_lt_of_pos x hy
      exact k _ ⟨by omega, by omega⟩ (fun _ _ => rfl)
    · obtain ⟨z, hz, e1⟩ := J_of (J x - J x / J y * J y)
      rw [e1]
      exact k z hz (fun a b => absurd ⟨a, b⟩ h0)
end AN
theorem if01_r (u : Int) : i32 (if 0 < u then 1 else 0) := by split <;> exact ⟨by decide, by decide⟩
theorem if01_p {u : Int} (h : ¬ (if 0 < u then (1 : Int) else 0) = 0) : 0 < u := by
  split at h
  · assumption
  · omega
theorem if01_n {u : Int} (h : (if 0 < u then (1 : Int) else 0) = 0) : ¬ 0 < u := by
  split at h
  · omega
  · assumption
theorem p_mv_nn' {n tp dr : Int} {sz hd : Int → Int} (h5 : ∀ i, 0 ≤ i → i < n → 1 ≤ sz i ∧ sz i ≤ 10) (h6 : ∀ i, 0 ≤ i → i < n → 0 ≤ hd i ∧ hd i ≤ sz i) (a : Int) : 0 ≤ p_mv n tp dr sz hd a ∧ p_mv n tp dr sz hd a ≤ 10 := by
  unfold p_mv
  split
  · omega
  · split
    · omega
    · have h1 : 0 ≤ p_there tp hd (k_giver a) ∧ p_there tp hd (k_giver a) ≤ 10 := by
        unfold p_there
        split
        · have h7 := h5 (k_giver a) (by omega) (by omega)
          have h8 := h6 (k_giver a) (by omega) (by omega)
          omega
        · split <;> omega
      have h2 : 0 ≤ p_room dr sz hd (k_taker a) ∧ p_room dr sz hd (k_taker a) ≤ 10 := by
        unfold p_room
        split
        · have h7 := h5 (k_taker a) (by omega) (by omega)
          have h8 := h6 (k_taker a) (by omega) (by omega)
          omega
        · split <;> omega
      split <;> omega
theorem p_mv_nn {I : Nat → Int} {A : Nat → Int → Int} (h : Mok I A) (a : Int) : 0 ≤ p_mv (I 0) (I 3) (I 4) (A 1) (A 2) a := (p_mv_nn' h.2.2.2.2.1 h.2.2.2.2.2.1 a).1
