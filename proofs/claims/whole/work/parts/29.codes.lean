/-! ===== pure: the class's codes ===== -/
def DC (sz : Int → Int) (x : Int) : Int → Int := fun j => rT sz x j % (sz j + 1)
theorem p_stand_DC {n : Int} {sz hd : Int → Int} {x j : Int} (h0 : 0 ≤ j) (h : j < n) : p_stand n sz hd x j = DC sz x j := by
  unfold p_stand DC
  rw [if_pos ⟨h0, h⟩]
theorem DC_v {n : Int} {sz : Int → Int} (h : Rm n sz) (x : Int) : Vh n sz (DC sz x) := by
  intro i h0 h1
  have h2 := h.2.2 i h0 h1
  unfold DC
  have h3 := Int.emod_nonneg (rT sz x i) (show sz i + 1 ≠ 0 by omega)
  have h4 := Int.emod_lt_of_pos (rT sz x i) (show 0 < sz i + 1 by omega)
  omega
/-- the code of what is held -/
def cC (n : Int) (sz hd : Int → Int) : Int := sT (fun j => hd j * mT sz j) n
theorem mT_0 (sz : Int → Int) : mT sz 0 = 1 := rfl
theorem mT_nn {sz : Int → Int} {i : Int} (h : ∀ j, 0 ≤ j → j < i → 1 ≤ sz j) : 1 ≤ mT sz i := by
  unfold mT
  exact mN_pos _ (fun j a b => h j a (by omega))
theorem cC_r {n : Int} {sz hd : Int → Int} (hr : Rm n sz) (hv : Vh n sz hd) : 0 ≤ cC n sz hd ∧ cC n sz hd < mT sz n := by
  have key : ∀ k : Nat, (k : Int) ≤ n → 0 ≤ sT (fun j => hd j * mT sz j) k ∧ sT (fun j => hd j * mT sz j) k < mT sz k := by
    intro k
    induction k with
    | zero => intro _; show (0 : Int) ≤ 0 ∧ (0 : Int) < 1; omega
    | succ k ih =>
      intro hk
      have h1 := ih (by omega)
      have h2 := hv k (by omega) (by omega)
      have h3 := mT_nn (sz := sz) (i := (k : Int)) (fun j a b => (hr.2.2 j a (by omega)).1)
      have e : ((k + 1 : Nat) : Int) = (k : Int) + 1 := by omega
      rw [e, sT_s _ (by omega), mT_s _ (by omega)]
      have h4 : hd k * mT sz k ≤ sz k * mT sz k := Int.mul_le_mul_of_nonneg_right h2.2 (by omega)
      have h5 : 0 ≤ hd k * mT sz k := Int.mul_nonneg h2.1 (by omega)
      have h6 : mT sz k * (sz k + 1) = sz k * mT sz k + mT sz k := by rw [Int.mul_add, Int.mul_one, Int.mul_comm]
      rw [h6]
      omega
  have := key n.toNat (by have := hr.1; omega)
  rwa [Int.toNat_of_nonneg hr.1] at this
theorem cC_congr {n : Int} {sz hd hd2 : Int → Int} (h : ∀ i, 0 ≤ i → i < n → hd i = hd2 i) : cC n sz hd = cC n sz hd2 := by
  have key : ∀ k : Nat, (k : Int) ≤ n → sN (fun j => hd j * mT sz j) k = sN (fun j => hd2 j * mT sz j) k := by
    intro k
    induction k with
    | zero => intro _; rfl
    | succ k ih => intro hk; rw [sN, sN, ih (by omega), h k (by omega) (by omega)]
  unfold cC sT
  by_cases h0 : 0 ≤ n
  · exact key _ (by omega)
  · rw [show n.toNat = 0 by omega]; rfl
theorem rT_nn {sz : Int → Int} {x : Int} (hx : 0 ≤ x) {n i : Int} (hr : Rm n sz) (h0 : 0 ≤ i) (h1 : i ≤ n) : 0 ≤ rT sz x i := by
  have key : ∀ k : Nat, (k : Int) ≤ n → 0 ≤ rN sz x k := by
    intro k
    induction k with
    | zero => intro _; exact hx
    | succ k ih =>
      intro hk
      rw [rN]
      have := hr.2.2 k (by omega) (by omega)
      exact Int.ediv_nonneg (ih (by omega)) (by omega)
  unfold rT
  exact key _ (by omega)
theorem cC_dig {n : Int} {sz : Int → Int} (hr : Rm n sz) {x : Int} (h0 : 0 ≤ x) (h1 : x < mT sz n) : cC n sz (DC sz x) = x := by
  have key : ∀ k : Nat, (k : Int) ≤ n → x = sT (fun j => DC sz x j * mT sz j) k + rT sz x k * mT sz k := by
    intro k
    induction k with
    | zero => intro _; show x = 0 + x * 1; omega
    | succ k ih =>
      intro hk
      have h2 := ih (by omega)
      have e : ((k + 1 : Nat) : Int) = (k : Int) + 1 := by omega
      rw [e, sT_s _ (by omega), mT_s _ (by omega), rT_s _ _ (by omega)]
      have h3 : rT sz x k = (sz k + 1) * (rT sz x k / (sz k + 1)) + rT sz x k % (sz k + 1) := (Int.mul_ediv_add_emod _ _).symm
      have h4 : rT sz x k * mT sz k = (rT sz x k / (sz k + 1)) * (mT sz k * (sz k + 1)) + DC sz x k * mT sz k := by
        unfold DC
        conv => lhs; rw [h3]
        rw [Int.add_mul]
        congr 1
        rw [Int.mul_comm (sz k + 1), Int.mul_assoc, Int.mul_comm (sz k + 1)]
      rw [h4] at h2
      omega
  have h2 := key n.toNat (by have := hr.1; omega)
  rw [Int.toNat_of_nonneg hr.1] at h2
  have h3 := rT_nn h0 hr hr.1 (Int.le_refl n)
  have h4 := mT_nn (sz := sz) (i := n) (fun j a b => (hr.2.2 j a b).1)
  have h5 : 0 ≤ sT (fun j => DC sz x j * mT sz j) n := (cC_r hr (DC_v hr x)).1
  have h6 : rT sz x n = 0 := by
    by_cases e : rT sz x n = 0
    · exact e
    · exfalso
      have : 1 * mT sz n ≤ rT sz x n * mT sz n := Int.mul_le_mul_of_nonneg_right (by omega) (by omega)
      omega
  rw [h6, Int.zero_mul, Int.add_zero] at h2
  exact h2.symm
theorem cC_uf {n : Int} {sz hd : Int → Int} {k v : Int} (h0 : 0 ≤ k) (h1 : k < n) : cC n sz (uf hd k v) = cC n sz hd + (v - hd k) * mT sz k := by
  unfold cC
  have e : (fun j => uf hd k v j * mT sz j) = uf (fun j => hd j * mT sz j) k (v * mT sz k) := by
    funext j
    unfold uf
    split
    · next q => rw [q]
    · rfl
  rw [e, sT_uf _ _ _ h0 h1, Int.sub_mul]
theorem cC_move {n : Int} {sz hd : Int → Int} {a u : Int} (hp : p_act n a) : cC n sz (p_move hd a u) = cC n sz hd + u * (p_wt (mT sz) (k_taker a) - p_wt (mT sz) (k_giver a)) := by
  unfold p_act at hp
  unfold p_move p_wt
  rw [Int.mul_sub]
  split
  · split
    · rw [cC_uf (by omega) (by omega), cC_uf (by omega) (by omega), uf_ne _ _ (fun z => hp.2.2 z.symm)]
      rw [show hd (k_taker a) + u - hd (k_taker a) = u by omega, show hd (k_giver a) - u - hd (k_giver a) = -u by omega, Int.neg_mul]
      omega
    · rw [cC_uf (by omega) (by omega), show hd (k_taker a) + u - hd (k_taker a) = u by omega]
      omega
  · split
    · rw [cC_uf (by omega) (by omega), show hd (k_giver a) - u - hd (k_giver a) = -u by omega, Int.neg_mul]
      omega
    · omega
def mvC (n tp dr : Int) (sz : Int → Int) (x a : Int) : Int := p_mv n tp dr sz (DC sz x) a
def nxC (n tp dr : Int) (sz : Int → Int) (x a : Int) : Int := if 0 < mvC n tp dr sz x a then cC n sz (p_move (DC sz x) a (mvC n tp dr sz x a)) else x
def spC (sz : Int → Int) (x a : Int) : Int := p_spilt (DC sz x) a
theorem mvC_r {n tp dr : Int} {sz : Int → Int} (h : Rm n sz) (x a : Int) : 0 ≤ mvC n tp dr sz x a ∧ mvC n tp dr sz x a ≤ 10 := p_mv_nn' h.2.2 (DC_v h x) a
theorem nxC_r {n tp dr : Int} {sz : Int → Int} (h : Rm n sz) {x : Int} (h0 : 0 ≤ x) (h1 : x < mT sz n) (a : Int) : 0 ≤ nxC n tp dr sz x a ∧ nxC n tp dr sz x a < mT sz n := by
  unfold nxC
  split
  · next q => exact cC_r h (move_v (DC_v h x) q)
  · exact ⟨h0, h1⟩
/-- the weights are those of the sizes -/
def Wok (I : Nat → Int) (A : Nat → Int → Int) : Prop := Rm (I 0) (A 4) ∧ (I 2 = 0 ∨ I 2 = 1) ∧ (I 3 = 0 ∨ I 3 = 1) ∧ I 1 = mT (A 4) (I 0) ∧ (∀ i, 0 ≤ i → i < I 0 → A 6 i = mT (A 4) i) ∧ ∀ i, 0 ≤ i → i < 4 → 0 ≤ A 5 i ∧ A 5 i ≤ 10
theorem p_wt_congr {n : Int} {w w2 : Int → Int} (h : ∀ i, 0 ≤ i → i < n → w i = w2 i) {k : Int} (hk : k < n) : p_wt w k = p_wt w2 k := by
  unfold p_wt
  split
  · exact h k (by omega) hk
  · rfl
theorem shift_eq {n tp dr : Int} {sz hd wt : Int → Int} (hr : Rm n sz) (hw : ∀ i, 0 ≤ i → i < n → wt i = mT sz i) {x : Int} (h0 : 0 ≤ x) (h1 : x < mT sz n) (a : Int) : x + p_shift n tp dr sz (p_stand n sz hd x) wt a = nxC n tp dr sz x a := by
  have e : p_mv n tp dr sz (p_stand n sz hd x) a = mvC n tp dr sz x a := p_mv_congr (fun _ _ _ => rfl) (fun _ a b => p_stand_DC a b) a
  have hm := mvC_r (tp := tp) (dr := dr) hr x a
  unfold p_shift nxC
  rw [e]
  split
  · next q => rw [if_neg (by omega)]; omega
  · rw [if_pos (by omega)]
    have hp : p_act n a := (p_mv_pos_act (show 0 < p_mv n tp dr sz (DC sz x) a by unfold mvC at *; omega)).2.2
    rw [cC_move hp, cC_dig hr h0 h1, p_wt_congr hw hp.1, p_wt_congr hw hp.2.1]
theorem Jok_of {I : Nat → Int} {A : Nat → Int → Int} {f : Int → Int} (h : Wok I A) (hf : Vh (I 0) (A 4) f) : Jok I (va_up A 5 f) := by
  obtain ⟨h1, h2, h3, h4, h5, h6⟩ := h
  have hm := mT_r h1
  refine ⟨h1.1, h1.2.1, h2, h3, h1.2.2, hf, fun i a b => ?_, by omega, by omega⟩
  show 1 ≤ A 6 i ∧ A 6 i ≤ 1331
  rw [h5 i a b]
  refine ⟨mT_nn (fun j c d => (h1.2.2 j c (by omega)).1), ?_⟩
  have h7 := mN_le (rm := A 4) i.toNat (fun j c d => h1.2.2 j c (by omega))
  have h8 : ∀ k : Nat, k < 4 → (11 : Int) ^ k ≤ 1331 := by decide
  have h9 := h8 i.toNat (by have := h1.2.1; omega)
  unfold mT
  omega
theorem stand_v {n : Int} {sz hd : Int → Int} (h : Rm n sz) (x : Int) : Vh n sz (p_stand n sz hd x) := fun i h0 h1 => by
  rw [p_stand_DC h0 h1]
  exact DC_v h x i h0 h1
theorem stand_r {n : Int} {sz hd : Int → Int} (h : Rm n sz) (hh : ∀ i, 0 ≤ i → i < 4 → 0 ≤ hd i ∧ hd i ≤ 10) (x : Int) : ∀ i, 0 ≤ i → i < 4 → 0 ≤ p_stand n sz hd x i ∧ p_stand n sz hd x i ≤ 10 := by
  intro i h0 h1
  by_cases q : i < n
  · have h2 := stand_v (hd := hd) h x i h0 q
    have h3 := h.2.2 i h0 q
    omega
  · unfold p_stand
    rw [if_neg (by omega)]
    exact hh i h0 h1
/-! ===== pure: a tour ===== -/
def TB (N M : Int) (nx : Int → Int → Int) (ok : Int → Int → Bool) (x0 : Int) (fo lv ca : Int → Int) (r z : Int) (pp : Int → Int) : Prop :=
  1 ≤ r ∧ r ≤ N ∧ fo 0 = x0 ∧ lv x0 = 0 ∧ (∀ k, 0 ≤ k → k < r → 0 ≤ fo k ∧ fo k < N ∧ 0 ≤ lv (fo k) ∧ lv (fo k) ≤ k) ∧ (∀ y, 0 ≤ y → y < M → lv y = -1 ∨ ∃ k, 0 ≤ k ∧ k < r ∧ fo k = y) ∧ (∀ j k, 0 ≤ j → j < k → k < r → fo j ≠ fo k) ∧
  (∀ k, 1 ≤ k → k < r → 0 ≤ pp k ∧ pp k < z ∧ pp k / 24 < k ∧ ok (fo (pp k / 24)) (pp k % 24) = true ∧ fo k = nx (fo (pp k / 24)) (pp k % 24) ∧ lv (fo k) = lv (fo (pp k / 24)) + 1 ∧ ca (fo k) = fo (pp k / 24) * 32 + pp k % 24) ∧
  (∀ j k, 1 ≤ j → j < k → k < r → pp j < pp k) ∧ (∀ j a, 0 ≤ j → j < r → 0 ≤ a → a < 24 → 24 * j + a < z → ok (fo j) a = true → ∃ k, 0 ≤ k ∧ k < r ∧ fo k = nx (fo j) a ∧ (k = 0 ∨ pp k ≤ 24 * j + a))
theorem TB_0 {N M : Int} {nx : Int → Int → Int} {ok : Int → Int → Bool} {x0 : Int} {fo lv ca pp : Int → Int} (h0 : 0 ≤ x0) (h1 : x0 < N) (hM : N ≤ M) (hf : fo 0 = x0) (hl : ∀ j, 0 ≤ j → j < M → lv j = if j = x0 then 0 else -1) : TB N M nx ok x0 fo lv ca 1 0 pp := by
  have hx : lv x0 = 0 := by rw [hl x0 h0 (by omega), if_pos rfl]
  refine ⟨by omega, by omega, hf, hx, fun k k0 k1 => ?_, fun y y0 y1 => ?_, fun j k _ _ _ => by omega, fun k _ _ => by omega, fun j k _ _ _ => by omega, fun j a _ _ _ _ _ => by omega⟩
  · have e : k = 0 := by omega
    subst e
    rw [hf]
    omega
  · rw [hl y y0 y1]
    by_cases e : y = x0
    · exact Or.inr ⟨0, by omega, by omega, by rw [hf, e]⟩
    · exact Or.inl (if_neg e)
theorem TB_no {N M : Int} {nx : Int → Int → Int} {ok : Int → Int → Bool} {x0 : Int} {fo lv ca pp : Int → Int} {r x a : Int} (h : TB N M nx ok x0 fo lv ca r (24 * x + a) pp) (hNM : N ≤ M) (hn : 0 ≤ nx (fo x) a ∧ nx (fo x) a < N) (a0 : 0 ≤ a) (a1 : a < 24) (hc : ok (fo x) a = true → 0 ≤ lv (nx (fo x) a)) : TB N M nx ok x0 fo lv ca r (24 * x + (a + 1)) pp := by
  obtain ⟨h1, h2, h3, h4, h5, h6, h7, h8, h9, h10⟩ := h
  refine ⟨h1, h2, h3, h4, h5, h6, h7, fun k k1 k2 => ?_, h9, fun j b j0 j1 b0 b1 hz hok => ?_⟩
  · have := h8 k k1 k2
    exact ⟨this.1, by omega, this.2.2⟩
  · by_cases e : 24 * j + b = 24 * x + a
    · have e1 : j = x := by omega
      have e2 : b = a := by omega
      subst e1; subst e2
      rcases h6 (nx (fo j) b) hn.1 (by omega) with w | ⟨k, k0, k1, k2⟩
      · have := hc hok; omega
      · refine ⟨k, k0, k1, k2, ?_⟩
        by_cases e3 : k = 0
        · exact Or.inl e3
        · have := h8 k (by omega) k1
          exact Or.inr (by omega)
    · exact h10 j b j0 j1 b0 b1 (by omega) hok
theorem TB_lt {N M : Int} {nx : Int → Int → Int} {ok : Int → Int → Bool} {x0 : Int} {fo lv ca pp : Int → Int} {r z t : Int} (h : TB N M nx ok x0 fo lv ca r z pp) (t0 : 0 ≤ t) (t1 : t < N) (ht : lv t < 0) : r < N := by
  obtain ⟨h1, h2, h3, h4, h5, h6, h7, -⟩ := h
  have := fb_holes N.toNat (r.toNat + 1) (fun i => if i < r.toNat then (fo i).toNat else t.toNat) (fun i hi => by
    by_cases e : i < r.toNat
    · simp only [if_pos e]
      have := h5 i (by omega) (by omega)
      omega
    · simp only [if_neg e]
      omega) (fun i j hij hj => by
    have hi : i < r.toNat := by omega
    simp only [if_pos hi]
    have hqi := h5 i (by omega) (by omega)
    by_cases e : j < r.toNat
    · simp only [if_pos e]
      have hqj := h5 j (by omega) (by omega)
      have := h7 i j (by omega) (by omega) (by omega)
      omega
    · simp only [if_neg e]
      intro w
      have e2 : fo i = t := by omega
      rw [e2] at hqi
      omega)
  omega
theorem TB_yes {N M : Int} {nx : Int → Int → Int} {ok : Int → Int → Bool} {x0 : Int} {fo lv ca pp : Int → Int} {r x a : Int} (h : TB N M nx ok x0 fo lv ca r (24 * x + a) pp) (x0' : 0 ≤ x) (x1 : x < r) (a0 : 0 ≤ a) (a1 : a < 24) (t0 : 0 ≤ nx (fo x) a) (t1 : nx (fo x) a < N) (ht : lv (nx (fo x) a) < 0) (hok : ok (fo x) a = true) :
    TB N M nx ok x0 (uf fo r (nx (fo x) a)) (uf lv (nx (fo x) a) (lv (fo x) + 1)) (uf ca (nx (fo x) a) (fo x * 32 + a)) (r + 1) (24 * x + (a + 1)) (uf pp r (24 * x + a)) := by
  have hlt := TB_lt h t0 t1 ht
  obtain ⟨h1, h2, h3, h4, h5, h6, h7, h8, h9, h10⟩ := h
  have hfo : ∀ k, k < r → uf fo r (nx (fo x) a) k = fo k := fun k hk => uf_ne _ _ (by omega)
  have hpp : ∀ k, k < r → uf pp r (24 * x + a) k = pp k := fun k hk => uf_ne _ _ (by omega)
  have hne : ∀ k, 0 ≤ k → k < r → fo k ≠ nx (fo x) a := fun k k0 k1 e => by
    have := (h5 k k0 k1).2.2.1
    rw [e] at this
    omega
  have hd : (24 * x + a) / 24 = x := by omega
  have hm : (24 * x + a) % 24 = a := by omega
  refine ⟨by omega, by omega, by rw [hfo 0 (by omega)]; exact h3, ?_, fun k k0 k1 => ?_, fun y y0 y1 => ?_, fun j k j0 jk k1 => ?_, fun k k1 k2 => ?_, fun j k j1 jk k2 => ?_, fun j b j0 j1 b0 b1 hz hk => ?_⟩
  · have := hne 0 (by omega) (by omega)
    rw [h3] at this
    rw [uf_ne _ _ this]
    exact h4
  · by_cases e : k = r
    · subst e
      have := h5 x x0' x1
      rw [uf_same, uf_same]
      omega
    · rw [hfo k (by omega), uf_ne _ _ (hne k k0 (by omega))]
      exact h5 k k0 (by omega)
  · by_cases e : y = nx (fo x) a
    · exact Or.inr ⟨r, by omega, by omega, by rw [uf_same, e]⟩
    · rw [uf_ne _ _ e]
      rcases h6 y y0 y1 with w | ⟨k, k0, k1, k2⟩
      · exact Or.inl w
      · exact Or.inr ⟨k, k0, by omega, by rw [hfo k k1]; exact k2⟩
  · rw [hfo j (by omega)]
    by_cases e : k = r
    · rw [e, uf_same]
      exact hne j j0 (by omega)
    · rw [hfo k (by omega)]
      exact h7 j k j0 jk (by omega)
  · by_cases e : k = r
    · subst e
      rw [uf_same, uf_same, hd, hm, hfo x x1, uf_same, uf_same, uf_ne _ _ (hne x x0' x1)]
      exact ⟨by omega, by omega, x1, hok, rfl, rfl, rfl⟩
    · have hk := h8 k k1 (by omega)
      rw [hpp k (by omega), hfo k (by omega), hfo (pp k / 24) (by omega), uf_ne _ _ (hne k (by omega) (by omega)), uf_ne _ _ (hne (pp k / 24) (by omega) (by omega)), uf_ne _ _ (hne k (by omega) (by omega))]
      exact ⟨hk.1, by omega, hk.2.2⟩
  · rw [hpp j (by omega)]
    by_cases e : k = r
    · rw [e, uf_same]
      have := h8 j j1 (by omega)
      omega
    · rw [hpp k (by omega)]
      exact h9 j k j1 jk (by omega)
  · by_cases e9 : j = r
    · omega
    · rw [hfo j (by omega)] at hk ⊢
      by_cases e : 24 * j + b = 24 * x + a
      · have e1 : j = x := by omega
        have e2 : b = a := by omega
        subst e1; subst e2
        exact ⟨r, by omega, by omega, uf_same _ _ _, Or.inr (by rw [uf_same]; omega)⟩
      · obtain ⟨k, k0, k1, k2, k3⟩ := h10 j b j0 (by omega) b0 b1 (by omega) hk
        refine ⟨k, k0, by omega, by rw [hfo k k1]; exact k2, ?_⟩
        rw [hpp k k1]
        exact k3
