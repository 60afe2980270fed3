/-! ===== pure: the states of the glasses that can come ===== -/
def LE (N M : Int) (lp : Int → Int → Int) (C : Int) (ev li lq : Int → Int) (r z : Int) : Prop :=
  1 ≤ r ∧ r ≤ N ∧ ev 0 = 0 ∧ (∀ k, 0 ≤ k → k < r → 0 ≤ ev k ∧ ev k < N ∧ li (ev k) = 1) ∧ (∀ y, 0 ≤ y → y < M → li y = 0 ∨ (li y = 1 ∧ ∃ k, 0 ≤ k ∧ k < r ∧ ev k = y)) ∧ (∀ j k, 0 ≤ j → j < k → k < r → ev j ≠ ev k) ∧
  (∀ k b, 0 ≤ k → k < r → 0 ≤ b → b < C → 8 * k + b < z → lq (ev k * 8 + b) = lp (ev k) b ∧ (lp (ev k) b ≠ -1 → ∃ j, 0 ≤ j ∧ j < r ∧ ev j = lp (ev k) b / 16))
theorem LE_lt {N M : Int} {lp : Int → Int → Int} {C : Int} {ev li lq : Int → Int} {r z t : Int} (h : LE N M lp C ev li lq r z) (t0 : 0 ≤ t) (t1 : t < N) (ht : li t = 0) : r < N := by
  obtain ⟨h1, h2, h3, h4, h5, h6, -⟩ := h
  have := fb_holes N.toNat (r.toNat + 1) (fun i => if i < r.toNat then (ev i).toNat else t.toNat) (fun i hi => by
    by_cases e : i < r.toNat
    · simp only [if_pos e]
      have := h4 i (by omega) (by omega)
      omega
    · simp only [if_neg e]
      omega) (fun i j hij hj => by
    have hi : i < r.toNat := by omega
    simp only [if_pos hi]
    have hqi := h4 i (by omega) (by omega)
    by_cases e : j < r.toNat
    · simp only [if_pos e]
      have hqj := h4 j (by omega) (by omega)
      have := h6 i j (by omega) (by omega) (by omega)
      omega
    · simp only [if_neg e]
      intro w
      have e2 : ev i = t := by omega
      rw [e2] at hqi
      omega)
  omega
theorem LE_0 {N M : Int} {lp : Int → Int → Int} {C : Int} {ev li lq : Int → Int} (hN : 1 ≤ N) (hl : ∀ y, 0 ≤ y → y < M → li y = 0) : LE N M lp C (uf ev 0 0) (uf li 0 1) lq 1 0 := by
  refine ⟨by omega, hN, uf_same _ _ _, fun k k0 k1 => ?_, fun y y0 y1 => ?_, fun j k _ _ _ => by omega, fun k b _ _ _ _ _ => by omega⟩
  · rw [show k = 0 by omega, uf_same, uf_same]
    omega
  · by_cases e : y = 0
    · rw [e, uf_same]
      exact Or.inr ⟨rfl, 0, by omega, by omega, uf_same _ _ _⟩
    · rw [uf_ne _ _ e]
      exact Or.inl (hl y y0 y1)
theorem LE_next {N M : Int} {lp : Int → Int → Int} {C : Int} {ev li lq : Int → Int} {r k : Int} (h : LE N M lp C ev li lq r (8 * k + C)) (hC : C ≤ 8) : LE N M lp C ev li lq r (8 * (k + 1)) := by
  obtain ⟨h1, h2, h3, h4, h5, h6, h7⟩ := h
  exact ⟨h1, h2, h3, h4, h5, h6, fun j b j0 j1 b0 b1 hz => h7 j b j0 j1 b0 b1 (by omega)⟩
/-- the leap is noted; its state is listed already, or there is none -/
theorem LE_old {N M : Int} {lp : Int → Int → Int} {C : Int} {ev li lq : Int → Int} {r k a : Int} (h : LE N M lp C ev li lq r (8 * k + a)) (k0 : 0 ≤ k) (k1 : k < r) (a0 : 0 ≤ a) (a1 : a < C) (hC : C ≤ 8) (hNM : N ≤ M) (ht : lp (ev k) a ≠ -1 → 0 ≤ lp (ev k) a / 16 ∧ lp (ev k) a / 16 < N ∧ li (lp (ev k) a / 16) ≠ 0) : LE N M lp C ev li (uf lq (ev k * 8 + a) (lp (ev k) a)) r (8 * k + (a + 1)) := by
  obtain ⟨h1, h2, h3, h4, h5, h6, h7⟩ := h
  refine ⟨h1, h2, h3, h4, h5, h6, fun j b j0 j1 b0 b1 hz => ?_⟩
  by_cases e : 8 * j + b = 8 * k + a
  · have e1 : j = k := by omega
    have e2 : b = a := by omega
    subst e1; subst e2
    refine ⟨uf_same _ _ _, fun hn => ?_⟩
    obtain ⟨t0, t1, t2⟩ := ht hn
    rcases h5 _ t0 (by omega) with w | ⟨-, w⟩
    · exact absurd w t2
    · exact w
  · have hne : ev j * 8 + b ≠ ev k * 8 + a := fun w => by
      by_cases e9 : j = k
      · subst e9; omega
      · have : ev j ≠ ev k := by
          by_cases q : j < k
          · exact h6 j k j0 q k1
          · exact fun z => h6 k j k0 (by omega) j1 z.symm
        omega
    rw [uf_ne _ _ hne]
    exact h7 j b j0 j1 b0 b1 (by omega)
theorem LE_new {N M : Int} {lp : Int → Int → Int} {C : Int} {ev li lq : Int → Int} {r k a : Int} (h : LE N M lp C ev li lq r (8 * k + a)) (k0 : 0 ≤ k) (k1 : k < r) (a0 : 0 ≤ a) (a1 : a < C) (hC : C ≤ 8) (hNM : N ≤ M) (t0 : 0 ≤ lp (ev k) a / 16) (t1 : lp (ev k) a / 16 < N) (t2 : li (lp (ev k) a / 16) = 0) : LE N M lp C (uf ev r (lp (ev k) a / 16)) (uf li (lp (ev k) a / 16) 1) (uf lq (ev k * 8 + a) (lp (ev k) a)) (r + 1) (8 * k + (a + 1)) := by
  have hlt := LE_lt h t0 t1 t2
  obtain ⟨h1, h2, h3, h4, h5, h6, h7⟩ := h
  have hev : ∀ j, j < r → uf ev r (lp (ev k) a / 16) j = ev j := fun j hj => uf_ne _ _ (by omega)
  have hne : ∀ j, 0 ≤ j → j < r → ev j ≠ lp (ev k) a / 16 := fun j j0 j1 e => by
    have := (h4 j j0 j1).2.2
    rw [e] at this
    omega
  refine ⟨by omega, by omega, by rw [hev 0 (by omega)]; exact h3, fun j j0 j1 => ?_, fun y y0 y1 => ?_, fun i j i0 ij j1 => ?_, fun j b j0 j1 b0 b1 hz => ?_⟩
  · by_cases e : j = r
    · rw [e, uf_same, uf_same]
      exact ⟨t0, t1, rfl⟩
    · rw [hev j (by omega), uf_ne _ _ (hne j j0 (by omega))]
      exact h4 j j0 (by omega)
  · by_cases e : y = lp (ev k) a / 16
    · rw [e, uf_same]
      exact Or.inr ⟨rfl, r, by omega, by omega, uf_same _ _ _⟩
    · rw [uf_ne _ _ e]
      rcases h5 y y0 y1 with w | ⟨w, q, q0, q1, q2⟩
      · exact Or.inl w
      · exact Or.inr ⟨w, q, q0, by omega, by rw [hev q q1]; exact q2⟩
  · rw [hev i (by omega)]
    by_cases e : j = r
    · rw [e, uf_same]
      exact hne i i0 (by omega)
    · rw [hev j (by omega)]
      exact h6 i j i0 ij (by omega)
  · by_cases e9 : j = r
    · omega
    · rw [hev j (by omega)]
      by_cases e : 8 * j + b = 8 * k + a
      · have e1 : j = k := by omega
        have e2 : b = a := by omega
        subst e1; subst e2
        exact ⟨uf_same _ _ _, fun _ => ⟨r, by omega, by omega, uf_same _ _ _⟩⟩
      · have hne2 : ev j * 8 + b ≠ ev k * 8 + a := fun w => by
          by_cases e8 : j = k
          · subst e8; omega
          · have : ev j ≠ ev k := by
              by_cases q : j < k
              · exact h6 j k j0 q k1
              · exact fun z => h6 k j k0 (by omega) (by omega) z.symm
            omega
        rw [uf_ne _ _ hne2]
        have h8 := h7 j b j0 (by omega) b0 b1 (by omega)
        refine ⟨h8.1, fun hn => ?_⟩
        obtain ⟨q, q0, q1, q2⟩ := h8.2 hn
        exact ⟨q, q0, by omega, by rw [hev q q1]; exact q2⟩
