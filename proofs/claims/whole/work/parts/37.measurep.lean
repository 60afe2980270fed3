/-! ===== pure: what must be spilt, from nothing upwards ===== -/
/-- the end of a row lies in the tour -/
theorem PS_found {N M : Int} {nx sp : Int → Int → Int} {x0 : Int} {fo lv ca pp : Int → Int} {r : Int} (h : TB N M nx (fun _ _ => true) x0 fo lv ca r (24 * r) pp) : ∀ (l : List Int) (x y c : Int), PS nx sp l x y c → (∃ k, 0 ≤ k ∧ k < r ∧ fo k = x) → ∃ k, 0 ≤ k ∧ k < r ∧ fo k = y
  | [], x, y, c, hp, hx => by
    rw [← hp.1]; exact hx
  | a :: l, x, y, c, hp, hx => by
    obtain ⟨k, k0, k1, k2⟩ := hx
    obtain ⟨a0, a1, a2, c', h2, h3⟩ := hp
    refine PS_found h l _ y c' h2 ?_
    obtain ⟨j, j0, j1, j2, -⟩ := h.2.2.2.2.2.2.2.2.2 k a k0 k1 a0 a1 (by omega) rfl
    rw [k2] at j2
    exact ⟨j, j0, j1, j2⟩
theorem PS_found0 {N M : Int} {nx sp : Int → Int → Int} {x0 : Int} {fo lv ca pp : Int → Int} {r : Int} (h : TB N M nx (fun _ _ => true) x0 fo lv ca r (24 * r) pp) {l : List Int} {y c : Int} (hp : PS nx sp l x0 y c) : ∃ k, 0 ≤ k ∧ k < r ∧ fo k = y :=
  PS_found h l x0 y c hp ⟨0, by omega, by have := h.1; omega, h.2.2.1⟩
/-- all that must spill less than sg is settled: so many (sd) codes, counted by G -/
def ME (N M : Int) (nx sp : Int → Int → Int) (x0 sg : Int) (le : Int → Int) (sd : Int) (G : Int → Int) : Prop :=
  0 ≤ sg ∧ 0 ≤ sd ∧ (∀ y, 0 ≤ y → y < M → 0 ≤ le y ∧ le y ≤ 1000000) ∧ (∀ y, 0 ≤ y → y < N → le y < 1000000 → ∃ l, PS nx sp l x0 y (le y)) ∧ le x0 = 0 ∧ (∀ y b, 0 ≤ y → y < N → le y < sg → 0 ≤ b → b < 24 → nx y b ≠ y → le (nx y b) ≤ le y + sp y b) ∧ (∀ j, 0 ≤ j → j < sd → 0 ≤ G j ∧ G j < N ∧ le (G j) < sg) ∧ (∀ i j, 0 ≤ i → i < j → j < sd → G i ≠ G j) ∧ ∀ y, 0 ≤ y → y < N → le y < sg → ∃ j, 0 ≤ j ∧ j < sd ∧ G j = y
theorem ME_0 {N M : Int} {nx sp : Int → Int → Int} {x0 : Int} {le : Int → Int} (h0 : 0 ≤ x0) (h1 : x0 < N) (hM : N ≤ M) (hl : ∀ j, 0 ≤ j → j < M → le j = if j = x0 then 0 else 1000000) : ME N M nx sp x0 0 le 0 (fun _ => 0) := by
  have hx : le x0 = 0 := by rw [hl x0 h0 (by omega), if_pos rfl]
  have hr : ∀ y, 0 ≤ y → y < M → 0 ≤ le y ∧ le y ≤ 1000000 := fun y y0 y1 => by
    rw [hl y y0 y1]
    split <;> omega
  refine ⟨by omega, by omega, hr, fun y y0 y1 hy => ?_, hx, fun y b y0 y1 hy => ?_, fun j _ _ => by omega, fun i j _ _ _ => by omega, fun y y0 y1 hy => ?_⟩
  · rw [hl y y0 (by omega)] at hy ⊢
    by_cases e : y = x0
    · rw [if_pos e]
      exact ⟨[], e.symm, rfl⟩
    · rw [if_neg e] at hy
      omega
  · have := hr y y0 (by omega); omega
  · have := hr y y0 (by omega); omega
/-- one settling more -/
theorem ME_s {N M : Int} {nx sp : Int → Int → Int} {x0 sg : Int} {le le' wk : Int → Int} {sd w : Int} {G : Int → Int} (hx0 : 0 ≤ x0) (hx1 : x0 < N) (hNM : N ≤ M) (hnx : ∀ y b, 0 ≤ y → y < N → 0 ≤ nx y b ∧ nx y b < N) (h : ME N M nx sp x0 sg le sd G) (hq : SQ N M nx sp x0 sg le le' wk w (24 * w)) : ME N M nx sp x0 (sg + 1) le' (sd + w) (fun j => if j < sd then G j else wk (j - sd)) := by
  obtain ⟨g1, g2, g3, g4, g5, g6, g7, g8, g9⟩ := h
  obtain ⟨h1, h2, h3, h4, h5, h6, h7, h8, h9⟩ := hq
  have hx : le' x0 = 0 := by
    have := (h5 x0 hx0 hx1).2.2
    have := h3 x0 hx0 (by omega)
    omega
  refine ⟨by omega, by omega, h3, h4, hx, fun y b y0 y1 hy b0 b1 hn => ?_, fun j j0 j1 => ?_, fun i j i0 ij j1 => ?_, fun y y0 y1 hy => ?_⟩
  · by_cases e : le' y = sg
    · obtain ⟨k, k0, k1, k2⟩ := h8 y y0 y1 e
      have := h9 k b k0 k1 b0 b1 (by omega) (by rw [k2]; exact hn)
      rw [k2] at this
      omega
    · have e1 := (h5 y y0 y1).2.1 (by omega)
      have e2 := (h5 y y0 y1).1 e1
      have e3 := g6 y b y0 y1 e1 b0 b1 hn
      have hz := hnx y b y0 y1
      have e4 := (h5 _ hz.1 hz.2).2.2
      omega
  · by_cases e : j < sd
    · simp only [if_pos e]
      have q := g7 j j0 e
      have := (h5 _ q.1 q.2.1).1 q.2.2
      exact ⟨q.1, q.2.1, by omega⟩
    · simp only [if_neg e]
      have q := h6 (j - sd) (by omega) (by omega)
      exact ⟨q.1, q.2.1, by omega⟩
  · by_cases e : j < sd
    · have e' : i < sd := by omega
      simp only [if_pos e, if_pos e']
      exact g8 i j i0 ij e
    · simp only [if_neg e]
      by_cases e' : i < sd
      · simp only [if_pos e']
        intro w9
        have q := g7 i i0 e'
        have q2 := h6 (j - sd) (by omega) (by omega)
        have q3 := (h5 _ q.1 q.2.1).1 q.2.2
        rw [w9] at q q3
        omega
      · simp only [if_neg e']
        exact h7 _ _ (by omega) (by omega) (by omega)
  · by_cases e : le' y = sg
    · obtain ⟨k, k0, k1, k2⟩ := h8 y y0 y1 e
      refine ⟨sd + k, by omega, by omega, ?_⟩
      simp only [if_neg (show ¬ sd + k < sd by omega), show sd + k - sd = k by omega]
      exact k2
    · have e1 := (h5 y y0 y1).2.1 (by omega)
      obtain ⟨j, j0, j1, j2⟩ := g9 y y0 y1 e1
      exact ⟨j, j0, by omega, by simp only [if_pos j1]; exact j2⟩
/-- what must be spilt is at most ten for each act -/
theorem ME_lv {N M : Int} {nx sp : Int → Int → Int} {x0 sg : Int} {le : Int → Int} {sd : Int} {G fo lv ca pp : Int → Int} {r M2 : Int} (hsp : ∀ y b, nx y b ≠ y → sp y b ≤ 10) (hT : TB N M2 nx (fun _ _ => true) x0 fo lv ca r (24 * r) pp) (h : ME N M nx sp x0 sg le sd G) : ∀ (n : Nat) (k : Int), k < n → 0 ≤ k → k < r → 10 * k < sg → le (fo k) ≤ 10 * k := by
  intro n
  induction n with
  | zero => intro k _ _ _ _; omega
  | succ n ih =>
    intro k kn k0 k1 hs
    by_cases e : k = 0
    · rw [e, hT.2.2.1, h.2.2.2.2.1]; omega
    · obtain ⟨q1, q2, q3, -, q5, -, -⟩ := hT.2.2.2.2.2.2.2.1 k (by omega) k1
      have hx := hT.2.2.2.2.1 (pp k / 24) (by omega) (by omega)
      have i1 := ih (pp k / 24) (by omega) (by omega) (by omega) (by omega)
      have hne : fo (pp k / 24) ≠ fo k := hT.2.2.2.2.2.2.1 _ _ (by omega) q3 k1
      have hn9 : nx (fo (pp k / 24)) (pp k % 24) ≠ fo (pp k / 24) := by rw [← q5]; exact fun z => hne z.symm
      have i2 := h.2.2.2.2.2.1 (fo (pp k / 24)) (pp k % 24) hx.1 hx.2.1 (by omega) (by omega) (by omega) hn9
      rw [← q5] at i2
      have := hsp (fo (pp k / 24)) (pp k % 24) hn9
      omega
/-- as long as not all is settled, not much is spilt -/
theorem ME_all {N M : Int} {nx sp : Int → Int → Int} {x0 sg : Int} {le : Int → Int} {sd : Int} {G fo : Int → Int} {r : Int} (hr : 0 ≤ r) (hfo : ∀ k, 0 ≤ k → k < r → 0 ≤ fo k ∧ fo k < N) (hinj : ∀ i j, 0 ≤ i → i < j → j < r → fo i ≠ fo j) (h : ME N M nx sp x0 sg le sd G) (hl : ∀ k, 0 ≤ k → k < r → le (fo k) < sg) : r ≤ sd := by
  obtain ⟨g1, g2, g3, g4, g5, g6, g7, g8, g9⟩ := h
  have hex : ∀ k : Nat, ∃ j : Nat, k < r.toNat → (j < sd.toNat ∧ G j = fo k) := fun k => by
    by_cases hk : k < r.toNat
    · have q := hfo k (by omega) (by omega)
      obtain ⟨j, j0, j1, j2⟩ := g9 (fo k) q.1 q.2 (hl k (by omega) (by omega))
      exact ⟨j.toNat, fun _ => ⟨by omega, by rw [show ((j.toNat : Nat) : Int) = j by omega]; exact j2⟩⟩
    · exact ⟨0, fun q => absurd q hk⟩
  have := fb_holes sd.toNat r.toNat (fun k => (hex k).choose) (fun i hi => ((hex i).choose_spec hi).1) (fun i j hij hj => by
    intro e
    have a := ((hex i).choose_spec (by omega)).2
    have b := ((hex j).choose_spec hj).2
    have e : (hex i).choose = (hex j).choose := e
    rw [e, b] at a
    exact hinj i j (by omega) (by omega) (by omega) a.symm)
  omega
theorem ME_few {N M : Int} {nx sp : Int → Int → Int} {x0 sg : Int} {le : Int → Int} {sd : Int} {G fo lv ca pp : Int → Int} {r M2 : Int} (hsp : ∀ y b, nx y b ≠ y → sp y b ≤ 10) (hN : N ≤ 14641) (hT : TB N M2 nx (fun _ _ => true) x0 fo lv ca r (24 * r) pp) (h : ME N M nx sp x0 sg le sd G) (hs : sd < r) : sg ≤ 146410 := by
  by_cases e : sg ≤ 146410
  · exact e
  · have := ME_all (by have := hT.1; omega) (fun k k0 k1 => ⟨(hT.2.2.2.2.1 k k0 k1).1, (hT.2.2.2.2.1 k k0 k1).2.1⟩) hT.2.2.2.2.2.2.1 h (fun k k0 k1 => by
      have h2 := hT.2.1
      have := ME_lv hsp hT h (k.toNat + 1) k (by omega) k0 k1 (by omega)
      omega)
    omega
/-- the least that must be spilt -/
def LZ (N M : Int) (nx sp : Int → Int → Int) (x0 : Int) (le : Int → Int) : Prop :=
  (∀ y, 0 ≤ y → y < M → 0 ≤ le y ∧ le y ≤ 1000000) ∧ (∀ y, 0 ≤ y → y < N → le y < 1000000 → ∃ l, PS nx sp l x0 y (le y)) ∧ le x0 = 0 ∧ (∀ y b, 0 ≤ y → y < N → le y < 1000000 → 0 ≤ b → b < 24 → nx y b ≠ y → le (nx y b) ≤ le y + sp y b)
theorem LZ_of {N M : Int} {nx sp : Int → Int → Int} {x0 sg : Int} {le : Int → Int} {sd : Int} {G fo lv ca pp : Int → Int} {r M2 : Int} (hsp : ∀ y b, nx y b ≠ y → sp y b ≤ 10) (hN : N ≤ 14641) (hT : TB N M2 nx (fun _ _ => true) x0 fo lv ca r (24 * r) pp) (h : ME N M nx sp x0 sg le sd G) (hs : 1000000 ≤ sg ∨ r ≤ sd) : LZ N M nx sp x0 le := by
  have hall : ∀ y, 0 ≤ y → y < N → le y < 1000000 → le y < sg := by
    intro y y0 y1 hy
    rcases hs with w | w
    · omega
    · -- fo fills G
      obtain ⟨l, hl⟩ := h.2.2.2.1 y y0 y1 hy
      obtain ⟨k, k0, k1, k2⟩ := PS_found0 hT hl
      obtain ⟨g1, g2, g3, g4, g5, g6, g7, g8, g9⟩ := h
      by_cases e : le y < sg
      · exact e
      · exfalso
        have hex : ∀ j : Nat, ∃ i : Nat, j < sd.toNat → (i < r.toNat ∧ fo i = G j) := fun j => by
          by_cases hj : j < sd.toNat
          · have q := g7 j (by omega) (by omega)
            by_cases q9 : le (G j) < 1000000
            · obtain ⟨l2, hl2⟩ := g4 (G j) q.1 q.2.1 q9
              obtain ⟨i, i0, i1, i2⟩ := PS_found0 hT hl2
              exact ⟨i.toNat, fun _ => ⟨by omega, by rw [show ((i.toNat : Nat) : Int) = i by omega]; exact i2⟩⟩
            · exact absurd q.2.2 (by omega)
          · exact ⟨0, fun q => absurd q hj⟩
        have hk : ∀ j : Nat, j < sd.toNat → G j ≠ fo k := fun j hj z => by
          have := (g7 j (by omega) (by omega)).2.2
          rw [z, k2] at this
          omega
        have := fb_holes r.toNat (sd.toNat + 1) (fun j => if j < sd.toNat then (hex j).choose else k.toNat) (fun i hi => by
          by_cases e9 : i < sd.toNat
          · simp only [if_pos e9]; exact ((hex i).choose_spec e9).1
          · simp only [if_neg e9]; omega) (fun i j hij hj => by
          have e8 : i < sd.toNat := by omega
          simp only [if_pos e8]
          have a := ((hex i).choose_spec e8).2
          by_cases e9 : j < sd.toNat
          · simp only [if_pos e9]
            have b := ((hex j).choose_spec e9).2
            intro z
            rw [z, b] at a
            exact g8 i j (by omega) (by omega) (by omega) a.symm
          · simp only [if_neg e9]
            intro z
            rw [z, show ((k.toNat : Nat) : Int) = k by omega] at a
            exact hk i e8 a.symm)
        omega
  exact ⟨h.2.2.1, h.2.2.2.1, h.2.2.2.2.1, fun y b y0 y1 hy b0 b1 hn => h.2.2.2.2.2.1 y b y0 y1 (hall y y0 y1 hy) b0 b1 hn⟩
theorem LZ_le {N M : Int} {nx sp : Int → Int → Int} {x0 : Int} {le : Int → Int} (hNM : N ≤ M) (hnx : ∀ y b, 0 ≤ y → y < N → 0 ≤ nx y b ∧ nx y b < N) (hsp : ∀ y b, nx y b ≠ y → 0 ≤ sp y b) (h : LZ N M nx sp x0 le) : ∀ (l : List Int) (x y c d : Int), 0 ≤ x → x < N → PS nx sp l x y c → le x ≤ d → le y ≤ d + c
  | [], x, y, c, d, x0, x1, hp, hd => by
    obtain ⟨e, e2⟩ := hp
    rw [← e, e2]; omega
  | a :: l, x, y, c, d, x0, x1, hp, hd => by
    obtain ⟨a0, a1, a2, c', h2, h3⟩ := hp
    have hz := hnx x a x0 x1
    have := LZ_le hNM hnx hsp h l (nx x a) y c' (d + sp x a) hz.1 hz.2 h2 (by
      by_cases e : le x < 1000000
      · have := h.2.2.2 x a x0 x1 e a0 a1 a2; omega
      · have := h.1 _ hz.1 (by omega)
        have := hsp x a a2
        omega)
    omega
