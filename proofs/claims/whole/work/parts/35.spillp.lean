/-! ===== pure: what must be spilt ===== -/
/-- a row from one code to another, and what it spills -/
def PS (nx sp : Int → Int → Int) : List Int → Int → Int → Int → Prop
  | [], x, y, c => x = y ∧ c = 0
  | a :: l, x, y, c => 0 ≤ a ∧ a < 24 ∧ nx x a ≠ x ∧ ∃ c', PS nx sp l (nx x a) y c' ∧ c = sp x a + c'
theorem PS_app {nx sp : Int → Int → Int} {a : Int} (a0 : 0 ≤ a) (a1 : a < 24) : ∀ (l : List Int) (x y c : Int), PS nx sp l x y c → nx y a ≠ y → PS nx sp (l ++ [a]) x (nx y a) (c + sp y a)
  | [], x, y, c, h, hn => by
    obtain ⟨e, e2⟩ := h
    subst e; subst e2
    exact ⟨a0, a1, hn, 0, ⟨rfl, rfl⟩, by omega⟩
  | b :: l, x, y, c, h, hn => by
    obtain ⟨b0, b1, b2, c', h2, h3⟩ := h
    exact ⟨b0, b1, b2, c' + sp y a, PS_app a0 a1 l _ y c' h2 hn, by omega⟩
/-- the second half of settling: the queue wk of all codes for which just so much (sg) must be spilt -/
def SQ (N M : Int) (nx sp : Int → Int → Int) (x0 sg : Int) (le0 le wk : Int → Int) (w z : Int) : Prop :=
  0 ≤ w ∧ w ≤ N ∧ (∀ y, 0 ≤ y → y < M → 0 ≤ le y ∧ le y ≤ 1000000) ∧ (∀ y, 0 ≤ y → y < N → le y < 1000000 → ∃ l, PS nx sp l x0 y (le y)) ∧ (∀ y, 0 ≤ y → y < N → (le0 y < sg → le y = le0 y) ∧ (le y < sg → le0 y < sg) ∧ le y ≤ le0 y) ∧ (∀ k, 0 ≤ k → k < w → 0 ≤ wk k ∧ wk k < N ∧ le (wk k) = sg) ∧ (∀ j k, 0 ≤ j → j < k → k < w → wk j ≠ wk k) ∧ (∀ y, 0 ≤ y → y < N → le y = sg → ∃ k, 0 ≤ k ∧ k < w ∧ wk k = y) ∧ (∀ k b, 0 ≤ k → k < w → 0 ≤ b → b < 24 → 24 * k + b < z → nx (wk k) b ≠ wk k → le (nx (wk k) b) ≤ sg + sp (wk k) b)
theorem SQ_no {N M : Int} {nx sp : Int → Int → Int} {x0 sg : Int} {le0 le wk : Int → Int} {w x a : Int} (h : SQ N M nx sp x0 sg le0 le wk w (24 * x + a)) (a0 : 0 ≤ a) (a1 : a < 24) (hc : nx (wk x) a ≠ wk x → le (nx (wk x) a) ≤ sg + sp (wk x) a) : SQ N M nx sp x0 sg le0 le wk w (24 * x + (a + 1)) := by
  obtain ⟨h1, h2, h3, h4, h5, h6, h7, h8, h9⟩ := h
  refine ⟨h1, h2, h3, h4, h5, h6, h7, h8, fun k b k0 k1 b0 b1 hz hn => ?_⟩
  by_cases e : 24 * k + b = 24 * x + a
  · have e1 : k = x := by omega
    have e2 : b = a := by omega
    subst e1; subst e2
    exact hc hn
  · exact h9 k b k0 k1 b0 b1 (by omega) hn
theorem SQ_lt {N M : Int} {nx sp : Int → Int → Int} {x0 sg : Int} {le0 le wk : Int → Int} {w z t : Int} (h : SQ N M nx sp x0 sg le0 le wk w z) (t0 : 0 ≤ t) (t1 : t < N) (ht : le t ≠ sg) : w < N := by
  obtain ⟨h1, h2, h3, h4, h5, h6, h7, h8, h9⟩ := h
  have := fb_holes N.toNat (w.toNat + 1) (fun i => if i < w.toNat then (wk i).toNat else t.toNat) (fun i hi => by
    by_cases e : i < w.toNat
    · simp only [if_pos e]
      have := h6 i (by omega) (by omega)
      omega
    · simp only [if_neg e]
      omega) (fun i j hij hj => by
    have hi : i < w.toNat := by omega
    simp only [if_pos hi]
    have hqi := h6 i (by omega) (by omega)
    by_cases e : j < w.toNat
    · simp only [if_pos e]
      have hqj := h6 j (by omega) (by omega)
      have := h7 i j (by omega) (by omega) (by omega)
      omega
    · simp only [if_neg e]
      intro q
      have e2 : wk i = t := by omega
      rw [e2] at hqi
      exact ht hqi.2.2)
  omega
/-- a code is reached by spilling less than before: more than sg -/
theorem SQ_put {N M : Int} {nx sp : Int → Int → Int} {x0 sg : Int} {le0 le wk : Int → Int} {w x a : Int} (h : SQ N M nx sp x0 sg le0 le wk w (24 * x + a)) (hNM : N ≤ M) (hsg : 0 ≤ sg) (hsg2 : sg + 10 < 1000000) (x0' : 0 ≤ x) (x1 : x < w) (a0 : 0 ≤ a) (a1 : a < 24) (t0 : 0 ≤ nx (wk x) a) (t1 : nx (wk x) a < N) (hn : nx (wk x) a ≠ wk x) (hs : 0 ≤ sp (wk x) a ∧ sp (wk x) a ≤ 10) (hc : sg + sp (wk x) a < le (nx (wk x) a)) :
    (0 < sp (wk x) a → SQ N M nx sp x0 sg le0 (uf le (nx (wk x) a) (sg + sp (wk x) a)) wk w (24 * x + (a + 1))) ∧ (sp (wk x) a = 0 → SQ N M nx sp x0 sg le0 (uf le (nx (wk x) a) sg) (uf wk w (nx (wk x) a)) (w + 1) (24 * x + (a + 1))) := by
  have hlt := SQ_lt h t0 t1 (by omega)
  obtain ⟨h1, h2, h3, h4, h5, h6, h7, h8, h9⟩ := h
  have hx := h6 x x0' x1
  obtain ⟨l, hl⟩ := h4 (wk x) hx.1 hx.2.1 (by omega)
  rw [hx.2.2] at hl
  have hp := PS_app a0 a1 l x0 (wk x) sg hl hn
  have hne : ∀ k, 0 ≤ k → k < w → wk k ≠ nx (wk x) a := fun k k0 k1 e => by
    have := (h6 k k0 k1).2.2
    rw [e] at this
    omega
  have core : ∀ v, v = sg + sp (wk x) a → (∀ y, 0 ≤ y → y < M → 0 ≤ uf le (nx (wk x) a) v y ∧ uf le (nx (wk x) a) v y ≤ 1000000) ∧ (∀ y, 0 ≤ y → y < N → uf le (nx (wk x) a) v y < 1000000 → ∃ l, PS nx sp l x0 y (uf le (nx (wk x) a) v y)) ∧ (∀ y, 0 ≤ y → y < N → (le0 y < sg → uf le (nx (wk x) a) v y = le0 y) ∧ (uf le (nx (wk x) a) v y < sg → le0 y < sg) ∧ uf le (nx (wk x) a) v y ≤ le0 y) ∧ (∀ k b, 0 ≤ k → k < w → 0 ≤ b → b < 24 → 24 * k + b < 24 * x + (a + 1) → nx (wk k) b ≠ wk k → uf le (nx (wk x) a) v (nx (wk k) b) ≤ sg + sp (wk k) b) := by
    intro v hv
    refine ⟨fun y y0 y1 => ?_, fun y y0 y1 hy => ?_, fun y y0 y1 => ?_, fun k b k0 k1 b0 b1 hz hk => ?_⟩
    · unfold uf
      split
      · omega
      · exact h3 y y0 y1
    · by_cases e : y = nx (wk x) a
      · rw [e, uf_same, hv]
        exact ⟨_, hp⟩
      · rw [uf_ne _ _ e] at hy ⊢
        exact h4 y y0 y1 hy
    · by_cases e : y = nx (wk x) a
      · rw [e, uf_same]
        have h10 := h5 (nx (wk x) a) t0 t1
        exact ⟨fun q => by have := h10.1 q; omega, fun q => by omega, by have := h10.2.2; omega⟩
      · rw [uf_ne _ _ e]
        exact h5 y y0 y1
    · by_cases e : 24 * k + b = 24 * x + a
      · have e1 : k = x := by omega
        have e2 : b = a := by omega
        subst e1; subst e2
        rw [uf_same]
        omega
      · have h10 := h9 k b k0 k1 b0 b1 (by omega) hk
        unfold uf
        split
        · next q => rw [q] at h10; omega
        · exact h10
  refine ⟨fun hq => ?_, fun hq => ?_⟩
  · obtain ⟨c1, c2, c3, c4⟩ := core _ rfl
    refine ⟨h1, h2, c1, c2, c3, fun k k0 k1 => ?_, h7, fun y y0 y1 hy => ?_, c4⟩
    · rw [uf_ne _ _ (hne k k0 k1)]
      exact h6 k k0 k1
    · by_cases e : y = nx (wk x) a
      · rw [e, uf_same] at hy; omega
      · rw [uf_ne _ _ e] at hy
        exact h8 y y0 y1 hy
  · obtain ⟨c1, c2, c3, c4⟩ := core sg (by omega)
    have hwk : ∀ k, k < w → uf wk w (nx (wk x) a) k = wk k := fun k hk => uf_ne _ _ (by omega)
    refine ⟨by omega, by omega, c1, c2, c3, fun k k0 k1 => ?_, fun j k j0 jk k1 => ?_, fun y y0 y1 hy => ?_, fun k b k0 k1 b0 b1 hz hk => ?_⟩
    · by_cases e : k = w
      · subst e
        rw [uf_same, uf_same]
        exact ⟨t0, t1, rfl⟩
      · rw [hwk k (by omega), uf_ne _ _ (hne k k0 (by omega))]
        exact h6 k k0 (by omega)
    · rw [hwk j (by omega)]
      by_cases e : k = w
      · rw [e, uf_same]
        exact hne j j0 (by omega)
      · rw [hwk k (by omega)]
        exact h7 j k j0 jk (by omega)
    · by_cases e : y = nx (wk x) a
      · exact ⟨w, by omega, by omega, by rw [uf_same, e]⟩
      · rw [uf_ne _ _ e] at hy
        obtain ⟨k, k0, k1, k2⟩ := h8 y y0 y1 hy
        exact ⟨k, k0, by omega, by rw [hwk k k1]; exact k2⟩
    · by_cases e : k = w
      · omega
      · rw [hwk k (by omega)] at hk ⊢
        exact c4 k b k0 (by omega) b0 b1 hz hk
/-- the first half: those found with just so much -/
def SF (N : Int) (sg : Int) (fo le wk : Int → Int) (w k : Int) : Prop := 0 ≤ w ∧ w ≤ k ∧ (∀ j, 0 ≤ j → j < w → ∃ i, 0 ≤ i ∧ i < k ∧ wk j = fo i ∧ le (fo i) = sg) ∧ (∀ i j, 0 ≤ i → i < j → j < w → wk i ≠ wk j) ∧ ∀ i, 0 ≤ i → i < k → le (fo i) = sg → ∃ j, 0 ≤ j ∧ j < w ∧ wk j = fo i
theorem SF_no {N sg : Int} {fo le wk : Int → Int} {w k : Int} (h : SF N sg fo le wk w k) (hn : le (fo k) ≠ sg) : SF N sg fo le wk w (k + 1) := by
  obtain ⟨h1, h2, h3, h4, h5⟩ := h
  refine ⟨h1, by omega, fun j j0 j1 => ?_, h4, fun i i0 i1 hi => ?_⟩
  · obtain ⟨i, i0, i1, i2⟩ := h3 j j0 j1
    exact ⟨i, i0, by omega, i2⟩
  · by_cases e : i = k
    · rw [e] at hi; exact absurd hi hn
    · exact h5 i i0 (by omega) hi
theorem SF_yes {N sg : Int} {fo le wk : Int → Int} {w k r : Int} (h : SF N sg fo le wk w k) (hk : 0 ≤ k) (hkr : k < r) (hinj : ∀ i j, 0 ≤ i → i < j → j < r → fo i ≠ fo j) (hn : le (fo k) = sg) : SF N sg fo le (uf wk w (fo k)) (w + 1) (k + 1) := by
  obtain ⟨h1, h2, h3, h4, h5⟩ := h
  have hwk : ∀ j, j < w → uf wk w (fo k) j = wk j := fun j hj => uf_ne _ _ (by omega)
  refine ⟨by omega, by omega, fun j j0 j1 => ?_, fun i j i0 ij j1 => ?_, fun i i0 i1 hi => ?_⟩
  · by_cases e : j = w
    · exact ⟨k, hk, by omega, by rw [e, uf_same], hn⟩
    · obtain ⟨i, i0, i1, i2⟩ := h3 j j0 (by omega)
      exact ⟨i, i0, by omega, by rw [hwk j (by omega)]; exact i2⟩
  · rw [hwk i (by omega)]
    by_cases e : j = w
    · rw [e, uf_same]
      obtain ⟨q, q0, q1, q2, -⟩ := h3 i i0 (by omega)
      rw [q2]
      exact hinj q k q0 q1 hkr
    · rw [hwk j (by omega)]
      exact h4 i j i0 ij (by omega)
  · by_cases e : i = k
    · exact ⟨w, by omega, by omega, by rw [uf_same, e]⟩
    · obtain ⟨j, j0, j1, j2⟩ := h5 i i0 (by omega) hi
      exact ⟨j, j0, by omega, by rw [hwk j j1]; exact j2⟩
theorem SQ_0 {N M : Int} {nx sp : Int → Int → Int} {x0 sg : Int} {fo le wk : Int → Int} {w r : Int} (h : SF N sg fo le wk w r) (hr : r ≤ N) (hfo : ∀ k, 0 ≤ k → k < r → 0 ≤ fo k ∧ fo k < N) (hrg : ∀ y, 0 ≤ y → y < M → 0 ≤ le y ∧ le y ≤ 1000000) (hat : ∀ y, 0 ≤ y → y < N → le y < 1000000 → ∃ l, PS nx sp l x0 y (le y)) (hfd : ∀ y, 0 ≤ y → y < N → le y < 1000000 → ∃ k, 0 ≤ k ∧ k < r ∧ fo k = y) (hsg : sg < 1000000) : SQ N M nx sp x0 sg le le wk w 0 := by
  obtain ⟨h1, h2, h3, h4, h5⟩ := h
  refine ⟨h1, by omega, hrg, hat, fun y _ _ => ⟨fun _ => rfl, fun q => q, Int.le_refl _⟩, fun k k0 k1 => ?_, h4, fun y y0 y1 hy => ?_, fun k b _ _ _ _ _ => by omega⟩
  · obtain ⟨i, i0, i1, i2, i3⟩ := h3 k k0 k1
    rw [i2]
    exact ⟨(hfo i i0 i1).1, (hfo i i0 i1).2, i3⟩
  · obtain ⟨k, k0, k1, k2⟩ := hfd y y0 y1 (by omega)
    obtain ⟨j, j0, j1, j2⟩ := h5 k k0 k1 (by rw [k2]; exact hy)
    exact ⟨j, j0, j1, by rw [j2, k2]⟩
