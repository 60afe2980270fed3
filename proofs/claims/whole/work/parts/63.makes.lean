/-! ===== pure: all that can be reached, and made ===== -/
theorem PT_OP {nx : Int → Int → Int} : ∀ (l : List Int) (x y : Int), PT nx l x y ↔ OP nx (fun _ _ => true) l x y
  | [], x, y => Iff.rfl
  | a :: l, x, y => by
    unfold PT OP
    rw [PT_OP l (nx x a) y]
    exact ⟨fun ⟨h1, h2, h3, h4⟩ => ⟨h1, h2, h3, rfl, h4⟩, fun ⟨h1, h2, h3, _, h4⟩ => ⟨h1, h2, h3, h4⟩⟩
theorem orI_bit (x y : Int) (b : Nat) : (orI x y).toNat.testBit b = (x.toNat.testBit b || y.toNat.testBit b) := by
  unfold orI
  rw [Int.toNat_natCast, Nat.testBit_or]
theorem mb_bit (hs : Int → Int) (z : Int) (b : Nat) : ∀ i : Nat, (mb hs z i).toNat.testBit b = true ↔ z.toNat.testBit b = true ∨ ∃ j : Int, 0 ≤ j ∧ j < i ∧ (hs j).toNat = b
  | 0 => by
    rw [mb]
    refine ⟨fun h => Or.inl h, fun h => ?_⟩
    rcases h with h | ⟨j, a, c, _⟩
    · exact h
    · omega
  | i + 1 => by
    have e : ((2 : Int) ^ (hs i).toNat).toNat = 2 ^ (hs i).toNat := by
      have : ((2 : Int) ^ (hs i).toNat) = ((2 ^ (hs i).toNat : Nat) : Int) := by simp
      rw [this, Int.toNat_natCast]
    rw [mb, orI_bit, e, Nat.testBit_two_pow, Bool.or_eq_true, mb_bit hs z b i]
    constructor
    · rintro ((h | ⟨j, h1, h2, h3⟩) | h)
      · exact Or.inl h
      · exact Or.inr ⟨j, h1, by omega, h3⟩
      · exact Or.inr ⟨i, by omega, by omega, by simpa using h⟩
    · rintro (h | ⟨j, h1, h2, h3⟩)
      · exact Or.inl (Or.inl h)
      · by_cases q : j = i
        · right; rw [← q]; simpa using h3
        · exact Or.inl (Or.inr ⟨j, h1, by omega, h3⟩)
theorem mq_bit (n : Int) (rm q : Int → Int) (b : Nat) : ∀ k : Nat, (mq n rm q k).toNat.testBit b = true ↔ ∃ k' j : Int, 0 ≤ k' ∧ k' < k ∧ 0 ≤ j ∧ j < n.toNat ∧ (DG n rm (q k') j).toNat = b
  | 0 => by
    rw [mq]
    refine ⟨fun h => by simp at h, fun ⟨k', _, a, c, _⟩ => by omega⟩
  | k + 1 => by
    rw [mq, mb_bit, mq_bit n rm q b k]
    constructor
    · rintro (⟨k', j, h1, h2, h3⟩ | ⟨j, h1, h2, h3⟩)
      · exact ⟨k', j, h1, by omega, h3⟩
      · exact ⟨k, j, by omega, by omega, h1, h2, h3⟩
    · rintro ⟨k', j, h1, h2, h3, h4, h5⟩
      by_cases q' : k' = k
      · subst q'; exact Or.inr ⟨j, h3, h4, h5⟩
      · exact Or.inl ⟨k', j, h1, by omega, h3, h4, h5⟩
theorem mqC_bit (n : Int) (sz fo : Int → Int) (b : Nat) : ∀ k : Nat, (mqC n sz fo k).toNat.testBit b = true ↔ ∃ k' j : Int, 0 ≤ k' ∧ k' < k ∧ 0 ≤ j ∧ j < n.toNat ∧ (DC sz (fo k') j).toNat = b
  | 0 => by
    rw [mqC]
    refine ⟨fun h => by simp at h, fun ⟨k', _, a, c, _⟩ => by omega⟩
  | k + 1 => by
    rw [mqC, mb_bit, mqC_bit n sz fo b k]
    constructor
    · rintro (⟨k', j, h1, h2, h3⟩ | ⟨j, h1, h2, h3⟩)
      · exact ⟨k', j, h1, by omega, h3⟩
      · exact ⟨k, j, by omega, by omega, h1, h2, h3⟩
    · rintro ⟨k', j, h1, h2, h3, h4, h5⟩
      by_cases q' : k' = k
      · subst q'; exact Or.inr ⟨j, h3, h4, h5⟩
      · exact Or.inl ⟨k', j, h1, by omega, h3, h4, h5⟩
theorem mb_nn (hs : Int → Int) {z : Int} (hz : 0 ≤ z) : ∀ i : Nat, 0 ≤ mb hs z i
  | 0 => by rw [mb]; exact hz
  | i + 1 => by rw [mb]; unfold orI; omega
theorem mq_nn (n : Int) (rm q : Int → Int) : ∀ k : Nat, 0 ≤ mq n rm q k
  | 0 => by rw [mq]; omega
  | k + 1 => by rw [mq]; exact mb_nn _ (mq_nn n rm q k) _
theorem mqC_nn (n : Int) (sz fo : Int → Int) : ∀ k : Nat, 0 ≤ mqC n sz fo k
  | 0 => by rw [mqC]; omega
  | k + 1 => by rw [mqC]; exact mb_nn _ (mqC_nn n sz fo k) _
theorem RE_TB {n tp dr : Int} {rm sz : Int → Int} (hr : Rm n sz) (hrm : ∀ i, 0 ≤ i → i < n → rm i = sz i) {M x0 : Int} {fo lv ca pp : Int → Int} {r : Int} (hT : TB (mT sz n) M (nxC n tp dr sz) (fun _ _ => true) x0 fo lv ca r (24 * r) pp) (x00 : 0 ≤ x0) (x01 : x0 < mT sz n) {q : Int → Int} {k : Int} (hR : RE (mT rm n) (nxM n tp dr rm) (ph n rm sz x0) q k) : (∀ i, 0 ≤ i → i < k → ∃ j, 0 ≤ j ∧ j < r ∧ q i = ph n rm sz (fo j)) ∧ ∀ j, 0 ≤ j → j < r → ∃ i, 0 ≤ i ∧ i < k ∧ q i = ph n rm sz (fo j) := by
  have hI := IS_ph (tp := tp) (dr := dr) hr hrm (i := -1) (v := 0) (Or.inl rfl)
  have hC : NCr (mT sz n) (nxD n tp dr sz) (nxC n tp dr sz) := fun x a x0 x1 => ⟨nxC_D hr x0 x1 a, nxC_r hr x0 x1 a⟩
  refine ⟨fun i i0 i1 => ?_, fun j j0 j1 => ?_⟩
  · obtain ⟨-, -, l, hl⟩ := hR.2.2.1 i i0 i1
    obtain ⟨y, y0, y1, y2, y3⟩ := (PT_is hI l x0 (q i) x00 x01).mp hl
    obtain ⟨j, j0, j1, j2, -⟩ := OP_f0 hC hT ((PT_OP l x0 y).mp y2)
    exact ⟨j, j0, j1, by rw [y3, j2]⟩
  · have ho := (rK_r hC hT j0 j1).1
    have hj := hT.2.2.2.2.1 j j0 j1
    have hp := (PT_is hI _ x0 (ph n rm sz (fo j)) x00 x01).mpr ⟨fo j, hj.1, hj.2.1, (PT_OP _ _ _).mpr ho, rfl⟩
    exact hR.2.2.2.2 _ _ hp
theorem le_ch {a b : Int} {q : Int → Int} {f : Int → Int} (b0 : 0 ≤ b) (h : ∀ i, 0 ≤ i → i < a → ∃ j, 0 ≤ j ∧ j < b ∧ q i = f j) (hi : ∀ i i', 0 ≤ i → i < i' → i' < a → q i ≠ q i') : a ≤ b := by
  have h' : ∀ i : Nat, ∃ j : Nat, (i : Int) < a → (j : Int) < b ∧ q i = f j := fun i => by
    by_cases w : (i : Int) < a
    · obtain ⟨j, j0, j1, j2⟩ := h i (by omega) w
      exact ⟨j.toNat, fun _ => ⟨by omega, by rw [Int.toNat_of_nonneg j0]; exact j2⟩⟩
    · exact ⟨0, fun w' => absurd w' w⟩
  have := fb_holes b.toNat a.toNat (fun i => Classical.choose (h' i)) (fun i hi' => by
    have := Classical.choose_spec (h' i) (by omega)
    show Classical.choose (h' i) < b.toNat
    omega) (fun i j hij hj e => by
    have h1 := (Classical.choose_spec (h' i) (by omega)).2
    have h2 := (Classical.choose_spec (h' j) (by omega)).2
    have e : Classical.choose (h' i) = Classical.choose (h' j) := e
    rw [e] at h1
    exact hi i j (by omega) (by omega) (by omega) (h1.trans h2.symm))
  omega
theorem reach_eq {n tp dr : Int} {rm sz : Int → Int} (hr : Rm n sz) (hrm : ∀ i, 0 ≤ i → i < n → rm i = sz i) {M x0 : Int} {fo lv ca pp : Int → Int} {r : Int} (hT : TB (mT sz n) M (nxC n tp dr sz) (fun _ _ => true) x0 fo lv ca r (24 * r) pp) (x00 : 0 ≤ x0) (x01 : x0 < mT sz n) {q : Int → Int} {k : Int} (hR : RE (mT rm n) (nxM n tp dr rm) (ph n rm sz x0) q k) : k = r ∧ mq n rm q k.toNat = mqC n sz fo r.toNat := by
  obtain ⟨h1, h2⟩ := RE_TB hr hrm hT x00 x01 hR
  have hk : k = r := by
    have a1 := le_ch (by have := hT.1; omega) h1 hR.2.2.2.1
    have a2 : r ≤ k := le_ch (q := fun j => ph n rm sz (fo j)) (f := q) (by have := hR.1; omega) (fun j j0 j1 => by
      obtain ⟨i, i0, i1, i2⟩ := h2 j j0 j1
      exact ⟨i, i0, i1, i2.symm⟩) (fun i i' a b c e => by
      have ri := hT.2.2.2.2.1 i a (by omega)
      have rj := hT.2.2.2.2.1 i' (by omega) (by omega)
      exact hT.2.2.2.2.2.2.1 i i' a b c (ph_inj hr hrm ri.1 ri.2.1 rj.1 rj.2.1 e))
    omega
  refine ⟨hk, ?_⟩
  have e1 := mq_nn n rm q k.toNat
  have e2 := mqC_nn n sz fo r.toNat
  have hn := hr.1
  have : (mq n rm q k.toNat).toNat = (mqC n sz fo r.toNat).toNat := by
    apply Nat.eq_of_testBit_eq
    intro b
    rw [Bool.eq_iff_iff, mq_bit, mqC_bit]
    constructor
    · rintro ⟨k', j, a1, a2, a3, a4, a5⟩
      obtain ⟨i, i0, i1, i2⟩ := h1 k' a1 (by omega)
      refine ⟨i, j, i0, by omega, a3, a4, ?_⟩
      rw [i2, DG_ph hr hrm (fo i) a3 (by omega)] at a5
      exact a5
    · rintro ⟨k', j, a1, a2, a3, a4, a5⟩
      obtain ⟨i, i0, i1, i2⟩ := h2 k' a1 (by omega)
      refine ⟨i, j, i0, by omega, a3, a4, ?_⟩
      rw [i2, DG_ph hr hrm (fo k') a3 (by omega)]
      exact a5
  omega
