theorem CB_LA {n tp dr : Int} {rm p14 p15 : Int → Int} {z : Int} (h : LA n tp dr rm p14 p15 z) (ea : Int) (cs : Int → Int) {x a : Int} (h0 : 0 ≤ x) (a0 : 0 ≤ a) (a1 : a < 24) (hz : 24 * x + a < z) : CB (fun s a => p14 (24 * s + a)) (fun s a => p15 (24 * s + a)) ea cs x a = CB (nxM n tp dr rm) (spM n tp dr rm) ea cs x a := by
  obtain ⟨e1, e2⟩ := h x a h0 a0 a1 hz
  simp only [CB, e1, e2]
/-- one round of the search: what was better, and what was looked at -/
def RD (N : Int) (nx sp : Int → Int → Int) (ea : Int) (go : Int → Bool) (cs cs2 : Int → Int) (mo z : Int) : Prop :=
  (mo = 0 ∨ mo = 1) ∧ FI N nx sp ea go cs2 ∧ (mo = 1 → sT cs2 N < sT cs N) ∧ (mo = 0 → cs2 = cs ∧ ∀ s b, 0 ≤ s → 0 ≤ b → b < 24 → 24 * s + b < z → cs s ≤ CB nx sp ea cs s b)
theorem RD_0 {N : Int} {nx sp : Int → Int → Int} {ea : Int} {go : Int → Bool} {cs : Int → Int} (h : FI N nx sp ea go cs) : RD N nx sp ea go cs cs 0 0 := ⟨Or.inl rfl, h, fun q => absurd q (by decide), fun _ => ⟨rfl, fun s b h1 h2 h3 h4 => absurd h4 (by omega)⟩⟩
theorem RD_no {N : Int} {nx sp : Int → Int → Int} {ea : Int} {go : Int → Bool} {cs cs2 : Int → Int} {mo x a : Int} (h : RD N nx sp ea go cs cs2 mo (24 * x + a)) (ha : 0 ≤ a) (ha2 : a < 24) (hc : cs2 x ≤ CB nx sp ea cs2 x a) : RD N nx sp ea go cs cs2 mo (24 * x + (a + 1)) := by
  obtain ⟨h1, h2, h3, h4⟩ := h
  refine ⟨h1, h2, h3, fun q => ?_⟩
  obtain ⟨e, h5⟩ := h4 q
  refine ⟨e, fun s b hs hb hb2 hz => ?_⟩
  by_cases e2 : 24 * s + b = 24 * x + a
  · have e3 : s = x := by omega
    have e4 : b = a := by omega
    subst e3; subst e4; subst e
    exact hc
  · exact h5 s b hs hb hb2 (by omega)
theorem RD_yes {N : Int} {nx sp : Int → Int → Int} {ea : Int} {go : Int → Bool} {cs cs2 : Int → Int} {mo x a z : Int} (hN : NX N nx sp) (he : ea = 0 ∨ ea = 20000) (h : RD N nx sp ea go cs cs2 mo z) (h0 : 0 ≤ x) (h1 : x < N) (a0 : 0 ≤ a) (a1 : a < 24) (hc : CB nx sp ea cs2 x a < cs2 x) : RD N nx sp ea go cs (uf cs2 x (CB nx sp ea cs2 x a)) 1 (24 * x + (a + 1)) := by
  obtain ⟨h3, h4, h5, h6⟩ := h
  refine ⟨Or.inr rfl, FI_s hN he h4 h0 h1 a0 a1 hc, fun _ => ?_, fun q => absurd q (by decide)⟩
  rw [sT_uf _ _ _ h0 h1]
  rcases h3 with e | e
  · rw [(h6 e).1] at hc ⊢
    omega
  · have := h5 e
    omega
theorem RD_end {N : Int} {nx sp : Int → Int → Int} {ea : Int} {go : Int → Bool} {cs cs2 : Int → Int} {mo : Int} (h : RD N nx sp ea go cs cs2 mo (24 * N)) : mo = 0 → FC N nx sp ea go cs2 := by
  intro q
  obtain ⟨e, h5⟩ := h.2.2.2 q
  refine ⟨h.2.1, fun s a h0 h1 a0 a1 => ?_⟩
  rw [e]
  exact h5 s a h0 a0 a1 (by omega)
theorem FI_nn {N : Int} {nx sp : Int → Int → Int} {ea : Int} {go : Int → Bool} {cs : Int → Int} (h : FI N nx sp ea go cs) : 0 ≤ sT cs N := sT_nn (fun s a b => (h s a b).1)
theorem Rm_own {I : Nat → Int} {A : Nat → Int → Int} (h : Mok I A) (g : Int → Int) : Rm (I 0) (cpN (I 0) (A 1) g) := ⟨h.1, h.2.1, fun i h0 h1 => by rw [cpN_in h0 h1]; exact h.2.2.2.2.1 i h0 h1⟩
theorem Vh_own {I : Nat → Int} {A : Nat → Int → Int} (h : Mok I A) (g1 g2 : Int → Int) : Vh (I 0) (cpN (I 0) (A 1) g1) (cpN (I 0) (A 2) g2) := fun i h0 h1 => by
  rw [cpN_in h0 h1, cpN_in h0 h1]
  exact h.2.2.2.2.2.1 i h0 h1
/-- what findCosts leaves -/
def FCO (I I' : Nat → Int) (A A' : Nat → Int → Int) (i v ea : Int) : Prop :=
  RS I I' A A' ∧ I' 7 = I 0 ∧ I' 10 = I 3 ∧ I' 11 = I 4 ∧ Rm (I 0) (A' 8) ∧ (∀ j, 0 ≤ j → j < I 0 → A' 8 j = A 1 j) ∧ I' 17 = nT (A' 8) (A 2) (I 0) ∧ LA (I 0) (I 3) (I 4) (A' 8) (A' 14) (A' 15) (24 * mT (A' 8) (I 0)) ∧ FC (mT (A' 8) (I 0)) (nxM (I 0) (I 3) (I 4) (A' 8)) (spM (I 0) (I 3) (I 4) (A' 8)) ea (goM (I 0) (A' 8) i v) (A' 16)
theorem cb_to {n tp dr : Int} {rm p14 p15 : Int → Int} {z N ea : Int} {go : Int → Bool} {cs : Int → Int} (h : LA n tp dr rm p14 p15 z) (hN : NX N (nxM n tp dr rm) (spM n tp dr rm)) (hF : FI N (nxM n tp dr rm) (spM n tp dr rm) ea go cs) {x a : Int} (h0 : 0 ≤ x) (h1 : x < N) (a0 : 0 ≤ a) (a1 : a < 24) (hz : 24 * x + a < z) (hM : N ≤ 14641) : p14 (24 * x + a) = -1 ∨ (0 ≤ p14 (24 * x + a) ∧ p14 (24 * x + a) < 14641 ∧ 0 ≤ cs (p14 (24 * x + a)) ∧ cs (p14 (24 * x + a)) ≤ 1000000000) := by
  rw [(h x a h0 a0 a1 hz).1]
  rcases (hN x a h0 h1 a0 a1).1 with e | e
  · exact Or.inl e
  · have := hF _ e.1 e.2
    unfold fFAR at this
    exact Or.inr ⟨e.1, by omega, this.1, this.2.1⟩
