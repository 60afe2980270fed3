/-! ===== pure: the row that the reference tells, act by act ===== -/
def sr (q : Int → Bool) : Nat → Int → Int
  | 0, a => a
  | f + 1, a => if q a then a else sr q f (a + 1)
theorem sr_spec (q : Int → Bool) : ∀ (f : Nat) (a : Int), (∃ b, a ≤ b ∧ b < a + f ∧ q b = true) → q (sr q f a) = true ∧ a ≤ sr q f a ∧ sr q f a < a + f ∧ ∀ b, a ≤ b → b < sr q f a → q b = false
  | 0, a, h => by obtain ⟨b, h1, h2, -⟩ := h; omega
  | f + 1, a, h => by
    unfold sr
    cases hq : q a with
    | true => simp; exact ⟨hq, by omega, fun b h1 h2 => by omega⟩
    | false =>
      obtain ⟨b, h1, h2, h3⟩ := h
      have hne : b ≠ a := fun e => by rw [e, hq] at h3; cases h3
      obtain ⟨k1, k2, k3, k4⟩ := sr_spec q f (a + 1) ⟨b, by omega, by omega, h3⟩
      simp
      refine ⟨k1, by omega, by omega, fun c c1 c2 => ?_⟩
      by_cases e : c = a
      · rw [e]; exact hq
      · exact k4 c (by omega) c2
/-- the first act that leads on by the least -/
def fA (nx sp : Int → Int → Int) (ea : Int) (cs : Int → Int) (s : Int) : Int := sr (fun a => decide (CB nx sp ea cs s a = cs s)) 24 0
def gr (nx sp : Int → Int → Int) (ea : Int) (cs : Int → Int) : Nat → Int → Int
  | 0, s => if cs s = 0 ∨ cs s = fFAR then -1 else fA nx sp ea cs s
  | k + 1, s => if cs s = 0 ∨ cs s = fFAR then -1 else gr nx sp ea cs k (nx s (fA nx sp ea cs s))
theorem gr_stop {nx sp : Int → Int → Int} {ea : Int} {cs : Int → Int} {s : Int} (h : cs s = 0 ∨ cs s = fFAR) : ∀ k : Nat, gr nx sp ea cs k s = -1
  | 0 => by unfold gr; rw [if_pos h]
  | k + 1 => by unfold gr; rw [if_pos h]
theorem gr_z {nx sp : Int → Int → Int} {ea : Int} {cs : Int → Int} {s : Int} (h : ¬ (cs s = 0 ∨ cs s = fFAR)) {k : Int} (hk : k = 0) : gr nx sp ea cs k.toNat s = fA nx sp ea cs s := by
  subst hk
  show gr nx sp ea cs 0 s = _
  unfold gr
  rw [if_neg h]
theorem gr_s {nx sp : Int → Int → Int} {ea : Int} {cs : Int → Int} {s : Int} (h : ¬ (cs s = 0 ∨ cs s = fFAR)) {k : Int} (hk : 0 < k) : gr nx sp ea cs k.toNat s = gr nx sp ea cs (k - 1).toNat (nx s (fA nx sp ea cs s)) := by
  obtain ⟨j, hj⟩ : ∃ j : Nat, k.toNat = j + 1 := ⟨(k - 1).toNat, by omega⟩
  have e2 : (k - 1).toNat = j := by omega
  rw [hj, e2, gr, if_neg h]
theorem fA_is {nx sp : Int → Int → Int} {ea : Int} {cs : Int → Int} {s a : Int} (a0 : 0 ≤ a) (a1 : a < 24) (hb : ∀ b, 0 ≤ b → b < a → CB nx sp ea cs s b ≠ cs s) (ha : CB nx sp ea cs s a = cs s) : fA nx sp ea cs s = a := by
  obtain ⟨k1, k2, k3, k4⟩ := sr_spec (fun a => decide (CB nx sp ea cs s a = cs s)) 24 0 ⟨a, a0, by omega, by simp [ha]⟩
  change fA nx sp ea cs s = a
  unfold fA
  generalize sr (fun a => decide (CB nx sp ea cs s a = cs s)) 24 0 = z at *
  by_cases e : z = a
  · exact e
  · exfalso
    by_cases q : z < a
    · exact hb z k2 q (by simpa using k1)
    · have := k4 a a0 (by omega)
      simp [ha] at this
theorem fA_spec {N : Int} {nx sp : Int → Int → Int} {ea : Int} {go : Int → Bool} {cs : Int → Int} (hN : NX N nx sp) (he : 0 ≤ ea) (hF : FC N nx sp ea go cs) {s : Int} (h0 : 0 ≤ s) (h1 : s < N) (hs : ¬ (cs s = 0 ∨ cs s = fFAR)) : 0 ≤ fA nx sp ea cs s ∧ fA nx sp ea cs s < 24 ∧ CB nx sp ea cs s (fA nx sp ea cs s) = cs s ∧ ∀ b, 0 ≤ b → b < fA nx sp ea cs s → CB nx sp ea cs s b ≠ cs s := by
  obtain ⟨a, a0, a1, h⟩ := FC_act hN he hF h0 h1 (fun q => hs (Or.inl q)) (fun q => hs (Or.inr q))
  obtain ⟨k1, k2, k3, k4⟩ := sr_spec (fun a => decide (CB nx sp ea cs s a = cs s)) 24 0 ⟨a, a0, by omega, by simp [h]⟩
  unfold fA
  refine ⟨k2, by omega, by simpa using k1, fun b b0 b1 => ?_⟩
  have := k4 b b0 b1
  simpa using this
theorem CB_nx {nx sp : Int → Int → Int} {ea : Int} {cs : Int → Int} {s a : Int} (h : CB nx sp ea cs s a = cs s) (hs : ¬ (cs s = 0 ∨ cs s = fFAR)) : nx s a ≠ -1 ∧ cs (nx s a) ≠ fFAR ∧ cs s = cs (nx s a) + 1 + ea * sp s a := by
  unfold CB at h
  split at h
  · exact absurd (Or.inr h.symm) hs
  · next q => exact ⟨fun e => q (Or.inl e), fun e => q (Or.inr e), h.symm⟩
