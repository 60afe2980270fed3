theorem cs0_go {N : Int} {nx sp : Int → Int → Int} {ea : Int} {go : Int → Bool} {cs : Int → Int} (hN : NX N nx sp) (he : 0 ≤ ea) (hF : FI N nx sp ea go cs) {s : Int} (h0 : 0 ≤ s) (h1 : s < N) (hs : cs s = 0) : go s = true := by
  obtain ⟨l, hl⟩ := (hF s h0 h1).2.2.2 (by rw [hs]; decide)
  cases l with
  | nil => exact hl.1
  | cons a t =>
    obtain ⟨a0, a1, a2, c', h2, h3⟩ := hl
    obtain ⟨n1, n2, n3⟩ := hN s a h0 h1 a0 a1
    have h5 : 0 ≤ ea * sp s a := Int.mul_nonneg he n2
    have := RW_nn hN he t (nx s a) c' (by omega) (by omega) h2
    omega
theorem ct_end {nx : Int → Int → Int} {go : Int → Bool} {z x : Int} (hz : 0 < z) : cS nx go (z - 1).toNat x 24 = min mM (ct nx go z.toNat x) := by
  have e : z.toNat = (z - 1).toNat + 1 := by omega
  rw [e, ct]
  rfl
theorem cS_0 (nx : Int → Int → Int) (go : Int → Bool) (k : Nat) (s : Int) : cS nx go k s 0 = 0 := by
  unfold cS
  rw [sT_0]
  decide
/-- the table of counts stands for all costs below z, and for z below x -/
def RT (N : Int) (nx : Int → Int → Int) (go : Int → Bool) (cs rw9 : Int → Int) (z x : Int) : Prop := ∀ s, 0 ≤ s → s < N → (cs s < z ∨ (cs s = z ∧ s < x)) → rw9 s = min mM (ct nx go (cs s).toNat s)
