/-! ===== pure: the road ===== -/
def rA (si sj a b : Int) : Int := if b = sj then a else if a = 0 then si else a - (if a < sj - b then a else sj - b)
def rB (sj a b : Int) : Int := if b = sj then 0 else if a = 0 then b else b + (if a < sj - b then a else sj - b)
def rdF (si sj v : Int) : Nat → Int → Int → Int → Int
  | 0, _, _, _ => -99
  | f + 1, k, a, b => if rA si sj a b = v ∨ rB sj a b = v then k + 1 else if rA si sj a b = 0 ∧ rB sj a b = 0 then -1 else rdF si sj v f (k + 1) (rA si sj a b) (rB sj a b)
set_option maxRecDepth 100000 in
theorem rdF_all : ∀ i, i < 10 → ∀ j, j < 10 → ∀ v, v < 10 → rdF ((i : Nat) + 1) ((j : Nat) + 1) ((v : Nat) + 1) 121 0 0 0 ≠ -99 := by decide +kernel
theorem rdF_ok {si sj v : Int} (h1 : 1 ≤ si ∧ si ≤ 10) (h2 : 1 ≤ sj ∧ sj ≤ 10) (h3 : 1 ≤ v ∧ v ≤ 10) : rdF si sj v 121 0 0 0 ≠ -99 := by
  have := rdF_all (si - 1).toNat (by omega) (sj - 1).toNat (by omega) (v - 1).toNat (by omega)
  rwa [Int.toNat_of_nonneg (by omega), Int.toNat_of_nonneg (by omega), Int.toNat_of_nonneg (by omega), Int.sub_add_cancel, Int.sub_add_cancel, Int.sub_add_cancel] at this
theorem rd_r {si sj a b : Int} (h1 : 1 ≤ si) (h2 : 1 ≤ sj) (ha : 0 ≤ a ∧ a ≤ si) (hb : 0 ≤ b ∧ b ≤ sj) : (0 ≤ rA si sj a b ∧ rA si sj a b ≤ si) ∧ 0 ≤ rB sj a b ∧ rB sj a b ≤ sj := by
  unfold rA rB
  (repeat' split) <;> omega
theorem rdF_s {si sj v : Int} {k a b : Int} (hk : 0 ≤ k) (h : rdF si sj v (121 - k).toNat k a b ≠ -99) : k < 121 ∧ rdF si sj v (121 - k).toNat k a b = if rA si sj a b = v ∨ rB sj a b = v then k + 1 else if rA si sj a b = 0 ∧ rB sj a b = 0 then -1 else rdF si sj v (121 - (k + 1)).toNat (k + 1) (rA si sj a b) (rB sj a b) := by
  by_cases q : k < 121
  · refine ⟨q, ?_⟩
    obtain ⟨f, hf⟩ : ∃ f : Nat, (121 - k).toNat = f + 1 := ⟨(121 - (k + 1)).toNat, by omega⟩
    have e : (121 - (k + 1)).toNat = f := by omega
    rw [hf, e, rdF]
  · exfalso
    rw [show (121 - k).toNat = 0 by omega] at h
    exact h rfl
