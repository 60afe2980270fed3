/-- the first of those that spill least, among the first k found -/
def thF (fo : Int → Int) (q : Int → Bool) (le : Int → Int) : Nat → Int
  | 0 => -1
  | k + 1 => if q (fo k) = true ∧ (thF fo q le k = -1 ∨ le (fo k) < le (thF fo q le k)) then fo k else thF fo q le k
theorem thF_s (fo : Int → Int) (q : Int → Bool) (le : Int → Int) {k : Int} (h : 0 ≤ k) : thF fo q le (k + 1).toNat = if q (fo k) = true ∧ (thF fo q le k.toNat = -1 ∨ le (fo k) < le (thF fo q le k.toNat)) then fo k else thF fo q le k.toNat := by
  have h1 : (k + 1).toNat = k.toNat + 1 := by omega
  rw [h1, thF, Int.toNat_of_nonneg h]
/-- the sum of ways over those found on a level that meet the aim, up to the bound -/
def wyF (fo lv : Int → Int) (q : Int → Bool) (wy : Int → Int) (d : Int) : Nat → Int
  | 0 => 0
  | k + 1 => if lv (fo k) = d ∧ q (fo k) = true then min mM (wyF fo lv q wy d k + wy (fo k)) else wyF fo lv q wy d k
theorem wyF_s (fo lv : Int → Int) (q : Int → Bool) (wy : Int → Int) (d : Int) {k : Int} (h : 0 ≤ k) : wyF fo lv q wy d (k + 1).toNat = if lv (fo k) = d ∧ q (fo k) = true then min mM (wyF fo lv q wy d k.toNat + wy (fo k)) else wyF fo lv q wy d k.toNat := by
  have h1 : (k + 1).toNat = k.toNat + 1 := by omega
  rw [h1, wyF, Int.toNat_of_nonneg h]
theorem fnd_r {fo : Int → Int} {q : Int → Bool} {r : Int} (h : ∀ k, 0 ≤ k → k < r → 0 ≤ fo k ∧ fo k < 14641) : ∀ (f : Nat) (k : Int), 0 ≤ k → k + f ≤ r → i32 (fnd fo q f k)
  | 0, _, _, _ => by unfold fnd; exact ⟨by decide, by decide⟩
  | f + 1, k, k0, k1 => by
    unfold fnd
    split
    · have := h k k0 (by omega)
      exact ⟨by omega, by omega⟩
    · exact fnd_r h f (k + 1) (by omega) (by omega)
