/-! ===== pure: looking through what was found ===== -/
def fnd (fo : Int → Int) (q : Int → Bool) : Nat → Int → Int
  | 0, _ => -1
  | f + 1, k => if q (fo k) then fo k else fnd fo q f (k + 1)
theorem fnd_s (fo : Int → Int) (q : Int → Bool) {r k : Int} (h : k < r) : fnd fo q (r - k).toNat k = if q (fo k) then fo k else fnd fo q (r - (k + 1)).toNat (k + 1) := by
  have e : (r - k).toNat = (r - (k + 1)).toNat + 1 := by omega
  rw [e, fnd]
theorem p_any_congr {hd hd2 : Int → Int} {v : Int} : ∀ (k : Nat), (∀ j : Int, 0 ≤ j → j < k → hd j = hd2 j) → p_any hd v k = p_any hd2 v k
  | 0, _ => rfl
  | k + 1, h => by rw [p_any, p_any, p_any_congr k (fun j a b => h j a (by omega)), h k (by omega) (by omega)]
theorem p_meet_congr {n : Int} {hd hd2 : Int → Int} (h : ∀ j, 0 ≤ j → j < n → hd j = hd2 j) (i v : Int) : p_meet n hd i v = p_meet n hd2 i v := by
  unfold p_meet
  split
  · by_cases q : 0 ≤ i ∧ i < n
    · rw [h i q.1 q.2]
    · rw [if_neg (by omega), if_neg (by omega)]
  · rw [p_any_congr n.toNat (fun j a b => h j a (by omega))]
theorem p_meet_r (n : Int) (hd : Int → Int) (i v : Int) : p_meet n hd i v = 0 ∨ p_meet n hd i v = 1 := by
  unfold p_meet
  (repeat' split) <;> omega
/-- does a code meet the aim -/
def goC (n : Int) (sz : Int → Int) (i v x : Int) : Bool := decide (p_meet n (DC sz x) i v = 1)
theorem meet_stand (n : Int) (sz hd : Int → Int) (x i v : Int) : p_meet n (p_stand n sz hd x) i v = p_meet n (DC sz x) i v := p_meet_congr (fun _ a b => p_stand_DC a b) i v
def mqC (n : Int) (sz fo : Int → Int) : Nat → Int
  | 0 => 0
  | k + 1 => mb (DC sz (fo k)) (mqC n sz fo k) n.toNat
theorem mqC_s (n : Int) (sz fo : Int → Int) {i : Int} (h : 0 ≤ i) : mqC n sz fo (i + 1).toNat = mb (DC sz (fo i)) (mqC n sz fo i.toNat) n.toNat := by
  have h1 : (i + 1).toNat = i.toNat + 1 := by omega
  rw [h1, mqC, Int.toNat_of_nonneg h]
