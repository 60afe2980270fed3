/-! ===== pure: sand glasses ===== -/
theorem shr_ok : ∀ x : Nat, x < 8 → ∀ y : Nat, y < 3 → ((J (x : Int) >>> (J (y : Int) &&& 31)) : Int32) = J ((x / 2 ^ y : Nat) : Int) := by decide
theorem andI_1 {x : Int} (h : 0 ≤ x) : andI x 1 = x % 2 := by
  unfold andI
  have e : (1 : Int).toNat = 1 := rfl
  rw [e, Nat.and_one_is_mod]
  omega
section GLR
variable {p : Program} {l : Launch} {e : Env} {Rm : Room} {s : State} {m : MethodId} {args : Array Value} {below : List Frame} {meth : Method} {c : Code} {H : Heap} {locs : List Loc} {cells slots : Nat} {Q : State → Prop}
variable {cc : ByteArray} {pc : Nat} {ls : Array Slot} {rest : List Value}
theorem j_ishr (hexec : p.tables.exec = Jvm.exec) (hb : c.code = cc) {x y : Int} (h0 : 0 ≤ x) (h1 : x < 8) (h2 : 0 ≤ y) (h3 : y < 3) (hdg : decode cc pc = .ok (.ishr, 1)) (k : W p l e Rm s m args below meth c H locs cells slots Q (F0 m (pc + 1) ls (.int (J (x / 2 ^ y.toNat)) :: rest))) : W p l e Rm s m args below meth c H locs cells slots Q (F0 m pc ls (.int (J y) :: .int (J x) :: rest)) := by
  refine lv_ishr hexec hb hdg ?_
  have h9 := shr_ok x.toNat (by omega) y.toNat (by omega)
  rw [Int.toNat_of_nonneg h0, Int.toNat_of_nonneg h2] at h9
  rw [h9]
  have e1 : ((x.toNat / 2 ^ y.toNat : Nat) : Int) = x / 2 ^ y.toNat := by
    rw [Int.natCast_ediv, Int.toNat_of_nonneg h0]
    simp
  rw [e1]
  exact k
theorem j_and1 (hexec : p.tables.exec = Jvm.exec) (hb : c.code = cc) {x : Int} (h0 : 0 ≤ x) (hdg : decode cc pc = .ok (.iand, 1)) (k : W p l e Rm s m args below meth c H locs cells slots Q (F0 m (pc + 1) ls (.int (J (x % 2)) :: rest))) : W p l e Rm s m args below meth c H locs cells slots Q (F0 m pc ls (.int (J 1) :: .int (J x) :: rest)) := by
  refine lv_iand hexec hb hdg ?_
  rw [J_and h0 (by decide), andI_1 h0]
  exact k
end GLR
/-- digits -/
def dq (b x : Int) : Nat → Int
  | 0 => x
  | k + 1 => dq b x k / b
theorem dq_s (b x : Int) {k : Int} (h : 0 ≤ k) : dq b x (k + 1).toNat = dq b x k.toNat / b := by
  rw [show (k + 1).toNat = k.toNat + 1 by omega, dq]
theorem dq_r {b x : Int} (hb : 0 < b) (h0 : 0 ≤ x) : ∀ k : Nat, 0 ≤ dq b x k ∧ dq b x k ≤ x
  | 0 => ⟨h0, Int.le_refl _⟩
  | k + 1 => by
    have h := dq_r hb h0 k
    rw [dq]
    have h1 := Int.ediv_nonneg h.1 (Int.le_of_lt hb)
    have h2 := Int.ediv_le_self b h.1
    omega
def Dg (b x : Int) : Int → Int := fun k => dq b x k.toNat % b
theorem Dg_r {b x : Int} (hb : 0 < b) (k : Int) : 0 ≤ Dg b x k ∧ Dg b x k < b := ⟨Int.emod_nonneg _ (by omega), Int.emod_lt_of_pos _ hb⟩
/-- what is above when the chosen glasses have been turned -/
def tv (sp d : Int → Int) (ch k : Int) : Int := if ch / 2 ^ k.toNat % 2 = 1 then sp k - d k else d k
/-- the first that runs out -/
def ff (v : Int → Int) (F : Int) : Nat → Int
  | 0 => F
  | k + 1 => if 0 < v k ∧ v k < ff v F k then v k else ff v F k
theorem ff_s (v : Int → Int) (F : Int) {k : Int} (h : 0 ≤ k) : ff v F (k + 1).toNat = if 0 < v k ∧ v k < ff v F k.toNat then v k else ff v F k.toNat := by
  rw [show (k + 1).toNat = k.toNat + 1 by omega, ff, Int.toNat_of_nonneg h]
theorem ff_r {v : Int → Int} {F : Int} (hF : 12 < F) {k : Nat} (hv : ∀ j : Int, 0 ≤ j → j < k → v j ≤ 12) : ff v F k = F ∨ (1 ≤ ff v F k ∧ ff v F k ≤ 12) := by
  induction k with
  | zero => exact Or.inl rfl
  | succ k ih =>
    have h := ih (fun j a b => hv j a (by omega))
    have h1 := hv k (by omega) (by omega)
    rw [ff]
    split
    · omega
    · exact h
/-- the code of digits -/
def ec (b : Int) (d : Int → Int) : Nat → Int
  | 0 => 0
  | k + 1 => ec b d k + d k * b ^ k
theorem ec_s (b : Int) (d : Int → Int) {k : Int} (h : 0 ≤ k) : ec b d (k + 1).toNat = ec b d k.toNat + d k * b ^ k.toNat := by
  rw [show (k + 1).toNat = k.toNat + 1 by omega, ec, Int.toNat_of_nonneg h]
theorem ec_r {b : Int} {d : Int → Int} (hb : 0 < b) : ∀ (k : Nat), (∀ j : Int, 0 ≤ j → j < k → 0 ≤ d j ∧ d j < b) → 0 ≤ ec b d k ∧ ec b d k < b ^ k
  | 0, _ => by rw [ec, Int.pow_zero]; omega
  | k + 1, hd => by
    have h := ec_r hb k (fun j a c => hd j a (by omega))
    have h1 := hd k (by omega) (by omega)
    have hp : 0 < b ^ k := Int.pow_pos hb
    rw [ec, Int.pow_succ]
    have h2 : d k * b ^ k ≤ (b - 1) * b ^ k := Int.mul_le_mul_of_nonneg_right (by omega) (by omega)
    have h3 : 0 ≤ d k * b ^ k := Int.mul_nonneg h1.1 (by omega)
    have h4 : (b - 1) * b ^ k = b ^ k * b - b ^ k := by rw [Int.sub_mul, Int.one_mul, Int.mul_comm]
    rw [h4] at h2
    omega
/-- the class's leap: the next state, times 16, and the moments until then; -1: none -/
def lv9 (n : Int) (sp : Int → Int) (x ch : Int) : Int → Int := tv sp (Dg 12 x) ch
def lf (n : Int) (sp : Int → Int) (x ch : Int) : Int := ff (lv9 n sp x ch) 1000000 n.toNat
def lt9 (n : Int) (sp : Int → Int) (x ch : Int) : Int := ec 12 (fun k => max 0 (lv9 n sp x ch k - lf n sp x ch)) n.toNat
def lp (n : Int) (sp : Int → Int) (x ch : Int) : Int := if lf n sp x ch = 1000000 then -1 else lt9 n sp x ch * 16 + lf n sp x ch
def Sok (n : Int) (sp : Int → Int) : Prop := 0 ≤ n ∧ n ≤ 3 ∧ ∀ k, 0 ≤ k → k < n → 1 ≤ sp k ∧ sp k ≤ 12
theorem lv9_r {n : Int} {sp : Int → Int} (h : Sok n sp) {x ch k : Int} (k0 : 0 ≤ k) (k1 : k < n) : -11 ≤ lv9 n sp x ch k ∧ lv9 n sp x ch k ≤ 12 := by
  have h1 := h.2.2 k k0 k1
  have h2 := Dg_r (b := 12) (x := x) (by omega) k
  unfold lv9 tv
  split <;> omega
theorem lf_r {n : Int} {sp : Int → Int} (h : Sok n sp) (x ch : Int) : lf n sp x ch = 1000000 ∨ (1 ≤ lf n sp x ch ∧ lf n sp x ch ≤ 12) :=
  ff_r (by omega) (fun j a b => (lv9_r h a (by have := h.1; omega)).2)
theorem lt9_d {n : Int} {sp : Int → Int} (h : Sok n sp) (x ch : Int) (hf : lf n sp x ch ≠ 1000000) {j : Int} (a : 0 ≤ j) (b : j < n) : 0 ≤ max 0 (lv9 n sp x ch j - lf n sp x ch) ∧ max 0 (lv9 n sp x ch j - lf n sp x ch) < 12 := by
  have h1 := lf_r h x ch
  have h2 := lv9_r h (x := x) (ch := ch) a b
  omega
theorem lt9_r {n : Int} {sp : Int → Int} (h : Sok n sp) (x ch : Int) (hf : lf n sp x ch ≠ 1000000) : 0 ≤ lt9 n sp x ch ∧ lt9 n sp x ch < 12 ^ n.toNat :=
  ec_r (by omega) n.toNat (fun j a b => lt9_d h x ch hf a (by have := h.1; omega))
theorem p12 {n : Int} (h0 : 0 ≤ n) (h1 : n ≤ 3) : (12 : Int) ^ n.toNat = k_states n := by
  have : n = 0 ∨ n = 1 ∨ n = 2 ∨ n = 3 := by omega
  rcases this with rfl | rfl | rfl | rfl <;> decide
theorem st_r {n : Int} (h0 : 0 ≤ n) (h1 : n ≤ 3) : 1 ≤ k_states n ∧ k_states n ≤ 1728 := by
  have : n = 0 ∨ n = 1 ∨ n = 2 ∨ n = 3 := by omega
  rcases this with rfl | rfl | rfl | rfl <;> decide
theorem p2n {n : Int} (h0 : 0 ≤ n) (h1 : n ≤ 3) : 1 ≤ (2 : Int) ^ n.toNat ∧ (2 : Int) ^ n.toNat ≤ 8 := by
  have : n = 0 ∨ n = 1 ∨ n = 2 ∨ n = 3 := by omega
  rcases this with rfl | rfl | rfl | rfl <;> decide
theorem lp_r {n : Int} {sp : Int → Int} (h : Sok n sp) (x ch : Int) : lp n sp x ch = -1 ∨ (0 ≤ lp n sp x ch / 16 ∧ lp n sp x ch / 16 < k_states n ∧ 1 ≤ lp n sp x ch % 16 ∧ lp n sp x ch % 16 ≤ 12 ∧ 0 ≤ lp n sp x ch) := by
  unfold lp
  split
  · exact Or.inl rfl
  · next hf =>
    have h1 := lf_r h x ch
    have h2 := lt9_r h x ch hf
    rw [p12 h.1 h.2.1] at h2
    right
    omega
/-- how many are turned -/
def bc (ch : Int) : Int := ch % 2 + ch / 2 % 2 + ch / 4 % 2
theorem bc_r (ch : Int) : 0 ≤ bc ch ∧ bc ch ≤ 3 := by unfold bc; omega
