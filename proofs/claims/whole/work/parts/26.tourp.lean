theorem uh_uh (h : Hp) (q : Nat) (a b : va_E) : uh (uh h q a) q b = uh h q b := by
  funext x
  unfold uh
  split <;> rfl
theorem OB.new {g : GX} {ci N : Nat} {kd : Nat → Nat} {h : Hp} {o q : Nat} {e : va_E} {R : Nat → Nat} {I : Nat → Int} {L : Nat → Int} {A : Nat → Int → Int} (hM : OB g ci N kd h o R I L A) (hq : h q = none) : OB g ci N kd (uh h q e) o R I L A := by
  have hne : ∀ a x, h a = some x → a ≠ q := fun a x hx z => by rw [z, hq] at hx; cases hx
  refine ⟨?_, fun k hk ha => ?_, hM.2.2⟩
  · rw [uh_ne _ _ (hne _ _ hM.1)]; exact hM.1
  · rw [uh_ne _ _ (hne _ _ (hM.2.1 k hk ha))]; exact hM.2.1 k hk ha
theorem raw_new {h : Hp} {a q : Nat} {e x : va_E} (ha : h a = some x) (hq : h q = none) : uh h q e a = some x := by
  rw [uh_ne _ _ (fun z => by rw [z, hq] at ha; cases ha)]
  exact ha
/-! ===== pure: tours ===== -/
def p_kn (M : Int) (lv : Int → Int) (x : Int) : Int := if 0 ≤ x ∧ x < M ∧ 0 ≤ lv x then 1 else 0
theorem p_kn_r (M : Int) (lv : Int → Int) (x : Int) : p_kn M lv x = 0 ∨ p_kn M lv x = 1 := by unfold p_kn; split <;> omega
theorem p_kn_1 {M : Int} {lv : Int → Int} {x : Int} (h : ¬ p_kn M lv x = 0) : 0 ≤ x ∧ x < M ∧ 0 ≤ lv x := by
  unfold p_kn at h
  split at h
  · assumption
  · omega
theorem p_kn_0 {M : Int} {lv : Int → Int} {x : Int} (h : p_kn M lv x = 0) : ¬ (0 ≤ x ∧ x < M ∧ 0 ≤ lv x) := by
  unfold p_kn at h
  split at h
  · omega
  · assumption
def tLen (M cd : Int) : Int := if M < cd then min 14641 (max cd (2 * M)) else M
theorem tLen_r {M cd : Int} (h0 : 0 ≤ M ∧ M ≤ 14641) (h1 : 1 ≤ cd ∧ cd ≤ 14641) : cd ≤ tLen M cd ∧ M ≤ tLen M cd ∧ tLen M cd ≤ 14641 := by
  unfold tLen
  split <;> omega
def tCel (M cd : Int) : Nat := if M < cd then 3 else 0
def tSlo (M cd : Int) : Nat := if M < cd then 3 * (tLen M cd).toNat else 0
/-- the way back over causes -/
def upN (ca : Int → Int) : Nat → Int → Int
  | 0, x => x
  | k + 1, x => upN ca k (ca x / 32)
theorem upN_s (ca : Int → Int) {k : Int} (h : 0 < k) (x : Int) : upN ca k.toNat x = upN ca (k - 1).toNat (ca x / 32) := by
  have e : k.toNat = (k - 1).toNat + 1 := by omega
  rw [e, upN]
/-- causes lead back level by level -/
def TI (M : Int) (lv ca : Int → Int) : Prop := ∀ x, 0 ≤ x → x < M → i32 (lv x) ∧ (0 < lv x → 0 ≤ ca x ∧ ca x < 2147483648 ∧ ca x / 32 < M ∧ lv (ca x / 32) = lv x - 1)
def p_row (M : Int) (lv ca : Int → Int) (x k : Int) : Int := if 0 ≤ x ∧ x < M ∧ 0 ≤ k ∧ k < lv x then ca (upN ca (lv x - 1 - k).toNat x) % 32 else -1
