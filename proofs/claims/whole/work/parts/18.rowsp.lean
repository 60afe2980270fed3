theorem ifP_r (P : Prop) [Decidable P] : i32 (if P then 1 else 0) := by split <;> exact ⟨by decide, by decide⟩
theorem ifP_1 {P : Prop} [Decidable P] (h : ¬ (if P then (1 : Int) else 0) = 0) : P := by
  split at h
  · assumption
  · omega
theorem ifP_0 {P : Prop} [Decidable P] (h : (if P then (1 : Int) else 0) = 0) : ¬ P := by
  split at h
  · omega
  · assumption
theorem FCO_st {I I' : Nat → Int} {A A' : Nat → Int → Int} {i v ea : Int} (hm : Mok I A) (h : FCO I I' A A' i v ea) : 0 ≤ I' 17 ∧ I' 17 < mT (A' 8) (I 0) ∧ mT (A' 8) (I 0) ≤ 14641 ∧ 0 ≤ A' 16 (I' 17) ∧ A' 16 (I' 17) ≤ 1000000000 := by
  obtain ⟨h1, h2, h3, h4, h5, h6, h7, h8, h9⟩ := h
  have hv : Vh (I 0) (A' 8) (A 2) := fun j a b => by rw [h6 j a b]; exact hm.2.2.2.2.2.1 j a b
  have h10 := nT_r hm.1 hv
  rw [← h7] at h10
  have h11 := h9.1 (I' 17) h10.1 h10.2
  unfold fFAR at h11
  exact ⟨h10.1, h10.2, (mT_r h5).2, h11.1, h11.2.1⟩
/-- how many rows of so many acts lead from a state to the aim -/
def ct (nx : Int → Int → Int) (go : Int → Bool) : Nat → Int → Int
  | 0, s => if go s then 1 else 0
  | k + 1, s => sN (fun a => if nx s a = -1 then 0 else ct nx go k (nx s a)) 24
theorem sN_nn {f : Int → Int} : ∀ k : Nat, (∀ j : Int, 0 ≤ j → j < k → 0 ≤ f j) → 0 ≤ sN f k
  | 0, _ => by simp [sN]
  | k + 1, h => by
    rw [sN]
    have := sN_nn k (fun j a b => h j a (by omega))
    have := h k (by omega) (by omega)
    omega
theorem sN_z {f : Int → Int} : ∀ k : Nat, (∀ j : Int, 0 ≤ j → j < k → f j = 0) → sN f k = 0
  | 0, _ => rfl
  | k + 1, h => by rw [sN, sN_z k (fun j a b => h j a (by omega)), h k (by omega) (by omega)]; rfl
theorem ct_nn (nx : Int → Int → Int) (go : Int → Bool) : ∀ (k : Nat) (s : Int), 0 ≤ ct nx go k s
  | 0, s => by unfold ct; split <;> omega
  | k + 1, s => by
    unfold ct
    refine sN_nn 24 (fun j _ _ => ?_)
    split
    · omega
    · exact ct_nn nx go k _
/-- no row is shorter than the cost -/
theorem ct_0 {N : Int} {nx sp : Int → Int → Int} {go : Int → Bool} {cs : Int → Int} (hN : NX N nx sp) (hF : FC N nx sp 0 go cs) : ∀ (k : Nat) (s : Int), 0 ≤ s → s < N → (k : Int) < cs s → ct nx go k s = 0
  | 0, s, h0, h1, h => by
    unfold ct
    have := (hF.1 s h0 h1).2.2.1
    split
    · next q => have := this q; omega
    · rfl
  | k + 1, s, h0, h1, h => by
    unfold ct
    refine sN_z 24 (fun a a0 a1 => ?_)
    split
    · rfl
    · next q =>
      obtain ⟨n1, n2, n3⟩ := hN s a h0 h1 a0 (by omega)
      have h6 := hF.2 s a h0 h1 a0 (by omega)
      have hf := hF.1 (nx s a) (by omega) (by omega)
      refine ct_0 hN hF k (nx s a) (by omega) (by omega) ?_
      unfold CB fFAR at h6
      unfold fFAR at hf
      split at h6
      · omega
      · omega
def mM : Int := 1000000000000000000
/-- the sum over the first acts, up to the bound -/
def cS (nx : Int → Int → Int) (go : Int → Bool) (k : Nat) (s a : Int) : Int := min mM (sT (fun b => if nx s b = -1 then 0 else ct nx go k (nx s b)) a)
theorem cS_r (nx : Int → Int → Int) (go : Int → Bool) (k : Nat) (s : Int) {a : Int} (h : 0 ≤ a) : 0 ≤ cS nx go k s a ∧ cS nx go k s a ≤ mM := by
  have : 0 ≤ sT (fun b => if nx s b = -1 then 0 else ct nx go k (nx s b)) a := by
    unfold sT
    refine sN_nn _ (fun j _ _ => ?_)
    split
    · omega
    · exact ct_nn nx go k _
  unfold cS mM
  omega
theorem cS_s {N : Int} {nx sp : Int → Int → Int} {go : Int → Bool} {cs rw9 : Int → Int} (hN : NX N nx sp) (hF : FC N nx sp 0 go cs) {z x a : Int} (h0 : 0 ≤ x) (h1 : x < N) (a0 : 0 ≤ a) (a1 : a < 24) (hz : 0 < z) (hz2 : z < fFAR) (hx : cs x = z) (hr : ∀ s, 0 ≤ s → s < N → cs s < z → rw9 s = min mM (ct nx go (cs s).toNat s)) {t : Int} (ht : t = if CB nx sp 0 cs x a = z then rw9 (nx x a) else 0) : min mM (cS nx go (z - 1).toNat x a + t) = cS nx go (z - 1).toNat x (a + 1) := by
  obtain ⟨n1, n2, n3⟩ := hN x a h0 h1 a0 a1
  have hsn : 0 ≤ sT (fun b => if nx x b = -1 then 0 else ct nx go (z - 1).toNat (nx x b)) a := by
    unfold sT
    refine sN_nn _ (fun j _ _ => ?_)
    split
    · omega
    · exact ct_nn nx go _ _
  have h6 := hF.2 x a h0 h1 a0 a1
  unfold cS
  rw [sT_s _ a0]
  generalize sT (fun b => if nx x b = -1 then 0 else ct nx go (z - 1).toNat (nx x b)) a = S at *
  rw [ht]
  by_cases e : nx x a = -1
  · have hc : CB nx sp 0 cs x a = fFAR := by unfold CB; rw [if_pos (Or.inl e)]
    rw [if_neg (by omega)]
    simp only [e, if_true]
    unfold mM
    omega
  · simp only [e, if_false]
    have hf := hF.1 (nx x a) (by omega) (by omega)
    have hcn := ct_nn nx go (z - 1).toNat (nx x a)
    by_cases q : CB nx sp 0 cs x a = z
    · rw [if_pos q]
      unfold CB at q
      split at q
      · omega
      · have e3 : cs (nx x a) = z - 1 := by omega
        rw [hr (nx x a) (by omega) (by omega) (by omega), e3]
        generalize ct nx go (z - 1).toNat (nx x a) = C at *
        unfold mM
        omega
    · rw [if_neg q]
      have e4 : ct nx go (z - 1).toNat (nx x a) = 0 := by
        refine ct_0 hN hF _ _ (by omega) (by omega) ?_
        unfold CB at q h6
        split at q
        · next w =>
          rcases w with w | w
          · omega
          · rw [w]; unfold fFAR at *; omega
        · next w => rw [if_neg w] at h6; omega
      rw [e4]
      unfold mM
      omega
section LC
variable {p : Program} {l : Launch} {e : Env} {Rm : Room} {s : State} {m : MethodId} {args : Array Value} {below : List Frame} {meth : Method} {c : Code} {H : Heap} {locs : List Loc} {cells slots : Nat} {Q : State → Prop}
variable {cc : ByteArray} {pc : Nat} {ls : Array Slot} {rest : List Value}
def cmpL (x y : Int) : Int := if y < x then 1 else if x = y then 0 else -1
theorem cmpL_r (x y : Int) : i32 (cmpL x y) := by unfold cmpL; (repeat' split) <;> exact ⟨by decide, by decide⟩
theorem cmpL_le {x y : Int} : cmpL x y ≤ 0 ↔ x ≤ y := by unfold cmpL; (repeat' split) <;> omega
theorem cmpL_eq {x y : Int} : cmpL x y = 0 ↔ x = y := by unfold cmpL; (repeat' split) <;> omega
theorem j_lcmp (hexec : p.tables.exec = Jvm.exec) (hb : c.code = cc) {x y : Int} (hx : i64 x) (hy : i64 y) (hdg : decode cc pc = .ok (.lcmp, 1)) (k : W p l e Rm s m args below meth c H locs cells slots Q (F0 m (pc + 1) ls (.int (J (cmpL x y)) :: rest))) : W p l e Rm s m args below meth c H locs cells slots Q (F0 m pc ls (.long (JL y) :: .long (JL x) :: rest)) := by
  refine W.lcmp hexec hb hdg ?_
  have e9 : lg_cmp (JL x) (JL y) = J (cmpL x y) := by
    unfold lg_cmp cmpL
    by_cases q : y < x
    · rw [if_pos ((JL_lt hy hx).mpr q), if_pos q]; decide
    · rw [if_neg (fun z => q ((JL_lt hy hx).mp z)), if_neg q]
      by_cases q2 : x = y
      · rw [if_pos (by rw [q2]), if_pos q2]; decide
      · rw [if_neg (fun z => q2 ((JL_eq hx hy).mp z)), if_neg q2]; decide
  rw [e9]
  exact k
end LC
