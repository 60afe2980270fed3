/-! ===== the search as a whole: what the contracts of its parts give ===== -/
theorem MC.imp {l : Launch} {g : GX} {base : Nat} {sa : Nat → Nat} {y : MethodName} {ws : List Cond} {rm : Room} {av : List Value} {h0 : Hp} {post post' : Option Value → Hp → Prop} (h : MC l g base sa y ws rm av h0 post) (hp : ∀ r h', post r h' → post' r h') : MC l g base sa y ws rm av h0 post' := by
  intro p e a1 a2 a3 s m args below b1 b2 b3 b4
  obtain ⟨n, o, c1, c2, c3, ⟨⟨⟨r, h', d1, d2, d3⟩, c5⟩, c6⟩⟩ := h p e a1 a2 a3 s m args below b1 b2 b3 b4
  exact ⟨n, o, c1, c2, c3, ⟨⟨⟨r, h', d1, hp _ _ d2, d3⟩, c5⟩, c6⟩⟩
theorem OB.cg {g : GX} {ci N : Nat} {kd : Nat → Nat} {h : Hp} {o : Nat} {R : Nat → Nat} {I I' : Nat → Int} {L L' : Nat → Int} {A A' : Nat → Int → Int} (hM : OB g ci N kd h o R I L A) (hI : ∀ k, k < N → kd k = 0 → I k = I' k) (hL : ∀ k, k < N → isA kd k → L k = L' k) (hA : ∀ k, k < N → isA kd k → A k = A' k) : OB g ci N kd h o R I' L' A' := by
  refine ⟨?_, fun k hk ha => ?_, hM.2.2⟩
  · rw [hM.1]
    have e : fls N kd R I = fls N kd R I' := by
      unfold fls
      apply List.map_congr_left
      intro k hk
      rw [List.mem_range] at hk
      unfold fvl
      by_cases e : kd k = 0
      · rw [if_pos e, if_pos e, hI k hk e]
      · rw [if_neg e, if_neg e]
    rw [e]
  · rw [hM.2.1 k hk ha, hL k hk ha, hA k hk ha]
/-- nothing outside the four -/
def Zo (f : Int → Int) : Prop := ∀ j, (j < 0 ∨ 4 ≤ j) → f j = 0
theorem Zo_cp {f g : Int → Int} (hf : Zo f) (hg : Zo g) : cpN 4 f g = f := by
  funext j
  unfold cpN
  split
  · rfl
  · rw [hf j (by omega), hg j (by omega)]
theorem liken_ob {g : GX} {h : Hp} {o : Nat} {R : Nat → Nat} {I I2 : Nat → Int} {A A2 : Nat → Int → Int} (z1 : Zo (A 4)) (z2 : Zo (A2 4)) (z3 : Zo (A 6)) (z4 : Zo (A2 6)) (hM : OB g 1 7 kd1 h o R (va_up (va_up (va_up (va_up I 0 (I2 0)) 1 (I2 1)) 2 (I2 2)) 3 (I2 3)) L4 (va_up (va_up (va_up A 4 (cpN 4 (A2 4) (A 4))) 5 (cpN 4 (A2 5) (A 5))) 6 (cpN 4 (A2 6) (A 6)))) : OB g 1 7 kd1 h o R I2 L4 (va_up A2 5 (cpN 4 (A2 5) (A 5))) := by
  refine hM.cg (fun k hk h0 => ?_) (fun _ _ _ => rfl) (fun k hk ha => ?_)
  · match k, hk with
    | 0, _ => rfl
    | 1, _ => rfl
    | 2, _ => rfl
    | 3, _ => rfl
    | 4, _ => exact absurd h0 (by decide)
    | 5, _ => exact absurd h0 (by decide)
    | 6, _ => exact absurd h0 (by decide)
  · match k, hk with
    | 0, _ => exact absurd ha.1 (by decide)
    | 1, _ => exact absurd ha.1 (by decide)
    | 2, _ => exact absurd ha.1 (by decide)
    | 3, _ => exact absurd ha.1 (by decide)
    | 4, _ => exact Zo_cp z2 z1
    | 5, _ => rfl
    | 6, _ => exact Zo_cp z4 z3
theorem sT_congr {f g : Int → Int} {n : Int} (h : ∀ i, 0 ≤ i → i < n → f i = g i) : sT f n = sT g n := by
  have key : ∀ k : Nat, (k : Int) ≤ n → sN f k = sN g k := by
    intro k
    induction k with
    | zero => intro _; rfl
    | succ k ih => intro hk; rw [sN, sN, ih (by omega), h k (by omega) (by omega)]
  unfold sT
  by_cases h0 : 0 ≤ n
  · exact key _ (by omega)
  · rw [show n.toNat = 0 by omega]; rfl
theorem x0_eq {I : Nat → Int} {A : Nat → Int → Int} (h : Wok I A) (f : Int → Int) : cC (I 0) (A 4) (A 5) = sT (fun j => cpN 4 (A 5) f j * A 6 j) (I 0) := by
  unfold cC
  refine sT_congr (fun i a b => ?_)
  have := h.1.2.1
  rw [cpN_in a (by omega), h.2.2.2.2.1 i a b]
theorem x0_eq' {I : Nat → Int} {A : Nat → Int → Int} (h : Wok I A) : cC (I 0) (A 4) (A 5) = sT (fun j => A 5 j * A 6 j) (I 0) := by
  unfold cC
  exact sT_congr (fun i a b => by rw [h.2.2.2.2.1 i a b])
theorem cp_r {f f0 : Int → Int} (h : ∀ i, 0 ≤ i → i < 4 → 0 ≤ f i ∧ f i ≤ 10) : ∀ i, 0 ≤ i → i < 4 → 0 ≤ cpN 4 f f0 i ∧ cpN 4 f f0 i ≤ 10 := fun i a b => by
  rw [cpN_in a b]
  exact h i a b
