/-! ===== pure: the reference's row is the first of the least ===== -/
theorem gr_row {N : Int} {nx sp : Int → Int → Int} {ea : Int} {go : Int → Bool} {cs : Int → Int} (hN : NX N nx sp) (he : 0 ≤ ea) (hF : FC N nx sp ea go cs) : ∀ (m : Nat) (s : Int), 0 ≤ s → s < N → cs s < fFAR → cs s ≤ m → ∃ l, RW nx sp ea go l s (cs s) ∧ (∀ k : Nat, gr nx sp ea cs k s = (l[k]?).getD (-1)) ∧ ∀ l', RW nx sp ea go l' s (cs s) → l = l' ∨ ls l l' := by
  intro m
  induction m with
  | zero =>
    intro s s0 s1 hf hm
    have h0 := (hF.1 s s0 s1).1
    have e : cs s = 0 := by omega
    refine ⟨[], ⟨cs0_go hN he hF.1 s0 s1 e, e⟩, fun k => by rw [gr_stop (Or.inl e)]; rfl, fun l' hl' => ?_⟩
    cases l' with
    | nil => exact Or.inl rfl
    | cons a l' =>
      obtain ⟨a0, a1, a2, c', h1, h2⟩ := hl'
      have h3 := hN s a s0 s1 a0 a1
      rcases h3.1 with w | w
      · exact absurd w a2
      · have := RW_nn hN he l' _ c' w.1 w.2 h1
        have := Int.mul_nonneg he h3.2.1
        omega
  | succ m ih =>
    intro s s0 s1 hf hm
    have h0 := (hF.1 s s0 s1).1
    by_cases e : cs s = 0
    · refine ⟨[], ⟨cs0_go hN he hF.1 s0 s1 e, e⟩, fun k => by rw [gr_stop (Or.inl e)]; rfl, fun l' hl' => ?_⟩
      cases l' with
      | nil => exact Or.inl rfl
      | cons a l' =>
        obtain ⟨a0, a1, a2, c', h1, h2⟩ := hl'
        have h3 := hN s a s0 s1 a0 a1
        rcases h3.1 with w | w
        · exact absurd w a2
        · have := RW_nn hN he l' _ c' w.1 w.2 h1
          have := Int.mul_nonneg he h3.2.1
          omega
    · have hs : ¬ (cs s = 0 ∨ cs s = fFAR) := by omega
      obtain ⟨f0, f1, f2, f3⟩ := fA_spec hN he hF s0 s1 hs
      obtain ⟨n1, n2, n3⟩ := CB_nx f2 hs
      have h3 := hN s (fA nx sp ea cs s) s0 s1 f0 f1
      have hnr : 0 ≤ nx s (fA nx sp ea cs s) ∧ nx s (fA nx sp ea cs s) < N := by
        rcases h3.1 with w | w
        · exact absurd w n1
        · exact w
      have hmn := Int.mul_nonneg he h3.2.1
      have hfn := (hF.1 _ hnr.1 hnr.2).2.1
      obtain ⟨l, l1, l2, l3⟩ := ih (nx s (fA nx sp ea cs s)) hnr.1 hnr.2 (by omega) (by omega)
      refine ⟨fA nx sp ea cs s :: l, ⟨f0, f1, n1, _, l1, n3⟩, fun k => ?_, fun l' hl' => ?_⟩
      · cases k with
        | zero => rw [gr, if_neg hs]; rfl
        | succ k => rw [gr, if_neg hs, l2 k]; rfl
      · cases l' with
        | nil => exact absurd hl'.2 e
        | cons b l' =>
          obtain ⟨b0, b1, b2, c', g1, g2⟩ := hl'
          have g3 := hN s b s0 s1 b0 b1
          have gmn := Int.mul_nonneg he g3.2.1
          have gnr : 0 ≤ nx s b ∧ nx s b < N := by
            rcases g3.1 with w | w
            · exact absurd w b2
            · exact w
          have hle := FC_le hN he hF l' _ c' gnr.1 gnr.2 g1 (by omega)
          have hle2 := hF.2 s b s0 s1 b0 b1
          have hcb : CB nx sp ea cs s b = cs (nx s b) + 1 + ea * sp s b := by
            unfold CB
            rw [if_neg (by intro w; rcases w with w | w; exact b2 w; omega)]
          have ecb : CB nx sp ea cs s b = cs s := by omega
          have hab : fA nx sp ea cs s ≤ b := by
            rcases Int.lt_or_le b (fA nx sp ea cs s) with w | w
            · exact absurd ecb (f3 b b0 w)
            · exact w
          by_cases w : fA nx sp ea cs s = b
          · subst w
            have ec : c' = cs (nx s (fA nx sp ea cs s)) := by omega
            rw [ec] at g1
            rcases l3 l' g1 with q | q
            · exact Or.inl (by rw [q])
            · exact Or.inr (Or.inr ⟨rfl, q⟩)
          · exact Or.inr (Or.inl (by omega))
theorem best_eq {N M : Int} {nx nc sp : Int → Int → Int} {ea : Int} {go : Int → Bool} {cs : Int → Int} {ok : Int → Int → Bool} {x0 : Int} {fo lv ca pp : Int → Int} {r K : Int} (hM : N ≤ M) (hC : NCr N nx nc) (hN : NX N nx sp) (he : 0 ≤ ea) (hT : TB N M nc ok x0 fo lv ca r (24 * r) pp) (hF : FC N nx sp ea go cs) (x00 : 0 ≤ x0) (x01 : x0 < N) (K0 : 0 ≤ K) (K1 : K < r)
    (h1 : ∀ l, RW nx sp ea go l x0 (cs x0) → ∃ K', K ≤ K' ∧ K' < r ∧ OP nx ok l x0 (fo K') ∧ (l.length : Int) = lv (fo K') ∧ lv (fo K') = lv (fo K)) (h2 : RW nx sp ea go (rK pp K) x0 (cs x0)) (hf : cs x0 < fFAR) (k : Nat) : p_row M lv ca (fo K) k = gr nx sp ea cs k x0 := by
  have hc0 := (hF.1 x0 x00 x01).1
  obtain ⟨l, l1, l2, l3⟩ := gr_row hN he hF (cs x0).toNat x0 x00 x01 hf (by omega)
  have a1 := l3 _ h2
  obtain ⟨K', k1, k2, k3, k4, k5⟩ := h1 l l1
  have a2 := lx_row hC hT l.length l K' rfl (by omega) k2 k3 k4
  have a3 : rK pp K = rK pp K' ∨ ls (rK pp K) (rK pp K') := by
    by_cases w : K = K'
    · rw [w]; exact Or.inl rfl
    · exact Or.inr (ls_row hC hT (K'.toNat + 1) K K' (by omega) K0 (by omega) k2 k5.symm)
  have e : l = rK pp K := by
    rcases a1 with a1 | a1
    · exact a1
    · exfalso
      have a4 : ls l (rK pp K') := by
        rcases a3 with a3 | a3
        · rw [← a3]; exact a1
        · exact ls_tr _ _ _ a1 a3
      rcases a2 with a2 | a2
      · rw [a2] at a4; exact ls_ir _ a4
      · exact ls_ir _ (ls_tr _ _ _ a4 a2)
  rw [row_at hM hT (K.toNat + 1) K (by omega) K0 K1 k, l2 k, e]
/-- a row with what it spills -/
def PW (nx sp : Int → Int → Int) : List Int → Int → Int → Int → Prop
  | [], x, y, c => x = y ∧ c = 0
  | a :: l, x, y, c => 0 ≤ a ∧ a < 24 ∧ nx x a ≠ -1 ∧ ∃ c', PW nx sp l (nx x a) y c' ∧ c = sp x a + c'
theorem RW_PW {nx sp : Int → Int → Int} {ea : Int} {go : Int → Bool} : ∀ (l : List Int) (x c : Int), RW nx sp ea go l x c ↔ ∃ y P, PW nx sp l x y P ∧ go y = true ∧ c = l.length + ea * P
  | [], x, c => by
    unfold RW PW
    constructor
    · rintro ⟨h1, h2⟩
      exact ⟨x, 0, ⟨rfl, rfl⟩, h1, by simp [h2]⟩
    · rintro ⟨y, P, ⟨e1, e2⟩, h1, h2⟩
      subst e1; subst e2
      exact ⟨h1, by simpa using h2⟩
  | a :: l, x, c => by
    unfold RW PW
    constructor
    · rintro ⟨a0, a1, a2, c', h1, h2⟩
      obtain ⟨y, P, p1, p2, p3⟩ := (RW_PW l _ c').mp h1
      refine ⟨y, sp x a + P, ⟨a0, a1, a2, P, p1, rfl⟩, p2, ?_⟩
      rw [h2, p3, Int.mul_add]
      simp
      omega
    · rintro ⟨y, P, ⟨a0, a1, a2, P', p1, p2⟩, h1, h2⟩
      refine ⟨a0, a1, a2, l.length + ea * P', (RW_PW l _ _).mpr ⟨y, P', p1, h1, rfl⟩, ?_⟩
      rw [h2, p2, Int.mul_add]
      simp
      omega
theorem PW_OP {nx sp : Int → Int → Int} : ∀ (l : List Int) (x y P : Int), PW nx sp l x y P → OP nx (fun _ _ => true) l x y
  | [], x, y, P, h => h.1
  | a :: l, x, y, P, h => by
    obtain ⟨a0, a1, a2, c', h1, h2⟩ := h
    exact ⟨a0, a1, a2, rfl, PW_OP l _ _ _ h1⟩
theorem OP_PW {nx sp : Int → Int → Int} {ok : Int → Int → Bool} : ∀ (l : List Int) (x y : Int), OP nx ok l x y → ∃ P, PW nx sp l x y P
  | [], x, y, h => ⟨0, h, rfl⟩
  | a :: l, x, y, h => by
    obtain ⟨a0, a1, a2, -, h1⟩ := h
    obtain ⟨P, hP⟩ := OP_PW l _ _ h1
    exact ⟨sp x a + P, a0, a1, a2, P, hP, rfl⟩
theorem fnd_spec {fo : Int → Int} {q : Int → Bool} : ∀ (f : Nat) (k : Int), (fnd fo q f k = -1 ∧ ∀ j, k ≤ j → j < k + f → q (fo j) = false) ∨ ∃ K, k ≤ K ∧ K < k + f ∧ fnd fo q f k = fo K ∧ q (fo K) = true ∧ ∀ j, k ≤ j → j < K → q (fo j) = false
  | 0, k => Or.inl ⟨rfl, fun j a b => by omega⟩
  | f + 1, k => by
    rw [fnd]
    by_cases w : q (fo k) = true
    · rw [if_pos w]
      exact Or.inr ⟨k, by omega, by omega, rfl, w, fun j a b => by omega⟩
    · rw [if_neg w]
      have w' : q (fo k) = false := by simpa using w
      rcases fnd_spec f (k + 1) with ⟨h1, h2⟩ | ⟨K, h1, h2, h3, h4, h5⟩
      · refine Or.inl ⟨h1, fun j a b => ?_⟩
        by_cases e : j = k
        · rw [e]; exact w'
        · exact h2 j (by omega) (by omega)
      · refine Or.inr ⟨K, by omega, by omega, h3, h4, fun j a b => ?_⟩
        by_cases e : j = k
        · rw [e]; exact w'
        · exact h5 j (by omega) (by omega)
section FEW
variable {N M : Int} {nx nc sp : Int → Int → Int} {go : Int → Bool} {cs : Int → Int} {x0 : Int} {fo lv ca pp : Int → Int} {r : Int}
theorem few_no (hC : NCr N nx nc) (hT : TB N M nc (fun _ _ => true) x0 fo lv ca r (24 * r) pp) (hF : FC N nx sp 0 go cs) (x00 : 0 ≤ x0) (x01 : x0 < N) (h : ∀ j, 0 ≤ j → j < r → go (fo j) = false) : cs x0 = fFAR := by
  have h1 := hF.1 x0 x00 x01
  rcases Int.lt_or_le (cs x0) fFAR with w | w
  · obtain ⟨l, hl⟩ := h1.2.2.2 w
    obtain ⟨y, P, p1, p2, -⟩ := (RW_PW l _ _).mp hl
    obtain ⟨j, j0, j1, j2, -⟩ := OP_f0 hC hT (PW_OP l _ _ _ p1)
    rw [← j2, h j j0 j1] at p2
    cases p2
  · omega
theorem few_yes (hM : N ≤ M) (hN9 : N ≤ 14641) (hC : NCr N nx nc) (hN : NX N nx sp) (hT : TB N M nc (fun _ _ => true) x0 fo lv ca r (24 * r) pp) (hF : FC N nx sp 0 go cs) (x00 : 0 ≤ x0) (x01 : x0 < N) {K : Int} (K0 : 0 ≤ K) (K1 : K < r) (hg : go (fo K) = true) (hf : ∀ j, 0 ≤ j → j < K → go (fo j) = false) : cs x0 = lv (fo K) ∧ lv (fo K) < 14641 ∧ ∀ k : Nat, p_row M lv ca (fo K) k = gr nx sp 0 cs k x0 := by
  have hr := hT.2.2.2.2.1 K K0 K1
  have hrN := hT.2.1
  have hlv : lv (fo K) < 14641 := by omega
  obtain ⟨o1, o2⟩ := rK_r hC hT K0 K1
  obtain ⟨P, hP⟩ := OP_PW (sp := sp) _ _ _ o1
  have hrw : RW nx sp 0 go (rK pp K) x0 (lv (fo K)) := (RW_PW _ _ _).mpr ⟨_, P, hP, hg, by rw [o2]; simp⟩
  have hle := FC_le hN (by omega) hF _ _ _ x00 x01 hrw (by unfold fFAR; omega)
  have hff : cs x0 < fFAR := by unfold fFAR; omega
  have key : ∀ l c, RW nx sp 0 go l x0 c → ∃ K', K ≤ K' ∧ K' < r ∧ OP nx (fun _ _ => true) l x0 (fo K') ∧ lv (fo K') ≤ l.length ∧ c = l.length ∧ lv (fo K) ≤ lv (fo K') := fun l c hl => by
    obtain ⟨y, P, p1, p2, p3⟩ := (RW_PW l _ _).mp hl
    obtain ⟨j, j0, j1, j2, j3⟩ := OP_f0 hC hT (PW_OP l _ _ _ p1)
    subst j2
    have hKj : K ≤ j := by
      rcases Int.lt_or_le j K with w | w
      · rw [hf j j0 w] at p2; cases p2
      · exact w
    exact ⟨j, hKj, j1, PW_OP l _ _ _ p1, j3, by simpa using p3, TB_mon hT K0 hKj j1⟩
  have heq : cs x0 = lv (fo K) := by
    obtain ⟨l, hl⟩ := (hF.1 x0 x00 x01).2.2.2 hff
    obtain ⟨K', k1, k2, k3, k4, k5, k6⟩ := key l _ hl
    omega
  refine ⟨heq, hlv, fun k => best_eq hM hC hN (by omega) hT hF x00 x01 K0 K1 (fun l hl => ?_) (by rw [heq]; exact hrw) hff k⟩
  obtain ⟨K', k1, k2, k3, k4, k5, k6⟩ := key l _ hl
  exact ⟨K', k1, k2, k3, by omega, by omega⟩
end FEW
