/-! ===== pure: the sparing rows ===== -/
theorem thF_spec {fo : Int → Int} {q : Int → Bool} {le : Int → Int} (hfo : ∀ k, fo k ≠ -1 ∨ True) : ∀ m : Nat, (∀ k : Int, 0 ≤ k → k < m → 0 ≤ fo k) → (thF fo q le m = -1 ∧ ∀ j : Int, 0 ≤ j → j < m → q (fo j) = false) ∨ ∃ K : Int, 0 ≤ K ∧ K < m ∧ thF fo q le m = fo K ∧ q (fo K) = true ∧ (∀ j : Int, 0 ≤ j → j < m → q (fo j) = true → le (fo K) ≤ le (fo j)) ∧ ∀ j : Int, 0 ≤ j → j < K → q (fo j) = true → le (fo K) < le (fo j)
  | 0, _ => Or.inl ⟨rfl, fun j a b => by omega⟩
  | m + 1, hp => by
    have hpm := hp m (by omega) (by omega)
    rw [thF]
    rcases thF_spec hfo m (fun k a b => hp k a (by omega)) with ⟨h1, h2⟩ | ⟨K, h1, h2, h3, h4, h5, h6⟩
    · by_cases w : q (fo m) = true
      · rw [if_pos ⟨w, Or.inl h1⟩]
        refine Or.inr ⟨m, by omega, by omega, rfl, w, fun j a b hq => ?_, fun j a b hq => ?_⟩
        · by_cases e : j = m
          · rw [e]; omega
          · rw [h2 j a (by omega)] at hq; cases hq
        · rw [h2 j a b] at hq; cases hq
      · rw [if_neg (fun z => w z.1)]
        refine Or.inl ⟨h1, fun j a b => ?_⟩
        by_cases e : j = m
        · rw [e]; simpa using w
        · exact h2 j a (by omega)
    · have hK := hp K h1 (by omega)
      by_cases w : q (fo m) = true ∧ le (fo m) < le (fo K)
      · rw [if_pos ⟨w.1, Or.inr (by rw [h3]; exact w.2)⟩]
        refine Or.inr ⟨m, by omega, by omega, rfl, w.1, fun j a b hq => ?_, fun j a b hq => ?_⟩
        · by_cases e : j = m
          · rw [e]; omega
          · have := h5 j a (by omega) hq; omega
        · have := h5 j a b hq; omega
      · rw [if_neg (fun z => w ⟨z.1, by rcases z.2 with y | y; (rw [h3] at y; omega); (rw [h3] at y; exact y)⟩)]
        refine Or.inr ⟨K, h1, by omega, h3, h4, fun j a b hq => ?_, h6⟩
        by_cases e : j = m
        · rw [e] at hq ⊢
          rcases Int.lt_or_le (le (fo m)) (le (fo K)) with y | y
          · exact absurd ⟨hq, y⟩ w
          · exact y
        · exact h5 j a (by omega) hq
section SPA
variable {N M L : Int} {nx nc sp spc : Int → Int → Int} {go : Int → Bool} {cs le : Int → Int} {x0 : Int} {fo lv ca pp : Int → Int} {r : Int}
theorem PS_PW (hC : NCr N nx nc) (hS : ∀ x a, 0 ≤ x → x < N → nx x a ≠ -1 → sp x a = spc x a) : ∀ (l : List Int) (x y c : Int), 0 ≤ x → x < N → (PS nc spc l x y c ↔ PW nx sp l x y c)
  | [], x, y, c, x0, x1 => Iff.rfl
  | a :: l, x, y, c, x0, x1 => by
    unfold PS PW
    have hc := hC x a x0 x1
    have ih := fun c => PS_PW hC hS l (nc x a) y c hc.2.1 hc.2.2
    constructor
    · rintro ⟨a0, a1, a2, c', h1, h2⟩
      rcases hc.1 with ⟨w1, w2⟩ | ⟨w1, w2, w3⟩
      · exact absurd w2 a2
      · refine ⟨a0, a1, w1, c', ?_, by rw [hS x a x0 x1 w1]; exact h2⟩
        rw [← w2]
        exact (ih c').mp h1
    · rintro ⟨a0, a1, a2, c', h1, h2⟩
      rcases hc.1 with ⟨w1, w2⟩ | ⟨w1, w2, w3⟩
      · exact absurd w1 a2
      · refine ⟨a0, a1, w3, c', ?_, by rw [← hS x a x0 x1 a2]; exact h2⟩
        rw [← w2] at h1
        exact (ih c').mpr h1
theorem PW_nn (hC : NCr N nx nc) (hN : NX N nx sp) : ∀ (l : List Int) (x y c : Int), 0 ≤ x → x < N → PW nx sp l x y c → 0 ≤ c ∧ 0 ≤ y ∧ y < N
  | [], x, y, c, x0, x1, h => by
    obtain ⟨e, e2⟩ := h
    omega
  | a :: l, x, y, c, x0, x1, h => by
    obtain ⟨a0, a1, a2, c', h1, h2⟩ := h
    have h3 := hN x a x0 x1 a0 a1
    rcases h3.1 with w | w
    · exact absurd w a2
    · have := PW_nn hC hN l _ _ _ w.1 w.2 h1
      omega
theorem le_way (hNL : N ≤ L) (hC : NCr N nx nc) (hS : ∀ x a, 0 ≤ x → x < N → nx x a ≠ -1 → sp x a = spc x a) (hsp : ∀ y b, nc y b ≠ y → 0 ≤ spc y b) (hL : LZ N L nc spc x0 le) {l : List Int} {x y c : Int} (x0' : 0 ≤ x) (x1 : x < N) (h : PW nx sp l x y c) : le y ≤ le x + c :=
  LZ_le hNL (fun y b y0 y1 => (hC y b y0 y1).2) hsp hL l x y c (le x) x0' x1 ((PS_PW hC hS l x y c x0' x1).mpr h) (by omega)
/-- a least row has only allowed acts -/
theorem least_ok (hNL : N ≤ L) (hC : NCr N nx nc) (hN : NX N nx sp) (hS : ∀ x a, 0 ≤ x → x < N → nx x a ≠ -1 → sp x a = spc x a) (hsp : ∀ y b, nc y b ≠ y → 0 ≤ spc y b) (hL : LZ N L nc spc x0 le) : ∀ (l : List Int) (x y P : Int), 0 ≤ x → x < N → PW nx sp l x y P → le x + P = le y → le y < 1000000 → OP nx (fun x a => decide (le (nc x a) = le x + spc x a)) l x y
  | [], x, y, P, x0, x1, h, _, _ => h.1
  | a :: l, x, y, P, x00, x1, h, he, hb => by
    obtain ⟨a0, a1, a2, c', h1, h2⟩ := h
    have h3 := hN x a x00 x1 a0 a1
    have hnr : 0 ≤ nx x a ∧ nx x a < N := by
      rcases h3.1 with w | w
      · exact absurd w a2
      · exact w
    have hcx : nc x a = nx x a ∧ nc x a ≠ x := by
      rcases (hC x a x00 x1).1 with ⟨w1, w2⟩ | ⟨w1, w2, w3⟩
      · exact absurd w1 a2
      · exact ⟨w2, w3⟩
    have hle1 := le_way hNL hC hS hsp hL hnr.1 hnr.2 h1
    have hc' := (PW_nn hC hN l _ _ _ hnr.1 hnr.2 h1).1
    have hstep := hL.2.2.2 x a x00 x1 (by omega) a0 a1 hcx.2
    have hse := hS x a x00 x1 a2
    rw [hcx.1] at hstep
    have e1 : le (nx x a) = le x + spc x a := by omega
    refine ⟨a0, a1, a2, ?_, least_ok hNL hC hN hS hsp hL l _ _ c' hnr.1 hnr.2 h1 (by omega) hb⟩
    show decide (le (nc x a) = le x + spc x a) = true
    rw [hcx.1]
    simp [e1]
theorem ok_sum (hC : NCr N nx nc) (hN : NX N nx sp) (hS : ∀ x a, 0 ≤ x → x < N → nx x a ≠ -1 → sp x a = spc x a) : ∀ (l : List Int) (x y P : Int), 0 ≤ x → x < N → OP nx (fun x a => decide (le (nc x a) = le x + spc x a)) l x y → PW nx sp l x y P → le y = le x + P
  | [], x, y, P, x0, x1, h, h2 => by
    obtain ⟨e, e2⟩ := h2
    subst e
    omega
  | a :: l, x, y, P, x00, x1, h, h2 => by
    obtain ⟨a0, a1, a2, c', p1, p2⟩ := h2
    obtain ⟨-, -, -, o4, o5⟩ := h
    have h3 := hN x a x00 x1 a0 a1
    have hnr : 0 ≤ nx x a ∧ nx x a < N := by
      rcases h3.1 with w | w
      · exact absurd w a2
      · exact w
    have hcx : nc x a = nx x a := by
      rcases (hC x a x00 x1).1 with ⟨w1, w2⟩ | ⟨w1, w2, w3⟩
      · exact absurd w1 a2
      · exact w2
    have o4 : le (nc x a) = le x + spc x a := by simpa using o4
    rw [hcx, ← hS x a x00 x1 a2] at o4
    have := ok_sum hC hN hS l _ _ _ hnr.1 hnr.2 o5 p1
    omega
theorem spa_no (hNL : N ≤ L) (hC : NCr N nx nc) (hN : NX N nx sp) (hS : ∀ x a, 0 ≤ x → x < N → nx x a ≠ -1 → sp x a = spc x a) (hsp : ∀ y b, nc y b ≠ y → 0 ≤ spc y b) (hL : LZ N L nc spc x0 le) (hT : TB N M nc (fun x a => decide (le (nc x a) = le x + spc x a)) x0 fo lv ca r (24 * r) pp) (hF : FC N nx sp 20000 go cs) (x00 : 0 ≤ x0) (x01 : x0 < N) (h : ∀ j, 0 ≤ j → j < r → go (fo j) = false) : cs x0 = fFAR := by
  have h1 := hF.1 x0 x00 x01
  rcases Int.lt_or_le (cs x0) fFAR with w | w
  · obtain ⟨l, hl⟩ := h1.2.2.2 w
    obtain ⟨y, P, p1, p2, p3⟩ := (RW_PW l _ _).mp hl
    have hy := PW_nn hC hN l _ _ _ x00 x01 p1
    have hle := le_way hNL hC hS hsp hL x00 x01 p1
    have hl0 := hL.2.2.1
    unfold fFAR at w
    have hlb : le y < 1000000 := by omega
    obtain ⟨l2, hl2⟩ := hL.2.1 y hy.2.1 hy.2.2 hlb
    have hw2 := (PS_PW hC hS l2 x0 y _ x00 x01).mp hl2
    have ho := least_ok hNL hC hN hS hsp hL l2 x0 y _ x00 x01 hw2 (by omega) hlb
    obtain ⟨j, j0, j1, j2, -⟩ := OP_f0 hC hT ho
    rw [← j2, h j j0 j1] at p2
    cases p2
  · omega
theorem spa_yes (hM : N ≤ M) (hN9 : N ≤ 14641) (hNL : N ≤ L) (hC : NCr N nx nc) (hN : NX N nx sp) (hS : ∀ x a, 0 ≤ x → x < N → nx x a ≠ -1 → sp x a = spc x a) (hsp : ∀ y b, nc y b ≠ y → 0 ≤ spc y b) (hL : LZ N L nc spc x0 le) (hT : TB N M nc (fun x a => decide (le (nc x a) = le x + spc x a)) x0 fo lv ca r (24 * r) pp) (hF : FC N nx sp 20000 go cs) (x00 : 0 ≤ x0) (x01 : x0 < N) (hbd : ∀ k, 0 ≤ k → k < r → le (fo k) ≤ 46410) {K : Int} (K0 : 0 ≤ K) (K1 : K < r) (hg : go (fo K) = true) (hm : ∀ j, 0 ≤ j → j < r → go (fo j) = true → le (fo K) ≤ le (fo j)) (hf : ∀ j, 0 ≤ j → j < K → go (fo j) = true → le (fo K) < le (fo j)) : cs x0 = 20000 * le (fo K) + lv (fo K) ∧ 0 ≤ le (fo K) ∧ 0 ≤ lv (fo K) ∧ lv (fo K) < 14641 ∧ cs x0 < fFAR ∧ ∀ k : Nat, p_row M lv ca (fo K) k = gr nx sp 20000 cs k x0 := by
  have hr := hT.2.2.2.2.1 K K0 K1
  have hrN := hT.2.1
  have hlv : lv (fo K) < 14641 := by omega
  have hb := hbd K K0 K1
  have hl0 := hL.2.2.1
  have hle0 := hL.1 (fo K) hr.1 (by omega)
  obtain ⟨o1, o2⟩ := rK_r hC hT K0 K1
  obtain ⟨P, hP⟩ := OP_PW (sp := sp) _ _ _ o1
  have hPe := ok_sum hC hN hS _ _ _ _ x00 x01 o1 hP
  have eP : P = le (fo K) := by omega
  subst eP
  have hrw : RW nx sp 20000 go (rK pp K) x0 (20000 * le (fo K) + lv (fo K)) := (RW_PW _ _ _).mpr ⟨_, _, hP, hg, by omega⟩
  have hle := FC_le hN (by omega) hF _ _ _ x00 x01 hrw (by unfold fFAR; omega)
  have hff : cs x0 < fFAR := by unfold fFAR; omega
  have key : ∀ l c, RW nx sp 20000 go l x0 c → c ≤ 20000 * le (fo K) + lv (fo K) → ∃ K', K ≤ K' ∧ K' < r ∧ OP nx (fun x a => decide (le (nc x a) = le x + spc x a)) l x0 (fo K') ∧ lv (fo K') ≤ l.length ∧ c = 20000 * le (fo K) + l.length ∧ lv (fo K) ≤ lv (fo K') := fun l c hl hc => by
    obtain ⟨y, P, p1, p2, p3⟩ := (RW_PW l _ _).mp hl
    have hy := PW_nn hC hN l _ _ _ x00 x01 p1
    have hly := le_way hNL hC hS hsp hL x00 x01 p1
    have hPb : P ≤ le (fo K) := by omega
    have hlb : le y < 1000000 := by omega
    obtain ⟨l2, hl2⟩ := hL.2.1 y hy.2.1 hy.2.2 hlb
    have hw2 := (PS_PW hC hS l2 x0 y _ x00 x01).mp hl2
    have ho2 := least_ok hNL hC hN hS hsp hL l2 x0 y _ x00 x01 hw2 (by omega) hlb
    obtain ⟨j2, j20, j21, j22, -⟩ := OP_f0 hC hT ho2
    have hSy : le (fo K) ≤ le y := by
      rw [← j22]
      exact hm j2 j20 j21 (by rw [j22]; exact p2)
    have ePy : P = le (fo K) := by omega
    have ho := least_ok hNL hC hN hS hsp hL l x0 y P x00 x01 p1 (by omega) hlb
    obtain ⟨j, j0, j1, j3, j4⟩ := OP_f0 hC hT ho
    subst j3
    have hKj : K ≤ j := by
      rcases Int.lt_or_le j K with w | w
      · have := hf j j0 w p2; omega
      · exact w
    exact ⟨j, hKj, j1, ho, j4, by omega, TB_mon hT K0 hKj j1⟩
  have heq : cs x0 = 20000 * le (fo K) + lv (fo K) := by
    obtain ⟨l, hl⟩ := (hF.1 x0 x00 x01).2.2.2 hff
    obtain ⟨K', k1, k2, k3, k4, k5, k6⟩ := key l _ hl hle
    omega
  refine ⟨heq, hle0.1, hr.2.2.1, hlv, hff, fun k => best_eq hM hC hN (by omega) hT hF x00 x01 K0 K1 (fun l hl => ?_) (by rw [heq]; exact hrw) hff k⟩
  obtain ⟨K', k1, k2, k3, k4, k5, k6⟩ := key l _ hl (by omega)
  exact ⟨K', k1, k2, k3, by omega, by omega⟩
end SPA
/-! ===== pure: how much can be spilt at most ===== -/
def dN (sz : Int → Int) : Nat → Int
  | 0 => 0
  | k + 1 => mN sz k + sz k * dN sz k
def zI (sz hd : Int → Int) : Nat → Int
  | 0 => 0
  | k + 1 => if hd k = 0 then sN (fun j => hd j * mT sz j) k else mN sz k + (hd k - 1) * dN sz k + zI sz hd k
theorem mN_mT (sz : Int → Int) (k : Nat) : mT sz k = mN sz k := by unfold mT; simp
theorem sN_rg {sz f : Int → Int} : ∀ k : Nat, (∀ j : Int, 0 ≤ j → j < k → 1 ≤ sz j ∧ 0 ≤ f j ∧ f j ≤ sz j) → 0 ≤ sN (fun j => f j * mT sz j) k ∧ sN (fun j => f j * mT sz j) k < mN sz k
  | 0, _ => by show (0 : Int) ≤ 0 ∧ 0 < mN sz 0; rw [mN]; omega
  | k + 1, hf => by
    have i1 := sN_rg k (fun j a b => hf j a (by omega))
    have i2 := hf k (by omega) (by omega)
    rw [sN, mN]
    have i3 : f k * mN sz k ≤ sz k * mN sz k := Int.mul_le_mul_of_nonneg_right i2.2.2 (by omega)
    have i4 : 0 ≤ f k * mN sz k := Int.mul_nonneg i2.2.1 (by omega)
    have i5 : mN sz k * (sz k + 1) = sz k * mN sz k + mN sz k := by rw [Int.mul_add, Int.mul_one, Int.mul_comm]
    show 0 ≤ sN (fun j => f j * mT sz j) k + f k * mT sz k ∧ sN (fun j => f j * mT sz j) k + f k * mT sz k < _
    rw [mN_mT]
    omega
theorem dN_nn {sz : Int → Int} : ∀ k : Nat, (∀ j : Int, 0 ≤ j → j < k → 1 ≤ sz j) → 0 ≤ dN sz k
  | 0, _ => by rw [dN]; omega
  | k + 1, h => by
    have h1 := dN_nn k (fun j a b => h j a (by omega))
    have h2 := h k (by omega) (by omega)
    have h3 := mN_pos (rm := sz) k (fun j a b => h j a (by omega))
    have h4 := Int.mul_nonneg (show 0 ≤ sz k by omega) h1
    rw [dN]
    omega
theorem zI_r {sz hd : Int → Int} : ∀ k : Nat, (∀ j : Int, 0 ≤ j → j < k → 1 ≤ sz j ∧ 0 ≤ hd j ∧ hd j ≤ sz j) → (∃ j : Int, 0 ≤ j ∧ j < k ∧ hd j = 0) → 0 ≤ zI sz hd k ∧ zI sz hd k < dN sz k
  | 0, _, ⟨j, a, b, _⟩ => by omega
  | k + 1, h, ⟨j, j0, j1, j2⟩ => by
    have hk := h k (by omega) (by omega)
    have hd0 := dN_nn (sz := sz) k (fun j a b => (h j a (by omega)).1)
    have hs := sN_rg (sz := sz) (f := hd) k (fun j a b => h j a (by omega))
    rw [zI, dN]
    by_cases w : hd k = 0
    · rw [if_pos w]
      have := Int.mul_nonneg (show 0 ≤ sz k by omega) hd0
      omega
    · rw [if_neg w]
      have ih := zI_r k (fun j a b => h j a (by omega)) ⟨j, j0, by
        rcases Int.lt_or_le j k with q | q
        · exact q
        · have : j = k := by omega
          rw [this] at j2; exact absurd j2 w, j2⟩
      have hm := mN_pos (rm := sz) k (fun j a b => (h j a (by omega)).1)
      have m1 : 0 ≤ (hd k - 1) * dN sz k := Int.mul_nonneg (by omega) hd0
      have m2 : (hd k - 1) * dN sz k ≤ (sz k - 1) * dN sz k := Int.mul_le_mul_of_nonneg_right (by omega) hd0
      have m3 : (sz k - 1) * dN sz k = sz k * dN sz k - dN sz k := by rw [Int.sub_mul, Int.one_mul]
      omega
theorem zI_inj {sz hd hd2 : Int → Int} : ∀ k : Nat, (∀ j : Int, 0 ≤ j → j < k → 1 ≤ sz j ∧ 0 ≤ hd j ∧ hd j ≤ sz j ∧ 0 ≤ hd2 j ∧ hd2 j ≤ sz j) → (∃ j : Int, 0 ≤ j ∧ j < k ∧ hd j = 0) → (∃ j : Int, 0 ≤ j ∧ j < k ∧ hd2 j = 0) → zI sz hd k = zI sz hd2 k → ∀ j : Int, 0 ≤ j → j < k → hd j = hd2 j
  | 0, _, _, _, _, j, a, b => by omega
  | k + 1, h, ⟨i, i0, i1, i2⟩, ⟨i', i0', i1', i2'⟩, e, j, j0, j1 => by
    have hk := h k (by omega) (by omega)
    have h1 : ∀ j : Int, 0 ≤ j → j < k → 1 ≤ sz j ∧ 0 ≤ hd j ∧ hd j ≤ sz j := fun j a b => by have := h j a (by omega); exact ⟨this.1, this.2.1, this.2.2.1⟩
    have h2 : ∀ j : Int, 0 ≤ j → j < k → 1 ≤ sz j ∧ 0 ≤ hd2 j ∧ hd2 j ≤ sz j := fun j a b => by have := h j a (by omega); exact ⟨this.1, this.2.2.2.1, this.2.2.2.2⟩
    have s1 := sN_rg k h1
    have s2 := sN_rg k h2
    have hd0 := dN_nn (sz := sz) k (fun j a b => (h j a (by omega)).1)
    rw [zI, zI] at e
    have hz1 : hd k ≠ 0 → ∃ j : Int, 0 ≤ j ∧ j < k ∧ hd j = 0 := fun w => ⟨i, i0, by
      rcases Int.lt_or_le i k with q | q
      · exact q
      · have : i = k := by omega
        rw [this] at i2; exact absurd i2 w, i2⟩
    have hz2 : hd2 k ≠ 0 → ∃ j : Int, 0 ≤ j ∧ j < k ∧ hd2 j = 0 := fun w => ⟨i', i0', by
      rcases Int.lt_or_le i' k with q | q
      · exact q
      · have : i' = k := by omega
        rw [this] at i2'; exact absurd i2' w, i2'⟩
    by_cases w : hd k = 0 <;> by_cases w2 : hd2 k = 0
    · rw [if_pos w, if_pos w2] at e
      by_cases ej : j = k
      · rw [ej, w, w2]
      · exact sN_inj k (fun j a b => h j a (by omega)) e j j0 (by omega)
    · rw [if_pos w, if_neg w2] at e
      have r2 := zI_r k h2 (hz2 w2)
      have := Int.mul_nonneg (show 0 ≤ hd2 k - 1 by omega) hd0
      omega
    · rw [if_neg w, if_pos w2] at e
      have r1 := zI_r k h1 (hz1 w)
      have := Int.mul_nonneg (show 0 ≤ hd k - 1 by omega) hd0
      omega
    · rw [if_neg w, if_neg w2] at e
      have r1 := zI_r k h1 (hz1 w)
      have r2 := zI_r k h2 (hz2 w2)
      have e' : zI sz hd k + (hd k - 1) * dN sz k = zI sz hd2 k + (hd2 k - 1) * dN sz k := by omega
      have q1 : (zI sz hd k + (hd k - 1) * dN sz k) / dN sz k = hd k - 1 := by
        rw [Int.add_mul_ediv_right _ _ (by omega), Int.ediv_eq_zero_of_lt r1.1 r1.2, Int.zero_add]
      have q2 : (zI sz hd2 k + (hd2 k - 1) * dN sz k) / dN sz k = hd2 k - 1 := by
        rw [Int.add_mul_ediv_right _ _ (by omega), Int.ediv_eq_zero_of_lt r2.1 r2.2, Int.zero_add]
      have ek : hd k = hd2 k := by
        rw [e', q2] at q1
        omega
      by_cases ej : j = k
      · rw [ej]; exact ek
      · rw [ek] at e'
        exact zI_inj k (fun j a b => h j a (by omega)) (hz1 w) (hz2 w2) (by omega) j j0 (by omega)
theorem dN_le {sz : Int → Int} (n : Nat) (h4 : n ≤ 4) (h : ∀ j : Int, 0 ≤ j → j < n → 1 ≤ sz j ∧ sz j ≤ 10) : dN sz n ≤ 4641 := by
  have step : ∀ k : Nat, k < n → dN sz (k + 1) ≤ 11 ^ k + 10 * dN sz k := fun k hk => by
    have h1 := h k (by omega) (by omega)
    have h2 := mN_le (rm := sz) k (fun i a b => h i a (by omega))
    have h3 := dN_nn (sz := sz) k (fun i a b => (h i a (by omega)).1)
    have h5 : sz k * dN sz k ≤ 10 * dN sz k := Int.mul_le_mul_of_nonneg_right h1.2 h3
    rw [dN]
    omega
  have e0 : dN sz 0 = 0 := rfl
  have hc : n = 0 ∨ n = 1 ∨ n = 2 ∨ n = 3 ∨ n = 4 := by omega
  have p0 : (11 : Int) ^ 0 = 1 := by decide
  have p1 : (11 : Int) ^ 1 = 11 := by decide
  have p2 : (11 : Int) ^ 2 = 121 := by decide
  have p3 : (11 : Int) ^ 3 = 1331 := by decide
  rcases hc with rfl | rfl | rfl | rfl | rfl
  · omega
  · have t0 : dN sz 1 ≤ 11 ^ 0 + 10 * dN sz 0 := step 0 (by omega); omega
  · have t0 : dN sz 1 ≤ 11 ^ 0 + 10 * dN sz 0 := step 0 (by omega); have t1 : dN sz 2 ≤ 11 ^ 1 + 10 * dN sz 1 := step 1 (by omega); omega
  · have t0 : dN sz 1 ≤ 11 ^ 0 + 10 * dN sz 0 := step 0 (by omega); have t1 : dN sz 2 ≤ 11 ^ 1 + 10 * dN sz 1 := step 1 (by omega); have t2 : dN sz 3 ≤ 11 ^ 2 + 10 * dN sz 2 := step 2 (by omega); omega
  · have t0 : dN sz 1 ≤ 11 ^ 0 + 10 * dN sz 0 := step 0 (by omega); have t1 : dN sz 2 ≤ 11 ^ 1 + 10 * dN sz 1 := step 1 (by omega); have t2 : dN sz 3 ≤ 11 ^ 2 + 10 * dN sz 2 := step 2 (by omega); have t3 : dN sz 4 ≤ 11 ^ 3 + 10 * dN sz 3 := step 3 (by omega); omega
/-- how many of the first k have the property -/
def cnt (Z : Int → Bool) (fo : Int → Int) : Nat → Nat
  | 0 => 0
  | k + 1 => cnt Z fo k + (if Z (fo k) then 1 else 0)
theorem cnt_en (Z : Int → Bool) (fo : Int → Int) : ∀ k : Nat, ∃ g : Nat → Int, (∀ i, i < cnt Z fo k → 0 ≤ g i ∧ g i < k ∧ Z (fo (g i)) = true) ∧ ∀ i j, i < j → j < cnt Z fo k → g i < g j
  | 0 => ⟨fun _ => 0, fun i hi => absurd hi (by rw [cnt]; omega), fun i j _ hj => absurd hj (by rw [cnt]; omega)⟩
  | k + 1 => by
    obtain ⟨g, g1, g2⟩ := cnt_en Z fo k
    rw [cnt]
    by_cases w : Z (fo k) = true
    · rw [if_pos w]
      refine ⟨fun i => if i < cnt Z fo k then g i else k, fun i hi => ?_, fun i j hij hj => ?_⟩
      · by_cases q : i < cnt Z fo k
        · simp only [if_pos q]
          have := g1 i q
          exact ⟨this.1, by omega, this.2.2⟩
        · simp only [if_neg q]
          exact ⟨by omega, by omega, w⟩
      · have hi : i < cnt Z fo k := by omega
        simp only [if_pos hi]
        by_cases q : j < cnt Z fo k
        · simp only [if_pos q]; exact g2 i j hij q
        · simp only [if_neg q]
          exact (g1 i hi).2.1
    · rw [if_neg w]
      exact ⟨g, fun i hi => by have := g1 i hi; exact ⟨this.1, by omega, this.2.2⟩, fun i j hij hj => g2 i j hij hj⟩
theorem cnt_mono (Z : Int → Bool) (fo : Int → Int) {a b : Nat} (h : a ≤ b) : cnt Z fo a ≤ cnt Z fo b := by
  induction b with
  | zero => have : a = 0 := by omega
            subst this; omega
  | succ b ih =>
    by_cases e : a = b + 1
    · subst e; omega
    · have := ih (by omega)
      rw [cnt]
      omega
theorem cnt_le {Z : Int → Bool} {fo : Int → Int} {k m : Nat} {f : Int → Int} (hf : ∀ i : Int, 0 ≤ i → i < k → Z (fo i) = true → 0 ≤ f (fo i) ∧ f (fo i) < m) (hi : ∀ i j : Int, 0 ≤ i → i < j → j < k → Z (fo i) = true → Z (fo j) = true → f (fo i) ≠ f (fo j)) : cnt Z fo k ≤ m := by
  obtain ⟨g, g1, g2⟩ := cnt_en Z fo k
  refine fb_holes m (cnt Z fo k) (fun i => (f (fo (g i))).toNat) (fun i h => ?_) (fun i j hij hj => ?_)
  · have h1 := g1 i h
    have h2 := hf _ h1.1 h1.2.1 h1.2.2
    show (f (fo (g i))).toNat < m
    omega
  · have h1 := g1 i (by omega)
    have h2 := g1 j hj
    have h3 := hf _ h1.1 h1.2.1 h1.2.2
    have h4 := hf _ h2.1 h2.2.1 h2.2.2
    have h5 := hi (g i) (g j) h1.1 (g2 i j hij hj) h2.2.1 h1.2.2 h2.2.2
    show (f (fo (g i))).toNat ≠ (f (fo (g j))).toNat
    omega
def zB (n : Int) (sz : Int → Int) (x : Int) : Bool := p_any (DC sz x) 0 n.toNat
theorem p_any_ex {hd : Int → Int} {v : Int} : ∀ k : Nat, p_any hd v k = true ↔ ∃ j : Int, 0 ≤ j ∧ j < k ∧ hd j = v
  | 0 => by
    rw [p_any]
    constructor
    · intro h; cases h
    · rintro ⟨j, a, b, -⟩; omega
  | k + 1 => by
    rw [p_any, Bool.or_eq_true, p_any_ex k]
    constructor
    · rintro (⟨j, a, b, c⟩ | h)
      · exact ⟨j, a, by omega, c⟩
      · exact ⟨k, by omega, by omega, by simpa using h⟩
    · rintro ⟨j, a, b, c⟩
      by_cases e : j = k
      · right; rw [← e]; simpa using c
      · exact Or.inl ⟨j, a, by omega, c⟩
theorem zB_drain {n tp dr : Int} {sz : Int → Int} (hr : Rm n sz) {x y a : Int} (hmv : 0 < mvC n tp dr sz x a) (hz : spC sz x a ≠ 0) (hy : y = nxC n tp dr sz x a) : zB n sz y = true := by
  obtain ⟨a0, a1, hp⟩ := p_mv_pos_act hmv
  have hv : Vh n sz (p_move (DC sz x) a (mvC n tp dr sz x a)) := move_v (DC_v hr x) hmv
  unfold spC p_spilt at hz
  by_cases w : 0 ≤ a ∧ a < 24 ∧ k_taker a < 0 ∧ 0 ≤ k_giver a
  · refine (p_any_ex _).mpr ⟨k_giver a, w.2.2.2, by have := hp.1; have := hr.1; omega, ?_⟩
    have hmv2 : mvC n tp dr sz x a = if p_there tp (DC sz x) (k_giver a) < p_room dr sz (DC sz x) (k_taker a) then p_there tp (DC sz x) (k_giver a) else p_room dr sz (DC sz x) (k_taker a) := p_mv_act a0 a1 hp
    have e1 : p_there tp (DC sz x) (k_giver a) = DC sz x (k_giver a) := by unfold p_there; rw [if_pos w.2.2.2]
    have e2 : p_room dr sz (DC sz x) (k_taker a) = if dr = 0 then 0 else 10 := by unfold p_room; rw [if_neg (by omega)]
    have hd := DC_v hr x (k_giver a) w.2.2.2 hp.1
    have hs := hr.2.2 (k_giver a) w.2.2.2 hp.1
    have e3 : mvC n tp dr sz x a = DC sz x (k_giver a) := by
      rw [e1, e2] at hmv2
      by_cases d : dr = 0
      · rw [if_pos d] at hmv2
        split at hmv2 <;> omega
      · rw [if_neg d] at hmv2
        split at hmv2 <;> omega
    have e4 : nxC n tp dr sz x a = cC n sz (p_move (DC sz x) a (mvC n tp dr sz x a)) := by unfold nxC; rw [if_pos hmv]
    rw [hy, e4, DC_cC hr hv w.2.2.2 hp.1]
    unfold p_move
    rw [if_neg (by omega), if_pos w.2.2.2, uf_same]
    omega
  · rw [if_neg w] at hz
    exact absurd rfl hz
theorem spill_le {n tp dr : Int} {sz : Int → Int} (hr : Rm n sz) {M L : Int} {le : Int → Int} {x0 : Int} {fo lv ca pp : Int → Int} {r : Int} (hL : LZ (mT sz n) L (nxC n tp dr sz) (spC sz) x0 le) (hT : TB (mT sz n) M (nxC n tp dr sz) (fun x a => decide (le (nxC n tp dr sz x a) = le x + spC sz x a)) x0 fo lv ca r (24 * r) pp) : ∀ k, 0 ≤ k → k < r → le (fo k) ≤ 46410 := by
  have hn := hr.1
  have key : ∀ (m : Nat) (k : Int), k < m → 0 ≤ k → k < r → le (fo k) ≤ 10 * (cnt (zB n sz) fo (k + 1).toNat : Int) := by
    intro m
    induction m with
    | zero => intro k h k0 k1; omega
    | succ m ih =>
      intro k h k0 k1
      by_cases q : k = 0
      · subst q
        rw [hT.2.2.1, hL.2.2.1]
        omega
      · have hp := TB_par hT (k := k) (by omega) k1
        have h9 := hT.2.2.2.2.2.2.2.1 k (by omega) k1
        have hrp := hT.2.2.2.2.1 (pp k / 24) hp.1 (by omega)
        have hok := h9.2.2.2.1
        have hfk := h9.2.2.2.2.1
        have i1 := ih (pp k / 24) (by omega) hp.1 (by omega)
        have hok : le (nxC n tp dr sz (fo (pp k / 24)) (pp k % 24)) = le (fo (pp k / 24)) + spC sz (fo (pp k / 24)) (pp k % 24) := by simpa using hok
        rw [← hfk] at hok
        have hmo := cnt_mono (zB n sz) fo (a := (pp k / 24 + 1).toNat) (b := k.toNat) (by omega)
        have hmo2 := cnt_mono (zB n sz) fo (a := k.toNat) (b := (k + 1).toNat) (by omega)
        rcases nxC_D (tp := tp) (dr := dr) hr hrp.1 hrp.2.1 (pp k % 24) with ⟨w1, w2⟩ | ⟨w1, w2, w3⟩
        · have := TB_inj hT (j := k) (by omega) k1 hp.1 (by omega) (by rw [hfk, w2])
          omega
        · have hs := (NX_D (tp := tp) (dr := dr) hr (fo (pp k / 24)) (pp k % 24) hrp.1 hrp.2.1 hp.2.2.1 hp.2.2.2).2
          rw [spD_eq w1] at hs
          by_cases z : spC sz (fo (pp k / 24)) (pp k % 24) = 0
          · omega
          · have hz : zB n sz (fo k) = true := by
              have hmv : 0 < mvC n tp dr sz (fo (pp k / 24)) (pp k % 24) := by
                unfold nxD at w1
                by_cases u : 0 < mvC n tp dr sz (fo (pp k / 24)) (pp k % 24)
                · exact u
                · rw [if_neg u] at w1; exact absurd rfl w1
              exact zB_drain hr hmv z hfk
            have e : cnt (zB n sz) fo (k + 1).toNat = cnt (zB n sz) fo k.toNat + 1 := by
              rw [show (k + 1).toNat = k.toNat + 1 by omega, cnt, Int.toNat_of_nonneg k0, if_pos hz]
            omega
  intro k k0 k1
  have h1 := key (k.toNat + 1) k (by omega) k0 k1
  have h2 : cnt (zB n sz) fo (k + 1).toNat ≤ 4641 := by
    refine cnt_le (m := 4641) (f := fun x => zI sz (DC sz x) n.toNat) (fun i i0 i1 hz => ?_) (fun i j i0 ij j1 hz hz2 => ?_)
    · have hv := DC_v hr (fo i)
      have hz' := (p_any_ex (hd := DC sz (fo i)) (v := 0) n.toNat).mp hz
      have hzr := zI_r (sz := sz) (hd := DC sz (fo i)) n.toNat (fun j a b => ⟨(hr.2.2 j a (by omega)).1, hv j a (by omega)⟩) hz'
      have := dN_le (sz := sz) n.toNat (by have := hr.2.1; omega) (fun j a b => hr.2.2 j a (by omega))
      show 0 ≤ zI sz (DC sz (fo i)) n.toNat ∧ zI sz (DC sz (fo i)) n.toNat < _
      omega
    · have hv := DC_v hr (fo i)
      have hv2 := DC_v hr (fo j)
      have ri := hT.2.2.2.2.1 i i0 (by omega)
      have rj := hT.2.2.2.2.1 j (by omega) (by omega)
      intro e
      have hdig := zI_inj (sz := sz) (hd := DC sz (fo i)) (hd2 := DC sz (fo j)) n.toNat (fun u a b => by
        have h1 := (hr.2.2 u a (by omega)).1
        have h2 := hv u a (by omega)
        have h3 := hv2 u a (by omega)
        omega) ((p_any_ex _).mp hz) ((p_any_ex _).mp hz2) e
      have : fo i = fo j := by
        rw [← cC_dig hr ri.1 ri.2.1, ← cC_dig hr rj.1 rj.2.1]
        exact cC_congr (fun u a b => hdig u a (by omega))
      have := TB_inj hT i0 (by omega) (by omega) (by omega) this
      omega
  omega
