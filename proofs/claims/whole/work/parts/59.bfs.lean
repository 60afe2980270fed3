/-! ===== pure: the first row that is found is the first of the least ===== -/
def ls : List Int → List Int → Prop
  | a :: l, b :: m => a < b ∨ (a = b ∧ ls l m)
  | _, _ => False
theorem ls_ir : ∀ l : List Int, ¬ ls l l
  | [] => fun h => h
  | a :: l => fun h => by
    rcases h with h | h
    · omega
    · exact ls_ir l h.2
theorem ls_tr : ∀ l m k : List Int, ls l m → ls m k → ls l k
  | [], _, _, h, _ => absurd h (by unfold ls; exact fun w => w)
  | _ :: _, [], _, h, _ => absurd h (by unfold ls; exact fun w => w)
  | _ :: _, _ :: _, [], _, h => absurd h (by unfold ls; exact fun w => w)
  | a :: l, b :: m, c :: k, h, h2 => by
    unfold ls at h h2 ⊢
    rcases h with h | ⟨h, h3⟩ <;> rcases h2 with h2 | ⟨h2, h4⟩
    · left; omega
    · left; omega
    · left; omega
    · exact Or.inr ⟨by omega, ls_tr l m k h3 h4⟩
theorem ls_app : ∀ (l m u v : List Int), l.length = m.length → ls l m → ls (l ++ u) (m ++ v)
  | [], _, _, _, _, h => absurd h (by unfold ls; exact fun w => w)
  | _ :: _, [], _, _, _, h => absurd h (by unfold ls; exact fun w => w)
  | a :: l, b :: m, u, v, e, h => by
    unfold ls at h
    show ls (a :: (l ++ u)) (b :: (m ++ v))
    unfold ls
    rcases h with h | ⟨h, h3⟩
    · exact Or.inl h
    · exact Or.inr ⟨h, ls_app l m u v (by simpa using e) h3⟩
theorem ls_sn : ∀ (l : List Int) {a b : Int}, a < b → ls (l ++ [a]) (l ++ [b])
  | [], a, b, h => Or.inl h
  | c :: l, a, b, h => Or.inr ⟨rfl, ls_sn l h⟩
/-- a row of allowed acts -/
def OP (nx : Int → Int → Int) (ok : Int → Int → Bool) : List Int → Int → Int → Prop
  | [], x, y => x = y
  | a :: l, x, y => 0 ≤ a ∧ a < 24 ∧ nx x a ≠ -1 ∧ ok x a = true ∧ OP nx ok l (nx x a) y
theorem OP_sn {nx : Int → Int → Int} {ok : Int → Int → Bool} : ∀ (l : List Int) (a x y : Int), OP nx ok (l ++ [a]) x y ↔ ∃ z, OP nx ok l x z ∧ 0 ≤ a ∧ a < 24 ∧ nx z a ≠ -1 ∧ ok z a = true ∧ nx z a = y
  | [], a, x, y => by
    show OP nx ok [a] x y ↔ _
    unfold OP
    exact ⟨fun ⟨h1, h2, h3, h4, h5⟩ => ⟨x, rfl, h1, h2, h3, h4, h5⟩, fun ⟨z, e, h1, h2, h3, h4, h5⟩ => by subst e; exact ⟨h1, h2, h3, h4, h5⟩⟩
  | b :: l, a, x, y => by
    show OP nx ok (b :: (l ++ [a])) x y ↔ _
    have ih := OP_sn (nx := nx) (ok := ok) l a (nx x b) y
    unfold OP
    constructor
    · rintro ⟨h1, h2, h3, h4, h5⟩
      obtain ⟨z, hz, h6⟩ := ih.mp h5
      exact ⟨z, ⟨h1, h2, h3, h4, hz⟩, h6⟩
    · rintro ⟨z, ⟨h1, h2, h3, h4, hz⟩, h6⟩
      exact ⟨h1, h2, h3, h4, ih.mpr ⟨z, hz, h6⟩⟩
def NCr (N : Int) (nx nc : Int → Int → Int) : Prop := ∀ x a, 0 ≤ x → x < N → ((nx x a = -1 ∧ nc x a = x) ∨ (nx x a ≠ -1 ∧ nc x a = nx x a ∧ nc x a ≠ x)) ∧ 0 ≤ nc x a ∧ nc x a < N
def rk (pp : Int → Int) : Nat → Int → List Int
  | 0, _ => []
  | f + 1, k => if k ≤ 0 then [] else rk pp f (pp k / 24) ++ [pp k % 24]
def rK (pp : Int → Int) (k : Int) : List Int := rk pp k.toNat k
section TBS
variable {N M : Int} {nx nc : Int → Int → Int} {ok : Int → Int → Bool} {x0 : Int} {fo lv ca pp : Int → Int} {r : Int}
theorem TB_par (hT : TB N M nc ok x0 fo lv ca r (24 * r) pp) {k : Int} (h1 : 1 ≤ k) (h2 : k < r) : 0 ≤ pp k / 24 ∧ pp k / 24 < k ∧ 0 ≤ pp k % 24 ∧ pp k % 24 < 24 := by
  have h := hT.2.2.2.2.2.2.2.1 k h1 h2
  have := h.1
  have := h.2.2.1
  omega
theorem rk_eq (hT : TB N M nc ok x0 fo lv ca r (24 * r) pp) : ∀ (f : Nat) (k : Int), 0 ≤ k → k < r → k ≤ f → rk pp f k = rK pp k
  | 0, k, k0, k1, h => by
    have : k = 0 := by omega
    subst this
    rfl
  | f + 1, k, k0, k1, h => by
    by_cases q : k ≤ 0
    · have : k = 0 := by omega
      subst this
      rfl
    · have hp := TB_par hT (by omega) k1
      obtain ⟨m, hm⟩ : ∃ m : Nat, k.toNat = m + 1 := ⟨k.toNat - 1, by omega⟩
      unfold rK
      rw [hm, rk, rk, if_neg q, if_neg q, rk_eq hT f _ hp.1 (by omega) (by omega), rk_eq hT m _ hp.1 (by omega) (by omega)]
theorem rK_s (hT : TB N M nc ok x0 fo lv ca r (24 * r) pp) {k : Int} (h1 : 1 ≤ k) (h2 : k < r) : rK pp k = rK pp (pp k / 24) ++ [pp k % 24] := by
  have hp := TB_par hT h1 h2
  obtain ⟨m, hm⟩ : ∃ m : Nat, k.toNat = m + 1 := ⟨k.toNat - 1, by omega⟩
  have e : rK pp k = rk pp (m + 1) k := by unfold rK; rw [hm]
  rw [e, rk, if_neg (by omega), rk_eq hT m _ hp.1 (by omega) (by omega)]
theorem TB_mono (hT : TB N M nc ok x0 fo lv ca r (24 * r) pp) : ∀ (n : Nat) (j k : Int), k < n → 0 ≤ j → j ≤ k → k < r → lv (fo j) ≤ lv (fo k)
  | 0, j, k, h, j0, jk, k1 => by omega
  | n + 1, j, k, h, j0, jk, k1 => by
    by_cases q : j = 0
    · subst q
      rw [hT.2.2.1, hT.2.2.2.1]
      exact (hT.2.2.2.2.1 k (by omega) k1).2.2.1
    · by_cases e : j = k
      · rw [e]; omega
      · have hj := hT.2.2.2.2.2.2.2.1 j (by omega) (by omega)
        have hk := hT.2.2.2.2.2.2.2.1 k (by omega) (by omega)
        have hlt := hT.2.2.2.2.2.2.2.2.1 j k (by omega) (by omega) k1
        have := TB_mono hT n (pp j / 24) (pp k / 24) (by omega) (by omega) (by omega) (by omega)
        have := hj.2.2.2.2.2.1
        have := hk.2.2.2.2.2.1
        omega
theorem TB_mon (hT : TB N M nc ok x0 fo lv ca r (24 * r) pp) {j k : Int} (j0 : 0 ≤ j) (jk : j ≤ k) (k1 : k < r) : lv (fo j) ≤ lv (fo k) := TB_mono hT (k.toNat + 1) j k (by omega) j0 jk k1
theorem TB_inj (hT : TB N M nc ok x0 fo lv ca r (24 * r) pp) {j k : Int} (j0 : 0 ≤ j) (j1 : j < r) (k0 : 0 ≤ k) (k1 : k < r) (e : fo j = fo k) : j = k := by
  rcases Int.lt_trichotomy j k with q | q | q
  · exact absurd e (hT.2.2.2.2.2.2.1 j k j0 q k1)
  · exact q
  · exact absurd e.symm (hT.2.2.2.2.2.2.1 k j k0 q j1)
/-- the parent's act is an act -/
theorem TB_edge (hC : NCr N nx nc) (hT : TB N M nc ok x0 fo lv ca r (24 * r) pp) {k : Int} (h1 : 1 ≤ k) (h2 : k < r) : nx (fo (pp k / 24)) (pp k % 24) = fo k ∧ nx (fo (pp k / 24)) (pp k % 24) ≠ -1 ∧ ok (fo (pp k / 24)) (pp k % 24) = true := by
  have hp := TB_par hT h1 h2
  have h := hT.2.2.2.2.2.2.2.1 k h1 h2
  have hr := hT.2.2.2.2.1 (pp k / 24) hp.1 (by omega)
  rcases (hC (fo (pp k / 24)) (pp k % 24) hr.1 hr.2.1).1 with ⟨w1, w2⟩ | ⟨w1, w2, w3⟩
  · have := TB_inj hT (j := k) (by omega) h2 hp.1 (by omega) (by rw [h.2.2.2.2.1, w2])
    omega
  · exact ⟨by rw [← w2]; exact h.2.2.2.2.1.symm, w1, h.2.2.2.1⟩
theorem rK_op (hC : NCr N nx nc) (hT : TB N M nc ok x0 fo lv ca r (24 * r) pp) : ∀ (n : Nat) (k : Int), k < n → 0 ≤ k → k < r → OP nx ok (rK pp k) x0 (fo k) ∧ ((rK pp k).length : Int) = lv (fo k)
  | 0, k, h, k0, k1 => by omega
  | n + 1, k, h, k0, k1 => by
    by_cases q : k = 0
    · subst q
      rw [hT.2.2.1, hT.2.2.2.1]
      exact ⟨rfl, rfl⟩
    · have hp := TB_par hT (k := k) (by omega) k1
      have he := TB_edge hC hT (k := k) (by omega) k1
      have hl := (hT.2.2.2.2.2.2.2.1 k (by omega) k1).2.2.2.2.2.1
      have ih := rK_op hC hT n (pp k / 24) (by omega) hp.1 (by omega)
      rw [rK_s hT (by omega) k1]
      refine ⟨(OP_sn _ _ _ _).mpr ⟨_, ih.1, hp.2.2.1, hp.2.2.2, he.2.1, he.2.2, he.1⟩, ?_⟩
      rw [List.length_append]
      simp
      omega
theorem rK_r (hC : NCr N nx nc) (hT : TB N M nc ok x0 fo lv ca r (24 * r) pp) {k : Int} (k0 : 0 ≤ k) (k1 : k < r) : OP nx ok (rK pp k) x0 (fo k) ∧ ((rK pp k).length : Int) = lv (fo k) := rK_op hC hT (k.toNat + 1) k (by omega) k0 k1
theorem OP_fd (hC : NCr N nx nc) (hT : TB N M nc ok x0 fo lv ca r (24 * r) pp) : ∀ (l : List Int) (i y L : Int), 0 ≤ i → i < r → lv (fo i) ≤ L → OP nx ok l (fo i) y → ∃ j, 0 ≤ j ∧ j < r ∧ fo j = y ∧ lv y ≤ L + l.length
  | [], i, y, L, i0, i1, hL, h => by
    unfold OP at h
    subst h
    exact ⟨i, i0, i1, rfl, by simp; omega⟩
  | a :: l, i, y, L, i0, i1, hL, h => by
    obtain ⟨a0, a1, a2, a3, a4⟩ := h
    have hr := hT.2.2.2.2.1 i i0 i1
    obtain ⟨k, k0, k1, k2, k3⟩ := hT.2.2.2.2.2.2.2.2.2 i a i0 i1 a0 a1 (by omega) a3
    have e : nc (fo i) a = nx (fo i) a := by
      rcases (hC (fo i) a hr.1 hr.2.1).1 with ⟨w1, w2⟩ | ⟨w1, w2, w3⟩
      · exact absurd w1 a2
      · exact w2
    rw [e] at k2
    rw [← k2] at a4
    have hlv : lv (fo k) ≤ lv (fo i) + 1 := by
      by_cases q : k = 0
      · subst q
        rw [hT.2.2.1, hT.2.2.2.1]
        have := hr.2.2.1
        omega
      · have hp := TB_par hT (k := k) (by omega) k1
        have h9 := (hT.2.2.2.2.2.2.2.1 k (by omega) k1).2.2.2.2.2.1
        have := TB_mon hT hp.1 (show pp k / 24 ≤ i by omega) i1
        omega
    obtain ⟨j, j0, j1, j2, j3⟩ := OP_fd hC hT l k y (L + 1) k0 k1 (by omega) a4
    exact ⟨j, j0, j1, j2, by simp; omega⟩
theorem OP_f0 (hC : NCr N nx nc) (hT : TB N M nc ok x0 fo lv ca r (24 * r) pp) {l : List Int} {y : Int} (h : OP nx ok l x0 y) : ∃ j, 0 ≤ j ∧ j < r ∧ fo j = y ∧ lv y ≤ l.length := by
  rw [← hT.2.2.1] at h
  have := OP_fd hC hT l 0 y 0 (by omega) (by have := hT.1; omega) (by rw [hT.2.2.1, hT.2.2.2.1]; omega) h
  simpa using this
theorem lv_0 (hT : TB N M nc ok x0 fo lv ca r (24 * r) pp) {k : Int} (k0 : 0 ≤ k) (k1 : k < r) (h : lv (fo k) = 0) : k = 0 := by
  by_cases q : k = 0
  · exact q
  · have h9 := (hT.2.2.2.2.2.2.2.1 k (by omega) k1).2.2.2.2.2.1
    have hp := TB_par hT (k := k) (by omega) k1
    have := (hT.2.2.2.2.1 (pp k / 24) hp.1 (by omega)).2.2.1
    omega
theorem ls_row (hC : NCr N nx nc) (hT : TB N M nc ok x0 fo lv ca r (24 * r) pp) : ∀ (n : Nat) (j k : Int), k < n → 0 ≤ j → j < k → k < r → lv (fo j) = lv (fo k) → ls (rK pp j) (rK pp k)
  | 0, j, k, h, _, _, _, _ => by omega
  | n + 1, j, k, h, j0, jk, k1, e => by
    by_cases q : j = 0
    · subst q
      rw [hT.2.2.1, hT.2.2.2.1] at e
      have := lv_0 hT (by omega) k1 e.symm
      omega
    · have hj := TB_par hT (k := j) (by omega) (by omega)
      have hk := TB_par hT (k := k) (by omega) k1
      have lj := (hT.2.2.2.2.2.2.2.1 j (by omega) (by omega)).2.2.2.2.2.1
      have lk := (hT.2.2.2.2.2.2.2.1 k (by omega) k1).2.2.2.2.2.1
      have hlt := hT.2.2.2.2.2.2.2.2.1 j k (by omega) (by omega) k1
      rw [rK_s hT (by omega) (by omega : j < r), rK_s hT (by omega) k1]
      by_cases w : pp j / 24 = pp k / 24
      · rw [w]
        exact ls_sn _ (by omega)
      · have r1 := (rK_r hC hT hj.1 (show pp j / 24 < r by omega)).2
        have r2 := (rK_r hC hT hk.1 (show pp k / 24 < r by omega)).2
        exact ls_app _ _ _ _ (by omega) (ls_row hC hT n _ _ (by omega) hj.1 (by omega) (by omega) (by omega))
theorem lx_row (hC : NCr N nx nc) (hT : TB N M nc ok x0 fo lv ca r (24 * r) pp) : ∀ (n : Nat) (l : List Int) (k : Int), l.length = n → 0 ≤ k → k < r → OP nx ok l x0 (fo k) → (l.length : Int) = lv (fo k) → rK pp k = l ∨ ls (rK pp k) l
  | 0, l, k, hn, k0, k1, ho, hl => by
    have e := lv_0 hT k0 k1 (by omega)
    subst e
    left
    rw [List.length_eq_zero_iff.mp hn]
    rfl
  | n + 1, l, k, hn, k0, k1, ho, hl => by
    have hk1 : 1 ≤ k := by
      rcases Int.lt_or_le k 1 with q | q
      · have e : k = 0 := by omega
        rw [e, hT.2.2.1, hT.2.2.2.1] at hl
        omega
      · exact q
    rcases List.eq_nil_or_concat l with e | ⟨l', a, e⟩
    · subst e; simp at hn
    · rw [List.concat_eq_append] at e
      subst e
      have hlen : l'.length = n := by simpa using hn
      obtain ⟨z, z1, a0, a1, a2, a3, a4⟩ := (OP_sn _ _ _ _).mp ho
      obtain ⟨j, j0, j1, j2, j3⟩ := OP_f0 hC hT z1
      subst j2
      have hr := hT.2.2.2.2.1 j j0 j1
      obtain ⟨k', k0', k1', k2', k3'⟩ := hT.2.2.2.2.2.2.2.2.2 j a j0 j1 a0 a1 (by omega) a3
      have e9 : nc (fo j) a = nx (fo j) a := by
        rcases (hC (fo j) a hr.1 hr.2.1).1 with ⟨w1, w2⟩ | ⟨w1, w2, w3⟩
        · exact absurd w1 a2
        · exact w2
      have ek : k' = k := TB_inj hT k0' k1' k0 k1 (by rw [k2', e9, a4])
      subst ek
      have hp := TB_par hT hk1 k1
      have hlk := (hT.2.2.2.2.2.2.2.1 k' hk1 k1).2.2.2.2.2.1
      have hle : pp k' / 24 ≤ j := by omega
      have hm := TB_mon hT hp.1 hle j1
      have hl2 : ((l' ++ [a]).length : Int) = (l'.length : Int) + 1 := by simp
      have elj : lv (fo j) = (l'.length : Int) := by omega
      have ih := lx_row hC hT n l' j hlen j0 j1 z1 elj.symm
      rw [rK_s hT hk1 k1]
      have rj := (rK_r hC hT j0 j1).2
      have rp := (rK_r hC hT hp.1 (show pp k' / 24 < r by omega)).2
      by_cases w : pp k' / 24 = j
      · rw [w]
        rcases ih with ih | ih
        · rw [ih]
          by_cases w2 : pp k' % 24 = a
          · rw [w2]; exact Or.inl rfl
          · exact Or.inr (ls_sn _ (by omega))
        · exact Or.inr (ls_app _ _ _ _ (by omega) ih)
      · have h8 := ls_row hC hT (j.toNat + 1) _ j (by omega) hp.1 (by omega) j1 (by omega)
        right
        refine ls_app _ _ _ _ (by omega) ?_
        rcases ih with ih | ih
        · rw [← ih]; exact h8
        · exact ls_tr _ _ _ h8 ih
theorem row_len (hT : TB N M nc ok x0 fo lv ca r (24 * r) pp) : ∀ (n : Nat) (k : Int), k < n → 0 ≤ k → k < r → ((rK pp k).length : Int) = lv (fo k)
  | 0, k, h, k0, k1 => by omega
  | n + 1, k, h, k0, k1 => by
    by_cases q : k = 0
    · subst q
      rw [hT.2.2.1, hT.2.2.2.1]
      rfl
    · have hp := TB_par hT (k := k) (by omega) k1
      have hl := (hT.2.2.2.2.2.2.2.1 k (by omega) k1).2.2.2.2.2.1
      have ih := row_len hT n (pp k / 24) (by omega) hp.1 (by omega)
      rw [rK_s hT (by omega) k1, List.length_append]
      simp
      omega
/-- the acts that the class reads off -/
theorem row_at (hM : N ≤ M) (hT : TB N M nc ok x0 fo lv ca r (24 * r) pp) : ∀ (n : Nat) (k : Int), k < n → 0 ≤ k → k < r → ∀ i : Nat, p_row M lv ca (fo k) i = ((rK pp k)[i]?).getD (-1)
  | 0, k, h, k0, k1 => by omega
  | n + 1, k, h, k0, k1 => fun i => by
    have hr := hT.2.2.2.2.1 k k0 k1
    by_cases q : k = 0
    · subst q
      have e : lv (fo 0) = 0 := by rw [hT.2.2.1, hT.2.2.2.1]
      unfold p_row
      rw [if_neg (by omega)]
      rfl
    · have hp := TB_par hT (k := k) (by omega) k1
      have hk := hT.2.2.2.2.2.2.2.1 k (by omega) k1
      have hlv := hk.2.2.2.2.2.1
      have hca := hk.2.2.2.2.2.2
      have hrp := hT.2.2.2.2.1 (pp k / 24) hp.1 (by omega)
      have ih := row_at hM hT n (pp k / 24) (by omega) hp.1 (by omega) i
      have hlen := row_len hT n (pp k / 24) (by omega) hp.1 (by omega)
      rw [rK_s hT (by omega) k1]
      by_cases w : (i : Int) < lv (fo (pp k / 24))
      · rw [List.getElem?_append_left (by omega), ← ih]
        unfold p_row
        rw [if_pos ⟨hr.1, by omega, by omega, by omega⟩, if_pos ⟨hrp.1, by omega, by omega, w⟩]
        rw [show lv (fo k) - 1 - (i : Int) = (lv (fo (pp k / 24)) - 1 - (i : Int)) + 1 by omega, upN_s ca (by omega), show lv (fo (pp k / 24)) - 1 - (i : Int) + 1 - 1 = lv (fo (pp k / 24)) - 1 - (i : Int) by omega, hca, show (fo (pp k / 24) * 32 + pp k % 24) / 32 = fo (pp k / 24) by omega]
      · rw [List.getElem?_append_right (by omega)]
        by_cases w2 : (i : Int) = lv (fo (pp k / 24))
        · unfold p_row
          rw [if_pos ⟨hr.1, by omega, by omega, by omega⟩, show lv (fo k) - 1 - (i : Int) = 0 by omega]
          show ca (upN ca 0 (fo k)) % 32 = _
          rw [upN, hca, show i - (rK pp (pp k / 24)).length = 0 by omega]
          simp
          omega
        · unfold p_row
          rw [if_neg (by omega), List.getElem?_eq_none (by simp; omega)]
          rfl
end TBS
