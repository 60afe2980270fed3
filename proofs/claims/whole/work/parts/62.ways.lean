/-! ===== pure: how many rows ===== -/
theorem sN_add (f g : Int → Int) : ∀ k : Nat, sN (fun j => f j + g j) k = sN f k + sN g k
  | 0 => rfl
  | k + 1 => by
    rw [sN, sN, sN, sN_add f g k]
    omega
theorem sN_mul (f : Int → Int) (c : Int) : ∀ k : Nat, sN (fun j => f j * c) k = sN f k * c
  | 0 => by simp [sN]
  | k + 1 => by rw [sN, sN, sN_mul f c k, Int.add_mul]
theorem sN_swap (F : Int → Int → Int) (m : Nat) : ∀ n : Nat, sN (fun a => sN (fun x => F a x) m) n = sN (fun x => sN (fun a => F a x) n) m
  | 0 => (sN_z (f := fun x => sN (fun a => F a x) 0) m (fun j _ _ => rfl)).symm
  | n + 1 => by
    rw [sN, sN_swap F m n, ← sN_add]
    rfl
theorem sN_one {f : Int → Int} {s : Int} : ∀ n : Nat, 0 ≤ s → s < n → (∀ j : Int, 0 ≤ j → j < n → j ≠ s → f j = 0) → sN f n = f s
  | 0, h0, h1, _ => by omega
  | n + 1, h0, h1, h => by
    rw [sN]
    by_cases e : s = n
    · rw [sN_z n (fun j a b => h j a (by omega) (by omega)), e]
      omega
    · rw [sN_one n h0 (by omega) (fun j a b c => h j a (by omega) c), h n (by omega) (by omega) (fun w => e w.symm)]
      omega
/-- a sum over what has been found -/
theorem sN_fo {N : Int} (hN : 0 ≤ N) : ∀ (r : Nat) (fo F : Int → Int), (∀ k : Int, 0 ≤ k → k < r → 0 ≤ fo k ∧ fo k < N) → (∀ j k : Int, 0 ≤ j → j < k → k < r → fo j ≠ fo k) → (∀ y, 0 ≤ y → y < N → (∀ k : Int, 0 ≤ k → k < r → fo k ≠ y) → F y = 0) → sT F N = sN (fun k => F (fo k)) r
  | 0, fo, F, _, _, hz => by
    unfold sT
    rw [sN_z _ (fun y a b => hz y a (by omega) (fun k c d => by omega))]
    rfl
  | r + 1, fo, F, hr, hi, hz => by
    have h1 := hr r (by omega) (by omega)
    have ih := sN_fo hN r fo (uf F (fo r) 0) (fun k a b => hr k a (by omega)) (fun j k a b c => hi j k a b (by omega)) (fun y a b hk => by
      by_cases e : y = fo r
      · rw [e, uf_same]
      · rw [uf_ne _ _ e]
        exact hz y a b (fun k c d => by
          by_cases q : k = r
          · rw [q]; exact fun w => e w.symm
          · exact hk k c (by omega)))
    rw [sT_uf F (fo r) 0 h1.1 h1.2] at ih
    rw [sN, ← sN_cg (f := fun k => uf F (fo r) 0 (fo k)) r (fun k a b => uf_ne _ _ (hi k r a b (by omega)))]
    omega
theorem ct_row {nx : Int → Int → Int} {go : Int → Bool} : ∀ (k : Nat) (s : Int), ct nx go k s ≠ 0 → ∃ l y, OP nx (fun _ _ => true) l s y ∧ l.length = k ∧ go y = true
  | 0, s, h => by
    rw [ct] at h
    by_cases w : go s = true
    · exact ⟨[], s, rfl, rfl, w⟩
    · rw [if_neg w] at h; exact absurd rfl h
  | k + 1, s, h => by
    rw [ct] at h
    have : ∃ a : Int, 0 ≤ a ∧ a < 24 ∧ (if nx s a = -1 then 0 else ct nx go k (nx s a)) ≠ 0 := by
      apply Classical.byContradiction
      intro w
      apply h
      refine sN_z 24 (fun a a0 a1 => ?_)
      apply Classical.byContradiction
      intro w2
      exact w ⟨a, a0, a1, w2⟩
    obtain ⟨a, a0, a1, a2⟩ := this
    by_cases q : nx s a = -1
    · rw [if_pos q] at a2; exact absurd rfl a2
    · rw [if_neg q] at a2
      obtain ⟨l, y, h1, h2, h3⟩ := ct_row k _ a2
      exact ⟨a :: l, y, ⟨a0, a1, q, rfl, h1⟩, by simp [h2], h3⟩
/-- so many rows of just so many acts from one to another -/
def Ct (nx : Int → Int → Int) (k : Nat) (s y : Int) : Int := ct nx (fun z => decide (z = y)) k s
def ed (nx : Int → Int → Int) (x y : Int) : Int := sN (fun a => if nx x a = y then 1 else 0) 24
theorem Ct_0 (nx : Int → Int → Int) (s y : Int) : Ct nx 0 s y = if s = y then 1 else 0 := by
  unfold Ct
  rw [ct]
  simp
theorem Ct_s (nx : Int → Int → Int) (k : Nat) (s y : Int) : Ct nx (k + 1) s y = sN (fun a => if nx s a = -1 then 0 else Ct nx k (nx s a) y) 24 := rfl
theorem Ct_nn (nx : Int → Int → Int) (k : Nat) (s y : Int) : 0 ≤ Ct nx k s y := ct_nn nx _ k s
theorem Ct_sn {N : Int} {nx sp : Int → Int → Int} (hN : NX N nx sp) {y : Int} (y0 : 0 ≤ y) (y1 : y < N) : ∀ (k : Nat) (s : Int), 0 ≤ s → s < N → Ct nx (k + 1) s y = sT (fun x => Ct nx k s x * ed nx x y) N
  | 0, s, s0, s1 => by
    unfold sT
    rw [sN_one (s := s) N.toNat s0 (by omega) (fun j a b c => by rw [Ct_0, if_neg (fun w => c w.symm)]; simp), Ct_0, if_pos rfl, Int.one_mul, Ct_s]
    unfold ed
    refine sN_cg 24 (fun a a0 a1 => ?_)
    rw [Ct_0]
    by_cases q : nx s a = -1
    · rw [if_pos q, if_neg (by omega)]
    · rw [if_neg q]
  | k + 1, s, s0, s1 => by
    rw [Ct_s]
    have e1 : sN (fun a => if nx s a = -1 then 0 else Ct nx (k + 1) (nx s a) y) 24 = sN (fun a => sN (fun x => (if nx s a = -1 then 0 else Ct nx k (nx s a) x) * ed nx x y) N.toNat) 24 := by
      refine sN_cg 24 (fun a a0 a1 => ?_)
      by_cases q : nx s a = -1
      · rw [if_pos q, sN_z N.toNat (fun j _ _ => by rw [if_pos q, Int.zero_mul])]
      · rw [if_neg q]
        rcases (hN s a s0 s1 a0 a1).1 with w | w
        · exact absurd w q
        · rw [Ct_sn hN y0 y1 k _ w.1 w.2]
          unfold sT
          exact sN_cg N.toNat (fun x _ _ => by rw [if_neg q])
    rw [e1, sN_swap]
    unfold sT
    refine sN_cg N.toNat (fun x _ _ => ?_)
    rw [sN_mul, Ct_s]
theorem ct_Ct {N : Int} {nx sp : Int → Int → Int} (hN : NX N nx sp) (go : Int → Bool) : ∀ (k : Nat) (s : Int), 0 ≤ s → s < N → ct nx go k s = sT (fun y => if go y then Ct nx k s y else 0) N
  | 0, s, s0, s1 => by
    unfold sT
    rw [sN_one (s := s) N.toNat s0 (by omega) (fun j a b c => by
      by_cases w : go j = true
      · rw [if_pos w, Ct_0, if_neg (fun w => c w.symm)]
      · rw [if_neg w]), ct, Ct_0]
    simp
  | k + 1, s, s0, s1 => by
    rw [ct]
    have e1 : sN (fun a => if nx s a = -1 then 0 else ct nx go k (nx s a)) 24 = sN (fun a => sN (fun y => if go y then (if nx s a = -1 then 0 else Ct nx k (nx s a) y) else 0) N.toNat) 24 := by
      refine sN_cg 24 (fun a a0 a1 => ?_)
      by_cases q : nx s a = -1
      · rw [if_pos q, sN_z N.toNat (fun j _ _ => by simp [q])]
      · rw [if_neg q]
        rcases (hN s a s0 s1 a0 a1).1 with w | w
        · exact absurd w q
        · rw [ct_Ct hN go k _ w.1 w.2]
          unfold sT
          exact sN_cg N.toNat (fun x _ _ => by simp [q])
    rw [e1, sN_swap]
    unfold sT
    refine sN_cg N.toNat (fun y _ _ => ?_)
    by_cases w : go y = true
    · simp only [if_pos w]
      rw [Ct_s]
    · simp only [if_neg w]
      exact sN_z 24 (fun _ _ _ => rfl)
/-- the class's count, with no bound -/
def ex (nc : Int → Int → Int) (x0 : Int) (fo lv : Int → Int) : Nat → Int → Int
  | 0 => uf (fun _ => 0) x0 1
  | z + 1 => if lv (nc (fo ((z : Int) / 24)) ((z : Int) % 24)) = lv (fo ((z : Int) / 24)) + 1 then uf (ex nc x0 fo lv z) (nc (fo ((z : Int) / 24)) ((z : Int) % 24)) (ex nc x0 fo lv z (nc (fo ((z : Int) / 24)) ((z : Int) % 24)) + ex nc x0 fo lv z (fo ((z : Int) / 24))) else ex nc x0 fo lv z
theorem ex_nn (nc : Int → Int → Int) (x0 : Int) (fo lv : Int → Int) : ∀ (z : Nat) (y : Int), 0 ≤ ex nc x0 fo lv z y
  | 0, y => by
    rw [ex]
    unfold uf
    split
    · omega
    · show (0 : Int) ≤ 0; omega
  | z + 1, y => by
    rw [ex]
    split
    · unfold uf
      split
      · have := ex_nn nc x0 fo lv z (nc (fo ((z : Int) / 24)) ((z : Int) % 24))
        have := ex_nn nc x0 fo lv z (fo ((z : Int) / 24))
        omega
      · exact ex_nn nc x0 fo lv z y
    · exact ex_nn nc x0 fo lv z y
theorem wz_ex (nc : Int → Int → Int) (x0 : Int) (fo lv : Int → Int) : ∀ (z : Nat) (y : Int), wz nc x0 fo lv z y = min mM (ex nc x0 fo lv z y)
  | 0, y => by
    rw [wz, ex]
    unfold uf mM
    split
    · omega
    · show (0 : Int) = min 1000000000000000000 0; omega
  | z + 1, y => by
    rw [wz, ex]
    by_cases w : lv (nc (fo ((z : Int) / 24)) ((z : Int) % 24)) = lv (fo ((z : Int) / 24)) + 1
    · rw [if_pos w, if_pos w]
      unfold uf
      by_cases e : y = nc (fo ((z : Int) / 24)) ((z : Int) % 24)
      · rw [if_pos e, if_pos e, wz_ex nc x0 fo lv z, wz_ex nc x0 fo lv z]
        have h1 := ex_nn nc x0 fo lv z (nc (fo ((z : Int) / 24)) ((z : Int) % 24))
        have h2 := ex_nn nc x0 fo lv z (fo ((z : Int) / 24))
        unfold mM
        omega
      · rw [if_neg e, if_neg e]
        exact wz_ex nc x0 fo lv z y
    · rw [if_neg w, if_neg w]
      exact wz_ex nc x0 fo lv z y
theorem ex_a (nc : Int → Int → Int) (x0 : Int) (fo lv : Int → Int) (k : Nat) : ∀ (a : Nat), a ≤ 24 → ∀ y, ex nc x0 fo lv (24 * k + a) y = ex nc x0 fo lv (24 * k) y + (if lv y = lv (fo k) + 1 then sN (fun b => if nc (fo k) b = y then 1 else 0) a * ex nc x0 fo lv (24 * k) (fo k) else 0)
  | 0, _, y => by
    rw [sN]
    simp
  | a + 1, ha, y => by
    have ih := ex_a nc x0 fo lv k a (by omega)
    have e1 : ((24 * k + a : Nat) : Int) / 24 = k := by omega
    have e2 : ((24 * k + a : Nat) : Int) % 24 = a := by omega
    rw [show 24 * k + (a + 1) = (24 * k + a) + 1 by omega, ex, e1, e2, sN]
    have hk : ex nc x0 fo lv (24 * k + a) (fo k) = ex nc x0 fo lv (24 * k) (fo k) := by
      rw [ih (fo k), if_neg (by omega)]
      omega
    by_cases w : lv (nc (fo k) a) = lv (fo k) + 1
    · rw [if_pos w]
      by_cases e : y = nc (fo k) a
      · subst e
        rw [uf_same, hk, ih, if_pos w, if_pos w, if_pos rfl, Int.add_mul, Int.one_mul]
        omega
      · rw [uf_ne _ _ e, ih y]
        have e9 : (if nc (fo k) a = y then (1 : Int) else 0) = 0 := if_neg (fun z => e z.symm)
        show _ = ex nc x0 fo lv (24 * k) y + (if lv y = lv (fo k) + 1 then (sN (fun b => if nc (fo k) b = y then 1 else 0) a + (if nc (fo k) a = y then 1 else 0)) * ex nc x0 fo lv (24 * k) (fo k) else 0)
        rw [e9, Int.add_zero]
    · rw [if_neg w, ih y]
      by_cases e : lv y = lv (fo k) + 1
      · rw [if_pos e, if_pos e, if_neg (fun z => w (by rw [z]; exact e)), Int.add_zero]
      · rw [if_neg e, if_neg e]
section WYS
variable {N M : Int} {nx nc sp : Int → Int → Int} {x0 : Int} {fo lv ca pp : Int → Int} {r : Int}
theorem Ct_fd (hC : NCr N nx nc) (hT : TB N M nc (fun _ _ => true) x0 fo lv ca r (24 * r) pp) {k : Nat} {y : Int} (h : Ct nx k x0 y ≠ 0) : ∃ j, 0 ≤ j ∧ j < r ∧ fo j = y ∧ lv y ≤ k := by
  obtain ⟨l, z, h1, h2, h3⟩ := ct_row k x0 h
  have h3 : z = y := by simpa using h3
  subst h3
  obtain ⟨j, j0, j1, j2, j3⟩ := OP_f0 hC hT h1
  exact ⟨j, j0, j1, j2, by omega⟩
theorem ed_lv (hC : NCr N nx nc) (hT : TB N M nc (fun _ _ => true) x0 fo lv ca r (24 * r) pp) {k : Int} (k0 : 0 ≤ k) (k1 : k < r) {y : Int} (y0 : 0 ≤ y) (h : ed nx (fo k) y ≠ 0) : lv y ≤ lv (fo k) + 1 := by
  have : ∃ a : Int, 0 ≤ a ∧ a < 24 ∧ nx (fo k) a = y := by
    apply Classical.byContradiction
    intro w
    apply h
    refine sN_z 24 (fun a a0 a1 => if_neg (fun e => w ⟨a, a0, a1, e⟩))
  obtain ⟨a, a0, a1, a2⟩ := this
  obtain ⟨j, j0, j1, j2, j3⟩ := OP_fd hC hT [a] k y (lv (fo k)) k0 k1 (by omega) ⟨a0, a1, by omega, rfl, a2⟩
  simpa using j3
theorem ed_eq (hC : NCr N nx nc) {x y : Int} (x00 : 0 ≤ x) (x01 : x < N) (y0 : 0 ≤ y) (hne : y ≠ x) : sN (fun b => if nc x b = y then 1 else 0) 24 = ed nx x y := by
  unfold ed
  refine sN_cg 24 (fun a a0 a1 => ?_)
  rcases (hC x a x00 x01).1 with ⟨w1, w2⟩ | ⟨w1, w2, w3⟩
  · rw [if_neg (by rw [w2]; exact fun z => hne z.symm), if_neg (by omega)]
  · rw [w2]
theorem Ck (hC : NCr N nx nc) (hN : NX N nx sp) (hT : TB N M nc (fun _ _ => true) x0 fo lv ca r (24 * r) pp) (x00 : 0 ≤ x0) (x01 : x0 < N) : ∀ k : Nat, (k : Int) ≤ r → (∀ y, ex nc x0 fo lv (24 * k) y = (if y = x0 then 1 else 0) + sN (fun k' => if lv y = lv (fo k') + 1 then sN (fun b => if nc (fo k') b = y then 1 else 0) 24 * Ct nx (lv (fo k')).toNat x0 (fo k') else 0) k) ∧ ((k : Int) < r → ex nc x0 fo lv (24 * k) (fo k) = Ct nx (lv (fo k)).toNat x0 (fo k)) := by
  intro k
  induction k with
  | zero =>
    intro hk
    refine ⟨fun y => ?_, fun _ => ?_⟩
    · show uf (fun _ => 0) x0 1 y = _
      rw [sN]
      unfold uf
      rw [Int.add_zero]
    · show uf (fun _ => 0) x0 1 (fo 0) = Ct nx (lv (fo 0)).toNat x0 (fo 0)
      rw [hT.2.2.1, hT.2.2.2.1, uf_same]
      show _ = Ct nx 0 x0 x0
      rw [Ct_0, if_pos rfl]
  | succ k ih =>
    intro hk
    obtain ⟨i1, i2⟩ := ih (by omega)
    have i2 := i2 (by omega)
    have hA : ∀ y, ex nc x0 fo lv (24 * (k + 1)) y = (if y = x0 then 1 else 0) + sN (fun k' => if lv y = lv (fo k') + 1 then sN (fun b => if nc (fo k') b = y then 1 else 0) 24 * Ct nx (lv (fo k')).toNat x0 (fo k') else 0) (k + 1) := fun y => by
      rw [show 24 * (k + 1) = 24 * k + 24 by omega, ex_a nc x0 fo lv k 24 (by omega) y, i1 y, i2]
      exact Int.add_assoc _ _ _
    refine ⟨hA, fun hk1 => ?_⟩
    have hrk := hT.2.2.2.2.1 ((k + 1 : Nat) : Int) (by omega) hk1
    have hne : fo ((k + 1 : Nat) : Int) ≠ x0 := fun e => by
      have := TB_inj hT (by omega) hk1 (show (0 : Int) ≤ 0 by omega) (by have := hT.1; omega) (by rw [e, hT.2.2.1])
      omega
    have hlv1 : 1 ≤ lv (fo ((k + 1 : Nat) : Int)) := by
      have := hrk.2.2.1
      rcases Int.lt_or_le (lv (fo ((k + 1 : Nat) : Int))) 1 with q | q
      · have := lv_0 hT (by omega) hk1 (by omega); omega
      · exact q
    obtain ⟨j, hj⟩ : ∃ j : Nat, (lv (fo ((k + 1 : Nat) : Int))).toNat = j + 1 := ⟨(lv (fo ((k + 1 : Nat) : Int))).toNat - 1, by omega⟩
    rw [hA, if_neg hne, Int.zero_add, hj, Ct_sn hN hrk.1 hrk.2.1 j x0 x00 x01]
    rw [sN_fo (N := N) (by omega) r.toNat fo _ (fun i a b => by have := hT.2.2.2.2.1 i a (by omega); exact ⟨this.1, this.2.1⟩) (fun i i2 a b c => hT.2.2.2.2.2.2.1 i i2 a b (by omega)) (fun y y0 y1 hy => by
      have : Ct nx j x0 y = 0 := by
        apply Classical.byContradiction
        intro w
        obtain ⟨i, a, b, c, -⟩ := Ct_fd hC hT w
        exact hy i a (by omega) c
      rw [this, Int.zero_mul])]
    have hterm : ∀ i : Int, 0 ≤ i → i < r → (if lv (fo ((k + 1 : Nat) : Int)) = lv (fo i) + 1 then sN (fun b => if nc (fo i) b = fo ((k + 1 : Nat) : Int) then 1 else 0) 24 * Ct nx (lv (fo i)).toNat x0 (fo i) else 0) = Ct nx j x0 (fo i) * ed nx (fo i) (fo ((k + 1 : Nat) : Int)) := fun i i0 i1' => by
      have hri := hT.2.2.2.2.1 i i0 i1'
      by_cases w : lv (fo ((k + 1 : Nat) : Int)) = lv (fo i) + 1
      · rw [if_pos w, ed_eq hC hri.1 hri.2.1 hrk.1 (fun e => by rw [e] at w; omega), show (lv (fo i)).toNat = j by omega, Int.mul_comm]
      · rw [if_neg w]
        by_cases q : Ct nx j x0 (fo i) = 0
        · rw [q, Int.zero_mul]
        · by_cases q2 : ed nx (fo i) (fo ((k + 1 : Nat) : Int)) = 0
          · rw [q2, Int.mul_zero]
          · obtain ⟨i', a, b, c, d⟩ := Ct_fd hC hT q
            have := ed_lv hC hT i0 i1' hrk.1 q2
            omega
    -- the rest adds nothing
    have hrest : ∀ m : Nat, (k + 1 : Nat) ≤ m → (m : Int) ≤ r → sN (fun i => Ct nx j x0 (fo i) * ed nx (fo i) (fo ((k + 1 : Nat) : Int))) m = sN (fun k' => if lv (fo ((k + 1 : Nat) : Int)) = lv (fo k') + 1 then sN (fun b => if nc (fo k') b = fo ((k + 1 : Nat) : Int) then 1 else 0) 24 * Ct nx (lv (fo k')).toNat x0 (fo k') else 0) (k + 1) := by
      intro m hm hmr
      induction m with
      | zero => omega
      | succ m ihm =>
        by_cases e : m + 1 = k + 1
        · rw [e]
          exact (sN_cg (k + 1) (fun i a b => hterm i a (by omega))).symm
        · rw [sN, ihm (by omega) (by omega), ← hterm m (by omega) (by omega), if_neg (by
            have := TB_mon hT (j := ((k + 1 : Nat) : Int)) (k := m) (by omega) (by omega) (by omega)
            omega)]
          omega
    exact (hrest r.toNat (by omega) (by omega)).symm
theorem ex_end (hC : NCr N nx nc) (hN : NX N nx sp) (hT : TB N M nc (fun _ _ => true) x0 fo lv ca r (24 * r) pp) (x00 : 0 ≤ x0) (x01 : x0 < N) {k : Int} (k0 : 0 ≤ k) (k1 : k < r) : ex nc x0 fo lv (24 * r).toNat (fo k) = Ct nx (lv (fo k)).toNat x0 (fo k) := by
  have hk := (Ck hC hN hT x00 x01 k.toNat (by omega)).2 (by omega)
  rw [Int.toNat_of_nonneg k0] at hk
  rw [← hk]
  have h1 := (Ck hC hN hT x00 x01 k.toNat (by omega)).1 (fo k)
  have h2 := (Ck hC hN hT x00 x01 r.toNat (by omega)).1 (fo k)
  rw [show (24 * r).toNat = 24 * r.toNat by omega, h1, h2]
  congr 1
  have hrest : ∀ m : Nat, k.toNat ≤ m → (m : Int) ≤ r → sN (fun k' => if lv (fo k) = lv (fo k') + 1 then sN (fun b => if nc (fo k') b = fo k then 1 else 0) 24 * Ct nx (lv (fo k')).toNat x0 (fo k') else 0) m = sN (fun k' => if lv (fo k) = lv (fo k') + 1 then sN (fun b => if nc (fo k') b = fo k then 1 else 0) 24 * Ct nx (lv (fo k')).toNat x0 (fo k') else 0) k.toNat := by
    intro m hm hmr
    induction m with
    | zero => rw [show k.toNat = 0 by omega]
    | succ m ihm =>
      by_cases e : m + 1 = k.toNat
      · rw [e]
      · rw [sN, ihm (by omega) (by omega), if_neg (by
          have := TB_mon hT (j := k) (k := m) (by omega) (by omega) (by omega)
          omega)]
        omega
  exact hrest r.toNat (by omega) (by omega)
theorem wyF_sum {go : Int → Bool} {wy : Int → Int} {d : Int} {X : Int → Int} : ∀ m : Nat, (∀ k : Int, 0 ≤ k → k < m → 0 ≤ X k ∧ wy (fo k) = min mM (X k)) → wyF fo lv go wy d m = min mM (sN (fun k => if lv (fo k) = d ∧ go (fo k) = true then X k else 0) m) ∧ 0 ≤ sN (fun k => if lv (fo k) = d ∧ go (fo k) = true then X k else 0) m
  | 0, _ => by
    rw [wyF, sN]
    unfold mM
    omega
  | m + 1, h => by
    have ih := wyF_sum (go := go) (d := d) m (fun k a b => h k a (by omega))
    have hm := h m (by omega) (by omega)
    rw [wyF, sN]
    by_cases w : lv (fo m) = d ∧ go (fo m) = true
    · rw [if_pos w, if_pos w, ih.1, hm.2]
      unfold mM
      omega
    · rw [if_neg w, if_neg w, ih.1]
      omega
theorem ways_no {go : Int → Bool} {wy : Int → Int} (hT : TB N M nc (fun _ _ => true) x0 fo lv ca r (24 * r) pp) : ∀ m : Nat, (m : Int) ≤ r → wyF fo lv go wy (-1) m = 0
  | 0, _ => rfl
  | m + 1, h => by
    rw [wyF, if_neg (by
      intro w
      have := (hT.2.2.2.2.1 m (by omega) (by omega)).2.2.1
      omega)]
    exact ways_no hT m (by omega)
theorem ways_yes {go : Int → Bool} {wy : Int → Int} (hC : NCr N nx nc) (hN : NX N nx sp) (hT : TB N M nc (fun _ _ => true) x0 fo lv ca r (24 * r) pp) (x00 : 0 ≤ x0) (x01 : x0 < N) {K : Int} (K0 : 0 ≤ K) (K1 : K < r) (hf : ∀ j, 0 ≤ j → j < K → go (fo j) = false) (hwy : ∀ k, 0 ≤ k → k < r → wy (fo k) = wz nc x0 fo lv (24 * r).toNat (fo k)) : wyF fo lv go wy (lv (fo K)) r.toNat = min mM (ct nx go (lv (fo K)).toNat x0) := by
  have hlK := (hT.2.2.2.2.1 K K0 K1).2.2.1
  rw [(wyF_sum (fo := fo) (lv := lv) (go := go) (d := lv (fo K)) (X := fun k => Ct nx (lv (fo k)).toNat x0 (fo k)) r.toNat (fun k a b => ⟨Ct_nn _ _ _ _, by rw [hwy k a (by omega), wz_ex, ex_end hC hN hT x00 x01 a (by omega)]⟩)).1]
  congr 1
  rw [ct_Ct hN go _ x0 x00 x01]
  rw [sN_fo (N := N) (by omega) r.toNat fo _ (fun i a b => by have := hT.2.2.2.2.1 i a (by omega); exact ⟨this.1, this.2.1⟩) (fun i i2 a b c => hT.2.2.2.2.2.2.1 i i2 a b (by omega)) (fun y y0 y1 hy => by
    have : Ct nx (lv (fo K)).toNat x0 y = 0 := by
      apply Classical.byContradiction
      intro w
      obtain ⟨i, a, b, c, -⟩ := Ct_fd hC hT w
      exact hy i a (by omega) c
    rw [this]
    split <;> rfl)]
  refine sN_cg r.toNat (fun k k0 k1 => ?_)
  by_cases w : go (fo k) = true
  · have hKk : K ≤ k := by
      rcases Int.lt_or_le k K with q | q
      · rw [hf k k0 q] at w; cases w
      · exact q
    have hmon := TB_mon hT K0 hKk (show k < r by omega)
    rw [if_pos w]
    by_cases e : lv (fo k) = lv (fo K)
    · rw [if_pos ⟨e, w⟩, e]
    · rw [if_neg (fun z => e z.1)]
      apply Classical.byContradiction
      intro q
      obtain ⟨i, a, b, c, d⟩ := Ct_fd hC hT (fun z => q z.symm)
      omega
  · rw [if_neg w, if_neg (fun z => w z.2)]
end WYS
