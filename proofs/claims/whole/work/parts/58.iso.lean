/-! ===== pure: numbers and codes are the same states ===== -/
theorem nN_div {rm hd : Int → Int} {m : Nat} (h : 0 ≤ hd m ∧ hd m ≤ rm m) : nN rm hd (m + 1) / (rm m + 1) = nN rm hd m ∧ nN rm hd (m + 1) % (rm m + 1) = hd m := by
  rw [nN]
  constructor
  · rw [Int.add_comm, Int.add_mul_ediv_right _ _ (by omega), Int.ediv_eq_zero_of_lt h.1 (by omega), Int.zero_add]
  · rw [Int.add_comm, Int.add_mul_emod_self_right, Int.emod_eq_of_lt h.1 (by omega)]
theorem rN_nN {n : Nat} {rm hd : Int → Int} (hv : ∀ j : Int, 0 ≤ j → j < n → 0 ≤ hd j ∧ hd j ≤ rm j) : ∀ i : Nat, i ≤ n → rN (rv n rm) (nN rm hd n) i = nN rm hd (n - i)
  | 0, _ => rfl
  | i + 1, hi => by
    obtain ⟨m, hm⟩ : ∃ m : Nat, n - i = m + 1 := ⟨n - i - 1, by omega⟩
    have e1 : rv n rm (i : Int) = rm m := by
      unfold rv
      congr 1
      omega
    rw [rN, rN_nN hv i (by omega), e1, hm, (nN_div (hv m (by omega) (by omega))).1]
    congr 1
    omega
theorem DG_nT {n : Int} {rm hd : Int → Int} (h0 : 0 ≤ n) (hv : Vh n rm hd) {j : Int} (j0 : 0 ≤ j) (j1 : j < n) : DG n rm (nT rm hd n) j = hd j := by
  obtain ⟨m, rfl⟩ : ∃ m : Nat, n = m := ⟨n.toNat, by omega⟩
  obtain ⟨i, rfl⟩ : ∃ i : Nat, j = i := ⟨j.toNat, by omega⟩
  have hv' : ∀ j : Int, 0 ≤ j → j < (m : Int) → 0 ≤ hd j ∧ hd j ≤ rm j := hv
  unfold DG rT nT
  rw [show ((m : Int)).toNat = m by omega, rN_nN hv' _ (by omega), show m - ((m : Int) - 1 - (i : Int)).toNat = i + 1 by omega]
  exact (nN_div (hv' i (by omega) (by omega))).2
theorem sN_inj {sz hd hd2 : Int → Int} : ∀ k : Nat, (∀ j : Int, 0 ≤ j → j < k → 1 ≤ sz j ∧ 0 ≤ hd j ∧ hd j ≤ sz j ∧ 0 ≤ hd2 j ∧ hd2 j ≤ sz j) → sN (fun j => hd j * mT sz j) k = sN (fun j => hd2 j * mT sz j) k → ∀ j : Int, 0 ≤ j → j < k → hd j = hd2 j
  | 0, _, _, j, j0, j1 => by omega
  | k + 1, h, e, j, j0, j1 => by
    have hb : ∀ (f : Int → Int), (∀ j : Int, 0 ≤ j → j < k → 1 ≤ sz j ∧ 0 ≤ f j ∧ f j ≤ sz j) → 0 ≤ sN (fun j => f j * mT sz j) k ∧ sN (fun j => f j * mT sz j) k < mT sz k := fun f hf => by
      clear h e j0 j1
      induction k with
      | zero => show (0 : Int) ≤ 0 ∧ 0 < mT sz 0; rw [mT_0]; omega
      | succ k ih =>
        have i1 := ih (fun j a b => hf j a (by omega))
        have i2 := hf k (by omega) (by omega)
        have e1 : mT sz ((k + 1 : Nat) : Int) = mT sz k * (sz k + 1) := by
          rw [show ((k + 1 : Nat) : Int) = (k : Int) + 1 by omega, mT_s sz (by omega)]
        rw [sN, e1]
        have i3 : f k * mT sz k ≤ sz k * mT sz k := Int.mul_le_mul_of_nonneg_right i2.2.2 (by omega)
        have i4 : 0 ≤ f k * mT sz k := Int.mul_nonneg i2.2.1 (by omega)
        have i5 : mT sz k * (sz k + 1) = sz k * mT sz k + mT sz k := by rw [Int.mul_add, Int.mul_one, Int.mul_comm]
        show 0 ≤ sN (fun j => f j * mT sz j) k + f k * mT sz k ∧ sN (fun j => f j * mT sz j) k + f k * mT sz k < _
        omega
    have b1 := hb hd (fun j a b => by have := h j a (by omega); exact ⟨this.1, this.2.1, this.2.2.1⟩)
    have b2 := hb hd2 (fun j a b => by have := h j a (by omega); exact ⟨this.1, this.2.2.2.1, this.2.2.2.2⟩)
    have e' : sN (fun j => hd j * mT sz j) k + hd k * mT sz k = sN (fun j => hd2 j * mT sz j) k + hd2 k * mT sz k := e
    have q1 : (sN (fun j => hd j * mT sz j) k + hd k * mT sz k) / mT sz k = hd k := by
      rw [Int.add_mul_ediv_right _ _ (by omega), Int.ediv_eq_zero_of_lt b1.1 b1.2, Int.zero_add]
    have q2 : (sN (fun j => hd2 j * mT sz j) k + hd2 k * mT sz k) / mT sz k = hd2 k := by
      rw [Int.add_mul_ediv_right _ _ (by omega), Int.ediv_eq_zero_of_lt b2.1 b2.2, Int.zero_add]
    have ek : hd k = hd2 k := by rw [← q1, e', q2]
    by_cases ej : j = k
    · rw [ej]; exact ek
    · rw [ek] at e'
      exact sN_inj k (fun j a b => h j a (by omega)) (by omega) j j0 (by omega)
theorem DC_cC {n : Int} {sz hd : Int → Int} (hr : Rm n sz) (hv : Vh n sz hd) {j : Int} (j0 : 0 ≤ j) (j1 : j < n) : DC sz (cC n sz hd) j = hd j := by
  have hc := cC_r hr hv
  have hd2 := cC_dig hr hc.1 hc.2
  have hv2 := DC_v hr (cC n sz hd)
  have hn := hr.1
  refine sN_inj (sz := sz) n.toNat (fun i a b => ?_) hd2 j j0 (by omega)
  have h1 := hr.2.2 i a (by omega)
  have h2 := hv2 i a (by omega)
  have h3 := hv i a (by omega)
  omega
/-- the same state, as the reference counts it -/
def ph (n : Int) (rm sz : Int → Int) (x : Int) : Int := nT rm (DC sz x) n
theorem Vh_cg {n : Int} {rm sz hd : Int → Int} (h : ∀ i, 0 ≤ i → i < n → rm i = sz i) (hv : Vh n sz hd) : Vh n rm hd := fun i a b => by
  rw [h i a b]
  exact hv i a b
theorem Rm_cg {n : Int} {rm sz : Int → Int} (h : ∀ i, 0 ≤ i → i < n → rm i = sz i) (hv : Rm n sz) : Rm n rm := ⟨hv.1, hv.2.1, fun i a b => by
  rw [h i a b]
  exact hv.2.2 i a b⟩
theorem mN_cg {rm sz : Int → Int} : ∀ k : Nat, (∀ i : Int, 0 ≤ i → i < k → rm i = sz i) → mN rm k = mN sz k
  | 0, _ => rfl
  | k + 1, h => by rw [mN, mN, mN_cg k (fun i a b => h i a (by omega)), h k (by omega) (by omega)]
theorem mT_cg {n : Int} {rm sz : Int → Int} (h0 : 0 ≤ n) (h : ∀ i, 0 ≤ i → i < n → rm i = sz i) : mT rm n = mT sz n := mN_cg n.toNat (fun i a b => h i a (by omega))
theorem ph_r {n : Int} {rm sz : Int → Int} (hr : Rm n sz) (h : ∀ i, 0 ≤ i → i < n → rm i = sz i) (x : Int) : 0 ≤ ph n rm sz x ∧ ph n rm sz x < mT sz n := by
  have h1 := nT_r hr.1 (Vh_cg h (DC_v hr x))
  rw [mT_cg hr.1 h] at h1
  exact h1
theorem DG_ph {n : Int} {rm sz : Int → Int} (hr : Rm n sz) (h : ∀ i, 0 ≤ i → i < n → rm i = sz i) (x : Int) {j : Int} (j0 : 0 ≤ j) (j1 : j < n) : DG n rm (ph n rm sz x) j = DC sz x j := DG_nT hr.1 (Vh_cg h (DC_v hr x)) j0 j1
theorem ph_inj {n : Int} {rm sz : Int → Int} (hr : Rm n sz) (h : ∀ i, 0 ≤ i → i < n → rm i = sz i) {x y : Int} (x0 : 0 ≤ x) (x1 : x < mT sz n) (y0 : 0 ≤ y) (y1 : y < mT sz n) (e : ph n rm sz x = ph n rm sz y) : x = y := by
  rw [← cC_dig hr x0 x1, ← cC_dig hr y0 y1]
  refine cC_congr (fun i a b => ?_)
  rw [← DG_ph hr h x a b, ← DG_ph hr h y a b, e]
theorem mv_ph {n tp dr : Int} {rm sz : Int → Int} (hr : Rm n sz) (h : ∀ i, 0 ≤ i → i < n → rm i = sz i) (x a : Int) : mvM n tp dr rm (ph n rm sz x) a = mvC n tp dr sz x a :=
  p_mv_congr h (fun i a b => DG_ph hr h x a b) a
theorem nx_ph {n tp dr : Int} {rm sz : Int → Int} (hr : Rm n sz) (h : ∀ i, 0 ≤ i → i < n → rm i = sz i) (x a : Int) (hm : 0 < mvC n tp dr sz x a) : nxM n tp dr rm (ph n rm sz x) a = ph n rm sz (nxC n tp dr sz x a) := by
  have hv := move_v (DC_v hr x) hm
  have hp := (p_mv_pos_act hm).2.2
  unfold nxM nxC
  rw [mv_ph hr h, if_pos hm, if_pos hm]
  have hv : Vh n sz (p_move (DC sz x) a (mvC n tp dr sz x a)) := hv
  refine Eq.trans (nT_congr (hd2 := p_move (DC sz x) a (mvC n tp dr sz x a)) (fun i b c => p_move_congr (fun i b c => DG_ph hr h x b c) hp b c)) ?_
  exact nT_congr (fun i b c => (DC_cC hr hv b c).symm)
theorem sp_ph {n tp dr : Int} {rm sz : Int → Int} (hr : Rm n sz) (h : ∀ i, 0 ≤ i → i < n → rm i = sz i) (x a : Int) (hm : 0 < mvC n tp dr sz x a) : spM n tp dr rm (ph n rm sz x) a = spC sz x a := by
  obtain ⟨a0, a1, hp⟩ := p_mv_pos_act hm
  have hk := k_acts a0 a1
  unfold spM spC p_spilt
  rw [mv_ph hr h, if_pos hm]
  by_cases q : 4 ≤ a ∧ a < 8
  · have hg := hk.2.1 q.1 q.2
    have hmv : mvC n tp dr sz x a = if p_there tp (DC sz x) (k_giver a) < p_room dr sz (DC sz x) (k_taker a) then p_there tp (DC sz x) (k_giver a) else p_room dr sz (DC sz x) (k_taker a) := p_mv_act a0 a1 hp
    have hv := DC_v hr x (k_giver a) (by omega) hp.1
    have hs := hr.2.2 (k_giver a) (by omega) hp.1
    rw [if_pos q, if_pos ⟨a0, a1, by omega, by omega⟩, hmv]
    rw [hmv] at hm
    have e1 : p_there tp (DC sz x) (k_giver a) = DC sz x (k_giver a) := by unfold p_there; rw [if_pos (by omega)]
    have e2 : p_room dr sz (DC sz x) (k_taker a) = if dr = 0 then 0 else 10 := by unfold p_room; rw [if_neg (by omega)]
    rw [e1, e2] at hm ⊢
    by_cases d : dr = 0
    · rw [if_pos d] at hm
      exfalso
      split at hm <;> omega
    · rw [if_neg d]
      split <;> omega
  · rw [if_neg q]
    rw [if_neg (by
      intro w
      rcases Int.lt_or_le a 4 with q1 | q1
      · have := (hk.1 q1).1; omega
      · have := (hk.2.2 (by omega)).2; omega)]
theorem nxC_ne {n tp dr : Int} {sz : Int → Int} (hr : Rm n sz) {x : Int} (x0 : 0 ≤ x) (x1 : x < mT sz n) {a : Int} (hm : 0 < mvC n tp dr sz x a) : nxC n tp dr sz x a ≠ x := by
  intro e
  obtain ⟨a0, a1, hp⟩ := p_mv_pos_act hm
  have hv : Vh n sz (p_move (DC sz x) a (mvC n tp dr sz x a)) := move_v (DC_v hr x) hm
  have hdig : ∀ j, 0 ≤ j → j < n → p_move (DC sz x) a (mvC n tp dr sz x a) j = DC sz x j := fun j j0 j1 => by
    rw [← DC_cC hr hv j0 j1]
    unfold nxC at e
    rw [if_pos hm] at e
    exact congrFun (congrArg (DC sz) e) j
  have hk := k_acts a0 a1
  have hne := hp.2.2
  rcases Int.lt_or_le (k_taker a) 0 with q | q
  · have hg : 0 ≤ k_giver a := by
      rcases Int.lt_or_le a 4 with q1 | q1
      · have := (hk.1 q1).1; omega
      · rcases Int.lt_or_le a 8 with q2 | q2
        · have := (hk.2.1 q1 q2).1; omega
        · have := (hk.2.2 q2).1; omega
    have h9 := hdig (k_giver a) hg hp.1
    unfold p_move at h9
    rw [if_neg (by omega), if_pos hg, uf_same] at h9
    omega
  · have h9 := hdig (k_taker a) q hp.2.1
    unfold p_move at h9
    rw [if_pos q] at h9
    by_cases hg : 0 ≤ k_giver a
    · rw [if_pos hg, uf_same, uf_ne _ _ (fun w => hne w.symm)] at h9
      omega
    · rw [if_neg hg, uf_same] at h9
      omega
/-- where the aim is met -/
theorem md_any (hs : Int → Int) (v : Int) : ∀ k : Nat, md hs (-1) v k = p_any hs v k
  | 0 => rfl
  | k + 1 => by rw [md, p_any, md_any hs v k]; simp
theorem md_one (hs : Int → Int) {i v : Int} (hi : 0 ≤ i) : ∀ k : Nat, md hs i v k = decide (i < k ∧ hs i = v)
  | 0 => by rw [md]; simp; omega
  | k + 1 => by
    rw [md, md_one hs hi k]
    by_cases e : i = k
    · subst e
      simp
      omega
    · have e1 : ¬ (i = -1 ∨ i = (k : Int)) := by omega
      have e2 : (i < ((k + 1 : Nat) : Int) ∧ hs i = v) ↔ (i < (k : Int) ∧ hs i = v) := by
        constructor <;> intro w <;> exact ⟨by omega, w.2⟩
      simp only [e1, decide_false, Bool.false_and, Bool.or_false]
      exact (decide_eq_decide.mpr e2).symm
theorem go_ph {n : Int} {rm sz : Int → Int} (hr : Rm n sz) (h : ∀ i, 0 ≤ i → i < n → rm i = sz i) {i v : Int} (hi : i = -1 ∨ (0 ≤ i ∧ i < n)) (x : Int) : goM n rm i v (ph n rm sz x) = goC n sz i v x := by
  have hn := hr.1
  have hn4 := hr.2.1
  unfold goM goC
  rw [md_congr (hs2 := DC sz x) n.toNat (fun j a b => DG_ph hr h x a (by omega))]
  rcases hi with rfl | hi
  · rw [md_any]
    unfold p_meet
    rw [if_neg (by omega)]
    cases p_any (DC sz x) v n.toNat <;> simp
  · rw [md_one _ hi.1]
    unfold p_meet
    rw [if_pos hi.1]
    by_cases q : DC sz x i = v
    · rw [if_pos ⟨hi.1, hi.2, by omega, q⟩]
      simp [q]
      omega
    · rw [if_neg (fun w => q w.2.2.2)]
      simp [q]
/-- the acts from a code, as the reference has them -/
def nxD (n tp dr : Int) (sz : Int → Int) (x a : Int) : Int := if 0 < mvC n tp dr sz x a then nxC n tp dr sz x a else -1
def spD (n tp dr : Int) (sz : Int → Int) (x a : Int) : Int := if 0 < mvC n tp dr sz x a then spC sz x a else 0
theorem spD_eq {n tp dr : Int} {sz : Int → Int} {x a : Int} (h : nxD n tp dr sz x a ≠ -1) : spD n tp dr sz x a = spC sz x a := by
  unfold nxD at h
  unfold spD
  by_cases q : 0 < mvC n tp dr sz x a
  · rw [if_pos q]
  · rw [if_neg q] at h; exact absurd rfl h
/-- two graphs that are one -/
def IS (N : Int) (f : Int → Int) (nx1 sp1 nx2 sp2 : Int → Int → Int) (go1 go2 : Int → Bool) : Prop := ∀ x, 0 ≤ x → x < N → (0 ≤ f x ∧ f x < N) ∧ go2 (f x) = go1 x ∧ ∀ a, 0 ≤ a → a < 24 → (nx1 x a = -1 ∧ nx2 (f x) a = -1) ∨ (0 ≤ nx1 x a ∧ nx1 x a < N ∧ nx2 (f x) a = f (nx1 x a) ∧ sp2 (f x) a = sp1 x a)
theorem IS_ph {n tp dr : Int} {rm sz : Int → Int} (hr : Rm n sz) (h : ∀ i, 0 ≤ i → i < n → rm i = sz i) {i v : Int} (hi : i = -1 ∨ (0 ≤ i ∧ i < n)) : IS (mT sz n) (ph n rm sz) (nxD n tp dr sz) (spD n tp dr sz) (nxM n tp dr rm) (spM n tp dr rm) (goC n sz i v) (goM n rm i v) := fun x x0 x1 => by
  refine ⟨ph_r hr h x, go_ph hr h hi x, fun a a0 a1 => ?_⟩
  unfold nxD
  by_cases q : 0 < mvC n tp dr sz x a
  · rw [if_pos q]
    have h1 := nxC_r (tp := tp) (dr := dr) hr x0 x1 a
    exact Or.inr ⟨h1.1, h1.2, nx_ph hr h x a q, by unfold spD; rw [if_pos q]; exact sp_ph hr h x a q⟩
  · rw [if_neg q]
    refine Or.inl ⟨rfl, ?_⟩
    unfold nxM
    rw [mv_ph hr h, if_neg q]
section ISO
variable {N : Int} {f : Int → Int} {nx1 sp1 nx2 sp2 : Int → Int → Int} {go1 go2 : Int → Bool}
theorem RW_is (hI : IS N f nx1 sp1 nx2 sp2 go1 go2) {ea : Int} : ∀ (l : List Int) (x c : Int), 0 ≤ x → x < N → (RW nx2 sp2 ea go2 l (f x) c ↔ RW nx1 sp1 ea go1 l x c)
  | [], x, c, x0, x1 => by
    unfold RW
    rw [(hI x x0 x1).2.1]
  | a :: l, x, c, x0, x1 => by
    unfold RW
    have h := (hI x x0 x1).2.2 a
    constructor
    · rintro ⟨a0, a1, a2, c', h1, h2⟩
      rcases h a0 a1 with w | ⟨w1, w2, w3, w4⟩
      · exact absurd w.2 a2
      · rw [w3] at h1
        exact ⟨a0, a1, by omega, c', (RW_is hI l _ c' w1 w2).mp h1, by rw [← w4]; exact h2⟩
    · rintro ⟨a0, a1, a2, c', h1, h2⟩
      rcases h a0 a1 with w | ⟨w1, w2, w3, w4⟩
      · exact absurd w.1 a2
      · refine ⟨a0, a1, ?_, c', ?_, by rw [w4]; exact h2⟩
        · have := (hI _ w1 w2).1
          omega
        · rw [w3]
          exact (RW_is hI l _ c' w1 w2).mpr h1
theorem CB_is (hI : IS N f nx1 sp1 nx2 sp2 go1 go2) (ea : Int) (cs : Int → Int) {x a : Int} (x0 : 0 ≤ x) (x1 : x < N) (a0 : 0 ≤ a) (a1 : a < 24) : CB nx2 sp2 ea cs (f x) a = CB nx1 sp1 ea (fun y => cs (f y)) x a := by
  unfold CB
  rcases (hI x x0 x1).2.2 a a0 a1 with ⟨w1, w2⟩ | ⟨w1, w2, w3, w4⟩
  · rw [if_pos (Or.inl w2), if_pos (Or.inl w1)]
  · have h9 := (hI _ w1 w2).1
    rw [w3, w4]
    by_cases q : cs (f (nx1 x a)) = fFAR
    · rw [if_pos (Or.inr q), if_pos (Or.inr q)]
    · rw [if_neg (by intro z; rcases z with z | z; omega; exact q z), if_neg (by intro z; rcases z with z | z; omega; exact q z)]
theorem FC_is (hI : IS N f nx1 sp1 nx2 sp2 go1 go2) {ea : Int} {cs : Int → Int} (hF : FC N nx2 sp2 ea go2 cs) : FC N nx1 sp1 ea go1 (fun y => cs (f y)) := by
  refine ⟨fun s h0 h1 => ?_, fun s a h0 h1 a0 a1 => ?_⟩
  · have h2 := (hI s h0 h1).1
    obtain ⟨g1, g2, g3, g4⟩ := hF.1 (f s) h2.1 h2.2
    refine ⟨g1, g2, fun q => g3 (by rw [(hI s h0 h1).2.1]; exact q), fun q => ?_⟩
    obtain ⟨l, hl⟩ := g4 q
    exact ⟨l, (RW_is hI l s _ h0 h1).mp hl⟩
  · have h2 := (hI s h0 h1).1
    rw [← CB_is hI ea cs h0 h1 a0 a1]
    exact hF.2 (f s) a h2.1 h2.2 a0 a1
theorem sr_cg {q q' : Int → Bool} : ∀ (k : Nat) (a : Int), (∀ b, a ≤ b → b < a + k → q b = q' b) → sr q k a = sr q' k a
  | 0, _, _ => rfl
  | k + 1, a, h => by
    rw [sr, sr, h a (by omega) (by omega), sr_cg k (a + 1) (fun b b0 b1 => h b (by omega) (by omega))]
theorem fA_cg (hI : IS N f nx1 sp1 nx2 sp2 go1 go2) (ea : Int) (cs : Int → Int) {x : Int} (x0 : 0 ≤ x) (x1 : x < N) : fA nx2 sp2 ea cs (f x) = fA nx1 sp1 ea (fun y => cs (f y)) x := by
  unfold fA
  exact sr_cg 24 0 (fun b b0 b1 => by rw [CB_is hI ea cs x0 x1 b0 (by omega)])
theorem gr_is (hI : IS N f nx1 sp1 nx2 sp2 go1 go2) (hN : NX N nx1 sp1) {ea : Int} (he : 0 ≤ ea) {cs : Int → Int} (hF : FC N nx2 sp2 ea go2 cs) : ∀ (k : Nat) (x : Int), 0 ≤ x → x < N → gr nx2 sp2 ea cs k (f x) = gr nx1 sp1 ea (fun y => cs (f y)) k x
  | 0, x, x0, x1 => by
    rw [gr, gr, fA_cg hI ea cs x0 x1]
  | k + 1, x, x0, x1 => by
    rw [gr, gr, fA_cg hI ea cs x0 x1]
    by_cases q : cs (f x) = 0 ∨ cs (f x) = fFAR
    · rw [if_pos q, if_pos q]
    · rw [if_neg q, if_neg q]
      have h1 := fA_spec hN he (FC_is hI hF) x0 x1 q
      have h2 := CB_nx h1.2.2.1 q
      rcases (hI x x0 x1).2.2 _ h1.1 h1.2.1 with w | ⟨w1, w2, w3, w4⟩
      · exact absurd w.1 h2.1
      · rw [w3]
        exact gr_is hI hN he hF k _ w1 w2
theorem sN_cg {f g : Int → Int} : ∀ k : Nat, (∀ j : Int, 0 ≤ j → j < k → f j = g j) → sN f k = sN g k
  | 0, _ => rfl
  | k + 1, h => by rw [sN, sN, sN_cg k (fun j a b => h j a (by omega)), h k (by omega) (by omega)]
theorem ct_is (hI : IS N f nx1 sp1 nx2 sp2 go1 go2) : ∀ (k : Nat) (x : Int), 0 ≤ x → x < N → ct nx2 go2 k (f x) = ct nx1 go1 k x
  | 0, x, x0, x1 => by rw [ct, ct, (hI x x0 x1).2.1]
  | k + 1, x, x0, x1 => by
    rw [ct, ct]
    refine sN_cg 24 (fun a a0 a1 => ?_)
    rcases (hI x x0 x1).2.2 a a0 a1 with ⟨w1, w2⟩ | ⟨w1, w2, w3, w4⟩
    · rw [if_pos w2, if_pos w1]
    · have h9 := (hI _ w1 w2).1
      rw [if_neg (by omega), if_neg (by omega), w3]
      exact ct_is hI k _ w1 w2
theorem PT_is (hI : IS N f nx1 sp1 nx2 sp2 go1 go2) : ∀ (l : List Int) (x t : Int), 0 ≤ x → x < N → (PT nx2 l (f x) t ↔ ∃ y, 0 ≤ y ∧ y < N ∧ PT nx1 l x y ∧ t = f y)
  | [], x, t, x0, x1 => by
    unfold PT
    exact ⟨fun h => ⟨x, x0, x1, rfl, h.symm⟩, fun ⟨y, _, _, h1, h2⟩ => by rw [h2, h1]⟩
  | a :: l, x, t, x0, x1 => by
    unfold PT
    have h := (hI x x0 x1).2.2 a
    constructor
    · rintro ⟨a0, a1, a2, h1⟩
      rcases h a0 a1 with w | ⟨w1, w2, w3, w4⟩
      · exact absurd w.2 a2
      · rw [w3] at h1
        obtain ⟨y, y0, y1, y2, y3⟩ := (PT_is hI l _ t w1 w2).mp h1
        exact ⟨y, y0, y1, ⟨a0, a1, by omega, y2⟩, y3⟩
    · rintro ⟨y, y0, y1, ⟨a0, a1, a2, h1⟩, h2⟩
      rcases h a0 a1 with w | ⟨w1, w2, w3, w4⟩
      · exact absurd w.1 a2
      · refine ⟨a0, a1, ?_, ?_⟩
        · have := (hI _ w1 w2).1
          omega
        · rw [w3]
          exact (PT_is hI l _ t w1 w2).mpr ⟨y, y0, y1, h1, h2⟩
end ISO
theorem NX_D {n tp dr : Int} {sz : Int → Int} (hr : Rm n sz) : NX (mT sz n) (nxD n tp dr sz) (spD n tp dr sz) := fun x a x0 x1 a0 a1 => by
  have h1 := nxC_r (tp := tp) (dr := dr) hr x0 x1 a
  unfold nxD spD
  by_cases q : 0 < mvC n tp dr sz x a
  · rw [if_pos q, if_pos q]
    obtain ⟨-, -, hp⟩ := p_mv_pos_act q
    refine ⟨Or.inr h1, ?_⟩
    unfold spC p_spilt
    by_cases w : 0 ≤ a ∧ a < 24 ∧ k_taker a < 0 ∧ 0 ≤ k_giver a
    · rw [if_pos w]
      have h2 := DC_v hr x (k_giver a) w.2.2.2 hp.1
      have h3 := hr.2.2 (k_giver a) w.2.2.2 hp.1
      omega
    · rw [if_neg w]
      omega
  · rw [if_neg q, if_neg q]
    exact ⟨Or.inl rfl, by omega⟩
theorem nxC_D {n tp dr : Int} {sz : Int → Int} (hr : Rm n sz) {x : Int} (x0 : 0 ≤ x) (x1 : x < mT sz n) (a : Int) : (nxD n tp dr sz x a = -1 ∧ nxC n tp dr sz x a = x) ∨ (nxD n tp dr sz x a ≠ -1 ∧ nxC n tp dr sz x a = nxD n tp dr sz x a ∧ nxC n tp dr sz x a ≠ x) := by
  have h1 := nxC_r (tp := tp) (dr := dr) hr x0 x1 a
  unfold nxD
  by_cases q : 0 < mvC n tp dr sz x a
  · rw [if_pos q]
    exact Or.inr ⟨by omega, rfl, nxC_ne hr x0 x1 q⟩
  · rw [if_neg q]
    exact Or.inl ⟨rfl, by unfold nxC; rw [if_neg q]⟩
