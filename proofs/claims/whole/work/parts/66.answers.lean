/-! ===== pure: the class's answers are the reference's ===== -/
def Agr (n : Int) (rm sz : Int → Int) : Prop := ∀ j, 0 ≤ j → j < n → rm j = sz j
def AnF (n tp dr : Int) (sz hd : Int → Int) (i v z : Int) : Prop := ∀ rm cs, Agr n rm sz → FC (mT rm n) (nxM n tp dr rm) (spM n tp dr rm) 0 (goM n rm i v) cs → z = if cs (nT rm hd n) = 1000000000 then -1 else cs (nT rm hd n)
def AnB (n tp dr : Int) (sz hd : Int → Int) (i v k z : Int) : Prop := ∀ rm cs, Agr n rm sz → FC (mT rm n) (nxM n tp dr rm) (spM n tp dr rm) 0 (goM n rm i v) cs → z = if 14641 ≤ k then -1 else gr (nxM n tp dr rm) (spM n tp dr rm) 0 cs k.toNat (nT rm hd n)
def AnW (n tp dr : Int) (sz hd : Int → Int) (i v z : Int) : Prop := ∀ rm cs, Agr n rm sz → FC (mT rm n) (nxM n tp dr rm) (spM n tp dr rm) 0 (goM n rm i v) cs → z = if cs (nT rm hd n) = 1000000000 then 0 else min mM (ct (nxM n tp dr rm) (goM n rm i v) (cs (nT rm hd n)).toNat (nT rm hd n))
def AnS (n tp dr : Int) (sz hd : Int → Int) (i v k z : Int) : Prop := ∀ rm cs, Agr n rm sz → FC (mT rm n) (nxM n tp dr rm) (spM n tp dr rm) 20000 (goM n rm i v) cs → z = if cs (nT rm hd n) = 1000000000 then -1 else if k = 0 then cs (nT rm hd n) / 20000 else cs (nT rm hd n) % 20000
def AnP (n tp dr : Int) (sz hd : Int → Int) (i v k z : Int) : Prop := ∀ rm cs, Agr n rm sz → FC (mT rm n) (nxM n tp dr rm) (spM n tp dr rm) 20000 (goM n rm i v) cs → z = if 14641 ≤ k then -1 else gr (nxM n tp dr rm) (spM n tp dr rm) 20000 cs k.toNat (nT rm hd n)
def AnR (n tp dr : Int) (sz hd : Int → Int) (z : Int) : Prop := ∀ rm q k, Agr n rm sz → RE (mT rm n) (nxM n tp dr rm) (nT rm hd n) q k → z = k
def AnM (n tp dr : Int) (sz hd : Int → Int) (z : Int) : Prop := ∀ rm q k, Agr n rm sz → RE (mT rm n) (nxM n tp dr rm) (nT rm hd n) q k → z = mq n rm q k.toNat
theorem ph_x0 {n : Int} {rm sz hd : Int → Int} (hr : Rm n sz) (hv : Vh n sz hd) : ph n rm sz (cC n sz hd) = nT rm hd n := nT_congr (fun j a b => DC_cC hr hv a b)
theorem NC_of {n tp dr : Int} {sz : Int → Int} (hr : Rm n sz) : NCr (mT sz n) (nxD n tp dr sz) (nxC n tp dr sz) := fun x a x0 x1 => ⟨nxC_D hr x0 x1 a, nxC_r hr x0 x1 a⟩
section ANS
variable {n tp dr : Int} {sz hd : Int → Int} {i v M L : Int} {fo lv ca pp le : Int → Int} {r : Int}
theorem ansF (hr : Rm n sz) (hv : Vh n sz hd) (hi : i = -1 ∨ (0 ≤ i ∧ i < n)) (hM : mT sz n ≤ M) (hT : TB (mT sz n) M (nxC n tp dr sz) (fun _ _ => true) (cC n sz hd) fo lv ca r (24 * r) pp) : AnF n tp dr sz hd i v (if 0 ≤ fnd fo (goC n sz i v) r.toNat 0 ∧ fnd fo (goC n sz i v) r.toNat 0 < M ∧ 0 ≤ lv (fnd fo (goC n sz i v) r.toNat 0) then lv (fnd fo (goC n sz i v) r.toNat 0) else -1) ∧ ∀ k, 0 ≤ k → AnB n tp dr sz hd i v k (p_row M lv ca (fnd fo (goC n sz i v) r.toNat 0) k) := by
  have hN := mT_r hr
  have hx := cC_r hr hv
  have hr0 : 0 ≤ r := by have := hT.1; omega
  have key : ∀ rm cs, Agr n rm sz → FC (mT rm n) (nxM n tp dr rm) (spM n tp dr rm) 0 (goM n rm i v) cs → IS (mT sz n) (ph n rm sz) (nxD n tp dr sz) (spD n tp dr sz) (nxM n tp dr rm) (spM n tp dr rm) (goC n sz i v) (goM n rm i v) ∧ FC (mT sz n) (nxM n tp dr rm) (spM n tp dr rm) 0 (goM n rm i v) cs ∧ FC (mT sz n) (nxD n tp dr sz) (spD n tp dr sz) 0 (goC n sz i v) (fun y => cs (ph n rm sz y)) := fun rm cs ha hF => by
    have hI := IS_ph (tp := tp) (dr := dr) hr ha (i := i) (v := v) hi
    rw [mT_cg hr.1 ha] at hF
    exact ⟨hI, hF, FC_is hI hF⟩
  rcases fnd_spec (fo := fo) (q := goC n sz i v) r.toNat 0 with ⟨h1, h2⟩ | ⟨K, h1, h2, h3, h4, h5⟩
  · rw [h1]
    refine ⟨fun rm cs ha hF => ?_, fun k k0 rm cs ha hF => ?_⟩
    · obtain ⟨hI, -, hF1⟩ := key rm cs ha hF
      have h9 := few_no (NC_of hr) hT hF1 hx.1 hx.2 (fun j a b => h2 j a (by omega))
      have h9 : cs (ph n rm sz (cC n sz hd)) = 1000000000 := h9
      rw [ph_x0 hr hv] at h9
      rw [if_neg (by omega), if_pos h9]
    · obtain ⟨hI, hF0, hF1⟩ := key rm cs ha hF
      have h9 := few_no (NC_of hr) hT hF1 hx.1 hx.2 (fun j a b => h2 j a (by omega))
      have h9 : cs (ph n rm sz (cC n sz hd)) = 1000000000 := h9
      rw [ph_x0 hr hv] at h9
      rw [gr_stop (Or.inr h9)]
      unfold p_row
      rw [if_neg (by omega)]
      split <;> rfl
  · have hK : K < r := by omega
    have hrk := hT.2.2.2.2.1 K h1 hK
    rw [h3]
    refine ⟨fun rm cs ha hF => ?_, fun k k0 rm cs ha hF => ?_⟩
    · obtain ⟨hI, -, hF1⟩ := key rm cs ha hF
      obtain ⟨y1, y2, -⟩ := few_yes hM hN.2 (NC_of hr) (NX_D hr) hT hF1 hx.1 hx.2 h1 hK h4 (fun j a b => h5 j a b)
      have y1 : cs (ph n rm sz (cC n sz hd)) = lv (fo K) := y1
      rw [ph_x0 hr hv] at y1
      rw [if_pos ⟨hrk.1, by omega, hrk.2.2.1⟩, y1, if_neg (by omega)]
    · obtain ⟨hI, hF0, hF1⟩ := key rm cs ha hF
      obtain ⟨y1, y2, y3⟩ := few_yes hM hN.2 (NC_of hr) (NX_D hr) hT hF1 hx.1 hx.2 h1 hK h4 (fun j a b => h5 j a b)
      have y4 := y3 k.toNat
      rw [Int.toNat_of_nonneg k0] at y4
      rw [y4, ← gr_is hI (NX_D hr) (by omega) hF0 k.toNat _ hx.1 hx.2, ph_x0 hr hv]
      by_cases q : 14641 ≤ k
      · rw [if_pos q, ← ph_x0 hr hv, gr_is hI (NX_D hr) (by omega) hF0 k.toNat _ hx.1 hx.2, ← y4]
        unfold p_row
        rw [if_neg (by omega)]
      · rw [if_neg q]
theorem ansW (hr : Rm n sz) (hv : Vh n sz hd) (hi : i = -1 ∨ (0 ≤ i ∧ i < n)) (hM : mT sz n ≤ M) (hT : TB (mT sz n) M (nxC n tp dr sz) (fun _ _ => true) (cC n sz hd) fo lv ca r (24 * r) pp) {wy : Int → Int} (hwy : ∀ k, 0 ≤ k → k < r → wy (fo k) = wz (nxC n tp dr sz) (cC n sz hd) fo lv (24 * r).toNat (fo k)) {d : Int} (hd9 : d = if 0 ≤ fnd fo (goC n sz i v) r.toNat 0 ∧ fnd fo (goC n sz i v) r.toNat 0 < M ∧ 0 ≤ lv (fnd fo (goC n sz i v) r.toNat 0) then lv (fnd fo (goC n sz i v) r.toNat 0) else -1) : AnW n tp dr sz hd i v (wyF fo lv (goC n sz i v) wy d r.toNat) := by
  have hN := mT_r hr
  have hx := cC_r hr hv
  have hr0 : 0 ≤ r := by have := hT.1; omega
  intro rm cs ha hF
  have hI := IS_ph (tp := tp) (dr := dr) hr ha (i := i) (v := v) hi
  rw [mT_cg hr.1 ha] at hF
  have hF1 := FC_is hI hF
  rcases fnd_spec (fo := fo) (q := goC n sz i v) r.toNat 0 with ⟨h1, h2⟩ | ⟨K, h1, h2, h3, h4, h5⟩
  · have h9 := few_no (NC_of hr) hT hF1 hx.1 hx.2 (fun j a b => h2 j a (by omega))
    have h9 : cs (ph n rm sz (cC n sz hd)) = 1000000000 := h9
    rw [ph_x0 hr hv] at h9
    rw [h1, if_neg (by omega)] at hd9
    rw [if_pos h9, hd9, ways_no hT r.toNat (by omega)]
  · have hK : K < r := by omega
    have hrk := hT.2.2.2.2.1 K h1 hK
    rw [h3, if_pos ⟨hrk.1, by omega, hrk.2.2.1⟩] at hd9
    obtain ⟨y1, y2, -⟩ := few_yes hM hN.2 (NC_of hr) (NX_D hr) hT hF1 hx.1 hx.2 h1 hK h4 (fun j a b => h5 j a b)
    have y1 : cs (ph n rm sz (cC n sz hd)) = lv (fo K) := y1
    rw [ph_x0 hr hv] at y1
    rw [if_neg (by omega), y1, hd9, ways_yes (NC_of hr) (NX_D hr) hT hx.1 hx.2 h1 hK (fun j a b => h5 j a b) hwy, ← ct_is hI _ _ hx.1 hx.2, ph_x0 hr hv]
theorem ansS (hr : Rm n sz) (hv : Vh n sz hd) (hi : i = -1 ∨ (0 ≤ i ∧ i < n)) (hM : mT sz n ≤ M) (hL9 : mT sz n ≤ L) (hL : LZ (mT sz n) L (nxC n tp dr sz) (spC sz) (cC n sz hd) le) (hT : TB (mT sz n) M (nxC n tp dr sz) (fun x a => decide (le (nxC n tp dr sz x a) = le x + spC sz x a)) (cC n sz hd) fo lv ca r (24 * r) pp) : AnS n tp dr sz hd i v 0 (if 0 ≤ thF fo (goC n sz i v) le r.toNat ∧ thF fo (goC n sz i v) le r.toNat < L then le (thF fo (goC n sz i v) le r.toNat) else -1) ∧ AnS n tp dr sz hd i v 1 (if 0 ≤ thF fo (goC n sz i v) le r.toNat ∧ thF fo (goC n sz i v) le r.toNat < M ∧ 0 ≤ lv (thF fo (goC n sz i v) le r.toNat) then lv (thF fo (goC n sz i v) le r.toNat) else -1) ∧ ∀ k, 0 ≤ k → AnP n tp dr sz hd i v k (p_row M lv ca (thF fo (goC n sz i v) le r.toNat) k) := by
  have hN := mT_r hr
  have hx := cC_r hr hv
  have hr0 : 0 ≤ r := by have := hT.1; omega
  have hS : ∀ x a, 0 ≤ x → x < mT sz n → nxD n tp dr sz x a ≠ -1 → spD n tp dr sz x a = spC sz x a := fun x a _ _ h => spD_eq h
  have hsp : ∀ y b, nxC n tp dr sz y b ≠ y → 0 ≤ spC sz y b := fun y b hne => by
    unfold spC p_spilt
    by_cases w : 0 ≤ b ∧ b < 24 ∧ k_taker b < 0 ∧ 0 ≤ k_giver b
    · rw [if_pos w]
      have hm : 0 < mvC n tp dr sz y b := by
        by_cases q : 0 < mvC n tp dr sz y b
        · exact q
        · exact absurd (show nxC n tp dr sz y b = y by unfold nxC; rw [if_neg q]) hne
      have hp := (p_mv_pos_act hm).2.2
      exact (DC_v hr y (k_giver b) w.2.2.2 hp.1).1
    · rw [if_neg w]; omega
  have hbd := spill_le hr hL hT
  have key : ∀ rm cs, Agr n rm sz → FC (mT rm n) (nxM n tp dr rm) (spM n tp dr rm) 20000 (goM n rm i v) cs → IS (mT sz n) (ph n rm sz) (nxD n tp dr sz) (spD n tp dr sz) (nxM n tp dr rm) (spM n tp dr rm) (goC n sz i v) (goM n rm i v) ∧ FC (mT sz n) (nxM n tp dr rm) (spM n tp dr rm) 20000 (goM n rm i v) cs ∧ FC (mT sz n) (nxD n tp dr sz) (spD n tp dr sz) 20000 (goC n sz i v) (fun y => cs (ph n rm sz y)) := fun rm cs ha hF => by
    have hI := IS_ph (tp := tp) (dr := dr) hr ha (i := i) (v := v) hi
    rw [mT_cg hr.1 ha] at hF
    exact ⟨hI, hF, FC_is hI hF⟩
  rcases thF_spec (fo := fo) (q := goC n sz i v) (le := le) (fun _ => Or.inr trivial) r.toNat (fun k a b => (hT.2.2.2.2.1 k a (by omega)).1) with ⟨h1, h2⟩ | ⟨K, h1, h2, h3, h4, h5, h6⟩
  · rw [h1]
    have hno : ∀ rm cs, Agr n rm sz → FC (mT rm n) (nxM n tp dr rm) (spM n tp dr rm) 20000 (goM n rm i v) cs → cs (nT rm hd n) = 1000000000 := fun rm cs ha hF => by
      obtain ⟨hI, -, hF1⟩ := key rm cs ha hF
      have h9 := spa_no hL9 (NC_of hr) (NX_D hr) hS hsp hL hT hF1 hx.1 hx.2 (fun j a b => h2 j a (by omega))
      have h9 : cs (ph n rm sz (cC n sz hd)) = 1000000000 := h9
      rw [ph_x0 hr hv] at h9
      exact h9
    refine ⟨fun rm cs ha hF => ?_, fun rm cs ha hF => ?_, fun k k0 rm cs ha hF => ?_⟩
    · have h9 := hno rm cs ha hF
      rw [if_neg (by omega), if_pos h9]
    · have h9 := hno rm cs ha hF
      rw [if_neg (by omega), if_pos h9]
    · have h9 := hno rm cs ha hF
      rw [gr_stop (Or.inr h9)]
      unfold p_row
      rw [if_neg (by omega)]
      split <;> rfl
  · have hK : K < r := by omega
    have hrk := hT.2.2.2.2.1 K h1 hK
    rw [h3]
    have hyes : ∀ rm cs, Agr n rm sz → FC (mT rm n) (nxM n tp dr rm) (spM n tp dr rm) 20000 (goM n rm i v) cs → cs (nT rm hd n) = 20000 * le (fo K) + lv (fo K) ∧ 0 ≤ le (fo K) ∧ 0 ≤ lv (fo K) ∧ lv (fo K) < 14641 ∧ cs (nT rm hd n) < fFAR ∧ ∀ k : Nat, p_row M lv ca (fo K) k = gr (nxM n tp dr rm) (spM n tp dr rm) 20000 cs k (nT rm hd n) := fun rm cs ha hF => by
      obtain ⟨hI, hF0, hF1⟩ := key rm cs ha hF
      obtain ⟨y1, y2, y3, y4, y5, y6⟩ := spa_yes hM hN.2 hL9 (NC_of hr) (NX_D hr) hS hsp hL hT hF1 hx.1 hx.2 hbd h1 hK h4 (fun j a b => h5 j a (by omega)) (fun j a b => h6 j a b)
      rw [← ph_x0 (rm := rm) hr hv]
      refine ⟨y1, y2, y3, y4, y5, fun k => ?_⟩
      rw [y6 k, ← gr_is hI (NX_D hr) (by omega) hF0 k _ hx.1 hx.2]
    refine ⟨fun rm cs ha hF => ?_, fun rm cs ha hF => ?_, fun k k0 rm cs ha hF => ?_⟩
    · obtain ⟨y1, y2, y3, y4, y5, y6⟩ := hyes rm cs ha hF
      unfold fFAR at y5
      rw [if_pos ⟨hrk.1, by omega⟩, if_neg (by omega), if_pos rfl]
      omega
    · obtain ⟨y1, y2, y3, y4, y5, y6⟩ := hyes rm cs ha hF
      unfold fFAR at y5
      rw [if_pos ⟨hrk.1, by omega, y3⟩, if_neg (by omega), if_neg (by omega)]
      omega
    · obtain ⟨y1, y2, y3, y4, y5, y6⟩ := hyes rm cs ha hF
      have y7 := y6 k.toNat
      rw [Int.toNat_of_nonneg k0] at y7
      by_cases q : 14641 ≤ k
      · rw [if_pos q]
        unfold p_row
        rw [if_neg (by omega)]
      · rw [if_neg q]; exact y7
theorem ansR (hr : Rm n sz) (hv : Vh n sz hd) (hT : TB (mT sz n) M (nxC n tp dr sz) (fun _ _ => true) (cC n sz hd) fo lv ca r (24 * r) pp) : AnR n tp dr sz hd r ∧ AnM n tp dr sz hd (mqC n sz fo r.toNat) := by
  have hx := cC_r hr hv
  refine ⟨fun rm q k ha hR => ?_, fun rm q k ha hR => ?_⟩
  · rw [← ph_x0 (rm := rm) hr hv] at hR
    exact (reach_eq hr ha hT hx.1 hx.2 hR).1.symm
  · rw [← ph_x0 (rm := rm) hr hv] at hR
    exact (reach_eq hr ha hT hx.1 hx.2 hR).2.symm
end ANS
