/-! ===== call by call: the same answers, and the same things held ===== -/
section PRS
variable {DI DL DI' : Nat → Nat → Int} {DA DA' : Nat → Nat → Int → Int} {Ig Lg Ig' Lg' : Nat → Int} {Ag Ag' : Nat → Int → Int} {I I' : Nat → Int} {A A' : Nat → Int → Int}
theorem SM_id (hS : SM DI DA Ig Ag I A) (e1 : DI' = DI) (e2 : DA' = DA) (e3 : I' = I) (e4 : A' = A) : SM DI' DA' Ig Ag I' A' := by rw [e1, e2, e3, e4]; exact hS
theorem SM_rs (hS : SM DI DA Ig Ag I A) (hR : RS I I' A A') : SM DI DA Ig Ag I' A' := SM_q hS rfl rfl hR
theorem pr_jug (hS : SM DI DA Ig Ag I A) {a b z z2 : Int}
    (h5 : (¬ (1 ≤ a ∧ a ≤ 10 ∧ 0 ≤ b ∧ b ≤ a) ∧ z = -2 ∧ DI' = DI ∧ DA' = DA) ∨ ((1 ≤ a ∧ a ≤ 10 ∧ 0 ≤ b ∧ b ≤ a) ∧ DI 1 0 = 4 ∧ z = -4 ∧ DI' = DI ∧ DA' = DA) ∨ ((1 ≤ a ∧ a ≤ 10 ∧ 0 ≤ b ∧ b ≤ a) ∧ DI 1 0 < 4 ∧ z = DI 1 0 ∧ DI' 1 0 = DI 1 0 + 1 ∧ DI' 1 2 = DI 1 2 ∧ DI' 1 3 = DI 1 3 ∧ DA' 1 4 = uf (DA 1 4) (DI 1 0) a ∧ DA' 1 5 = uf (DA 1 5) (DI 1 0) b))
    (h6 : (¬ (1 ≤ a ∧ a ≤ 10 ∧ 0 ≤ b ∧ b ≤ a) ∧ z2 = -2 ∧ I' = I ∧ A' = A) ∨ ((1 ≤ a ∧ a ≤ 10 ∧ 0 ≤ b ∧ b ≤ a) ∧ I 0 = 4 ∧ z2 = -4 ∧ I' = I ∧ A' = A) ∨ ((1 ≤ a ∧ a ≤ 10 ∧ 0 ≤ b ∧ b ≤ a) ∧ I 0 < 4 ∧ z2 = I 0 ∧ I' = va_up I 0 (I 0 + 1) ∧ A' = va_up (va_up A 1 (uf (A 1) (I 0) a)) 2 (uf (A 2) (I 0) b))) : z = z2 ∧ SM DI' DA' Ig Ag I' A' := by
  obtain ⟨s1, s2, s3, s4, s5, s6, s7⟩ := id hS
  rcases h5 with ⟨w, e, e1, e2⟩ | ⟨w, w2, e, e1, e2⟩ | ⟨w, w2, e, e1, e2, e3, e4, e5⟩ <;> rcases h6 with ⟨v, f, f1, f2⟩ | ⟨v, v2, f, f1, f2⟩ | ⟨v, v2, f, f1, f2⟩
  · exact ⟨by omega, SM_id hS e1 e2 f1 f2⟩
  · exact absurd v w
  · exact absurd v w
  · exact absurd w v
  · exact ⟨by omega, SM_id hS e1 e2 f1 f2⟩
  · omega
  · exact absurd w v
  · omega
  · refine ⟨by omega, ?_⟩
    subst f1; subst f2
    refine ⟨show DI' 1 0 = I 0 + 1 by omega, show DI' 1 2 = I 3 by omega, show DI' 1 3 = I 4 by omega, fun j j0 j1 => ?_, fun j j0 j1 => ?_, s6, s7⟩
    · show DA' 1 4 j = uf (A 1) (I 0) a j
      have j1 : j < I 0 + 1 := j1
      rw [e4, s1]
      by_cases q : j = I 0
      · rw [q, uf_same, uf_same]
      · rw [uf_ne _ _ q, uf_ne _ _ q]; exact s4 j j0 (by omega)
    · show DA' 1 5 j = uf (A 2) (I 0) b j
      have j1 : j < I 0 + 1 := j1
      rw [e5, s1]
      by_cases q : j = I 0
      · rw [q, uf_same, uf_same]
      · rw [uf_ne _ _ q, uf_ne _ _ q]; exact s5 j j0 (by omega)
theorem pr_set (hS : SM DI DA Ig Ag I A) {a b z z2 : Int}
    (h5 : (¬ (a = 0 ∨ a = 1) ∧ z = -2 ∧ DI' = DI ∧ DA' = DA) ∨ (a = 0 ∧ z = DI 1 2 ∧ DI' 1 = va_up (DI 1) 2 b ∧ DA' 1 = DA 1) ∨ (a = 1 ∧ z = DI 1 3 ∧ DI' 1 = va_up (DI 1) 3 b ∧ DA' 1 = DA 1))
    (h6 : (¬ (a = 0 ∨ a = 1) ∧ z2 = -2 ∧ I' = I ∧ A' = A) ∨ (a = 0 ∧ z2 = I 3 ∧ I' = va_up I 3 b ∧ A' = A) ∨ (a = 1 ∧ z2 = I 4 ∧ I' = va_up I 4 b ∧ A' = A)) : z = z2 ∧ SM DI' DA' Ig Ag I' A' := by
  obtain ⟨s1, s2, s3, s4, s5, s6, s7⟩ := id hS
  rcases h5 with ⟨w, e, e1, e2⟩ | ⟨w, e, e1, e2⟩ | ⟨w, e, e1, e2⟩ <;> rcases h6 with ⟨v, f, f1, f2⟩ | ⟨v, f, f1, f2⟩ | ⟨v, f, f1, f2⟩
  · exact ⟨by omega, SM_id hS e1 e2 f1 f2⟩
  · omega
  · omega
  · omega
  · refine ⟨by omega, ?_⟩
    subst f1; subst f2
    unfold SM
    rw [e1, e2]
    exact ⟨s1, rfl, s3, s4, s5, s6, s7⟩
  · omega
  · omega
  · omega
  · refine ⟨by omega, ?_⟩
    subst f1; subst f2
    unfold SM
    rw [e1, e2]
    exact ⟨s1, s2, rfl, s4, s5, s6, s7⟩
theorem pr_put (hS : SM DI DA Ig Ag I A) {a b z z2 : Int}
    (h5 : (¬ (0 ≤ a ∧ a < DI 1 0 ∧ 0 ≤ b ∧ b ≤ DA 1 4 a) ∧ z = -2 ∧ DI' = DI ∧ DA' = DA) ∨ ((0 ≤ a ∧ a < DI 1 0 ∧ 0 ≤ b ∧ b ≤ DA 1 4 a) ∧ z = DA 1 5 a ∧ DI' 1 = DI 1 ∧ DA' 1 4 = DA 1 4 ∧ DA' 1 5 = uf (DA 1 5) a b))
    (h6 : (¬ (0 ≤ a ∧ a < I 0 ∧ 0 ≤ b ∧ b ≤ A 1 a) ∧ z2 = -2 ∧ I' = I ∧ A' = A) ∨ ((0 ≤ a ∧ a < I 0 ∧ 0 ≤ b ∧ b ≤ A 1 a) ∧ z2 = A 2 a ∧ I' = I ∧ A' = va_up A 2 (uf (A 2) a b))) : z = z2 ∧ SM DI' DA' Ig Ag I' A' := by
  obtain ⟨s1, s2, s3, s4, s5, s6, s7⟩ := id hS
  rcases h5 with ⟨w, e, e1, e2⟩ | ⟨w, e, e1, e2, e3⟩ <;> rcases h6 with ⟨v, f, f1, f2⟩ | ⟨v, f, f1, f2⟩
  · exact ⟨by omega, SM_id hS e1 e2 f1 f2⟩
  · exact absurd ⟨v.1, by omega, v.2.2.1, by rw [s4 a v.1 v.2.1]; exact v.2.2.2⟩ w
  · exact absurd ⟨w.1, by omega, w.2.2.1, by rw [← s4 a w.1 (by omega)]; exact w.2.2.2⟩ v
  · have h9 := s5 a v.1 v.2.1
    refine ⟨by omega, ?_⟩
    subst f1; subst f2
    unfold SM
    rw [e1, e2, e3]
    refine ⟨s1, s2, s3, s4, fun j j0 j1 => ?_, s6, s7⟩
    show uf (DA 1 5) a b j = uf (A 2) a b j
    by_cases q : j = a
    · rw [q, uf_same, uf_same]
    · rw [uf_ne _ _ q, uf_ne _ _ q]; exact s5 j j0 j1
theorem pr_act (hS : SM DI DA Ig Ag I A) {a z z2 : Int}
    (h5 : (¬ (0 ≤ a ∧ a < 24 ∧ p_act (DI 1 0) a) ∧ z = -2 ∧ DI' = DI ∧ DA' = DA) ∨ ((0 ≤ a ∧ a < 24 ∧ p_act (DI 1 0) a) ∧ p_mv (DI 1 0) (DI 1 2) (DI 1 3) (DA 1 4) (DA 1 5) a = 0 ∧ z = -3 ∧ DI' = DI ∧ DA' = DA) ∨ ((0 ≤ a ∧ a < 24 ∧ p_act (DI 1 0) a) ∧ 0 < p_mv (DI 1 0) (DI 1 2) (DI 1 3) (DA 1 4) (DA 1 5) a ∧ z = p_mv (DI 1 0) (DI 1 2) (DI 1 3) (DA 1 4) (DA 1 5) a ∧ DI' 1 = DI 1 ∧ DA' 1 4 = DA 1 4 ∧ DA' 1 5 = p_move (DA 1 5) a (p_mv (DI 1 0) (DI 1 2) (DI 1 3) (DA 1 4) (DA 1 5) a)))
    (h6 : (¬ (0 ≤ a ∧ a < 24 ∧ p_act (I 0) a) ∧ z2 = -2 ∧ RS I I' A A') ∨ ((0 ≤ a ∧ a < 24 ∧ p_act (I 0) a) ∧ p_mv (I 0) (I 3) (I 4) (A 1) (A 2) a = 0 ∧ z2 = -3 ∧ RS I I' A A') ∨ ((0 ≤ a ∧ a < 24 ∧ p_act (I 0) a) ∧ 0 < p_mv (I 0) (I 3) (I 4) (A 1) (A 2) a ∧ z2 = p_mv (I 0) (I 3) (I 4) (A 1) (A 2) a ∧ RS I I' (va_up A 2 (cpN (I 0) (p_move (A 2) a (p_mv (I 0) (I 3) (I 4) (A 1) (A 2) a)) (A 2))) A')) : z = z2 ∧ SM DI' DA' Ig Ag I' A' := by
  obtain ⟨s1, s2, s3, s4, s5, s6, s7⟩ := id hS
  have hmv : p_mv (DI 1 0) (DI 1 2) (DI 1 3) (DA 1 4) (DA 1 5) a = p_mv (I 0) (I 3) (I 4) (A 1) (A 2) a := by
    rw [s1, s2, s3]
    exact p_mv_congr s4 s5 a
  rw [hmv, s1] at h5
  rcases h5 with ⟨w, e, e1, e2⟩ | ⟨w, w2, e, e1, e2⟩ | ⟨w, w2, e, e1, e2, e3⟩ <;> rcases h6 with ⟨v, f, hR⟩ | ⟨v, v2, f, hR⟩ | ⟨v, v2, f, hR⟩
  · exact ⟨by omega, by rw [e1, e2]; exact SM_rs hS hR⟩
  · exact absurd v w
  · exact absurd v w
  · exact absurd w v
  · exact ⟨by omega, by rw [e1, e2]; exact SM_rs hS hR⟩
  · omega
  · exact absurd w v
  · omega
  · refine ⟨by omega, ?_⟩
    obtain ⟨b1, b2, b3, b4, b5, b6, b7⟩ := hR
    have b6 : A' 2 = cpN (I 0) (p_move (A 2) a (p_mv (I 0) (I 3) (I 4) (A 1) (A 2) a)) (A 2) := b6
    have b5 : A' 1 = A 1 := b5
    have b7 : A' 6 = A 6 := b7
    unfold SM
    rw [e1, e2, e3, b1, b2, b3, b4, b5, b6, b7]
    refine ⟨s1, s2, s3, s4, fun j j0 j1 => ?_, s6, s7⟩
    rw [cpN_in j0 j1]
    exact p_move_congr s5 w.2.2 j0 j1
theorem pr_clear (hS : SM DI DA Ig Ag I A) {z z2 : Int} (h5 : z = DI 1 0 ∧ DI' 1 0 = 0 ∧ DI' 1 2 = DI 1 2 ∧ DI' 1 3 = DI 1 3 ∧ DA' 1 4 = DA 1 4 ∧ DA' 1 5 = DA 1 5) (h6 : z2 = I 0 ∧ I' = va_up I 0 0 ∧ A' = A) : z = z2 ∧ SM DI' DA' Ig Ag I' A' := by
  obtain ⟨s1, s2, s3, s4, s5, s6, s7⟩ := id hS
  obtain ⟨f, f1, f2⟩ := h6
  subst f1; subst f2
  exact ⟨by omega, h5.2.1, h5.2.2.1.trans s2, h5.2.2.2.1.trans s3, fun j j0 j1 => absurd (show j < 0 from j1) (by omega), fun j j0 j1 => absurd (show j < 0 from j1) (by omega), s6, s7⟩
theorem pr_glass (hS : SM DI DA Ig Ag I A) {a z z2 : Int}
    (h5 : (¬ (1 ≤ a ∧ a ≤ 12) ∧ z = -2 ∧ Ig' = Ig ∧ Ag' = Ag) ∨ ((1 ≤ a ∧ a ≤ 12) ∧ Ig 0 = 3 ∧ z = -4 ∧ Ig' = Ig ∧ Ag' = Ag) ∨ ((1 ≤ a ∧ a ≤ 12) ∧ Ig 0 < 3 ∧ z = Ig 0 ∧ Ig' 0 = Ig 0 + 1 ∧ Ag' 1 = uf (Ag 1) (Ig 0) a))
    (h6 : (¬ (1 ≤ a ∧ a ≤ 12) ∧ z2 = -2 ∧ I' = I ∧ A' = A) ∨ ((1 ≤ a ∧ a ≤ 12) ∧ I 5 = 3 ∧ z2 = -4 ∧ I' = I ∧ A' = A) ∨ ((1 ≤ a ∧ a ≤ 12) ∧ I 5 < 3 ∧ z2 = I 5 ∧ I' = va_up I 5 (I 5 + 1) ∧ A' = va_up A 6 (uf (A 6) (I 5) a))) : z = z2 ∧ SM DI DA Ig' Ag' I' A' := by
  obtain ⟨s1, s2, s3, s4, s5, s6, s7⟩ := id hS
  rcases h5 with ⟨w, e, e1, e2⟩ | ⟨w, w2, e, e1, e2⟩ | ⟨w, w2, e, e1, e2⟩ <;> rcases h6 with ⟨v, f, f1, f2⟩ | ⟨v, v2, f, f1, f2⟩ | ⟨v, v2, f, f1, f2⟩
  · exact ⟨by omega, by rw [e1, e2, f1, f2]; exact hS⟩
  · omega
  · omega
  · omega
  · exact ⟨by omega, by rw [e1, e2, f1, f2]; exact hS⟩
  · omega
  · omega
  · omega
  · refine ⟨by omega, ?_⟩
    subst f1; subst f2
    refine ⟨s1, s2, s3, s4, s5, show Ig' 0 = I 5 + 1 by omega, fun j j0 j1 => ?_⟩
    show Ag' 1 j = uf (A 6) (I 5) a j
    have j1 : j < I 5 + 1 := j1
    rw [e2, s6]
    by_cases q : j = I 5
    · rw [q, uf_same, uf_same]
    · rw [uf_ne _ _ q, uf_ne _ _ q]; exact s7 j j0 (by omega)
theorem pr_smash (hS : SM DI DA Ig Ag I A) {z z2 : Int} (h5 : z = Ig 0 ∧ Ig' 0 = 0 ∧ Ag' 1 = Ag 1) (h6 : z2 = I 5 ∧ I' = va_up I 5 0 ∧ A' = A) : z = z2 ∧ SM DI DA Ig' Ag' I' A' := by
  obtain ⟨s1, s2, s3, s4, s5, s6, s7⟩ := id hS
  obtain ⟨f, f1, f2⟩ := h6
  subst f1; subst f2
  exact ⟨by omega, s1, s2, s3, s4, s5, h5.2.1, fun j j0 j1 => absurd (show j < 0 from j1) (by omega)⟩
/-- a question -/
theorem pr_q {P P6 : Prop} {z z2 : Int} (hP : P ↔ P6) {Q Q6 : Prop} (h5 : (¬ P ∧ z = -2) ∨ (P ∧ Q)) (h6 : (¬ P6 ∧ z2 = -2) ∨ (P6 ∧ Q6)) (h : Q → Q6 → z = z2) : z = z2 := by
  rcases h5 with ⟨w, e⟩ | ⟨w, e⟩ <;> rcases h6 with ⟨v, f⟩ | ⟨v, f⟩
  · omega
  · exact absurd (hP.mpr v) w
  · exact absurd (hP.mp w) v
  · exact h e f
theorem aim_SM (hS : SM DI DA Ig Ag I A) (i v : Int) : ((i = -1 ∨ (0 ≤ i ∧ i < DI 1 0)) ∧ 0 ≤ v ∧ v ≤ 10) ↔ ((i = -1 ∨ (0 ≤ i ∧ i < I 0)) ∧ 0 ≤ v ∧ v ≤ 10) := by rw [hS.1]
theorem pr_holds (hS : SM DI DA Ig Ag I A) (a : Int) : (if 0 ≤ a ∧ a < DI 1 0 then DA 1 5 a else -2) = (if 0 ≤ a ∧ a < I 0 then A 2 a else -2) := by
  rw [hS.1]
  by_cases q : 0 ≤ a ∧ a < I 0
  · rw [if_pos q, if_pos q]; exact hS.2.2.2.2.1 a q.1 q.2
  · rw [if_neg q, if_neg q]
theorem pr_road (hS : SM DI DA Ig Ag I A) (i v : Int) : (if (0 ≤ i ∧ i < DI 1 0 ∧ 1 ≤ v ∧ v ≤ 10) then (if DI 1 0 = 2 then rdF (DA 1 4 i) (DA 1 4 (1 - i)) v 121 0 0 0 else -3) else -2) = (if (0 ≤ i ∧ i < I 0 ∧ 1 ≤ v ∧ v ≤ 10) then (if I 0 = 2 then rdF (A 1 i) (A 1 (1 - i)) v 121 0 0 0 else -3) else -2) := by
  rw [hS.1]
  by_cases q : 0 ≤ i ∧ i < I 0 ∧ 1 ≤ v ∧ v ≤ 10
  · rw [if_pos q, if_pos q]
    by_cases q2 : I 0 = 2
    · rw [if_pos q2, if_pos q2, hS.2.2.2.1 i q.1 q.2.1, hS.2.2.2.1 (1 - i) (by omega) (by omega)]
    · rw [if_neg q2, if_neg q2]
  · rw [if_neg q, if_neg q]
theorem pr_count (hS : SM DI DA Ig Ag I A) (a : Int) : (if a = 0 then DI 1 0 else if a = 1 then Ig 0 else if a = 2 then sT (DA 1 5) (DI 1 0) else if a = 3 then sT (fun b => if 0 < p_mv (DI 1 0) (DI 1 2) (DI 1 3) (DA 1 4) (DA 1 5) b then 1 else 0) 24 else -2) = (if a = 0 then I 0 else if a = 1 then I 5 else if a = 2 then sT (A 2) (I 0) else if a = 3 then sT (fun b => if 0 < p_mv (I 0) (I 3) (I 4) (A 1) (A 2) b then 1 else 0) 24 else -2) := by
  obtain ⟨s1, s2, s3, s4, s5, s6, s7⟩ := id hS
  have e1 : sT (DA 1 5) (I 0) = sT (A 2) (I 0) := sT_congr (fun j a b => s5 j a b)
  have e2 : (fun b => if 0 < p_mv (I 0) (I 3) (I 4) (DA 1 4) (DA 1 5) b then (1 : Int) else 0) = (fun b => if 0 < p_mv (I 0) (I 3) (I 4) (A 1) (A 2) b then 1 else 0) := by
    funext b
    rw [p_mv_congr s4 s5 b]
  rw [s1, s2, s3, s6, e1, e2]
theorem sB_eq (hS : SM DI DA Ig Ag I A) (hG : GV Ig Lg Ag) {f f2 : Int → Int} {w : Int} (h1 : ∀ j, 1 ≤ j → j ≤ 40 → ∃ t, WT (lp (Ig 0) (Ag 1)) (2 ^ (Ig 0).toNat) j (f j) t) (h2 : ∀ j, 1 ≤ j → j ≤ 40 → ∃ t, WT (mp (I 5) (A 6)) 8 j (f2 j) t) : sB f w 40 = sB f2 w 40 :=
  sB_cg (fun j j0 j1 => by
    obtain ⟨t, ht⟩ := h1 j j0 j1
    obtain ⟨t2, ht2⟩ := h2 j j0 j1
    exact (WT_SM hS hG ht ht2).1)
end PRS
