set_option maxHeartbeats 1000000 in
theorem w5_fewest (l : Launch) (g : GX) (base : Nat) (sa : Nat → Nat) (h0 : Hp) (ox om : Nat) (R : Nat → Nat) (DR : Nat → Nat → Nat) (DI DL : Nat → Nat → Int) (DA : Nat → Nat → Int → Int) (Rg : Nat → Nat) (Ig Lg : Nat → Int) (Ag : Nat → Int → Int) (Ro : Nat → Nat) (I : Nat → Int) (A : Nat → Int → Int) (i v : Int) (hL : LX g h0 ox om R DR DI DL DA Rg Ig Lg Ag Ro I A) (hi9 : i32 i) (hv9 : i32 v) : MC l g base sa yX5_fewest wsX5_fewest ({ frames := 5, cells := (if ((i = -1 ∨ (0 ≤ i ∧ i < DI 1 0)) ∧ 0 ≤ v ∧ v ≤ 10) then tCel (DL 3 1) (jN DI DA) else 0), slots := (if ((i = -1 ∨ (0 ≤ i ∧ i < DI 1 0)) ∧ 0 ≤ v ∧ v ≤ 10) then tSlo (DL 3 1) (jN DI DA) else 0), locals := 120 }) ([.ref ox, .int (J i), .int (J v)]) h0 (fun r h' => ∃ z DR' DI' DL' DA', r = some (.int (J z)) ∧ LX g h' ox om R DR' DI' DL' DA' Rg Ig Lg Ag Ro I A ∧ DI' 1 = DI 1 ∧ DA' 1 = DA 1 ∧ (pC DL Lg + ((if ((i = -1 ∨ (0 ≤ i ∧ i < DI 1 0)) ∧ 0 ≤ v ∧ v ≤ 10) then tCel (DL 3 1) (jN DI DA) else 0)) ≤ pC DL' Lg ∧ pS DL Lg + ((if ((i = -1 ∨ (0 ≤ i ∧ i < DI 1 0)) ∧ 0 ≤ v ∧ v ≤ 10) then tSlo (DL 3 1) (jN DI DA) else 0)) ≤ pS DL' Lg) ∧ ((¬ ((i = -1 ∨ (0 ≤ i ∧ i < DI 1 0)) ∧ 0 ≤ v ∧ v ≤ 10) ∧ z = -2) ∨ (((i = -1 ∨ (0 ≤ i ∧ i < DI 1 0)) ∧ 0 ≤ v ∧ v ≤ 10) ∧ AnF (DI 1 0) (DI 1 2) (DI 1 3) (DA 1 4) (DA 1 5) i v z))) := by
  obtain ⟨l1, l2, l3, l4, l5, l6, l7, l8, l9, l10, l11, l12⟩ := id hL
  refine MC.imp (x_fewest l g base sa h0 ox R i0 i0 a0 DR DI DL DA (if ((i = -1 ∨ (0 ≤ i ∧ i < DI 1 0)) ∧ 0 ≤ v ∧ v ≤ 10) then tCel (DL 3 1) (jN DI DA) else 0) (if ((i = -1 ∨ (0 ≤ i ∧ i < DI 1 0)) ∧ 0 ≤ v ∧ v ≤ 10) then tSlo (DL 3 1) (jN DI DA) else 0) i v l1 l3 l4 l2 l9 (fun w => by rw [if_pos w, if_pos w]; exact ⟨Nat.le_refl _, Nat.le_refl _⟩) hi9 hv9) (fun r h9 hp => ?_)
  obtain ⟨hF, hp⟩ := hp
  rcases hp with ⟨w, e, e2⟩ | ⟨w, z, DR', DI', DL', DA', e, hz, hB, hV, hK, hs, eL, e31⟩
  · subst e2
    refine ⟨-2, DR, DI, DL, DA, e, hL, rfl, rfl, ?_, Or.inl ⟨w, rfl⟩⟩
    rw [if_neg w, if_neg w]
    exact ⟨Nat.le_refl _, Nat.le_refl _⟩
  · refine ⟨z, DR', DI', DL', DA', e, LX_s hL hF hB hV (hK.2.2 0 (by omega)) hs, hK.1, hK.2.1, ?_, Or.inr ⟨w, hz⟩⟩
    rw [if_pos w, if_pos w]
    have hN := Wok_N l4.1
    obtain ⟨vW, vV, vZ, vF, vA, vT, vS, vg, f6, f7, f8⟩ := id l4
    have hr := t_room ⟨vA.1, vA.2.1⟩ hN
    have e41 : DL' 4 1 = DL 4 1 := by rw [eL]; rfl
    have e50 : DL' 5 0 = DL 5 0 := by rw [eL]; rfl
    have e05 : DL' 0 5 = DL 0 5 := by rw [eL]; rfl
    have p1 := ph3_r ⟨vA.1, vA.2.1⟩
    have p2 := ph3_r ⟨vT.1, vT.2.1⟩
    have p3 := ph3_r ⟨vS.1, vS.2.1⟩
    have p4 := ph3_r ⟨vg.2.1, Int.le_trans vg.2.2.1 vA.2.1⟩
    have g5 := l6.2.2.2.1
    have s3 := vg.2.1
    unfold pC pS
    rw [e31, e41, e50, e05]
    unfold jN at *
    omega
set_option maxHeartbeats 1000000 in
theorem w5_best (l : Launch) (g : GX) (base : Nat) (sa : Nat → Nat) (h0 : Hp) (ox om : Nat) (R : Nat → Nat) (DR : Nat → Nat → Nat) (DI DL : Nat → Nat → Int) (DA : Nat → Nat → Int → Int) (Rg : Nat → Nat) (Ig Lg : Nat → Int) (Ag : Nat → Int → Int) (Ro : Nat → Nat) (I : Nat → Int) (A : Nat → Int → Int) (i v k : Int) (hL : LX g h0 ox om R DR DI DL DA Rg Ig Lg Ag Ro I A) (hi9 : i32 i) (hv9 : i32 v) (hk9 : i32 k) : MC l g base sa yX5_best wsX5_best ({ frames := 5, cells := (if (((i = -1 ∨ (0 ≤ i ∧ i < DI 1 0)) ∧ 0 ≤ v ∧ v ≤ 10) ∧ 0 ≤ k) then tCel (DL 3 1) (jN DI DA) else 0), slots := (if (((i = -1 ∨ (0 ≤ i ∧ i < DI 1 0)) ∧ 0 ≤ v ∧ v ≤ 10) ∧ 0 ≤ k) then tSlo (DL 3 1) (jN DI DA) else 0), locals := 120 }) ([.ref ox, .int (J i), .int (J v), .int (J k)]) h0 (fun r h' => ∃ z DR' DI' DL' DA', r = some (.int (J z)) ∧ LX g h' ox om R DR' DI' DL' DA' Rg Ig Lg Ag Ro I A ∧ DI' 1 = DI 1 ∧ DA' 1 = DA 1 ∧ (pC DL Lg + ((if (((i = -1 ∨ (0 ≤ i ∧ i < DI 1 0)) ∧ 0 ≤ v ∧ v ≤ 10) ∧ 0 ≤ k) then tCel (DL 3 1) (jN DI DA) else 0)) ≤ pC DL' Lg ∧ pS DL Lg + ((if (((i = -1 ∨ (0 ≤ i ∧ i < DI 1 0)) ∧ 0 ≤ v ∧ v ≤ 10) ∧ 0 ≤ k) then tSlo (DL 3 1) (jN DI DA) else 0)) ≤ pS DL' Lg) ∧ ((¬ (((i = -1 ∨ (0 ≤ i ∧ i < DI 1 0)) ∧ 0 ≤ v ∧ v ≤ 10) ∧ 0 ≤ k) ∧ z = -2) ∨ ((((i = -1 ∨ (0 ≤ i ∧ i < DI 1 0)) ∧ 0 ≤ v ∧ v ≤ 10) ∧ 0 ≤ k) ∧ AnB (DI 1 0) (DI 1 2) (DI 1 3) (DA 1 4) (DA 1 5) i v k z))) := by
  obtain ⟨l1, l2, l3, l4, l5, l6, l7, l8, l9, l10, l11, l12⟩ := id hL
  refine MC.imp (x_best l g base sa h0 ox R i0 i0 a0 DR DI DL DA (if (((i = -1 ∨ (0 ≤ i ∧ i < DI 1 0)) ∧ 0 ≤ v ∧ v ≤ 10) ∧ 0 ≤ k) then tCel (DL 3 1) (jN DI DA) else 0) (if (((i = -1 ∨ (0 ≤ i ∧ i < DI 1 0)) ∧ 0 ≤ v ∧ v ≤ 10) ∧ 0 ≤ k) then tSlo (DL 3 1) (jN DI DA) else 0) i v k l1 l3 l4 l2 l9 (fun w => by rw [if_pos w, if_pos w]; exact ⟨Nat.le_refl _, Nat.le_refl _⟩) hi9 hv9 hk9) (fun r h9 hp => ?_)
  obtain ⟨hF, hp⟩ := hp
  rcases hp with ⟨w, e, e2⟩ | ⟨w, z, DR', DI', DL', DA', e, hz, hB, hV, hK, hs, eL, e31⟩
  · subst e2
    refine ⟨-2, DR, DI, DL, DA, e, hL, rfl, rfl, ?_, Or.inl ⟨w, rfl⟩⟩
    rw [if_neg w, if_neg w]
    exact ⟨Nat.le_refl _, Nat.le_refl _⟩
  · refine ⟨z, DR', DI', DL', DA', e, LX_s hL hF hB hV (hK.2.2 0 (by omega)) hs, hK.1, hK.2.1, ?_, Or.inr ⟨w, hz⟩⟩
    rw [if_pos w, if_pos w]
    have hN := Wok_N l4.1
    obtain ⟨vW, vV, vZ, vF, vA, vT, vS, vg, f6, f7, f8⟩ := id l4
    have hr := t_room ⟨vA.1, vA.2.1⟩ hN
    have e41 : DL' 4 1 = DL 4 1 := by rw [eL]; rfl
    have e50 : DL' 5 0 = DL 5 0 := by rw [eL]; rfl
    have e05 : DL' 0 5 = DL 0 5 := by rw [eL]; rfl
    have p1 := ph3_r ⟨vA.1, vA.2.1⟩
    have p2 := ph3_r ⟨vT.1, vT.2.1⟩
    have p3 := ph3_r ⟨vS.1, vS.2.1⟩
    have p4 := ph3_r ⟨vg.2.1, Int.le_trans vg.2.2.1 vA.2.1⟩
    have g5 := l6.2.2.2.1
    have s3 := vg.2.1
    unfold pC pS
    rw [e31, e41, e50, e05]
    unfold jN at *
    omega
set_option maxHeartbeats 1000000 in
theorem w5_makes (l : Launch) (g : GX) (base : Nat) (sa : Nat → Nat) (h0 : Hp) (ox om : Nat) (R : Nat → Nat) (DR : Nat → Nat → Nat) (DI DL : Nat → Nat → Int) (DA : Nat → Nat → Int → Int) (Rg : Nat → Nat) (Ig Lg : Nat → Int) (Ag : Nat → Int → Int) (Ro : Nat → Nat) (I : Nat → Int) (A : Nat → Int → Int)  (hL : LX g h0 ox om R DR DI DL DA Rg Ig Lg Ag Ro I A)  : MC l g base sa yX5_makes wsX5_makes ({ frames := 5, cells := tCel (DL 3 1) (jN DI DA), slots := tSlo (DL 3 1) (jN DI DA), locals := 120 }) ([.ref ox]) h0 (fun r h' => ∃ z DR' DI' DL' DA', r = some (.int (J z)) ∧ LX g h' ox om R DR' DI' DL' DA' Rg Ig Lg Ag Ro I A ∧ DI' 1 = DI 1 ∧ DA' 1 = DA 1 ∧ (pC DL Lg + (tCel (DL 3 1) (jN DI DA)) ≤ pC DL' Lg ∧ pS DL Lg + (tSlo (DL 3 1) (jN DI DA)) ≤ pS DL' Lg) ∧ (AnM (DI 1 0) (DI 1 2) (DI 1 3) (DA 1 4) (DA 1 5) z)) := by
  obtain ⟨l1, l2, l3, l4, l5, l6, l7, l8, l9, l10, l11, l12⟩ := id hL
  refine MC.imp (x_makes l g base sa h0 ox R i0 i0 a0 DR DI DL DA l1 l3 l4 l2 l9) (fun r h9 hp => ?_)
  obtain ⟨hF, z, DR', DI', DL', DA', e, hz, hB, hV, hK, hs, eL, e31⟩ := hp
  refine ⟨z, DR', DI', DL', DA', e, LX_s hL hF hB hV (hK.2.2 0 (by omega)) hs, hK.1, hK.2.1, ?_, hz⟩
  have hN := Wok_N l4.1
  obtain ⟨vW, vV, vZ, vF, vA, vT, vS, vg, f6, f7, f8⟩ := id l4
  have hr := t_room ⟨vA.1, vA.2.1⟩ hN
  have e41 : DL' 4 1 = DL 4 1 := by rw [eL]; rfl
  have e50 : DL' 5 0 = DL 5 0 := by rw [eL]; rfl
  have e05 : DL' 0 5 = DL 0 5 := by rw [eL]; rfl
  have p1 := ph3_r ⟨vA.1, vA.2.1⟩
  have p2 := ph3_r ⟨vT.1, vT.2.1⟩
  have p3 := ph3_r ⟨vS.1, vS.2.1⟩
  have p4 := ph3_r ⟨vg.2.1, Int.le_trans vg.2.2.1 vA.2.1⟩
  have g5 := l6.2.2.2.1
  have s3 := vg.2.1
  unfold pC pS
  rw [e31, e41, e50, e05]
  unfold jN at *
  omega
set_option maxHeartbeats 1000000 in
theorem w5_reaches (l : Launch) (g : GX) (base : Nat) (sa : Nat → Nat) (h0 : Hp) (ox om : Nat) (R : Nat → Nat) (DR : Nat → Nat → Nat) (DI DL : Nat → Nat → Int) (DA : Nat → Nat → Int → Int) (Rg : Nat → Nat) (Ig Lg : Nat → Int) (Ag : Nat → Int → Int) (Ro : Nat → Nat) (I : Nat → Int) (A : Nat → Int → Int)  (hL : LX g h0 ox om R DR DI DL DA Rg Ig Lg Ag Ro I A)  : MC l g base sa yX5_reaches wsX5_reaches ({ frames := 5, cells := tCel (DL 3 1) (jN DI DA), slots := tSlo (DL 3 1) (jN DI DA), locals := 120 }) ([.ref ox]) h0 (fun r h' => ∃ z DR' DI' DL' DA', r = some (.int (J z)) ∧ LX g h' ox om R DR' DI' DL' DA' Rg Ig Lg Ag Ro I A ∧ DI' 1 = DI 1 ∧ DA' 1 = DA 1 ∧ (pC DL Lg + (tCel (DL 3 1) (jN DI DA)) ≤ pC DL' Lg ∧ pS DL Lg + (tSlo (DL 3 1) (jN DI DA)) ≤ pS DL' Lg) ∧ (AnR (DI 1 0) (DI 1 2) (DI 1 3) (DA 1 4) (DA 1 5) z)) := by
  obtain ⟨l1, l2, l3, l4, l5, l6, l7, l8, l9, l10, l11, l12⟩ := id hL
  refine MC.imp (x_reaches l g base sa h0 ox R i0 i0 a0 DR DI DL DA l1 l3 l4 l2 l9) (fun r h9 hp => ?_)
  obtain ⟨hF, z, DR', DI', DL', DA', e, hz, hB, hV, hK, hs, eL, e31⟩ := hp
  refine ⟨z, DR', DI', DL', DA', e, LX_s hL hF hB hV (hK.2.2 0 (by omega)) hs, hK.1, hK.2.1, ?_, hz⟩
  have hN := Wok_N l4.1
  obtain ⟨vW, vV, vZ, vF, vA, vT, vS, vg, f6, f7, f8⟩ := id l4
  have hr := t_room ⟨vA.1, vA.2.1⟩ hN
  have e41 : DL' 4 1 = DL 4 1 := by rw [eL]; rfl
  have e50 : DL' 5 0 = DL 5 0 := by rw [eL]; rfl
  have e05 : DL' 0 5 = DL 0 5 := by rw [eL]; rfl
  have p1 := ph3_r ⟨vA.1, vA.2.1⟩
  have p2 := ph3_r ⟨vT.1, vT.2.1⟩
  have p3 := ph3_r ⟨vS.1, vS.2.1⟩
  have p4 := ph3_r ⟨vg.2.1, Int.le_trans vg.2.2.1 vA.2.1⟩
  have g5 := l6.2.2.2.1
  have s3 := vg.2.1
  unfold pC pS
  rw [e31, e41, e50, e05]
  unfold jN at *
  omega
set_option maxHeartbeats 1000000 in
theorem w5_rows (l : Launch) (g : GX) (base : Nat) (sa : Nat → Nat) (h0 : Hp) (ox om : Nat) (R : Nat → Nat) (DR : Nat → Nat → Nat) (DI DL : Nat → Nat → Int) (DA : Nat → Nat → Int → Int) (Rg : Nat → Nat) (Ig Lg : Nat → Int) (Ag : Nat → Int → Int) (Ro : Nat → Nat) (I : Nat → Int) (A : Nat → Int → Int) (i v : Int) (hL : LX g h0 ox om R DR DI DL DA Rg Ig Lg Ag Ro I A) (hi9 : i32 i) (hv9 : i32 v) : MC l g base sa yX5_rows wsX5_rows ({ frames := 5, cells := (if ((i = -1 ∨ (0 ≤ i ∧ i < DI 1 0)) ∧ 0 ≤ v ∧ v ≤ 10) then tCel (DL 3 1) (jN DI DA) + cCel (DL 0 5) (tLen (DL 3 1) (jN DI DA)) else 0), slots := (if ((i = -1 ∨ (0 ≤ i ∧ i < DI 1 0)) ∧ 0 ≤ v ∧ v ≤ 10) then tSlo (DL 3 1) (jN DI DA) + cSlo (DL 0 5) (tLen (DL 3 1) (jN DI DA)) else 0), locals := 120 }) ([.ref ox, .int (J i), .int (J v)]) h0 (fun r h' => ∃ z DR' DI' DL' DA', r = some (.long (JL z)) ∧ LX g h' ox om R DR' DI' DL' DA' Rg Ig Lg Ag Ro I A ∧ DI' 1 = DI 1 ∧ DA' 1 = DA 1 ∧ (pC DL Lg + ((if ((i = -1 ∨ (0 ≤ i ∧ i < DI 1 0)) ∧ 0 ≤ v ∧ v ≤ 10) then tCel (DL 3 1) (jN DI DA) + cCel (DL 0 5) (tLen (DL 3 1) (jN DI DA)) else 0)) ≤ pC DL' Lg ∧ pS DL Lg + ((if ((i = -1 ∨ (0 ≤ i ∧ i < DI 1 0)) ∧ 0 ≤ v ∧ v ≤ 10) then tSlo (DL 3 1) (jN DI DA) + cSlo (DL 0 5) (tLen (DL 3 1) (jN DI DA)) else 0)) ≤ pS DL' Lg) ∧ ((¬ ((i = -1 ∨ (0 ≤ i ∧ i < DI 1 0)) ∧ 0 ≤ v ∧ v ≤ 10) ∧ z = -2) ∨ (((i = -1 ∨ (0 ≤ i ∧ i < DI 1 0)) ∧ 0 ≤ v ∧ v ≤ 10) ∧ AnW (DI 1 0) (DI 1 2) (DI 1 3) (DA 1 4) (DA 1 5) i v z))) := by
  obtain ⟨l1, l2, l3, l4, l5, l6, l7, l8, l9, l10, l11, l12⟩ := id hL
  refine MC.imp (x_rows l g base sa h0 ox R i0 i0 a0 DR DI DL DA (if ((i = -1 ∨ (0 ≤ i ∧ i < DI 1 0)) ∧ 0 ≤ v ∧ v ≤ 10) then tCel (DL 3 1) (jN DI DA) + cCel (DL 0 5) (tLen (DL 3 1) (jN DI DA)) else 0) (if ((i = -1 ∨ (0 ≤ i ∧ i < DI 1 0)) ∧ 0 ≤ v ∧ v ≤ 10) then tSlo (DL 3 1) (jN DI DA) + cSlo (DL 0 5) (tLen (DL 3 1) (jN DI DA)) else 0) i v l1 l3 l4 l2 l9 (fun w => by rw [if_pos w, if_pos w]; exact ⟨Nat.le_refl _, Nat.le_refl _⟩) hi9 hv9) (fun r h9 hp => ?_)
  obtain ⟨hF, hp⟩ := hp
  rcases hp with ⟨w, e, e2⟩ | ⟨w, z, DR', DI', DL', DA', e, hz, hB, hV, hK, hs, eL, e31, e05⟩
  · subst e2
    refine ⟨-2, DR, DI, DL, DA, e, hL, rfl, rfl, ?_, Or.inl ⟨w, rfl⟩⟩
    rw [if_neg w, if_neg w]
    exact ⟨Nat.le_refl _, Nat.le_refl _⟩
  · refine ⟨z, DR', DI', DL', DA', e, LX_s hL hF hB hV (hK.2.2 0 (by omega)) hs, hK.1, hK.2.1, ?_, Or.inr ⟨w, hz⟩⟩
    rw [if_pos w, if_pos w]
    have hN := Wok_N l4.1
    obtain ⟨vW, vV, vZ, vF, vA, vT, vS, vg, f6, f7, f8⟩ := id l4
    have hr := t_room ⟨vA.1, vA.2.1⟩ hN
    have hs2 := s_room (gw_len vg.2 vA.2.1 hN) hr.2.2.2.2.2.1
    have e41 : DL' 4 1 = DL 4 1 := by rw [eL]; rfl
    have e50 : DL' 5 0 = DL 5 0 := by rw [eL]; rfl
    have p1 := ph3_r ⟨vA.1, vA.2.1⟩
    have p2 := ph3_r ⟨vT.1, vT.2.1⟩
    have p3 := ph3_r ⟨vS.1, vS.2.1⟩
    have p4 := ph3_r ⟨vg.2.1, Int.le_trans vg.2.2.1 vA.2.1⟩
    have g5 := l6.2.2.2.1
    have s3 := vg.2.1
    unfold pC pS
    rw [e31, e41, e50, e05]
    unfold jN at *
    omega
set_option maxHeartbeats 1000000 in
theorem w5_sparing (l : Launch) (g : GX) (base : Nat) (sa : Nat → Nat) (h0 : Hp) (ox om : Nat) (R : Nat → Nat) (DR : Nat → Nat → Nat) (DI DL : Nat → Nat → Int) (DA : Nat → Nat → Int → Int) (Rg : Nat → Nat) (Ig Lg : Nat → Int) (Ag : Nat → Int → Int) (Ro : Nat → Nat) (I : Nat → Int) (A : Nat → Int → Int) (i v k : Int) (hL : LX g h0 ox om R DR DI DL DA Rg Ig Lg Ag Ro I A) (hi9 : i32 i) (hv9 : i32 v) (hk9 : i32 k) : MC l g base sa yX5_sparing wsX5_sparing ({ frames := 5, cells := (if (((i = -1 ∨ (0 ≤ i ∧ i < DI 1 0)) ∧ 0 ≤ v ∧ v ≤ 10) ∧ 0 ≤ k ∧ k ≤ 1) then tCel (DL 3 1) (jN DI DA) + (sCel (DL 5 0) (tLen (DL 3 1) (jN DI DA)) + tCel (DL 4 1) (jN DI DA)) else 0), slots := (if (((i = -1 ∨ (0 ≤ i ∧ i < DI 1 0)) ∧ 0 ≤ v ∧ v ≤ 10) ∧ 0 ≤ k ∧ k ≤ 1) then tSlo (DL 3 1) (jN DI DA) + (sSlo (DL 5 0) (tLen (DL 3 1) (jN DI DA)) + tSlo (DL 4 1) (jN DI DA)) else 0), locals := 123 }) ([.ref ox, .int (J i), .int (J v), .int (J k)]) h0 (fun r h' => ∃ z DR' DI' DL' DA', r = some (.int (J z)) ∧ LX g h' ox om R DR' DI' DL' DA' Rg Ig Lg Ag Ro I A ∧ DI' 1 = DI 1 ∧ DA' 1 = DA 1 ∧ (pC DL Lg + ((if (((i = -1 ∨ (0 ≤ i ∧ i < DI 1 0)) ∧ 0 ≤ v ∧ v ≤ 10) ∧ 0 ≤ k ∧ k ≤ 1) then tCel (DL 3 1) (jN DI DA) + (sCel (DL 5 0) (tLen (DL 3 1) (jN DI DA)) + tCel (DL 4 1) (jN DI DA)) else 0)) ≤ pC DL' Lg ∧ pS DL Lg + ((if (((i = -1 ∨ (0 ≤ i ∧ i < DI 1 0)) ∧ 0 ≤ v ∧ v ≤ 10) ∧ 0 ≤ k ∧ k ≤ 1) then tSlo (DL 3 1) (jN DI DA) + (sSlo (DL 5 0) (tLen (DL 3 1) (jN DI DA)) + tSlo (DL 4 1) (jN DI DA)) else 0)) ≤ pS DL' Lg) ∧ ((¬ (((i = -1 ∨ (0 ≤ i ∧ i < DI 1 0)) ∧ 0 ≤ v ∧ v ≤ 10) ∧ 0 ≤ k ∧ k ≤ 1) ∧ z = -2) ∨ ((((i = -1 ∨ (0 ≤ i ∧ i < DI 1 0)) ∧ 0 ≤ v ∧ v ≤ 10) ∧ 0 ≤ k ∧ k ≤ 1) ∧ AnS (DI 1 0) (DI 1 2) (DI 1 3) (DA 1 4) (DA 1 5) i v k z))) := by
  obtain ⟨l1, l2, l3, l4, l5, l6, l7, l8, l9, l10, l11, l12⟩ := id hL
  refine MC.imp (x_sparing l g base sa h0 ox R i0 i0 a0 DR DI DL DA (if (((i = -1 ∨ (0 ≤ i ∧ i < DI 1 0)) ∧ 0 ≤ v ∧ v ≤ 10) ∧ 0 ≤ k ∧ k ≤ 1) then tCel (DL 3 1) (jN DI DA) + (sCel (DL 5 0) (tLen (DL 3 1) (jN DI DA)) + tCel (DL 4 1) (jN DI DA)) else 0) (if (((i = -1 ∨ (0 ≤ i ∧ i < DI 1 0)) ∧ 0 ≤ v ∧ v ≤ 10) ∧ 0 ≤ k ∧ k ≤ 1) then tSlo (DL 3 1) (jN DI DA) + (sSlo (DL 5 0) (tLen (DL 3 1) (jN DI DA)) + tSlo (DL 4 1) (jN DI DA)) else 0) i v k l1 l3 l4 l2 l9 (fun w => by rw [if_pos w, if_pos w]; exact ⟨Nat.le_refl _, Nat.le_refl _⟩) hi9 hv9 hk9) (fun r h9 hp => ?_)
  obtain ⟨hF, hp⟩ := hp
  rcases hp with ⟨w, e, e2⟩ | ⟨w, z, DR', DI', DL', DA', e, hz, hB, hV, hK, hs, eL, e31, e41, e50⟩
  · subst e2
    refine ⟨-2, DR, DI, DL, DA, e, hL, rfl, rfl, ?_, Or.inl ⟨w, rfl⟩⟩
    rw [if_neg w, if_neg w]
    exact ⟨Nat.le_refl _, Nat.le_refl _⟩
  · refine ⟨z, DR', DI', DL', DA', e, LX_s hL hF hB hV (hK.2.2 0 (by omega)) hs, hK.1, hK.2.1, ?_, Or.inr ⟨w, hz⟩⟩
    rw [if_pos w, if_pos w]
    have hN := Wok_N l4.1
    obtain ⟨vW, vV, vZ, vF, vA, vT, vS, vg, f6, f7, f8⟩ := id l4
    have hr := t_room ⟨vA.1, vA.2.1⟩ hN
    have ht := t_room ⟨vT.1, vT.2.1⟩ hN
    have hs2 := s_room (gw_len vg.1 vA.2.1 hN) hr.2.2.2.2.2.1
    have e05 : DL' 0 5 = DL 0 5 := by rw [eL]; rfl
    have p1 := ph3_r ⟨vA.1, vA.2.1⟩
    have p2 := ph3_r ⟨vT.1, vT.2.1⟩
    have p3 := ph3_r ⟨vS.1, vS.2.1⟩
    have p4 := ph3_r ⟨vg.2.1, Int.le_trans vg.2.2.1 vA.2.1⟩
    have g5 := l6.2.2.2.1
    have s3 := vg.2.1
    unfold pC pS
    rw [e31, e41, e50, e05]
    unfold jN at *
    omega
set_option maxHeartbeats 1000000 in
theorem w5_spare (l : Launch) (g : GX) (base : Nat) (sa : Nat → Nat) (h0 : Hp) (ox om : Nat) (R : Nat → Nat) (DR : Nat → Nat → Nat) (DI DL : Nat → Nat → Int) (DA : Nat → Nat → Int → Int) (Rg : Nat → Nat) (Ig Lg : Nat → Int) (Ag : Nat → Int → Int) (Ro : Nat → Nat) (I : Nat → Int) (A : Nat → Int → Int) (i v k : Int) (hL : LX g h0 ox om R DR DI DL DA Rg Ig Lg Ag Ro I A) (hi9 : i32 i) (hv9 : i32 v) (hk9 : i32 k) : MC l g base sa yX5_spare wsX5_spare ({ frames := 5, cells := (if (((i = -1 ∨ (0 ≤ i ∧ i < DI 1 0)) ∧ 0 ≤ v ∧ v ≤ 10) ∧ 0 ≤ k) then tCel (DL 3 1) (jN DI DA) + (sCel (DL 5 0) (tLen (DL 3 1) (jN DI DA)) + tCel (DL 4 1) (jN DI DA)) else 0), slots := (if (((i = -1 ∨ (0 ≤ i ∧ i < DI 1 0)) ∧ 0 ≤ v ∧ v ≤ 10) ∧ 0 ≤ k) then tSlo (DL 3 1) (jN DI DA) + (sSlo (DL 5 0) (tLen (DL 3 1) (jN DI DA)) + tSlo (DL 4 1) (jN DI DA)) else 0), locals := 123 }) ([.ref ox, .int (J i), .int (J v), .int (J k)]) h0 (fun r h' => ∃ z DR' DI' DL' DA', r = some (.int (J z)) ∧ LX g h' ox om R DR' DI' DL' DA' Rg Ig Lg Ag Ro I A ∧ DI' 1 = DI 1 ∧ DA' 1 = DA 1 ∧ (pC DL Lg + ((if (((i = -1 ∨ (0 ≤ i ∧ i < DI 1 0)) ∧ 0 ≤ v ∧ v ≤ 10) ∧ 0 ≤ k) then tCel (DL 3 1) (jN DI DA) + (sCel (DL 5 0) (tLen (DL 3 1) (jN DI DA)) + tCel (DL 4 1) (jN DI DA)) else 0)) ≤ pC DL' Lg ∧ pS DL Lg + ((if (((i = -1 ∨ (0 ≤ i ∧ i < DI 1 0)) ∧ 0 ≤ v ∧ v ≤ 10) ∧ 0 ≤ k) then tSlo (DL 3 1) (jN DI DA) + (sSlo (DL 5 0) (tLen (DL 3 1) (jN DI DA)) + tSlo (DL 4 1) (jN DI DA)) else 0)) ≤ pS DL' Lg) ∧ ((¬ (((i = -1 ∨ (0 ≤ i ∧ i < DI 1 0)) ∧ 0 ≤ v ∧ v ≤ 10) ∧ 0 ≤ k) ∧ z = -2) ∨ ((((i = -1 ∨ (0 ≤ i ∧ i < DI 1 0)) ∧ 0 ≤ v ∧ v ≤ 10) ∧ 0 ≤ k) ∧ AnP (DI 1 0) (DI 1 2) (DI 1 3) (DA 1 4) (DA 1 5) i v k z))) := by
  obtain ⟨l1, l2, l3, l4, l5, l6, l7, l8, l9, l10, l11, l12⟩ := id hL
  refine MC.imp (x_spare l g base sa h0 ox R i0 i0 a0 DR DI DL DA (if (((i = -1 ∨ (0 ≤ i ∧ i < DI 1 0)) ∧ 0 ≤ v ∧ v ≤ 10) ∧ 0 ≤ k) then tCel (DL 3 1) (jN DI DA) + (sCel (DL 5 0) (tLen (DL 3 1) (jN DI DA)) + tCel (DL 4 1) (jN DI DA)) else 0) (if (((i = -1 ∨ (0 ≤ i ∧ i < DI 1 0)) ∧ 0 ≤ v ∧ v ≤ 10) ∧ 0 ≤ k) then tSlo (DL 3 1) (jN DI DA) + (sSlo (DL 5 0) (tLen (DL 3 1) (jN DI DA)) + tSlo (DL 4 1) (jN DI DA)) else 0) i v k l1 l3 l4 l2 l9 (fun w => by rw [if_pos w, if_pos w]; exact ⟨Nat.le_refl _, Nat.le_refl _⟩) hi9 hv9 hk9) (fun r h9 hp => ?_)
  obtain ⟨hF, hp⟩ := hp
  rcases hp with ⟨w, e, e2⟩ | ⟨w, z, DR', DI', DL', DA', e, hz, hB, hV, hK, hs, eL, e31, e41, e50⟩
  · subst e2
    refine ⟨-2, DR, DI, DL, DA, e, hL, rfl, rfl, ?_, Or.inl ⟨w, rfl⟩⟩
    rw [if_neg w, if_neg w]
    exact ⟨Nat.le_refl _, Nat.le_refl _⟩
  · refine ⟨z, DR', DI', DL', DA', e, LX_s hL hF hB hV (hK.2.2 0 (by omega)) hs, hK.1, hK.2.1, ?_, Or.inr ⟨w, hz⟩⟩
    rw [if_pos w, if_pos w]
    have hN := Wok_N l4.1
    obtain ⟨vW, vV, vZ, vF, vA, vT, vS, vg, f6, f7, f8⟩ := id l4
    have hr := t_room ⟨vA.1, vA.2.1⟩ hN
    have ht := t_room ⟨vT.1, vT.2.1⟩ hN
    have hs2 := s_room (gw_len vg.1 vA.2.1 hN) hr.2.2.2.2.2.1
    have e05 : DL' 0 5 = DL 0 5 := by rw [eL]; rfl
    have p1 := ph3_r ⟨vA.1, vA.2.1⟩
    have p2 := ph3_r ⟨vT.1, vT.2.1⟩
    have p3 := ph3_r ⟨vS.1, vS.2.1⟩
    have p4 := ph3_r ⟨vg.2.1, Int.le_trans vg.2.2.1 vA.2.1⟩
    have g5 := l6.2.2.2.1
    have s3 := vg.2.1
    unfold pC pS
    rw [e31, e41, e50, e05]
    unfold jN at *
    omega
set_option maxHeartbeats 1000000 in
theorem w5_jug (l : Launch) (g : GX) (base : Nat) (sa : Nat → Nat) (h0 : Hp) (ox om : Nat) (R : Nat → Nat) (DR : Nat → Nat → Nat) (DI DL : Nat → Nat → Int) (DA : Nat → Nat → Int → Int) (Rg : Nat → Nat) (Ig Lg : Nat → Int) (Ag : Nat → Int → Int) (Ro : Nat → Nat) (I : Nat → Int) (A : Nat → Int → Int) (a b : Int) (hL : LX g h0 ox om R DR DI DL DA Rg Ig Lg Ag Ro I A) (ha9 : i32 a) (hb9 : i32 b) : MC l g base sa yX5_jug wsX5_jug ({ frames := 1, cells := 0, slots := 0, locals := 22 }) ([.ref ox, .int (J a), .int (J b)]) h0 (fun r h' => ∃ z DI' DA', r = some (.int (J z)) ∧ LX g h' ox om R DR DI' DL DA' Rg Ig Lg Ag Ro I A ∧ ((¬ (1 ≤ a ∧ a ≤ 10 ∧ 0 ≤ b ∧ b ≤ a) ∧ z = -2 ∧ DI' = DI ∧ DA' = DA) ∨ ((1 ≤ a ∧ a ≤ 10 ∧ 0 ≤ b ∧ b ≤ a) ∧ DI 1 0 = 4 ∧ z = -4 ∧ DI' = DI ∧ DA' = DA) ∨ ((1 ≤ a ∧ a ≤ 10 ∧ 0 ≤ b ∧ b ≤ a) ∧ DI 1 0 < 4 ∧ z = DI 1 0 ∧ DI' 1 0 = DI 1 0 + 1 ∧ DI' 1 2 = DI 1 2 ∧ DI' 1 3 = DI 1 3 ∧ DA' 1 4 = uf (DA 1 4) (DI 1 0) a ∧ DA' 1 5 = uf (DA 1 5) (DI 1 0) b))) := by
  obtain ⟨l1, l2, l3, l4, l5, l6, l7, l8, l9, l10, l11, l12⟩ := id hL
  refine MC.imp (x_jug l g base sa h0 ox R i0 i0 a0 DR DI DL DA a b l1 l3 l4 l2 l9 ha9 hb9) (fun r h9 hp => ?_)
  obtain ⟨hF, hp⟩ := hp
  rcases hp with ⟨w, e, e2⟩ | ⟨w, w2, e, e2⟩ | ⟨w, w2, e, DI', DA', hB, hV, f1, f2, f3, f4, f5⟩
  · subst e2; exact ⟨-2, DI, DA, e, hL, Or.inl ⟨w, rfl, rfl, rfl⟩⟩
  · subst e2; exact ⟨-4, DI, DA, e, hL, Or.inr (Or.inl ⟨w, w2, rfl, rfl, rfl⟩)⟩
  · exact ⟨_, DI', DA', e, LX_s hL hF hB hV rfl (fun q w => Or.inl w), Or.inr (Or.inr ⟨w, w2, rfl, f1, f2, f3, f4, f5⟩)⟩
set_option maxHeartbeats 1000000 in
theorem w5_set (l : Launch) (g : GX) (base : Nat) (sa : Nat → Nat) (h0 : Hp) (ox om : Nat) (R : Nat → Nat) (DR : Nat → Nat → Nat) (DI DL : Nat → Nat → Int) (DA : Nat → Nat → Int → Int) (Rg : Nat → Nat) (Ig Lg : Nat → Int) (Ag : Nat → Int → Int) (Ro : Nat → Nat) (I : Nat → Int) (A : Nat → Int → Int) (a b : Int) (hL : LX g h0 ox om R DR DI DL DA Rg Ig Lg Ag Ro I A) (ha9 : i32 a) (hb9 : b = 0 ∨ b = 1) : MC l g base sa yX5_set wsX5_set ({ frames := 1, cells := 0, slots := 0, locals := 20 }) ([.ref ox, .int (J a), .int (J b)]) h0 (fun r h' => ∃ z DI' DA', r = some (.int (J z)) ∧ LX g h' ox om R DR DI' DL DA' Rg Ig Lg Ag Ro I A ∧ ((¬ (a = 0 ∨ a = 1) ∧ z = -2 ∧ DI' = DI ∧ DA' = DA) ∨ (a = 0 ∧ z = DI 1 2 ∧ DI' 1 = va_up (DI 1) 2 b ∧ DA' 1 = DA 1) ∨ (a = 1 ∧ z = DI 1 3 ∧ DI' 1 = va_up (DI 1) 3 b ∧ DA' 1 = DA 1))) := by
  obtain ⟨l1, l2, l3, l4, l5, l6, l7, l8, l9, l10, l11, l12⟩ := id hL
  refine MC.imp (x_set l g base sa h0 ox R i0 i0 a0 DR DI DL DA a b l1 l3 l4 l2 l9 ha9 hb9) (fun r h9 hp => ?_)
  obtain ⟨hF, hp⟩ := hp
  rcases hp with ⟨w, e, e2⟩ | ⟨w, e, DI', DA', hB, hV, f1, f2⟩ | ⟨w, e, DI', DA', hB, hV, f1, f2⟩
  · subst e2; exact ⟨-2, DI, DA, e, hL, Or.inl ⟨w, rfl, rfl, rfl⟩⟩
  · exact ⟨_, DI', DA', e, LX_s hL hF hB hV rfl (fun q w => Or.inl w), Or.inr (Or.inl ⟨w, rfl, f1, f2⟩)⟩
  · exact ⟨_, DI', DA', e, LX_s hL hF hB hV rfl (fun q w => Or.inl w), Or.inr (Or.inr ⟨w, rfl, f1, f2⟩)⟩
set_option maxHeartbeats 1000000 in
theorem w5_put (l : Launch) (g : GX) (base : Nat) (sa : Nat → Nat) (h0 : Hp) (ox om : Nat) (R : Nat → Nat) (DR : Nat → Nat → Nat) (DI DL : Nat → Nat → Int) (DA : Nat → Nat → Int → Int) (Rg : Nat → Nat) (Ig Lg : Nat → Int) (Ag : Nat → Int → Int) (Ro : Nat → Nat) (I : Nat → Int) (A : Nat → Int → Int) (a b : Int) (hL : LX g h0 ox om R DR DI DL DA Rg Ig Lg Ag Ro I A) (ha9 : i32 a) (hb9 : i32 b) : MC l g base sa yX5_put wsX5_put ({ frames := 1, cells := 0, slots := 0, locals := 21 }) ([.ref ox, .int (J a), .int (J b)]) h0 (fun r h' => ∃ z DI' DA', r = some (.int (J z)) ∧ LX g h' ox om R DR DI' DL DA' Rg Ig Lg Ag Ro I A ∧ ((¬ (0 ≤ a ∧ a < DI 1 0 ∧ 0 ≤ b ∧ b ≤ DA 1 4 a) ∧ z = -2 ∧ DI' = DI ∧ DA' = DA) ∨ ((0 ≤ a ∧ a < DI 1 0 ∧ 0 ≤ b ∧ b ≤ DA 1 4 a) ∧ z = DA 1 5 a ∧ DI' 1 = DI 1 ∧ DA' 1 4 = DA 1 4 ∧ DA' 1 5 = uf (DA 1 5) a b))) := by
  obtain ⟨l1, l2, l3, l4, l5, l6, l7, l8, l9, l10, l11, l12⟩ := id hL
  refine MC.imp (x_put l g base sa h0 ox R i0 i0 a0 DR DI DL DA a b l1 l3 l4 l2 l9 ha9 hb9) (fun r h9 hp => ?_)
  obtain ⟨hF, hp⟩ := hp
  rcases hp with ⟨w, e, e2⟩ | ⟨w, e, DI', DA', hB, hV, f1, f2, f3⟩
  · subst e2; exact ⟨-2, DI, DA, e, hL, Or.inl ⟨w, rfl, rfl, rfl⟩⟩
  · exact ⟨_, DI', DA', e, LX_s hL hF hB hV rfl (fun q w => Or.inl w), Or.inr ⟨w, rfl, f1, f2, f3⟩⟩
set_option maxHeartbeats 1000000 in
theorem w5_act (l : Launch) (g : GX) (base : Nat) (sa : Nat → Nat) (h0 : Hp) (ox om : Nat) (R : Nat → Nat) (DR : Nat → Nat → Nat) (DI DL : Nat → Nat → Int) (DA : Nat → Nat → Int → Int) (Rg : Nat → Nat) (Ig Lg : Nat → Int) (Ag : Nat → Int → Int) (Ro : Nat → Nat) (I : Nat → Int) (A : Nat → Int → Int) (a : Int) (hL : LX g h0 ox om R DR DI DL DA Rg Ig Lg Ag Ro I A) (ha9 : i32 a) : MC l g base sa yX5_act wsX5_act ({ frames := 2, cells := 0, slots := 0, locals := 43 }) ([.ref ox, .int (J a)]) h0 (fun r h' => ∃ z DI' DA', r = some (.int (J z)) ∧ LX g h' ox om R DR DI' DL DA' Rg Ig Lg Ag Ro I A ∧ ((¬ (0 ≤ a ∧ a < 24 ∧ p_act (DI 1 0) a) ∧ z = -2 ∧ DI' = DI ∧ DA' = DA) ∨ ((0 ≤ a ∧ a < 24 ∧ p_act (DI 1 0) a) ∧ p_mv (DI 1 0) (DI 1 2) (DI 1 3) (DA 1 4) (DA 1 5) a = 0 ∧ z = -3 ∧ DI' = DI ∧ DA' = DA) ∨ ((0 ≤ a ∧ a < 24 ∧ p_act (DI 1 0) a) ∧ 0 < p_mv (DI 1 0) (DI 1 2) (DI 1 3) (DA 1 4) (DA 1 5) a ∧ z = p_mv (DI 1 0) (DI 1 2) (DI 1 3) (DA 1 4) (DA 1 5) a ∧ DI' 1 = DI 1 ∧ DA' 1 4 = DA 1 4 ∧ DA' 1 5 = p_move (DA 1 5) a (p_mv (DI 1 0) (DI 1 2) (DI 1 3) (DA 1 4) (DA 1 5) a)))) := by
  obtain ⟨l1, l2, l3, l4, l5, l6, l7, l8, l9, l10, l11, l12⟩ := id hL
  refine MC.imp (x_act l g base sa h0 ox R i0 i0 a0 DR DI DL DA a l1 l3 l4 l2 l9 ha9) (fun r h9 hp => ?_)
  obtain ⟨hF, hp⟩ := hp
  rcases hp with ⟨w, e, e2⟩ | ⟨w, w2, e, e2⟩ | ⟨w, w2, e, DI', DA', hB, hV, f1, f2, f3⟩
  · subst e2; exact ⟨-2, DI, DA, e, hL, Or.inl ⟨w, rfl, rfl, rfl⟩⟩
  · subst e2; exact ⟨-3, DI, DA, e, hL, Or.inr (Or.inl ⟨w, w2, rfl, rfl, rfl⟩)⟩
  · exact ⟨_, DI', DA', e, LX_s hL hF hB hV rfl (fun q w => Or.inl w), Or.inr (Or.inr ⟨w, w2, rfl, f1, f2, f3⟩)⟩
set_option maxHeartbeats 1000000 in
theorem w5_clear (l : Launch) (g : GX) (base : Nat) (sa : Nat → Nat) (h0 : Hp) (ox om : Nat) (R : Nat → Nat) (DR : Nat → Nat → Nat) (DI DL : Nat → Nat → Int) (DA : Nat → Nat → Int → Int) (Rg : Nat → Nat) (Ig Lg : Nat → Int) (Ag : Nat → Int → Int) (Ro : Nat → Nat) (I : Nat → Int) (A : Nat → Int → Int)  (hL : LX g h0 ox om R DR DI DL DA Rg Ig Lg Ag Ro I A)  : MC l g base sa yX5_clear wsX5_clear ({ frames := 1, cells := 0, slots := 0, locals := 21 }) ([.ref ox]) h0 (fun r h' => ∃ z DI' DA', r = some (.int (J z)) ∧ LX g h' ox om R DR DI' DL DA' Rg Ig Lg Ag Ro I A ∧ (z = DI 1 0 ∧ DI' 1 0 = 0 ∧ DI' 1 2 = DI 1 2 ∧ DI' 1 3 = DI 1 3 ∧ DA' 1 4 = DA 1 4 ∧ DA' 1 5 = DA 1 5)) := by
  obtain ⟨l1, l2, l3, l4, l5, l6, l7, l8, l9, l10, l11, l12⟩ := id hL
  refine MC.imp (x_clear l g base sa h0 ox R i0 i0 a0 DR DI DL DA  l1 l3 l4 l2 l9 ) (fun r h9 hp => ?_)
  obtain ⟨hF, e, DI', DA', hB, hV, f1, f2, f3, f4, f5⟩ := hp
  exact ⟨_, DI', DA', e, LX_s hL hF hB hV rfl (fun q w => Or.inl w), rfl, f1, f2, f3, f4, f5⟩
set_option maxHeartbeats 1000000 in
theorem w5_glass (l : Launch) (g : GX) (base : Nat) (sa : Nat → Nat) (h0 : Hp) (ox om : Nat) (R : Nat → Nat) (DR : Nat → Nat → Nat) (DI DL : Nat → Nat → Int) (DA : Nat → Nat → Int → Int) (Rg : Nat → Nat) (Ig Lg : Nat → Int) (Ag : Nat → Int → Int) (Ro : Nat → Nat) (I : Nat → Int) (A : Nat → Int → Int) (a : Int) (hL : LX g h0 ox om R DR DI DL DA Rg Ig Lg Ag Ro I A) (ha9 : i32 a) : MC l g base sa yX5_glass wsX5_glass ({ frames := 1, cells := 0, slots := 0, locals := 21 }) ([.ref ox, .int (J a)]) h0 (fun r h' => ∃ z Ig' Ag', r = some (.int (J z)) ∧ LX g h' ox om R DR DI DL DA Rg Ig' Lg Ag' Ro I A ∧ ((¬ (1 ≤ a ∧ a ≤ 12) ∧ z = -2 ∧ Ig' = Ig ∧ Ag' = Ag) ∨ ((1 ≤ a ∧ a ≤ 12) ∧ Ig 0 = 3 ∧ z = -4 ∧ Ig' = Ig ∧ Ag' = Ag) ∨ ((1 ≤ a ∧ a ≤ 12) ∧ Ig 0 < 3 ∧ z = Ig 0 ∧ Ig' 0 = Ig 0 + 1 ∧ Ag' 1 = uf (Ag 1) (Ig 0) a))) := by
  obtain ⟨l1, l2, l3, l4, l5, l6, l7, l8, l9, l10, l11, l12⟩ := id hL
  refine MC.imp (x_glass l g base sa h0 ox R i0 i0 a0 Rg Ig Lg Ag a l1 l5 l6 l10 ha9) (fun r h9 hp => ?_)
  obtain ⟨hF, hp⟩ := hp
  rcases hp with ⟨w, e, e2⟩ | ⟨w, w2, e, e2⟩ | ⟨w, w2, e, Ig', Ag', hB, hV, f1, f2⟩
  · subst e2; exact ⟨-2, Ig, Ag, e, hL, Or.inl ⟨w, rfl, rfl, rfl⟩⟩
  · subst e2; exact ⟨-4, Ig, Ag, e, hL, Or.inr (Or.inl ⟨w, w2, rfl, rfl, rfl⟩)⟩
  · exact ⟨_, Ig', Ag', e, LX_g hL hF hB hV (fun q w => Or.inl w), Or.inr (Or.inr ⟨w, w2, rfl, f1, f2⟩)⟩
set_option maxHeartbeats 1000000 in
theorem w5_smash (l : Launch) (g : GX) (base : Nat) (sa : Nat → Nat) (h0 : Hp) (ox om : Nat) (R : Nat → Nat) (DR : Nat → Nat → Nat) (DI DL : Nat → Nat → Int) (DA : Nat → Nat → Int → Int) (Rg : Nat → Nat) (Ig Lg : Nat → Int) (Ag : Nat → Int → Int) (Ro : Nat → Nat) (I : Nat → Int) (A : Nat → Int → Int)  (hL : LX g h0 ox om R DR DI DL DA Rg Ig Lg Ag Ro I A)  : MC l g base sa yX5_smash wsX5_smash ({ frames := 1, cells := 0, slots := 0, locals := 21 }) ([.ref ox]) h0 (fun r h' => ∃ z Ig' Ag', r = some (.int (J z)) ∧ LX g h' ox om R DR DI DL DA Rg Ig' Lg Ag' Ro I A ∧ (z = Ig 0 ∧ Ig' 0 = 0 ∧ Ag' 1 = Ag 1)) := by
  obtain ⟨l1, l2, l3, l4, l5, l6, l7, l8, l9, l10, l11, l12⟩ := id hL
  refine MC.imp (x_smash l g base sa h0 ox R i0 i0 a0 Rg Ig Lg Ag l1 l5 l6 l10) (fun r h9 hp => ?_)
  obtain ⟨hF, e, Ig', Ag', hB, hV, f1, f2⟩ := hp
  exact ⟨_, Ig', Ag', e, LX_g hL hF hB hV (fun q w => Or.inl w), rfl, f1, f2⟩
set_option maxHeartbeats 1000000 in
theorem w5_await (l : Launch) (g : GX) (base : Nat) (sa : Nat → Nat) (h0 : Hp) (ox om : Nat) (R : Nat → Nat) (DR : Nat → Nat → Nat) (DI DL : Nat → Nat → Int) (DA : Nat → Nat → Int → Int) (Rg : Nat → Nat) (Ig Lg : Nat → Int) (Ag : Nat → Int → Int) (Ro : Nat → Nat) (I : Nat → Int) (A : Nat → Int → Int) (a : Int) (hL : LX g h0 ox om R DR DI DL DA Rg Ig Lg Ag Ro I A) (ha9 : i32 a) : MC l g base sa yX5_await wsX5_await ({ frames := 5, cells := (if (1 ≤ a ∧ a ≤ 40) ∧ Lg 5 < k_states (Ig 0) then 19 else 0), slots := (if (1 ≤ a ∧ a ≤ 40) ∧ Lg 5 < k_states (Ig 0) then 25 * (k_states (Ig 0)).toNat + 13 else 0), locals := 151 }) ([.ref ox, .int (J a)]) h0 (fun r h' => ∃ z Rg' Ig' Lg' Ag', r = some (.int (J z)) ∧ LX g h' ox om R DR DI DL DA Rg' Ig' Lg' Ag' Ro I A ∧ Ig' 0 = Ig 0 ∧ Ag' 1 = Ag 1 ∧ (pC DL Lg + (if (1 ≤ a ∧ a ≤ 40) ∧ Lg 5 < k_states (Ig 0) then 19 else 0) ≤ pC DL Lg' ∧ pS DL Lg + (if (1 ≤ a ∧ a ≤ 40) ∧ Lg 5 < k_states (Ig 0) then 25 * (k_states (Ig 0)).toNat + 13 else 0) ≤ pS DL Lg') ∧ ((¬ (1 ≤ a ∧ a ≤ 40) ∧ z = -2) ∨ ((1 ≤ a ∧ a ≤ 40) ∧ ∃ t, WT (lp (Ig 0) (Ag 1)) (2 ^ (Ig 0).toNat) a z t))) := by
  obtain ⟨l1, l2, l3, l4, l5, l6, l7, l8, l9, l10, l11, l12⟩ := id hL
  have g5 := l6.2.2.2.1
  have hsk := l6.1
  have hgr := g_room (Lg := Lg) hsk.1 hsk.2.1 g5
  obtain ⟨vW, vV, vZ, vF, vA, vT, vS, vg, f6, f7, f8⟩ := id l4
  have p1 := ph3_r ⟨vA.1, vA.2.1⟩
  have p2 := ph3_r ⟨vT.1, vT.2.1⟩
  have p3 := ph3_r ⟨vS.1, vS.2.1⟩
  have p4 := ph3_r ⟨vg.2.1, Int.le_trans vg.2.2.1 vA.2.1⟩
  have s3 := vg.2.1
  refine MC.imp (x_await l g base sa h0 ox R i0 i0 a0 Rg Ig Lg Ag (if (1 ≤ a ∧ a ≤ 40) ∧ Lg 5 < k_states (Ig 0) then 19 else 0) (if (1 ≤ a ∧ a ≤ 40) ∧ Lg 5 < k_states (Ig 0) then 25 * (k_states (Ig 0)).toNat + 13 else 0) a l1 l5 l6 l10 ha9 (fun w w2 => by rw [if_pos ⟨w, w2⟩, if_pos ⟨w, w2⟩]; exact ⟨Nat.le_refl _, Nat.le_refl _⟩)) (fun r h9 hp => ?_)
  obtain ⟨hF, hp⟩ := hp
  rcases hp with ⟨w, e, e2⟩ | ⟨w, w9, t9, Rg', Ig', Lg', Ag', hB, hV, f1, f2, f3, f4, hWT, e⟩
  · subst e2
    refine ⟨-2, Rg, Ig, Lg, Ag, e, hL, rfl, rfl, ?_, Or.inl ⟨w, rfl⟩⟩
    rw [if_neg (fun z => w z.1), if_neg (fun z => w z.1)]
    exact ⟨Nat.le_refl _, Nat.le_refl _⟩
  · refine ⟨w9, Rg', Ig', Lg', Ag', e, LX_g hL hF hB hV f3, f1, f2, ?_, Or.inr ⟨w, ⟨t9, hWT⟩⟩⟩
    unfold pC pS
    by_cases q : Lg 5 < k_states (Ig 0)
    · have h8 := hgr q
      rw [if_pos ⟨w, q⟩, if_pos ⟨w, q⟩]
      rw [f4]
      omega
    · rw [if_neg (fun z => q z.2), if_neg (fun z => q z.2)]
      have : Lg' 5 = Lg 5 := by omega
      rw [this]
      omega
set_option maxHeartbeats 1000000 in
theorem w5_turns (l : Launch) (g : GX) (base : Nat) (sa : Nat → Nat) (h0 : Hp) (ox om : Nat) (R : Nat → Nat) (DR : Nat → Nat → Nat) (DI DL : Nat → Nat → Int) (DA : Nat → Nat → Int → Int) (Rg : Nat → Nat) (Ig Lg : Nat → Int) (Ag : Nat → Int → Int) (Ro : Nat → Nat) (I : Nat → Int) (A : Nat → Int → Int) (a : Int) (hL : LX g h0 ox om R DR DI DL DA Rg Ig Lg Ag Ro I A) (ha9 : i32 a) : MC l g base sa yX5_turns wsX5_turns ({ frames := 5, cells := (if (1 ≤ a ∧ a ≤ 40) ∧ Lg 5 < k_states (Ig 0) then 19 else 0), slots := (if (1 ≤ a ∧ a ≤ 40) ∧ Lg 5 < k_states (Ig 0) then 25 * (k_states (Ig 0)).toNat + 13 else 0), locals := 151 }) ([.ref ox, .int (J a)]) h0 (fun r h' => ∃ z Rg' Ig' Lg' Ag', r = some (.int (J z)) ∧ LX g h' ox om R DR DI DL DA Rg' Ig' Lg' Ag' Ro I A ∧ Ig' 0 = Ig 0 ∧ Ag' 1 = Ag 1 ∧ (pC DL Lg + (if (1 ≤ a ∧ a ≤ 40) ∧ Lg 5 < k_states (Ig 0) then 19 else 0) ≤ pC DL Lg' ∧ pS DL Lg + (if (1 ≤ a ∧ a ≤ 40) ∧ Lg 5 < k_states (Ig 0) then 25 * (k_states (Ig 0)).toNat + 13 else 0) ≤ pS DL Lg') ∧ ((¬ (1 ≤ a ∧ a ≤ 40) ∧ z = -2) ∨ ((1 ≤ a ∧ a ≤ 40) ∧ ∃ w, WT (lp (Ig 0) (Ag 1)) (2 ^ (Ig 0).toNat) a w z))) := by
  obtain ⟨l1, l2, l3, l4, l5, l6, l7, l8, l9, l10, l11, l12⟩ := id hL
  have g5 := l6.2.2.2.1
  have hsk := l6.1
  have hgr := g_room (Lg := Lg) hsk.1 hsk.2.1 g5
  obtain ⟨vW, vV, vZ, vF, vA, vT, vS, vg, f6, f7, f8⟩ := id l4
  have p1 := ph3_r ⟨vA.1, vA.2.1⟩
  have p2 := ph3_r ⟨vT.1, vT.2.1⟩
  have p3 := ph3_r ⟨vS.1, vS.2.1⟩
  have p4 := ph3_r ⟨vg.2.1, Int.le_trans vg.2.2.1 vA.2.1⟩
  have s3 := vg.2.1
  refine MC.imp (x_turns l g base sa h0 ox R i0 i0 a0 Rg Ig Lg Ag (if (1 ≤ a ∧ a ≤ 40) ∧ Lg 5 < k_states (Ig 0) then 19 else 0) (if (1 ≤ a ∧ a ≤ 40) ∧ Lg 5 < k_states (Ig 0) then 25 * (k_states (Ig 0)).toNat + 13 else 0) a l1 l5 l6 l10 ha9 (fun w w2 => by rw [if_pos ⟨w, w2⟩, if_pos ⟨w, w2⟩]; exact ⟨Nat.le_refl _, Nat.le_refl _⟩)) (fun r h9 hp => ?_)
  obtain ⟨hF, hp⟩ := hp
  rcases hp with ⟨w, e, e2⟩ | ⟨w, w9, t9, Rg', Ig', Lg', Ag', hB, hV, f1, f2, f3, f4, hWT, e⟩
  · subst e2
    refine ⟨-2, Rg, Ig, Lg, Ag, e, hL, rfl, rfl, ?_, Or.inl ⟨w, rfl⟩⟩
    rw [if_neg (fun z => w z.1), if_neg (fun z => w z.1)]
    exact ⟨Nat.le_refl _, Nat.le_refl _⟩
  · refine ⟨t9, Rg', Ig', Lg', Ag', e, LX_g hL hF hB hV f3, f1, f2, ?_, Or.inr ⟨w, ⟨w9, hWT⟩⟩⟩
    unfold pC pS
    by_cases q : Lg 5 < k_states (Ig 0)
    · have h8 := hgr q
      rw [if_pos ⟨w, q⟩, if_pos ⟨w, q⟩]
      rw [f4]
      omega
    · rw [if_neg (fun z => q z.2), if_neg (fun z => q z.2)]
      have : Lg' 5 = Lg 5 := by omega
      rw [this]
      omega
set_option maxHeartbeats 1000000 in
theorem w5_spans (l : Launch) (g : GX) (base : Nat) (sa : Nat → Nat) (h0 : Hp) (ox om : Nat) (R : Nat → Nat) (DR : Nat → Nat → Nat) (DI DL : Nat → Nat → Int) (DA : Nat → Nat → Int → Int) (Rg : Nat → Nat) (Ig Lg : Nat → Int) (Ag : Nat → Int → Int) (Ro : Nat → Nat) (I : Nat → Int) (A : Nat → Int → Int) (a : Int) (hL : LX g h0 ox om R DR DI DL DA Rg Ig Lg Ag Ro I A) (ha9 : i32 a) : MC l g base sa yX5_spans wsX5_spans ({ frames := 5, cells := (if (0 ≤ a ∧ a ≤ 60) ∧ Lg 5 < k_states (Ig 0) then 19 else 0), slots := (if (0 ≤ a ∧ a ≤ 60) ∧ Lg 5 < k_states (Ig 0) then 25 * (k_states (Ig 0)).toNat + 13 else 0), locals := 151 }) ([.ref ox, .int (J a)]) h0 (fun r h' => ∃ z Rg' Ig' Lg' Ag', r = some (.long (JL z)) ∧ LX g h' ox om R DR DI DL DA Rg' Ig' Lg' Ag' Ro I A ∧ Ig' 0 = Ig 0 ∧ Ag' 1 = Ag 1 ∧ (pC DL Lg + (if (0 ≤ a ∧ a ≤ 60) ∧ Lg 5 < k_states (Ig 0) then 19 else 0) ≤ pC DL Lg' ∧ pS DL Lg + (if (0 ≤ a ∧ a ≤ 60) ∧ Lg 5 < k_states (Ig 0) then 25 * (k_states (Ig 0)).toNat + 13 else 0) ≤ pS DL Lg') ∧ ((¬ (0 ≤ a ∧ a ≤ 60) ∧ z = -2) ∨ ((0 ≤ a ∧ a ≤ 60) ∧ ∃ f, (∀ j, 1 ≤ j → j ≤ 40 → ∃ t, WT (lp (Ig 0) (Ag 1)) (2 ^ (Ig 0).toNat) j (f j) t) ∧ z = sB f a 40))) := by
  obtain ⟨l1, l2, l3, l4, l5, l6, l7, l8, l9, l10, l11, l12⟩ := id hL
  have g5 := l6.2.2.2.1
  have hsk := l6.1
  have hgr := g_room (Lg := Lg) hsk.1 hsk.2.1 g5
  obtain ⟨vW, vV, vZ, vF, vA, vT, vS, vg, f6, f7, f8⟩ := id l4
  have p1 := ph3_r ⟨vA.1, vA.2.1⟩
  have p2 := ph3_r ⟨vT.1, vT.2.1⟩
  have p3 := ph3_r ⟨vS.1, vS.2.1⟩
  have p4 := ph3_r ⟨vg.2.1, Int.le_trans vg.2.2.1 vA.2.1⟩
  have s3 := vg.2.1
  refine MC.imp (x_spans l g base sa h0 ox R i0 i0 a0 Rg Ig Lg Ag (if (0 ≤ a ∧ a ≤ 60) ∧ Lg 5 < k_states (Ig 0) then 19 else 0) (if (0 ≤ a ∧ a ≤ 60) ∧ Lg 5 < k_states (Ig 0) then 25 * (k_states (Ig 0)).toNat + 13 else 0) a l1 l5 l6 l10 ha9 (fun w w2 => by rw [if_pos ⟨w, w2⟩, if_pos ⟨w, w2⟩]; exact ⟨Nat.le_refl _, Nat.le_refl _⟩)) (fun r h9 hp => ?_)
  obtain ⟨hF, hp⟩ := hp
  rcases hp with ⟨w, e, e2⟩ | ⟨w, f9, Rg', Ig', Lg', Ag', hB, hV, f1, f2, f3, f4, hWT, e⟩
  · subst e2
    refine ⟨-2, Rg, Ig, Lg, Ag, e, hL, rfl, rfl, ?_, Or.inl ⟨w, rfl⟩⟩
    rw [if_neg (fun z => w z.1), if_neg (fun z => w z.1)]
    exact ⟨Nat.le_refl _, Nat.le_refl _⟩
  · refine ⟨_, Rg', Ig', Lg', Ag', e, LX_g hL hF hB hV f3, f1, f2, ?_, Or.inr ⟨w, ⟨f9, hWT, rfl⟩⟩⟩
    unfold pC pS
    by_cases q : Lg 5 < k_states (Ig 0)
    · have h8 := hgr q
      rw [if_pos ⟨w, q⟩, if_pos ⟨w, q⟩]
      rw [f4]
      omega
    · rw [if_neg (fun z => q z.2), if_neg (fun z => q z.2)]
      have : Lg' 5 = Lg 5 := by omega
      rw [this]
      omega
set_option maxHeartbeats 1000000 in
theorem w5_holds (l : Launch) (g : GX) (base : Nat) (sa : Nat → Nat) (h0 : Hp) (ox om : Nat) (R : Nat → Nat) (DR : Nat → Nat → Nat) (DI DL : Nat → Nat → Int) (DA : Nat → Nat → Int → Int) (Rg : Nat → Nat) (Ig Lg : Nat → Int) (Ag : Nat → Int → Int) (Ro : Nat → Nat) (I : Nat → Int) (A : Nat → Int → Int) (a : Int) (hL : LX g h0 ox om R DR DI DL DA Rg Ig Lg Ag Ro I A) (ha9 : i32 a) : MC l g base sa yX5_holds wsX5_holds ({ frames := 1, cells := 0, slots := 0, locals := 21 }) ([.ref ox, .int (J a)]) h0 (fun r h' => ∃ z, r = some (.int (J z)) ∧ LX g h' ox om R DR DI DL DA Rg Ig Lg Ag Ro I A ∧ z = (if 0 ≤ a ∧ a < DI 1 0 then DA 1 5 a else -2)) := by
  obtain ⟨l1, l2, l3, l4, l5, l6, l7, l8, l9, l10, l11, l12⟩ := id hL
  refine MC.imp (x_holds l g base sa h0 ox R i0 i0 a0 DR DI DL DA a l1 l3 l4 l2 l9 ha9) (fun r h9 hp => ?_)
  obtain ⟨e, e2⟩ := hp
  subst e2
  exact ⟨_, e, hL, rfl⟩
set_option maxHeartbeats 1000000 in
theorem w5_road (l : Launch) (g : GX) (base : Nat) (sa : Nat → Nat) (h0 : Hp) (ox om : Nat) (R : Nat → Nat) (DR : Nat → Nat → Nat) (DI DL : Nat → Nat → Int) (DA : Nat → Nat → Int → Int) (Rg : Nat → Nat) (Ig Lg : Nat → Int) (Ag : Nat → Int → Int) (Ro : Nat → Nat) (I : Nat → Int) (A : Nat → Int → Int) (i v : Int) (hL : LX g h0 ox om R DR DI DL DA Rg Ig Lg Ag Ro I A) (hi9 : i32 i) (hv9 : i32 v) : MC l g base sa yX5_road wsX5_road ({ frames := 2, cells := 0, slots := 0, locals := 66 }) ([.ref ox, .int (J i), .int (J v)]) h0 (fun r h' => ∃ z, r = some (.int (J z)) ∧ LX g h' ox om R DR DI DL DA Rg Ig Lg Ag Ro I A ∧ z = (if (0 ≤ i ∧ i < DI 1 0 ∧ 1 ≤ v ∧ v ≤ 10) then (if DI 1 0 = 2 then rdF (DA 1 4 i) (DA 1 4 (1 - i)) v 121 0 0 0 else -3) else -2)) := by
  obtain ⟨l1, l2, l3, l4, l5, l6, l7, l8, l9, l10, l11, l12⟩ := id hL
  refine MC.imp (x_road l g base sa h0 ox R i0 i0 a0 DR DI DL DA i v l1 l3 l4 l2 l9 hi9 hv9) (fun r h9 hp => ?_)
  obtain ⟨e, e2⟩ := hp
  subst e2
  exact ⟨_, e, hL, rfl⟩
set_option maxHeartbeats 1000000 in
theorem w5_sizes (l : Launch) (g : GX) (base : Nat) (sa : Nat → Nat) (h0 : Hp) (ox om : Nat) (R : Nat → Nat) (DR : Nat → Nat → Nat) (DI DL : Nat → Nat → Int) (DA : Nat → Nat → Int → Int) (Rg : Nat → Nat) (Ig Lg : Nat → Int) (Ag : Nat → Int → Int) (Ro : Nat → Nat) (I : Nat → Int) (A : Nat → Int → Int) (k b i : Int) (hL : LX g h0 ox om R DR DI DL DA Rg Ig Lg Ag Ro I A) (hk9 : i32 k) (hb9 : i32 b) (hi9 : i32 i) : MC l g base sa yX5_sizes wsX5_sizes ({ frames := 0, cells := 0, slots := 0, locals := 0 }) ([.ref ox, .int (J k), .int (J b), .int (J i)]) h0 (fun r h' => ∃ z, r = some (.int (J z)) ∧ LX g h' ox om R DR DI DL DA Rg Ig Lg Ag Ro I A ∧ z = (if 1 ≤ k ∧ k ≤ 3 ∧ 1 ≤ b ∧ b ≤ 10 ∧ 0 ≤ i ∧ i < k then (if k = 1 ∧ 1 < b then -1 else if i = k - 1 then b else 1) else -2)) := by
  obtain ⟨l1, l2, l3, l4, l5, l6, l7, l8, l9, l10, l11, l12⟩ := id hL
  refine MC.imp (x_sizes l g base sa h0 ox k b i hk9 hb9 hi9) (fun r h9 hp => ?_)
  obtain ⟨e, e2⟩ := hp
  subst e2
  exact ⟨_, e, hL, rfl⟩
set_option maxHeartbeats 1000000 in
theorem w5_count (l : Launch) (g : GX) (base : Nat) (sa : Nat → Nat) (h0 : Hp) (ox om : Nat) (R : Nat → Nat) (DR : Nat → Nat → Nat) (DI DL : Nat → Nat → Int) (DA : Nat → Nat → Int → Int) (Rg : Nat → Nat) (Ig Lg : Nat → Int) (Ag : Nat → Int → Int) (Ro : Nat → Nat) (I : Nat → Int) (A : Nat → Int → Int) (a : Int) (hL : LX g h0 ox om R DR DI DL DA Rg Ig Lg Ag Ro I A) (ha9 : i32 a) : MC l g base sa yX5_count wsX5_count ({ frames := 2, cells := 0, slots := 0, locals := 47 }) ([.ref ox, .int (J a)]) h0 (fun r h' => ∃ z, r = some (.int (J z)) ∧ LX g h' ox om R DR DI DL DA Rg Ig Lg Ag Ro I A ∧ z = (if a = 0 then DI 1 0 else if a = 1 then Ig 0 else if a = 2 then sT (DA 1 5) (DI 1 0) else if a = 3 then sT (fun b => if 0 < p_mv (DI 1 0) (DI 1 2) (DI 1 3) (DA 1 4) (DA 1 5) b then 1 else 0) 24 else -2)) := by
  obtain ⟨l1, l2, l3, l4, l5, l6, l7, l8, l9, l10, l11, l12⟩ := id hL
  refine MC.imp (x_count l g base sa h0 ox R i0 i0 a0 DR DI DL DA Rg Ig Lg Ag a l1 l3 l4 l2 l9 l5.1 ha9) (fun r h9 hp => ?_)
  obtain ⟨e, e2⟩ := hp
  subst e2
  exact ⟨_, e, hL, rfl⟩
theorem RS.rf (I : Nat → Int) (A : Nat → Int → Int) : RS I I A A := ⟨rfl, rfl, rfl, rfl, rfl, rfl, rfl⟩
theorem Mok_add {I : Nat → Int} {A : Nat → Int → Int} (h : Mok I A) {a b : Int} (hn : I 0 < 4) (ha : 1 ≤ a ∧ a ≤ 10) (hb : 0 ≤ b ∧ b ≤ a) : Mok (va_up I 0 (I 0 + 1)) (va_up (va_up A 1 (uf (A 1) (I 0) a)) 2 (uf (A 2) (I 0) b)) := by
  obtain ⟨h1, h2, h3, h4, h5, h6, h7, h8, h9⟩ := h
  refine ⟨show 0 ≤ I 0 + 1 by omega, show I 0 + 1 ≤ 4 by omega, h3, h4, fun i i0 i1 => ?_, fun i i0 i1 => ?_, h7, h8, h9⟩
  · show 1 ≤ uf (A 1) (I 0) a i ∧ uf (A 1) (I 0) a i ≤ 10
    have i1 : i < I 0 + 1 := i1
    by_cases e : i = I 0
    · rw [e, uf_same]; exact ha
    · rw [uf_ne _ _ e]; exact h5 i i0 (by omega)
  · show 0 ≤ uf (A 2) (I 0) b i ∧ uf (A 2) (I 0) b i ≤ uf (A 1) (I 0) a i
    have i1 : i < I 0 + 1 := i1
    by_cases e : i = I 0
    · rw [e, uf_same, uf_same]; exact hb
    · rw [uf_ne _ _ e, uf_ne _ _ e]; exact h6 i i0 (by omega)
theorem Mok_hd {I : Nat → Int} {A : Nat → Int → Int} (h : Mok I A) {f : Int → Int} (hf : ∀ i, 0 ≤ i → i < I 0 → 0 ≤ f i ∧ f i ≤ A 1 i) : Mok I (va_up A 2 f) := by
  obtain ⟨h1, h2, h3, h4, h5, h6, h7, h8, h9⟩ := h
  exact ⟨h1, h2, h3, h4, h5, hf, h7, h8, h9⟩
theorem Mok_sok {I : Nat → Int} {A : Nat → Int → Int} (h : Mok I A) : Sok (I 5) (A 6) := ⟨h.2.2.2.2.2.2.1, h.2.2.2.2.2.2.2.1, h.2.2.2.2.2.2.2.2⟩
theorem Mok_gl {I : Nat → Int} {A : Nat → Int → Int} (h : Mok I A) {a : Int} (hn : I 5 < 3) (ha : 1 ≤ a ∧ a ≤ 12) : Mok (va_up I 5 (I 5 + 1)) (va_up A 6 (uf (A 6) (I 5) a)) := by
  obtain ⟨h1, h2, h3, h4, h5, h6, h7, h8, h9⟩ := h
  refine ⟨h1, h2, h3, h4, h5, h6, show 0 ≤ I 5 + 1 by omega, show I 5 + 1 ≤ 3 by omega, fun i i0 i1 => ?_⟩
  show 1 ≤ uf (A 6) (I 5) a i ∧ uf (A 6) (I 5) a i ≤ 12
  have i1 : i < I 5 + 1 := i1
  by_cases e : i = I 5
  · rw [e, uf_same]; exact ha
  · rw [uf_ne _ _ e]; exact h9 i i0 (by omega)

set_option maxHeartbeats 1000000 in
theorem w6_fewest (l : Launch) (g : GX) (base : Nat) (sa : Nat → Nat) (h0 : Hp) (ox om : Nat) (R : Nat → Nat) (DR : Nat → Nat → Nat) (DI DL : Nat → Nat → Int) (DA : Nat → Nat → Int → Int) (Rg : Nat → Nat) (Ig Lg : Nat → Int) (Ag : Nat → Int → Int) (Ro : Nat → Nat) (I : Nat → Int) (A : Nat → Int → Int) (i v : Int) (hL : LX g h0 ox om R DR DI DL DA Rg Ig Lg Ag Ro I A) (hi9 : i32 i) (hv9 : i32 v) : MC l g base sa yX6_fewest wsX6_fewest ({ frames := 3, cells := 0, slots := 0, locals := 76 }) ([.ref om, .int (J i), .int (J v)]) h0 (fun r h' => ∃ z I' A', r = some (.int (J z)) ∧ LX g h' ox om R DR DI DL DA Rg Ig Lg Ag Ro I' A' ∧ (RS I I' A A' ∧ ((¬ ((i = -1 ∨ (0 ≤ i ∧ i < I 0)) ∧ 0 ≤ v ∧ v ≤ 10) ∧ z = -2) ∨ (((i = -1 ∨ (0 ≤ i ∧ i < I 0)) ∧ 0 ≤ v ∧ v ≤ 10) ∧ FCO I I' A A' i v 0 ∧ z = (if A' 16 (I' 17) = 1000000000 then -1 else A' 16 (I' 17)))))) := by
  obtain ⟨l1, l2, l3, l4, l5, l6, l7, l8, l9, l10, l11, l12⟩ := id hL
  refine MC.imp (m_fewest l g base sa h0 om Ro I A i v l7 hi9 hv9 l8) (fun r h9 hp => ?_)
  obtain ⟨hF, hp⟩ := hp
  rcases hp with ⟨w, e, hM⟩ | ⟨w, I', A', hM, hC, e⟩
  · exact ⟨-2, I, A, e, LX_m hL hF hM l8, RS.rf I A, Or.inl ⟨w, rfl⟩⟩
  · exact ⟨_, I', A', e, LX_m hL hF hM (hC.1.mok l8), hC.1, Or.inr ⟨w, hC, rfl⟩⟩
set_option maxHeartbeats 1000000 in
theorem w6_rows (l : Launch) (g : GX) (base : Nat) (sa : Nat → Nat) (h0 : Hp) (ox om : Nat) (R : Nat → Nat) (DR : Nat → Nat → Nat) (DI DL : Nat → Nat → Int) (DA : Nat → Nat → Int → Int) (Rg : Nat → Nat) (Ig Lg : Nat → Int) (Ag : Nat → Int → Int) (Ro : Nat → Nat) (I : Nat → Int) (A : Nat → Int → Int) (i v : Int) (hL : LX g h0 ox om R DR DI DL DA Rg Ig Lg Ag Ro I A) (hi9 : i32 i) (hv9 : i32 v) : MC l g base sa yX6_rows wsX6_rows ({ frames := 3, cells := 0, slots := 0, locals := 76 }) ([.ref om, .int (J i), .int (J v)]) h0 (fun r h' => ∃ z I' A', r = some (.long (JL z)) ∧ LX g h' ox om R DR DI DL DA Rg Ig Lg Ag Ro I' A' ∧ (RS I I' A A' ∧ ((¬ ((i = -1 ∨ (0 ≤ i ∧ i < I 0)) ∧ 0 ≤ v ∧ v ≤ 10) ∧ z = -2) ∨ (((i = -1 ∨ (0 ≤ i ∧ i < I 0)) ∧ 0 ≤ v ∧ v ≤ 10) ∧ FCO I I' A A' i v 0 ∧ z = (if A' 16 (I' 17) = 1000000000 then 0 else min mM (ct (nxM (I 0) (I 3) (I 4) (A' 8)) (goM (I 0) (A' 8) i v) (A' 16 (I' 17)).toNat (I' 17))))))) := by
  obtain ⟨l1, l2, l3, l4, l5, l6, l7, l8, l9, l10, l11, l12⟩ := id hL
  refine MC.imp (m_rows l g base sa h0 om Ro I A i v l7 hi9 hv9 l8) (fun r h9 hp => ?_)
  obtain ⟨hF, hp⟩ := hp
  rcases hp with ⟨w, e, hM⟩ | ⟨w, I', A', hM, hC, e⟩
  · exact ⟨-2, I, A, e, LX_m hL hF hM l8, RS.rf I A, Or.inl ⟨w, rfl⟩⟩
  · exact ⟨_, I', A', e, LX_m hL hF hM (hC.1.mok l8), hC.1, Or.inr ⟨w, hC, rfl⟩⟩
set_option maxHeartbeats 1000000 in
theorem w6_best (l : Launch) (g : GX) (base : Nat) (sa : Nat → Nat) (h0 : Hp) (ox om : Nat) (R : Nat → Nat) (DR : Nat → Nat → Nat) (DI DL : Nat → Nat → Int) (DA : Nat → Nat → Int → Int) (Rg : Nat → Nat) (Ig Lg : Nat → Int) (Ag : Nat → Int → Int) (Ro : Nat → Nat) (I : Nat → Int) (A : Nat → Int → Int) (i v k : Int) (hL : LX g h0 ox om R DR DI DL DA Rg Ig Lg Ag Ro I A) (hi9 : i32 i) (hv9 : i32 v) (hk9 : i32 k) : MC l g base sa yX6_best wsX6_best ({ frames := 3, cells := 0, slots := 0, locals := 76 }) ([.ref om, .int (J i), .int (J v), .int (J k)]) h0 (fun r h' => ∃ z I' A', r = some (.int (J z)) ∧ LX g h' ox om R DR DI DL DA Rg Ig Lg Ag Ro I' A' ∧ (RS I I' A A' ∧ ((¬ (((i = -1 ∨ (0 ≤ i ∧ i < I 0)) ∧ 0 ≤ v ∧ v ≤ 10) ∧ 0 ≤ k) ∧ z = -2) ∨ ((((i = -1 ∨ (0 ≤ i ∧ i < I 0)) ∧ 0 ≤ v ∧ v ≤ 10) ∧ 0 ≤ k) ∧ FCO I I' A A' i v 0 ∧ z = (if 14641 ≤ k then -1 else gr (nxM (I 0) (I 3) (I 4) (A' 8)) (spM (I 0) (I 3) (I 4) (A' 8)) 0 (A' 16) k.toNat (I' 17)))))) := by
  obtain ⟨l1, l2, l3, l4, l5, l6, l7, l8, l9, l10, l11, l12⟩ := id hL
  refine MC.imp (m_best l g base sa h0 om Ro I A i v k l7 hi9 hv9 l8 hk9) (fun r h9 hp => ?_)
  obtain ⟨hF, hp⟩ := hp
  rcases hp with ⟨w, e, hM⟩ | ⟨w, I', A', hM, hC, e⟩
  · exact ⟨-2, I, A, e, LX_m hL hF hM l8, RS.rf I A, Or.inl ⟨w, rfl⟩⟩
  · exact ⟨_, I', A', e, LX_m hL hF hM (hC.1.mok l8), hC.1, Or.inr ⟨w, hC, rfl⟩⟩
set_option maxHeartbeats 1000000 in
theorem w6_spare (l : Launch) (g : GX) (base : Nat) (sa : Nat → Nat) (h0 : Hp) (ox om : Nat) (R : Nat → Nat) (DR : Nat → Nat → Nat) (DI DL : Nat → Nat → Int) (DA : Nat → Nat → Int → Int) (Rg : Nat → Nat) (Ig Lg : Nat → Int) (Ag : Nat → Int → Int) (Ro : Nat → Nat) (I : Nat → Int) (A : Nat → Int → Int) (i v k : Int) (hL : LX g h0 ox om R DR DI DL DA Rg Ig Lg Ag Ro I A) (hi9 : i32 i) (hv9 : i32 v) (hk9 : i32 k) : MC l g base sa yX6_spare wsX6_spare ({ frames := 3, cells := 0, slots := 0, locals := 76 }) ([.ref om, .int (J i), .int (J v), .int (J k)]) h0 (fun r h' => ∃ z I' A', r = some (.int (J z)) ∧ LX g h' ox om R DR DI DL DA Rg Ig Lg Ag Ro I' A' ∧ (RS I I' A A' ∧ ((¬ (((i = -1 ∨ (0 ≤ i ∧ i < I 0)) ∧ 0 ≤ v ∧ v ≤ 10) ∧ 0 ≤ k) ∧ z = -2) ∨ ((((i = -1 ∨ (0 ≤ i ∧ i < I 0)) ∧ 0 ≤ v ∧ v ≤ 10) ∧ 0 ≤ k) ∧ FCO I I' A A' i v 20000 ∧ z = (if 14641 ≤ k then -1 else gr (nxM (I 0) (I 3) (I 4) (A' 8)) (spM (I 0) (I 3) (I 4) (A' 8)) 20000 (A' 16) k.toNat (I' 17)))))) := by
  obtain ⟨l1, l2, l3, l4, l5, l6, l7, l8, l9, l10, l11, l12⟩ := id hL
  refine MC.imp (m_spare l g base sa h0 om Ro I A i v k l7 hi9 hv9 l8 hk9) (fun r h9 hp => ?_)
  obtain ⟨hF, hp⟩ := hp
  rcases hp with ⟨w, e, hM⟩ | ⟨w, I', A', hM, hC, e⟩
  · exact ⟨-2, I, A, e, LX_m hL hF hM l8, RS.rf I A, Or.inl ⟨w, rfl⟩⟩
  · exact ⟨_, I', A', e, LX_m hL hF hM (hC.1.mok l8), hC.1, Or.inr ⟨w, hC, rfl⟩⟩
set_option maxHeartbeats 1000000 in
theorem w6_sparing (l : Launch) (g : GX) (base : Nat) (sa : Nat → Nat) (h0 : Hp) (ox om : Nat) (R : Nat → Nat) (DR : Nat → Nat → Nat) (DI DL : Nat → Nat → Int) (DA : Nat → Nat → Int → Int) (Rg : Nat → Nat) (Ig Lg : Nat → Int) (Ag : Nat → Int → Int) (Ro : Nat → Nat) (I : Nat → Int) (A : Nat → Int → Int) (i v k : Int) (hL : LX g h0 ox om R DR DI DL DA Rg Ig Lg Ag Ro I A) (hi9 : i32 i) (hv9 : i32 v) (hk9 : i32 k) : MC l g base sa yX6_sparing wsX6_sparing ({ frames := 3, cells := 0, slots := 0, locals := 76 }) ([.ref om, .int (J i), .int (J v), .int (J k)]) h0 (fun r h' => ∃ z I' A', r = some (.int (J z)) ∧ LX g h' ox om R DR DI DL DA Rg Ig Lg Ag Ro I' A' ∧ (RS I I' A A' ∧ ((¬ (((i = -1 ∨ (0 ≤ i ∧ i < I 0)) ∧ 0 ≤ v ∧ v ≤ 10) ∧ 0 ≤ k ∧ k ≤ 1) ∧ z = -2) ∨ ((((i = -1 ∨ (0 ≤ i ∧ i < I 0)) ∧ 0 ≤ v ∧ v ≤ 10) ∧ 0 ≤ k ∧ k ≤ 1) ∧ FCO I I' A A' i v 20000 ∧ z = (if A' 16 (I' 17) = 1000000000 then -1 else if k = 0 then A' 16 (I' 17) / 20000 else A' 16 (I' 17) % 20000))))) := by
  obtain ⟨l1, l2, l3, l4, l5, l6, l7, l8, l9, l10, l11, l12⟩ := id hL
  refine MC.imp (m_sparing l g base sa h0 om Ro I A i v k l7 hi9 hv9 l8 hk9) (fun r h9 hp => ?_)
  obtain ⟨hF, hp⟩ := hp
  rcases hp with ⟨w, e, hM⟩ | ⟨w, I', A', hM, hC, e⟩
  · exact ⟨-2, I, A, e, LX_m hL hF hM l8, RS.rf I A, Or.inl ⟨w, rfl⟩⟩
  · exact ⟨_, I', A', e, LX_m hL hF hM (hC.1.mok l8), hC.1, Or.inr ⟨w, hC, rfl⟩⟩
set_option maxHeartbeats 1000000 in
theorem w6_makes (l : Launch) (g : GX) (base : Nat) (sa : Nat → Nat) (h0 : Hp) (ox om : Nat) (R : Nat → Nat) (DR : Nat → Nat → Nat) (DI DL : Nat → Nat → Int) (DA : Nat → Nat → Int → Int) (Rg : Nat → Nat) (Ig Lg : Nat → Int) (Ag : Nat → Int → Int) (Ro : Nat → Nat) (I : Nat → Int) (A : Nat → Int → Int)  (hL : LX g h0 ox om R DR DI DL DA Rg Ig Lg Ag Ro I A)  : MC l g base sa yX6_makes wsX6_makes ({ frames := 2, cells := 0, slots := 0, locals := 49 }) ([.ref om]) h0 (fun r h' => ∃ z I' A', r = some (.int (J z)) ∧ LX g h' ox om R DR DI DL DA Rg Ig Lg Ag Ro I' A' ∧ (RS I I' A A' ∧ ∃ rm q k, (∀ j, 0 ≤ j → j < I 0 → rm j = A 1 j) ∧ RE (mT rm (I 0)) (nxM (I 0) (I 3) (I 4) rm) (nT rm (A 2) (I 0)) q k ∧ z = mq (I 0) rm q k.toNat)) := by
  obtain ⟨l1, l2, l3, l4, l5, l6, l7, l8, l9, l10, l11, l12⟩ := id hL
  refine MC.imp (m_makes l g base sa h0 om Ro I A l7 l8) (fun r h9 hp => ?_)
  obtain ⟨hF, I', A', rm, q, k, hM, hR, hr, ha, hE, e⟩ := hp
  exact ⟨_, I', A', e, LX_m hL hF hM (hR.mok l8), hR, rm, q, k, ha, hE, rfl⟩
set_option maxHeartbeats 1000000 in
theorem w6_reaches (l : Launch) (g : GX) (base : Nat) (sa : Nat → Nat) (h0 : Hp) (ox om : Nat) (R : Nat → Nat) (DR : Nat → Nat → Nat) (DI DL : Nat → Nat → Int) (DA : Nat → Nat → Int → Int) (Rg : Nat → Nat) (Ig Lg : Nat → Int) (Ag : Nat → Int → Int) (Ro : Nat → Nat) (I : Nat → Int) (A : Nat → Int → Int)  (hL : LX g h0 ox om R DR DI DL DA Rg Ig Lg Ag Ro I A)  : MC l g base sa yX6_reaches wsX6_reaches ({ frames := 2, cells := 0, slots := 0, locals := 49 }) ([.ref om]) h0 (fun r h' => ∃ z I' A', r = some (.int (J z)) ∧ LX g h' ox om R DR DI DL DA Rg Ig Lg Ag Ro I' A' ∧ (RS I I' A A' ∧ ∃ rm q k, (∀ j, 0 ≤ j → j < I 0 → rm j = A 1 j) ∧ RE (mT rm (I 0)) (nxM (I 0) (I 3) (I 4) rm) (nT rm (A 2) (I 0)) q k ∧ z = k)) := by
  obtain ⟨l1, l2, l3, l4, l5, l6, l7, l8, l9, l10, l11, l12⟩ := id hL
  refine MC.imp (m_reaches l g base sa h0 om Ro I A l7 l8) (fun r h9 hp => ?_)
  obtain ⟨hF, I', A', rm, q, k, hM, hR, hr, ha, hE, e⟩ := hp
  exact ⟨_, I', A', e, LX_m hL hF hM (hR.mok l8), hR, rm, q, k, ha, hE, rfl⟩
set_option maxHeartbeats 1000000 in
theorem w6_jug (l : Launch) (g : GX) (base : Nat) (sa : Nat → Nat) (h0 : Hp) (ox om : Nat) (R : Nat → Nat) (DR : Nat → Nat → Nat) (DI DL : Nat → Nat → Int) (DA : Nat → Nat → Int → Int) (Rg : Nat → Nat) (Ig Lg : Nat → Int) (Ag : Nat → Int → Int) (Ro : Nat → Nat) (I : Nat → Int) (A : Nat → Int → Int) (a b : Int) (hL : LX g h0 ox om R DR DI DL DA Rg Ig Lg Ag Ro I A) (ha9 : i32 a) (hb9 : i32 b) : MC l g base sa yX6_jug wsX6_jug ({ frames := 1, cells := 0, slots := 0, locals := 22 }) ([.ref om, .int (J a), .int (J b)]) h0 (fun r h' => ∃ z I' A', r = some (.int (J z)) ∧ LX g h' ox om R DR DI DL DA Rg Ig Lg Ag Ro I' A' ∧ ((¬ (1 ≤ a ∧ a ≤ 10 ∧ 0 ≤ b ∧ b ≤ a) ∧ z = -2 ∧ I' = I ∧ A' = A) ∨ ((1 ≤ a ∧ a ≤ 10 ∧ 0 ≤ b ∧ b ≤ a) ∧ I 0 = 4 ∧ z = -4 ∧ I' = I ∧ A' = A) ∨ ((1 ≤ a ∧ a ≤ 10 ∧ 0 ≤ b ∧ b ≤ a) ∧ I 0 < 4 ∧ z = I 0 ∧ I' = va_up I 0 (I 0 + 1) ∧ A' = va_up (va_up A 1 (uf (A 1) (I 0) a)) 2 (uf (A 2) (I 0) b)))) := by
  obtain ⟨l1, l2, l3, l4, l5, l6, l7, l8, l9, l10, l11, l12⟩ := id hL
  refine MC.imp (m_jug l g base sa h0 om Ro I A a b l7 ha9 hb9 ⟨l8.1, l8.2.1⟩) (fun r h9 hp => ?_)
  obtain ⟨hF, hp⟩ := hp
  rcases hp with ⟨w, e, hM⟩ | ⟨w, w2, e, hM⟩ | ⟨w, w2, e, hM⟩
  · exact ⟨-2, I, A, e, LX_m hL hF hM l8, Or.inl ⟨w, rfl, rfl, rfl⟩⟩
  · exact ⟨-4, I, A, e, LX_m hL hF hM l8, Or.inr (Or.inl ⟨w, w2, rfl, rfl, rfl⟩)⟩
  · exact ⟨_, _, _, e, LX_m hL hF hM (Mok_add l8 w2 ⟨w.1, w.2.1⟩ ⟨w.2.2.1, w.2.2.2⟩), Or.inr (Or.inr ⟨w, w2, rfl, rfl, rfl⟩)⟩
set_option maxHeartbeats 1000000 in
theorem w6_set (l : Launch) (g : GX) (base : Nat) (sa : Nat → Nat) (h0 : Hp) (ox om : Nat) (R : Nat → Nat) (DR : Nat → Nat → Nat) (DI DL : Nat → Nat → Int) (DA : Nat → Nat → Int → Int) (Rg : Nat → Nat) (Ig Lg : Nat → Int) (Ag : Nat → Int → Int) (Ro : Nat → Nat) (I : Nat → Int) (A : Nat → Int → Int) (a b : Int) (hL : LX g h0 ox om R DR DI DL DA Rg Ig Lg Ag Ro I A) (ha9 : i32 a) (hb9 : b = 0 ∨ b = 1) : MC l g base sa yX6_set wsX6_set ({ frames := 1, cells := 0, slots := 0, locals := 22 }) ([.ref om, .int (J a), .int (J b)]) h0 (fun r h' => ∃ z I' A', r = some (.int (J z)) ∧ LX g h' ox om R DR DI DL DA Rg Ig Lg Ag Ro I' A' ∧ ((¬ (a = 0 ∨ a = 1) ∧ z = -2 ∧ I' = I ∧ A' = A) ∨ (a = 0 ∧ z = I 3 ∧ I' = va_up I 3 b ∧ A' = A) ∨ (a = 1 ∧ z = I 4 ∧ I' = va_up I 4 b ∧ A' = A))) := by
  obtain ⟨l1, l2, l3, l4, l5, l6, l7, l8, l9, l10, l11, l12⟩ := id hL
  refine MC.imp (m_set l g base sa h0 om Ro I A a b l7 ha9 hb9 l8.2.2.1 l8.2.2.2.1) (fun r h9 hp => ?_)
  obtain ⟨hF, hp⟩ := hp
  obtain ⟨m1, m2, m3, m4, m5, m6, m7, m8, m9⟩ := id l8
  rcases hp with ⟨w, e, hM⟩ | ⟨w, e, hM⟩ | ⟨w, e, hM⟩
  · exact ⟨-2, I, A, e, LX_m hL hF hM l8, Or.inl ⟨w, rfl, rfl, rfl⟩⟩
  · exact ⟨_, _, _, e, LX_m hL hF hM ⟨m1, m2, hb9, m4, m5, m6, m7, m8, m9⟩, Or.inr (Or.inl ⟨w, rfl, rfl, rfl⟩)⟩
  · exact ⟨_, _, _, e, LX_m hL hF hM ⟨m1, m2, m3, hb9, m5, m6, m7, m8, m9⟩, Or.inr (Or.inr ⟨w, rfl, rfl, rfl⟩)⟩
set_option maxHeartbeats 1000000 in
theorem w6_put (l : Launch) (g : GX) (base : Nat) (sa : Nat → Nat) (h0 : Hp) (ox om : Nat) (R : Nat → Nat) (DR : Nat → Nat → Nat) (DI DL : Nat → Nat → Int) (DA : Nat → Nat → Int → Int) (Rg : Nat → Nat) (Ig Lg : Nat → Int) (Ag : Nat → Int → Int) (Ro : Nat → Nat) (I : Nat → Int) (A : Nat → Int → Int) (a b : Int) (hL : LX g h0 ox om R DR DI DL DA Rg Ig Lg Ag Ro I A) (ha9 : i32 a) (hb9 : i32 b) : MC l g base sa yX6_put wsX6_put ({ frames := 2, cells := 0, slots := 0, locals := 43 }) ([.ref om, .int (J a), .int (J b)]) h0 (fun r h' => ∃ z I' A', r = some (.int (J z)) ∧ LX g h' ox om R DR DI DL DA Rg Ig Lg Ag Ro I' A' ∧ ((¬ (0 ≤ a ∧ a < I 0 ∧ 0 ≤ b ∧ b ≤ A 1 a) ∧ z = -2 ∧ I' = I ∧ A' = A) ∨ ((0 ≤ a ∧ a < I 0 ∧ 0 ≤ b ∧ b ≤ A 1 a) ∧ z = A 2 a ∧ I' = I ∧ A' = va_up A 2 (uf (A 2) a b)))) := by
  obtain ⟨l1, l2, l3, l4, l5, l6, l7, l8, l9, l10, l11, l12⟩ := id hL
  refine MC.imp (m_put l g base sa h0 om Ro I A a b l7 ha9 hb9 ⟨l8.1, l8.2.1⟩ l8.2.2.2.2.1) (fun r h9 hp => ?_)
  obtain ⟨hF, hp⟩ := hp
  rcases hp with ⟨w, e, hM⟩ | ⟨w, e, hM⟩
  · exact ⟨-2, I, A, e, LX_m hL hF hM l8, Or.inl ⟨w, rfl, rfl, rfl⟩⟩
  · exact ⟨_, _, _, e, LX_m hL hF hM (Mok_hd l8 (fun i i0 i1 => by by_cases q : i = a; (rw [q, uf_same]; exact ⟨w.2.2.1, w.2.2.2⟩); (rw [uf_ne _ _ q]; exact l8.2.2.2.2.2.1 i i0 i1))), Or.inr ⟨w, rfl, rfl, rfl⟩⟩
set_option maxHeartbeats 1000000 in
theorem w6_holds (l : Launch) (g : GX) (base : Nat) (sa : Nat → Nat) (h0 : Hp) (ox om : Nat) (R : Nat → Nat) (DR : Nat → Nat → Nat) (DI DL : Nat → Nat → Int) (DA : Nat → Nat → Int → Int) (Rg : Nat → Nat) (Ig Lg : Nat → Int) (Ag : Nat → Int → Int) (Ro : Nat → Nat) (I : Nat → Int) (A : Nat → Int → Int) (a : Int) (hL : LX g h0 ox om R DR DI DL DA Rg Ig Lg Ag Ro I A) (ha9 : i32 a) : MC l g base sa yX6_holds wsX6_holds ({ frames := 2, cells := 0, slots := 0, locals := 43 }) ([.ref om, .int (J a)]) h0 (fun r h' => ∃ z I' A', r = some (.int (J z)) ∧ LX g h' ox om R DR DI DL DA Rg Ig Lg Ag Ro I' A' ∧ (I' = I ∧ A' = A ∧ z = (if 0 ≤ a ∧ a < I 0 then A 2 a else -2))) := by
  obtain ⟨l1, l2, l3, l4, l5, l6, l7, l8, l9, l10, l11, l12⟩ := id hL
  refine MC.imp (m_holds l g base sa h0 om Ro I A a l7 ha9 ⟨l8.1, l8.2.1⟩) (fun r h9 hp => ?_)
  obtain ⟨e, e2⟩ := hp
  subst e2
  exact ⟨_, I, A, e, hL, rfl, rfl, rfl⟩
set_option maxHeartbeats 1000000 in
theorem w6_act (l : Launch) (g : GX) (base : Nat) (sa : Nat → Nat) (h0 : Hp) (ox om : Nat) (R : Nat → Nat) (DR : Nat → Nat → Nat) (DI DL : Nat → Nat → Int) (DA : Nat → Nat → Int → Int) (Rg : Nat → Nat) (Ig Lg : Nat → Int) (Ag : Nat → Int → Int) (Ro : Nat → Nat) (I : Nat → Int) (A : Nat → Int → Int) (a : Int) (hL : LX g h0 ox om R DR DI DL DA Rg Ig Lg Ag Ro I A) (ha9 : i32 a) : MC l g base sa yX6_act wsX6_act ({ frames := 2, cells := 0, slots := 0, locals := 43 }) ([.ref om, .int (J a)]) h0 (fun r h' => ∃ z I' A', r = some (.int (J z)) ∧ LX g h' ox om R DR DI DL DA Rg Ig Lg Ag Ro I' A' ∧ ((¬ (0 ≤ a ∧ a < 24 ∧ p_act (I 0) a) ∧ z = -2 ∧ RS I I' A A') ∨ ((0 ≤ a ∧ a < 24 ∧ p_act (I 0) a) ∧ p_mv (I 0) (I 3) (I 4) (A 1) (A 2) a = 0 ∧ z = -3 ∧ RS I I' A A') ∨ ((0 ≤ a ∧ a < 24 ∧ p_act (I 0) a) ∧ 0 < p_mv (I 0) (I 3) (I 4) (A 1) (A 2) a ∧ z = p_mv (I 0) (I 3) (I 4) (A 1) (A 2) a ∧ RS I I' (va_up A 2 (cpN (I 0) (p_move (A 2) a (p_mv (I 0) (I 3) (I 4) (A 1) (A 2) a)) (A 2))) A'))) := by
  obtain ⟨l1, l2, l3, l4, l5, l6, l7, l8, l9, l10, l11, l12⟩ := id hL
  refine MC.imp (m_act l g base sa h0 om Ro I A a l7 ha9 l8) (fun r h9 hp => ?_)
  obtain ⟨hF, hp⟩ := hp
  rcases hp with ⟨w, e, hM⟩ | ⟨w, w2, e, I', A', hM, hR⟩ | ⟨w, w2, e, I', A', hM, hR⟩
  · exact ⟨-2, I, A, e, LX_m hL hF hM l8, Or.inl ⟨w, rfl, RS.rf I A⟩⟩
  · exact ⟨-3, I', A', e, LX_m hL hF hM (hR.mok l8), Or.inr (Or.inl ⟨w, w2, rfl, hR⟩)⟩
  · have hv := move_v (n := I 0) (rm := A 1) (hd := A 2) (fun i i0 i1 => l8.2.2.2.2.2.1 i i0 i1) w2
    exact ⟨_, I', A', e, LX_m hL hF hM (hR.mok (Mok_hd l8 (fun i i0 i1 => by rw [cpN_in i0 i1]; exact hv i i0 i1))), Or.inr (Or.inr ⟨w, w2, rfl, hR⟩)⟩
set_option maxHeartbeats 1000000 in
theorem w6_clear (l : Launch) (g : GX) (base : Nat) (sa : Nat → Nat) (h0 : Hp) (ox om : Nat) (R : Nat → Nat) (DR : Nat → Nat → Nat) (DI DL : Nat → Nat → Int) (DA : Nat → Nat → Int → Int) (Rg : Nat → Nat) (Ig Lg : Nat → Int) (Ag : Nat → Int → Int) (Ro : Nat → Nat) (I : Nat → Int) (A : Nat → Int → Int)  (hL : LX g h0 ox om R DR DI DL DA Rg Ig Lg Ag Ro I A)  : MC l g base sa yX6_clear wsX6_clear ({ frames := 0, cells := 0, slots := 0, locals := 0 }) ([.ref om]) h0 (fun r h' => ∃ z I' A', r = some (.int (J z)) ∧ LX g h' ox om R DR DI DL DA Rg Ig Lg Ag Ro I' A' ∧ (z = I 0 ∧ I' = va_up I 0 0 ∧ A' = A)) := by
  obtain ⟨l1, l2, l3, l4, l5, l6, l7, l8, l9, l10, l11, l12⟩ := id hL
  refine MC.imp (m_clear l g base sa h0 om Ro I A l7) (fun r h9 hp => ?_)
  obtain ⟨hF, e, hM⟩ := hp
  obtain ⟨m1, m2, m3, m4, m5, m6, m7, m8, m9⟩ := id l8
  exact ⟨_, _, _, e, LX_m hL hF hM ⟨show (0 : Int) ≤ 0 by omega, show (0 : Int) ≤ 4 by omega, m3, m4, fun i i0 i1 => absurd (show i < 0 from i1) (by omega), fun i i0 i1 => absurd (show i < 0 from i1) (by omega), m7, m8, m9⟩, rfl, rfl, rfl⟩
set_option maxHeartbeats 1000000 in
theorem w6_road (l : Launch) (g : GX) (base : Nat) (sa : Nat → Nat) (h0 : Hp) (ox om : Nat) (R : Nat → Nat) (DR : Nat → Nat → Nat) (DI DL : Nat → Nat → Int) (DA : Nat → Nat → Int → Int) (Rg : Nat → Nat) (Ig Lg : Nat → Int) (Ag : Nat → Int → Int) (Ro : Nat → Nat) (I : Nat → Int) (A : Nat → Int → Int) (i v : Int) (hL : LX g h0 ox om R DR DI DL DA Rg Ig Lg Ag Ro I A) (hi9 : i32 i) (hv9 : i32 v) : MC l g base sa yX6_road wsX6_road ({ frames := 2, cells := 0, slots := 0, locals := 43 }) ([.ref om, .int (J i), .int (J v)]) h0 (fun r h' => ∃ z I' A', r = some (.int (J z)) ∧ LX g h' ox om R DR DI DL DA Rg Ig Lg Ag Ro I' A' ∧ (I' = I ∧ A' = A ∧ z = (if (0 ≤ i ∧ i < I 0 ∧ 1 ≤ v ∧ v ≤ 10) then (if I 0 = 2 then rdF (A 1 i) (A 1 (1 - i)) v 121 0 0 0 else -3) else -2))) := by
  obtain ⟨l1, l2, l3, l4, l5, l6, l7, l8, l9, l10, l11, l12⟩ := id hL
  refine MC.imp (m_road l g base sa h0 om Ro I A i v l7 hi9 hv9 l8) (fun r h9 hp => ?_)
  obtain ⟨e, e2⟩ := hp
  subst e2
  exact ⟨_, I, A, e, hL, rfl, rfl, rfl⟩
set_option maxHeartbeats 1000000 in
theorem w6_sizes (l : Launch) (g : GX) (base : Nat) (sa : Nat → Nat) (h0 : Hp) (ox om : Nat) (R : Nat → Nat) (DR : Nat → Nat → Nat) (DI DL : Nat → Nat → Int) (DA : Nat → Nat → Int → Int) (Rg : Nat → Nat) (Ig Lg : Nat → Int) (Ag : Nat → Int → Int) (Ro : Nat → Nat) (I : Nat → Int) (A : Nat → Int → Int) (k b i : Int) (hL : LX g h0 ox om R DR DI DL DA Rg Ig Lg Ag Ro I A) (hk9 : i32 k) (hb9 : i32 b) (hi9 : i32 i) : MC l g base sa yX6_sizes wsX6_sizes ({ frames := 3, cells := 0, slots := 0, locals := 72 }) ([.ref om, .int (J k), .int (J b), .int (J i)]) h0 (fun r h' => ∃ z I' A', r = some (.int (J z)) ∧ LX g h' ox om R DR DI DL DA Rg Ig Lg Ag Ro I' A' ∧ (RS I I' A A' ∧ z = (if 1 ≤ k ∧ k ≤ 3 ∧ 1 ≤ b ∧ b ≤ 10 ∧ 0 ≤ i ∧ i < k then (if k = 1 ∧ 1 < b then -1 else if i = k - 1 then b else 1) else -2))) := by
  obtain ⟨l1, l2, l3, l4, l5, l6, l7, l8, l9, l10, l11, l12⟩ := id hL
  refine MC.imp (m_sizes l g base sa h0 om Ro I A k b i l7 hk9 hb9 hi9) (fun r h9 hp => ?_)
  obtain ⟨hF, I', A', hM, hR, e⟩ := hp
  exact ⟨_, I', A', e, LX_m hL hF hM (hR.mok l8), hR, rfl⟩
set_option maxHeartbeats 1000000 in
theorem w6_count (l : Launch) (g : GX) (base : Nat) (sa : Nat → Nat) (h0 : Hp) (ox om : Nat) (R : Nat → Nat) (DR : Nat → Nat → Nat) (DI DL : Nat → Nat → Int) (DA : Nat → Nat → Int → Int) (Rg : Nat → Nat) (Ig Lg : Nat → Int) (Ag : Nat → Int → Int) (Ro : Nat → Nat) (I : Nat → Int) (A : Nat → Int → Int) (a : Int) (hL : LX g h0 ox om R DR DI DL DA Rg Ig Lg Ag Ro I A) (ha9 : i32 a) : MC l g base sa yX6_count wsX6_count ({ frames := 1, cells := 0, slots := 0, locals := 23 }) ([.ref om, .int (J a)]) h0 (fun r h' => ∃ z I' A', r = some (.int (J z)) ∧ LX g h' ox om R DR DI DL DA Rg Ig Lg Ag Ro I' A' ∧ (RS I I' A A' ∧ z = (if a = 0 then I 0 else if a = 1 then I 5 else if a = 2 then sT (A 2) (I 0) else if a = 3 then sT (fun b => if 0 < p_mv (I 0) (I 3) (I 4) (A 1) (A 2) b then 1 else 0) 24 else -2))) := by
  obtain ⟨l1, l2, l3, l4, l5, l6, l7, l8, l9, l10, l11, l12⟩ := id hL
  refine MC.imp (m_count l g base sa h0 om Ro I A a l7 ha9 l8) (fun r h9 hp => ?_)
  obtain ⟨hF, I', A', hM, hR, e⟩ := hp
  exact ⟨_, I', A', e, LX_m hL hF hM (hR.mok l8), hR, rfl⟩
set_option maxHeartbeats 1000000 in
theorem w6_glass (l : Launch) (g : GX) (base : Nat) (sa : Nat → Nat) (h0 : Hp) (ox om : Nat) (R : Nat → Nat) (DR : Nat → Nat → Nat) (DI DL : Nat → Nat → Int) (DA : Nat → Nat → Int → Int) (Rg : Nat → Nat) (Ig Lg : Nat → Int) (Ag : Nat → Int → Int) (Ro : Nat → Nat) (I : Nat → Int) (A : Nat → Int → Int) (a : Int) (hL : LX g h0 ox om R DR DI DL DA Rg Ig Lg Ag Ro I A) (ha9 : i32 a) : MC l g base sa yX6_glass wsX6_glass ({ frames := 1, cells := 0, slots := 0, locals := 22 }) ([.ref om, .int (J a)]) h0 (fun r h' => ∃ z I' A', r = some (.int (J z)) ∧ LX g h' ox om R DR DI DL DA Rg Ig Lg Ag Ro I' A' ∧ ((¬ (1 ≤ a ∧ a ≤ 12) ∧ z = -2 ∧ I' = I ∧ A' = A) ∨ ((1 ≤ a ∧ a ≤ 12) ∧ I 5 = 3 ∧ z = -4 ∧ I' = I ∧ A' = A) ∨ ((1 ≤ a ∧ a ≤ 12) ∧ I 5 < 3 ∧ z = I 5 ∧ I' = va_up I 5 (I 5 + 1) ∧ A' = va_up A 6 (uf (A 6) (I 5) a)))) := by
  obtain ⟨l1, l2, l3, l4, l5, l6, l7, l8, l9, l10, l11, l12⟩ := id hL
  refine MC.imp (m_glass l g base sa h0 om Ro I A a l7 ha9 ⟨(Mok_sok l8).1, (Mok_sok l8).2.1⟩) (fun r h9 hp => ?_)
  obtain ⟨hF, hp⟩ := hp
  rcases hp with ⟨w, e, hM⟩ | ⟨w, w2, e, hM⟩ | ⟨w, w2, e, hM⟩
  · exact ⟨-2, I, A, e, LX_m hL hF hM l8, Or.inl ⟨w, rfl, rfl, rfl⟩⟩
  · exact ⟨-4, I, A, e, LX_m hL hF hM l8, Or.inr (Or.inl ⟨w, w2, rfl, rfl, rfl⟩)⟩
  · exact ⟨_, _, _, e, LX_m hL hF hM (Mok_gl l8 w2 w), Or.inr (Or.inr ⟨w, w2, rfl, rfl, rfl⟩)⟩
set_option maxHeartbeats 1000000 in
theorem w6_smash (l : Launch) (g : GX) (base : Nat) (sa : Nat → Nat) (h0 : Hp) (ox om : Nat) (R : Nat → Nat) (DR : Nat → Nat → Nat) (DI DL : Nat → Nat → Int) (DA : Nat → Nat → Int → Int) (Rg : Nat → Nat) (Ig Lg : Nat → Int) (Ag : Nat → Int → Int) (Ro : Nat → Nat) (I : Nat → Int) (A : Nat → Int → Int)  (hL : LX g h0 ox om R DR DI DL DA Rg Ig Lg Ag Ro I A)  : MC l g base sa yX6_smash wsX6_smash ({ frames := 0, cells := 0, slots := 0, locals := 0 }) ([.ref om]) h0 (fun r h' => ∃ z I' A', r = some (.int (J z)) ∧ LX g h' ox om R DR DI DL DA Rg Ig Lg Ag Ro I' A' ∧ (z = I 5 ∧ I' = va_up I 5 0 ∧ A' = A)) := by
  obtain ⟨l1, l2, l3, l4, l5, l6, l7, l8, l9, l10, l11, l12⟩ := id hL
  refine MC.imp (m_smash l g base sa h0 om Ro I A l7) (fun r h9 hp => ?_)
  obtain ⟨hF, e, hM⟩ := hp
  obtain ⟨m1, m2, m3, m4, m5, m6, m7, m8, m9⟩ := id l8
  exact ⟨_, _, _, e, LX_m hL hF hM ⟨m1, m2, m3, m4, m5, m6, show (0 : Int) ≤ 0 by omega, show (0 : Int) ≤ 3 by omega, fun i i0 i1 => absurd (show i < 0 from i1) (by omega)⟩, rfl, rfl, rfl⟩
set_option maxHeartbeats 1000000 in
theorem w6_await (l : Launch) (g : GX) (base : Nat) (sa : Nat → Nat) (h0 : Hp) (ox om : Nat) (R : Nat → Nat) (DR : Nat → Nat → Nat) (DI DL : Nat → Nat → Int) (DA : Nat → Nat → Int → Int) (Rg : Nat → Nat) (Ig Lg : Nat → Int) (Ag : Nat → Int → Int) (Ro : Nat → Nat) (I : Nat → Int) (A : Nat → Int → Int) (a : Int) (hL : LX g h0 ox om R DR DI DL DA Rg Ig Lg Ag Ro I A) (ha9 : i32 a) : MC l g base sa yX6_await wsX6_await ({ frames := 2, cells := 0, slots := 0, locals := 55 }) ([.ref om, .int (J a)]) h0 (fun r h' => ∃ z I' A', r = some (.int (J z)) ∧ LX g h' ox om R DR DI DL DA Rg Ig Lg Ag Ro I' A' ∧ (RS I I' A A' ∧ ((¬ (1 ≤ a ∧ a ≤ 40) ∧ z = -2) ∨ ((1 ≤ a ∧ a ≤ 40) ∧ ∃ t, WT (mp (I 5) (A 6)) 8 a z t)))) := by
  obtain ⟨l1, l2, l3, l4, l5, l6, l7, l8, l9, l10, l11, l12⟩ := id hL
  refine MC.imp (m_await l g base sa h0 om Ro I A a l7 ha9 (Mok_sok l8)) (fun r h9 hp => ?_)
  obtain ⟨hF, hp⟩ := hp
  rcases hp with ⟨w, e, hM⟩ | ⟨w, I', A', w9, t9, hM, hR, hT, e⟩
  · exact ⟨-2, I, A, e, LX_m hL hF hM l8, RS.rf I A, Or.inl ⟨w, rfl⟩⟩
  · exact ⟨_, I', A', e, LX_m hL hF hM (hR.mok l8), hR, Or.inr ⟨w, _, hT⟩⟩
set_option maxHeartbeats 1000000 in
theorem w6_turns (l : Launch) (g : GX) (base : Nat) (sa : Nat → Nat) (h0 : Hp) (ox om : Nat) (R : Nat → Nat) (DR : Nat → Nat → Nat) (DI DL : Nat → Nat → Int) (DA : Nat → Nat → Int → Int) (Rg : Nat → Nat) (Ig Lg : Nat → Int) (Ag : Nat → Int → Int) (Ro : Nat → Nat) (I : Nat → Int) (A : Nat → Int → Int) (a : Int) (hL : LX g h0 ox om R DR DI DL DA Rg Ig Lg Ag Ro I A) (ha9 : i32 a) : MC l g base sa yX6_turns wsX6_turns ({ frames := 2, cells := 0, slots := 0, locals := 55 }) ([.ref om, .int (J a)]) h0 (fun r h' => ∃ z I' A', r = some (.int (J z)) ∧ LX g h' ox om R DR DI DL DA Rg Ig Lg Ag Ro I' A' ∧ (RS I I' A A' ∧ ((¬ (1 ≤ a ∧ a ≤ 40) ∧ z = -2) ∨ ((1 ≤ a ∧ a ≤ 40) ∧ ∃ w, WT (mp (I 5) (A 6)) 8 a w z)))) := by
  obtain ⟨l1, l2, l3, l4, l5, l6, l7, l8, l9, l10, l11, l12⟩ := id hL
  refine MC.imp (m_turns l g base sa h0 om Ro I A a l7 ha9 (Mok_sok l8)) (fun r h9 hp => ?_)
  obtain ⟨hF, hp⟩ := hp
  rcases hp with ⟨w, e, hM⟩ | ⟨w, I', A', w9, t9, hM, hR, hT, e⟩
  · exact ⟨-2, I, A, e, LX_m hL hF hM l8, RS.rf I A, Or.inl ⟨w, rfl⟩⟩
  · exact ⟨_, I', A', e, LX_m hL hF hM (hR.mok l8), hR, Or.inr ⟨w, _, hT⟩⟩
set_option maxHeartbeats 1000000 in
theorem w6_spans (l : Launch) (g : GX) (base : Nat) (sa : Nat → Nat) (h0 : Hp) (ox om : Nat) (R : Nat → Nat) (DR : Nat → Nat → Nat) (DI DL : Nat → Nat → Int) (DA : Nat → Nat → Int → Int) (Rg : Nat → Nat) (Ig Lg : Nat → Int) (Ag : Nat → Int → Int) (Ro : Nat → Nat) (I : Nat → Int) (A : Nat → Int → Int) (a : Int) (hL : LX g h0 ox om R DR DI DL DA Rg Ig Lg Ag Ro I A) (ha9 : i32 a) : MC l g base sa yX6_spans wsX6_spans ({ frames := 2, cells := 0, slots := 0, locals := 55 }) ([.ref om, .int (J a)]) h0 (fun r h' => ∃ z I' A', r = some (.long (JL z)) ∧ LX g h' ox om R DR DI DL DA Rg Ig Lg Ag Ro I' A' ∧ (RS I I' A A' ∧ ((¬ (0 ≤ a ∧ a ≤ 60) ∧ z = -2) ∨ ((0 ≤ a ∧ a ≤ 60) ∧ ∃ f, (∀ j, 1 ≤ j → j ≤ 40 → ∃ t, WT (mp (I 5) (A 6)) 8 j (f j) t) ∧ z = sB f a 40)))) := by
  obtain ⟨l1, l2, l3, l4, l5, l6, l7, l8, l9, l10, l11, l12⟩ := id hL
  refine MC.imp (m_spans l g base sa h0 om Ro I A a l7 ha9 (Mok_sok l8)) (fun r h9 hp => ?_)
  obtain ⟨hF, hp⟩ := hp
  rcases hp with ⟨w, e, hM⟩ | ⟨w, I', A', f, hM, hR, hT, e⟩
  · exact ⟨-2, I, A, e, LX_m hL hF hM l8, RS.rf I A, Or.inl ⟨w, rfl⟩⟩
  · exact ⟨_, I', A', e, LX_m hL hF hM (hR.mok l8), hR, Or.inr ⟨w, f, hT, rfl⟩⟩