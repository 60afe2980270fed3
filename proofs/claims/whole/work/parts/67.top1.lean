theorem ifz {P : Prop} [Decidable P] : (if P then (1 : Int) else 0) = 0 ∨ (if P then (1 : Int) else 0) = 1 := by
  split
  · exact Or.inr rfl
  · exact Or.inl rfl
theorem ifz_1 {P : Prop} [Decidable P] (h : ¬ (if P then (1 : Int) else 0) = 0) : P := by
  by_cases q : P
  · exact q
  · rw [if_neg q] at h; exact absurd rfl h
theorem ifz_0 {P : Prop} [Decidable P] (h : (if P then (1 : Int) else 0) = 0) : ¬ P := fun q => by rw [if_pos q] at h; cases h

set_option maxHeartbeats 4000000 in
set_option maxRecDepth 100000 in
theorem x_isAim (l : Launch) (g : GX) (base : Nat) (sa : Nat → Nat) (h0 : Hp) (o : Nat) (R : Nat → Nat) (I L : Nat → Int) (A : Nat → Int → Int) (DR : Nat → Nat → Nat) (DI DL : Nat → Nat → Int) (DA : Nat → Nat → Int → Int) (i v : Int) (hX : OB g 5 3 kd5 h0 o R I L A) (hB : QB g h0 (R 1) DR DI DL DA) (hV : QV DI DL DA) (hj0 : R 0 = DR 0 0) (hi9 : i32 i) (hv9 : i32 v) : MC l g base sa yX5_isAim wsX5_isAim ({ frames := 1, cells := 0, slots := 0, locals := 21 }) ([.ref o, .int (J i), .int (J v)]) h0 (fun r h' => r = some (.int (J (if ((i = -1 ∨ (0 ≤ i ∧ i < DI 1 0)) ∧ 0 ≤ v ∧ v ≤ 10) then 1 else 0))) ∧ h' = h0) := by
  refine Met.ofW (cc := cX5_isAim) (maxL := 3) (ret := (some .boolean)) (by decide) rfl ?_
  intro p e s m args below meth c s₁ B hml hv
  obtain ⟨rfl, hk, hW⟩ := hv
  have hx := B.exec
  have hb := B.bytes
  have hr := B.returns
  have hts := atoms_spec (ws := wsX5_isAim) B.pre
  have hown : s.vm.findClass RX5 = some m.cls := findClass_of_methodNamed B.named
  have hlocks := B.notSynchronized
  have hfX1 : ∀ w ∈ wsX10, w.before ([.ref o, .int (J i), .int (J v)]).toArray s = true := fun w h => hts w (List.mem_cons_of_mem _ (List.mem_append_right _ h))
  have hfX5 : ∀ w ∈ wsX50, w.before ([.ref o, .int (J i), .int (J v)]).toArray s = true := fun w h => hts w (List.mem_cons_of_mem _ (List.mem_append_left _ (List.mem_append_right _ h)))
  have hS : va_S (Ab base) s.heap s.heap [] := va_S.rf
  have hl := lv_entry ([.ref o, .int (J i), .int (J v)]) (n := 3) (Nat.le_of_ble_eq_true rfl)
  rw [lg_entry_eq]
  generalize (lg_sl ([.ref o, .int (J i), .int (J v)]) ++ List.replicate (3 - (lg_sl ([.ref o, .int (J i), .int (J v)])).length) Slot.unset).toArray = ls at hl ⊢
  have hl : lv_has ls 3 [(0, .ref o), (1, .int (J i)), (2, .int (J v))] := hl
  obtain ⟨vW, vV, vZ, vF, vA, vT, vS, vg, f6, f7, f8⟩ := id hV
  have hn : 0 ≤ DI 1 0 ∧ DI 1 0 ≤ 4 := ⟨vW.1.1, vW.1.2.1⟩
  have hG : OB g 1 7 kd1 h0 (R 0) (DR 1) (DI 1) L4 (DA 1) := by rw [hj0]; exact hB.2.1
  obtain ⟨hi1, hi2⟩ := id hi9
  obtain ⟨hv1, hv2⟩ := id hv9
  refine lv_iload_n hx hb dX5_isAim_0 rfl (lv_at hl 1 rfl) ?_
  refine lv_iconst (v := J (-1)) hx hb dX5_isAim_1 rfl ?_
  refine j_icmp_eq (x := i) (y := (-1)) (tgt := 16) hx hb ⟨by omega, by omega⟩ ⟨by omega, by omega⟩ dX5_isAim_2 (by decide) (fun c_2 => ?_) (fun c_2 => ?_)
  · 
    refine lv_iload_n hx hb dX5_isAim_16 rfl (lv_at hl 2 rfl) ?_
    refine j_if_lt (x := v) (tgt := 30) hx hb ⟨by omega, by omega⟩ dX5_isAim_17 (by decide) (fun c_17 => ?_) (fun c_17 => ?_)
    · refine lv_iconst (v := J (0)) hx hb dX5_isAim_30 rfl ?_
      exact g_zret hx hb hr (by first | exact Or.inr rfl | exact Or.inl rfl) hW hS dX5_isAim_31 hlocks (⟨congrArg (fun q : Int => some (Value.int (J q))) (show 0 = (if ((i = -1 ∨ (0 ≤ i ∧ i < DI 1 0)) ∧ 0 ≤ v ∧ v ≤ 10) then 1 else 0) from by first | (rw [if_pos (by first | omega | (have := p_has_1 c_13; omega))]) | (rw [if_neg (by first | omega | (have := p_has_0 c_13; omega))])), rfl⟩)
    · 
      refine lv_iload_n hx hb dX5_isAim_20 rfl (lv_at hl 2 rfl) ?_
      refine lv_bipush (v := J (10)) hx hb dX5_isAim_21 (by decide) ?_
      refine j_icmp_gt (x := v) (y := 10) (tgt := 30) hx hb ⟨by omega, by omega⟩ ⟨by decide, by decide⟩ dX5_isAim_23 (by decide) (fun c_23 => ?_) (fun c_23 => ?_)
      · refine lv_iconst (v := J (0)) hx hb dX5_isAim_30 rfl ?_
        exact g_zret hx hb hr (by first | exact Or.inr rfl | exact Or.inl rfl) hW hS dX5_isAim_31 hlocks (⟨congrArg (fun q : Int => some (Value.int (J q))) (show 0 = (if ((i = -1 ∨ (0 ≤ i ∧ i < DI 1 0)) ∧ 0 ≤ v ∧ v ≤ 10) then 1 else 0) from by first | (rw [if_pos (by first | omega | (have := p_has_1 c_13; omega))]) | (rw [if_neg (by first | omega | (have := p_has_0 c_13; omega))])), rfl⟩)
      · refine lv_iconst (v := J (1)) hx hb dX5_isAim_26 rfl ?_
        refine lv_goto (tgt := 31) hx hb dX5_isAim_27 (by decide) ?_
        exact g_zret hx hb hr (by first | exact Or.inr rfl | exact Or.inl rfl) hW hS dX5_isAim_31 hlocks (⟨congrArg (fun q : Int => some (Value.int (J q))) (show 1 = (if ((i = -1 ∨ (0 ≤ i ∧ i < DI 1 0)) ∧ 0 ≤ v ∧ v ≤ 10) then 1 else 0) from by first | (rw [if_pos (by first | omega | (have := p_has_1 c_13; omega))]) | (rw [if_neg (by first | omega | (have := p_has_0 c_13; omega))])), rfl⟩)
  · refine lv_aload_n hx hb dX5_isAim_5 rfl (lv_at hl 0 rfl) ?_
    refine g_get (ci := 5) (C := RX5) (T := TX5) (N := 3) (v := .ref (R 0)) hx hb hfX5 (fun _ h9 => h9) hown hk hW hX.1 rfl 0 (by decide) (hts (.fieldLink RX5 20 "JugsAndGlasses" "jugs" "LJugsAndGlasses$Jugs;") (by decide +kernel)) rfl rfl dX5_isAim_6 ?_
    refine lv_iload_n hx hb dX5_isAim_9 rfl (lv_at hl 1 rfl) ?_
    refine g_callV (As := [.int (J i)]) (rest := []) (b := R 0) (ci := 1) (C := RX1) (T := TX1) (N := 7) ⟨hx, hb, hml, hown, hts⟩ (k_has l g base sa h0 (R 0) (DR 1) (DI 1) (DA 1) i hG hi9 hn) (cwV 1 hts gX5_isAim_X1_has rfl rfl rfl (by decide +kernel) ⟨Nat.le_of_ble_eq_true rfl, Nat.le_of_ble_eq_true rfl⟩) hk hW hS hG.1 rfl rfl hl.1 (Nat.le_of_ble_eq_true rfl) dX5_isAim_10 ⟨Nat.le_of_ble_eq_true rfl, Nat.le_of_ble_eq_true rfl⟩ (fun r9 h9 H locs hp hW hS => ?_)
    obtain ⟨rfl, e9⟩ := hp
    rw [e9] at hW
    refine W.eq (g2 := F0 m 13 ls [.int (J (p_has (DI 1 0) i))]) rfl ?_
    have hph := p_has_r (DI 1 0) i
    refine j_if_eq (x := p_has (DI 1 0) i) (tgt := 30) hx hb ⟨by omega, by omega⟩ dX5_isAim_13 (by decide) (fun c_13 => ?_) (fun c_13 => ?_)
    · refine lv_iconst (v := J (0)) hx hb dX5_isAim_30 rfl ?_
      exact g_zret hx hb hr (by first | exact Or.inr rfl | exact Or.inl rfl) hW hS dX5_isAim_31 hlocks (⟨congrArg (fun q : Int => some (Value.int (J q))) (show 0 = (if ((i = -1 ∨ (0 ≤ i ∧ i < DI 1 0)) ∧ 0 ≤ v ∧ v ≤ 10) then 1 else 0) from by first | (rw [if_pos (by first | omega | (have := p_has_1 c_13; omega))]) | (rw [if_neg (by first | omega | (have := p_has_0 c_13; omega))])), rfl⟩)
    · 
      refine lv_iload_n hx hb dX5_isAim_16 rfl (lv_at hl 2 rfl) ?_
      refine j_if_lt (x := v) (tgt := 30) hx hb ⟨by omega, by omega⟩ dX5_isAim_17 (by decide) (fun c_17 => ?_) (fun c_17 => ?_)
      · refine lv_iconst (v := J (0)) hx hb dX5_isAim_30 rfl ?_
        exact g_zret hx hb hr (by first | exact Or.inr rfl | exact Or.inl rfl) hW hS dX5_isAim_31 hlocks (⟨congrArg (fun q : Int => some (Value.int (J q))) (show 0 = (if ((i = -1 ∨ (0 ≤ i ∧ i < DI 1 0)) ∧ 0 ≤ v ∧ v ≤ 10) then 1 else 0) from by first | (rw [if_pos (by first | omega | (have := p_has_1 c_13; omega))]) | (rw [if_neg (by first | omega | (have := p_has_0 c_13; omega))])), rfl⟩)
      · 
        refine lv_iload_n hx hb dX5_isAim_20 rfl (lv_at hl 2 rfl) ?_
        refine lv_bipush (v := J (10)) hx hb dX5_isAim_21 (by decide) ?_
        refine j_icmp_gt (x := v) (y := 10) (tgt := 30) hx hb ⟨by omega, by omega⟩ ⟨by decide, by decide⟩ dX5_isAim_23 (by decide) (fun c_23 => ?_) (fun c_23 => ?_)
        · refine lv_iconst (v := J (0)) hx hb dX5_isAim_30 rfl ?_
          exact g_zret hx hb hr (by first | exact Or.inr rfl | exact Or.inl rfl) hW hS dX5_isAim_31 hlocks (⟨congrArg (fun q : Int => some (Value.int (J q))) (show 0 = (if ((i = -1 ∨ (0 ≤ i ∧ i < DI 1 0)) ∧ 0 ≤ v ∧ v ≤ 10) then 1 else 0) from by first | (rw [if_pos (by first | omega | (have := p_has_1 c_13; omega))]) | (rw [if_neg (by first | omega | (have := p_has_0 c_13; omega))])), rfl⟩)
        · refine lv_iconst (v := J (1)) hx hb dX5_isAim_26 rfl ?_
          refine lv_goto (tgt := 31) hx hb dX5_isAim_27 (by decide) ?_
          exact g_zret hx hb hr (by first | exact Or.inr rfl | exact Or.inl rfl) hW hS dX5_isAim_31 hlocks (⟨congrArg (fun q : Int => some (Value.int (J q))) (show 1 = (if ((i = -1 ∨ (0 ≤ i ∧ i < DI 1 0)) ∧ 0 ≤ v ∧ v ≤ 10) then 1 else 0) from by first | (rw [if_pos (by first | omega | (have := p_has_1 c_13; omega))]) | (rw [if_neg (by first | omega | (have := p_has_0 c_13; omega))])), rfl⟩)

set_option maxHeartbeats 4000000 in
set_option maxRecDepth 100000 in
theorem x_fewest (l : Launch) (g : GX) (base : Nat) (sa : Nat → Nat) (h0 : Hp) (o : Nat) (R : Nat → Nat) (I L : Nat → Int) (A : Nat → Int → Int) (DR : Nat → Nat → Nat) (DI DL : Nat → Nat → Int) (DA : Nat → Nat → Int → Int) (i v : Int) (hX : OB g 5 3 kd5 h0 o R I L A) (hB : QB g h0 (R 1) DR DI DL DA) (hV : QV DI DL DA) (hj0 : R 0 = DR 0 0) (aX : ∀ q, FP 3 kd5 o R q → ¬ FS (R 1) DR q) (hi9 : i32 i) (hv9 : i32 v) : MC l g base sa yX5_fewest wsX5_fewest ({ frames := 5, cells := tCel (DL 3 1) (jN DI DA), slots := tSlo (DL 3 1) (jN DI DA), locals := 120 }) ([.ref o, .int (J i), .int (J v)]) h0 (fun r9 h' => Fr (FS (R 1) DR) h0 h' ∧ ((¬ ((i = -1 ∨ (0 ≤ i ∧ i < DI 1 0)) ∧ 0 ≤ v ∧ v ≤ 10) ∧ r9 = some (.int (J (-2))) ∧ h' = h0) ∨ (((i = -1 ∨ (0 ≤ i ∧ i < DI 1 0)) ∧ 0 ≤ v ∧ v ≤ 10) ∧ ∃ z DR' DI' DL' DA', r9 = some (.int (J z)) ∧ AnF (DI 1 0) (DI 1 2) (DI 1 3) (DA 1 4) (DA 1 5) i v z ∧ QB g h' (R 1) DR' DI' DL' DA' ∧ QV DI' DL' DA' ∧ QK DR DR' DI DI' DA DA' ∧ (∀ q, FS (R 1) DR' q → FS (R 1) DR q ∨ h0 q = none) ∧ DL' = va_up DL 3 (DL' 3) ∧ DL' 3 1 = tLen (DL 3 1) (jN DI DA)))) := by
  refine Met.ofW (cc := cX5_fewest) (maxL := 3) (ret := (some .int)) (by decide) rfl ?_
  intro p e s m args below meth c s₁ B hml hv
  obtain ⟨rfl, hk, hW⟩ := hv
  have hx := B.exec
  have hb := B.bytes
  have hr := B.returns
  have hts := atoms_spec (ws := wsX5_fewest) B.pre
  have hown : s.vm.findClass RX5 = some m.cls := findClass_of_methodNamed B.named
  have hlocks := B.notSynchronized
  have hfX1 : ∀ w ∈ wsX10, w.before ([.ref o, .int (J i), .int (J v)]).toArray s = true := fun w h => hts w (List.mem_cons_of_mem _ (List.mem_append_left _ (List.mem_append_left _ (List.mem_append_right _ h))))
  have hfX2 : ∀ w ∈ wsX20, w.before ([.ref o, .int (J i), .int (J v)]).toArray s = true := fun w h => hts w (List.mem_cons_of_mem _ (List.mem_append_left _ (List.mem_append_left _ (List.mem_append_left _ (List.mem_append_right _ h)))))
  have hfX5 : ∀ w ∈ wsX50, w.before ([.ref o, .int (J i), .int (J v)]).toArray s = true := fun w h => hts w (List.mem_cons_of_mem _ (List.mem_append_left _ (List.mem_append_left _ (List.mem_append_left _ (List.mem_append_left _ (List.mem_append_right _ h))))))
  have hS : va_S (Ab base) s.heap s.heap [] := va_S.rf
  have hl := lv_entry ([.ref o, .int (J i), .int (J v)]) (n := 3) (Nat.le_of_ble_eq_true rfl)
  rw [lg_entry_eq]
  generalize (lg_sl ([.ref o, .int (J i), .int (J v)]) ++ List.replicate (3 - (lg_sl ([.ref o, .int (J i), .int (J v)])).length) Slot.unset).toArray = ls at hl ⊢
  have hl : lv_has ls 3 [(0, .ref o), (1, .int (J i)), (2, .int (J v))] := hl
  have hF : Fr (FS (R 1) DR) h0 h0 := Fr.rf
  obtain ⟨vW, vV, vZ, vF, vA, vT, vS, vg, f6, f7, f8⟩ := id hV
  have hn : 0 ≤ DI 1 0 ∧ DI 1 0 ≤ 4 := ⟨vW.1.1, vW.1.2.1⟩
  have hG : OB g 1 7 kd1 h0 (R 0) (DR 1) (DI 1) L4 (DA 1) := by rw [hj0]; exact hB.2.1
  have hX0 := hX
  refine lv_aload_n hx hb dX5_fewest_0 rfl (lv_at hl 0 rfl) ?_
  refine lv_iload_n hx hb dX5_fewest_1 rfl (lv_at hl 1 rfl) ?_
  refine lv_iload_n hx hb dX5_fewest_2 rfl (lv_at hl 2 rfl) ?_
  refine g_callV (As := [.int (J i), .int (J v)]) (rest := []) (b := o) (ci := 5) (C := RX5) (T := TX5) (N := 3) ⟨hx, hb, hml, hown, hts⟩ (x_isAim l g base sa h0 o R I L A DR DI DL DA i v hX hB hV hj0 hi9 hv9) (cwV 2 hts gX5_fewest_X5_isAim rfl rfl rfl (by decide +kernel) ⟨Nat.le_of_ble_eq_true rfl, Nat.le_of_ble_eq_true rfl⟩) hk hW hS hX.1 rfl rfl hl.1 (Nat.le_of_ble_eq_true rfl) dX5_fewest_3 ⟨Nat.le_of_ble_eq_true rfl, Nat.le_of_ble_eq_true rfl⟩ (fun r9 h9 H locs hp hW hS => ?_)
  obtain ⟨rfl, e9⟩ := hp
  rw [e9] at hW
  refine W.widen (k := 0) (n := 0) (Nat.le_refl _) (Nat.le_refl _) ?_
  refine W.eq (g2 := F0 m 6 ls [.int (J (if ((i = -1 ∨ (0 ≤ i ∧ i < DI 1 0)) ∧ 0 ≤ v ∧ v ≤ 10) then 1 else 0))]) rfl ?_
  have hz := ifz (P := ((i = -1 ∨ (0 ≤ i ∧ i < DI 1 0)) ∧ 0 ≤ v ∧ v ≤ 10))
  refine j_if_ne (x := if ((i = -1 ∨ (0 ≤ i ∧ i < DI 1 0)) ∧ 0 ≤ v ∧ v ≤ 10) then 1 else 0) (tgt := 12) hx hb ⟨by omega, by omega⟩ dX5_fewest_6 (by decide) (fun c_6 => ?_) (fun c_6 => ?_)
  · have hq := ifz_1 c_6
    refine lv_aload_n hx hb dX5_fewest_12 rfl (lv_at hl 0 rfl) ?_
    refine g_get (ci := 5) (C := RX5) (T := TX5) (N := 3) (v := .ref (R 1)) hx hb hfX5 (fun _ h9 => h9) hown hk hW hX.1 rfl 1 (by decide) (hts (.fieldLink RX5 10 "JugsAndGlasses" "search" "LJugsAndGlasses$Search;") (by decide +kernel)) rfl rfl dX5_fewest_13 ?_
    refine g_callV (As := []) (rest := []) (b := R 1) (ci := 2) (C := RX2) (T := TX2) (N := 9) ⟨hx, hb, hml, hown, hts⟩ (q_explore l g base sa h0 (R 1) DR DI DL DA hB hV) (cwV 0 hts gX5_fewest_X2_explore rfl rfl rfl (by decide +kernel) ⟨Nat.le_of_ble_eq_true rfl, Nat.le_of_ble_eq_true rfl⟩) hk hW hS hB.1.1 rfl rfl hl.1 (Nat.le_of_ble_eq_true rfl) dX5_fewest_16 ⟨by rw [Nat.zero_add]; first | exact Nat.le_refl _ | exact Nat.le_add_right _ _ | exact hrc, by rw [Nat.zero_add]; first | exact Nat.le_refl _ | exact Nat.le_add_right _ _ | exact hrs⟩ (fun r9 h9 H locs hp hW hS => ?_)
    obtain ⟨rfl, hF9, DR1, DI1, DL1, DA1, hB, hV1, h61, hK, hs1, eL, e31⟩ := hp
    refine W.widen (k := tCel (DL 3 1) (jN DI DA)) (n := tSlo (DL 3 1) (jN DI DA)) (by rw [Nat.zero_add]; exact Nat.le_refl _) (by rw [Nat.zero_add]; exact Nat.le_refl _) ?_
    refine W.eq (g2 := F0 m 19 ls []) rfl ?_
    have hF := hF.tr hF9 (fun q w _ => w)
    have hX := hX.fr hF9 aX
    have hs1 : ∀ q, FS (R 1) DR1 q → FS (R 1) DR q ∨ h0 q = none := hs1
    have aX1 : ∀ q, FP 3 kd5 o R q → ¬ FS (R 1) DR1 q := fun q w z => by
      rcases hs1 q z with y | y
      · exact aX q w y
      · exact hX0.ex w y
    generalize h9 = h at hX hB hF hW
    obtain ⟨k1, k2, k3⟩ := hK
    have hN := Wok_N vW
    have eN : jN DI1 DA1 = jN DI DA := by unfold jN; rw [k1, k2]
    have hG : OB g 1 7 kd1 h (R 0) (DR1 1) (DI1 1) L4 (DA1 1) := by rw [hj0, ← k3 0 (by omega)]; exact hB.2.1
    obtain ⟨wW, wV, wZ, wF, wA, wT, wS, wg, g6, g7, g8⟩ := id hV1
    obtain ⟨⟨f0, y1, y2, y3⟩, yb, pp, yc⟩ := g6 h61
    have hfr : i32 (fnd (DA1 3 0) (goC (DI1 1 0) (DA1 1 4) i v) (DI1 3 3).toNat 0) := fnd_r (r := DI1 3 3) (fun k k0 k1 => (TB_fo yc (by rw [eN]; exact hN.2) yb).2 k k0 k1) (DI1 3 3).toNat 0 (by omega) (by have := (TB_fo yc (by rw [eN]; exact hN.2) yb).1; omega)
    refine lv_aload_n hx hb dX5_fewest_19 rfl (lv_at hl 0 rfl) ?_
    refine g_get (ci := 5) (C := RX5) (T := TX5) (N := 3) (v := .ref (R 1)) hx hb hfX5 (fun _ h9 => h9) hown hk hW hX.1 rfl 1 (by decide) (hts (.fieldLink RX5 10 "JugsAndGlasses" "search" "LJugsAndGlasses$Search;") (by decide +kernel)) rfl rfl dX5_fewest_20 ?_
    refine g_get (ci := 2) (C := RX2) (T := TX2) (N := 9) (v := .ref (DR1 0 2)) hx hb hfX2 (fun _ h9 => h9) hown hk hW hB.1.1 rfl 2 (by decide) (hts (.fieldLink RX5 81 "JugsAndGlasses$Search" "all" "LJugsAndGlasses$Tour;") (by decide +kernel)) rfl rfl dX5_fewest_23 ?_
    refine lv_aload_n hx hb dX5_fewest_26 rfl (lv_at hl 0 rfl) ?_
    refine g_get (ci := 5) (C := RX5) (T := TX5) (N := 3) (v := .ref (R 1)) hx hb hfX5 (fun _ h9 => h9) hown hk hW hX.1 rfl 1 (by decide) (hts (.fieldLink RX5 10 "JugsAndGlasses" "search" "LJugsAndGlasses$Search;") (by decide +kernel)) rfl rfl dX5_fewest_27 ?_
    refine lv_iload_n hx hb dX5_fewest_30 rfl (lv_at hl 1 rfl) ?_
    refine lv_iload_n hx hb dX5_fewest_31 rfl (lv_at hl 2 rfl) ?_
    refine g_callV (As := [.int (J i), .int (J v)]) (rest := [.ref (DR1 0 2)]) (b := R 1) (ci := 2) (C := RX2) (T := TX2) (N := 9) ⟨hx, hb, hml, hown, hts⟩ (q_nearest l g base sa h (R 1) DR1 DI1 DL1 DA1 i v hB hV1 h61 hi9 hv9) (cwV 2 hts gX5_fewest_X2_nearest rfl rfl rfl (by decide +kernel) ⟨Nat.le_of_ble_eq_true rfl, Nat.le_of_ble_eq_true rfl⟩) hk hW hS hB.1.1 rfl rfl hl.1 (Nat.le_of_ble_eq_true rfl) dX5_fewest_32 ⟨by first | exact Nat.le_refl _ | exact hrc | omega, by first | exact Nat.le_refl _ | exact hrs | omega⟩ (fun r9 h9 H locs hp hW hS => ?_)
    obtain ⟨rfl, hF9, f, hB, hV2⟩ := hp
    refine W.widen (k := tCel (DL 3 1) (jN DI DA)) (n := tSlo (DL 3 1) (jN DI DA)) (Nat.le_refl _) (Nat.le_refl _) ?_
    refine W.eq (g2 := F0 m 35 ls [.int (J (fnd (DA1 3 0) (goC (DI1 1 0) (DA1 1 4) i v) (DI1 3 3).toNat 0)), .ref (DR1 0 2)]) rfl ?_
    have hF := hF.tr hF9 (fun q w z => (hs1 q w).elim id (fun y => absurd y z))
    have hX := hX.fr hF9 aX1
    generalize h9 = h at hX hB hF hW
    have hG : OB g 1 7 kd1 h (R 0) (DR1 1) (DI1 1) L4 (DA1 1) := by rw [hj0, ← k3 0 (by omega)]; exact hB.2.1
    obtain ⟨DA2, eA⟩ : ∃ DA2, DA2 = va_up DA1 2 (va_up (DA1 2) 5 f) := ⟨_, rfl⟩
    have a0 : DA2 0 = DA1 0 := by rw [eA]; rfl
    have a1 : DA2 1 = DA1 1 := by rw [eA]; rfl
    have a3 : DA2 3 = DA1 3 := by rw [eA]; rfl
    have a4 : DA2 4 = DA1 4 := by rw [eA]; rfl
    have a5 : DA2 5 = DA1 5 := by rw [eA]; rfl
    rw [← eA] at hB hV2
    refine g_callV (As := [.int (J (fnd (DA1 3 0) (goC (DI1 1 0) (DA1 1 4) i v) (DI1 3 3).toNat 0))]) (rest := []) (b := DR1 0 2) (ci := 4) (C := RX4) (T := TX4) (N := 4) ⟨hx, hb, hml, hown, hts⟩ (t_acts l g base sa h (DR1 0 2) (DR1 3) (DI1 3) (DL1 3) (DA2 3) (fnd (DA1 3 0) (goC (DI1 1 0) (DA1 1 4) i v) (DI1 3 3).toNat 0) hB.2.2.2.1 hfr ⟨wA.1, wA.2.1⟩ (by rw [a3]; exact TB_lv yc (by rw [eN]; exact hN.2))) (cwV 1 hts gX5_fewest_X4_acts rfl rfl rfl (by decide +kernel) ⟨Nat.le_of_ble_eq_true rfl, Nat.le_of_ble_eq_true rfl⟩) hk hW hS hB.2.2.2.1.1 rfl rfl hl.1 (Nat.le_of_ble_eq_true rfl) dX5_fewest_35 ⟨by first | exact Nat.le_refl _ | exact hrc | omega, by first | exact Nat.le_refl _ | exact hrs | omega⟩ (fun r9 h9 H locs hp hW hS => ?_)
    obtain ⟨rfl, e9⟩ := hp
    rw [e9] at hW
    refine W.widen (k := tCel (DL 3 1) (jN DI DA)) (n := tSlo (DL 3 1) (jN DI DA)) (Nat.le_refl _) (Nat.le_refl _) ?_
    refine W.eq (g2 := F0 m 38 ls [.int (J (if 0 ≤ fnd (DA1 3 0) (goC (DI1 1 0) (DA1 1 4) i v) (DI1 3 3).toNat 0 ∧ fnd (DA1 3 0) (goC (DI1 1 0) (DA1 1 4) i v) (DI1 3 3).toNat 0 < DL1 3 1 ∧ 0 ≤ DA2 3 1 (fnd (DA1 3 0) (goC (DI1 1 0) (DA1 1 4) i v) (DI1 3 3).toNat 0) then DA2 3 1 (fnd (DA1 3 0) (goC (DI1 1 0) (DA1 1 4) i v) (DI1 3 3).toNat 0) else -1))]) rfl ?_
    refine W.widen (k := tCel (DL 3 1) (jN DI DA)) (n := tSlo (DL 3 1) (jN DI DA)) (by omega) (by omega) ?_
    exact g_iret hx hb hr hW hS dX5_fewest_38 hlocks (⟨hF, Or.inr ⟨hq, _, DR1, DI1, DL1, DA2, rfl, by have y9 := (ansF (i := i) (v := v) (tp := DI1 1 2) (dr := DI1 1 3) wW.1 wV (by rw [k1]; exact hq.1) yb yc).1; rw [a3]; unfold jX jC jN at *; rw [k1, k2] at y9; rw [k1, k2]; exact y9, hB, hV2, ⟨k1, by rw [a1]; exact k2, k3⟩, hs1, eL, e31⟩⟩)
  · refine lv_bipush (v := J (-2)) hx hb dX5_fewest_9 (by decide) ?_
    refine W.widen (k := tCel (DL 3 1) (jN DI DA)) (n := tSlo (DL 3 1) (jN DI DA)) (by omega) (by omega) ?_
    exact g_iret hx hb hr hW hS dX5_fewest_11 hlocks (⟨hF, Or.inl ⟨ifz_0 c_6, rfl, rfl⟩⟩)
