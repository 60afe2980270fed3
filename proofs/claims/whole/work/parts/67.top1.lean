theorem ifz {P : Prop} [Decidable P] : (if P then (1 : Int) else 0) = 0 ∨ (if P then (1 : Int) else 0) = 1 := by
  split
  · exact Or.inr rfl
  · exact Or.inl rfl
theorem ifz_1 {P : Prop} [Decidable P] (h : ¬ (if P then (1 : Int) else 0) = 0) : P := by
  by_cases q : P
  · exact q
  · rw [if_neg q] at h; exact absurd rfl h
theorem ifz_0 {P : Prop} [Decidable P] (h : (if P then (1 : Int) else 0) = 0) : ¬ P := fun q => by rw [if_pos q] at h; cases h

set_option maxHeartbeats 4000000 in
set_option maxRecDepth 100000 in
theorem x_isAim (l : Launch) (g : GX) (base : Nat) (sa : Nat → Nat) (h0 : Hp) (o : Nat) (R : Nat → Nat) (I L : Nat → Int) (A : Nat → Int → Int) (DR : Nat → Nat → Nat) (DI DL : Nat → Nat → Int) (DA : Nat → Nat → Int → Int) (i v : Int) (hX : OB g 5 3 kd5 h0 o R I L A) (hB : QB g h0 (R 1) DR DI DL DA) (hV : QV DI DL DA) (hj0 : R 0 = DR 0 0) (hi9 : i32 i) (hv9 : i32 v) : MC l g base sa yX5_isAim wsX5_isAim ({ frames := 1, cells := 0, slots := 0, locals := 21 }) ([.ref o, .int (J i), .int (J v)]) h0 (fun r h' => r = some (.int (J (if ((i = -1 ∨ (0 ≤ i ∧ i < DI 1 0)) ∧ 0 ≤ v ∧ v ≤ 10) then 1 else 0))) ∧ h' = h0) := by
  refine Met.ofW (cc := cX5_isAim) (maxL := 3) (ret := (some .boolean)) (by decide) rfl ?_
  intro p e s m args below meth c s₁ B hml hv
  obtain ⟨rfl, hk, hW⟩ := hv
  have hx := B.exec
  have hb := B.bytes
  have hr := B.returns
  have hts := atoms_spec (ws := wsX5_isAim) B.pre
  have hown : s.vm.findClass RX5 = some m.cls := findClass_of_methodNamed B.named
  have hlocks := B.notSynchronized
  have hfX1 : ∀ w ∈ wsX10, w.before ([.ref o, .int (J i), .int (J v)]).toArray s = true := fun w h => hts w (List.mem_cons_of_mem _ (List.mem_append_right _ h))
  have hfX5 : ∀ w ∈ wsX50, w.before ([.ref o, .int (J i), .int (J v)]).toArray s = true := fun w h => hts w (List.mem_cons_of_mem _ (List.mem_append_left _ (List.mem_append_right _ h)))
  have hS : va_S (Ab base) s.heap s.heap [] := va_S.rf
  have hl := lv_entry ([.ref o, .int (J i), .int (J v)]) (n := 3) (Nat.le_of_ble_eq_true rfl)
  rw [lg_entry_eq]
  generalize (lg_sl ([.ref o, .int (J i), .int (J v)]) ++ List.replicate (3 - (lg_sl ([.ref o, .int (J i), .int (J v)])).length) Slot.unset).toArray = ls at hl ⊢
  have hl : lv_has ls 3 [(0, .ref o), (1, .int (J i)), (2, .int (J v))] := hl
  obtain ⟨vW, vV, vZ, vF, vA, vT, vS, vg, f6, f7, f8⟩ := id hV
  have hn : 0 ≤ DI 1 0 ∧ DI 1 0 ≤ 4 := ⟨vW.1.1, vW.1.2.1⟩
  have hG : OB g 1 7 kd1 h0 (R 0) (DR 1) (DI 1) L4 (DA 1) := by rw [hj0]; exact hB.2.1
  obtain ⟨hi1, hi2⟩ := id hi9
  obtain ⟨hv1, hv2⟩ := id hv9
  refine lv_iload_n hx hb dX5_isAim_0 rfl (lv_at hl 1 rfl) ?_
  refine lv_iconst (v := J (-1)) hx hb dX5_isAim_1 rfl ?_
  refine j_icmp_eq (x := i) (y := (-1)) (tgt := 16) hx hb ⟨by omega, by omega⟩ ⟨by omega, by omega⟩ dX5_isAim_2 (by decide) (fun c_2 => ?_) (fun c_2 => ?_)
  · 
    refine lv_iload_n hx hb dX5_isAim_16 rfl (lv_at hl 2 rfl) ?_
    refine j_if_lt (x := v) (tgt := 30) hx hb ⟨by omega, by omega⟩ dX5_isAim_17 (by decide) (fun c_17 => ?_) (fun c_17 => ?_)
    · refine lv_iconst (v := J (0)) hx hb dX5_isAim_30 rfl ?_
      exact g_zret hx hb hr (by first | exact Or.inr rfl | exact Or.inl rfl) hW hS dX5_isAim_31 hlocks (⟨congrArg (fun q : Int => some (Value.int (J q))) (show 0 = (if ((i = -1 ∨ (0 ≤ i ∧ i < DI 1 0)) ∧ 0 ≤ v ∧ v ≤ 10) then 1 else 0) from by first | (rw [if_pos (by first | omega | (have := p_has_1 c_13; omega))]) | (rw [if_neg (by first | omega | (have := p_has_0 c_13; omega))])), rfl⟩)
    · 
      refine lv_iload_n hx hb dX5_isAim_20 rfl (lv_at hl 2 rfl) ?_
      refine lv_bipush (v := J (10)) hx hb dX5_isAim_21 (by decide) ?_
      refine j_icmp_gt (x := v) (y := 10) (tgt := 30) hx hb ⟨by omega, by omega⟩ ⟨by decide, by decide⟩ dX5_isAim_23 (by decide) (fun c_23 => ?_) (fun c_23 => ?_)
      · refine lv_iconst (v := J (0)) hx hb dX5_isAim_30 rfl ?_
        exact g_zret hx hb hr (by first | exact Or.inr rfl | exact Or.inl rfl) hW hS dX5_isAim_31 hlocks (⟨congrArg (fun q : Int => some (Value.int (J q))) (show 0 = (if ((i = -1 ∨ (0 ≤ i ∧ i < DI 1 0)) ∧ 0 ≤ v ∧ v ≤ 10) then 1 else 0) from by first | (rw [if_pos (by first | omega | (have := p_has_1 c_13; omega))]) | (rw [if_neg (by first | omega | (have := p_has_0 c_13; omega))])), rfl⟩)
      · refine lv_iconst (v := J (1)) hx hb dX5_isAim_26 rfl ?_
        refine lv_goto (tgt := 31) hx hb dX5_isAim_27 (by decide) ?_
        exact g_zret hx hb hr (by first | exact Or.inr rfl | exact Or.inl rfl) hW hS dX5_isAim_31 hlocks (⟨congrArg (fun q : Int => some (Value.int (J q))) (show 1 = (if ((i = -1 ∨ (0 ≤ i ∧ i < DI 1 0)) ∧ 0 ≤ v ∧ v ≤ 10) then 1 else 0) from by first | (rw [if_pos (by first | omega | (have := p_has_1 c_13; omega))]) | (rw [if_neg (by first | omega | (have := p_has_0 c_13; omega))])), rfl⟩)
  · refine lv_aload_n hx hb dX5_isAim_5 rfl (lv_at hl 0 rfl) ?_
    refine g_get (ci := 5) (C := RX5) (T := TX5) (N := 3) (v := .ref (R 0)) hx hb hfX5 (fun _ h9 => h9) hown hk hW hX.1 rfl 0 (by decide) (hts (.fieldLink RX5 20 "JugsAndGlasses" "jugs" "LJugsAndGlasses$Jugs;") (by decide +kernel)) rfl rfl dX5_isAim_6 ?_
    refine lv_iload_n hx hb dX5_isAim_9 rfl (lv_at hl 1 rfl) ?_
    refine g_callV (As := [.int (J i)]) (rest := []) (b := R 0) (ci := 1) (C := RX1) (T := TX1) (N := 7) ⟨hx, hb, hml, hown, hts⟩ (k_has l g base sa h0 (R 0) (DR 1) (DI 1) (DA 1) i hG hi9 hn) (cwV 1 hts gX5_isAim_X1_has rfl rfl rfl (by decide +kernel) ⟨Nat.le_of_ble_eq_true rfl, Nat.le_of_ble_eq_true rfl⟩) hk hW hS hG.1 rfl rfl hl.1 (Nat.le_of_ble_eq_true rfl) dX5_isAim_10 ⟨Nat.le_of_ble_eq_true rfl, Nat.le_of_ble_eq_true rfl⟩ (fun r9 h9 H locs hp hW hS => ?_)
    obtain ⟨rfl, e9⟩ := hp
    rw [e9] at hW
    refine W.eq (g2 := F0 m 13 ls [.int (J (p_has (DI 1 0) i))]) rfl ?_
    have hph := p_has_r (DI 1 0) i
    refine j_if_eq (x := p_has (DI 1 0) i) (tgt := 30) hx hb ⟨by omega, by omega⟩ dX5_isAim_13 (by decide) (fun c_13 => ?_) (fun c_13 => ?_)
    · refine lv_iconst (v := J (0)) hx hb dX5_isAim_30 rfl ?_
      exact g_zret hx hb hr (by first | exact Or.inr rfl | exact Or.inl rfl) hW hS dX5_isAim_31 hlocks (⟨congrArg (fun q : Int => some (Value.int (J q))) (show 0 = (if ((i = -1 ∨ (0 ≤ i ∧ i < DI 1 0)) ∧ 0 ≤ v ∧ v ≤ 10) then 1 else 0) from by first | (rw [if_pos (by first | omega | (have := p_has_1 c_13; omega))]) | (rw [if_neg (by first | omega | (have := p_has_0 c_13; omega))])), rfl⟩)
    · 
      refine lv_iload_n hx hb dX5_isAim_16 rfl (lv_at hl 2 rfl) ?_
      refine j_if_lt (x := v) (tgt := 30) hx hb ⟨by omega, by omega⟩ dX5_isAim_17 (by decide) (fun c_17 => ?_) (fun c_17 => ?_)
      · refine lv_iconst (v := J (0)) hx hb dX5_isAim_30 rfl ?_
        exact g_zret hx hb hr (by first | exact Or.inr rfl | exact Or.inl rfl) hW hS dX5_isAim_31 hlocks (⟨congrArg (fun q : Int => some (Value.int (J q))) (show 0 = (if ((i = -1 ∨ (0 ≤ i ∧ i < DI 1 0)) ∧ 0 ≤ v ∧ v ≤ 10) then 1 else 0) from by first | (rw [if_pos (by first | omega | (have := p_has_1 c_13; omega))]) | (rw [if_neg (by first | omega | (have := p_has_0 c_13; omega))])), rfl⟩)
      · 
        refine lv_iload_n hx hb dX5_isAim_20 rfl (lv_at hl 2 rfl) ?_
        refine lv_bipush (v := J (10)) hx hb dX5_isAim_21 (by decide) ?_
        refine j_icmp_gt (x := v) (y := 10) (tgt := 30) hx hb ⟨by omega, by omega⟩ ⟨by decide, by decide⟩ dX5_isAim_23 (by decide) (fun c_23 => ?_) (fun c_23 => ?_)
        · refine lv_iconst (v := J (0)) hx hb dX5_isAim_30 rfl ?_
          exact g_zret hx hb hr (by first | exact Or.inr rfl | exact Or.inl rfl) hW hS dX5_isAim_31 hlocks (⟨congrArg (fun q : Int => some (Value.int (J q))) (show 0 = (if ((i = -1 ∨ (0 ≤ i ∧ i < DI 1 0)) ∧ 0 ≤ v ∧ v ≤ 10) then 1 else 0) from by first | (rw [if_pos (by first | omega | (have := p_has_1 c_13; omega))]) | (rw [if_neg (by first | omega | (have := p_has_0 c_13; omega))])), rfl⟩)
        · refine lv_iconst (v := J (1)) hx hb dX5_isAim_26 rfl ?_
          refine lv_goto (tgt := 31) hx hb dX5_isAim_27 (by decide) ?_
          exact g_zret hx hb hr (by first | exact Or.inr rfl | exact Or.inl rfl) hW hS dX5_isAim_31 hlocks (⟨congrArg (fun q : Int => some (Value.int (J q))) (show 1 = (if ((i = -1 ∨ (0 ≤ i ∧ i < DI 1 0)) ∧ 0 ≤ v ∧ v ≤ 10) then 1 else 0) from by first | (rw [if_pos (by first | omega | (have := p_has_1 c_13; omega))]) | (rw [if_neg (by first | omega | (have := p_has_0 c_13; omega))])), rfl⟩)

set_option maxHeartbeats 4000000 in
set_option maxRecDepth 100000 in
theorem x_fewest (l : Launch) (g : GX) (base : Nat) (sa : Nat → Nat) (h0 : Hp) (o : Nat) (R : Nat → Nat) (I L : Nat → Int) (A : Nat → Int → Int) (DR : Nat → Nat → Nat) (DI DL : Nat → Nat → Int) (DA : Nat → Nat → Int → Int) (rc rs : Nat) (i v : Int) (hX : OB g 5 3 kd5 h0 o R I L A) (hB : QB g h0 (R 1) DR DI DL DA) (hV : QV DI DL DA) (hj0 : R 0 = DR 0 0) (aX : ∀ q, FP 3 kd5 o R q → ¬ FS (R 1) DR q) (hrm : ((i = -1 ∨ (0 ≤ i ∧ i < DI 1 0)) ∧ 0 ≤ v ∧ v ≤ 10) → tCel (DL 3 1) (jN DI DA) ≤ rc ∧ tSlo (DL 3 1) (jN DI DA) ≤ rs) (hi9 : i32 i) (hv9 : i32 v) : MC l g base sa yX5_fewest wsX5_fewest ({ frames := 5, cells := rc, slots := rs, locals := 120 }) ([.ref o, .int (J i), .int (J v)]) h0 (fun r9 h' => Fr (FS (R 1) DR) h0 h' ∧ ((¬ ((i = -1 ∨ (0 ≤ i ∧ i < DI 1 0)) ∧ 0 ≤ v ∧ v ≤ 10) ∧ r9 = some (.int (J (-2))) ∧ h' = h0) ∨ (((i = -1 ∨ (0 ≤ i ∧ i < DI 1 0)) ∧ 0 ≤ v ∧ v ≤ 10) ∧ ∃ z DR' DI' DL' DA', r9 = some (.int (J z)) ∧ AnF (DI 1 0) (DI 1 2) (DI 1 3) (DA 1 4) (DA 1 5) i v z ∧ QB g h' (R 1) DR' DI' DL' DA' ∧ QV DI' DL' DA' ∧ QK DR DR' DI DI' DA DA' ∧ (∀ q, FS (R 1) DR' q → FS (R 1) DR q ∨ h0 q = none) ∧ DL' = va_up DL 3 (DL' 3) ∧ DL' 3 1 = tLen (DL 3 1) (jN DI DA)))) := by
  refine Met.ofW (cc := cX5_fewest) (maxL := 3) (ret := (some .int)) (by decide) rfl ?_
  intro p e s m args below meth c s₁ B hml hv
  obtain ⟨rfl, hk, hW⟩ := hv
  have hx := B.exec
  have hb := B.bytes
  have hr := B.returns
  have hts := atoms_spec (ws := wsX5_fewest) B.pre
  have hown : s.vm.findClass RX5 = some m.cls := findClass_of_methodNamed B.named
  have hlocks := B.notSynchronized
  have hfX1 : ∀ w ∈ wsX10, w.before ([.ref o, .int (J i), .int (J v)]).toArray s = true := fun w h => hts w (List.mem_cons_of_mem _ (List.mem_append_left _ (List.mem_append_left _ (List.mem_append_right _ h))))
  have hfX2 : ∀ w ∈ wsX20, w.before ([.ref o, .int (J i), .int (J v)]).toArray s = true := fun w h => hts w (List.mem_cons_of_mem _ (List.mem_append_left _ (List.mem_append_left _ (List.mem_append_left _ (List.mem_append_right _ h)))))
  have hfX5 : ∀ w ∈ wsX50, w.before ([.ref o, .int (J i), .int (J v)]).toArray s = true := fun w h => hts w (List.mem_cons_of_mem _ (List.mem_append_left _ (List.mem_append_left _ (List.mem_append_left _ (List.mem_append_left _ (List.mem_append_right _ h))))))
  have hS : va_S (Ab base) s.heap s.heap [] := va_S.rf
  have hl := lv_entry ([.ref o, .int (J i), .int (J v)]) (n := 3) (Nat.le_of_ble_eq_true rfl)
  rw [lg_entry_eq]
  generalize (lg_sl ([.ref o, .int (J i), .int (J v)]) ++ List.replicate (3 - (lg_sl ([.ref o, .int (J i), .int (J v)])).length) Slot.unset).toArray = ls at hl ⊢
  have hl : lv_has ls 3 [(0, .ref o), (1, .int (J i)), (2, .int (J v))] := hl
  have hF : Fr (FS (R 1) DR) h0 h0 := Fr.rf
  obtain ⟨vW, vV, vZ, vF, vA, vT, vS, vg, f6, f7, f8⟩ := id hV
  have hn : 0 ≤ DI 1 0 ∧ DI 1 0 ≤ 4 := ⟨vW.1.1, vW.1.2.1⟩
  have hG : OB g 1 7 kd1 h0 (R 0) (DR 1) (DI 1) L4 (DA 1) := by rw [hj0]; exact hB.2.1
  have hX0 := hX
  refine lv_aload_n hx hb dX5_fewest_0 rfl (lv_at hl 0 rfl) ?_
  refine lv_iload_n hx hb dX5_fewest_1 rfl (lv_at hl 1 rfl) ?_
  refine lv_iload_n hx hb dX5_fewest_2 rfl (lv_at hl 2 rfl) ?_
  refine g_callV (As := [.int (J i), .int (J v)]) (rest := []) (b := o) (ci := 5) (C := RX5) (T := TX5) (N := 3) ⟨hx, hb, hml, hown, hts⟩ (x_isAim l g base sa h0 o R I L A DR DI DL DA i v hX hB hV hj0 hi9 hv9) (cwV 2 hts gX5_fewest_X5_isAim rfl rfl rfl (by decide +kernel) ⟨Nat.le_of_ble_eq_true rfl, Nat.le_of_ble_eq_true rfl⟩) hk hW hS hX.1 rfl rfl hl.1 (Nat.le_of_ble_eq_true rfl) dX5_fewest_3 ⟨Nat.le_of_ble_eq_true rfl, Nat.le_of_ble_eq_true rfl⟩ (fun r9 h9 H locs hp hW hS => ?_)
  obtain ⟨rfl, e9⟩ := hp
  rw [e9] at hW
  refine W.widen (k := 0) (n := 0) (Nat.le_refl _) (Nat.le_refl _) ?_
  refine W.eq (g2 := F0 m 6 ls [.int (J (if ((i = -1 ∨ (0 ≤ i ∧ i < DI 1 0)) ∧ 0 ≤ v ∧ v ≤ 10) then 1 else 0))]) rfl ?_
  have hz := ifz (P := ((i = -1 ∨ (0 ≤ i ∧ i < DI 1 0)) ∧ 0 ≤ v ∧ v ≤ 10))
  refine j_if_ne (x := if ((i = -1 ∨ (0 ≤ i ∧ i < DI 1 0)) ∧ 0 ≤ v ∧ v ≤ 10) then 1 else 0) (tgt := 12) hx hb ⟨by omega, by omega⟩ dX5_fewest_6 (by decide) (fun c_6 => ?_) (fun c_6 => ?_)
  · have hq := ifz_1 c_6
    have hrq := hrm hq
    refine lv_aload_n hx hb dX5_fewest_12 rfl (lv_at hl 0 rfl) ?_
    refine g_get (ci := 5) (C := RX5) (T := TX5) (N := 3) (v := .ref (R 1)) hx hb hfX5 (fun _ h9 => h9) hown hk hW hX.1 rfl 1 (by decide) (hts (.fieldLink RX5 10 "JugsAndGlasses" "search" "LJugsAndGlasses$Search;") (by decide +kernel)) rfl rfl dX5_fewest_13 ?_
    refine g_callV (As := []) (rest := []) (b := R 1) (ci := 2) (C := RX2) (T := TX2) (N := 9) ⟨hx, hb, hml, hown, hts⟩ (q_explore l g base sa h0 (R 1) DR DI DL DA hB hV) (cwV 0 hts gX5_fewest_X2_explore rfl rfl rfl (by decide +kernel) ⟨Nat.le_of_ble_eq_true rfl, Nat.le_of_ble_eq_true rfl⟩) hk hW hS hB.1.1 rfl rfl hl.1 (Nat.le_of_ble_eq_true rfl) dX5_fewest_16 ⟨by first | exact Nat.le_refl _ | (rw [Nat.zero_add]; first | exact hrq.1 | exact Nat.le_trans (Nat.le_add_right _ _) hrq.1 | exact Nat.le_refl _) | exact hrq.1 | exact Nat.le_trans (Nat.le_add_right _ _) hrq.1, by first | exact Nat.le_refl _ | (rw [Nat.zero_add]; first | exact hrq.2 | exact Nat.le_trans (Nat.le_add_right _ _) hrq.2 | exact Nat.le_refl _) | exact hrq.2 | exact Nat.le_trans (Nat.le_add_right _ _) hrq.2⟩ (fun r9 h9 H locs hp hW hS => ?_)
    obtain ⟨rfl, hF9, DR1, DI1, DL1, DA1, hB, hV1, h61, hK, hs1, eL, e31⟩ := hp
    refine W.widen (k := tCel (DL 3 1) (jN DI DA)) (n := tSlo (DL 3 1) (jN DI DA)) (by rw [Nat.zero_add]; exact Nat.le_refl _) (by rw [Nat.zero_add]; exact Nat.le_refl _) ?_
    refine W.eq (g2 := F0 m 19 ls []) rfl ?_
    have hF := hF.tr hF9 (fun q w _ => w)
    have hX := hX.fr hF9 aX
    have hs1 : ∀ q, FS (R 1) DR1 q → FS (R 1) DR q ∨ h0 q = none := hs1
    have aX1 : ∀ q, FP 3 kd5 o R q → ¬ FS (R 1) DR1 q := fun q w z => by
      rcases hs1 q z with y | y
      · exact aX q w y
      · exact hX0.ex w y
    generalize h9 = h at hX hB hF hW
    obtain ⟨k1, k2, k3⟩ := hK
    have hN := Wok_N vW
    have eN : jN DI1 DA1 = jN DI DA := by unfold jN; rw [k1, k2]
    have hG : OB g 1 7 kd1 h (R 0) (DR1 1) (DI1 1) L4 (DA1 1) := by rw [hj0, ← k3 0 (by omega)]; exact hB.2.1
    obtain ⟨wW, wV, wZ, wF, wA, wT, wS, wg, g6, g7, g8⟩ := id hV1
    obtain ⟨⟨f0, y1, y2, y3⟩, yb, pp, yc⟩ := g6 h61
    have hfr : i32 (fnd (DA1 3 0) (goC (DI1 1 0) (DA1 1 4) i v) (DI1 3 3).toNat 0) := fnd_r (r := DI1 3 3) (fun k k0 k1 => (TB_fo yc (by rw [eN]; exact hN.2) yb).2 k k0 k1) (DI1 3 3).toNat 0 (by omega) (by have := (TB_fo yc (by rw [eN]; exact hN.2) yb).1; omega)
    refine lv_aload_n hx hb dX5_fewest_19 rfl (lv_at hl 0 rfl) ?_
    refine g_get (ci := 5) (C := RX5) (T := TX5) (N := 3) (v := .ref (R 1)) hx hb hfX5 (fun _ h9 => h9) hown hk hW hX.1 rfl 1 (by decide) (hts (.fieldLink RX5 10 "JugsAndGlasses" "search" "LJugsAndGlasses$Search;") (by decide +kernel)) rfl rfl dX5_fewest_20 ?_
    refine g_get (ci := 2) (C := RX2) (T := TX2) (N := 9) (v := .ref (DR1 0 2)) hx hb hfX2 (fun _ h9 => h9) hown hk hW hB.1.1 rfl 2 (by decide) (hts (.fieldLink RX5 81 "JugsAndGlasses$Search" "all" "LJugsAndGlasses$Tour;") (by decide +kernel)) rfl rfl dX5_fewest_23 ?_
    refine lv_aload_n hx hb dX5_fewest_26 rfl (lv_at hl 0 rfl) ?_
    refine g_get (ci := 5) (C := RX5) (T := TX5) (N := 3) (v := .ref (R 1)) hx hb hfX5 (fun _ h9 => h9) hown hk hW hX.1 rfl 1 (by decide) (hts (.fieldLink RX5 10 "JugsAndGlasses" "search" "LJugsAndGlasses$Search;") (by decide +kernel)) rfl rfl dX5_fewest_27 ?_
    refine lv_iload_n hx hb dX5_fewest_30 rfl (lv_at hl 1 rfl) ?_
    refine lv_iload_n hx hb dX5_fewest_31 rfl (lv_at hl 2 rfl) ?_
    refine g_callV (As := [.int (J i), .int (J v)]) (rest := [.ref (DR1 0 2)]) (b := R 1) (ci := 2) (C := RX2) (T := TX2) (N := 9) ⟨hx, hb, hml, hown, hts⟩ (q_nearest l g base sa h (R 1) DR1 DI1 DL1 DA1 i v hB hV1 h61 hi9 hv9) (cwV 2 hts gX5_fewest_X2_nearest rfl rfl rfl (by decide +kernel) ⟨Nat.le_of_ble_eq_true rfl, Nat.le_of_ble_eq_true rfl⟩) hk hW hS hB.1.1 rfl rfl hl.1 (Nat.le_of_ble_eq_true rfl) dX5_fewest_32 ⟨by first | exact Nat.le_refl _ | (rw [Nat.zero_add]; first | exact hrq.1 | exact Nat.le_trans (Nat.le_add_right _ _) hrq.1 | exact Nat.le_refl _) | exact hrq.1 | exact Nat.le_trans (Nat.le_add_right _ _) hrq.1, by first | exact Nat.le_refl _ | (rw [Nat.zero_add]; first | exact hrq.2 | exact Nat.le_trans (Nat.le_add_right _ _) hrq.2 | exact Nat.le_refl _) | exact hrq.2 | exact Nat.le_trans (Nat.le_add_right _ _) hrq.2⟩ (fun r9 h9 H locs hp hW hS => ?_)
    obtain ⟨rfl, hF9, f, hB, hV2⟩ := hp
    refine W.widen (k := tCel (DL 3 1) (jN DI DA)) (n := tSlo (DL 3 1) (jN DI DA)) (Nat.le_refl _) (Nat.le_refl _) ?_
    refine W.eq (g2 := F0 m 35 ls [.int (J (fnd (DA1 3 0) (goC (DI1 1 0) (DA1 1 4) i v) (DI1 3 3).toNat 0)), .ref (DR1 0 2)]) rfl ?_
    have hF := hF.tr hF9 (fun q w z => (hs1 q w).elim id (fun y => absurd y z))
    have hX := hX.fr hF9 aX1
    generalize h9 = h at hX hB hF hW
    have hG : OB g 1 7 kd1 h (R 0) (DR1 1) (DI1 1) L4 (DA1 1) := by rw [hj0, ← k3 0 (by omega)]; exact hB.2.1
    obtain ⟨DA2, eA⟩ : ∃ DA2, DA2 = va_up DA1 2 (va_up (DA1 2) 5 f) := ⟨_, rfl⟩
    have a0 : DA2 0 = DA1 0 := by rw [eA]; rfl
    have a1 : DA2 1 = DA1 1 := by rw [eA]; rfl
    have a3 : DA2 3 = DA1 3 := by rw [eA]; rfl
    have a4 : DA2 4 = DA1 4 := by rw [eA]; rfl
    have a5 : DA2 5 = DA1 5 := by rw [eA]; rfl
    rw [← eA] at hB hV2
    refine g_callV (As := [.int (J (fnd (DA1 3 0) (goC (DI1 1 0) (DA1 1 4) i v) (DI1 3 3).toNat 0))]) (rest := []) (b := DR1 0 2) (ci := 4) (C := RX4) (T := TX4) (N := 4) ⟨hx, hb, hml, hown, hts⟩ (t_acts l g base sa h (DR1 0 2) (DR1 3) (DI1 3) (DL1 3) (DA2 3) (fnd (DA1 3 0) (goC (DI1 1 0) (DA1 1 4) i v) (DI1 3 3).toNat 0) hB.2.2.2.1 hfr ⟨wA.1, wA.2.1⟩ (by rw [a3]; exact TB_lv yc (by rw [eN]; exact hN.2))) (cwV 1 hts gX5_fewest_X4_acts rfl rfl rfl (by decide +kernel) ⟨Nat.le_of_ble_eq_true rfl, Nat.le_of_ble_eq_true rfl⟩) hk hW hS hB.2.2.2.1.1 rfl rfl hl.1 (Nat.le_of_ble_eq_true rfl) dX5_fewest_35 ⟨by first | exact Nat.le_refl _ | (rw [Nat.zero_add]; first | exact hrq.1 | exact Nat.le_trans (Nat.le_add_right _ _) hrq.1 | exact Nat.le_refl _) | exact hrq.1 | exact Nat.le_trans (Nat.le_add_right _ _) hrq.1, by first | exact Nat.le_refl _ | (rw [Nat.zero_add]; first | exact hrq.2 | exact Nat.le_trans (Nat.le_add_right _ _) hrq.2 | exact Nat.le_refl _) | exact hrq.2 | exact Nat.le_trans (Nat.le_add_right _ _) hrq.2⟩ (fun r9 h9 H locs hp hW hS => ?_)
    obtain ⟨rfl, e9⟩ := hp
    rw [e9] at hW
    refine W.widen (k := tCel (DL 3 1) (jN DI DA)) (n := tSlo (DL 3 1) (jN DI DA)) (Nat.le_refl _) (Nat.le_refl _) ?_
    refine W.eq (g2 := F0 m 38 ls [.int (J (if 0 ≤ fnd (DA1 3 0) (goC (DI1 1 0) (DA1 1 4) i v) (DI1 3 3).toNat 0 ∧ fnd (DA1 3 0) (goC (DI1 1 0) (DA1 1 4) i v) (DI1 3 3).toNat 0 < DL1 3 1 ∧ 0 ≤ DA2 3 1 (fnd (DA1 3 0) (goC (DI1 1 0) (DA1 1 4) i v) (DI1 3 3).toNat 0) then DA2 3 1 (fnd (DA1 3 0) (goC (DI1 1 0) (DA1 1 4) i v) (DI1 3 3).toNat 0) else -1))]) rfl ?_
    refine W.widen (k := rc) (n := rs) (by omega) (by omega) ?_
    exact g_iret hx hb hr hW hS dX5_fewest_38 hlocks (⟨hF, Or.inr ⟨hq, _, DR1, DI1, DL1, DA2, rfl, by have y9 := (ansF (i := i) (v := v) (tp := DI1 1 2) (dr := DI1 1 3) wW.1 wV (by rw [k1]; exact hq.1) yb yc).1; rw [a3]; unfold jX jC jN at *; rw [k1, k2] at y9; rw [k1, k2]; exact y9, hB, hV2, ⟨k1, by rw [a1]; exact k2, k3⟩, hs1, eL, e31⟩⟩)
  · refine lv_bipush (v := J (-2)) hx hb dX5_fewest_9 (by decide) ?_
    refine W.widen (k := rc) (n := rs) (by omega) (by omega) ?_
    exact g_iret hx hb hr hW hS dX5_fewest_11 hlocks (⟨hF, Or.inl ⟨ifz_0 c_6, rfl, rfl⟩⟩)

set_option maxHeartbeats 4000000 in
set_option maxRecDepth 100000 in
theorem x_best (l : Launch) (g : GX) (base : Nat) (sa : Nat → Nat) (h0 : Hp) (o : Nat) (R : Nat → Nat) (I L : Nat → Int) (A : Nat → Int → Int) (DR : Nat → Nat → Nat) (DI DL : Nat → Nat → Int) (DA : Nat → Nat → Int → Int) (rc rs : Nat) (i v k : Int) (hX : OB g 5 3 kd5 h0 o R I L A) (hB : QB g h0 (R 1) DR DI DL DA) (hV : QV DI DL DA) (hj0 : R 0 = DR 0 0) (aX : ∀ q, FP 3 kd5 o R q → ¬ FS (R 1) DR q) (hrm : (((i = -1 ∨ (0 ≤ i ∧ i < DI 1 0)) ∧ 0 ≤ v ∧ v ≤ 10) ∧ 0 ≤ k) → tCel (DL 3 1) (jN DI DA) ≤ rc ∧ tSlo (DL 3 1) (jN DI DA) ≤ rs) (hi9 : i32 i) (hv9 : i32 v) (hk9 : i32 k) : MC l g base sa yX5_best wsX5_best ({ frames := 5, cells := rc, slots := rs, locals := 120 }) ([.ref o, .int (J i), .int (J v), .int (J k)]) h0 (fun r9 h' => Fr (FS (R 1) DR) h0 h' ∧ ((¬ (((i = -1 ∨ (0 ≤ i ∧ i < DI 1 0)) ∧ 0 ≤ v ∧ v ≤ 10) ∧ 0 ≤ k) ∧ r9 = some (.int (J (-2))) ∧ h' = h0) ∨ ((((i = -1 ∨ (0 ≤ i ∧ i < DI 1 0)) ∧ 0 ≤ v ∧ v ≤ 10) ∧ 0 ≤ k) ∧ ∃ z DR' DI' DL' DA', r9 = some (.int (J z)) ∧ AnB (DI 1 0) (DI 1 2) (DI 1 3) (DA 1 4) (DA 1 5) i v k z ∧ QB g h' (R 1) DR' DI' DL' DA' ∧ QV DI' DL' DA' ∧ QK DR DR' DI DI' DA DA' ∧ (∀ q, FS (R 1) DR' q → FS (R 1) DR q ∨ h0 q = none) ∧ DL' = va_up DL 3 (DL' 3) ∧ DL' 3 1 = tLen (DL 3 1) (jN DI DA)))) := by
  refine Met.ofW (cc := cX5_best) (maxL := 4) (ret := (some .int)) (by decide) rfl ?_
  intro p e s m args below meth c s₁ B hml hv
  obtain ⟨rfl, hk, hW⟩ := hv
  have hx := B.exec
  have hb := B.bytes
  have hr := B.returns
  have hts := atoms_spec (ws := wsX5_best) B.pre
  have hown : s.vm.findClass RX5 = some m.cls := findClass_of_methodNamed B.named
  have hlocks := B.notSynchronized
  have hfX1 : ∀ w ∈ wsX10, w.before ([.ref o, .int (J i), .int (J v), .int (J k)]).toArray s = true := fun w h => hts w (List.mem_cons_of_mem _ (List.mem_append_left _ (List.mem_append_left _ (List.mem_append_right _ h))))
  have hfX2 : ∀ w ∈ wsX20, w.before ([.ref o, .int (J i), .int (J v), .int (J k)]).toArray s = true := fun w h => hts w (List.mem_cons_of_mem _ (List.mem_append_left _ (List.mem_append_left _ (List.mem_append_left _ (List.mem_append_right _ h)))))
  have hfX5 : ∀ w ∈ wsX50, w.before ([.ref o, .int (J i), .int (J v), .int (J k)]).toArray s = true := fun w h => hts w (List.mem_cons_of_mem _ (List.mem_append_left _ (List.mem_append_left _ (List.mem_append_left _ (List.mem_append_left _ (List.mem_append_right _ h))))))
  have hS : va_S (Ab base) s.heap s.heap [] := va_S.rf
  have hl := lv_entry ([.ref o, .int (J i), .int (J v), .int (J k)]) (n := 4) (Nat.le_of_ble_eq_true rfl)
  rw [lg_entry_eq]
  generalize (lg_sl ([.ref o, .int (J i), .int (J v), .int (J k)]) ++ List.replicate (4 - (lg_sl ([.ref o, .int (J i), .int (J v), .int (J k)])).length) Slot.unset).toArray = ls at hl ⊢
  have hl : lv_has ls 4 [(0, .ref o), (1, .int (J i)), (2, .int (J v)), (3, .int (J k))] := hl
  have hF : Fr (FS (R 1) DR) h0 h0 := Fr.rf
  obtain ⟨vW, vV, vZ, vF, vA, vT, vS, vg, f6, f7, f8⟩ := id hV
  have hn : 0 ≤ DI 1 0 ∧ DI 1 0 ≤ 4 := ⟨vW.1.1, vW.1.2.1⟩
  have hG : OB g 1 7 kd1 h0 (R 0) (DR 1) (DI 1) L4 (DA 1) := by rw [hj0]; exact hB.2.1
  have hX0 := hX
  obtain ⟨hk1, hk2⟩ := id hk9
  refine lv_aload_n hx hb dX5_best_0 rfl (lv_at hl 0 rfl) ?_
  refine lv_iload_n hx hb dX5_best_1 rfl (lv_at hl 1 rfl) ?_
  refine lv_iload_n hx hb dX5_best_2 rfl (lv_at hl 2 rfl) ?_
  refine g_callV (As := [.int (J i), .int (J v)]) (rest := []) (b := o) (ci := 5) (C := RX5) (T := TX5) (N := 3) ⟨hx, hb, hml, hown, hts⟩ (x_isAim l g base sa h0 o R I L A DR DI DL DA i v hX hB hV hj0 hi9 hv9) (cwV 2 hts gX5_best_X5_isAim rfl rfl rfl (by decide +kernel) ⟨Nat.le_of_ble_eq_true rfl, Nat.le_of_ble_eq_true rfl⟩) hk hW hS hX.1 rfl rfl hl.1 (Nat.le_of_ble_eq_true rfl) dX5_best_3 ⟨Nat.le_of_ble_eq_true rfl, Nat.le_of_ble_eq_true rfl⟩ (fun r9 h9 H locs hp hW hS => ?_)
  obtain ⟨rfl, e9⟩ := hp
  rw [e9] at hW
  refine W.widen (k := 0) (n := 0) (Nat.le_refl _) (Nat.le_refl _) ?_
  refine W.eq (g2 := F0 m 6 ls [.int (J (if ((i = -1 ∨ (0 ≤ i ∧ i < DI 1 0)) ∧ 0 ≤ v ∧ v ≤ 10) then 1 else 0))]) rfl ?_
  have hz := ifz (P := ((i = -1 ∨ (0 ≤ i ∧ i < DI 1 0)) ∧ 0 ≤ v ∧ v ≤ 10))
  refine j_if_eq (x := if ((i = -1 ∨ (0 ≤ i ∧ i < DI 1 0)) ∧ 0 ≤ v ∧ v ≤ 10) then 1 else 0) (tgt := 13) hx hb ⟨by omega, by omega⟩ dX5_best_6 (by decide) (fun c_6 => ?_) (fun c_6 => ?_)
  · refine lv_bipush (v := J (-2)) hx hb dX5_best_13 (by decide) ?_
    refine W.widen (k := rc) (n := rs) (by omega) (by omega) ?_
    exact g_iret hx hb hr hW hS dX5_best_15 hlocks (⟨hF, Or.inl ⟨by first | exact (fun w => ifz_0 c_6 w.1) | exact (fun w => c_10 w.2), rfl, rfl⟩⟩)
  · have hq := ifz_1 c_6
    refine lv_iload_n hx hb dX5_best_9 rfl (lv_at hl 3 rfl) ?_
    refine j_if_ge (x := k) (tgt := 16) hx hb ⟨by omega, by omega⟩ dX5_best_10 (by decide) (fun c_10 => ?_) (fun c_10 => ?_)
    · have hrq := hrm ⟨hq, by omega⟩
      refine lv_aload_n hx hb dX5_best_16 rfl (lv_at hl 0 rfl) ?_
      refine g_get (ci := 5) (C := RX5) (T := TX5) (N := 3) (v := .ref (R 1)) hx hb hfX5 (fun _ h9 => h9) hown hk hW hX.1 rfl 1 (by decide) (hts (.fieldLink RX5 10 "JugsAndGlasses" "search" "LJugsAndGlasses$Search;") (by decide +kernel)) rfl rfl dX5_best_17 ?_
      refine g_callV (As := []) (rest := []) (b := R 1) (ci := 2) (C := RX2) (T := TX2) (N := 9) ⟨hx, hb, hml, hown, hts⟩ (q_explore l g base sa h0 (R 1) DR DI DL DA hB hV) (cwV 0 hts gX5_best_X2_explore rfl rfl rfl (by decide +kernel) ⟨Nat.le_of_ble_eq_true rfl, Nat.le_of_ble_eq_true rfl⟩) hk hW hS hB.1.1 rfl rfl hl.1 (Nat.le_of_ble_eq_true rfl) dX5_best_20 ⟨by first | exact Nat.le_refl _ | (rw [Nat.zero_add]; first | exact hrq.1 | exact Nat.le_trans (Nat.le_add_right _ _) hrq.1 | exact Nat.le_refl _) | exact hrq.1 | exact Nat.le_trans (Nat.le_add_right _ _) hrq.1, by first | exact Nat.le_refl _ | (rw [Nat.zero_add]; first | exact hrq.2 | exact Nat.le_trans (Nat.le_add_right _ _) hrq.2 | exact Nat.le_refl _) | exact hrq.2 | exact Nat.le_trans (Nat.le_add_right _ _) hrq.2⟩ (fun r9 h9 H locs hp hW hS => ?_)
      obtain ⟨rfl, hF9, DR1, DI1, DL1, DA1, hB, hV1, h61, hK, hs1, eL, e31⟩ := hp
      refine W.widen (k := tCel (DL 3 1) (jN DI DA)) (n := tSlo (DL 3 1) (jN DI DA)) (by rw [Nat.zero_add]; exact Nat.le_refl _) (by rw [Nat.zero_add]; exact Nat.le_refl _) ?_
      refine W.eq (g2 := F0 m 23 ls []) rfl ?_
      have hF := hF.tr hF9 (fun q w _ => w)
      have hX := hX.fr hF9 aX
      have hs1 : ∀ q, FS (R 1) DR1 q → FS (R 1) DR q ∨ h0 q = none := hs1
      have aX1 : ∀ q, FP 3 kd5 o R q → ¬ FS (R 1) DR1 q := fun q w z => by
        rcases hs1 q z with y | y
        · exact aX q w y
        · exact hX0.ex w y
      generalize h9 = h at hX hB hF hW
      obtain ⟨k1, k2, k3⟩ := hK
      have hN := Wok_N vW
      have eN : jN DI1 DA1 = jN DI DA := by unfold jN; rw [k1, k2]
      have hG : OB g 1 7 kd1 h (R 0) (DR1 1) (DI1 1) L4 (DA1 1) := by rw [hj0, ← k3 0 (by omega)]; exact hB.2.1
      obtain ⟨wW, wV, wZ, wF, wA, wT, wS, wg, g6, g7, g8⟩ := id hV1
      obtain ⟨⟨f0, y1, y2, y3⟩, yb, pp, yc⟩ := g6 h61
      have hfr : i32 (fnd (DA1 3 0) (goC (DI1 1 0) (DA1 1 4) i v) (DI1 3 3).toNat 0) := fnd_r (r := DI1 3 3) (fun k k0 k1 => (TB_fo yc (by rw [eN]; exact hN.2) yb).2 k k0 k1) (DI1 3 3).toNat 0 (by omega) (by have := (TB_fo yc (by rw [eN]; exact hN.2) yb).1; omega)
      refine lv_aload_n hx hb dX5_best_23 rfl (lv_at hl 0 rfl) ?_
      refine g_get (ci := 5) (C := RX5) (T := TX5) (N := 3) (v := .ref (R 1)) hx hb hfX5 (fun _ h9 => h9) hown hk hW hX.1 rfl 1 (by decide) (hts (.fieldLink RX5 10 "JugsAndGlasses" "search" "LJugsAndGlasses$Search;") (by decide +kernel)) rfl rfl dX5_best_24 ?_
      refine g_get (ci := 2) (C := RX2) (T := TX2) (N := 9) (v := .ref (DR1 0 2)) hx hb hfX2 (fun _ h9 => h9) hown hk hW hB.1.1 rfl 2 (by decide) (hts (.fieldLink RX5 81 "JugsAndGlasses$Search" "all" "LJugsAndGlasses$Tour;") (by decide +kernel)) rfl rfl dX5_best_27 ?_
      refine lv_aload_n hx hb dX5_best_30 rfl (lv_at hl 0 rfl) ?_
      refine g_get (ci := 5) (C := RX5) (T := TX5) (N := 3) (v := .ref (R 1)) hx hb hfX5 (fun _ h9 => h9) hown hk hW hX.1 rfl 1 (by decide) (hts (.fieldLink RX5 10 "JugsAndGlasses" "search" "LJugsAndGlasses$Search;") (by decide +kernel)) rfl rfl dX5_best_31 ?_
      refine lv_iload_n hx hb dX5_best_34 rfl (lv_at hl 1 rfl) ?_
      refine lv_iload_n hx hb dX5_best_35 rfl (lv_at hl 2 rfl) ?_
      refine g_callV (As := [.int (J i), .int (J v)]) (rest := [.ref (DR1 0 2)]) (b := R 1) (ci := 2) (C := RX2) (T := TX2) (N := 9) ⟨hx, hb, hml, hown, hts⟩ (q_nearest l g base sa h (R 1) DR1 DI1 DL1 DA1 i v hB hV1 h61 hi9 hv9) (cwV 2 hts gX5_best_X2_nearest rfl rfl rfl (by decide +kernel) ⟨Nat.le_of_ble_eq_true rfl, Nat.le_of_ble_eq_true rfl⟩) hk hW hS hB.1.1 rfl rfl hl.1 (Nat.le_of_ble_eq_true rfl) dX5_best_36 ⟨by first | exact Nat.le_refl _ | (rw [Nat.zero_add]; first | exact hrq.1 | exact Nat.le_trans (Nat.le_add_right _ _) hrq.1 | exact Nat.le_refl _) | exact hrq.1 | exact Nat.le_trans (Nat.le_add_right _ _) hrq.1, by first | exact Nat.le_refl _ | (rw [Nat.zero_add]; first | exact hrq.2 | exact Nat.le_trans (Nat.le_add_right _ _) hrq.2 | exact Nat.le_refl _) | exact hrq.2 | exact Nat.le_trans (Nat.le_add_right _ _) hrq.2⟩ (fun r9 h9 H locs hp hW hS => ?_)
      obtain ⟨rfl, hF9, f, hB, hV2⟩ := hp
      refine W.widen (k := tCel (DL 3 1) (jN DI DA)) (n := tSlo (DL 3 1) (jN DI DA)) (Nat.le_refl _) (Nat.le_refl _) ?_
      refine W.eq (g2 := F0 m 39 ls [.int (J (fnd (DA1 3 0) (goC (DI1 1 0) (DA1 1 4) i v) (DI1 3 3).toNat 0)), .ref (DR1 0 2)]) rfl ?_
      have hF := hF.tr hF9 (fun q w z => (hs1 q w).elim id (fun y => absurd y z))
      have hX := hX.fr hF9 aX1
      generalize h9 = h at hX hB hF hW
      have hG : OB g 1 7 kd1 h (R 0) (DR1 1) (DI1 1) L4 (DA1 1) := by rw [hj0, ← k3 0 (by omega)]; exact hB.2.1
      obtain ⟨DA2, eA⟩ : ∃ DA2, DA2 = va_up DA1 2 (va_up (DA1 2) 5 f) := ⟨_, rfl⟩
      have a0 : DA2 0 = DA1 0 := by rw [eA]; rfl
      have a1 : DA2 1 = DA1 1 := by rw [eA]; rfl
      have a3 : DA2 3 = DA1 3 := by rw [eA]; rfl
      have a4 : DA2 4 = DA1 4 := by rw [eA]; rfl
      have a5 : DA2 5 = DA1 5 := by rw [eA]; rfl
      rw [← eA] at hB hV2
      refine lv_iload_n hx hb dX5_best_39 rfl (lv_at hl 3 rfl) ?_
      refine g_callV (As := [.int (J (fnd (DA1 3 0) (goC (DI1 1 0) (DA1 1 4) i v) (DI1 3 3).toNat 0)), .int (J k)]) (rest := []) (b := DR1 0 2) (ci := 4) (C := RX4) (T := TX4) (N := 4) ⟨hx, hb, hml, hown, hts⟩ (t_actOfRow l g base sa h (DR1 0 2) (DR1 3) (DI1 3) (DL1 3) (DA2 3) (fnd (DA1 3 0) (goC (DI1 1 0) (DA1 1 4) i v) (DI1 3 3).toNat 0) k hB.2.2.2.1 hfr hk9 ⟨wA.1, wA.2.1⟩ wA.2.2.2 (by rw [a3]; exact TB_TI yc (by rw [eN]; exact hN.2) yb)) (cwV 2 hts gX5_best_X4_actOfRow rfl rfl rfl (by decide +kernel) ⟨Nat.le_of_ble_eq_true rfl, Nat.le_of_ble_eq_true rfl⟩) hk hW hS hB.2.2.2.1.1 rfl rfl hl.1 (Nat.le_of_ble_eq_true rfl) dX5_best_40 ⟨by first | exact Nat.le_refl _ | (rw [Nat.zero_add]; first | exact hrq.1 | exact Nat.le_trans (Nat.le_add_right _ _) hrq.1 | exact Nat.le_refl _) | exact hrq.1 | exact Nat.le_trans (Nat.le_add_right _ _) hrq.1, by first | exact Nat.le_refl _ | (rw [Nat.zero_add]; first | exact hrq.2 | exact Nat.le_trans (Nat.le_add_right _ _) hrq.2 | exact Nat.le_refl _) | exact hrq.2 | exact Nat.le_trans (Nat.le_add_right _ _) hrq.2⟩ (fun r9 h9 H locs hp hW hS => ?_)
      obtain ⟨rfl, e9⟩ := hp
      rw [e9] at hW
      refine W.widen (k := tCel (DL 3 1) (jN DI DA)) (n := tSlo (DL 3 1) (jN DI DA)) (Nat.le_refl _) (Nat.le_refl _) ?_
      refine W.eq (g2 := F0 m 43 ls [.int (J (p_row (DL1 3 1) (DA2 3 1) (DA2 3 2) (fnd (DA1 3 0) (goC (DI1 1 0) (DA1 1 4) i v) (DI1 3 3).toNat 0) k))]) rfl ?_
      refine W.widen (k := rc) (n := rs) (by omega) (by omega) ?_
      exact g_iret hx hb hr hW hS dX5_best_43 hlocks (⟨hF, Or.inr ⟨⟨hq, by omega⟩, _, DR1, DI1, DL1, DA2, rfl, by have y9 := (ansF (i := i) (v := v) (tp := DI1 1 2) (dr := DI1 1 3) wW.1 wV (by rw [k1]; exact hq.1) yb yc).2 k (by omega); rw [a3]; unfold jX jC jN at *; rw [k1, k2] at y9; rw [k1, k2]; exact y9, hB, hV2, ⟨k1, by rw [a1]; exact k2, k3⟩, hs1, eL, e31⟩⟩)
    · refine lv_bipush (v := J (-2)) hx hb dX5_best_13 (by decide) ?_
      refine W.widen (k := rc) (n := rs) (by omega) (by omega) ?_
      exact g_iret hx hb hr hW hS dX5_best_15 hlocks (⟨hF, Or.inl ⟨by first | exact (fun w => ifz_0 c_6 w.1) | exact (fun w => c_10 w.2), rfl, rfl⟩⟩)

set_option maxHeartbeats 4000000 in
set_option maxRecDepth 100000 in
theorem x_makes (l : Launch) (g : GX) (base : Nat) (sa : Nat → Nat) (h0 : Hp) (o : Nat) (R : Nat → Nat) (I L : Nat → Int) (A : Nat → Int → Int) (DR : Nat → Nat → Nat) (DI DL : Nat → Nat → Int) (DA : Nat → Nat → Int → Int) (hX : OB g 5 3 kd5 h0 o R I L A) (hB : QB g h0 (R 1) DR DI DL DA) (hV : QV DI DL DA) (hj0 : R 0 = DR 0 0) (aX : ∀ q, FP 3 kd5 o R q → ¬ FS (R 1) DR q) : MC l g base sa yX5_makes wsX5_makes ({ frames := 5, cells := tCel (DL 3 1) (jN DI DA), slots := tSlo (DL 3 1) (jN DI DA), locals := 120 }) ([.ref o]) h0 (fun r9 h' => Fr (FS (R 1) DR) h0 h' ∧ (∃ z DR' DI' DL' DA', r9 = some (.int (J z)) ∧ AnM (DI 1 0) (DI 1 2) (DI 1 3) (DA 1 4) (DA 1 5) z ∧ QB g h' (R 1) DR' DI' DL' DA' ∧ QV DI' DL' DA' ∧ QK DR DR' DI DI' DA DA' ∧ (∀ q, FS (R 1) DR' q → FS (R 1) DR q ∨ h0 q = none) ∧ DL' = va_up DL 3 (DL' 3) ∧ DL' 3 1 = tLen (DL 3 1) (jN DI DA))) := by
  refine Met.ofW (cc := cX5_makes) (maxL := 1) (ret := (some .int)) (by decide) rfl ?_
  intro p e s m args below meth c s₁ B hml hv
  obtain ⟨rfl, hk, hW⟩ := hv
  have hx := B.exec
  have hb := B.bytes
  have hr := B.returns
  have hts := atoms_spec (ws := wsX5_makes) B.pre
  have hown : s.vm.findClass RX5 = some m.cls := findClass_of_methodNamed B.named
  have hlocks := B.notSynchronized
  have hfX1 : ∀ w ∈ wsX10, w.before ([.ref o]).toArray s = true := fun w h => hts w (List.mem_cons_of_mem _ (List.mem_append_left _ (List.mem_append_left _ (List.mem_append_right _ h))))
  have hfX2 : ∀ w ∈ wsX20, w.before ([.ref o]).toArray s = true := fun w h => hts w (List.mem_cons_of_mem _ (List.mem_append_left _ (List.mem_append_left _ (List.mem_append_left _ (List.mem_append_right _ h)))))
  have hfX5 : ∀ w ∈ wsX50, w.before ([.ref o]).toArray s = true := fun w h => hts w (List.mem_cons_of_mem _ (List.mem_append_left _ (List.mem_append_left _ (List.mem_append_left _ (List.mem_append_left _ (List.mem_append_right _ h))))))
  have hS : va_S (Ab base) s.heap s.heap [] := va_S.rf
  have hl := lv_entry ([.ref o]) (n := 1) (Nat.le_of_ble_eq_true rfl)
  rw [lg_entry_eq]
  generalize (lg_sl ([.ref o]) ++ List.replicate (1 - (lg_sl ([.ref o])).length) Slot.unset).toArray = ls at hl ⊢
  have hl : lv_has ls 1 [(0, .ref o)] := hl
  have hF : Fr (FS (R 1) DR) h0 h0 := Fr.rf
  obtain ⟨vW, vV, vZ, vF, vA, vT, vS, vg, f6, f7, f8⟩ := id hV
  have hn : 0 ≤ DI 1 0 ∧ DI 1 0 ≤ 4 := ⟨vW.1.1, vW.1.2.1⟩
  have hG : OB g 1 7 kd1 h0 (R 0) (DR 1) (DI 1) L4 (DA 1) := by rw [hj0]; exact hB.2.1
  have hX0 := hX
  refine lv_aload_n hx hb dX5_makes_0 rfl (lv_at hl 0 rfl) ?_
  refine g_get (ci := 5) (C := RX5) (T := TX5) (N := 3) (v := .ref (R 1)) hx hb hfX5 (fun _ h9 => h9) hown hk hW hX.1 rfl 1 (by decide) (hts (.fieldLink RX5 10 "JugsAndGlasses" "search" "LJugsAndGlasses$Search;") (by decide +kernel)) rfl rfl dX5_makes_1 ?_
  refine g_callV (As := []) (rest := []) (b := R 1) (ci := 2) (C := RX2) (T := TX2) (N := 9) ⟨hx, hb, hml, hown, hts⟩ (q_explore l g base sa h0 (R 1) DR DI DL DA hB hV) (cwV 0 hts gX5_makes_X2_explore rfl rfl rfl (by decide +kernel) ⟨Nat.le_of_ble_eq_true rfl, Nat.le_of_ble_eq_true rfl⟩) hk hW hS hB.1.1 rfl rfl hl.1 (Nat.le_of_ble_eq_true rfl) dX5_makes_4 ⟨by first | exact Nat.le_refl _ | (rw [Nat.zero_add]; first | exact hrq.1 | exact Nat.le_trans (Nat.le_add_right _ _) hrq.1 | exact Nat.le_refl _) | exact hrq.1 | exact Nat.le_trans (Nat.le_add_right _ _) hrq.1, by first | exact Nat.le_refl _ | (rw [Nat.zero_add]; first | exact hrq.2 | exact Nat.le_trans (Nat.le_add_right _ _) hrq.2 | exact Nat.le_refl _) | exact hrq.2 | exact Nat.le_trans (Nat.le_add_right _ _) hrq.2⟩ (fun r9 h9 H locs hp hW hS => ?_)
  obtain ⟨rfl, hF9, DR1, DI1, DL1, DA1, hB, hV1, h61, hK, hs1, eL, e31⟩ := hp
  refine W.widen (k := tCel (DL 3 1) (jN DI DA)) (n := tSlo (DL 3 1) (jN DI DA)) (by rw [Nat.zero_add]; exact Nat.le_refl _) (by rw [Nat.zero_add]; exact Nat.le_refl _) ?_
  refine W.eq (g2 := F0 m 7 ls []) rfl ?_
  have hF := hF.tr hF9 (fun q w _ => w)
  have hX := hX.fr hF9 aX
  have hs1 : ∀ q, FS (R 1) DR1 q → FS (R 1) DR q ∨ h0 q = none := hs1
  have aX1 : ∀ q, FP 3 kd5 o R q → ¬ FS (R 1) DR1 q := fun q w z => by
    rcases hs1 q z with y | y
    · exact aX q w y
    · exact hX0.ex w y
  generalize h9 = h at hX hB hF hW
  obtain ⟨k1, k2, k3⟩ := hK
  have hN := Wok_N vW
  have eN : jN DI1 DA1 = jN DI DA := by unfold jN; rw [k1, k2]
  have hG : OB g 1 7 kd1 h (R 0) (DR1 1) (DI1 1) L4 (DA1 1) := by rw [hj0, ← k3 0 (by omega)]; exact hB.2.1
  obtain ⟨wW, wV, wZ, wF, wA, wT, wS, wg, g6, g7, g8⟩ := id hV1
  obtain ⟨⟨f0, y1, y2, y3⟩, yb, pp, yc⟩ := g6 h61
  refine lv_aload_n hx hb dX5_makes_7 rfl (lv_at hl 0 rfl) ?_
  refine g_get (ci := 5) (C := RX5) (T := TX5) (N := 3) (v := .ref (R 1)) hx hb hfX5 (fun _ h9 => h9) hown hk hW hX.1 rfl 1 (by decide) (hts (.fieldLink RX5 10 "JugsAndGlasses" "search" "LJugsAndGlasses$Search;") (by decide +kernel)) rfl rfl dX5_makes_8 ?_
  refine g_callV (As := []) (rest := []) (b := R 1) (ci := 2) (C := RX2) (T := TX2) (N := 9) ⟨hx, hb, hml, hown, hts⟩ (q_allHeld l g base sa h (R 1) DR1 DI1 DL1 DA1 hB hV1 h61) (cwV 0 hts gX5_makes_X2_allHeld rfl rfl rfl (by decide +kernel) ⟨Nat.le_of_ble_eq_true rfl, Nat.le_of_ble_eq_true rfl⟩) hk hW hS hB.1.1 rfl rfl hl.1 (Nat.le_of_ble_eq_true rfl) dX5_makes_11 ⟨by first | exact Nat.le_refl _ | (rw [Nat.zero_add]; first | exact hrq.1 | exact Nat.le_trans (Nat.le_add_right _ _) hrq.1 | exact Nat.le_refl _) | exact hrq.1 | exact Nat.le_trans (Nat.le_add_right _ _) hrq.1, by first | exact Nat.le_refl _ | (rw [Nat.zero_add]; first | exact hrq.2 | exact Nat.le_trans (Nat.le_add_right _ _) hrq.2 | exact Nat.le_refl _) | exact hrq.2 | exact Nat.le_trans (Nat.le_add_right _ _) hrq.2⟩ (fun r9 h9 H locs hp hW hS => ?_)
  obtain ⟨rfl, hF9, f, hB, hV2⟩ := hp
  refine W.widen (k := tCel (DL 3 1) (jN DI DA)) (n := tSlo (DL 3 1) (jN DI DA)) (Nat.le_refl _) (Nat.le_refl _) ?_
  refine W.eq (g2 := F0 m 14 ls [.int (J (mqC (DI1 1 0) (DA1 1 4) (DA1 3 0) (DI1 3 3).toNat))]) rfl ?_
  have hF := hF.tr hF9 (fun q w z => (hs1 q w).elim id (fun y => absurd y z))
  have hX := hX.fr hF9 aX1
  generalize h9 = h at hX hB hF hW
  have hG : OB g 1 7 kd1 h (R 0) (DR1 1) (DI1 1) L4 (DA1 1) := by rw [hj0, ← k3 0 (by omega)]; exact hB.2.1
  obtain ⟨DA2, eA⟩ : ∃ DA2, DA2 = va_up DA1 2 (va_up (DA1 2) 5 f) := ⟨_, rfl⟩
  have a0 : DA2 0 = DA1 0 := by rw [eA]; rfl
  have a1 : DA2 1 = DA1 1 := by rw [eA]; rfl
  have a3 : DA2 3 = DA1 3 := by rw [eA]; rfl
  have a4 : DA2 4 = DA1 4 := by rw [eA]; rfl
  have a5 : DA2 5 = DA1 5 := by rw [eA]; rfl
  rw [← eA] at hB hV2
  refine W.widen (k := tCel (DL 3 1) (jN DI DA)) (n := tSlo (DL 3 1) (jN DI DA)) (by omega) (by omega) ?_
  exact g_iret hx hb hr hW hS dX5_makes_14 hlocks (⟨hF, _, DR1, DI1, DL1, DA2, rfl, by have y9 := (ansR (tp := DI1 1 2) (dr := DI1 1 3) wW.1 wV yc).2; unfold jX jC jN at *; rw [k1, k2] at y9; rw [k1, k2]; exact y9, hB, hV2, ⟨k1, by rw [a1]; exact k2, k3⟩, hs1, eL, e31⟩)

set_option maxHeartbeats 4000000 in
set_option maxRecDepth 100000 in
theorem x_reaches (l : Launch) (g : GX) (base : Nat) (sa : Nat → Nat) (h0 : Hp) (o : Nat) (R : Nat → Nat) (I L : Nat → Int) (A : Nat → Int → Int) (DR : Nat → Nat → Nat) (DI DL : Nat → Nat → Int) (DA : Nat → Nat → Int → Int) (hX : OB g 5 3 kd5 h0 o R I L A) (hB : QB g h0 (R 1) DR DI DL DA) (hV : QV DI DL DA) (hj0 : R 0 = DR 0 0) (aX : ∀ q, FP 3 kd5 o R q → ¬ FS (R 1) DR q) : MC l g base sa yX5_reaches wsX5_reaches ({ frames := 5, cells := tCel (DL 3 1) (jN DI DA), slots := tSlo (DL 3 1) (jN DI DA), locals := 120 }) ([.ref o]) h0 (fun r9 h' => Fr (FS (R 1) DR) h0 h' ∧ (∃ z DR' DI' DL' DA', r9 = some (.int (J z)) ∧ AnR (DI 1 0) (DI 1 2) (DI 1 3) (DA 1 4) (DA 1 5) z ∧ QB g h' (R 1) DR' DI' DL' DA' ∧ QV DI' DL' DA' ∧ QK DR DR' DI DI' DA DA' ∧ (∀ q, FS (R 1) DR' q → FS (R 1) DR q ∨ h0 q = none) ∧ DL' = va_up DL 3 (DL' 3) ∧ DL' 3 1 = tLen (DL 3 1) (jN DI DA))) := by
  refine Met.ofW (cc := cX5_reaches) (maxL := 1) (ret := (some .int)) (by decide) rfl ?_
  intro p e s m args below meth c s₁ B hml hv
  obtain ⟨rfl, hk, hW⟩ := hv
  have hx := B.exec
  have hb := B.bytes
  have hr := B.returns
  have hts := atoms_spec (ws := wsX5_reaches) B.pre
  have hown : s.vm.findClass RX5 = some m.cls := findClass_of_methodNamed B.named
  have hlocks := B.notSynchronized
  have hfX1 : ∀ w ∈ wsX10, w.before ([.ref o]).toArray s = true := fun w h => hts w (List.mem_cons_of_mem _ (List.mem_append_left _ (List.mem_append_right _ h)))
  have hfX2 : ∀ w ∈ wsX20, w.before ([.ref o]).toArray s = true := fun w h => hts w (List.mem_cons_of_mem _ (List.mem_append_left _ (List.mem_append_left _ (List.mem_append_left _ (List.mem_append_right _ h)))))
  have hfX4 : ∀ w ∈ wsX40, w.before ([.ref o]).toArray s = true := fun w h => hts w (List.mem_cons_of_mem _ (List.mem_append_left _ (List.mem_append_left _ (List.mem_append_right _ h))))
  have hfX5 : ∀ w ∈ wsX50, w.before ([.ref o]).toArray s = true := fun w h => hts w (List.mem_cons_of_mem _ (List.mem_append_left _ (List.mem_append_left _ (List.mem_append_left _ (List.mem_append_left _ (List.mem_append_right _ h))))))
  have hS : va_S (Ab base) s.heap s.heap [] := va_S.rf
  have hl := lv_entry ([.ref o]) (n := 1) (Nat.le_of_ble_eq_true rfl)
  rw [lg_entry_eq]
  generalize (lg_sl ([.ref o]) ++ List.replicate (1 - (lg_sl ([.ref o])).length) Slot.unset).toArray = ls at hl ⊢
  have hl : lv_has ls 1 [(0, .ref o)] := hl
  have hF : Fr (FS (R 1) DR) h0 h0 := Fr.rf
  obtain ⟨vW, vV, vZ, vF, vA, vT, vS, vg, f6, f7, f8⟩ := id hV
  have hn : 0 ≤ DI 1 0 ∧ DI 1 0 ≤ 4 := ⟨vW.1.1, vW.1.2.1⟩
  have hG : OB g 1 7 kd1 h0 (R 0) (DR 1) (DI 1) L4 (DA 1) := by rw [hj0]; exact hB.2.1
  have hX0 := hX
  refine lv_aload_n hx hb dX5_reaches_0 rfl (lv_at hl 0 rfl) ?_
  refine g_get (ci := 5) (C := RX5) (T := TX5) (N := 3) (v := .ref (R 1)) hx hb hfX5 (fun _ h9 => h9) hown hk hW hX.1 rfl 1 (by decide) (hts (.fieldLink RX5 10 "JugsAndGlasses" "search" "LJugsAndGlasses$Search;") (by decide +kernel)) rfl rfl dX5_reaches_1 ?_
  refine g_callV (As := []) (rest := []) (b := R 1) (ci := 2) (C := RX2) (T := TX2) (N := 9) ⟨hx, hb, hml, hown, hts⟩ (q_explore l g base sa h0 (R 1) DR DI DL DA hB hV) (cwV 0 hts gX5_reaches_X2_explore rfl rfl rfl (by decide +kernel) ⟨Nat.le_of_ble_eq_true rfl, Nat.le_of_ble_eq_true rfl⟩) hk hW hS hB.1.1 rfl rfl hl.1 (Nat.le_of_ble_eq_true rfl) dX5_reaches_4 ⟨by first | exact Nat.le_refl _ | (rw [Nat.zero_add]; first | exact hrq.1 | exact Nat.le_trans (Nat.le_add_right _ _) hrq.1 | exact Nat.le_refl _) | exact hrq.1 | exact Nat.le_trans (Nat.le_add_right _ _) hrq.1, by first | exact Nat.le_refl _ | (rw [Nat.zero_add]; first | exact hrq.2 | exact Nat.le_trans (Nat.le_add_right _ _) hrq.2 | exact Nat.le_refl _) | exact hrq.2 | exact Nat.le_trans (Nat.le_add_right _ _) hrq.2⟩ (fun r9 h9 H locs hp hW hS => ?_)
  obtain ⟨rfl, hF9, DR1, DI1, DL1, DA1, hB, hV1, h61, hK, hs1, eL, e31⟩ := hp
  refine W.widen (k := tCel (DL 3 1) (jN DI DA)) (n := tSlo (DL 3 1) (jN DI DA)) (by rw [Nat.zero_add]; exact Nat.le_refl _) (by rw [Nat.zero_add]; exact Nat.le_refl _) ?_
  refine W.eq (g2 := F0 m 7 ls []) rfl ?_
  have hF := hF.tr hF9 (fun q w _ => w)
  have hX := hX.fr hF9 aX
  have hs1 : ∀ q, FS (R 1) DR1 q → FS (R 1) DR q ∨ h0 q = none := hs1
  have aX1 : ∀ q, FP 3 kd5 o R q → ¬ FS (R 1) DR1 q := fun q w z => by
    rcases hs1 q z with y | y
    · exact aX q w y
    · exact hX0.ex w y
  generalize h9 = h at hX hB hF hW
  obtain ⟨k1, k2, k3⟩ := hK
  have hN := Wok_N vW
  have eN : jN DI1 DA1 = jN DI DA := by unfold jN; rw [k1, k2]
  have hG : OB g 1 7 kd1 h (R 0) (DR1 1) (DI1 1) L4 (DA1 1) := by rw [hj0, ← k3 0 (by omega)]; exact hB.2.1
  obtain ⟨wW, wV, wZ, wF, wA, wT, wS, wg, g6, g7, g8⟩ := id hV1
  obtain ⟨⟨f0, y1, y2, y3⟩, yb, pp, yc⟩ := g6 h61
  refine lv_aload_n hx hb dX5_reaches_7 rfl (lv_at hl 0 rfl) ?_
  refine g_get (ci := 5) (C := RX5) (T := TX5) (N := 3) (v := .ref (R 1)) hx hb hfX5 (fun _ h9 => h9) hown hk hW hX.1 rfl 1 (by decide) (hts (.fieldLink RX5 10 "JugsAndGlasses" "search" "LJugsAndGlasses$Search;") (by decide +kernel)) rfl rfl dX5_reaches_8 ?_
  refine g_get (ci := 2) (C := RX2) (T := TX2) (N := 9) (v := .ref (DR1 0 2)) hx hb hfX2 (fun _ h9 => h9) hown hk hW hB.1.1 rfl 2 (by decide) (hts (.fieldLink RX5 81 "JugsAndGlasses$Search" "all" "LJugsAndGlasses$Tour;") (by decide +kernel)) rfl rfl dX5_reaches_11 ?_
  refine g_get (ci := 4) (C := RX4) (T := TX4) (N := 4) (v := .int (J (DI1 3 3))) hx hb hfX4 (fun _ h9 => h9) hown hk hW hB.2.2.2.1.1 rfl 3 (by decide) (hts (.fieldLink RX5 126 "JugsAndGlasses$Tour" "reached" "I") (by decide +kernel)) rfl rfl dX5_reaches_14 ?_
  refine W.widen (k := tCel (DL 3 1) (jN DI DA)) (n := tSlo (DL 3 1) (jN DI DA)) (by omega) (by omega) ?_
  exact g_iret hx hb hr hW hS dX5_reaches_17 hlocks (⟨hF, _, DR1, DI1, DL1, DA1, rfl, by have y9 := (ansR (tp := DI1 1 2) (dr := DI1 1 3) wW.1 wV yc).1; unfold jX jC jN at *; rw [k1, k2] at y9; exact y9, hB, hV1, ⟨k1, k2, k3⟩, hs1, eL, e31⟩)

set_option maxHeartbeats 4000000 in
set_option maxRecDepth 100000 in
theorem x_rows (l : Launch) (g : GX) (base : Nat) (sa : Nat → Nat) (h0 : Hp) (o : Nat) (R : Nat → Nat) (I L : Nat → Int) (A : Nat → Int → Int) (DR : Nat → Nat → Nat) (DI DL : Nat → Nat → Int) (DA : Nat → Nat → Int → Int) (rc rs : Nat) (i v : Int) (hX : OB g 5 3 kd5 h0 o R I L A) (hB : QB g h0 (R 1) DR DI DL DA) (hV : QV DI DL DA) (hj0 : R 0 = DR 0 0) (aX : ∀ q, FP 3 kd5 o R q → ¬ FS (R 1) DR q) (hrm : ((i = -1 ∨ (0 ≤ i ∧ i < DI 1 0)) ∧ 0 ≤ v ∧ v ≤ 10) → tCel (DL 3 1) (jN DI DA) + cCel (DL 0 5) (tLen (DL 3 1) (jN DI DA)) ≤ rc ∧ tSlo (DL 3 1) (jN DI DA) + cSlo (DL 0 5) (tLen (DL 3 1) (jN DI DA)) ≤ rs) (hi9 : i32 i) (hv9 : i32 v) : MC l g base sa yX5_rows wsX5_rows ({ frames := 5, cells := rc, slots := rs, locals := 120 }) ([.ref o, .int (J i), .int (J v)]) h0 (fun r9 h' => Fr (FS (R 1) DR) h0 h' ∧ ((¬ ((i = -1 ∨ (0 ≤ i ∧ i < DI 1 0)) ∧ 0 ≤ v ∧ v ≤ 10) ∧ r9 = some (.long (JL (-2))) ∧ h' = h0) ∨ (((i = -1 ∨ (0 ≤ i ∧ i < DI 1 0)) ∧ 0 ≤ v ∧ v ≤ 10) ∧ ∃ z DR' DI' DL' DA', r9 = some (.long (JL z)) ∧ AnW (DI 1 0) (DI 1 2) (DI 1 3) (DA 1 4) (DA 1 5) i v z ∧ QB g h' (R 1) DR' DI' DL' DA' ∧ QV DI' DL' DA' ∧ QK DR DR' DI DI' DA DA' ∧ (∀ q, FS (R 1) DR' q → FS (R 1) DR q ∨ h0 q = none) ∧ DL' = va_up (va_up DL 3 (DL' 3)) 0 (DL' 0) ∧ DL' 3 1 = tLen (DL 3 1) (jN DI DA) ∧ DL' 0 5 = sLen (DL 0 5) (tLen (DL 3 1) (jN DI DA))))) := by
  refine Met.ofW (cc := cX5_rows) (maxL := 3) (ret := (some .long)) (by decide) rfl ?_
  intro p e s m args below meth c s₁ B hml hv
  obtain ⟨rfl, hk, hW⟩ := hv
  have hx := B.exec
  have hb := B.bytes
  have hr := B.returns
  have hts := atoms_spec (ws := wsX5_rows) B.pre
  have hown : s.vm.findClass RX5 = some m.cls := findClass_of_methodNamed B.named
  have hlocks := B.notSynchronized
  have hfX1 : ∀ w ∈ wsX10, w.before ([.ref o, .int (J i), .int (J v)]).toArray s = true := fun w h => hts w (List.mem_cons_of_mem _ (List.mem_append_left _ (List.mem_append_left _ (List.mem_append_left _ (List.mem_append_right _ h)))))
  have hfX2 : ∀ w ∈ wsX20, w.before ([.ref o, .int (J i), .int (J v)]).toArray s = true := fun w h => hts w (List.mem_cons_of_mem _ (List.mem_append_left _ (List.mem_append_left _ (List.mem_append_right _ h))))
  have hfX5 : ∀ w ∈ wsX50, w.before ([.ref o, .int (J i), .int (J v)]).toArray s = true := fun w h => hts w (List.mem_cons_of_mem _ (List.mem_append_left _ (List.mem_append_left _ (List.mem_append_left _ (List.mem_append_left _ (List.mem_append_right _ h))))))
  have hS : va_S (Ab base) s.heap s.heap [] := va_S.rf
  have hl := lv_entry ([.ref o, .int (J i), .int (J v)]) (n := 3) (Nat.le_of_ble_eq_true rfl)
  rw [lg_entry_eq]
  generalize (lg_sl ([.ref o, .int (J i), .int (J v)]) ++ List.replicate (3 - (lg_sl ([.ref o, .int (J i), .int (J v)])).length) Slot.unset).toArray = ls at hl ⊢
  have hl : lv_has ls 3 [(0, .ref o), (1, .int (J i)), (2, .int (J v))] := hl
  have hF : Fr (FS (R 1) DR) h0 h0 := Fr.rf
  obtain ⟨vW, vV, vZ, vF, vA, vT, vS, vg, f6, f7, f8⟩ := id hV
  have hn : 0 ≤ DI 1 0 ∧ DI 1 0 ≤ 4 := ⟨vW.1.1, vW.1.2.1⟩
  have hG : OB g 1 7 kd1 h0 (R 0) (DR 1) (DI 1) L4 (DA 1) := by rw [hj0]; exact hB.2.1
  have hX0 := hX
  refine lv_aload_n hx hb dX5_rows_0 rfl (lv_at hl 0 rfl) ?_
  refine lv_iload_n hx hb dX5_rows_1 rfl (lv_at hl 1 rfl) ?_
  refine lv_iload_n hx hb dX5_rows_2 rfl (lv_at hl 2 rfl) ?_
  refine g_callV (As := [.int (J i), .int (J v)]) (rest := []) (b := o) (ci := 5) (C := RX5) (T := TX5) (N := 3) ⟨hx, hb, hml, hown, hts⟩ (x_isAim l g base sa h0 o R I L A DR DI DL DA i v hX hB hV hj0 hi9 hv9) (cwV 2 hts gX5_rows_X5_isAim rfl rfl rfl (by decide +kernel) ⟨Nat.le_of_ble_eq_true rfl, Nat.le_of_ble_eq_true rfl⟩) hk hW hS hX.1 rfl rfl hl.1 (Nat.le_of_ble_eq_true rfl) dX5_rows_3 ⟨Nat.le_of_ble_eq_true rfl, Nat.le_of_ble_eq_true rfl⟩ (fun r9 h9 H locs hp hW hS => ?_)
  obtain ⟨rfl, e9⟩ := hp
  rw [e9] at hW
  refine W.widen (k := 0) (n := 0) (Nat.le_refl _) (Nat.le_refl _) ?_
  refine W.eq (g2 := F0 m 6 ls [.int (J (if ((i = -1 ∨ (0 ≤ i ∧ i < DI 1 0)) ∧ 0 ≤ v ∧ v ≤ 10) then 1 else 0))]) rfl ?_
  have hz := ifz (P := ((i = -1 ∨ (0 ≤ i ∧ i < DI 1 0)) ∧ 0 ≤ v ∧ v ≤ 10))
  refine j_if_ne (x := if ((i = -1 ∨ (0 ≤ i ∧ i < DI 1 0)) ∧ 0 ≤ v ∧ v ≤ 10) then 1 else 0) (tgt := 13) hx hb ⟨by omega, by omega⟩ dX5_rows_6 (by decide) (fun c_6 => ?_) (fun c_6 => ?_)
  · have hq := ifz_1 c_6
    have hrq := hrm hq
    refine lv_aload_n hx hb dX5_rows_13 rfl (lv_at hl 0 rfl) ?_
    refine g_get (ci := 5) (C := RX5) (T := TX5) (N := 3) (v := .ref (R 1)) hx hb hfX5 (fun _ h9 => h9) hown hk hW hX.1 rfl 1 (by decide) (hts (.fieldLink RX5 10 "JugsAndGlasses" "search" "LJugsAndGlasses$Search;") (by decide +kernel)) rfl rfl dX5_rows_14 ?_
    refine g_callV (As := []) (rest := []) (b := R 1) (ci := 2) (C := RX2) (T := TX2) (N := 9) ⟨hx, hb, hml, hown, hts⟩ (q_explore l g base sa h0 (R 1) DR DI DL DA hB hV) (cwV 0 hts gX5_rows_X2_explore rfl rfl rfl (by decide +kernel) ⟨Nat.le_of_ble_eq_true rfl, Nat.le_of_ble_eq_true rfl⟩) hk hW hS hB.1.1 rfl rfl hl.1 (Nat.le_of_ble_eq_true rfl) dX5_rows_17 ⟨by first | exact Nat.le_refl _ | (rw [Nat.zero_add]; first | exact hrq.1 | exact Nat.le_trans (Nat.le_add_right _ _) hrq.1 | exact Nat.le_refl _) | exact hrq.1 | exact Nat.le_trans (Nat.le_add_right _ _) hrq.1, by first | exact Nat.le_refl _ | (rw [Nat.zero_add]; first | exact hrq.2 | exact Nat.le_trans (Nat.le_add_right _ _) hrq.2 | exact Nat.le_refl _) | exact hrq.2 | exact Nat.le_trans (Nat.le_add_right _ _) hrq.2⟩ (fun r9 h9 H locs hp hW hS => ?_)
    obtain ⟨rfl, hF9, DR1, DI1, DL1, DA1, hB, hV1, h61, hK, hs1, eL, e31⟩ := hp
    refine W.widen (k := tCel (DL 3 1) (jN DI DA)) (n := tSlo (DL 3 1) (jN DI DA)) (by rw [Nat.zero_add]; exact Nat.le_refl _) (by rw [Nat.zero_add]; exact Nat.le_refl _) ?_
    refine W.eq (g2 := F0 m 20 ls []) rfl ?_
    have hF := hF.tr hF9 (fun q w _ => w)
    have hX := hX.fr hF9 aX
    have hs1 : ∀ q, FS (R 1) DR1 q → FS (R 1) DR q ∨ h0 q = none := hs1
    have aX1 : ∀ q, FP 3 kd5 o R q → ¬ FS (R 1) DR1 q := fun q w z => by
      rcases hs1 q z with y | y
      · exact aX q w y
      · exact hX0.ex w y
    generalize h9 = h at hX hB hF hW
    obtain ⟨k1, k2, k3⟩ := hK
    have hN := Wok_N vW
    have eN : jN DI1 DA1 = jN DI DA := by unfold jN; rw [k1, k2]
    have hG : OB g 1 7 kd1 h (R 0) (DR1 1) (DI1 1) L4 (DA1 1) := by rw [hj0, ← k3 0 (by omega)]; exact hB.2.1
    obtain ⟨wW, wV, wZ, wF, wA, wT, wS, wg, g6, g7, g8⟩ := id hV1
    have e05a : DL1 0 5 = DL 0 5 := by rw [eL]; rfl
    refine lv_aload_n hx hb dX5_rows_20 rfl (lv_at hl 0 rfl) ?_
    refine g_get (ci := 5) (C := RX5) (T := TX5) (N := 3) (v := .ref (R 1)) hx hb hfX5 (fun _ h9 => h9) hown hk hW hX.1 rfl 1 (by decide) (hts (.fieldLink RX5 10 "JugsAndGlasses" "search" "LJugsAndGlasses$Search;") (by decide +kernel)) rfl rfl dX5_rows_21 ?_
    refine g_callV (As := []) (rest := []) (b := R 1) (ci := 2) (C := RX2) (T := TX2) (N := 9) ⟨hx, hb, hml, hown, hts⟩ (q_count l g base sa h (R 1) DR1 DI1 DL1 DA1 hB hV1 h61) (cwV 0 hts gX5_rows_X2_countWays rfl rfl rfl (by decide +kernel) ⟨Nat.le_of_ble_eq_true rfl, Nat.le_of_ble_eq_true rfl⟩) hk hW hS hB.1.1 rfl rfl hl.1 (Nat.le_of_ble_eq_true rfl) dX5_rows_24 ⟨by rw [e05a, e31]; exact hrq.1, by rw [e05a, e31]; exact hrq.2⟩ (fun r9 h9 H locs hp hW hS => ?_)
    have hF1 := hF
    obtain ⟨rfl, hF9, DR2, DI2, DL2, DA2, hB, hV2, h72, hK2, hs2, eL2, e05⟩ := hp
    refine W.widen (k := tCel (DL 3 1) (jN DI DA) + cCel (DL 0 5) (tLen (DL 3 1) (jN DI DA))) (n := tSlo (DL 3 1) (jN DI DA) + cSlo (DL 0 5) (tLen (DL 3 1) (jN DI DA))) (by rw [e05a, e31]; exact Nat.le_refl _) (by rw [e05a, e31]; exact Nat.le_refl _) ?_
    refine W.eq (g2 := F0 m 27 ls []) rfl ?_
    have hF := hF.tr hF9 (fun q w z => (hs1 q w).elim id (fun y => absurd y z))
    have hX := hX.fr hF9 aX1
    have hs2 : ∀ q, FS (R 1) DR2 q → FS (R 1) DR q ∨ h0 q = none := fun q w => by
      rcases hs2 q w with y | y
      · exact hs1 q y
      · exact Or.inr (hF1.none y)
    have aX2 : ∀ q, FP 3 kd5 o R q → ¬ FS (R 1) DR2 q := fun q w z => by
      rcases hs2 q z with y | y
      · exact aX q w y
      · exact hX0.ex w y
    generalize h9 = h at hX hB hF hW
    obtain ⟨l1, l2, l3⟩ := hK2
    have m1 : DI2 1 = DI 1 := l1.trans k1
    have m2 : DA2 1 = DA 1 := l2.trans k2
    have m3 : ∀ k, k < 5 → DR2 0 k = DR 0 k := fun k hk => (l3 k hk).trans (k3 k hk)
    have eN2 : jN DI2 DA2 = jN DI DA := by unfold jN; rw [m1, m2]
    have hG : OB g 1 7 kd1 h (R 0) (DR2 1) (DI2 1) L4 (DA2 1) := by rw [hj0, ← m3 0 (by omega)]; exact hB.2.1
    obtain ⟨xW, xV, xZ, xF, xA, xT, xS, xg, u6, u7, u8⟩ := id hV2
    obtain ⟨h62, s1, s2⟩ := u7 h72
    obtain ⟨⟨f0, y1, y2, y3⟩, yb, pp, yc⟩ := u6 h62
    refine lv_aload_n hx hb dX5_rows_27 rfl (lv_at hl 0 rfl) ?_
    refine g_get (ci := 5) (C := RX5) (T := TX5) (N := 3) (v := .ref (R 1)) hx hb hfX5 (fun _ h9 => h9) hown hk hW hX.1 rfl 1 (by decide) (hts (.fieldLink RX5 10 "JugsAndGlasses" "search" "LJugsAndGlasses$Search;") (by decide +kernel)) rfl rfl dX5_rows_28 ?_
    refine lv_iload_n hx hb dX5_rows_31 rfl (lv_at hl 1 rfl) ?_
    refine lv_iload_n hx hb dX5_rows_32 rfl (lv_at hl 2 rfl) ?_
    refine g_callV (As := [.int (J i), .int (J v)]) (rest := []) (b := R 1) (ci := 2) (C := RX2) (T := TX2) (N := 9) ⟨hx, hb, hml, hown, hts⟩ (q_waysTo l g base sa h (R 1) DR2 DI2 DL2 DA2 i v hB hV2 h72 hi9 hv9) (cwV 2 hts gX5_rows_X2_waysTo rfl rfl rfl (by decide +kernel) ⟨Nat.le_of_ble_eq_true rfl, Nat.le_of_ble_eq_true rfl⟩) hk hW hS hB.1.1 rfl rfl hl.1 (Nat.le_of_ble_eq_true rfl) dX5_rows_33 ⟨by first | exact Nat.le_refl _ | (rw [Nat.zero_add]; first | exact hrq.1 | exact Nat.le_trans (Nat.le_add_right _ _) hrq.1 | exact Nat.le_refl _) | exact hrq.1 | exact Nat.le_trans (Nat.le_add_right _ _) hrq.1, by first | exact Nat.le_refl _ | (rw [Nat.zero_add]; first | exact hrq.2 | exact Nat.le_trans (Nat.le_add_right _ _) hrq.2 | exact Nat.le_refl _) | exact hrq.2 | exact Nat.le_trans (Nat.le_add_right _ _) hrq.2⟩ (fun r9 h9 H locs hp hW hS => ?_)
    obtain ⟨⟨d, hd9, rfl⟩, hF9, f, hB, hV3⟩ := hp
    refine W.widen (k := tCel (DL 3 1) (jN DI DA) + cCel (DL 0 5) (tLen (DL 3 1) (jN DI DA))) (n := tSlo (DL 3 1) (jN DI DA) + cSlo (DL 0 5) (tLen (DL 3 1) (jN DI DA))) (Nat.le_refl _) (Nat.le_refl _) ?_
    refine W.eq (g2 := F0 m 36 ls [.long (JL (wyF (DA2 3 0) (DA2 3 1) (goC (DI2 1 0) (DA2 1 4) i v) (DA2 0 5) d (DI2 3 3).toNat))]) rfl ?_
    have hF := hF.tr hF9 (fun q w z => (hs2 q w).elim id (fun y => absurd y z))
    have hX := hX.fr hF9 aX2
    generalize h9 = h at hX hB hF hW
    obtain ⟨DA3, eA⟩ : ∃ DA3, DA3 = va_up DA2 2 (va_up (DA2 2) 5 f) := ⟨_, rfl⟩
    have a0 : DA3 0 = DA2 0 := by rw [eA]; rfl
    have a1 : DA3 1 = DA2 1 := by rw [eA]; rfl
    have a3 : DA3 3 = DA2 3 := by rw [eA]; rfl
    have a4 : DA3 4 = DA2 4 := by rw [eA]; rfl
    have a5 : DA3 5 = DA2 5 := by rw [eA]; rfl
    rw [← eA] at hB hV3
    refine W.widen (k := rc) (n := rs) (by omega) (by omega) ?_
    exact g_lret hx hb hr hW hS dX5_rows_36 hlocks (⟨hF, Or.inr ⟨hq, _, DR2, DI2, DL2, DA3, rfl, by have y9 := ansW (i := i) (v := v) (tp := DI2 1 2) (dr := DI2 1 3) xW.1 xV (by rw [m1]; exact hq.1) yb yc (wy := DA2 0 5) (fun k k0 k1 => s2 _ (yc.2.2.2.2.1 k k0 k1).1 (by have := (yc.2.2.2.2.1 k k0 k1).2.1; omega)) hd9; unfold jX jC jN at *; rw [m1, m2] at y9; rw [m1, m2]; exact y9, hB, hV3, ⟨m1, by rw [a1]; exact m2, m3⟩, hs2, by rw [eL2, eL]; rfl, by rw [eL2]; exact e31, by rw [e05, e05a, e31]⟩⟩)
  · refine j_ldc2 (z := -2) hx hb (by decide) hown (hts (.constantLong RX5 93 (-2)) (by decide +kernel)) dX5_rows_9 ?_
    refine W.widen (k := rc) (n := rs) (by omega) (by omega) ?_
    exact g_lret hx hb hr hW hS dX5_rows_12 hlocks (⟨hF, Or.inl ⟨ifz_0 c_6, rfl, rfl⟩⟩)

set_option maxHeartbeats 4000000 in
set_option maxRecDepth 100000 in
theorem x_sparing (l : Launch) (g : GX) (base : Nat) (sa : Nat → Nat) (h0 : Hp) (o : Nat) (R : Nat → Nat) (I L : Nat → Int) (A : Nat → Int → Int) (DR : Nat → Nat → Nat) (DI DL : Nat → Nat → Int) (DA : Nat → Nat → Int → Int) (rc rs : Nat) (i v k : Int) (hX : OB g 5 3 kd5 h0 o R I L A) (hB : QB g h0 (R 1) DR DI DL DA) (hV : QV DI DL DA) (hj0 : R 0 = DR 0 0) (aX : ∀ q, FP 3 kd5 o R q → ¬ FS (R 1) DR q) (hrm : (((i = -1 ∨ (0 ≤ i ∧ i < DI 1 0)) ∧ 0 ≤ v ∧ v ≤ 10) ∧ 0 ≤ k ∧ k ≤ 1) → tCel (DL 3 1) (jN DI DA) + (sCel (DL 5 0) (tLen (DL 3 1) (jN DI DA)) + tCel (DL 4 1) (jN DI DA)) ≤ rc ∧ tSlo (DL 3 1) (jN DI DA) + (sSlo (DL 5 0) (tLen (DL 3 1) (jN DI DA)) + tSlo (DL 4 1) (jN DI DA)) ≤ rs) (hi9 : i32 i) (hv9 : i32 v) (hk9 : i32 k) : MC l g base sa yX5_sparing wsX5_sparing ({ frames := 5, cells := rc, slots := rs, locals := 123 }) ([.ref o, .int (J i), .int (J v), .int (J k)]) h0 (fun r9 h' => Fr (FS (R 1) DR) h0 h' ∧ ((¬ (((i = -1 ∨ (0 ≤ i ∧ i < DI 1 0)) ∧ 0 ≤ v ∧ v ≤ 10) ∧ 0 ≤ k ∧ k ≤ 1) ∧ r9 = some (.int (J (-2))) ∧ h' = h0) ∨ ((((i = -1 ∨ (0 ≤ i ∧ i < DI 1 0)) ∧ 0 ≤ v ∧ v ≤ 10) ∧ 0 ≤ k ∧ k ≤ 1) ∧ ∃ z DR' DI' DL' DA', r9 = some (.int (J z)) ∧ AnS (DI 1 0) (DI 1 2) (DI 1 3) (DA 1 4) (DA 1 5) i v k z ∧ QB g h' (R 1) DR' DI' DL' DA' ∧ QV DI' DL' DA' ∧ QK DR DR' DI DI' DA DA' ∧ (∀ q, FS (R 1) DR' q → FS (R 1) DR q ∨ h0 q = none) ∧ DL' = va_up (va_up (va_up DL 3 (DL' 3)) 4 (DL' 4)) 5 (DL' 5) ∧ DL' 3 1 = tLen (DL 3 1) (jN DI DA) ∧ DL' 4 1 = tLen (DL 4 1) (jN DI DA) ∧ DL' 5 0 = sLen (DL 5 0) (tLen (DL 3 1) (jN DI DA))))) := by
  refine Met.ofW (cc := cX5_sparing) (maxL := 5) (ret := (some .int)) (by decide) rfl ?_
  intro p e s m args below meth c s₁ B hml hv
  obtain ⟨rfl, hk, hW⟩ := hv
  have hx := B.exec
  have hb := B.bytes
  have hr := B.returns
  have hts := atoms_spec (ws := wsX5_sparing) B.pre
  have hown : s.vm.findClass RX5 = some m.cls := findClass_of_methodNamed B.named
  have hlocks := B.notSynchronized
  have hfX1 : ∀ w ∈ wsX10, w.before ([.ref o, .int (J i), .int (J v), .int (J k)]).toArray s = true := fun w h => hts w (List.mem_cons_of_mem _ (List.mem_append_left _ (List.mem_append_left _ (List.mem_append_right _ h))))
  have hfX2 : ∀ w ∈ wsX20, w.before ([.ref o, .int (J i), .int (J v), .int (J k)]).toArray s = true := fun w h => hts w (List.mem_cons_of_mem _ (List.mem_append_left _ (List.mem_append_left _ (List.mem_append_left _ (List.mem_append_right _ h)))))
  have hfX3 : ∀ w ∈ wsX30, w.before ([.ref o, .int (J i), .int (J v), .int (J k)]).toArray s = true := fun w h => hts w (List.mem_cons_of_mem _ (List.mem_append_right _ h))
  have hfX4 : ∀ w ∈ wsX40, w.before ([.ref o, .int (J i), .int (J v), .int (J k)]).toArray s = true := fun w h => hts w (List.mem_cons_of_mem _ (List.mem_append_left _ (List.mem_append_right _ h)))
  have hfX5 : ∀ w ∈ wsX50, w.before ([.ref o, .int (J i), .int (J v), .int (J k)]).toArray s = true := fun w h => hts w (List.mem_cons_of_mem _ (List.mem_append_left _ (List.mem_append_left _ (List.mem_append_left _ (List.mem_append_left _ (List.mem_append_right _ h))))))
  have hS : va_S (Ab base) s.heap s.heap [] := va_S.rf
  have hl := lv_entry ([.ref o, .int (J i), .int (J v), .int (J k)]) (n := 5) (Nat.le_of_ble_eq_true rfl)
  rw [lg_entry_eq]
  generalize (lg_sl ([.ref o, .int (J i), .int (J v), .int (J k)]) ++ List.replicate (5 - (lg_sl ([.ref o, .int (J i), .int (J v), .int (J k)])).length) Slot.unset).toArray = ls at hl ⊢
  have hl : lv_has ls 5 [(0, .ref o), (1, .int (J i)), (2, .int (J v)), (3, .int (J k))] := hl
  have hF : Fr (FS (R 1) DR) h0 h0 := Fr.rf
  obtain ⟨vW, vV, vZ, vF, vA, vT, vS, vg, f6, f7, f8⟩ := id hV
  have hn : 0 ≤ DI 1 0 ∧ DI 1 0 ≤ 4 := ⟨vW.1.1, vW.1.2.1⟩
  have hG : OB g 1 7 kd1 h0 (R 0) (DR 1) (DI 1) L4 (DA 1) := by rw [hj0]; exact hB.2.1
  have hX0 := hX
  obtain ⟨hk1, hk2⟩ := id hk9
  refine lv_aload_n hx hb dX5_sparing_0 rfl (lv_at hl 0 rfl) ?_
  refine lv_iload_n hx hb dX5_sparing_1 rfl (lv_at hl 1 rfl) ?_
  refine lv_iload_n hx hb dX5_sparing_2 rfl (lv_at hl 2 rfl) ?_
  refine g_callV (As := [.int (J i), .int (J v)]) (rest := []) (b := o) (ci := 5) (C := RX5) (T := TX5) (N := 3) ⟨hx, hb, hml, hown, hts⟩ (x_isAim l g base sa h0 o R I L A DR DI DL DA i v hX hB hV hj0 hi9 hv9) (cwV 2 hts gX5_sparing_X5_isAim rfl rfl rfl (by decide +kernel) ⟨Nat.le_of_ble_eq_true rfl, Nat.le_of_ble_eq_true rfl⟩) hk hW hS hX.1 rfl rfl hl.1 (Nat.le_of_ble_eq_true rfl) dX5_sparing_3 ⟨Nat.le_of_ble_eq_true rfl, Nat.le_of_ble_eq_true rfl⟩ (fun r9 h9 H locs hp hW hS => ?_)
  obtain ⟨rfl, e9⟩ := hp
  rw [e9] at hW
  refine W.widen (k := 0) (n := 0) (Nat.le_refl _) (Nat.le_refl _) ?_
  refine W.eq (g2 := F0 m 6 ls [.int (J (if ((i = -1 ∨ (0 ≤ i ∧ i < DI 1 0)) ∧ 0 ≤ v ∧ v ≤ 10) then 1 else 0))]) rfl ?_
  have hz := ifz (P := ((i = -1 ∨ (0 ≤ i ∧ i < DI 1 0)) ∧ 0 ≤ v ∧ v ≤ 10))
  refine j_if_eq (x := if ((i = -1 ∨ (0 ≤ i ∧ i < DI 1 0)) ∧ 0 ≤ v ∧ v ≤ 10) then 1 else 0) (tgt := 18) hx hb ⟨by omega, by omega⟩ dX5_sparing_6 (by decide) (fun c_6 => ?_) (fun c_6 => ?_)
  · refine lv_bipush (v := J (-2)) hx hb dX5_sparing_18 (by decide) ?_
    refine W.widen (k := rc) (n := rs) (by omega) (by omega) ?_
    exact g_iret hx hb hr hW hS dX5_sparing_20 hlocks (⟨hF, Or.inl ⟨by first | exact (fun w => ifz_0 c_6 w.1) | (intro w; omega), rfl, rfl⟩⟩)
  · have hq := ifz_1 c_6
    refine lv_iload_n hx hb dX5_sparing_9 rfl (lv_at hl 3 rfl) ?_
    refine j_if_lt (x := k) (tgt := 18) hx hb ⟨by omega, by omega⟩ dX5_sparing_10 (by decide) (fun c_10 => ?_) (fun c_10 => ?_)
    · refine lv_bipush (v := J (-2)) hx hb dX5_sparing_18 (by decide) ?_
      refine W.widen (k := rc) (n := rs) (by omega) (by omega) ?_
      exact g_iret hx hb hr hW hS dX5_sparing_20 hlocks (⟨hF, Or.inl ⟨by first | exact (fun w => ifz_0 c_6 w.1) | (intro w; omega), rfl, rfl⟩⟩)
    · refine lv_iload_n hx hb dX5_sparing_13 rfl (lv_at hl 3 rfl) ?_
      refine lv_iconst (v := J (1)) hx hb dX5_sparing_14 rfl ?_
      refine j_icmp_le (x := k) (y := 1) (tgt := 21) hx hb ⟨by omega, by omega⟩ ⟨by decide, by decide⟩ dX5_sparing_15 (by decide) (fun c_15 => ?_) (fun c_15 => ?_)
      · have hrq := hrm ⟨hq, by omega, by omega⟩
        refine lv_aload_n hx hb dX5_sparing_21 rfl (lv_at hl 0 rfl) ?_
        refine g_get (ci := 5) (C := RX5) (T := TX5) (N := 3) (v := .ref (R 1)) hx hb hfX5 (fun _ h9 => h9) hown hk hW hX.1 rfl 1 (by decide) (hts (.fieldLink RX5 10 "JugsAndGlasses" "search" "LJugsAndGlasses$Search;") (by decide +kernel)) rfl rfl dX5_sparing_22 ?_
        refine g_callV (As := []) (rest := []) (b := R 1) (ci := 2) (C := RX2) (T := TX2) (N := 9) ⟨hx, hb, hml, hown, hts⟩ (q_explore l g base sa h0 (R 1) DR DI DL DA hB hV) (cwV 0 hts gX5_sparing_X2_explore rfl rfl rfl (by decide +kernel) ⟨Nat.le_of_ble_eq_true rfl, Nat.le_of_ble_eq_true rfl⟩) hk hW hS hB.1.1 rfl rfl hl.1 (Nat.le_of_ble_eq_true rfl) dX5_sparing_25 ⟨by first | exact Nat.le_refl _ | (rw [Nat.zero_add]; first | exact hrq.1 | exact Nat.le_trans (Nat.le_add_right _ _) hrq.1 | exact Nat.le_refl _) | exact hrq.1 | exact Nat.le_trans (Nat.le_add_right _ _) hrq.1, by first | exact Nat.le_refl _ | (rw [Nat.zero_add]; first | exact hrq.2 | exact Nat.le_trans (Nat.le_add_right _ _) hrq.2 | exact Nat.le_refl _) | exact hrq.2 | exact Nat.le_trans (Nat.le_add_right _ _) hrq.2⟩ (fun r9 h9 H locs hp hW hS => ?_)
        obtain ⟨rfl, hF9, DR1, DI1, DL1, DA1, hB, hV1, h61, hK, hs1, eL, e31⟩ := hp
        refine W.widen (k := tCel (DL 3 1) (jN DI DA)) (n := tSlo (DL 3 1) (jN DI DA)) (by rw [Nat.zero_add]; exact Nat.le_refl _) (by rw [Nat.zero_add]; exact Nat.le_refl _) ?_
        refine W.eq (g2 := F0 m 28 ls []) rfl ?_
        have hF := hF.tr hF9 (fun q w _ => w)
        have hX := hX.fr hF9 aX
        have hs1 : ∀ q, FS (R 1) DR1 q → FS (R 1) DR q ∨ h0 q = none := hs1
        have aX1 : ∀ q, FP 3 kd5 o R q → ¬ FS (R 1) DR1 q := fun q w z => by
          rcases hs1 q z with y | y
          · exact aX q w y
          · exact hX0.ex w y
        generalize h9 = h at hX hB hF hW
        obtain ⟨k1, k2, k3⟩ := hK
        have hN := Wok_N vW
        have eN : jN DI1 DA1 = jN DI DA := by unfold jN; rw [k1, k2]
        have hG : OB g 1 7 kd1 h (R 0) (DR1 1) (DI1 1) L4 (DA1 1) := by rw [hj0, ← k3 0 (by omega)]; exact hB.2.1
        obtain ⟨wW, wV, wZ, wF, wA, wT, wS, wg, g6, g7, g8⟩ := id hV1
        have e50a : DL1 5 0 = DL 5 0 := by rw [eL]; rfl
        have e41a : DL1 4 1 = DL 4 1 := by rw [eL]; rfl
        refine lv_aload_n hx hb dX5_sparing_28 rfl (lv_at hl 0 rfl) ?_
        refine g_get (ci := 5) (C := RX5) (T := TX5) (N := 3) (v := .ref (R 1)) hx hb hfX5 (fun _ h9 => h9) hown hk hW hX.1 rfl 1 (by decide) (hts (.fieldLink RX5 10 "JugsAndGlasses" "search" "LJugsAndGlasses$Search;") (by decide +kernel)) rfl rfl dX5_sparing_29 ?_
        refine g_callV (As := []) (rest := []) (b := R 1) (ci := 2) (C := RX2) (T := TX2) (N := 9) ⟨hx, hb, hml, hown, hts⟩ (q_sparing l g base sa h (R 1) DR1 DI1 DL1 DA1 hB hV1 h61) (cwV 0 hts gX5_sparing_X2_exploreSparing rfl rfl rfl (by decide +kernel) ⟨Nat.le_of_ble_eq_true rfl, Nat.le_of_ble_eq_true rfl⟩) hk hW hS hB.1.1 rfl rfl hl.1 (Nat.le_of_ble_eq_true rfl) dX5_sparing_32 ⟨by rw [e50a, e41a, e31, eN]; exact hrq.1, by rw [e50a, e41a, e31, eN]; exact hrq.2⟩ (fun r9 h9 H locs hp hW hS => ?_)
        have hF1 := hF
        obtain ⟨rfl, hF9, DR2, DI2, DL2, DA2, hB, hV2, h82, hK2, hs2, eL2, e41, e50⟩ := hp
        refine W.widen (k := tCel (DL 3 1) (jN DI DA) + (sCel (DL 5 0) (tLen (DL 3 1) (jN DI DA)) + tCel (DL 4 1) (jN DI DA))) (n := tSlo (DL 3 1) (jN DI DA) + (sSlo (DL 5 0) (tLen (DL 3 1) (jN DI DA)) + tSlo (DL 4 1) (jN DI DA))) (by rw [e50a, e41a, e31, eN]; exact Nat.le_refl _) (by rw [e50a, e41a, e31, eN]; exact Nat.le_refl _) ?_
        refine W.eq (g2 := F0 m 35 ls []) rfl ?_
        have hF := hF.tr hF9 (fun q w z => (hs1 q w).elim id (fun y => absurd y z))
        have hX := hX.fr hF9 aX1
        have hs2 : ∀ q, FS (R 1) DR2 q → FS (R 1) DR q ∨ h0 q = none := fun q w => by
          rcases hs2 q w with y | y
          · exact hs1 q y
          · exact Or.inr (hF1.none y)
        have aX2 : ∀ q, FP 3 kd5 o R q → ¬ FS (R 1) DR2 q := fun q w z => by
          rcases hs2 q z with y | y
          · exact aX q w y
          · exact hX0.ex w y
        generalize h9 = h at hX hB hF hW
        obtain ⟨l1, l2, l3⟩ := hK2
        have m1 : DI2 1 = DI 1 := l1.trans k1
        have m2 : DA2 1 = DA 1 := l2.trans k2
        have m3 : ∀ k, k < 5 → DR2 0 k = DR 0 k := fun k hk => (l3 k hk).trans (k3 k hk)
        have eN2 : jN DI2 DA2 = jN DI DA := by unfold jN; rw [m1, m2]
        have hG : OB g 1 7 kd1 h (R 0) (DR2 1) (DI2 1) L4 (DA2 1) := by rw [hj0, ← m3 0 (by omega)]; exact hB.2.1
        obtain ⟨xW, xV, xZ, xF, xA, xT, xS, xg, u6, u7, u8⟩ := id hV2
        obtain ⟨h62, s1, s2, s3, pp2, s4⟩ := u8 h82
        obtain ⟨⟨f0, y1, y2, y3⟩, yb, pp, yc⟩ := u6 h62
        have hthr : i32 (thF (DA2 4 0) (goC (DI2 1 0) (DA2 1 4) i v) (DA2 5 0) (DI2 4 3).toNat) := by
          rcases thF_spec (fo := DA2 4 0) (q := goC (DI2 1 0) (DA2 1 4) i v) (le := DA2 5 0) (fun _ => Or.inr trivial) (DI2 4 3).toNat (fun k a b => ((TB_fo s4 (by rw [eN2]; exact hN.2) s2).2 k a (by omega)).1) with w | ⟨K, w1, w2, w3, w4⟩
          · rw [w.1]; exact ⟨by decide, by decide⟩
          · rw [w3]; have := (TB_fo s4 (by rw [eN2]; exact hN.2) s2).2 K w1 (by omega); exact ⟨by omega, by omega⟩
        refine lv_aload_n hx hb dX5_sparing_35 rfl (lv_at hl 0 rfl) ?_
        refine g_get (ci := 5) (C := RX5) (T := TX5) (N := 3) (v := .ref (R 1)) hx hb hfX5 (fun _ h9 => h9) hown hk hW hX.1 rfl 1 (by decide) (hts (.fieldLink RX5 10 "JugsAndGlasses" "search" "LJugsAndGlasses$Search;") (by decide +kernel)) rfl rfl dX5_sparing_36 ?_
        refine lv_iload_n hx hb dX5_sparing_39 rfl (lv_at hl 1 rfl) ?_
        refine lv_iload_n hx hb dX5_sparing_40 rfl (lv_at hl 2 rfl) ?_
        refine g_callV (As := [.int (J i), .int (J v)]) (rest := []) (b := R 1) (ci := 2) (C := RX2) (T := TX2) (N := 9) ⟨hx, hb, hml, hown, hts⟩ (q_thriftiest l g base sa h (R 1) DR2 DI2 DL2 DA2 i v hB hV2 h82 hi9 hv9) (cwV 2 hts gX5_sparing_X2_thriftiest rfl rfl rfl (by decide +kernel) ⟨Nat.le_of_ble_eq_true rfl, Nat.le_of_ble_eq_true rfl⟩) hk hW hS hB.1.1 rfl rfl hl.1 (Nat.le_of_ble_eq_true rfl) dX5_sparing_41 ⟨by first | exact Nat.le_refl _ | (rw [Nat.zero_add]; first | exact hrq.1 | exact Nat.le_trans (Nat.le_add_right _ _) hrq.1 | exact Nat.le_refl _) | exact hrq.1 | exact Nat.le_trans (Nat.le_add_right _ _) hrq.1, by first | exact Nat.le_refl _ | (rw [Nat.zero_add]; first | exact hrq.2 | exact Nat.le_trans (Nat.le_add_right _ _) hrq.2 | exact Nat.le_refl _) | exact hrq.2 | exact Nat.le_trans (Nat.le_add_right _ _) hrq.2⟩ (fun r9 h9 H locs hp hW hS => ?_)
        obtain ⟨rfl, hF9, f, hB, hV3⟩ := hp
        refine W.widen (k := tCel (DL 3 1) (jN DI DA) + (sCel (DL 5 0) (tLen (DL 3 1) (jN DI DA)) + tCel (DL 4 1) (jN DI DA))) (n := tSlo (DL 3 1) (jN DI DA) + (sSlo (DL 5 0) (tLen (DL 3 1) (jN DI DA)) + tSlo (DL 4 1) (jN DI DA))) (Nat.le_refl _) (Nat.le_refl _) ?_
        refine W.eq (g2 := F0 m 44 ls [.int (J (thF (DA2 4 0) (goC (DI2 1 0) (DA2 1 4) i v) (DA2 5 0) (DI2 4 3).toNat))]) rfl ?_
        have hF := hF.tr hF9 (fun q w z => (hs2 q w).elim id (fun y => absurd y z))
        have hX := hX.fr hF9 aX2
        generalize h9 = h at hX hB hF hW
        obtain ⟨DA3, eA⟩ : ∃ DA3, DA3 = va_up DA2 2 (va_up (DA2 2) 5 f) := ⟨_, rfl⟩
        have a0 : DA3 0 = DA2 0 := by rw [eA]; rfl
        have a1 : DA3 1 = DA2 1 := by rw [eA]; rfl
        have a3 : DA3 3 = DA2 3 := by rw [eA]; rfl
        have a4 : DA3 4 = DA2 4 := by rw [eA]; rfl
        have a5 : DA3 5 = DA2 5 := by rw [eA]; rfl
        rw [← eA] at hB hV3
        refine lv_istore (lv' := [(4, .int (J (thF (DA2 4 0) (goC (DI2 1 0) (DA2 1 4) i v) (DA2 5 0) (DI2 4 3).toNat))), (0, .ref o), (1, .int (J i)), (2, .int (J v)), (3, .int (J k))]) hx hb dX5_sparing_44 hl (by decide) rfl (fun ls hl => ?_)
        refine lv_iload_n hx hb dX5_sparing_46 rfl (lv_at hl 4 rfl) ?_
        refine j_if_ne (x := k) (tgt := 65) hx hb ⟨by omega, by omega⟩ dX5_sparing_47 (by decide) (fun c_47 => ?_) (fun c_47 => ?_)
        · refine lv_aload_n hx hb dX5_sparing_65 rfl (lv_at hl 1 rfl) ?_
          refine g_get (ci := 5) (C := RX5) (T := TX5) (N := 3) (v := .ref (R 1)) hx hb hfX5 (fun _ h9 => h9) hown hk hW hX.1 rfl 1 (by decide) (hts (.fieldLink RX5 10 "JugsAndGlasses" "search" "LJugsAndGlasses$Search;") (by decide +kernel)) rfl rfl dX5_sparing_66 ?_
          refine g_get (ci := 2) (C := RX2) (T := TX2) (N := 9) (v := .ref (DR2 0 3)) hx hb hfX2 (fun _ h9 => h9) hown hk hW hB.1.1 rfl 3 (by decide) (hts (.fieldLink RX5 120 "JugsAndGlasses$Search" "thrifty" "LJugsAndGlasses$Tour;") (by decide +kernel)) rfl rfl dX5_sparing_69 ?_
          refine lv_iload hx hb dX5_sparing_72 (lv_at hl 0 rfl) ?_
          refine g_callV (As := [.int (J (thF (DA2 4 0) (goC (DI2 1 0) (DA2 1 4) i v) (DA2 5 0) (DI2 4 3).toNat))]) (rest := []) (b := DR2 0 3) (ci := 4) (C := RX4) (T := TX4) (N := 4) ⟨hx, hb, hml, hown, hts⟩ (t_acts l g base sa h (DR2 0 3) (DR2 4) (DI2 4) (DL2 4) (DA3 4) (thF (DA2 4 0) (goC (DI2 1 0) (DA2 1 4) i v) (DA2 5 0) (DI2 4 3).toNat) hB.2.2.2.2.1 hthr ⟨xT.1, xT.2.1⟩ (by rw [a4]; exact TB_lv s4 (by rw [eN2]; exact hN.2))) (cwV 1 hts gX5_sparing_X4_acts rfl rfl rfl (by decide +kernel) ⟨Nat.le_of_ble_eq_true rfl, Nat.le_of_ble_eq_true rfl⟩) hk hW hS hB.2.2.2.2.1.1 rfl rfl hl.1 (Nat.le_of_ble_eq_true rfl) dX5_sparing_74 ⟨by first | exact Nat.le_refl _ | (rw [Nat.zero_add]; first | exact hrq.1 | exact Nat.le_trans (Nat.le_add_right _ _) hrq.1 | exact Nat.le_refl _) | exact hrq.1 | exact Nat.le_trans (Nat.le_add_right _ _) hrq.1, by first | exact Nat.le_refl _ | (rw [Nat.zero_add]; first | exact hrq.2 | exact Nat.le_trans (Nat.le_add_right _ _) hrq.2 | exact Nat.le_refl _) | exact hrq.2 | exact Nat.le_trans (Nat.le_add_right _ _) hrq.2⟩ (fun r9 h9 H locs hp hW hS => ?_)
          obtain ⟨rfl, e9⟩ := hp
          rw [e9] at hW
          refine W.widen (k := tCel (DL 3 1) (jN DI DA) + (sCel (DL 5 0) (tLen (DL 3 1) (jN DI DA)) + tCel (DL 4 1) (jN DI DA))) (n := tSlo (DL 3 1) (jN DI DA) + (sSlo (DL 5 0) (tLen (DL 3 1) (jN DI DA)) + tSlo (DL 4 1) (jN DI DA))) (Nat.le_refl _) (Nat.le_refl _) ?_
          refine W.eq (g2 := F0 m 77 ls [.int (J (if 0 ≤ thF (DA2 4 0) (goC (DI2 1 0) (DA2 1 4) i v) (DA2 5 0) (DI2 4 3).toNat ∧ thF (DA2 4 0) (goC (DI2 1 0) (DA2 1 4) i v) (DA2 5 0) (DI2 4 3).toNat < DL2 4 1 ∧ 0 ≤ DA3 4 1 (thF (DA2 4 0) (goC (DI2 1 0) (DA2 1 4) i v) (DA2 5 0) (DI2 4 3).toNat) then DA3 4 1 (thF (DA2 4 0) (goC (DI2 1 0) (DA2 1 4) i v) (DA2 5 0) (DI2 4 3).toNat) else -1))]) rfl ?_
          refine W.widen (k := rc) (n := rs) (by omega) (by omega) ?_
          exact g_iret hx hb hr hW hS dX5_sparing_77 hlocks (⟨hF, Or.inr ⟨⟨hq, by omega, by omega⟩, _, DR2, DI2, DL2, DA3, rfl, by have e9 : k = 1 := (by omega); have y9 := (ansS (i := i) (v := v) (tp := DI2 1 2) (dr := DI2 1 3) xW.1 xV (by rw [m1]; exact hq.1) s2 (Int.le_trans yb s1) s3 s4).2.1; rw [a4, e9]; unfold jX jC jN at *; rw [m1, m2] at y9; rw [m1, m2]; exact y9, hB, hV3, ⟨m1, by rw [a1]; exact m2, m3⟩, hs2, by rw [eL2, eL]; rfl, by rw [eL2]; exact e31, by rw [e41, e41a, eN], by rw [e50, e50a, e31]⟩⟩)
        · refine lv_aload_n hx hb dX5_sparing_50 rfl (lv_at hl 1 rfl) ?_
          refine g_get (ci := 5) (C := RX5) (T := TX5) (N := 3) (v := .ref (R 1)) hx hb hfX5 (fun _ h9 => h9) hown hk hW hX.1 rfl 1 (by decide) (hts (.fieldLink RX5 10 "JugsAndGlasses" "search" "LJugsAndGlasses$Search;") (by decide +kernel)) rfl rfl dX5_sparing_51 ?_
          refine g_get (ci := 2) (C := RX2) (T := TX2) (N := 9) (v := .ref (DR2 0 4)) hx hb hfX2 (fun _ h9 => h9) hown hk hW hB.1.1 rfl 4 (by decide) (hts (.fieldLink RX5 111 "JugsAndGlasses$Search" "spilling" "LJugsAndGlasses$Spilling;") (by decide +kernel)) rfl rfl dX5_sparing_54 ?_
          refine lv_iload hx hb dX5_sparing_57 (lv_at hl 0 rfl) ?_
          refine g_callV (As := [.int (J (thF (DA2 4 0) (goC (DI2 1 0) (DA2 1 4) i v) (DA2 5 0) (DI2 4 3).toNat))]) (rest := []) (b := DR2 0 4) (ci := 3) (C := RX3) (T := TX3) (N := 2) ⟨hx, hb, hml, hown, hts⟩ (s_leastFor l g base sa h (DR2 0 4) (DR2 5) (DI2 5) (DL2 5) (DA3 5) (thF (DA2 4 0) (goC (DI2 1 0) (DA2 1 4) i v) (DA2 5 0) (DI2 4 3).toNat) hB.2.2.2.2.2.1 ⟨xS.1, xS.2.1⟩ hthr) (cwV 1 hts gX5_sparing_X3_leastFor rfl rfl rfl (by decide +kernel) ⟨Nat.le_of_ble_eq_true rfl, Nat.le_of_ble_eq_true rfl⟩) hk hW hS hB.2.2.2.2.2.1.1 rfl rfl hl.1 (Nat.le_of_ble_eq_true rfl) dX5_sparing_59 ⟨by first | exact Nat.le_refl _ | (rw [Nat.zero_add]; first | exact hrq.1 | exact Nat.le_trans (Nat.le_add_right _ _) hrq.1 | exact Nat.le_refl _) | exact hrq.1 | exact Nat.le_trans (Nat.le_add_right _ _) hrq.1, by first | exact Nat.le_refl _ | (rw [Nat.zero_add]; first | exact hrq.2 | exact Nat.le_trans (Nat.le_add_right _ _) hrq.2 | exact Nat.le_refl _) | exact hrq.2 | exact Nat.le_trans (Nat.le_add_right _ _) hrq.2⟩ (fun r9 h9 H locs hp hW hS => ?_)
          obtain ⟨rfl, e9⟩ := hp
          rw [e9] at hW
          refine W.widen (k := tCel (DL 3 1) (jN DI DA) + (sCel (DL 5 0) (tLen (DL 3 1) (jN DI DA)) + tCel (DL 4 1) (jN DI DA))) (n := tSlo (DL 3 1) (jN DI DA) + (sSlo (DL 5 0) (tLen (DL 3 1) (jN DI DA)) + tSlo (DL 4 1) (jN DI DA))) (Nat.le_refl _) (Nat.le_refl _) ?_
          refine W.eq (g2 := F0 m 62 ls [.int (J (if 0 ≤ thF (DA2 4 0) (goC (DI2 1 0) (DA2 1 4) i v) (DA2 5 0) (DI2 4 3).toNat ∧ thF (DA2 4 0) (goC (DI2 1 0) (DA2 1 4) i v) (DA2 5 0) (DI2 4 3).toNat < DL2 5 0 then DA3 5 0 (thF (DA2 4 0) (goC (DI2 1 0) (DA2 1 4) i v) (DA2 5 0) (DI2 4 3).toNat) else -1))]) rfl ?_
          refine lv_goto (tgt := 77) hx hb dX5_sparing_62 (by decide) ?_
          refine W.widen (k := rc) (n := rs) (by omega) (by omega) ?_
          exact g_iret hx hb hr hW hS dX5_sparing_77 hlocks (⟨hF, Or.inr ⟨⟨hq, by omega, by omega⟩, _, DR2, DI2, DL2, DA3, rfl, by have e9 : k = 0 := (by omega); have y9 := (ansS (i := i) (v := v) (tp := DI2 1 2) (dr := DI2 1 3) xW.1 xV (by rw [m1]; exact hq.1) s2 (Int.le_trans yb s1) s3 s4).1; rw [a5, e9]; unfold jX jC jN at *; rw [m1, m2] at y9; rw [m1, m2]; exact y9, hB, hV3, ⟨m1, by rw [a1]; exact m2, m3⟩, hs2, by rw [eL2, eL]; rfl, by rw [eL2]; exact e31, by rw [e41, e41a, eN], by rw [e50, e50a, e31]⟩⟩)
      · refine lv_bipush (v := J (-2)) hx hb dX5_sparing_18 (by decide) ?_
        refine W.widen (k := rc) (n := rs) (by omega) (by omega) ?_
        exact g_iret hx hb hr hW hS dX5_sparing_20 hlocks (⟨hF, Or.inl ⟨by first | exact (fun w => ifz_0 c_6 w.1) | (intro w; omega), rfl, rfl⟩⟩)

set_option maxHeartbeats 4000000 in
set_option maxRecDepth 100000 in
theorem x_spare (l : Launch) (g : GX) (base : Nat) (sa : Nat → Nat) (h0 : Hp) (o : Nat) (R : Nat → Nat) (I L : Nat → Int) (A : Nat → Int → Int) (DR : Nat → Nat → Nat) (DI DL : Nat → Nat → Int) (DA : Nat → Nat → Int → Int) (rc rs : Nat) (i v k : Int) (hX : OB g 5 3 kd5 h0 o R I L A) (hB : QB g h0 (R 1) DR DI DL DA) (hV : QV DI DL DA) (hj0 : R 0 = DR 0 0) (aX : ∀ q, FP 3 kd5 o R q → ¬ FS (R 1) DR q) (hrm : (((i = -1 ∨ (0 ≤ i ∧ i < DI 1 0)) ∧ 0 ≤ v ∧ v ≤ 10) ∧ 0 ≤ k) → tCel (DL 3 1) (jN DI DA) + (sCel (DL 5 0) (tLen (DL 3 1) (jN DI DA)) + tCel (DL 4 1) (jN DI DA)) ≤ rc ∧ tSlo (DL 3 1) (jN DI DA) + (sSlo (DL 5 0) (tLen (DL 3 1) (jN DI DA)) + tSlo (DL 4 1) (jN DI DA)) ≤ rs) (hi9 : i32 i) (hv9 : i32 v) (hk9 : i32 k) : MC l g base sa yX5_spare wsX5_spare ({ frames := 5, cells := rc, slots := rs, locals := 123 }) ([.ref o, .int (J i), .int (J v), .int (J k)]) h0 (fun r9 h' => Fr (FS (R 1) DR) h0 h' ∧ ((¬ (((i = -1 ∨ (0 ≤ i ∧ i < DI 1 0)) ∧ 0 ≤ v ∧ v ≤ 10) ∧ 0 ≤ k) ∧ r9 = some (.int (J (-2))) ∧ h' = h0) ∨ ((((i = -1 ∨ (0 ≤ i ∧ i < DI 1 0)) ∧ 0 ≤ v ∧ v ≤ 10) ∧ 0 ≤ k) ∧ ∃ z DR' DI' DL' DA', r9 = some (.int (J z)) ∧ AnP (DI 1 0) (DI 1 2) (DI 1 3) (DA 1 4) (DA 1 5) i v k z ∧ QB g h' (R 1) DR' DI' DL' DA' ∧ QV DI' DL' DA' ∧ QK DR DR' DI DI' DA DA' ∧ (∀ q, FS (R 1) DR' q → FS (R 1) DR q ∨ h0 q = none) ∧ DL' = va_up (va_up (va_up DL 3 (DL' 3)) 4 (DL' 4)) 5 (DL' 5) ∧ DL' 3 1 = tLen (DL 3 1) (jN DI DA) ∧ DL' 4 1 = tLen (DL 4 1) (jN DI DA) ∧ DL' 5 0 = sLen (DL 5 0) (tLen (DL 3 1) (jN DI DA))))) := by
  refine Met.ofW (cc := cX5_spare) (maxL := 4) (ret := (some .int)) (by decide) rfl ?_
  intro p e s m args below meth c s₁ B hml hv
  obtain ⟨rfl, hk, hW⟩ := hv
  have hx := B.exec
  have hb := B.bytes
  have hr := B.returns
  have hts := atoms_spec (ws := wsX5_spare) B.pre
  have hown : s.vm.findClass RX5 = some m.cls := findClass_of_methodNamed B.named
  have hlocks := B.notSynchronized
  have hfX1 : ∀ w ∈ wsX10, w.before ([.ref o, .int (J i), .int (J v), .int (J k)]).toArray s = true := fun w h => hts w (List.mem_cons_of_mem _ (List.mem_append_left _ (List.mem_append_left _ (List.mem_append_right _ h))))
  have hfX2 : ∀ w ∈ wsX20, w.before ([.ref o, .int (J i), .int (J v), .int (J k)]).toArray s = true := fun w h => hts w (List.mem_cons_of_mem _ (List.mem_append_left _ (List.mem_append_left _ (List.mem_append_left _ (List.mem_append_right _ h)))))
  have hfX3 : ∀ w ∈ wsX30, w.before ([.ref o, .int (J i), .int (J v), .int (J k)]).toArray s = true := fun w h => hts w (List.mem_cons_of_mem _ (List.mem_append_right _ h))
  have hfX4 : ∀ w ∈ wsX40, w.before ([.ref o, .int (J i), .int (J v), .int (J k)]).toArray s = true := fun w h => hts w (List.mem_cons_of_mem _ (List.mem_append_left _ (List.mem_append_right _ h)))
  have hfX5 : ∀ w ∈ wsX50, w.before ([.ref o, .int (J i), .int (J v), .int (J k)]).toArray s = true := fun w h => hts w (List.mem_cons_of_mem _ (List.mem_append_left _ (List.mem_append_left _ (List.mem_append_left _ (List.mem_append_left _ (List.mem_append_right _ h))))))
  have hS : va_S (Ab base) s.heap s.heap [] := va_S.rf
  have hl := lv_entry ([.ref o, .int (J i), .int (J v), .int (J k)]) (n := 4) (Nat.le_of_ble_eq_true rfl)
  rw [lg_entry_eq]
  generalize (lg_sl ([.ref o, .int (J i), .int (J v), .int (J k)]) ++ List.replicate (4 - (lg_sl ([.ref o, .int (J i), .int (J v), .int (J k)])).length) Slot.unset).toArray = ls at hl ⊢
  have hl : lv_has ls 4 [(0, .ref o), (1, .int (J i)), (2, .int (J v)), (3, .int (J k))] := hl
  have hF : Fr (FS (R 1) DR) h0 h0 := Fr.rf
  obtain ⟨vW, vV, vZ, vF, vA, vT, vS, vg, f6, f7, f8⟩ := id hV
  have hn : 0 ≤ DI 1 0 ∧ DI 1 0 ≤ 4 := ⟨vW.1.1, vW.1.2.1⟩
  have hG : OB g 1 7 kd1 h0 (R 0) (DR 1) (DI 1) L4 (DA 1) := by rw [hj0]; exact hB.2.1
  have hX0 := hX
  obtain ⟨hk1, hk2⟩ := id hk9
  refine lv_aload_n hx hb dX5_spare_0 rfl (lv_at hl 0 rfl) ?_
  refine lv_iload_n hx hb dX5_spare_1 rfl (lv_at hl 1 rfl) ?_
  refine lv_iload_n hx hb dX5_spare_2 rfl (lv_at hl 2 rfl) ?_
  refine g_callV (As := [.int (J i), .int (J v)]) (rest := []) (b := o) (ci := 5) (C := RX5) (T := TX5) (N := 3) ⟨hx, hb, hml, hown, hts⟩ (x_isAim l g base sa h0 o R I L A DR DI DL DA i v hX hB hV hj0 hi9 hv9) (cwV 2 hts gX5_spare_X5_isAim rfl rfl rfl (by decide +kernel) ⟨Nat.le_of_ble_eq_true rfl, Nat.le_of_ble_eq_true rfl⟩) hk hW hS hX.1 rfl rfl hl.1 (Nat.le_of_ble_eq_true rfl) dX5_spare_3 ⟨Nat.le_of_ble_eq_true rfl, Nat.le_of_ble_eq_true rfl⟩ (fun r9 h9 H locs hp hW hS => ?_)
  obtain ⟨rfl, e9⟩ := hp
  rw [e9] at hW
  refine W.widen (k := 0) (n := 0) (Nat.le_refl _) (Nat.le_refl _) ?_
  refine W.eq (g2 := F0 m 6 ls [.int (J (if ((i = -1 ∨ (0 ≤ i ∧ i < DI 1 0)) ∧ 0 ≤ v ∧ v ≤ 10) then 1 else 0))]) rfl ?_
  have hz := ifz (P := ((i = -1 ∨ (0 ≤ i ∧ i < DI 1 0)) ∧ 0 ≤ v ∧ v ≤ 10))
  refine j_if_eq (x := if ((i = -1 ∨ (0 ≤ i ∧ i < DI 1 0)) ∧ 0 ≤ v ∧ v ≤ 10) then 1 else 0) (tgt := 13) hx hb ⟨by omega, by omega⟩ dX5_spare_6 (by decide) (fun c_6 => ?_) (fun c_6 => ?_)
  · refine lv_bipush (v := J (-2)) hx hb dX5_spare_13 (by decide) ?_
    refine W.widen (k := rc) (n := rs) (by omega) (by omega) ?_
    exact g_iret hx hb hr hW hS dX5_spare_15 hlocks (⟨hF, Or.inl ⟨by first | exact (fun w => ifz_0 c_6 w.1) | exact (fun w => c_10 w.2), rfl, rfl⟩⟩)
  · have hq := ifz_1 c_6
    refine lv_iload_n hx hb dX5_spare_9 rfl (lv_at hl 3 rfl) ?_
    refine j_if_ge (x := k) (tgt := 16) hx hb ⟨by omega, by omega⟩ dX5_spare_10 (by decide) (fun c_10 => ?_) (fun c_10 => ?_)
    · have hrq := hrm ⟨hq, by omega⟩
      refine lv_aload_n hx hb dX5_spare_16 rfl (lv_at hl 0 rfl) ?_
      refine g_get (ci := 5) (C := RX5) (T := TX5) (N := 3) (v := .ref (R 1)) hx hb hfX5 (fun _ h9 => h9) hown hk hW hX.1 rfl 1 (by decide) (hts (.fieldLink RX5 10 "JugsAndGlasses" "search" "LJugsAndGlasses$Search;") (by decide +kernel)) rfl rfl dX5_spare_17 ?_
      refine g_callV (As := []) (rest := []) (b := R 1) (ci := 2) (C := RX2) (T := TX2) (N := 9) ⟨hx, hb, hml, hown, hts⟩ (q_explore l g base sa h0 (R 1) DR DI DL DA hB hV) (cwV 0 hts gX5_spare_X2_explore rfl rfl rfl (by decide +kernel) ⟨Nat.le_of_ble_eq_true rfl, Nat.le_of_ble_eq_true rfl⟩) hk hW hS hB.1.1 rfl rfl hl.1 (Nat.le_of_ble_eq_true rfl) dX5_spare_20 ⟨by first | exact Nat.le_refl _ | (rw [Nat.zero_add]; first | exact hrq.1 | exact Nat.le_trans (Nat.le_add_right _ _) hrq.1 | exact Nat.le_refl _) | exact hrq.1 | exact Nat.le_trans (Nat.le_add_right _ _) hrq.1, by first | exact Nat.le_refl _ | (rw [Nat.zero_add]; first | exact hrq.2 | exact Nat.le_trans (Nat.le_add_right _ _) hrq.2 | exact Nat.le_refl _) | exact hrq.2 | exact Nat.le_trans (Nat.le_add_right _ _) hrq.2⟩ (fun r9 h9 H locs hp hW hS => ?_)
      obtain ⟨rfl, hF9, DR1, DI1, DL1, DA1, hB, hV1, h61, hK, hs1, eL, e31⟩ := hp
      refine W.widen (k := tCel (DL 3 1) (jN DI DA)) (n := tSlo (DL 3 1) (jN DI DA)) (by rw [Nat.zero_add]; exact Nat.le_refl _) (by rw [Nat.zero_add]; exact Nat.le_refl _) ?_
      refine W.eq (g2 := F0 m 23 ls []) rfl ?_
      have hF := hF.tr hF9 (fun q w _ => w)
      have hX := hX.fr hF9 aX
      have hs1 : ∀ q, FS (R 1) DR1 q → FS (R 1) DR q ∨ h0 q = none := hs1
      have aX1 : ∀ q, FP 3 kd5 o R q → ¬ FS (R 1) DR1 q := fun q w z => by
        rcases hs1 q z with y | y
        · exact aX q w y
        · exact hX0.ex w y
      generalize h9 = h at hX hB hF hW
      obtain ⟨k1, k2, k3⟩ := hK
      have hN := Wok_N vW
      have eN : jN DI1 DA1 = jN DI DA := by unfold jN; rw [k1, k2]
      have hG : OB g 1 7 kd1 h (R 0) (DR1 1) (DI1 1) L4 (DA1 1) := by rw [hj0, ← k3 0 (by omega)]; exact hB.2.1
      obtain ⟨wW, wV, wZ, wF, wA, wT, wS, wg, g6, g7, g8⟩ := id hV1
      have e50a : DL1 5 0 = DL 5 0 := by rw [eL]; rfl
      have e41a : DL1 4 1 = DL 4 1 := by rw [eL]; rfl
      refine lv_aload_n hx hb dX5_spare_23 rfl (lv_at hl 0 rfl) ?_
      refine g_get (ci := 5) (C := RX5) (T := TX5) (N := 3) (v := .ref (R 1)) hx hb hfX5 (fun _ h9 => h9) hown hk hW hX.1 rfl 1 (by decide) (hts (.fieldLink RX5 10 "JugsAndGlasses" "search" "LJugsAndGlasses$Search;") (by decide +kernel)) rfl rfl dX5_spare_24 ?_
      refine g_callV (As := []) (rest := []) (b := R 1) (ci := 2) (C := RX2) (T := TX2) (N := 9) ⟨hx, hb, hml, hown, hts⟩ (q_sparing l g base sa h (R 1) DR1 DI1 DL1 DA1 hB hV1 h61) (cwV 0 hts gX5_spare_X2_exploreSparing rfl rfl rfl (by decide +kernel) ⟨Nat.le_of_ble_eq_true rfl, Nat.le_of_ble_eq_true rfl⟩) hk hW hS hB.1.1 rfl rfl hl.1 (Nat.le_of_ble_eq_true rfl) dX5_spare_27 ⟨by rw [e50a, e41a, e31, eN]; exact hrq.1, by rw [e50a, e41a, e31, eN]; exact hrq.2⟩ (fun r9 h9 H locs hp hW hS => ?_)
      have hF1 := hF
      obtain ⟨rfl, hF9, DR2, DI2, DL2, DA2, hB, hV2, h82, hK2, hs2, eL2, e41, e50⟩ := hp
      refine W.widen (k := tCel (DL 3 1) (jN DI DA) + (sCel (DL 5 0) (tLen (DL 3 1) (jN DI DA)) + tCel (DL 4 1) (jN DI DA))) (n := tSlo (DL 3 1) (jN DI DA) + (sSlo (DL 5 0) (tLen (DL 3 1) (jN DI DA)) + tSlo (DL 4 1) (jN DI DA))) (by rw [e50a, e41a, e31, eN]; exact Nat.le_refl _) (by rw [e50a, e41a, e31, eN]; exact Nat.le_refl _) ?_
      refine W.eq (g2 := F0 m 30 ls []) rfl ?_
      have hF := hF.tr hF9 (fun q w z => (hs1 q w).elim id (fun y => absurd y z))
      have hX := hX.fr hF9 aX1
      have hs2 : ∀ q, FS (R 1) DR2 q → FS (R 1) DR q ∨ h0 q = none := fun q w => by
        rcases hs2 q w with y | y
        · exact hs1 q y
        · exact Or.inr (hF1.none y)
      have aX2 : ∀ q, FP 3 kd5 o R q → ¬ FS (R 1) DR2 q := fun q w z => by
        rcases hs2 q z with y | y
        · exact aX q w y
        · exact hX0.ex w y
      generalize h9 = h at hX hB hF hW
      obtain ⟨l1, l2, l3⟩ := hK2
      have m1 : DI2 1 = DI 1 := l1.trans k1
      have m2 : DA2 1 = DA 1 := l2.trans k2
      have m3 : ∀ k, k < 5 → DR2 0 k = DR 0 k := fun k hk => (l3 k hk).trans (k3 k hk)
      have eN2 : jN DI2 DA2 = jN DI DA := by unfold jN; rw [m1, m2]
      have hG : OB g 1 7 kd1 h (R 0) (DR2 1) (DI2 1) L4 (DA2 1) := by rw [hj0, ← m3 0 (by omega)]; exact hB.2.1
      obtain ⟨xW, xV, xZ, xF, xA, xT, xS, xg, u6, u7, u8⟩ := id hV2
      obtain ⟨h62, s1, s2, s3, pp2, s4⟩ := u8 h82
      obtain ⟨⟨f0, y1, y2, y3⟩, yb, pp, yc⟩ := u6 h62
      have hthr : i32 (thF (DA2 4 0) (goC (DI2 1 0) (DA2 1 4) i v) (DA2 5 0) (DI2 4 3).toNat) := by
        rcases thF_spec (fo := DA2 4 0) (q := goC (DI2 1 0) (DA2 1 4) i v) (le := DA2 5 0) (fun _ => Or.inr trivial) (DI2 4 3).toNat (fun k a b => ((TB_fo s4 (by rw [eN2]; exact hN.2) s2).2 k a (by omega)).1) with w | ⟨K, w1, w2, w3, w4⟩
        · rw [w.1]; exact ⟨by decide, by decide⟩
        · rw [w3]; have := (TB_fo s4 (by rw [eN2]; exact hN.2) s2).2 K w1 (by omega); exact ⟨by omega, by omega⟩
      refine lv_aload_n hx hb dX5_spare_30 rfl (lv_at hl 0 rfl) ?_
      refine g_get (ci := 5) (C := RX5) (T := TX5) (N := 3) (v := .ref (R 1)) hx hb hfX5 (fun _ h9 => h9) hown hk hW hX.1 rfl 1 (by decide) (hts (.fieldLink RX5 10 "JugsAndGlasses" "search" "LJugsAndGlasses$Search;") (by decide +kernel)) rfl rfl dX5_spare_31 ?_
      refine g_get (ci := 2) (C := RX2) (T := TX2) (N := 9) (v := .ref (DR2 0 3)) hx hb hfX2 (fun _ h9 => h9) hown hk hW hB.1.1 rfl 3 (by decide) (hts (.fieldLink RX5 120 "JugsAndGlasses$Search" "thrifty" "LJugsAndGlasses$Tour;") (by decide +kernel)) rfl rfl dX5_spare_34 ?_
      refine lv_aload_n hx hb dX5_spare_37 rfl (lv_at hl 0 rfl) ?_
      refine g_get (ci := 5) (C := RX5) (T := TX5) (N := 3) (v := .ref (R 1)) hx hb hfX5 (fun _ h9 => h9) hown hk hW hX.1 rfl 1 (by decide) (hts (.fieldLink RX5 10 "JugsAndGlasses" "search" "LJugsAndGlasses$Search;") (by decide +kernel)) rfl rfl dX5_spare_38 ?_
      refine lv_iload_n hx hb dX5_spare_41 rfl (lv_at hl 1 rfl) ?_
      refine lv_iload_n hx hb dX5_spare_42 rfl (lv_at hl 2 rfl) ?_
      refine g_callV (As := [.int (J i), .int (J v)]) (rest := [.ref (DR2 0 3)]) (b := R 1) (ci := 2) (C := RX2) (T := TX2) (N := 9) ⟨hx, hb, hml, hown, hts⟩ (q_thriftiest l g base sa h (R 1) DR2 DI2 DL2 DA2 i v hB hV2 h82 hi9 hv9) (cwV 2 hts gX5_spare_X2_thriftiest rfl rfl rfl (by decide +kernel) ⟨Nat.le_of_ble_eq_true rfl, Nat.le_of_ble_eq_true rfl⟩) hk hW hS hB.1.1 rfl rfl hl.1 (Nat.le_of_ble_eq_true rfl) dX5_spare_43 ⟨by first | exact Nat.le_refl _ | (rw [Nat.zero_add]; first | exact hrq.1 | exact Nat.le_trans (Nat.le_add_right _ _) hrq.1 | exact Nat.le_refl _) | exact hrq.1 | exact Nat.le_trans (Nat.le_add_right _ _) hrq.1, by first | exact Nat.le_refl _ | (rw [Nat.zero_add]; first | exact hrq.2 | exact Nat.le_trans (Nat.le_add_right _ _) hrq.2 | exact Nat.le_refl _) | exact hrq.2 | exact Nat.le_trans (Nat.le_add_right _ _) hrq.2⟩ (fun r9 h9 H locs hp hW hS => ?_)
      obtain ⟨rfl, hF9, f, hB, hV3⟩ := hp
      refine W.widen (k := tCel (DL 3 1) (jN DI DA) + (sCel (DL 5 0) (tLen (DL 3 1) (jN DI DA)) + tCel (DL 4 1) (jN DI DA))) (n := tSlo (DL 3 1) (jN DI DA) + (sSlo (DL 5 0) (tLen (DL 3 1) (jN DI DA)) + tSlo (DL 4 1) (jN DI DA))) (Nat.le_refl _) (Nat.le_refl _) ?_
      refine W.eq (g2 := F0 m 46 ls [.int (J (thF (DA2 4 0) (goC (DI2 1 0) (DA2 1 4) i v) (DA2 5 0) (DI2 4 3).toNat)), .ref (DR2 0 3)]) rfl ?_
      have hF := hF.tr hF9 (fun q w z => (hs2 q w).elim id (fun y => absurd y z))
      have hX := hX.fr hF9 aX2
      generalize h9 = h at hX hB hF hW
      obtain ⟨DA3, eA⟩ : ∃ DA3, DA3 = va_up DA2 2 (va_up (DA2 2) 5 f) := ⟨_, rfl⟩
      have a0 : DA3 0 = DA2 0 := by rw [eA]; rfl
      have a1 : DA3 1 = DA2 1 := by rw [eA]; rfl
      have a3 : DA3 3 = DA2 3 := by rw [eA]; rfl
      have a4 : DA3 4 = DA2 4 := by rw [eA]; rfl
      have a5 : DA3 5 = DA2 5 := by rw [eA]; rfl
      rw [← eA] at hB hV3
      refine lv_iload_n hx hb dX5_spare_46 rfl (lv_at hl 3 rfl) ?_
      refine g_callV (As := [.int (J (thF (DA2 4 0) (goC (DI2 1 0) (DA2 1 4) i v) (DA2 5 0) (DI2 4 3).toNat)), .int (J k)]) (rest := []) (b := DR2 0 3) (ci := 4) (C := RX4) (T := TX4) (N := 4) ⟨hx, hb, hml, hown, hts⟩ (t_actOfRow l g base sa h (DR2 0 3) (DR2 4) (DI2 4) (DL2 4) (DA3 4) (thF (DA2 4 0) (goC (DI2 1 0) (DA2 1 4) i v) (DA2 5 0) (DI2 4 3).toNat) k hB.2.2.2.2.1 hthr hk9 ⟨xT.1, xT.2.1⟩ xT.2.2.2 (by rw [a4]; exact TB_TI s4 (by rw [eN2]; exact hN.2) s2)) (cwV 2 hts gX5_spare_X4_actOfRow rfl rfl rfl (by decide +kernel) ⟨Nat.le_of_ble_eq_true rfl, Nat.le_of_ble_eq_true rfl⟩) hk hW hS hB.2.2.2.2.1.1 rfl rfl hl.1 (Nat.le_of_ble_eq_true rfl) dX5_spare_47 ⟨by first | exact Nat.le_refl _ | (rw [Nat.zero_add]; first | exact hrq.1 | exact Nat.le_trans (Nat.le_add_right _ _) hrq.1 | exact Nat.le_refl _) | exact hrq.1 | exact Nat.le_trans (Nat.le_add_right _ _) hrq.1, by first | exact Nat.le_refl _ | (rw [Nat.zero_add]; first | exact hrq.2 | exact Nat.le_trans (Nat.le_add_right _ _) hrq.2 | exact Nat.le_refl _) | exact hrq.2 | exact Nat.le_trans (Nat.le_add_right _ _) hrq.2⟩ (fun r9 h9 H locs hp hW hS => ?_)
      obtain ⟨rfl, e9⟩ := hp
      rw [e9] at hW
      refine W.widen (k := tCel (DL 3 1) (jN DI DA) + (sCel (DL 5 0) (tLen (DL 3 1) (jN DI DA)) + tCel (DL 4 1) (jN DI DA))) (n := tSlo (DL 3 1) (jN DI DA) + (sSlo (DL 5 0) (tLen (DL 3 1) (jN DI DA)) + tSlo (DL 4 1) (jN DI DA))) (Nat.le_refl _) (Nat.le_refl _) ?_
      refine W.eq (g2 := F0 m 50 ls [.int (J (p_row (DL2 4 1) (DA3 4 1) (DA3 4 2) (thF (DA2 4 0) (goC (DI2 1 0) (DA2 1 4) i v) (DA2 5 0) (DI2 4 3).toNat) k))]) rfl ?_
      refine W.widen (k := rc) (n := rs) (by omega) (by omega) ?_
      exact g_iret hx hb hr hW hS dX5_spare_50 hlocks (⟨hF, Or.inr ⟨⟨hq, by omega⟩, _, DR2, DI2, DL2, DA3, rfl, by have y9 := (ansS (i := i) (v := v) (tp := DI2 1 2) (dr := DI2 1 3) xW.1 xV (by rw [m1]; exact hq.1) s2 (Int.le_trans yb s1) s3 s4).2.2 k (by omega); rw [a4]; unfold jX jC jN at *; rw [m1, m2] at y9; rw [m1, m2]; exact y9, hB, hV3, ⟨m1, by rw [a1]; exact m2, m3⟩, hs2, by rw [eL2, eL]; rfl, by rw [eL2]; exact e31, by rw [e41, e41a, eN], by rw [e50, e50a, e31]⟩⟩)
    · refine lv_bipush (v := J (-2)) hx hb dX5_spare_13 (by decide) ?_
      refine W.widen (k := rc) (n := rs) (by omega) (by omega) ?_
      exact g_iret hx hb hr hW hS dX5_spare_15 hlocks (⟨hF, Or.inl ⟨by first | exact (fun w => ifz_0 c_6 w.1) | exact (fun w => c_10 w.2), rfl, rfl⟩⟩)
