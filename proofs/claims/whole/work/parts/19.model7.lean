set_option maxHeartbeats 4000000 in
set_option maxRecDepth 100000 in
theorem m_fewest (l : Launch) (g : GX) (base : Nat) (sa : Nat → Nat) (h0 : Hp) (o : Nat) (R : Nat → Nat) (I : Nat → Int) (A : Nat → Int → Int) (i v : Int) (hM : OB g 6 28 kd6 h0 o R I mL A) (hi9 : i32 i) (hv9 : i32 v) (hm : Mok I A) : MC l g base sa yX6_fewest wsX6_fewest ({ frames := 3, cells := 0, slots := 0, locals := 76 }) ([.ref o, .int (J i), .int (J v)]) h0 (fun r h' => Fr (FP 28 kd6 o R) h0 h' ∧ ((¬ ((i = -1 ∨ (0 ≤ i ∧ i < I 0)) ∧ 0 ≤ v ∧ v ≤ 10) ∧ r = some (.int (J (-2))) ∧ OB g 6 28 kd6 h' o R I mL A) ∨ (((i = -1 ∨ (0 ≤ i ∧ i < I 0)) ∧ 0 ≤ v ∧ v ≤ 10) ∧ ∃ I' A', OB g 6 28 kd6 h' o R I' mL A' ∧ FCO I I' A A' i v 0 ∧ r = some (.int (J (if A' 16 (I' 17) = 1000000000 then -1 else A' 16 (I' 17))))))) := by
  refine Met.ofW (cc := cX6_fewest) (maxL := 3) (ret := (some .int)) (by decide) rfl ?_
  intro p e s m args below meth c s₁ B hml hv
  obtain ⟨rfl, hk, hW⟩ := hv
  have hx := B.exec
  have hb := B.bytes
  have hr := B.returns
  have hts := atoms_spec (ws := wsX6_fewest) B.pre
  have hown : s.vm.findClass RX6 = some m.cls := findClass_of_methodNamed B.named
  have hlocks := B.notSynchronized
  have hfX6 : ∀ w ∈ wsX60, w.before ([.ref o, .int (J i), .int (J v)]).toArray s = true := fun w h => hts w (List.mem_cons_of_mem _ (List.mem_append_right _ h))
  have hS : va_S (Ab base) s.heap s.heap [] := va_S.rf
  have hl := lv_entry ([.ref o, .int (J i), .int (J v)]) (n := 3) (Nat.le_of_ble_eq_true rfl)
  rw [lg_entry_eq]
  generalize (lg_sl ([.ref o, .int (J i), .int (J v)]) ++ List.replicate (3 - (lg_sl ([.ref o, .int (J i), .int (J v)])).length) Slot.unset).toArray = ls at hl ⊢
  have hl : lv_has ls 3 [(0, .ref o), (1, .int (J i)), (2, .int (J v))] := hl
  have hF : Fr (FP 28 kd6 o R) h0 h0 := Fr.rf
  obtain ⟨hm1, hm2, hm3, hm4, hm5, hm6, hm7, hm8, hm9⟩ := id hm
  have hn : 0 ≤ I 0 ∧ I 0 ≤ 4 := ⟨hm1, hm2⟩
  refine lv_aload_n hx hb dX6_fewest_0 rfl (lv_at hl 0 rfl) ?_
  refine lv_iload_n hx hb dX6_fewest_1 rfl (lv_at hl 1 rfl) ?_
  refine lv_iload_n hx hb dX6_fewest_2 rfl (lv_at hl 2 rfl) ?_
  refine g_callV (As := [.int (J i), .int (J v)]) (rest := []) (b := o) (ci := 6) (C := RX6) (T := TX6) (N := 28) ⟨hx, hb, hml, hown, hts⟩ (m_isAim l g base sa h0 o R I A i v hM hi9 hv9 hn) (cwV 2 hts gX6_fewest_X6_isAim rfl rfl rfl (by decide +kernel) ⟨Nat.le_of_ble_eq_true rfl, Nat.le_of_ble_eq_true rfl⟩) hk hW hS hM.1 rfl rfl hl.1 (Nat.le_of_ble_eq_true rfl) dX6_fewest_3 ⟨Nat.le_of_ble_eq_true rfl, Nat.le_of_ble_eq_true rfl⟩ (fun r9 h9 H locs hp hW hS => ?_)
  obtain ⟨rfl, e9⟩ := hp
  rw [e9] at hW
  refine W.eq (g2 := F0 m 6 ls [.int (J (if (i = -1 ∨ (0 ≤ i ∧ i < I 0)) ∧ 0 ≤ v ∧ v ≤ 10 then 1 else 0))]) rfl ?_
  refine j_if_ne (x := if (i = -1 ∨ (0 ≤ i ∧ i < I 0)) ∧ 0 ≤ v ∧ v ≤ 10 then 1 else 0) (tgt := 12) hx hb (ifP_r _) dX6_fewest_6 (by decide) (fun c_6 => ?_) (fun c_6 => ?_)
  · refine lv_aload_n hx hb dX6_fewest_12 rfl (lv_at hl 0 rfl) ?_
    refine lv_iload_n hx hb dX6_fewest_13 rfl (lv_at hl 1 rfl) ?_
    refine lv_iload_n hx hb dX6_fewest_14 rfl (lv_at hl 2 rfl) ?_
    refine lv_iconst (v := J (0)) hx hb dX6_fewest_15 rfl ?_
    refine g_callV (As := [.int (J i), .int (J v), .int (J 0)]) (rest := []) (b := o) (ci := 6) (C := RX6) (T := TX6) (N := 28) ⟨hx, hb, hml, hown, hts⟩ (m_findCosts l g base sa h0 o R I A i v 0 hM hi9 hv9 (Or.inl rfl) hm) (cwV 3 hts gX6_fewest_X6_findCosts rfl rfl rfl (by decide +kernel) ⟨Nat.le_of_ble_eq_true rfl, Nat.le_of_ble_eq_true rfl⟩) hk hW hS hM.1 rfl rfl hl.1 (Nat.le_of_ble_eq_true rfl) dX6_fewest_16 ⟨Nat.le_of_ble_eq_true rfl, Nat.le_of_ble_eq_true rfl⟩ (fun r9 h9 H locs hp hW hS => ?_)
    obtain ⟨rfl, hF9, I1, A1, hM, hFCO⟩ := hp
    refine W.eq (g2 := F0 m 19 ls []) rfl ?_
    have hF := hF.tr hF9 (fun q h1 _ => h1)
    generalize h9 = h at hM hF hW
    have hfs := FCO_st hm hFCO
    refine lv_aload_n hx hb dX6_fewest_19 rfl (lv_at hl 0 rfl) ?_
    refine g_get (ci := 6) (C := RX6) (T := TX6) (N := 28) (v := .ref (R 16)) hx hb hfX6 (fun _ h9 => h9) hown hk hW hM.1 rfl 16 (by decide) (hts (.fieldLink RX6 39 "JugsAndGlassesModel" "costs" "[I") (by decide +kernel)) rfl rfl dX6_fewest_20 ?_
    refine lv_aload_n hx hb dX6_fewest_23 rfl (lv_at hl 0 rfl) ?_
    refine g_get (ci := 6) (C := RX6) (T := TX6) (N := 28) (v := .int (J (I1 17))) hx hb hfX6 (fun _ h9 => h9) hown hk hW hM.1 rfl 17 (by decide) (hts (.fieldLink RX6 112 "JugsAndGlassesModel" "start" "I") (by decide +kernel)) rfl rfl dX6_fewest_24 ?_
    refine g_iald (n := 14641) (f := A1 16) (i := I1 17) hx hb hk hW (hM.ai 16 (by decide) rfl) (by omega) (by omega) (by omega) dX6_fewest_27 ?_
    refine j_ldc (z := 1000000000) hx hb (by decide) hown (hts (.constant RX6 111 (1000000000)) (by decide +kernel)) dX6_fewest_28 ?_
    refine j_icmp_ne (x := A1 16 (I1 17)) (y := 1000000000) (tgt := 37) hx hb ⟨by omega, by omega⟩ ⟨by decide, by decide⟩ dX6_fewest_30 (by decide) (fun c_30 => ?_) (fun c_30 => ?_)
    · refine lv_aload_n hx hb dX6_fewest_37 rfl (lv_at hl 0 rfl) ?_
      refine g_get (ci := 6) (C := RX6) (T := TX6) (N := 28) (v := .ref (R 16)) hx hb hfX6 (fun _ h9 => h9) hown hk hW hM.1 rfl 16 (by decide) (hts (.fieldLink RX6 39 "JugsAndGlassesModel" "costs" "[I") (by decide +kernel)) rfl rfl dX6_fewest_38 ?_
      refine lv_aload_n hx hb dX6_fewest_41 rfl (lv_at hl 0 rfl) ?_
      refine g_get (ci := 6) (C := RX6) (T := TX6) (N := 28) (v := .int (J (I1 17))) hx hb hfX6 (fun _ h9 => h9) hown hk hW hM.1 rfl 17 (by decide) (hts (.fieldLink RX6 112 "JugsAndGlassesModel" "start" "I") (by decide +kernel)) rfl rfl dX6_fewest_42 ?_
      refine g_iald (n := 14641) (f := A1 16) (i := I1 17) hx hb hk hW (hM.ai 16 (by decide) rfl) (by omega) (by omega) (by omega) dX6_fewest_45 ?_
      exact g_iret hx hb hr hW hS dX6_fewest_46 hlocks (⟨hF, Or.inr ⟨ifP_1 c_6, I1, A1, hM, hFCO, congrArg (fun z : Int => some (Value.int (J z))) (show A1 16 (I1 17) = (if A1 16 (I1 17) = 1000000000 then -1 else A1 16 (I1 17)) from by first | rw [if_pos (by omega)] | rw [if_neg (by omega)])⟩⟩)
    · refine lv_iconst (v := J (-1)) hx hb dX6_fewest_33 rfl ?_
      refine lv_goto (tgt := 46) hx hb dX6_fewest_34 (by decide) ?_
      exact g_iret hx hb hr hW hS dX6_fewest_46 hlocks (⟨hF, Or.inr ⟨ifP_1 c_6, I1, A1, hM, hFCO, congrArg (fun z : Int => some (Value.int (J z))) (show (-1) = (if A1 16 (I1 17) = 1000000000 then -1 else A1 16 (I1 17)) from by first | rw [if_pos (by omega)] | rw [if_neg (by omega)])⟩⟩)
  · refine lv_bipush (v := J (-2)) hx hb dX6_fewest_9 (by decide) ?_
    exact g_iret hx hb hr hW hS dX6_fewest_11 hlocks (⟨hF, Or.inl ⟨ifP_0 c_6, rfl, hM⟩⟩)

set_option maxHeartbeats 4000000 in
set_option maxRecDepth 100000 in
theorem m_best (l : Launch) (g : GX) (base : Nat) (sa : Nat → Nat) (h0 : Hp) (o : Nat) (R : Nat → Nat) (I : Nat → Int) (A : Nat → Int → Int) (i v k : Int) (hM : OB g 6 28 kd6 h0 o R I mL A) (hi9 : i32 i) (hv9 : i32 v) (hm : Mok I A) (hk9 : i32 k) : MC l g base sa yX6_best wsX6_best ({ frames := 3, cells := 0, slots := 0, locals := 76 }) ([.ref o, .int (J i), .int (J v), .int (J k)]) h0 (fun r h' => Fr (FP 28 kd6 o R) h0 h' ∧ ((¬ (((i = -1 ∨ (0 ≤ i ∧ i < I 0)) ∧ 0 ≤ v ∧ v ≤ 10) ∧ 0 ≤ k) ∧ r = some (.int (J (-2))) ∧ OB g 6 28 kd6 h' o R I mL A) ∨ ((((i = -1 ∨ (0 ≤ i ∧ i < I 0)) ∧ 0 ≤ v ∧ v ≤ 10) ∧ 0 ≤ k) ∧ ∃ I' A', OB g 6 28 kd6 h' o R I' mL A' ∧ FCO I I' A A' i v 0 ∧ r = some (.int (J (if 14641 ≤ k then -1 else gr (nxM (I 0) (I 3) (I 4) (A' 8)) (spM (I 0) (I 3) (I 4) (A' 8)) 0 (A' 16) k.toNat (I' 17))))))) := by
  refine Met.ofW (cc := cX6_best) (maxL := 4) (ret := (some .int)) (by decide) rfl ?_
  intro p e s m args below meth c s₁ B hml hv
  obtain ⟨rfl, hk, hW⟩ := hv
  have hx := B.exec
  have hb := B.bytes
  have hr := B.returns
  have hts := atoms_spec (ws := wsX6_best) B.pre
  have hown : s.vm.findClass RX6 = some m.cls := findClass_of_methodNamed B.named
  have hlocks := B.notSynchronized
  have hfX6 : ∀ w ∈ wsX60, w.before ([.ref o, .int (J i), .int (J v), .int (J k)]).toArray s = true := fun w h => hts w (List.mem_cons_of_mem _ (List.mem_append_right _ h))
  have hS : va_S (Ab base) s.heap s.heap [] := va_S.rf
  have hl := lv_entry ([.ref o, .int (J i), .int (J v), .int (J k)]) (n := 4) (Nat.le_of_ble_eq_true rfl)
  rw [lg_entry_eq]
  generalize (lg_sl ([.ref o, .int (J i), .int (J v), .int (J k)]) ++ List.replicate (4 - (lg_sl ([.ref o, .int (J i), .int (J v), .int (J k)])).length) Slot.unset).toArray = ls at hl ⊢
  have hl : lv_has ls 4 [(0, .ref o), (1, .int (J i)), (2, .int (J v)), (3, .int (J k))] := hl
  have hF : Fr (FP 28 kd6 o R) h0 h0 := Fr.rf
  obtain ⟨hm1, hm2, hm3, hm4, hm5, hm6, hm7, hm8, hm9⟩ := id hm
  have hn : 0 ≤ I 0 ∧ I 0 ≤ 4 := ⟨hm1, hm2⟩
  obtain ⟨hk1, hk2⟩ := id hk9
  refine lv_aload_n hx hb dX6_best_0 rfl (lv_at hl 0 rfl) ?_
  refine lv_iload_n hx hb dX6_best_1 rfl (lv_at hl 1 rfl) ?_
  refine lv_iload_n hx hb dX6_best_2 rfl (lv_at hl 2 rfl) ?_
  refine g_callV (As := [.int (J i), .int (J v)]) (rest := []) (b := o) (ci := 6) (C := RX6) (T := TX6) (N := 28) ⟨hx, hb, hml, hown, hts⟩ (m_isAim l g base sa h0 o R I A i v hM hi9 hv9 hn) (cwV 2 hts gX6_best_X6_isAim rfl rfl rfl (by decide +kernel) ⟨Nat.le_of_ble_eq_true rfl, Nat.le_of_ble_eq_true rfl⟩) hk hW hS hM.1 rfl rfl hl.1 (Nat.le_of_ble_eq_true rfl) dX6_best_3 ⟨Nat.le_of_ble_eq_true rfl, Nat.le_of_ble_eq_true rfl⟩ (fun r9 h9 H locs hp hW hS => ?_)
  obtain ⟨rfl, e9⟩ := hp
  rw [e9] at hW
  refine W.eq (g2 := F0 m 6 ls [.int (J (if (i = -1 ∨ (0 ≤ i ∧ i < I 0)) ∧ 0 ≤ v ∧ v ≤ 10 then 1 else 0))]) rfl ?_
  refine j_if_eq (x := if (i = -1 ∨ (0 ≤ i ∧ i < I 0)) ∧ 0 ≤ v ∧ v ≤ 10 then 1 else 0) (tgt := 13) hx hb (ifP_r _) dX6_best_6 (by decide) (fun c_6 => ?_) (fun c_6 => ?_)
  · refine lv_bipush (v := J (-2)) hx hb dX6_best_13 (by decide) ?_
    exact g_iret hx hb hr hW hS dX6_best_15 hlocks (⟨hF, Or.inl ⟨by first | (have q := ifP_0 c_6; exact fun w => q w.1) | (exact fun w => by omega), rfl, hM⟩⟩)
  · refine lv_iload_n hx hb dX6_best_9 rfl (lv_at hl 3 rfl) ?_
    refine j_if_ge (x := k) (tgt := 16) hx hb ⟨by omega, by omega⟩ dX6_best_10 (by decide) (fun c_10 => ?_) (fun c_10 => ?_)
    · refine lv_aload_n hx hb dX6_best_16 rfl (lv_at hl 0 rfl) ?_
      refine lv_iload_n hx hb dX6_best_17 rfl (lv_at hl 1 rfl) ?_
      refine lv_iload_n hx hb dX6_best_18 rfl (lv_at hl 2 rfl) ?_
      refine lv_iconst (v := J (0)) hx hb dX6_best_19 rfl ?_
      refine g_callV (As := [.int (J i), .int (J v), .int (J 0)]) (rest := []) (b := o) (ci := 6) (C := RX6) (T := TX6) (N := 28) ⟨hx, hb, hml, hown, hts⟩ (m_findCosts l g base sa h0 o R I A i v 0 hM hi9 hv9 (Or.inl rfl) hm) (cwV 3 hts gX6_best_X6_findCosts rfl rfl rfl (by decide +kernel) ⟨Nat.le_of_ble_eq_true rfl, Nat.le_of_ble_eq_true rfl⟩) hk hW hS hM.1 rfl rfl hl.1 (Nat.le_of_ble_eq_true rfl) dX6_best_20 ⟨Nat.le_of_ble_eq_true rfl, Nat.le_of_ble_eq_true rfl⟩ (fun r9 h9 H locs hp hW hS => ?_)
      obtain ⟨rfl, hF9, I1, A1, hM, hFCO⟩ := hp
      refine W.eq (g2 := F0 m 23 ls []) rfl ?_
      have hF := hF.tr hF9 (fun q h1 _ => h1)
      generalize h9 = h at hM hF hW
      have hfs := FCO_st hm hFCO
      refine lv_iload_n hx hb dX6_best_23 rfl (lv_at hl 3 rfl) ?_
      refine lv_sipush (v := J (14641)) hx hb dX6_best_24 (by decide) ?_
      refine j_icmp_lt (x := k) (y := 14641) (tgt := 34) hx hb ⟨by omega, by omega⟩ ⟨by decide, by decide⟩ dX6_best_27 (by decide) (fun c_27 => ?_) (fun c_27 => ?_)
      · refine lv_aload_n hx hb dX6_best_34 rfl (lv_at hl 0 rfl) ?_
        refine lv_iload_n hx hb dX6_best_35 rfl (lv_at hl 3 rfl) ?_
        refine lv_iconst (v := J (0)) hx hb dX6_best_36 rfl ?_
        refine g_callV (As := [.int (J k), .int (J 0)]) (rest := []) (b := o) (ci := 6) (C := RX6) (T := TX6) (N := 28) ⟨hx, hb, hml, hown, hts⟩ (m_actOf l g base sa h o R I1 A1 (I 0) (I 3) (I 4) k 0 (goM (I 0) (A1 8) i v) hM ⟨by omega, by omega⟩ hFCO.2.2.2.2.1 hFCO.2.2.2.2.2.2.2.1 hFCO.2.2.2.2.2.2.2.2 (Or.inl rfl) ⟨hfs.1, hfs.2.1⟩) (cwV 2 hts gX6_best_X6_actOf rfl rfl rfl (by decide +kernel) ⟨Nat.le_of_ble_eq_true rfl, Nat.le_of_ble_eq_true rfl⟩) hk hW hS hM.1 rfl rfl hl.1 (Nat.le_of_ble_eq_true rfl) dX6_best_37 ⟨Nat.le_of_ble_eq_true rfl, Nat.le_of_ble_eq_true rfl⟩ (fun r9 h9 H locs hp hW hS => ?_)
        obtain ⟨rfl, e9⟩ := hp
        rw [e9] at hW
        refine W.eq (g2 := F0 m 40 ls [.int (J (gr (nxM (I 0) (I 3) (I 4) (A1 8)) (spM (I 0) (I 3) (I 4) (A1 8)) 0 (A1 16) k.toNat (I1 17)))]) rfl ?_
        exact g_iret hx hb hr hW hS dX6_best_40 hlocks (⟨hF, Or.inr ⟨⟨ifP_1 c_6, by omega⟩, I1, A1, hM, hFCO, congrArg (fun z : Int => some (Value.int (J z))) (show gr (nxM (I 0) (I 3) (I 4) (A1 8)) (spM (I 0) (I 3) (I 4) (A1 8)) 0 (A1 16) k.toNat (I1 17) = (if 14641 ≤ k then -1 else gr (nxM (I 0) (I 3) (I 4) (A1 8)) (spM (I 0) (I 3) (I 4) (A1 8)) 0 (A1 16) k.toNat (I1 17)) from by first | rw [if_pos (by omega)] | rw [if_neg (by omega)])⟩⟩)
      · refine lv_iconst (v := J (-1)) hx hb dX6_best_30 rfl ?_
        refine lv_goto (tgt := 40) hx hb dX6_best_31 (by decide) ?_
        exact g_iret hx hb hr hW hS dX6_best_40 hlocks (⟨hF, Or.inr ⟨⟨ifP_1 c_6, by omega⟩, I1, A1, hM, hFCO, congrArg (fun z : Int => some (Value.int (J z))) (show (-1) = (if 14641 ≤ k then -1 else gr (nxM (I 0) (I 3) (I 4) (A1 8)) (spM (I 0) (I 3) (I 4) (A1 8)) 0 (A1 16) k.toNat (I1 17)) from by first | rw [if_pos (by omega)] | rw [if_neg (by omega)])⟩⟩)
    · refine lv_bipush (v := J (-2)) hx hb dX6_best_13 (by decide) ?_
      exact g_iret hx hb hr hW hS dX6_best_15 hlocks (⟨hF, Or.inl ⟨by first | (have q := ifP_0 c_6; exact fun w => q w.1) | (exact fun w => by omega), rfl, hM⟩⟩)

set_option maxHeartbeats 4000000 in
set_option maxRecDepth 100000 in
theorem m_spare (l : Launch) (g : GX) (base : Nat) (sa : Nat → Nat) (h0 : Hp) (o : Nat) (R : Nat → Nat) (I : Nat → Int) (A : Nat → Int → Int) (i v k : Int) (hM : OB g 6 28 kd6 h0 o R I mL A) (hi9 : i32 i) (hv9 : i32 v) (hm : Mok I A) (hk9 : i32 k) : MC l g base sa yX6_spare wsX6_spare ({ frames := 3, cells := 0, slots := 0, locals := 76 }) ([.ref o, .int (J i), .int (J v), .int (J k)]) h0 (fun r h' => Fr (FP 28 kd6 o R) h0 h' ∧ ((¬ (((i = -1 ∨ (0 ≤ i ∧ i < I 0)) ∧ 0 ≤ v ∧ v ≤ 10) ∧ 0 ≤ k) ∧ r = some (.int (J (-2))) ∧ OB g 6 28 kd6 h' o R I mL A) ∨ ((((i = -1 ∨ (0 ≤ i ∧ i < I 0)) ∧ 0 ≤ v ∧ v ≤ 10) ∧ 0 ≤ k) ∧ ∃ I' A', OB g 6 28 kd6 h' o R I' mL A' ∧ FCO I I' A A' i v 20000 ∧ r = some (.int (J (if 14641 ≤ k then -1 else gr (nxM (I 0) (I 3) (I 4) (A' 8)) (spM (I 0) (I 3) (I 4) (A' 8)) 20000 (A' 16) k.toNat (I' 17))))))) := by
  refine Met.ofW (cc := cX6_spare) (maxL := 4) (ret := (some .int)) (by decide) rfl ?_
  intro p e s m args below meth c s₁ B hml hv
  obtain ⟨rfl, hk, hW⟩ := hv
  have hx := B.exec
  have hb := B.bytes
  have hr := B.returns
  have hts := atoms_spec (ws := wsX6_spare) B.pre
  have hown : s.vm.findClass RX6 = some m.cls := findClass_of_methodNamed B.named
  have hlocks := B.notSynchronized
  have hfX6 : ∀ w ∈ wsX60, w.before ([.ref o, .int (J i), .int (J v), .int (J k)]).toArray s = true := fun w h => hts w (List.mem_cons_of_mem _ (List.mem_append_right _ h))
  have hS : va_S (Ab base) s.heap s.heap [] := va_S.rf
  have hl := lv_entry ([.ref o, .int (J i), .int (J v), .int (J k)]) (n := 4) (Nat.le_of_ble_eq_true rfl)
  rw [lg_entry_eq]
  generalize (lg_sl ([.ref o, .int (J i), .int (J v), .int (J k)]) ++ List.replicate (4 - (lg_sl ([.ref o, .int (J i), .int (J v), .int (J k)])).length) Slot.unset).toArray = ls at hl ⊢
  have hl : lv_has ls 4 [(0, .ref o), (1, .int (J i)), (2, .int (J v)), (3, .int (J k))] := hl
  have hF : Fr (FP 28 kd6 o R) h0 h0 := Fr.rf
  obtain ⟨hm1, hm2, hm3, hm4, hm5, hm6, hm7, hm8, hm9⟩ := id hm
  have hn : 0 ≤ I 0 ∧ I 0 ≤ 4 := ⟨hm1, hm2⟩
  obtain ⟨hk1, hk2⟩ := id hk9
  refine lv_aload_n hx hb dX6_spare_0 rfl (lv_at hl 0 rfl) ?_
  refine lv_iload_n hx hb dX6_spare_1 rfl (lv_at hl 1 rfl) ?_
  refine lv_iload_n hx hb dX6_spare_2 rfl (lv_at hl 2 rfl) ?_
  refine g_callV (As := [.int (J i), .int (J v)]) (rest := []) (b := o) (ci := 6) (C := RX6) (T := TX6) (N := 28) ⟨hx, hb, hml, hown, hts⟩ (m_isAim l g base sa h0 o R I A i v hM hi9 hv9 hn) (cwV 2 hts gX6_spare_X6_isAim rfl rfl rfl (by decide +kernel) ⟨Nat.le_of_ble_eq_true rfl, Nat.le_of_ble_eq_true rfl⟩) hk hW hS hM.1 rfl rfl hl.1 (Nat.le_of_ble_eq_true rfl) dX6_spare_3 ⟨Nat.le_of_ble_eq_true rfl, Nat.le_of_ble_eq_true rfl⟩ (fun r9 h9 H locs hp hW hS => ?_)
  obtain ⟨rfl, e9⟩ := hp
  rw [e9] at hW
  refine W.eq (g2 := F0 m 6 ls [.int (J (if (i = -1 ∨ (0 ≤ i ∧ i < I 0)) ∧ 0 ≤ v ∧ v ≤ 10 then 1 else 0))]) rfl ?_
  refine j_if_eq (x := if (i = -1 ∨ (0 ≤ i ∧ i < I 0)) ∧ 0 ≤ v ∧ v ≤ 10 then 1 else 0) (tgt := 13) hx hb (ifP_r _) dX6_spare_6 (by decide) (fun c_6 => ?_) (fun c_6 => ?_)
  · refine lv_bipush (v := J (-2)) hx hb dX6_spare_13 (by decide) ?_
    exact g_iret hx hb hr hW hS dX6_spare_15 hlocks (⟨hF, Or.inl ⟨by first | (have q := ifP_0 c_6; exact fun w => q w.1) | (exact fun w => by omega), rfl, hM⟩⟩)
  · refine lv_iload_n hx hb dX6_spare_9 rfl (lv_at hl 3 rfl) ?_
    refine j_if_ge (x := k) (tgt := 16) hx hb ⟨by omega, by omega⟩ dX6_spare_10 (by decide) (fun c_10 => ?_) (fun c_10 => ?_)
    · refine lv_aload_n hx hb dX6_spare_16 rfl (lv_at hl 0 rfl) ?_
      refine lv_iload_n hx hb dX6_spare_17 rfl (lv_at hl 1 rfl) ?_
      refine lv_iload_n hx hb dX6_spare_18 rfl (lv_at hl 2 rfl) ?_
      refine lv_sipush (v := J (20000)) hx hb dX6_spare_19 (by decide) ?_
      refine g_callV (As := [.int (J i), .int (J v), .int (J 20000)]) (rest := []) (b := o) (ci := 6) (C := RX6) (T := TX6) (N := 28) ⟨hx, hb, hml, hown, hts⟩ (m_findCosts l g base sa h0 o R I A i v 20000 hM hi9 hv9 (Or.inr rfl) hm) (cwV 3 hts gX6_spare_X6_findCosts rfl rfl rfl (by decide +kernel) ⟨Nat.le_of_ble_eq_true rfl, Nat.le_of_ble_eq_true rfl⟩) hk hW hS hM.1 rfl rfl hl.1 (Nat.le_of_ble_eq_true rfl) dX6_spare_22 ⟨Nat.le_of_ble_eq_true rfl, Nat.le_of_ble_eq_true rfl⟩ (fun r9 h9 H locs hp hW hS => ?_)
      obtain ⟨rfl, hF9, I1, A1, hM, hFCO⟩ := hp
      refine W.eq (g2 := F0 m 25 ls []) rfl ?_
      have hF := hF.tr hF9 (fun q h1 _ => h1)
      generalize h9 = h at hM hF hW
      have hfs := FCO_st hm hFCO
      refine lv_iload_n hx hb dX6_spare_25 rfl (lv_at hl 3 rfl) ?_
      refine lv_sipush (v := J (14641)) hx hb dX6_spare_26 (by decide) ?_
      refine j_icmp_lt (x := k) (y := 14641) (tgt := 36) hx hb ⟨by omega, by omega⟩ ⟨by decide, by decide⟩ dX6_spare_29 (by decide) (fun c_29 => ?_) (fun c_29 => ?_)
      · refine lv_aload_n hx hb dX6_spare_36 rfl (lv_at hl 0 rfl) ?_
        refine lv_iload_n hx hb dX6_spare_37 rfl (lv_at hl 3 rfl) ?_
        refine lv_sipush (v := J (20000)) hx hb dX6_spare_38 (by decide) ?_
        refine g_callV (As := [.int (J k), .int (J 20000)]) (rest := []) (b := o) (ci := 6) (C := RX6) (T := TX6) (N := 28) ⟨hx, hb, hml, hown, hts⟩ (m_actOf l g base sa h o R I1 A1 (I 0) (I 3) (I 4) k 20000 (goM (I 0) (A1 8) i v) hM ⟨by omega, by omega⟩ hFCO.2.2.2.2.1 hFCO.2.2.2.2.2.2.2.1 hFCO.2.2.2.2.2.2.2.2 (Or.inr rfl) ⟨hfs.1, hfs.2.1⟩) (cwV 2 hts gX6_spare_X6_actOf rfl rfl rfl (by decide +kernel) ⟨Nat.le_of_ble_eq_true rfl, Nat.le_of_ble_eq_true rfl⟩) hk hW hS hM.1 rfl rfl hl.1 (Nat.le_of_ble_eq_true rfl) dX6_spare_41 ⟨Nat.le_of_ble_eq_true rfl, Nat.le_of_ble_eq_true rfl⟩ (fun r9 h9 H locs hp hW hS => ?_)
        obtain ⟨rfl, e9⟩ := hp
        rw [e9] at hW
        refine W.eq (g2 := F0 m 44 ls [.int (J (gr (nxM (I 0) (I 3) (I 4) (A1 8)) (spM (I 0) (I 3) (I 4) (A1 8)) 20000 (A1 16) k.toNat (I1 17)))]) rfl ?_
        exact g_iret hx hb hr hW hS dX6_spare_44 hlocks (⟨hF, Or.inr ⟨⟨ifP_1 c_6, by omega⟩, I1, A1, hM, hFCO, congrArg (fun z : Int => some (Value.int (J z))) (show gr (nxM (I 0) (I 3) (I 4) (A1 8)) (spM (I 0) (I 3) (I 4) (A1 8)) 20000 (A1 16) k.toNat (I1 17) = (if 14641 ≤ k then -1 else gr (nxM (I 0) (I 3) (I 4) (A1 8)) (spM (I 0) (I 3) (I 4) (A1 8)) 20000 (A1 16) k.toNat (I1 17)) from by first | rw [if_pos (by omega)] | rw [if_neg (by omega)])⟩⟩)
      · refine lv_iconst (v := J (-1)) hx hb dX6_spare_32 rfl ?_
        refine lv_goto (tgt := 44) hx hb dX6_spare_33 (by decide) ?_
        exact g_iret hx hb hr hW hS dX6_spare_44 hlocks (⟨hF, Or.inr ⟨⟨ifP_1 c_6, by omega⟩, I1, A1, hM, hFCO, congrArg (fun z : Int => some (Value.int (J z))) (show (-1) = (if 14641 ≤ k then -1 else gr (nxM (I 0) (I 3) (I 4) (A1 8)) (spM (I 0) (I 3) (I 4) (A1 8)) 20000 (A1 16) k.toNat (I1 17)) from by first | rw [if_pos (by omega)] | rw [if_neg (by omega)])⟩⟩)
    · refine lv_bipush (v := J (-2)) hx hb dX6_spare_13 (by decide) ?_
      exact g_iret hx hb hr hW hS dX6_spare_15 hlocks (⟨hF, Or.inl ⟨by first | (have q := ifP_0 c_6; exact fun w => q w.1) | (exact fun w => by omega), rfl, hM⟩⟩)

set_option maxHeartbeats 4000000 in
set_option maxRecDepth 100000 in
theorem m_sparing (l : Launch) (g : GX) (base : Nat) (sa : Nat → Nat) (h0 : Hp) (o : Nat) (R : Nat → Nat) (I : Nat → Int) (A : Nat → Int → Int) (i v k : Int) (hM : OB g 6 28 kd6 h0 o R I mL A) (hi9 : i32 i) (hv9 : i32 v) (hm : Mok I A) (hk9 : i32 k) : MC l g base sa yX6_sparing wsX6_sparing ({ frames := 3, cells := 0, slots := 0, locals := 76 }) ([.ref o, .int (J i), .int (J v), .int (J k)]) h0 (fun r h' => Fr (FP 28 kd6 o R) h0 h' ∧ ((¬ (((i = -1 ∨ (0 ≤ i ∧ i < I 0)) ∧ 0 ≤ v ∧ v ≤ 10) ∧ 0 ≤ k ∧ k ≤ 1) ∧ r = some (.int (J (-2))) ∧ OB g 6 28 kd6 h' o R I mL A) ∨ ((((i = -1 ∨ (0 ≤ i ∧ i < I 0)) ∧ 0 ≤ v ∧ v ≤ 10) ∧ 0 ≤ k ∧ k ≤ 1) ∧ ∃ I' A', OB g 6 28 kd6 h' o R I' mL A' ∧ FCO I I' A A' i v 20000 ∧ r = some (.int (J (if A' 16 (I' 17) = 1000000000 then -1 else if k = 0 then A' 16 (I' 17) / 20000 else A' 16 (I' 17) % 20000)))))) := by
  refine Met.ofW (cc := cX6_sparing) (maxL := 5) (ret := (some .int)) (by decide) rfl ?_
  intro p e s m args below meth c s₁ B hml hv
  obtain ⟨rfl, hk, hW⟩ := hv
  have hx := B.exec
  have hb := B.bytes
  have hr := B.returns
  have hts := atoms_spec (ws := wsX6_sparing) B.pre
  have hown : s.vm.findClass RX6 = some m.cls := findClass_of_methodNamed B.named
  have hlocks := B.notSynchronized
  have hfX6 : ∀ w ∈ wsX60, w.before ([.ref o, .int (J i), .int (J v), .int (J k)]).toArray s = true := fun w h => hts w (List.mem_cons_of_mem _ (List.mem_append_right _ h))
  have hS : va_S (Ab base) s.heap s.heap [] := va_S.rf
  have hl := lv_entry ([.ref o, .int (J i), .int (J v), .int (J k)]) (n := 5) (Nat.le_of_ble_eq_true rfl)
  rw [lg_entry_eq]
  generalize (lg_sl ([.ref o, .int (J i), .int (J v), .int (J k)]) ++ List.replicate (5 - (lg_sl ([.ref o, .int (J i), .int (J v), .int (J k)])).length) Slot.unset).toArray = ls at hl ⊢
  have hl : lv_has ls 5 [(0, .ref o), (1, .int (J i)), (2, .int (J v)), (3, .int (J k))] := hl
  have hF : Fr (FP 28 kd6 o R) h0 h0 := Fr.rf
  obtain ⟨hm1, hm2, hm3, hm4, hm5, hm6, hm7, hm8, hm9⟩ := id hm
  have hn : 0 ≤ I 0 ∧ I 0 ≤ 4 := ⟨hm1, hm2⟩
  obtain ⟨hk1, hk2⟩ := id hk9
  refine lv_aload_n hx hb dX6_sparing_0 rfl (lv_at hl 0 rfl) ?_
  refine lv_iload_n hx hb dX6_sparing_1 rfl (lv_at hl 1 rfl) ?_
  refine lv_iload_n hx hb dX6_sparing_2 rfl (lv_at hl 2 rfl) ?_
  refine g_callV (As := [.int (J i), .int (J v)]) (rest := []) (b := o) (ci := 6) (C := RX6) (T := TX6) (N := 28) ⟨hx, hb, hml, hown, hts⟩ (m_isAim l g base sa h0 o R I A i v hM hi9 hv9 hn) (cwV 2 hts gX6_sparing_X6_isAim rfl rfl rfl (by decide +kernel) ⟨Nat.le_of_ble_eq_true rfl, Nat.le_of_ble_eq_true rfl⟩) hk hW hS hM.1 rfl rfl hl.1 (Nat.le_of_ble_eq_true rfl) dX6_sparing_3 ⟨Nat.le_of_ble_eq_true rfl, Nat.le_of_ble_eq_true rfl⟩ (fun r9 h9 H locs hp hW hS => ?_)
  obtain ⟨rfl, e9⟩ := hp
  rw [e9] at hW
  refine W.eq (g2 := F0 m 6 ls [.int (J (if (i = -1 ∨ (0 ≤ i ∧ i < I 0)) ∧ 0 ≤ v ∧ v ≤ 10 then 1 else 0))]) rfl ?_
  refine j_if_eq (x := if (i = -1 ∨ (0 ≤ i ∧ i < I 0)) ∧ 0 ≤ v ∧ v ≤ 10 then 1 else 0) (tgt := 18) hx hb (ifP_r _) dX6_sparing_6 (by decide) (fun c_6 => ?_) (fun c_6 => ?_)
  · refine lv_bipush (v := J (-2)) hx hb dX6_sparing_18 (by decide) ?_
    exact g_iret hx hb hr hW hS dX6_sparing_20 hlocks (⟨hF, Or.inl ⟨by first | (have q := p_in_0 c_15; exact fun w => q w.2) | (have q := ifP_0 c_6; exact fun w => q w.1), rfl, hM⟩⟩)
  · refine lv_iload_n hx hb dX6_sparing_9 rfl (lv_at hl 3 rfl) ?_
    refine lv_iconst (v := J (0)) hx hb dX6_sparing_10 rfl ?_
    refine lv_iconst (v := J (1)) hx hb dX6_sparing_11 rfl ?_
    refine g_callS (As := [.int (J k), .int (J 0), .int (J 1)]) (rest := []) ⟨hx, hb, hml, hown, hts⟩ (m_in l g base sa h0 k 0 1 hk9 ⟨by decide, by decide⟩ ⟨by decide, by decide⟩) (va_cwS 3 hts gX6_sparing_X6_in rfl rfl rfl (by decide +kernel) ⟨Nat.le_of_ble_eq_true rfl, Nat.le_of_ble_eq_true rfl⟩) hk hW hS rfl hl.1 (Nat.le_of_ble_eq_true rfl) dX6_sparing_12 ⟨Nat.le_of_ble_eq_true rfl, Nat.le_of_ble_eq_true rfl⟩ (fun r9 h9 H locs hp hW hS => ?_)
    obtain ⟨rfl, e9⟩ := hp
    rw [e9] at hW
    refine W.eq (g2 := F0 m 15 ls [.int (J (p_in k 0 1))]) rfl ?_
    have hpr_15 := p_in_r k 0 1
    refine j_if_ne (x := p_in k 0 1) (tgt := 21) hx hb ⟨by omega, by omega⟩ dX6_sparing_15 (by decide) (fun c_15 => ?_) (fun c_15 => ?_)
    · have hq := p_in_1 c_15
      refine lv_aload_n hx hb dX6_sparing_21 rfl (lv_at hl 0 rfl) ?_
      refine lv_iload_n hx hb dX6_sparing_22 rfl (lv_at hl 1 rfl) ?_
      refine lv_iload_n hx hb dX6_sparing_23 rfl (lv_at hl 2 rfl) ?_
      refine lv_sipush (v := J (20000)) hx hb dX6_sparing_24 (by decide) ?_
      refine g_callV (As := [.int (J i), .int (J v), .int (J 20000)]) (rest := []) (b := o) (ci := 6) (C := RX6) (T := TX6) (N := 28) ⟨hx, hb, hml, hown, hts⟩ (m_findCosts l g base sa h0 o R I A i v 20000 hM hi9 hv9 (Or.inr rfl) hm) (cwV 3 hts gX6_sparing_X6_findCosts rfl rfl rfl (by decide +kernel) ⟨Nat.le_of_ble_eq_true rfl, Nat.le_of_ble_eq_true rfl⟩) hk hW hS hM.1 rfl rfl hl.1 (Nat.le_of_ble_eq_true rfl) dX6_sparing_27 ⟨Nat.le_of_ble_eq_true rfl, Nat.le_of_ble_eq_true rfl⟩ (fun r9 h9 H locs hp hW hS => ?_)
      obtain ⟨rfl, hF9, I1, A1, hM, hFCO⟩ := hp
      refine W.eq (g2 := F0 m 30 ls []) rfl ?_
      have hF := hF.tr hF9 (fun q h1 _ => h1)
      generalize h9 = h at hM hF hW
      have hfs := FCO_st hm hFCO
      refine lv_aload_n hx hb dX6_sparing_30 rfl (lv_at hl 0 rfl) ?_
      refine g_get (ci := 6) (C := RX6) (T := TX6) (N := 28) (v := .ref (R 16)) hx hb hfX6 (fun _ h9 => h9) hown hk hW hM.1 rfl 16 (by decide) (hts (.fieldLink RX6 39 "JugsAndGlassesModel" "costs" "[I") (by decide +kernel)) rfl rfl dX6_sparing_31 ?_
      refine lv_aload_n hx hb dX6_sparing_34 rfl (lv_at hl 0 rfl) ?_
      refine g_get (ci := 6) (C := RX6) (T := TX6) (N := 28) (v := .int (J (I1 17))) hx hb hfX6 (fun _ h9 => h9) hown hk hW hM.1 rfl 17 (by decide) (hts (.fieldLink RX6 112 "JugsAndGlassesModel" "start" "I") (by decide +kernel)) rfl rfl dX6_sparing_35 ?_
      refine g_iald (n := 14641) (f := A1 16) (i := I1 17) hx hb hk hW (hM.ai 16 (by decide) rfl) (by omega) (by omega) (by omega) dX6_sparing_38 ?_
      refine lv_istore (lv' := [(4, .int (J (A1 16 (I1 17)))), (0, .ref o), (1, .int (J i)), (2, .int (J v)), (3, .int (J k))]) hx hb dX6_sparing_39 hl (by decide) rfl (fun ls hl => ?_)
      refine lv_iload hx hb dX6_sparing_41 (lv_at hl 0 rfl) ?_
      refine j_ldc (z := 1000000000) hx hb (by decide) hown (hts (.constant RX6 111 (1000000000)) (by decide +kernel)) dX6_sparing_43 ?_
      refine j_icmp_ne (x := A1 16 (I1 17)) (y := 1000000000) (tgt := 52) hx hb ⟨by omega, by omega⟩ ⟨by decide, by decide⟩ dX6_sparing_45 (by decide) (fun c_45 => ?_) (fun c_45 => ?_)
      · refine lv_iload_n hx hb dX6_sparing_52 rfl (lv_at hl 4 rfl) ?_
        refine j_if_ne (x := k) (tgt := 65) hx hb ⟨by omega, by omega⟩ dX6_sparing_53 (by decide) (fun c_53 => ?_) (fun c_53 => ?_)
        · refine lv_iload hx hb dX6_sparing_65 (lv_at hl 0 rfl) ?_
          refine lv_sipush (v := J (20000)) hx hb dX6_sparing_67 (by decide) ?_
          refine j_irem hx hb (by omega) (by omega) (by omega) (by omega) dX6_sparing_70 ?_
          exact g_iret hx hb hr hW hS dX6_sparing_71 hlocks (⟨hF, Or.inr ⟨⟨ifP_1 c_6, hq⟩, I1, A1, hM, hFCO, congrArg (fun z : Int => some (Value.int (J z))) (show (A1 16 (I1 17)) % 20000 = (if A1 16 (I1 17) = 1000000000 then -1 else if k = 0 then A1 16 (I1 17) / 20000 else A1 16 (I1 17) % 20000) from by first | rw [if_pos (by omega)] | rw [if_neg (by omega), if_pos (by omega)] | rw [if_neg (by omega), if_neg (by omega)])⟩⟩)
        · refine lv_iload hx hb dX6_sparing_56 (lv_at hl 0 rfl) ?_
          refine lv_sipush (v := J (20000)) hx hb dX6_sparing_58 (by decide) ?_
          refine j_idiv hx hb (by omega) (by omega) (by omega) (by omega) dX6_sparing_61 ?_
          refine lv_goto (tgt := 71) hx hb dX6_sparing_62 (by decide) ?_
          exact g_iret hx hb hr hW hS dX6_sparing_71 hlocks (⟨hF, Or.inr ⟨⟨ifP_1 c_6, hq⟩, I1, A1, hM, hFCO, congrArg (fun z : Int => some (Value.int (J z))) (show (A1 16 (I1 17)) / 20000 = (if A1 16 (I1 17) = 1000000000 then -1 else if k = 0 then A1 16 (I1 17) / 20000 else A1 16 (I1 17) % 20000) from by first | rw [if_pos (by omega)] | rw [if_neg (by omega), if_pos (by omega)] | rw [if_neg (by omega), if_neg (by omega)])⟩⟩)
      · refine lv_iconst (v := J (-1)) hx hb dX6_sparing_48 rfl ?_
        refine lv_goto (tgt := 71) hx hb dX6_sparing_49 (by decide) ?_
        exact g_iret hx hb hr hW hS dX6_sparing_71 hlocks (⟨hF, Or.inr ⟨⟨ifP_1 c_6, hq⟩, I1, A1, hM, hFCO, congrArg (fun z : Int => some (Value.int (J z))) (show (-1) = (if A1 16 (I1 17) = 1000000000 then -1 else if k = 0 then A1 16 (I1 17) / 20000 else A1 16 (I1 17) % 20000) from by first | rw [if_pos (by omega)] | rw [if_neg (by omega), if_pos (by omega)] | rw [if_neg (by omega), if_neg (by omega)])⟩⟩)
    · refine lv_bipush (v := J (-2)) hx hb dX6_sparing_18 (by decide) ?_
      exact g_iret hx hb hr hW hS dX6_sparing_20 hlocks (⟨hF, Or.inl ⟨by first | (have q := p_in_0 c_15; exact fun w => q w.2) | (have q := ifP_0 c_6; exact fun w => q w.1), rfl, hM⟩⟩)
