set_option maxHeartbeats 4000000 in
set_option maxRecDepth 100000 in
theorem m_in (l : Launch) (g : GX) (base : Nat) (sa : Nat → Nat) (h0 : Hp) (v a b : Int) (hv : i32 v) (ha : i32 a) (hb9 : i32 b) : MC l g base sa yX6_in wsX6_in ({ frames := 0, cells := 0, slots := 0, locals := 0 }) ([.int (J v), .int (J a), .int (J b)]) h0 (fun r h' => r = some (.int (J (p_in v a b))) ∧ h' = h0) := by
  refine Met.ofW (cc := cX6_in) (maxL := 3) (ret := (some .boolean)) (by decide) rfl ?_
  intro p e s m args below meth c s₁ B hml hv
  obtain ⟨rfl, hk, hW⟩ := hv
  have hx := B.exec
  have hb := B.bytes
  have hr := B.returns
  have hts := atoms_spec (ws := wsX6_in) B.pre
  have hown : s.vm.findClass RX6 = some m.cls := findClass_of_methodNamed B.named
  have hlocks := B.notSynchronized
  have hS : va_S (Ab base) s.heap s.heap [] := va_S.rf
  have hl := lv_entry ([.int (J v), .int (J a), .int (J b)]) (n := 3) (Nat.le_of_ble_eq_true rfl)
  rw [lg_entry_eq]
  generalize (lg_sl ([.int (J v), .int (J a), .int (J b)]) ++ List.replicate (3 - (lg_sl ([.int (J v), .int (J a), .int (J b)])).length) Slot.unset).toArray = ls at hl ⊢
  have hl : lv_has ls 3 [(0, .int (J v)), (1, .int (J a)), (2, .int (J b))] := hl
  obtain ⟨hv1, hv2⟩ := hv
  obtain ⟨ha1, ha2⟩ := ha
  obtain ⟨hb1, hb2⟩ := hb9
  refine lv_iload_n hx hb dX6_in_0 rfl (lv_at hl 0 rfl) ?_
  refine lv_iload_n hx hb dX6_in_1 rfl (lv_at hl 1 rfl) ?_
  refine j_icmp_lt (x := v) (y := a) (tgt := 14) hx hb ⟨by omega, by omega⟩ ⟨by omega, by omega⟩ dX6_in_2 (by decide) (fun c_2 => ?_) (fun c_2 => ?_)
  · refine lv_iconst (v := J (0)) hx hb dX6_in_14 rfl ?_
    exact g_zret hx hb hr (by omega) hW hS dX6_in_15 hlocks (⟨congrArg (fun z : Int => some (Value.int (J z))) (show 0 = p_in v a b from by unfold p_in; (repeat' split) <;> omega), rfl⟩)
  · refine lv_iload_n hx hb dX6_in_5 rfl (lv_at hl 0 rfl) ?_
    refine lv_iload_n hx hb dX6_in_6 rfl (lv_at hl 2 rfl) ?_
    refine j_icmp_gt (x := v) (y := b) (tgt := 14) hx hb ⟨by omega, by omega⟩ ⟨by omega, by omega⟩ dX6_in_7 (by decide) (fun c_7 => ?_) (fun c_7 => ?_)
    · refine lv_iconst (v := J (0)) hx hb dX6_in_14 rfl ?_
      exact g_zret hx hb hr (by omega) hW hS dX6_in_15 hlocks (⟨congrArg (fun z : Int => some (Value.int (J z))) (show 0 = p_in v a b from by unfold p_in; (repeat' split) <;> omega), rfl⟩)
    · refine lv_iconst (v := J (1)) hx hb dX6_in_10 rfl ?_
      refine lv_goto (tgt := 15) hx hb dX6_in_11 (by decide) ?_
      exact g_zret hx hb hr (by omega) hW hS dX6_in_15 hlocks (⟨congrArg (fun z : Int => some (Value.int (J z))) (show 1 = p_in v a b from by unfold p_in; (repeat' split) <;> omega), rfl⟩)

set_option maxHeartbeats 4000000 in
set_option maxRecDepth 100000 in
theorem m_isJug (l : Launch) (g : GX) (base : Nat) (sa : Nat → Nat) (h0 : Hp) (o : Nat) (R : Nat → Nat) (I : Nat → Int) (A : Nat → Int → Int) (a : Int) (hM : OB g 6 28 kd6 h0 o R I mL A) (ha : i32 a) (hn : 0 ≤ I 0 ∧ I 0 ≤ 4) : MC l g base sa yX6_isJug wsX6_isJug ({ frames := 1, cells := 0, slots := 0, locals := 22 }) ([.ref o, .int (J a)]) h0 (fun r h' => r = some (.int (J (p_in a 0 (I 0 - 1)))) ∧ h' = h0) := by
  refine Met.ofW (cc := cX6_isJug) (maxL := 2) (ret := (some .boolean)) (by decide) rfl ?_
  intro p e s m args below meth c s₁ B hml hv
  obtain ⟨rfl, hk, hW⟩ := hv
  have hx := B.exec
  have hb := B.bytes
  have hr := B.returns
  have hts := atoms_spec (ws := wsX6_isJug) B.pre
  have hown : s.vm.findClass RX6 = some m.cls := findClass_of_methodNamed B.named
  have hlocks := B.notSynchronized
  have hfX6 : ∀ w ∈ wsX60, w.before ([.ref o, .int (J a)]).toArray s = true := fun w h => hts w (List.mem_cons_of_mem _ (List.mem_append_right _ h))
  have hS : va_S (Ab base) s.heap s.heap [] := va_S.rf
  have hl := lv_entry ([.ref o, .int (J a)]) (n := 2) (Nat.le_of_ble_eq_true rfl)
  rw [lg_entry_eq]
  generalize (lg_sl ([.ref o, .int (J a)]) ++ List.replicate (2 - (lg_sl ([.ref o, .int (J a)])).length) Slot.unset).toArray = ls at hl ⊢
  have hl : lv_has ls 2 [(0, .ref o), (1, .int (J a))] := hl
  refine lv_iload_n hx hb dX6_isJug_0 rfl (lv_at hl 1 rfl) ?_
  refine lv_iconst (v := J (0)) hx hb dX6_isJug_1 rfl ?_
  refine lv_aload_n hx hb dX6_isJug_2 rfl (lv_at hl 0 rfl) ?_
  refine g_get (ci := 6) (C := RX6) (T := TX6) (N := 28) (v := .int (J (I 0))) hx hb hfX6 (fun _ h9 => h9) hown hk hW hM.1 rfl 0 (by decide) (hts (.fieldLink RX6 67 "JugsAndGlassesModel" "jugs" "I") (by decide +kernel)) rfl rfl dX6_isJug_3 ?_
  refine lv_iconst (v := J (1)) hx hb dX6_isJug_6 rfl ?_
  refine j_isub hx hb dX6_isJug_7 ?_
  refine g_callS (As := [.int (J a), .int (J 0), .int (J ((I 0) - 1))]) (rest := []) ⟨hx, hb, hml, hown, hts⟩ (m_in l g base sa h0 a 0 ((I 0) - 1) ha ⟨by decide, by decide⟩ ⟨by omega, by omega⟩) (va_cwS 3 hts gX6_isJug_X6_in rfl rfl rfl (by decide +kernel) ⟨Nat.le_of_ble_eq_true rfl, Nat.le_of_ble_eq_true rfl⟩) hk hW hS rfl hl.1 (Nat.le_of_ble_eq_true rfl) dX6_isJug_8 ⟨Nat.le_of_ble_eq_true rfl, Nat.le_of_ble_eq_true rfl⟩ (fun r9 h9 H locs hp hW hS => ?_)
  obtain ⟨rfl, e9⟩ := hp
  rw [e9] at hW
  refine W.eq (g2 := F0 m 11 ls [.int (J (p_in a 0 ((I 0) - 1)))]) rfl ?_
  have hpr_11 := p_in_r a 0 ((I 0) - 1)
  exact g_zret hx hb hr (p_in_r _ _ _) hW hS dX6_isJug_11 hlocks (⟨rfl, rfl⟩)

set_option maxHeartbeats 4000000 in
set_option maxRecDepth 100000 in
theorem m_jug (l : Launch) (g : GX) (base : Nat) (sa : Nat → Nat) (h0 : Hp) (o : Nat) (R : Nat → Nat) (I : Nat → Int) (A : Nat → Int → Int) (a b : Int) (hM : OB g 6 28 kd6 h0 o R I mL A) (ha : i32 a) (hb9 : i32 b) (hn : 0 ≤ I 0 ∧ I 0 ≤ 4) : MC l g base sa yX6_jug wsX6_jug ({ frames := 1, cells := 0, slots := 0, locals := 22 }) ([.ref o, .int (J a), .int (J b)]) h0 (fun r h' => Fr (FP 28 kd6 o R) h0 h' ∧ ((¬ (1 ≤ a ∧ a ≤ 10 ∧ 0 ≤ b ∧ b ≤ a) ∧ r = some (.int (J (-2))) ∧ OB g 6 28 kd6 h' o R I mL A) ∨ ((1 ≤ a ∧ a ≤ 10 ∧ 0 ≤ b ∧ b ≤ a) ∧ I 0 = 4 ∧ r = some (.int (J (-4))) ∧ OB g 6 28 kd6 h' o R I mL A) ∨ ((1 ≤ a ∧ a ≤ 10 ∧ 0 ≤ b ∧ b ≤ a) ∧ I 0 < 4 ∧ r = some (.int (J (I 0))) ∧ OB g 6 28 kd6 h' o R (va_up I 0 (I 0 + 1)) mL (va_up (va_up A 1 (uf (A 1) (I 0) a)) 2 (uf (A 2) (I 0) b))))) := by
  refine Met.ofW (cc := cX6_jug) (maxL := 3) (ret := (some .int)) (by decide) rfl ?_
  intro p e s m args below meth c s₁ B hml hv
  obtain ⟨rfl, hk, hW⟩ := hv
  have hx := B.exec
  have hb := B.bytes
  have hr := B.returns
  have hts := atoms_spec (ws := wsX6_jug) B.pre
  have hown : s.vm.findClass RX6 = some m.cls := findClass_of_methodNamed B.named
  have hlocks := B.notSynchronized
  have hfX6 : ∀ w ∈ wsX60, w.before ([.ref o, .int (J a), .int (J b)]).toArray s = true := fun w h => hts w (List.mem_cons_of_mem _ (List.mem_append_right _ h))
  have hS : va_S (Ab base) s.heap s.heap [] := va_S.rf
  have hl := lv_entry ([.ref o, .int (J a), .int (J b)]) (n := 3) (Nat.le_of_ble_eq_true rfl)
  rw [lg_entry_eq]
  generalize (lg_sl ([.ref o, .int (J a), .int (J b)]) ++ List.replicate (3 - (lg_sl ([.ref o, .int (J a), .int (J b)])).length) Slot.unset).toArray = ls at hl ⊢
  have hl : lv_has ls 3 [(0, .ref o), (1, .int (J a)), (2, .int (J b))] := hl
  have hF : Fr (FP 28 kd6 o R) h0 h0 := Fr.rf
  refine lv_iload_n hx hb dX6_jug_0 rfl (lv_at hl 1 rfl) ?_
  refine lv_iconst (v := J (1)) hx hb dX6_jug_1 rfl ?_
  refine lv_bipush (v := J (10)) hx hb dX6_jug_2 (by decide) ?_
  refine g_callS (As := [.int (J a), .int (J 1), .int (J 10)]) (rest := []) ⟨hx, hb, hml, hown, hts⟩ (m_in l g base sa h0 a 1 10 ha ⟨by decide, by decide⟩ ⟨by decide, by decide⟩) (va_cwS 3 hts gX6_jug_X6_in rfl rfl rfl (by decide +kernel) ⟨Nat.le_of_ble_eq_true rfl, Nat.le_of_ble_eq_true rfl⟩) hk hW hS rfl hl.1 (Nat.le_of_ble_eq_true rfl) dX6_jug_4 ⟨Nat.le_of_ble_eq_true rfl, Nat.le_of_ble_eq_true rfl⟩ (fun r9 h9 H locs hp hW hS => ?_)
  obtain ⟨rfl, e9⟩ := hp
  rw [e9] at hW
  refine W.eq (g2 := F0 m 7 ls [.int (J (p_in a 1 10))]) rfl ?_
  have hpr_7 := p_in_r a 1 10
  refine j_if_eq (x := p_in a 1 10) (tgt := 19) hx hb ⟨by omega, by omega⟩ dX6_jug_7 (by decide) (fun c_7 => ?_) (fun c_7 => ?_)
  · refine lv_bipush (v := J (-2)) hx hb dX6_jug_19 (by decide) ?_
    exact g_iret hx hb hr hW hS dX6_jug_21 hlocks (⟨hF, Or.inl ⟨by first | (have := p_in_0 c_16; omega) | (have := p_in_0 c_7; omega), rfl, hM⟩⟩)
  · have hq1 := p_in_1 c_7
    refine lv_iload_n hx hb dX6_jug_10 rfl (lv_at hl 2 rfl) ?_
    refine lv_iconst (v := J (0)) hx hb dX6_jug_11 rfl ?_
    refine lv_iload_n hx hb dX6_jug_12 rfl (lv_at hl 1 rfl) ?_
    refine g_callS (As := [.int (J b), .int (J 0), .int (J a)]) (rest := []) ⟨hx, hb, hml, hown, hts⟩ (m_in l g base sa h0 b 0 a hb9 ⟨by decide, by decide⟩ ha) (va_cwS 3 hts gX6_jug_X6_in rfl rfl rfl (by decide +kernel) ⟨Nat.le_of_ble_eq_true rfl, Nat.le_of_ble_eq_true rfl⟩) hk hW hS rfl hl.1 (Nat.le_of_ble_eq_true rfl) dX6_jug_13 ⟨Nat.le_of_ble_eq_true rfl, Nat.le_of_ble_eq_true rfl⟩ (fun r9 h9 H locs hp hW hS => ?_)
    obtain ⟨rfl, e9⟩ := hp
    rw [e9] at hW
    refine W.eq (g2 := F0 m 16 ls [.int (J (p_in b 0 a))]) rfl ?_
    have hpr_16 := p_in_r b 0 a
    refine j_if_ne (x := p_in b 0 a) (tgt := 22) hx hb ⟨by omega, by omega⟩ dX6_jug_16 (by decide) (fun c_16 => ?_) (fun c_16 => ?_)
    · have hq2 := p_in_1 c_16
      refine lv_aload_n hx hb dX6_jug_22 rfl (lv_at hl 0 rfl) ?_
      refine g_get (ci := 6) (C := RX6) (T := TX6) (N := 28) (v := .int (J (I 0))) hx hb hfX6 (fun _ h9 => h9) hown hk hW hM.1 rfl 0 (by decide) (hts (.fieldLink RX6 67 "JugsAndGlassesModel" "jugs" "I") (by decide +kernel)) rfl rfl dX6_jug_23 ?_
      refine lv_iconst (v := J (4)) hx hb dX6_jug_26 rfl ?_
      refine j_icmp_ne (x := I 0) (y := 4) (tgt := 33) hx hb ⟨by omega, by omega⟩ ⟨by decide, by decide⟩ dX6_jug_27 (by decide) (fun c_27 => ?_) (fun c_27 => ?_)
      · refine lv_aload_n hx hb dX6_jug_33 rfl (lv_at hl 0 rfl) ?_
        refine g_get (ci := 6) (C := RX6) (T := TX6) (N := 28) (v := .ref (R 1)) hx hb hfX6 (fun _ h9 => h9) hown hk hW hM.1 rfl 1 (by decide) (hts (.fieldLink RX6 7 "JugsAndGlassesModel" "size" "[I") (by decide +kernel)) rfl rfl dX6_jug_34 ?_
        refine lv_aload_n hx hb dX6_jug_37 rfl (lv_at hl 0 rfl) ?_
        refine g_get (ci := 6) (C := RX6) (T := TX6) (N := 28) (v := .int (J (I 0))) hx hb hfX6 (fun _ h9 => h9) hown hk hW hM.1 rfl 0 (by decide) (hts (.fieldLink RX6 67 "JugsAndGlassesModel" "jugs" "I") (by decide +kernel)) rfl rfl dX6_jug_38 ?_
        refine lv_iload_n hx hb dX6_jug_41 rfl (lv_at hl 1 rfl) ?_
        refine o_iast (A' := (va_up A 1 (uf (A 1) (I 0) a))) (i := I 0) (x := a) hx hb hk hW hS hM hF 1 (by decide) rfl (FP.a 1 (by decide) ⟨by decide, by decide⟩) (by omega) (show I 0 < 4 from by omega) (show 4 < 2147483648 from by omega) rfl dX6_jug_42 (fun h H locs hM hF hst hW hS => ?_)
        refine lv_aload_n hx hb dX6_jug_43 rfl (lv_at hl 0 rfl) ?_
        refine g_get (ci := 6) (C := RX6) (T := TX6) (N := 28) (v := .ref (R 2)) hx hb hfX6 (fun _ h9 => h9) hown hk hW hM.1 rfl 2 (by decide) (hts (.fieldLink RX6 13 "JugsAndGlassesModel" "held" "[I") (by decide +kernel)) rfl rfl dX6_jug_44 ?_
        refine lv_aload_n hx hb dX6_jug_47 rfl (lv_at hl 0 rfl) ?_
        refine g_get (ci := 6) (C := RX6) (T := TX6) (N := 28) (v := .int (J (I 0))) hx hb hfX6 (fun _ h9 => h9) hown hk hW hM.1 rfl 0 (by decide) (hts (.fieldLink RX6 67 "JugsAndGlassesModel" "jugs" "I") (by decide +kernel)) rfl rfl dX6_jug_48 ?_
        refine lv_iload_n hx hb dX6_jug_51 rfl (lv_at hl 2 rfl) ?_
        refine o_iast (A' := (va_up (va_up A 1 (uf (A 1) (I 0) a)) 2 (uf (A 2) (I 0) b))) (i := I 0) (x := b) hx hb hk hW hS hM hF 2 (by decide) rfl (FP.a 2 (by decide) ⟨by decide, by decide⟩) (by omega) (show I 0 < 4 from by omega) (show 4 < 2147483648 from by omega) rfl dX6_jug_52 (fun h H locs hM hF hst hW hS => ?_)
        refine lv_aload_n hx hb dX6_jug_53 rfl (lv_at hl 0 rfl) ?_
        refine lv_dup hx hb dX6_jug_54 rfl ?_
        refine g_get (ci := 6) (C := RX6) (T := TX6) (N := 28) (v := .int (J (I 0))) hx hb hfX6 (fun _ h9 => h9) hown hk hW hM.1 rfl 0 (by decide) (hts (.fieldLink RX6 67 "JugsAndGlassesModel" "jugs" "I") (by decide +kernel)) rfl rfl dX6_jug_55 ?_
        refine lv_iconst (v := J (1)) hx hb dX6_jug_58 rfl ?_
        refine j_iadd hx hb dX6_jug_59 ?_
        refine o_put (I' := (va_up I 0 ((I 0) + 1))) (ci := 6) (C := RX6) (T := TX6) (N := 28) (ty := .int) hx hb hfX6 (fun _ h9 => h9) tyX6 tyX6_ok nmX6 hown hk hW hS hM hF FP.o rfl 0 (by decide) rfl (hts (.fieldLink RX6 67 "JugsAndGlassesModel" "jugs" "I") (by decide +kernel)) rfl rfl (by decide +kernel) rfl rfl rfl dX6_jug_60 (fun h H locs hM hF hst hW hS => ?_)
        refine lv_aload_n hx hb dX6_jug_63 rfl (lv_at hl 0 rfl) ?_
        refine g_get (ci := 6) (C := RX6) (T := TX6) (N := 28) (v := .int (J ((I 0) + 1))) hx hb hfX6 (fun _ h9 => h9) hown hk hW hM.1 rfl 0 (by decide) (hts (.fieldLink RX6 67 "JugsAndGlassesModel" "jugs" "I") (by decide +kernel)) rfl rfl dX6_jug_64 ?_
        refine lv_iconst (v := J (1)) hx hb dX6_jug_67 rfl ?_
        refine j_isub hx hb dX6_jug_68 ?_
        exact g_iret hx hb hr hW hS dX6_jug_69 hlocks (⟨hF, Or.inr (Or.inr ⟨by omega, by omega, congrArg (fun q : Int => some (Value.int (J q))) (show (I 0 + 1) - 1 = I 0 from by omega), hM⟩)⟩)
      · refine lv_bipush (v := J (-4)) hx hb dX6_jug_30 (by decide) ?_
        exact g_iret hx hb hr hW hS dX6_jug_32 hlocks (⟨hF, Or.inr (Or.inl ⟨by omega, by omega, rfl, hM⟩)⟩)
    · refine lv_bipush (v := J (-2)) hx hb dX6_jug_19 (by decide) ?_
      exact g_iret hx hb hr hW hS dX6_jug_21 hlocks (⟨hF, Or.inl ⟨by first | (have := p_in_0 c_16; omega) | (have := p_in_0 c_7; omega), rfl, hM⟩⟩)

set_option maxHeartbeats 4000000 in
set_option maxRecDepth 100000 in
theorem m_set (l : Launch) (g : GX) (base : Nat) (sa : Nat → Nat) (h0 : Hp) (o : Nat) (R : Nat → Nat) (I : Nat → Int) (A : Nat → Int → Int) (a b : Int) (hM : OB g 6 28 kd6 h0 o R I mL A) (ha : i32 a) (hb9 : b = 0 ∨ b = 1) (h3 : I 3 = 0 ∨ I 3 = 1) (h4 : I 4 = 0 ∨ I 4 = 1) : MC l g base sa yX6_set wsX6_set ({ frames := 1, cells := 0, slots := 0, locals := 22 }) ([.ref o, .int (J a), .int (J b)]) h0 (fun r h' => Fr (FP 28 kd6 o R) h0 h' ∧ ((¬ (a = 0 ∨ a = 1) ∧ r = some (.int (J (-2))) ∧ OB g 6 28 kd6 h' o R I mL A) ∨ (a = 0 ∧ r = some (.int (J (I 3))) ∧ OB g 6 28 kd6 h' o R (va_up I 3 b) mL A) ∨ (a = 1 ∧ r = some (.int (J (I 4))) ∧ OB g 6 28 kd6 h' o R (va_up I 4 b) mL A))) := by
  refine Met.ofW (cc := cX6_set) (maxL := 4) (ret := (some .int)) (by decide) rfl ?_
  intro p e s m args below meth c s₁ B hml hv
  obtain ⟨rfl, hk, hW⟩ := hv
  have hx := B.exec
  have hb := B.bytes
  have hr := B.returns
  have hts := atoms_spec (ws := wsX6_set) B.pre
  have hown : s.vm.findClass RX6 = some m.cls := findClass_of_methodNamed B.named
  have hlocks := B.notSynchronized
  have hfX6 : ∀ w ∈ wsX60, w.before ([.ref o, .int (J a), .int (J b)]).toArray s = true := fun w h => hts w (List.mem_cons_of_mem _ (List.mem_append_right _ h))
  have hS : va_S (Ab base) s.heap s.heap [] := va_S.rf
  have hl := lv_entry ([.ref o, .int (J a), .int (J b)]) (n := 4) (Nat.le_of_ble_eq_true rfl)
  rw [lg_entry_eq]
  generalize (lg_sl ([.ref o, .int (J a), .int (J b)]) ++ List.replicate (4 - (lg_sl ([.ref o, .int (J a), .int (J b)])).length) Slot.unset).toArray = ls at hl ⊢
  have hl : lv_has ls 4 [(0, .ref o), (1, .int (J a)), (2, .int (J b))] := hl
  have hF : Fr (FP 28 kd6 o R) h0 h0 := Fr.rf
  refine lv_iload_n hx hb dX6_set_0 rfl (lv_at hl 1 rfl) ?_
  refine lv_iconst (v := J (0)) hx hb dX6_set_1 rfl ?_
  refine lv_iconst (v := J (1)) hx hb dX6_set_2 rfl ?_
  refine g_callS (As := [.int (J a), .int (J 0), .int (J 1)]) (rest := []) ⟨hx, hb, hml, hown, hts⟩ (m_in l g base sa h0 a 0 1 ha ⟨by decide, by decide⟩ ⟨by decide, by decide⟩) (va_cwS 3 hts gX6_set_X6_in rfl rfl rfl (by decide +kernel) ⟨Nat.le_of_ble_eq_true rfl, Nat.le_of_ble_eq_true rfl⟩) hk hW hS rfl hl.1 (Nat.le_of_ble_eq_true rfl) dX6_set_3 ⟨Nat.le_of_ble_eq_true rfl, Nat.le_of_ble_eq_true rfl⟩ (fun r9 h9 H locs hp hW hS => ?_)
  obtain ⟨rfl, e9⟩ := hp
  rw [e9] at hW
  refine W.eq (g2 := F0 m 6 ls [.int (J (p_in a 0 1))]) rfl ?_
  have hpr_6 := p_in_r a 0 1
  refine j_if_ne (x := p_in a 0 1) (tgt := 12) hx hb ⟨by omega, by omega⟩ dX6_set_6 (by decide) (fun c_6 => ?_) (fun c_6 => ?_)
  · have hq1 := p_in_1 c_6
    have cut_38 : ∀ (t : Int) (ls : Array Slot), (t = if a = 0 then I 3 else I 4) → (lv_has ls 4 [(0, .ref o), (1, .int (J a)), (2, .int (J b))]) → W p l e (headSpec wsX6_set ({ frames := 1, cells := 0, slots := 0, locals := 22 })).room s m ([.ref o, .int (J a), .int (J b)]).toArray below meth c H locs 0 0 (MQ below (QcM g base (fun r h' => Fr (FP 28 kd6 o R) h0 h' ∧ ((¬ (a = 0 ∨ a = 1) ∧ r = some (.int (J (-2))) ∧ OB g 6 28 kd6 h' o R I mL A) ∨ (a = 0 ∧ r = some (.int (J (I 3))) ∧ OB g 6 28 kd6 h' o R (va_up I 3 b) mL A) ∨ (a = 1 ∧ r = some (.int (J (I 4))) ∧ OB g 6 28 kd6 h' o R (va_up I 4 b) mL A)))) ([.ref o, .int (J a), .int (J b)]).toArray s (0) (0) (Ab base)) (F0 m 38 ls [.int (J t)]) := by
      intro t  ls et hl
      refine lv_istore_n (lv' := [(3, .int (J t)), (0, .ref o), (1, .int (J a)), (2, .int (J b))]) hx hb dX6_set_38 rfl hl (by decide) rfl (fun ls hl => ?_)
      refine lv_aload_n hx hb dX6_set_39 rfl (lv_at hl 1 rfl) ?_
      refine lv_iload_n hx hb dX6_set_40 rfl (lv_at hl 2 rfl) ?_
      refine j_if_ne (x := a) (tgt := 48) hx hb ⟨by omega, by omega⟩ dX6_set_41 (by decide) (fun c_41 => ?_) (fun c_41 => ?_)
      · refine lv_aload_n hx hb dX6_set_48 rfl (lv_at hl 1 rfl) ?_
        refine g_get (ci := 6) (C := RX6) (T := TX6) (N := 28) (v := .int (J (I 3))) hx hb hfX6 (fun _ h9 => h9) hown hk hW hM.1 rfl 3 (by decide) (hts (.fieldLink RX6 16 "JugsAndGlassesModel" "hasTap" "Z") (by decide +kernel)) rfl rfl dX6_set_49 ?_
        refine o_put (I' := (va_up I 3 (I 3))) (ci := 6) (C := RX6) (T := TX6) (N := 28) (ty := .boolean) hx hb hfX6 (fun _ h9 => h9) tyX6 tyX6_ok nmX6 hown hk hW hS hM hF FP.o rfl 3 (by decide) rfl (hts (.fieldLink RX6 16 "JugsAndGlassesModel" "hasTap" "Z") (by decide +kernel)) rfl rfl (by decide +kernel) (nb_n (by omega)) (nb_f (by omega)) rfl dX6_set_52 (fun h H locs hM hF hst hW hS => ?_)
        refine lv_aload_n hx hb dX6_set_55 rfl (lv_at hl 1 rfl) ?_
        refine lv_iload_n hx hb dX6_set_56 rfl (lv_at hl 2 rfl) ?_
        refine lv_iconst (v := J (1)) hx hb dX6_set_57 rfl ?_
        refine j_icmp_ne (x := a) (y := 1) (tgt := 65) hx hb ⟨by omega, by omega⟩ ⟨by decide, by decide⟩ dX6_set_58 (by decide) (fun c_58 => ?_) (fun c_58 => ?_)
        · refine lv_aload_n hx hb dX6_set_65 rfl (lv_at hl 1 rfl) ?_
          refine g_get (ci := 6) (C := RX6) (T := TX6) (N := 28) (v := .int (J (I 4))) hx hb hfX6 (fun _ h9 => h9) hown hk hW hM.1 rfl 4 (by decide) (hts (.fieldLink RX6 20 "JugsAndGlassesModel" "hasDrain" "Z") (by decide +kernel)) rfl rfl dX6_set_66 ?_
          refine o_put (I' := (va_up (va_up I 3 (I 3)) 4 (I 4))) (ci := 6) (C := RX6) (T := TX6) (N := 28) (ty := .boolean) hx hb hfX6 (fun _ h9 => h9) tyX6 tyX6_ok nmX6 hown hk hW hS hM hF FP.o rfl 4 (by decide) rfl (hts (.fieldLink RX6 20 "JugsAndGlassesModel" "hasDrain" "Z") (by decide +kernel)) rfl rfl (by decide +kernel) (nb_n (by omega)) (nb_f (by omega)) rfl dX6_set_69 (fun h H locs hM hF hst hW hS => ?_)
          refine lv_iload_n hx hb dX6_set_72 rfl (lv_at hl 0 rfl) ?_
          exact g_iret hx hb hr hW hS dX6_set_73 hlocks (⟨hF, by first | (exfalso; omega) | (refine Or.inr (Or.inl ⟨by omega, ?_, ?_⟩); (rw [et, if_pos (by omega)]); (refine (show va_up I 3 b = (va_up (va_up I 3 (I 3)) 4 (I 4)) from ?_) ▸ hM; funext j; unfold va_up; (repeat' split) <;> first | rfl | omega | simp_all)) | (refine Or.inr (Or.inr ⟨by omega, ?_, ?_⟩); (rw [et, if_neg (by omega)]); (refine (show va_up I 4 b = (va_up (va_up I 3 (I 3)) 4 (I 4)) from ?_) ▸ hM; funext j; unfold va_up; (repeat' split) <;> first | rfl | omega | simp_all))⟩)
        · refine lv_iload_n hx hb dX6_set_61 rfl (lv_at hl 3 rfl) ?_
          refine lv_goto (tgt := 69) hx hb dX6_set_62 (by decide) ?_
          refine o_put (I' := (va_up (va_up I 3 (I 3)) 4 (b))) (ci := 6) (C := RX6) (T := TX6) (N := 28) (ty := .boolean) hx hb hfX6 (fun _ h9 => h9) tyX6 tyX6_ok nmX6 hown hk hW hS hM hF FP.o rfl 4 (by decide) rfl (hts (.fieldLink RX6 20 "JugsAndGlassesModel" "hasDrain" "Z") (by decide +kernel)) rfl rfl (by decide +kernel) (nb_n (by omega)) (nb_f (by omega)) rfl dX6_set_69 (fun h H locs hM hF hst hW hS => ?_)
          refine lv_iload_n hx hb dX6_set_72 rfl (lv_at hl 0 rfl) ?_
          exact g_iret hx hb hr hW hS dX6_set_73 hlocks (⟨hF, by first | (exfalso; omega) | (refine Or.inr (Or.inl ⟨by omega, ?_, ?_⟩); (rw [et, if_pos (by omega)]); (refine (show va_up I 3 b = (va_up (va_up I 3 (I 3)) 4 (b)) from ?_) ▸ hM; funext j; unfold va_up; (repeat' split) <;> first | rfl | omega | simp_all)) | (refine Or.inr (Or.inr ⟨by omega, ?_, ?_⟩); (rw [et, if_neg (by omega)]); (refine (show va_up I 4 b = (va_up (va_up I 3 (I 3)) 4 (b)) from ?_) ▸ hM; funext j; unfold va_up; (repeat' split) <;> first | rfl | omega | simp_all))⟩)
      · refine lv_iload_n hx hb dX6_set_44 rfl (lv_at hl 3 rfl) ?_
        refine lv_goto (tgt := 52) hx hb dX6_set_45 (by decide) ?_
        refine o_put (I' := (va_up I 3 (b))) (ci := 6) (C := RX6) (T := TX6) (N := 28) (ty := .boolean) hx hb hfX6 (fun _ h9 => h9) tyX6 tyX6_ok nmX6 hown hk hW hS hM hF FP.o rfl 3 (by decide) rfl (hts (.fieldLink RX6 16 "JugsAndGlassesModel" "hasTap" "Z") (by decide +kernel)) rfl rfl (by decide +kernel) (nb_n (by omega)) (nb_f (by omega)) rfl dX6_set_52 (fun h H locs hM hF hst hW hS => ?_)
        refine lv_aload_n hx hb dX6_set_55 rfl (lv_at hl 1 rfl) ?_
        refine lv_iload_n hx hb dX6_set_56 rfl (lv_at hl 2 rfl) ?_
        refine lv_iconst (v := J (1)) hx hb dX6_set_57 rfl ?_
        refine j_icmp_ne (x := a) (y := 1) (tgt := 65) hx hb ⟨by omega, by omega⟩ ⟨by decide, by decide⟩ dX6_set_58 (by decide) (fun c_58 => ?_) (fun c_58 => ?_)
        · refine lv_aload_n hx hb dX6_set_65 rfl (lv_at hl 1 rfl) ?_
          refine g_get (ci := 6) (C := RX6) (T := TX6) (N := 28) (v := .int (J (I 4))) hx hb hfX6 (fun _ h9 => h9) hown hk hW hM.1 rfl 4 (by decide) (hts (.fieldLink RX6 20 "JugsAndGlassesModel" "hasDrain" "Z") (by decide +kernel)) rfl rfl dX6_set_66 ?_
          refine o_put (I' := (va_up (va_up I 3 (b)) 4 (I 4))) (ci := 6) (C := RX6) (T := TX6) (N := 28) (ty := .boolean) hx hb hfX6 (fun _ h9 => h9) tyX6 tyX6_ok nmX6 hown hk hW hS hM hF FP.o rfl 4 (by decide) rfl (hts (.fieldLink RX6 20 "JugsAndGlassesModel" "hasDrain" "Z") (by decide +kernel)) rfl rfl (by decide +kernel) (nb_n (by omega)) (nb_f (by omega)) rfl dX6_set_69 (fun h H locs hM hF hst hW hS => ?_)
          refine lv_iload_n hx hb dX6_set_72 rfl (lv_at hl 0 rfl) ?_
          exact g_iret hx hb hr hW hS dX6_set_73 hlocks (⟨hF, by first | (exfalso; omega) | (refine Or.inr (Or.inl ⟨by omega, ?_, ?_⟩); (rw [et, if_pos (by omega)]); (refine (show va_up I 3 b = (va_up (va_up I 3 (b)) 4 (I 4)) from ?_) ▸ hM; funext j; unfold va_up; (repeat' split) <;> first | rfl | omega | simp_all)) | (refine Or.inr (Or.inr ⟨by omega, ?_, ?_⟩); (rw [et, if_neg (by omega)]); (refine (show va_up I 4 b = (va_up (va_up I 3 (b)) 4 (I 4)) from ?_) ▸ hM; funext j; unfold va_up; (repeat' split) <;> first | rfl | omega | simp_all))⟩)
        · refine lv_iload_n hx hb dX6_set_61 rfl (lv_at hl 3 rfl) ?_
          refine lv_goto (tgt := 69) hx hb dX6_set_62 (by decide) ?_
          refine o_put (I' := (va_up (va_up I 3 (b)) 4 (b))) (ci := 6) (C := RX6) (T := TX6) (N := 28) (ty := .boolean) hx hb hfX6 (fun _ h9 => h9) tyX6 tyX6_ok nmX6 hown hk hW hS hM hF FP.o rfl 4 (by decide) rfl (hts (.fieldLink RX6 20 "JugsAndGlassesModel" "hasDrain" "Z") (by decide +kernel)) rfl rfl (by decide +kernel) (nb_n (by omega)) (nb_f (by omega)) rfl dX6_set_69 (fun h H locs hM hF hst hW hS => ?_)
          refine lv_iload_n hx hb dX6_set_72 rfl (lv_at hl 0 rfl) ?_
          exact g_iret hx hb hr hW hS dX6_set_73 hlocks (⟨hF, by first | (exfalso; omega) | (refine Or.inr (Or.inl ⟨by omega, ?_, ?_⟩); (rw [et, if_pos (by omega)]); (refine (show va_up I 3 b = (va_up (va_up I 3 (b)) 4 (b)) from ?_) ▸ hM; funext j; unfold va_up; (repeat' split) <;> first | rfl | omega | simp_all)) | (refine Or.inr (Or.inr ⟨by omega, ?_, ?_⟩); (rw [et, if_neg (by omega)]); (refine (show va_up I 4 b = (va_up (va_up I 3 (b)) 4 (b)) from ?_) ▸ hM; funext j; unfold va_up; (repeat' split) <;> first | rfl | omega | simp_all))⟩)
    refine lv_iload_n hx hb dX6_set_12 rfl (lv_at hl 1 rfl) ?_
    refine j_if_ne (x := a) (tgt := 26) hx hb ⟨by omega, by omega⟩ dX6_set_13 (by decide) (fun c_13 => ?_) (fun c_13 => ?_)
    · refine lv_aload_n hx hb dX6_set_26 rfl (lv_at hl 0 rfl) ?_
      refine g_get (ci := 6) (C := RX6) (T := TX6) (N := 28) (v := .int (J (I 4))) hx hb hfX6 (fun _ h9 => h9) hown hk hW hM.1 rfl 4 (by decide) (hts (.fieldLink RX6 20 "JugsAndGlassesModel" "hasDrain" "Z") (by decide +kernel)) rfl rfl dX6_set_27 ?_
      refine j_if_eq (x := I 4) (tgt := 37) hx hb ⟨by omega, by omega⟩ dX6_set_30 (by decide) (fun c_30 => ?_) (fun c_30 => ?_)
      · refine lv_iconst (v := J (0)) hx hb dX6_set_37 rfl ?_
        exact cut_38 _  ls (by split <;> omega) (lv_sub hl [0, 1, 2] rfl)
      · refine lv_iconst (v := J (1)) hx hb dX6_set_33 rfl ?_
        refine lv_goto (tgt := 38) hx hb dX6_set_34 (by decide) ?_
        exact cut_38 _  ls (by split <;> omega) (lv_sub hl [0, 1, 2] rfl)
    · refine lv_aload_n hx hb dX6_set_16 rfl (lv_at hl 0 rfl) ?_
      refine g_get (ci := 6) (C := RX6) (T := TX6) (N := 28) (v := .int (J (I 3))) hx hb hfX6 (fun _ h9 => h9) hown hk hW hM.1 rfl 3 (by decide) (hts (.fieldLink RX6 16 "JugsAndGlassesModel" "hasTap" "Z") (by decide +kernel)) rfl rfl dX6_set_17 ?_
      refine j_if_eq (x := I 3) (tgt := 37) hx hb ⟨by omega, by omega⟩ dX6_set_20 (by decide) (fun c_20 => ?_) (fun c_20 => ?_)
      · refine lv_iconst (v := J (0)) hx hb dX6_set_37 rfl ?_
        exact cut_38 _  ls (by split <;> omega) (lv_sub hl [0, 1, 2] rfl)
      · refine lv_goto (tgt := 33) hx hb dX6_set_23 (by decide) ?_
        refine lv_iconst (v := J (1)) hx hb dX6_set_33 rfl ?_
        refine lv_goto (tgt := 38) hx hb dX6_set_34 (by decide) ?_
        exact cut_38 _  ls (by split <;> omega) (lv_sub hl [0, 1, 2] rfl)
  · refine lv_bipush (v := J (-2)) hx hb dX6_set_9 (by decide) ?_
    exact g_iret hx hb hr hW hS dX6_set_11 hlocks (⟨hF, Or.inl ⟨by have := p_in_0 c_6; omega, rfl, hM⟩⟩)

set_option maxHeartbeats 4000000 in
set_option maxRecDepth 100000 in
theorem m_put (l : Launch) (g : GX) (base : Nat) (sa : Nat → Nat) (h0 : Hp) (o : Nat) (R : Nat → Nat) (I : Nat → Int) (A : Nat → Int → Int) (a b : Int) (hM : OB g 6 28 kd6 h0 o R I mL A) (ha : i32 a) (hb9 : i32 b) (hn : 0 ≤ I 0 ∧ I 0 ≤ 4) (hs : ∀ i, 0 ≤ i → i < I 0 → 1 ≤ A 1 i ∧ A 1 i ≤ 10) : MC l g base sa yX6_put wsX6_put ({ frames := 2, cells := 0, slots := 0, locals := 43 }) ([.ref o, .int (J a), .int (J b)]) h0 (fun r h' => Fr (FP 28 kd6 o R) h0 h' ∧ ((¬ (0 ≤ a ∧ a < I 0 ∧ 0 ≤ b ∧ b ≤ A 1 a) ∧ r = some (.int (J (-2))) ∧ OB g 6 28 kd6 h' o R I mL A) ∨ ((0 ≤ a ∧ a < I 0 ∧ 0 ≤ b ∧ b ≤ A 1 a) ∧ r = some (.int (J (A 2 a))) ∧ OB g 6 28 kd6 h' o R I mL (va_up A 2 (uf (A 2) a b))))) := by
  refine Met.ofW (cc := cX6_put) (maxL := 4) (ret := (some .int)) (by decide) rfl ?_
  intro p e s m args below meth c s₁ B hml hv
  obtain ⟨rfl, hk, hW⟩ := hv
  have hx := B.exec
  have hb := B.bytes
  have hr := B.returns
  have hts := atoms_spec (ws := wsX6_put) B.pre
  have hown : s.vm.findClass RX6 = some m.cls := findClass_of_methodNamed B.named
  have hlocks := B.notSynchronized
  have hfX6 : ∀ w ∈ wsX60, w.before ([.ref o, .int (J a), .int (J b)]).toArray s = true := fun w h => hts w (List.mem_cons_of_mem _ (List.mem_append_right _ h))
  have hS : va_S (Ab base) s.heap s.heap [] := va_S.rf
  have hl := lv_entry ([.ref o, .int (J a), .int (J b)]) (n := 4) (Nat.le_of_ble_eq_true rfl)
  rw [lg_entry_eq]
  generalize (lg_sl ([.ref o, .int (J a), .int (J b)]) ++ List.replicate (4 - (lg_sl ([.ref o, .int (J a), .int (J b)])).length) Slot.unset).toArray = ls at hl ⊢
  have hl : lv_has ls 4 [(0, .ref o), (1, .int (J a)), (2, .int (J b))] := hl
  have hF : Fr (FP 28 kd6 o R) h0 h0 := Fr.rf
  refine lv_aload_n hx hb dX6_put_0 rfl (lv_at hl 0 rfl) ?_
  refine lv_iload_n hx hb dX6_put_1 rfl (lv_at hl 1 rfl) ?_
  refine g_callV (As := [.int (J a)]) (rest := []) (b := o) (ci := 6) (C := RX6) (T := TX6) (N := 28) ⟨hx, hb, hml, hown, hts⟩ (m_isJug l g base sa h0 o R I A a hM ha hn) (cwV 1 hts gX6_put_X6_isJug rfl rfl rfl (by decide +kernel) ⟨Nat.le_of_ble_eq_true rfl, Nat.le_of_ble_eq_true rfl⟩) hk hW hS hM.1 rfl rfl hl.1 (Nat.le_of_ble_eq_true rfl) dX6_put_2 ⟨Nat.le_of_ble_eq_true rfl, Nat.le_of_ble_eq_true rfl⟩ (fun r9 h9 H locs hp hW hS => ?_)
  obtain ⟨rfl, e9⟩ := hp
  rw [e9] at hW
  refine W.eq (g2 := F0 m 5 ls [.int (J (p_in a 0 (I 0 - 1)))]) rfl ?_
  have hpr_5 := p_in_r a 0 (I 0 - 1)
  refine j_if_eq (x := p_in a 0 (I 0 - 1)) (tgt := 22) hx hb ⟨by omega, by omega⟩ dX6_put_5 (by decide) (fun c_5 => ?_) (fun c_5 => ?_)
  · refine lv_bipush (v := J (-2)) hx hb dX6_put_22 (by decide) ?_
    exact g_iret hx hb hr hW hS dX6_put_24 hlocks (⟨hF, Or.inl ⟨by first | (have := p_in_0 c_19; omega) | (have := p_in_0 c_5; omega), rfl, hM⟩⟩)
  · have hq1 := p_in_1 c_5
    have hq3 := hs a (by omega) (by omega)
    refine lv_iload_n hx hb dX6_put_8 rfl (lv_at hl 2 rfl) ?_
    refine lv_iconst (v := J (0)) hx hb dX6_put_9 rfl ?_
    refine lv_aload_n hx hb dX6_put_10 rfl (lv_at hl 0 rfl) ?_
    refine g_get (ci := 6) (C := RX6) (T := TX6) (N := 28) (v := .ref (R 1)) hx hb hfX6 (fun _ h9 => h9) hown hk hW hM.1 rfl 1 (by decide) (hts (.fieldLink RX6 7 "JugsAndGlassesModel" "size" "[I") (by decide +kernel)) rfl rfl dX6_put_11 ?_
    refine lv_iload_n hx hb dX6_put_14 rfl (lv_at hl 1 rfl) ?_
    refine g_iald (n := 4) (f := A 1) (i := a) hx hb hk hW (hM.ai 1 (by decide) rfl) (by omega) (by omega) (by omega) dX6_put_15 ?_
    refine g_callS (As := [.int (J b), .int (J 0), .int (J (A 1 a))]) (rest := []) ⟨hx, hb, hml, hown, hts⟩ (m_in l g base sa h0 b 0 (A 1 a) hb9 ⟨by decide, by decide⟩ ⟨by omega, by omega⟩) (va_cwS 3 hts gX6_put_X6_in rfl rfl rfl (by decide +kernel) ⟨Nat.le_of_ble_eq_true rfl, Nat.le_of_ble_eq_true rfl⟩) hk hW hS rfl hl.1 (Nat.le_of_ble_eq_true rfl) dX6_put_16 ⟨Nat.le_of_ble_eq_true rfl, Nat.le_of_ble_eq_true rfl⟩ (fun r9 h9 H locs hp hW hS => ?_)
    obtain ⟨rfl, e9⟩ := hp
    rw [e9] at hW
    refine W.eq (g2 := F0 m 19 ls [.int (J (p_in b 0 (A 1 a)))]) rfl ?_
    have hpr_19 := p_in_r b 0 (A 1 a)
    refine j_if_ne (x := p_in b 0 (A 1 a)) (tgt := 25) hx hb ⟨by omega, by omega⟩ dX6_put_19 (by decide) (fun c_19 => ?_) (fun c_19 => ?_)
    · have hq2 := p_in_1 c_19
      refine lv_aload_n hx hb dX6_put_25 rfl (lv_at hl 0 rfl) ?_
      refine g_get (ci := 6) (C := RX6) (T := TX6) (N := 28) (v := .ref (R 2)) hx hb hfX6 (fun _ h9 => h9) hown hk hW hM.1 rfl 2 (by decide) (hts (.fieldLink RX6 13 "JugsAndGlassesModel" "held" "[I") (by decide +kernel)) rfl rfl dX6_put_26 ?_
      refine lv_iload_n hx hb dX6_put_29 rfl (lv_at hl 1 rfl) ?_
      refine g_iald (n := 4) (f := A 2) (i := a) hx hb hk hW (hM.ai 2 (by decide) rfl) (by omega) (by omega) (by omega) dX6_put_30 ?_
      refine lv_istore_n (lv' := [(3, .int (J (A 2 a))), (0, .ref o), (1, .int (J a)), (2, .int (J b))]) hx hb dX6_put_31 rfl hl (by decide) rfl (fun ls hl => ?_)
      refine lv_aload_n hx hb dX6_put_32 rfl (lv_at hl 1 rfl) ?_
      refine g_get (ci := 6) (C := RX6) (T := TX6) (N := 28) (v := .ref (R 2)) hx hb hfX6 (fun _ h9 => h9) hown hk hW hM.1 rfl 2 (by decide) (hts (.fieldLink RX6 13 "JugsAndGlassesModel" "held" "[I") (by decide +kernel)) rfl rfl dX6_put_33 ?_
      refine lv_iload_n hx hb dX6_put_36 rfl (lv_at hl 2 rfl) ?_
      refine lv_iload_n hx hb dX6_put_37 rfl (lv_at hl 3 rfl) ?_
      refine o_iast (A' := (va_up A 2 (uf (A 2) a b))) (i := a) (x := b) hx hb hk hW hS hM hF 2 (by decide) rfl (FP.a 2 (by decide) ⟨by decide, by decide⟩) (by omega) (show a < 4 from by omega) (show 4 < 2147483648 from by omega) rfl dX6_put_38 (fun h H locs hM hF hst hW hS => ?_)
      refine lv_iload_n hx hb dX6_put_39 rfl (lv_at hl 0 rfl) ?_
      exact g_iret hx hb hr hW hS dX6_put_40 hlocks (⟨hF, Or.inr ⟨by omega, rfl, hM⟩⟩)
    · refine lv_bipush (v := J (-2)) hx hb dX6_put_22 (by decide) ?_
      exact g_iret hx hb hr hW hS dX6_put_24 hlocks (⟨hF, Or.inl ⟨by first | (have := p_in_0 c_19; omega) | (have := p_in_0 c_5; omega), rfl, hM⟩⟩)

set_option maxHeartbeats 4000000 in
set_option maxRecDepth 100000 in
theorem m_holds (l : Launch) (g : GX) (base : Nat) (sa : Nat → Nat) (h0 : Hp) (o : Nat) (R : Nat → Nat) (I : Nat → Int) (A : Nat → Int → Int) (a : Int) (hM : OB g 6 28 kd6 h0 o R I mL A) (ha : i32 a) (hn : 0 ≤ I 0 ∧ I 0 ≤ 4) : MC l g base sa yX6_holds wsX6_holds ({ frames := 2, cells := 0, slots := 0, locals := 43 }) ([.ref o, .int (J a)]) h0 (fun r h' => r = some (.int (J (if 0 ≤ a ∧ a < I 0 then A 2 a else -2))) ∧ h' = h0) := by
  refine Met.ofW (cc := cX6_holds) (maxL := 2) (ret := (some .int)) (by decide) rfl ?_
  intro p e s m args below meth c s₁ B hml hv
  obtain ⟨rfl, hk, hW⟩ := hv
  have hx := B.exec
  have hb := B.bytes
  have hr := B.returns
  have hts := atoms_spec (ws := wsX6_holds) B.pre
  have hown : s.vm.findClass RX6 = some m.cls := findClass_of_methodNamed B.named
  have hlocks := B.notSynchronized
  have hfX6 : ∀ w ∈ wsX60, w.before ([.ref o, .int (J a)]).toArray s = true := fun w h => hts w (List.mem_cons_of_mem _ (List.mem_append_right _ h))
  have hS : va_S (Ab base) s.heap s.heap [] := va_S.rf
  have hl := lv_entry ([.ref o, .int (J a)]) (n := 2) (Nat.le_of_ble_eq_true rfl)
  rw [lg_entry_eq]
  generalize (lg_sl ([.ref o, .int (J a)]) ++ List.replicate (2 - (lg_sl ([.ref o, .int (J a)])).length) Slot.unset).toArray = ls at hl ⊢
  have hl : lv_has ls 2 [(0, .ref o), (1, .int (J a))] := hl
  refine lv_aload_n hx hb dX6_holds_0 rfl (lv_at hl 0 rfl) ?_
  refine lv_iload_n hx hb dX6_holds_1 rfl (lv_at hl 1 rfl) ?_
  refine g_callV (As := [.int (J a)]) (rest := []) (b := o) (ci := 6) (C := RX6) (T := TX6) (N := 28) ⟨hx, hb, hml, hown, hts⟩ (m_isJug l g base sa h0 o R I A a hM ha hn) (cwV 1 hts gX6_holds_X6_isJug rfl rfl rfl (by decide +kernel) ⟨Nat.le_of_ble_eq_true rfl, Nat.le_of_ble_eq_true rfl⟩) hk hW hS hM.1 rfl rfl hl.1 (Nat.le_of_ble_eq_true rfl) dX6_holds_2 ⟨Nat.le_of_ble_eq_true rfl, Nat.le_of_ble_eq_true rfl⟩ (fun r9 h9 H locs hp hW hS => ?_)
  obtain ⟨rfl, e9⟩ := hp
  rw [e9] at hW
  refine W.eq (g2 := F0 m 5 ls [.int (J (p_in a 0 (I 0 - 1)))]) rfl ?_
  have hpr_5 := p_in_r a 0 (I 0 - 1)
  refine j_if_eq (x := p_in a 0 (I 0 - 1)) (tgt := 17) hx hb ⟨by omega, by omega⟩ dX6_holds_5 (by decide) (fun c_5 => ?_) (fun c_5 => ?_)
  · refine lv_bipush (v := J (-2)) hx hb dX6_holds_17 (by decide) ?_
    exact g_iret hx hb hr hW hS dX6_holds_19 hlocks (⟨congrArg (fun z : Int => some (Value.int (J z))) (show (-2) = if 0 ≤ a ∧ a < I 0 then A 2 a else -2 from by first | (rw [if_pos (by omega)]) | (have := p_in_0 c_5; rw [if_neg (by omega)])), rfl⟩)
  · have hq1 := p_in_1 c_5
    refine lv_aload_n hx hb dX6_holds_8 rfl (lv_at hl 0 rfl) ?_
    refine g_get (ci := 6) (C := RX6) (T := TX6) (N := 28) (v := .ref (R 2)) hx hb hfX6 (fun _ h9 => h9) hown hk hW hM.1 rfl 2 (by decide) (hts (.fieldLink RX6 13 "JugsAndGlassesModel" "held" "[I") (by decide +kernel)) rfl rfl dX6_holds_9 ?_
    refine lv_iload_n hx hb dX6_holds_12 rfl (lv_at hl 1 rfl) ?_
    refine g_iald (n := 4) (f := A 2) (i := a) hx hb hk hW (hM.ai 2 (by decide) rfl) (by omega) (by omega) (by omega) dX6_holds_13 ?_
    refine lv_goto (tgt := 19) hx hb dX6_holds_14 (by decide) ?_
    exact g_iret hx hb hr hW hS dX6_holds_19 hlocks (⟨congrArg (fun z : Int => some (Value.int (J z))) (show A 2 a = if 0 ≤ a ∧ a < I 0 then A 2 a else -2 from by first | (rw [if_pos (by omega)]) | (have := p_in_0 c_5; rw [if_neg (by omega)])), rfl⟩)

set_option maxHeartbeats 4000000 in
set_option maxRecDepth 100000 in
theorem m_clear (l : Launch) (g : GX) (base : Nat) (sa : Nat → Nat) (h0 : Hp) (o : Nat) (R : Nat → Nat) (I : Nat → Int) (A : Nat → Int → Int) (hM : OB g 6 28 kd6 h0 o R I mL A) : MC l g base sa yX6_clear wsX6_clear ({ frames := 0, cells := 0, slots := 0, locals := 0 }) ([.ref o]) h0 (fun r h' => Fr (FP 28 kd6 o R) h0 h' ∧ r = some (.int (J (I 0))) ∧ OB g 6 28 kd6 h' o R (va_up I 0 0) mL A) := by
  refine Met.ofW (cc := cX6_clear) (maxL := 2) (ret := (some .int)) (by decide) rfl ?_
  intro p e s m args below meth c s₁ B hml hv
  obtain ⟨rfl, hk, hW⟩ := hv
  have hx := B.exec
  have hb := B.bytes
  have hr := B.returns
  have hts := atoms_spec (ws := wsX6_clear) B.pre
  have hown : s.vm.findClass RX6 = some m.cls := findClass_of_methodNamed B.named
  have hlocks := B.notSynchronized
  have hfX6 : ∀ w ∈ wsX60, w.before ([.ref o]).toArray s = true := fun w h => hts w (List.mem_cons_of_mem _ (List.mem_append_right _ h))
  have hS : va_S (Ab base) s.heap s.heap [] := va_S.rf
  have hl := lv_entry ([.ref o]) (n := 2) (Nat.le_of_ble_eq_true rfl)
  rw [lg_entry_eq]
  generalize (lg_sl ([.ref o]) ++ List.replicate (2 - (lg_sl ([.ref o])).length) Slot.unset).toArray = ls at hl ⊢
  have hl : lv_has ls 2 [(0, .ref o)] := hl
  have hF : Fr (FP 28 kd6 o R) h0 h0 := Fr.rf
  refine lv_aload_n hx hb dX6_clear_0 rfl (lv_at hl 0 rfl) ?_
  refine g_get (ci := 6) (C := RX6) (T := TX6) (N := 28) (v := .int (J (I 0))) hx hb hfX6 (fun _ h9 => h9) hown hk hW hM.1 rfl 0 (by decide) (hts (.fieldLink RX6 67 "JugsAndGlassesModel" "jugs" "I") (by decide +kernel)) rfl rfl dX6_clear_1 ?_
  refine lv_istore_n (lv' := [(1, .int (J (I 0))), (0, .ref o)]) hx hb dX6_clear_4 rfl hl (by decide) rfl (fun ls hl => ?_)
  refine lv_aload_n hx hb dX6_clear_5 rfl (lv_at hl 1 rfl) ?_
  refine lv_iconst (v := J (0)) hx hb dX6_clear_6 rfl ?_
  refine o_put (I' := (va_up I 0 (0))) (ci := 6) (C := RX6) (T := TX6) (N := 28) (ty := .int) hx hb hfX6 (fun _ h9 => h9) tyX6 tyX6_ok nmX6 hown hk hW hS hM hF FP.o rfl 0 (by decide) rfl (hts (.fieldLink RX6 67 "JugsAndGlassesModel" "jugs" "I") (by decide +kernel)) rfl rfl (by decide +kernel) rfl rfl rfl dX6_clear_7 (fun h H locs hM hF hst hW hS => ?_)
  refine lv_iload_n hx hb dX6_clear_10 rfl (lv_at hl 0 rfl) ?_
  exact g_iret hx hb hr hW hS dX6_clear_11 hlocks (⟨hF, rfl, hM⟩)

set_option maxHeartbeats 4000000 in
set_option maxRecDepth 100000 in
theorem m_smash (l : Launch) (g : GX) (base : Nat) (sa : Nat → Nat) (h0 : Hp) (o : Nat) (R : Nat → Nat) (I : Nat → Int) (A : Nat → Int → Int) (hM : OB g 6 28 kd6 h0 o R I mL A) : MC l g base sa yX6_smash wsX6_smash ({ frames := 0, cells := 0, slots := 0, locals := 0 }) ([.ref o]) h0 (fun r h' => Fr (FP 28 kd6 o R) h0 h' ∧ r = some (.int (J (I 5))) ∧ OB g 6 28 kd6 h' o R (va_up I 5 0) mL A) := by
  refine Met.ofW (cc := cX6_smash) (maxL := 2) (ret := (some .int)) (by decide) rfl ?_
  intro p e s m args below meth c s₁ B hml hv
  obtain ⟨rfl, hk, hW⟩ := hv
  have hx := B.exec
  have hb := B.bytes
  have hr := B.returns
  have hts := atoms_spec (ws := wsX6_smash) B.pre
  have hown : s.vm.findClass RX6 = some m.cls := findClass_of_methodNamed B.named
  have hlocks := B.notSynchronized
  have hfX6 : ∀ w ∈ wsX60, w.before ([.ref o]).toArray s = true := fun w h => hts w (List.mem_cons_of_mem _ (List.mem_append_right _ h))
  have hS : va_S (Ab base) s.heap s.heap [] := va_S.rf
  have hl := lv_entry ([.ref o]) (n := 2) (Nat.le_of_ble_eq_true rfl)
  rw [lg_entry_eq]
  generalize (lg_sl ([.ref o]) ++ List.replicate (2 - (lg_sl ([.ref o])).length) Slot.unset).toArray = ls at hl ⊢
  have hl : lv_has ls 2 [(0, .ref o)] := hl
  have hF : Fr (FP 28 kd6 o R) h0 h0 := Fr.rf
  refine lv_aload_n hx hb dX6_smash_0 rfl (lv_at hl 0 rfl) ?_
  refine g_get (ci := 6) (C := RX6) (T := TX6) (N := 28) (v := .int (J (I 5))) hx hb hfX6 (fun _ h9 => h9) hown hk hW hM.1 rfl 5 (by decide) (hts (.fieldLink RX6 155 "JugsAndGlassesModel" "glasses" "I") (by decide +kernel)) rfl rfl dX6_smash_1 ?_
  refine lv_istore_n (lv' := [(1, .int (J (I 5))), (0, .ref o)]) hx hb dX6_smash_4 rfl hl (by decide) rfl (fun ls hl => ?_)
  refine lv_aload_n hx hb dX6_smash_5 rfl (lv_at hl 1 rfl) ?_
  refine lv_iconst (v := J (0)) hx hb dX6_smash_6 rfl ?_
  refine o_put (I' := (va_up I 5 (0))) (ci := 6) (C := RX6) (T := TX6) (N := 28) (ty := .int) hx hb hfX6 (fun _ h9 => h9) tyX6 tyX6_ok nmX6 hown hk hW hS hM hF FP.o rfl 5 (by decide) rfl (hts (.fieldLink RX6 155 "JugsAndGlassesModel" "glasses" "I") (by decide +kernel)) rfl rfl (by decide +kernel) rfl rfl rfl dX6_smash_7 (fun h H locs hM hF hst hW hS => ?_)
  refine lv_iload_n hx hb dX6_smash_10 rfl (lv_at hl 0 rfl) ?_
  exact g_iret hx hb hr hW hS dX6_smash_11 hlocks (⟨hF, rfl, hM⟩)

set_option maxHeartbeats 4000000 in
set_option maxRecDepth 100000 in
theorem m_glass (l : Launch) (g : GX) (base : Nat) (sa : Nat → Nat) (h0 : Hp) (o : Nat) (R : Nat → Nat) (I : Nat → Int) (A : Nat → Int → Int) (a : Int) (hM : OB g 6 28 kd6 h0 o R I mL A) (ha : i32 a) (hn : 0 ≤ I 5 ∧ I 5 ≤ 3) : MC l g base sa yX6_glass wsX6_glass ({ frames := 1, cells := 0, slots := 0, locals := 22 }) ([.ref o, .int (J a)]) h0 (fun r h' => Fr (FP 28 kd6 o R) h0 h' ∧ ((¬ (1 ≤ a ∧ a ≤ 12) ∧ r = some (.int (J (-2))) ∧ OB g 6 28 kd6 h' o R I mL A) ∨ ((1 ≤ a ∧ a ≤ 12) ∧ I 5 = 3 ∧ r = some (.int (J (-4))) ∧ OB g 6 28 kd6 h' o R I mL A) ∨ ((1 ≤ a ∧ a ≤ 12) ∧ I 5 < 3 ∧ r = some (.int (J (I 5))) ∧ OB g 6 28 kd6 h' o R (va_up I 5 (I 5 + 1)) mL (va_up A 6 (uf (A 6) (I 5) a))))) := by
  refine Met.ofW (cc := cX6_glass) (maxL := 2) (ret := (some .int)) (by decide) rfl ?_
  intro p e s m args below meth c s₁ B hml hv
  obtain ⟨rfl, hk, hW⟩ := hv
  have hx := B.exec
  have hb := B.bytes
  have hr := B.returns
  have hts := atoms_spec (ws := wsX6_glass) B.pre
  have hown : s.vm.findClass RX6 = some m.cls := findClass_of_methodNamed B.named
  have hlocks := B.notSynchronized
  have hfX6 : ∀ w ∈ wsX60, w.before ([.ref o, .int (J a)]).toArray s = true := fun w h => hts w (List.mem_cons_of_mem _ (List.mem_append_right _ h))
  have hS : va_S (Ab base) s.heap s.heap [] := va_S.rf
  have hl := lv_entry ([.ref o, .int (J a)]) (n := 2) (Nat.le_of_ble_eq_true rfl)
  rw [lg_entry_eq]
  generalize (lg_sl ([.ref o, .int (J a)]) ++ List.replicate (2 - (lg_sl ([.ref o, .int (J a)])).length) Slot.unset).toArray = ls at hl ⊢
  have hl : lv_has ls 2 [(0, .ref o), (1, .int (J a))] := hl
  have hF : Fr (FP 28 kd6 o R) h0 h0 := Fr.rf
  refine lv_iload_n hx hb dX6_glass_0 rfl (lv_at hl 1 rfl) ?_
  refine lv_iconst (v := J (1)) hx hb dX6_glass_1 rfl ?_
  refine lv_bipush (v := J (12)) hx hb dX6_glass_2 (by decide) ?_
  refine g_callS (As := [.int (J a), .int (J 1), .int (J 12)]) (rest := []) ⟨hx, hb, hml, hown, hts⟩ (m_in l g base sa h0 a 1 12 ha ⟨by decide, by decide⟩ ⟨by decide, by decide⟩) (va_cwS 3 hts gX6_glass_X6_in rfl rfl rfl (by decide +kernel) ⟨Nat.le_of_ble_eq_true rfl, Nat.le_of_ble_eq_true rfl⟩) hk hW hS rfl hl.1 (Nat.le_of_ble_eq_true rfl) dX6_glass_4 ⟨Nat.le_of_ble_eq_true rfl, Nat.le_of_ble_eq_true rfl⟩ (fun r9 h9 H locs hp hW hS => ?_)
  obtain ⟨rfl, e9⟩ := hp
  rw [e9] at hW
  refine W.eq (g2 := F0 m 7 ls [.int (J (p_in a 1 12))]) rfl ?_
  have hpr_7 := p_in_r a 1 12
  refine j_if_ne (x := p_in a 1 12) (tgt := 13) hx hb ⟨by omega, by omega⟩ dX6_glass_7 (by decide) (fun c_7 => ?_) (fun c_7 => ?_)
  · have hq1 := p_in_1 c_7
    refine lv_aload_n hx hb dX6_glass_13 rfl (lv_at hl 0 rfl) ?_
    refine g_get (ci := 6) (C := RX6) (T := TX6) (N := 28) (v := .int (J (I 5))) hx hb hfX6 (fun _ h9 => h9) hown hk hW hM.1 rfl 5 (by decide) (hts (.fieldLink RX6 155 "JugsAndGlassesModel" "glasses" "I") (by decide +kernel)) rfl rfl dX6_glass_14 ?_
    refine lv_iconst (v := J (3)) hx hb dX6_glass_17 rfl ?_
    refine j_icmp_ne (x := I 5) (y := 3) (tgt := 24) hx hb ⟨by omega, by omega⟩ ⟨by decide, by decide⟩ dX6_glass_18 (by decide) (fun c_18 => ?_) (fun c_18 => ?_)
    · refine lv_aload_n hx hb dX6_glass_24 rfl (lv_at hl 0 rfl) ?_
      refine g_get (ci := 6) (C := RX6) (T := TX6) (N := 28) (v := .ref (R 6)) hx hb hfX6 (fun _ h9 => h9) hown hk hW hM.1 rfl 6 (by decide) (hts (.fieldLink RX6 23 "JugsAndGlassesModel" "span" "[I") (by decide +kernel)) rfl rfl dX6_glass_25 ?_
      refine lv_aload_n hx hb dX6_glass_28 rfl (lv_at hl 0 rfl) ?_
      refine g_get (ci := 6) (C := RX6) (T := TX6) (N := 28) (v := .int (J (I 5))) hx hb hfX6 (fun _ h9 => h9) hown hk hW hM.1 rfl 5 (by decide) (hts (.fieldLink RX6 155 "JugsAndGlassesModel" "glasses" "I") (by decide +kernel)) rfl rfl dX6_glass_29 ?_
      refine lv_iload_n hx hb dX6_glass_32 rfl (lv_at hl 1 rfl) ?_
      refine o_iast (A' := (va_up A 6 (uf (A 6) (I 5) a))) (i := I 5) (x := a) hx hb hk hW hS hM hF 6 (by decide) rfl (FP.a 6 (by decide) ⟨by decide, by decide⟩) (by omega) (show I 5 < 3 from by omega) (show 3 < 2147483648 from by omega) rfl dX6_glass_33 (fun h H locs hM hF hst hW hS => ?_)
      refine lv_aload_n hx hb dX6_glass_34 rfl (lv_at hl 0 rfl) ?_
      refine lv_dup hx hb dX6_glass_35 rfl ?_
      refine g_get (ci := 6) (C := RX6) (T := TX6) (N := 28) (v := .int (J (I 5))) hx hb hfX6 (fun _ h9 => h9) hown hk hW hM.1 rfl 5 (by decide) (hts (.fieldLink RX6 155 "JugsAndGlassesModel" "glasses" "I") (by decide +kernel)) rfl rfl dX6_glass_36 ?_
      refine lv_iconst (v := J (1)) hx hb dX6_glass_39 rfl ?_
      refine j_iadd hx hb dX6_glass_40 ?_
      refine o_put (I' := (va_up I 5 ((I 5) + 1))) (ci := 6) (C := RX6) (T := TX6) (N := 28) (ty := .int) hx hb hfX6 (fun _ h9 => h9) tyX6 tyX6_ok nmX6 hown hk hW hS hM hF FP.o rfl 5 (by decide) rfl (hts (.fieldLink RX6 155 "JugsAndGlassesModel" "glasses" "I") (by decide +kernel)) rfl rfl (by decide +kernel) rfl rfl rfl dX6_glass_41 (fun h H locs hM hF hst hW hS => ?_)
      refine lv_aload_n hx hb dX6_glass_44 rfl (lv_at hl 0 rfl) ?_
      refine g_get (ci := 6) (C := RX6) (T := TX6) (N := 28) (v := .int (J ((I 5) + 1))) hx hb hfX6 (fun _ h9 => h9) hown hk hW hM.1 rfl 5 (by decide) (hts (.fieldLink RX6 155 "JugsAndGlassesModel" "glasses" "I") (by decide +kernel)) rfl rfl dX6_glass_45 ?_
      refine lv_iconst (v := J (1)) hx hb dX6_glass_48 rfl ?_
      refine j_isub hx hb dX6_glass_49 ?_
      exact g_iret hx hb hr hW hS dX6_glass_50 hlocks (⟨hF, Or.inr (Or.inr ⟨by omega, by omega, congrArg (fun q : Int => some (Value.int (J q))) (show (I 5 + 1) - 1 = I 5 from by omega), hM⟩)⟩)
    · refine lv_bipush (v := J (-4)) hx hb dX6_glass_21 (by decide) ?_
      exact g_iret hx hb hr hW hS dX6_glass_23 hlocks (⟨hF, Or.inr (Or.inl ⟨by omega, by omega, rfl, hM⟩)⟩)
  · refine lv_bipush (v := J (-2)) hx hb dX6_glass_10 (by decide) ?_
    exact g_iret hx hb hr hW hS dX6_glass_12 hlocks (⟨hF, Or.inl ⟨by have := p_in_0 c_7; omega, rfl, hM⟩⟩)

set_option maxHeartbeats 4000000 in
set_option maxRecDepth 100000 in
theorem m_tryOwn (l : Launch) (g : GX) (base : Nat) (sa : Nat → Nat) (h0 : Hp) (o : Nat) (R : Nat → Nat) (I : Nat → Int) (A : Nat → Int → Int) (hM : OB g 6 28 kd6 h0 o R I mL A) (hn : 0 ≤ I 0 ∧ I 0 ≤ 4) (h3 : I 3 = 0 ∨ I 3 = 1) (h4 : I 4 = 0 ∨ I 4 = 1) : MC l g base sa yX6_tryOwn wsX6_tryOwn ({ frames := 0, cells := 0, slots := 0, locals := 0 }) ([.ref o]) h0 (fun r h' => r = none ∧ Fr (FP 28 kd6 o R) h0 h' ∧ OB g 6 28 kd6 h' o R (va_up (va_up (va_up I 7 (I 0)) 10 (I 3)) 11 (I 4)) mL (va_up (va_up A 8 (cpN (I 0) (A 1) (A 8))) 9 (cpN (I 0) (A 2) (A 9)))) := by
  refine Met.ofW (cc := cX6_tryOwn) (maxL := 2) (ret := none) (by decide) rfl ?_
  intro p e s m args below meth c s₁ B hml hv
  obtain ⟨rfl, hk, hW⟩ := hv
  have hx := B.exec
  have hb := B.bytes
  have hr := B.returns
  have hts := atoms_spec (ws := wsX6_tryOwn) B.pre
  have hown : s.vm.findClass RX6 = some m.cls := findClass_of_methodNamed B.named
  have hlocks := B.notSynchronized
  have hfX6 : ∀ w ∈ wsX60, w.before ([.ref o]).toArray s = true := fun w h => hts w (List.mem_cons_of_mem _ (List.mem_append_right _ h))
  have hS : va_S (Ab base) s.heap s.heap [] := va_S.rf
  have hl := lv_entry ([.ref o]) (n := 2) (Nat.le_of_ble_eq_true rfl)
  rw [lg_entry_eq]
  generalize (lg_sl ([.ref o]) ++ List.replicate (2 - (lg_sl ([.ref o])).length) Slot.unset).toArray = ls at hl ⊢
  have hl : lv_has ls 2 [(0, .ref o)] := hl
  have hF : Fr (FP 28 kd6 o R) h0 h0 := Fr.rf
  refine lv_aload_n hx hb dX6_tryOwn_0 rfl (lv_at hl 0 rfl) ?_
  refine lv_aload_n hx hb dX6_tryOwn_1 rfl (lv_at hl 0 rfl) ?_
  refine g_get (ci := 6) (C := RX6) (T := TX6) (N := 28) (v := .int (J (I 0))) hx hb hfX6 (fun _ h9 => h9) hown hk hW hM.1 rfl 0 (by decide) (hts (.fieldLink RX6 67 "JugsAndGlassesModel" "jugs" "I") (by decide +kernel)) rfl rfl dX6_tryOwn_2 ?_
  refine o_put (I' := (va_up I 7 (I 0))) (ci := 6) (C := RX6) (T := TX6) (N := 28) (ty := .int) hx hb hfX6 (fun _ h9 => h9) tyX6 tyX6_ok nmX6 hown hk hW hS hM hF FP.o rfl 7 (by decide) rfl (hts (.fieldLink RX6 79 "JugsAndGlassesModel" "tried" "I") (by decide +kernel)) rfl rfl (by decide +kernel) rfl rfl rfl dX6_tryOwn_5 (fun h H locs hM hF hst hW hS => ?_)
  refine lv_aload_n hx hb dX6_tryOwn_8 rfl (lv_at hl 0 rfl) ?_
  refine lv_aload_n hx hb dX6_tryOwn_9 rfl (lv_at hl 0 rfl) ?_
  refine g_get (ci := 6) (C := RX6) (T := TX6) (N := 28) (v := .int (J (I 3))) hx hb hfX6 (fun _ h9 => h9) hown hk hW hM.1 rfl 3 (by decide) (hts (.fieldLink RX6 16 "JugsAndGlassesModel" "hasTap" "Z") (by decide +kernel)) rfl rfl dX6_tryOwn_10 ?_
  refine o_put (I' := (va_up (va_up I 7 (I 0)) 10 (I 3))) (ci := 6) (C := RX6) (T := TX6) (N := 28) (ty := .boolean) hx hb hfX6 (fun _ h9 => h9) tyX6 tyX6_ok nmX6 hown hk hW hS hM hF FP.o rfl 10 (by decide) rfl (hts (.fieldLink RX6 82 "JugsAndGlassesModel" "tap" "Z") (by decide +kernel)) rfl rfl (by decide +kernel) (nb_n (h3)) (nb_f (h3)) rfl dX6_tryOwn_13 (fun h H locs hM hF hst hW hS => ?_)
  refine lv_aload_n hx hb dX6_tryOwn_16 rfl (lv_at hl 0 rfl) ?_
  refine lv_aload_n hx hb dX6_tryOwn_17 rfl (lv_at hl 0 rfl) ?_
  refine g_get (ci := 6) (C := RX6) (T := TX6) (N := 28) (v := .int (J (I 4))) hx hb hfX6 (fun _ h9 => h9) hown hk hW hM.1 rfl 4 (by decide) (hts (.fieldLink RX6 20 "JugsAndGlassesModel" "hasDrain" "Z") (by decide +kernel)) rfl rfl dX6_tryOwn_18 ?_
  refine o_put (I' := (va_up (va_up (va_up I 7 (I 0)) 10 (I 3)) 11 (I 4))) (ci := 6) (C := RX6) (T := TX6) (N := 28) (ty := .boolean) hx hb hfX6 (fun _ h9 => h9) tyX6 tyX6_ok nmX6 hown hk hW hS hM hF FP.o rfl 11 (by decide) rfl (hts (.fieldLink RX6 85 "JugsAndGlassesModel" "drain" "Z") (by decide +kernel)) rfl rfl (by decide +kernel) (nb_n (h4)) (nb_f (h4)) rfl dX6_tryOwn_21 (fun h H locs hM hF hst hW hS => ?_)
  refine lv_iconst (v := J (0)) hx hb dX6_tryOwn_24 rfl ?_
  refine lv_istore_n (lv' := [(1, .int (J 0)), (0, .ref o)]) hx hb dX6_tryOwn_25 rfl hl (by decide) rfl (fun ls hl => ?_)
  have loop_26 : ∀ (n : Nat) (i : Int) (f : Int → Int) (f2 : Int → Int) (h : Hp) (H : Heap) (locs : List Loc) (ls : Array Slot), I 0 - i < (n : Int) → (0 ≤ i ∧ i ≤ I 0) → (f = cpN i (A 1) (A 8)) → (f2 = cpN i (A 2) (A 9)) → (OB g 6 28 kd6 h o R (va_up (va_up (va_up I 7 (I 0)) 10 (I 3)) 11 (I 4)) mL (va_up (va_up A 8 (f)) 9 (f2))) → (Fr (FP 28 kd6 o R) h0 h) → (Wd g base h H) → (va_S (Ab base) s.heap H locs) → (lv_has ls 2 [(0, .ref o), (1, .int (J i))]) → W p l e (headSpec wsX6_tryOwn ({ frames := 0, cells := 0, slots := 0, locals := 0 })).room s m ([.ref o]).toArray below meth c H locs 0 0 (MQ below (QcM g base (fun r h' => r = none ∧ Fr (FP 28 kd6 o R) h0 h' ∧ OB g 6 28 kd6 h' o R (va_up (va_up (va_up I 7 (I 0)) 10 (I 3)) 11 (I 4)) mL (va_up (va_up A 8 (cpN (I 0) (A 1) (A 8))) 9 (cpN (I 0) (A 2) (A 9))))) ([.ref o]).toArray s (0) (0) (Ab base)) (F0 m 26 ls []) := by
    intro n
    induction n with
    | zero =>
      intro i f f2 h H locs ls hmu hi ef ef2 hM hF hW hS hl
      exact absurd hmu (by omega)
    | succ n ih =>
      intro i f f2 h H locs ls hmu hi ef ef2 hM hF hW hS hl
      have ih_26 := ih
      refine lv_iload_n hx hb dX6_tryOwn_26 rfl (lv_at hl 1 rfl) ?_
      refine lv_aload_n hx hb dX6_tryOwn_27 rfl (lv_at hl 0 rfl) ?_
      refine g_get (ci := 6) (C := RX6) (T := TX6) (N := 28) (v := .int (J (I 0))) hx hb hfX6 (fun _ h9 => h9) hown hk hW hM.1 rfl 0 (by decide) (hts (.fieldLink RX6 67 "JugsAndGlassesModel" "jugs" "I") (by decide +kernel)) rfl rfl dX6_tryOwn_28 ?_
      refine j_icmp_ge (x := i) (y := I 0) (tgt := 64) hx hb ⟨by omega, by omega⟩ ⟨by omega, by omega⟩ dX6_tryOwn_31 (by decide) (fun c_31 => ?_) (fun c_31 => ?_)
      · exact g_vret hx hb hr hW hS dX6_tryOwn_64 hlocks (⟨rfl, hF, by have e9 : i = I 0 := (by omega); rw [← e9, ← ef, ← ef2, e9]; exact hM⟩)
      · refine lv_aload_n hx hb dX6_tryOwn_34 rfl (lv_at hl 0 rfl) ?_
        refine g_get (ci := 6) (C := RX6) (T := TX6) (N := 28) (v := .ref (R 8)) hx hb hfX6 (fun _ h9 => h9) hown hk hW hM.1 rfl 8 (by decide) (hts (.fieldLink RX6 26 "JugsAndGlassesModel" "room" "[I") (by decide +kernel)) rfl rfl dX6_tryOwn_35 ?_
        refine lv_iload_n hx hb dX6_tryOwn_38 rfl (lv_at hl 1 rfl) ?_
        refine lv_aload_n hx hb dX6_tryOwn_39 rfl (lv_at hl 0 rfl) ?_
        refine g_get (ci := 6) (C := RX6) (T := TX6) (N := 28) (v := .ref (R 1)) hx hb hfX6 (fun _ h9 => h9) hown hk hW hM.1 rfl 1 (by decide) (hts (.fieldLink RX6 7 "JugsAndGlassesModel" "size" "[I") (by decide +kernel)) rfl rfl dX6_tryOwn_40 ?_
        refine lv_iload_n hx hb dX6_tryOwn_43 rfl (lv_at hl 1 rfl) ?_
        refine g_iald (n := 4) (f := A 1) (i := i) hx hb hk hW (hM.ai 1 (by decide) rfl) (by omega) (by omega) (by omega) dX6_tryOwn_44 ?_
        refine o_iast (A' := (va_up (va_up A 9 (f2)) 8 (uf f i (A 1 i)))) (i := i) (x := A 1 i) hx hb hk hW hS hM hF 8 (by decide) rfl (FP.a 8 (by decide) ⟨by decide, by decide⟩) (by omega) (show i < 4 from by omega) (show 4 < 2147483648 from by omega) (by funext j9; by_cases q9 : j9 = 8 <;> simp [q9, va_up]) dX6_tryOwn_45 (fun h H locs hM hF hst hW hS => ?_)
        refine lv_aload_n hx hb dX6_tryOwn_46 rfl (lv_at hl 0 rfl) ?_
        refine g_get (ci := 6) (C := RX6) (T := TX6) (N := 28) (v := .ref (R 9)) hx hb hfX6 (fun _ h9 => h9) hown hk hW hM.1 rfl 9 (by decide) (hts (.fieldLink RX6 29 "JugsAndGlassesModel" "has" "[I") (by decide +kernel)) rfl rfl dX6_tryOwn_47 ?_
        refine lv_iload_n hx hb dX6_tryOwn_50 rfl (lv_at hl 1 rfl) ?_
        refine lv_aload_n hx hb dX6_tryOwn_51 rfl (lv_at hl 0 rfl) ?_
        refine g_get (ci := 6) (C := RX6) (T := TX6) (N := 28) (v := .ref (R 2)) hx hb hfX6 (fun _ h9 => h9) hown hk hW hM.1 rfl 2 (by decide) (hts (.fieldLink RX6 13 "JugsAndGlassesModel" "held" "[I") (by decide +kernel)) rfl rfl dX6_tryOwn_52 ?_
        refine lv_iload_n hx hb dX6_tryOwn_55 rfl (lv_at hl 1 rfl) ?_
        refine g_iald (n := 4) (f := A 2) (i := i) hx hb hk hW (hM.ai 2 (by decide) rfl) (by omega) (by omega) (by omega) dX6_tryOwn_56 ?_
        refine o_iast (A' := (va_up (va_up A 8 (uf f i (A 1 i))) 9 (uf f2 i (A 2 i)))) (i := i) (x := A 2 i) hx hb hk hW hS hM hF 9 (by decide) rfl (FP.a 9 (by decide) ⟨by decide, by decide⟩) (by omega) (show i < 4 from by omega) (show 4 < 2147483648 from by omega) (by funext j9; by_cases q9 : j9 = 9 <;> simp [q9, va_up]) dX6_tryOwn_57 (fun h H locs hM hF hst hW hS => ?_)
        refine lv_iinc (v := J (i + 1)) (lv' := [(1, .int (J (i + 1))), (0, .ref o)]) hx hb dX6_tryOwn_58 hl (k := 1) rfl (J_inc (by omega)) (by decide) rfl (fun ls hl => ?_)
        refine lv_goto (tgt := 26) hx hb dX6_tryOwn_61 (by decide) ?_
        exact ih_26 (i + 1) (uf f i (A 1 i)) (uf f2 i (A 2 i)) h H locs ls (by omega) (by omega) (by rw [ef, cpN_s _ _ hi.1]) (by rw [ef2, cpN_s _ _ hi.1]) hM hF hW hS (lv_sub hl [1, 0] rfl)
  exact loop_26 ((I 0).toNat + 1) 0 (A 8) (A 9) h H locs ls (by omega) (by omega) ((cpN_0 _ _).symm) ((cpN_0 _ _).symm) (by rw [va_up_id, va_up_id]; exact hM) hF hW hS (lv_sub hl [1, 0] rfl)

set_option maxHeartbeats 4000000 in
set_option maxRecDepth 100000 in
theorem m_numberOf (l : Launch) (g : GX) (base : Nat) (sa : Nat → Nat) (h0 : Hp) (o : Nat) (R : Nat → Nat) (I : Nat → Int) (A : Nat → Int → Int) (hM : OB g 6 28 kd6 h0 o R I mL A) (hn : 0 ≤ I 7 ∧ I 7 ≤ 4) : MC l g base sa yX6_numberOf wsX6_numberOf ({ frames := 0, cells := 0, slots := 0, locals := 0 }) ([.ref o]) h0 (fun r h' => r = some (.int (J (nT (A 8) (A 9) (I 7)))) ∧ h' = h0) := by
  refine Met.ofW (cc := cX6_numberOf) (maxL := 3) (ret := (some .int)) (by decide) rfl ?_
  intro p e s m args below meth c s₁ B hml hv
  obtain ⟨rfl, hk, hW⟩ := hv
  have hx := B.exec
  have hb := B.bytes
  have hr := B.returns
  have hts := atoms_spec (ws := wsX6_numberOf) B.pre
  have hown : s.vm.findClass RX6 = some m.cls := findClass_of_methodNamed B.named
  have hlocks := B.notSynchronized
  have hfX6 : ∀ w ∈ wsX60, w.before ([.ref o]).toArray s = true := fun w h => hts w (List.mem_cons_of_mem _ (List.mem_append_right _ h))
  have hS : va_S (Ab base) s.heap s.heap [] := va_S.rf
  have hl := lv_entry ([.ref o]) (n := 3) (Nat.le_of_ble_eq_true rfl)
  rw [lg_entry_eq]
  generalize (lg_sl ([.ref o]) ++ List.replicate (3 - (lg_sl ([.ref o])).length) Slot.unset).toArray = ls at hl ⊢
  have hl : lv_has ls 3 [(0, .ref o)] := hl
  refine lv_iconst (v := J (0)) hx hb dX6_numberOf_0 rfl ?_
  refine lv_istore_n (lv' := [(1, .int (J 0)), (0, .ref o)]) hx hb dX6_numberOf_1 rfl hl (by decide) rfl (fun ls hl => ?_)
  refine lv_iconst (v := J (0)) hx hb dX6_numberOf_2 rfl ?_
  refine lv_istore_n (lv' := [(2, .int (J 0)), (1, .int (J 0)), (0, .ref o)]) hx hb dX6_numberOf_3 rfl hl (by decide) rfl (fun ls hl => ?_)
  have loop_4 : ∀ (n : Nat) (i : Int) (z : Int) (h : Hp) (H : Heap) (locs : List Loc) (ls : Array Slot), I 7 - i < (n : Int) → (0 ≤ i ∧ i ≤ I 7) → (z = nT (A 8) (A 9) i) → (h = h0) → (OB g 6 28 kd6 h o R I mL A) → (Wd g base h H) → (va_S (Ab base) s.heap H locs) → (lv_has ls 3 [(0, .ref o), (1, .int (J z)), (2, .int (J i))]) → W p l e (headSpec wsX6_numberOf ({ frames := 0, cells := 0, slots := 0, locals := 0 })).room s m ([.ref o]).toArray below meth c H locs 0 0 (MQ below (QcM g base (fun r h' => r = some (.int (J (nT (A 8) (A 9) (I 7)))) ∧ h' = h0)) ([.ref o]).toArray s (0) (0) (Ab base)) (F0 m 4 ls []) := by
    intro n
    induction n with
    | zero =>
      intro i z h H locs ls hmu hi ez eh hM hW hS hl
      exact absurd hmu (by omega)
    | succ n ih =>
      intro i z h H locs ls hmu hi ez eh hM hW hS hl
      have ih_4 := ih
      refine lv_iload_n hx hb dX6_numberOf_4 rfl (lv_at hl 2 rfl) ?_
      refine lv_aload_n hx hb dX6_numberOf_5 rfl (lv_at hl 0 rfl) ?_
      refine g_get (ci := 6) (C := RX6) (T := TX6) (N := 28) (v := .int (J (I 7))) hx hb hfX6 (fun _ h9 => h9) hown hk hW hM.1 rfl 7 (by decide) (hts (.fieldLink RX6 79 "JugsAndGlassesModel" "tried" "I") (by decide +kernel)) rfl rfl dX6_numberOf_6 ?_
      refine j_icmp_ge (x := i) (y := I 7) (tgt := 36) hx hb ⟨by omega, by omega⟩ ⟨by omega, by omega⟩ dX6_numberOf_9 (by decide) (fun c_9 => ?_) (fun c_9 => ?_)
      · refine lv_iload_n hx hb dX6_numberOf_36 rfl (lv_at hl 1 rfl) ?_
        exact g_iret hx hb hr hW hS dX6_numberOf_37 hlocks (⟨congrArg (fun q : Int => some (Value.int (J q))) (show z = nT (A 8) (A 9) (I 7) from by rw [ez]; congr 1; omega), eh⟩)
      · refine lv_iload_n hx hb dX6_numberOf_12 rfl (lv_at hl 1 rfl) ?_
        refine lv_aload_n hx hb dX6_numberOf_13 rfl (lv_at hl 0 rfl) ?_
        refine g_get (ci := 6) (C := RX6) (T := TX6) (N := 28) (v := .ref (R 8)) hx hb hfX6 (fun _ h9 => h9) hown hk hW hM.1 rfl 8 (by decide) (hts (.fieldLink RX6 26 "JugsAndGlassesModel" "room" "[I") (by decide +kernel)) rfl rfl dX6_numberOf_14 ?_
        refine lv_iload_n hx hb dX6_numberOf_17 rfl (lv_at hl 2 rfl) ?_
        refine g_iald (n := 4) (f := A 8) (i := i) hx hb hk hW (hM.ai 8 (by decide) rfl) (by omega) (by omega) (by omega) dX6_numberOf_18 ?_
        refine lv_iconst (v := J (1)) hx hb dX6_numberOf_19 rfl ?_
        refine j_iadd hx hb dX6_numberOf_20 ?_
        refine j_imul hx hb dX6_numberOf_21 ?_
        refine lv_aload_n hx hb dX6_numberOf_22 rfl (lv_at hl 0 rfl) ?_
        refine g_get (ci := 6) (C := RX6) (T := TX6) (N := 28) (v := .ref (R 9)) hx hb hfX6 (fun _ h9 => h9) hown hk hW hM.1 rfl 9 (by decide) (hts (.fieldLink RX6 29 "JugsAndGlassesModel" "has" "[I") (by decide +kernel)) rfl rfl dX6_numberOf_23 ?_
        refine lv_iload_n hx hb dX6_numberOf_26 rfl (lv_at hl 2 rfl) ?_
        refine g_iald (n := 4) (f := A 9) (i := i) hx hb hk hW (hM.ai 9 (by decide) rfl) (by omega) (by omega) (by omega) dX6_numberOf_27 ?_
        refine j_iadd hx hb dX6_numberOf_28 ?_
        refine lv_istore_n (lv' := [(1, .int (J ((z * ((A 8 i) + 1)) + (A 9 i)))), (0, .ref o), (2, .int (J i))]) hx hb dX6_numberOf_29 rfl hl (by decide) rfl (fun ls hl => ?_)
        refine lv_iinc (v := J (i + 1)) (lv' := [(2, .int (J (i + 1))), (1, .int (J ((z * ((A 8 i) + 1)) + (A 9 i)))), (0, .ref o)]) hx hb dX6_numberOf_30 hl (k := 2) rfl (J_inc (by omega)) (by decide) rfl (fun ls hl => ?_)
        refine lv_goto (tgt := 4) hx hb dX6_numberOf_33 (by decide) ?_
        exact ih_4 (i + 1) ((z * ((A 8 i) + 1)) + (A 9 i)) h H locs ls (by omega) (by omega) (by rw [nT_s _ _ hi.1, ez]) eh hM hW hS (lv_sub hl [2, 1, 0] rfl)
  exact loop_4 ((I 7).toNat + 1) 0 0 h0 s.heap [] ls (by omega) (by omega) rfl rfl hM hW hS (lv_sub hl [2, 1, 0] rfl)

set_option maxHeartbeats 4000000 in
set_option maxRecDepth 100000 in
theorem m_stateMany (l : Launch) (g : GX) (base : Nat) (sa : Nat → Nat) (h0 : Hp) (o : Nat) (R : Nat → Nat) (I : Nat → Int) (A : Nat → Int → Int) (hM : OB g 6 28 kd6 h0 o R I mL A) (hn : 0 ≤ I 7 ∧ I 7 ≤ 4) : MC l g base sa yX6_stateMany wsX6_stateMany ({ frames := 0, cells := 0, slots := 0, locals := 0 }) ([.ref o]) h0 (fun r h' => r = some (.int (J (mT (A 8) (I 7)))) ∧ h' = h0) := by
  refine Met.ofW (cc := cX6_stateMany) (maxL := 3) (ret := (some .int)) (by decide) rfl ?_
  intro p e s m args below meth c s₁ B hml hv
  obtain ⟨rfl, hk, hW⟩ := hv
  have hx := B.exec
  have hb := B.bytes
  have hr := B.returns
  have hts := atoms_spec (ws := wsX6_stateMany) B.pre
  have hown : s.vm.findClass RX6 = some m.cls := findClass_of_methodNamed B.named
  have hlocks := B.notSynchronized
  have hfX6 : ∀ w ∈ wsX60, w.before ([.ref o]).toArray s = true := fun w h => hts w (List.mem_cons_of_mem _ (List.mem_append_right _ h))
  have hS : va_S (Ab base) s.heap s.heap [] := va_S.rf
  have hl := lv_entry ([.ref o]) (n := 3) (Nat.le_of_ble_eq_true rfl)
  rw [lg_entry_eq]
  generalize (lg_sl ([.ref o]) ++ List.replicate (3 - (lg_sl ([.ref o])).length) Slot.unset).toArray = ls at hl ⊢
  have hl : lv_has ls 3 [(0, .ref o)] := hl
  refine lv_iconst (v := J (1)) hx hb dX6_stateMany_0 rfl ?_
  refine lv_istore_n (lv' := [(1, .int (J 1)), (0, .ref o)]) hx hb dX6_stateMany_1 rfl hl (by decide) rfl (fun ls hl => ?_)
  refine lv_iconst (v := J (0)) hx hb dX6_stateMany_2 rfl ?_
  refine lv_istore_n (lv' := [(2, .int (J 0)), (1, .int (J 1)), (0, .ref o)]) hx hb dX6_stateMany_3 rfl hl (by decide) rfl (fun ls hl => ?_)
  have loop_4 : ∀ (n : Nat) (i : Int) (z : Int) (h : Hp) (H : Heap) (locs : List Loc) (ls : Array Slot), I 7 - i < (n : Int) → (0 ≤ i ∧ i ≤ I 7) → (z = mT (A 8) i) → (h = h0) → (OB g 6 28 kd6 h o R I mL A) → (Wd g base h H) → (va_S (Ab base) s.heap H locs) → (lv_has ls 3 [(0, .ref o), (1, .int (J z)), (2, .int (J i))]) → W p l e (headSpec wsX6_stateMany ({ frames := 0, cells := 0, slots := 0, locals := 0 })).room s m ([.ref o]).toArray below meth c H locs 0 0 (MQ below (QcM g base (fun r h' => r = some (.int (J (mT (A 8) (I 7)))) ∧ h' = h0)) ([.ref o]).toArray s (0) (0) (Ab base)) (F0 m 4 ls []) := by
    intro n
    induction n with
    | zero =>
      intro i z h H locs ls hmu hi ez eh hM hW hS hl
      exact absurd hmu (by omega)
    | succ n ih =>
      intro i z h H locs ls hmu hi ez eh hM hW hS hl
      have ih_4 := ih
      refine lv_iload_n hx hb dX6_stateMany_4 rfl (lv_at hl 2 rfl) ?_
      refine lv_aload_n hx hb dX6_stateMany_5 rfl (lv_at hl 0 rfl) ?_
      refine g_get (ci := 6) (C := RX6) (T := TX6) (N := 28) (v := .int (J (I 7))) hx hb hfX6 (fun _ h9 => h9) hown hk hW hM.1 rfl 7 (by decide) (hts (.fieldLink RX6 79 "JugsAndGlassesModel" "tried" "I") (by decide +kernel)) rfl rfl dX6_stateMany_6 ?_
      refine j_icmp_ge (x := i) (y := I 7) (tgt := 29) hx hb ⟨by omega, by omega⟩ ⟨by omega, by omega⟩ dX6_stateMany_9 (by decide) (fun c_9 => ?_) (fun c_9 => ?_)
      · refine lv_iload_n hx hb dX6_stateMany_29 rfl (lv_at hl 1 rfl) ?_
        exact g_iret hx hb hr hW hS dX6_stateMany_30 hlocks (⟨congrArg (fun q : Int => some (Value.int (J q))) (show z = mT (A 8) (I 7) from by rw [ez]; congr 1; omega), eh⟩)
      · refine lv_iload_n hx hb dX6_stateMany_12 rfl (lv_at hl 1 rfl) ?_
        refine lv_aload_n hx hb dX6_stateMany_13 rfl (lv_at hl 0 rfl) ?_
        refine g_get (ci := 6) (C := RX6) (T := TX6) (N := 28) (v := .ref (R 8)) hx hb hfX6 (fun _ h9 => h9) hown hk hW hM.1 rfl 8 (by decide) (hts (.fieldLink RX6 26 "JugsAndGlassesModel" "room" "[I") (by decide +kernel)) rfl rfl dX6_stateMany_14 ?_
        refine lv_iload_n hx hb dX6_stateMany_17 rfl (lv_at hl 2 rfl) ?_
        refine g_iald (n := 4) (f := A 8) (i := i) hx hb hk hW (hM.ai 8 (by decide) rfl) (by omega) (by omega) (by omega) dX6_stateMany_18 ?_
        refine lv_iconst (v := J (1)) hx hb dX6_stateMany_19 rfl ?_
        refine j_iadd hx hb dX6_stateMany_20 ?_
        refine j_imul hx hb dX6_stateMany_21 ?_
        refine lv_istore_n (lv' := [(1, .int (J (z * ((A 8 i) + 1)))), (0, .ref o), (2, .int (J i))]) hx hb dX6_stateMany_22 rfl hl (by decide) rfl (fun ls hl => ?_)
        refine lv_iinc (v := J (i + 1)) (lv' := [(2, .int (J (i + 1))), (1, .int (J (z * ((A 8 i) + 1)))), (0, .ref o)]) hx hb dX6_stateMany_23 hl (k := 2) rfl (J_inc (by omega)) (by decide) rfl (fun ls hl => ?_)
        refine lv_goto (tgt := 4) hx hb dX6_stateMany_26 (by decide) ?_
        exact ih_4 (i + 1) (z * ((A 8 i) + 1)) h H locs ls (by omega) (by omega) (by rw [mT_s _ hi.1, ez]) eh hM hW hS (lv_sub hl [2, 1, 0] rfl)
  exact loop_4 ((I 7).toNat + 1) 0 1 h0 s.heap [] ls (by omega) (by omega) rfl rfl hM hW hS (lv_sub hl [2, 1, 0] rfl)

set_option maxHeartbeats 4000000 in
set_option maxRecDepth 100000 in
theorem m_layState (l : Launch) (g : GX) (base : Nat) (sa : Nat → Nat) (h0 : Hp) (o : Nat) (R : Nat → Nat) (I : Nat → Int) (A : Nat → Int → Int) (x : Int) (hM : OB g 6 28 kd6 h0 o R I mL A) (ha : 0 ≤ x ∧ x < 2147483648) (hn : 0 ≤ I 7 ∧ I 7 ≤ 4) (hs : ∀ i, 0 ≤ i → i < I 7 → 1 ≤ A 8 i ∧ A 8 i ≤ 10) : MC l g base sa yX6_layState wsX6_layState ({ frames := 0, cells := 0, slots := 0, locals := 0 }) ([.ref o, .int (J x)]) h0 (fun r h' => r = none ∧ Fr (FP 28 kd6 o R) h0 h' ∧ OB g 6 28 kd6 h' o R I mL (va_up A 9 (p_lay (I 7) (A 8) (A 9) x))) := by
  refine Met.ofW (cc := cX6_layState) (maxL := 4) (ret := none) (by decide) rfl ?_
  intro p e s m args below meth c s₁ B hml hv
  obtain ⟨rfl, hk, hW⟩ := hv
  have hx := B.exec
  have hb := B.bytes
  have hr := B.returns
  have hts := atoms_spec (ws := wsX6_layState) B.pre
  have hown : s.vm.findClass RX6 = some m.cls := findClass_of_methodNamed B.named
  have hlocks := B.notSynchronized
  have hfX6 : ∀ w ∈ wsX60, w.before ([.ref o, .int (J x)]).toArray s = true := fun w h => hts w (List.mem_cons_of_mem _ (List.mem_append_right _ h))
  have hS : va_S (Ab base) s.heap s.heap [] := va_S.rf
  have hl := lv_entry ([.ref o, .int (J x)]) (n := 4) (Nat.le_of_ble_eq_true rfl)
  rw [lg_entry_eq]
  generalize (lg_sl ([.ref o, .int (J x)]) ++ List.replicate (4 - (lg_sl ([.ref o, .int (J x)])).length) Slot.unset).toArray = ls at hl ⊢
  have hl : lv_has ls 4 [(0, .ref o), (1, .int (J x))] := hl
  have hF : Fr (FP 28 kd6 o R) h0 h0 := Fr.rf
  refine lv_iload_n hx hb dX6_layState_0 rfl (lv_at hl 1 rfl) ?_
  refine lv_istore_n (lv' := [(2, .int (J x)), (0, .ref o), (1, .int (J x))]) hx hb dX6_layState_1 rfl hl (by decide) rfl (fun ls hl => ?_)
  refine lv_aload_n hx hb dX6_layState_2 rfl (lv_at hl 1 rfl) ?_
  refine g_get (ci := 6) (C := RX6) (T := TX6) (N := 28) (v := .int (J (I 7))) hx hb hfX6 (fun _ h9 => h9) hown hk hW hM.1 rfl 7 (by decide) (hts (.fieldLink RX6 79 "JugsAndGlassesModel" "tried" "I") (by decide +kernel)) rfl rfl dX6_layState_3 ?_
  refine lv_iconst (v := J (1)) hx hb dX6_layState_6 rfl ?_
  refine j_isub hx hb dX6_layState_7 ?_
  refine lv_istore_n (lv' := [(3, .int (J ((I 7) - 1))), (2, .int (J x)), (0, .ref o), (1, .int (J x))]) hx hb dX6_layState_8 rfl hl (by decide) rfl (fun ls hl => ?_)
  have loop_9 : ∀ (n : Nat) (i : Int) (f : Int → Int) (z : Int) (h : Hp) (H : Heap) (locs : List Loc) (ls : Array Slot), i + 1 < (n : Int) → (-1 ≤ i ∧ i < I 7) → (f = p_layI (I 7) (i + 1) (A 8) (A 9) x) → (z = rT (rv (I 7) (A 8)) x (I 7 - 1 - i)) → (0 ≤ z ∧ z < 2147483648) → (OB g 6 28 kd6 h o R I mL (va_up A 9 (f))) → (Fr (FP 28 kd6 o R) h0 h) → (Wd g base h H) → (va_S (Ab base) s.heap H locs) → (lv_has ls 4 [(0, .ref o), (1, .int (J x)), (2, .int (J z)), (3, .int (J i))]) → W p l e (headSpec wsX6_layState ({ frames := 0, cells := 0, slots := 0, locals := 0 })).room s m ([.ref o, .int (J x)]).toArray below meth c H locs 0 0 (MQ below (QcM g base (fun r h' => r = none ∧ Fr (FP 28 kd6 o R) h0 h' ∧ OB g 6 28 kd6 h' o R I mL (va_up A 9 (p_lay (I 7) (A 8) (A 9) x)))) ([.ref o, .int (J x)]).toArray s (0) (0) (Ab base)) (F0 m 9 ls []) := by
    intro n
    induction n with
    | zero =>
      intro i f z h H locs ls hmu hi ef ez hz hM hF hW hS hl
      exact absurd hmu (by omega)
    | succ n ih =>
      intro i f z h H locs ls hmu hi ef ez hz hM hF hW hS hl
      have ih_9 := ih
      refine lv_iload_n hx hb dX6_layState_9 rfl (lv_at hl 3 rfl) ?_
      refine j_if_lt (x := i) (tgt := 46) hx hb ⟨by omega, by omega⟩ dX6_layState_10 (by decide) (fun c_10 => ?_) (fun c_10 => ?_)
      · exact g_vret hx hb hr hW hS dX6_layState_46 hlocks (⟨rfl, hF, by have e9 : i + 1 = 0 := (by omega); rw [e9] at ef; unfold p_lay; rw [← ef]; exact hM⟩)
      · have hsi := hs i (by omega) (by omega)
        refine lv_aload_n hx hb dX6_layState_13 rfl (lv_at hl 0 rfl) ?_
        refine g_get (ci := 6) (C := RX6) (T := TX6) (N := 28) (v := .ref (R 9)) hx hb hfX6 (fun _ h9 => h9) hown hk hW hM.1 rfl 9 (by decide) (hts (.fieldLink RX6 29 "JugsAndGlassesModel" "has" "[I") (by decide +kernel)) rfl rfl dX6_layState_14 ?_
        refine lv_iload_n hx hb dX6_layState_17 rfl (lv_at hl 3 rfl) ?_
        refine lv_iload_n hx hb dX6_layState_18 rfl (lv_at hl 2 rfl) ?_
        refine lv_aload_n hx hb dX6_layState_19 rfl (lv_at hl 0 rfl) ?_
        refine g_get (ci := 6) (C := RX6) (T := TX6) (N := 28) (v := .ref (R 8)) hx hb hfX6 (fun _ h9 => h9) hown hk hW hM.1 rfl 8 (by decide) (hts (.fieldLink RX6 26 "JugsAndGlassesModel" "room" "[I") (by decide +kernel)) rfl rfl dX6_layState_20 ?_
        refine lv_iload_n hx hb dX6_layState_23 rfl (lv_at hl 3 rfl) ?_
        refine g_iald (n := 4) (f := A 8) (i := i) hx hb hk hW (hM.ai 8 (by decide) rfl) (by omega) (by omega) (by omega) dX6_layState_24 ?_
        refine lv_iconst (v := J (1)) hx hb dX6_layState_25 rfl ?_
        refine j_iadd hx hb dX6_layState_26 ?_
        refine j_irem hx hb (by omega) (by omega) (by omega) (by omega) dX6_layState_27 ?_
        refine o_iast (A' := (va_up A 9 (uf f i (z % ((A 8 i) + 1))))) (i := i) (x := z % ((A 8 i) + 1)) hx hb hk hW hS hM hF 9 (by decide) rfl (FP.a 9 (by decide) ⟨by decide, by decide⟩) (by omega) (show i < 4 from by omega) (show 4 < 2147483648 from by omega) (bx_uu _ _ _ _) dX6_layState_28 (fun h H locs hM hF hst hW hS => ?_)
        refine lv_iload_n hx hb dX6_layState_29 rfl (lv_at hl 2 rfl) ?_
        refine lv_aload_n hx hb dX6_layState_30 rfl (lv_at hl 0 rfl) ?_
        refine g_get (ci := 6) (C := RX6) (T := TX6) (N := 28) (v := .ref (R 8)) hx hb hfX6 (fun _ h9 => h9) hown hk hW hM.1 rfl 8 (by decide) (hts (.fieldLink RX6 26 "JugsAndGlassesModel" "room" "[I") (by decide +kernel)) rfl rfl dX6_layState_31 ?_
        refine lv_iload_n hx hb dX6_layState_34 rfl (lv_at hl 3 rfl) ?_
        refine g_iald (n := 4) (f := A 8) (i := i) hx hb hk hW (hM.ai 8 (by decide) rfl) (by omega) (by omega) (by omega) dX6_layState_35 ?_
        refine lv_iconst (v := J (1)) hx hb dX6_layState_36 rfl ?_
        refine j_iadd hx hb dX6_layState_37 ?_
        refine j_idiv hx hb (by omega) (by omega) (by omega) (by omega) dX6_layState_38 ?_
        refine lv_istore_n (lv' := [(2, .int (J (z / ((A 8 i) + 1)))), (0, .ref o), (1, .int (J x)), (3, .int (J i))]) hx hb dX6_layState_39 rfl hl (by decide) rfl (fun ls hl => ?_)
        refine lv_iinc (v := J (i - 1)) (lv' := [(3, .int (J (i - 1))), (2, .int (J (z / ((A 8 i) + 1)))), (0, .ref o), (1, .int (J x))]) hx hb dX6_layState_40 hl (k := 3) rfl (J_inc (by omega)) (by decide) rfl (fun ls hl => ?_)
        refine lv_goto (tgt := 9) hx hb dX6_layState_43 (by decide) ?_
        exact ih_9 (i - 1) (uf f i (z % ((A 8 i) + 1))) (z / (A 8 i + 1)) h H locs ls (by omega) (by omega) (by rw [ef, ez, p_layI_s _ _ _ _ (by omega) (by omega), show i - 1 + 1 = i by omega]) (by rw [show I 7 - 1 - (i - 1) = (I 7 - 1 - i) + 1 by omega, rT_s _ _ (by omega), ez]; unfold rv; rw [show I 7 - 1 - (I 7 - 1 - i) = i by omega]) (div_rng hz.1 hz.2 (by omega)) hM hF hW hS (lv_sub hl [2, 3, 1, 0] rfl)
  exact loop_9 ((I 7).toNat + 1) (I 7 - 1) (A 9) x h0 s.heap [] ls (by omega) (by omega) (by unfold p_layI; funext j; rw [if_neg (by omega)]) (by rw [show I 7 - 1 - (I 7 - 1) = 0 by omega]; rfl) ha (by rw [va_up_id]; exact hM) hF hW hS (lv_sub hl [2, 3, 1, 0] rfl)
