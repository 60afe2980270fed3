set_option maxHeartbeats 4000000 in
set_option maxRecDepth 100000 in
theorem x_jug (l : Launch) (g : GX) (base : Nat) (sa : Nat → Nat) (h0 : Hp) (o : Nat) (R : Nat → Nat) (I L : Nat → Int) (A : Nat → Int → Int) (DR : Nat → Nat → Nat) (DI DL : Nat → Nat → Int) (DA : Nat → Nat → Int → Int) (a b : Int) (hX : OB g 5 3 kd5 h0 o R I L A) (hB : QB g h0 (R 1) DR DI DL DA) (hV : QV DI DL DA) (hj0 : R 0 = DR 0 0) (aX : ∀ q, FP 3 kd5 o R q → ¬ FS (R 1) DR q) (ha9 : i32 a) (hb9 : i32 b) : MC l g base sa yX5_jug wsX5_jug ({ frames := 1, cells := 0, slots := 0, locals := 22 }) ([.ref o, .int (J a), .int (J b)]) h0 (fun r9 h' => Fr (FS (R 1) DR) h0 h' ∧ ((¬ (1 ≤ a ∧ a ≤ 10 ∧ 0 ≤ b ∧ b ≤ a) ∧ r9 = some (.int (J (-2))) ∧ h' = h0) ∨ ((1 ≤ a ∧ a ≤ 10 ∧ 0 ≤ b ∧ b ≤ a) ∧ DI 1 0 = 4 ∧ r9 = some (.int (J (-4))) ∧ h' = h0) ∨ ((1 ≤ a ∧ a ≤ 10 ∧ 0 ≤ b ∧ b ≤ a) ∧ DI 1 0 < 4 ∧ r9 = some (.int (J (DI 1 0))) ∧ ∃ DI' DA', QB g h' (R 1) DR DI' DL DA' ∧ QV DI' DL DA' ∧ DI' 1 0 = DI 1 0 + 1 ∧ DI' 1 2 = DI 1 2 ∧ DI' 1 3 = DI 1 3 ∧ DA' 1 4 = uf (DA 1 4) (DI 1 0) a ∧ DA' 1 5 = uf (DA 1 5) (DI 1 0) b))) := by
  refine Met.ofW (cc := cX5_jug) (maxL := 3) (ret := (some .int)) (by decide) rfl ?_
  intro p e s m args below meth c s₁ B hml hv
  obtain ⟨rfl, hk, hW⟩ := hv
  have hx := B.exec
  have hb := B.bytes
  have hr := B.returns
  have hts := atoms_spec (ws := wsX5_jug) B.pre
  have hown : s.vm.findClass RX5 = some m.cls := findClass_of_methodNamed B.named
  have hlocks := B.notSynchronized
  have hfX1 : ∀ w ∈ wsX10, w.before ([.ref o, .int (J a), .int (J b)]).toArray s = true := fun w h => hts w (List.mem_cons_of_mem _ (List.mem_append_left _ (List.mem_append_right _ h)))
  have hfX2 : ∀ w ∈ wsX20, w.before ([.ref o, .int (J a), .int (J b)]).toArray s = true := fun w h => hts w (List.mem_cons_of_mem _ (List.mem_append_right _ h))
  have hfX5 : ∀ w ∈ wsX50, w.before ([.ref o, .int (J a), .int (J b)]).toArray s = true := fun w h => hts w (List.mem_cons_of_mem _ (List.mem_append_left _ (List.mem_append_left _ (List.mem_append_right _ h))))
  have hS : va_S (Ab base) s.heap s.heap [] := va_S.rf
  have hl := lv_entry ([.ref o, .int (J a), .int (J b)]) (n := 3) (Nat.le_of_ble_eq_true rfl)
  rw [lg_entry_eq]
  generalize (lg_sl ([.ref o, .int (J a), .int (J b)]) ++ List.replicate (3 - (lg_sl ([.ref o, .int (J a), .int (J b)])).length) Slot.unset).toArray = ls at hl ⊢
  have hl : lv_has ls 3 [(0, .ref o), (1, .int (J a)), (2, .int (J b))] := hl
  have hF : Fr (FS (R 1) DR) h0 h0 := Fr.rf
  obtain ⟨vW, vV, vZ, vF, vA, vT, vS, vg, f6, f7, f8⟩ := id hV
  have hn : 0 ≤ DI 1 0 ∧ DI 1 0 ≤ 4 := ⟨vW.1.1, vW.1.2.1⟩
  have hG : OB g 1 7 kd1 h0 (R 0) (DR 1) (DI 1) L4 (DA 1) := by rw [hj0]; exact hB.2.1
  obtain ⟨ha1, ha2⟩ := id ha9
  obtain ⟨hb1, hb2⟩ := id hb9
  refine lv_iload_n hx hb dX5_jug_0 rfl (lv_at hl 1 rfl) ?_
  refine lv_iconst (v := J (1)) hx hb dX5_jug_1 rfl ?_
  refine j_icmp_lt (x := a) (y := 1) (tgt := 20) hx hb ⟨by omega, by omega⟩ ⟨by decide, by decide⟩ dX5_jug_2 (by decide) (fun c_2 => ?_) (fun c_2 => ?_)
  · refine lv_bipush (v := J (-2)) hx hb dX5_jug_20 (by decide) ?_
    exact g_iret hx hb hr hW hS dX5_jug_22 hlocks (⟨hF, Or.inl ⟨by omega, rfl, rfl⟩⟩)
  · refine lv_iload_n hx hb dX5_jug_5 rfl (lv_at hl 1 rfl) ?_
    refine lv_bipush (v := J (10)) hx hb dX5_jug_6 (by decide) ?_
    refine j_icmp_gt (x := a) (y := 10) (tgt := 20) hx hb ⟨by omega, by omega⟩ ⟨by decide, by decide⟩ dX5_jug_8 (by decide) (fun c_8 => ?_) (fun c_8 => ?_)
    · refine lv_bipush (v := J (-2)) hx hb dX5_jug_20 (by decide) ?_
      exact g_iret hx hb hr hW hS dX5_jug_22 hlocks (⟨hF, Or.inl ⟨by omega, rfl, rfl⟩⟩)
    · refine lv_iload_n hx hb dX5_jug_11 rfl (lv_at hl 2 rfl) ?_
      refine j_if_lt (x := b) (tgt := 20) hx hb ⟨by omega, by omega⟩ dX5_jug_12 (by decide) (fun c_12 => ?_) (fun c_12 => ?_)
      · refine lv_bipush (v := J (-2)) hx hb dX5_jug_20 (by decide) ?_
        exact g_iret hx hb hr hW hS dX5_jug_22 hlocks (⟨hF, Or.inl ⟨by omega, rfl, rfl⟩⟩)
      · refine lv_iload_n hx hb dX5_jug_15 rfl (lv_at hl 2 rfl) ?_
        refine lv_iload_n hx hb dX5_jug_16 rfl (lv_at hl 1 rfl) ?_
        refine j_icmp_le (x := b) (y := a) (tgt := 23) hx hb ⟨by omega, by omega⟩ ⟨by omega, by omega⟩ dX5_jug_17 (by decide) (fun c_17 => ?_) (fun c_17 => ?_)
        · refine lv_aload_n hx hb dX5_jug_23 rfl (lv_at hl 0 rfl) ?_
          refine g_get (ci := 5) (C := RX5) (T := TX5) (N := 3) (v := .ref (R 0)) hx hb hfX5 (fun _ h9 => h9) hown hk hW hX.1 rfl 0 (by decide) (hts (.fieldLink RX5 20 "JugsAndGlasses" "jugs" "LJugsAndGlasses$Jugs;") (by decide +kernel)) rfl rfl dX5_jug_24 ?_
          refine g_get (ci := 1) (C := RX1) (T := TX1) (N := 7) (v := .int (J ((DI 1) 0))) hx hb hfX1 (fun _ h9 => h9) hown hk hW hG.1 rfl 0 (by decide) (hts (.fieldLink RX5 28 "JugsAndGlasses$Jugs" "number" "I") (by decide +kernel)) rfl rfl dX5_jug_27 ?_
          refine lv_iconst (v := J (4)) hx hb dX5_jug_30 rfl ?_
          refine j_icmp_lt (x := (DI 1) 0) (y := 4) (tgt := 37) hx hb ⟨by omega, by omega⟩ ⟨by decide, by decide⟩ dX5_jug_31 (by decide) (fun c_31 => ?_) (fun c_31 => ?_)
          · have hwa := Wok_add (a := a) (b := b) vW vV (by omega) ⟨by omega, by omega⟩ ⟨by omega, by omega⟩
            refine lv_aload_n hx hb dX5_jug_37 rfl (lv_at hl 0 rfl) ?_
            refine g_get (ci := 5) (C := RX5) (T := TX5) (N := 3) (v := .ref (R 1)) hx hb hfX5 (fun _ h9 => h9) hown hk hW hX.1 rfl 1 (by decide) (hts (.fieldLink RX5 10 "JugsAndGlasses" "search" "LJugsAndGlasses$Search;") (by decide +kernel)) rfl rfl dX5_jug_38 ?_
            refine g_callV (As := []) (rest := []) (b := R 1) (ci := 2) (C := RX2) (T := TX2) (N := 9) ⟨hx, hb, hml, hown, hts⟩ (q_forget l g base sa h0 (R 1) DR DI DL DA hB) (cwV 0 hts gX5_jug_X2_forget rfl rfl rfl (by decide +kernel) ⟨Nat.le_of_ble_eq_true rfl, Nat.le_of_ble_eq_true rfl⟩) hk hW hS hB.1.1 rfl rfl hl.1 (Nat.le_of_ble_eq_true rfl) dX5_jug_41 ⟨Nat.le_of_ble_eq_true rfl, Nat.le_of_ble_eq_true rfl⟩ (fun r9 h9 H locs hp hW hS => ?_)
            obtain ⟨rfl, hF9, hB⟩ := hp
            refine W.eq (g2 := F0 m 44 ls []) rfl ?_
            have hF := hF.tr hF9 (fun q w _ => ⟨0, by omega, w⟩)
            have hX := hX.fr hF9 (fun q w z => aX q w ⟨0, by omega, z⟩)
            generalize h9 = h at hX hB hF hW
            have hG : OB g 1 7 kd1 h (R 0) (DR 1) ((DI 1)) L4 ((DA 1)) := by rw [hj0]; exact hB.2.1
            refine lv_aload_n hx hb dX5_jug_44 rfl (lv_at hl 0 rfl) ?_
            refine g_get (ci := 5) (C := RX5) (T := TX5) (N := 3) (v := .ref (R 0)) hx hb hfX5 (fun _ h9 => h9) hown hk hW hX.1 rfl 0 (by decide) (hts (.fieldLink RX5 20 "JugsAndGlasses" "jugs" "LJugsAndGlasses$Jugs;") (by decide +kernel)) rfl rfl dX5_jug_45 ?_
            refine lv_iload_n hx hb dX5_jug_48 rfl (lv_at hl 1 rfl) ?_
            refine lv_iload_n hx hb dX5_jug_49 rfl (lv_at hl 2 rfl) ?_
            refine g_callV (As := [.int (J a), .int (J b)]) (rest := []) (b := R 0) (ci := 1) (C := RX1) (T := TX1) (N := 7) ⟨hx, hb, hml, hown, hts⟩ (k_add l g base sa h (R 0) (DR 1) (DI 1) (DA 1) a b hG ⟨by omega, by omega⟩) (cwV 2 hts gX5_jug_X1_add rfl rfl rfl (by decide +kernel) ⟨Nat.le_of_ble_eq_true rfl, Nat.le_of_ble_eq_true rfl⟩) hk hW hS hG.1 rfl rfl hl.1 (Nat.le_of_ble_eq_true rfl) dX5_jug_50 ⟨Nat.le_of_ble_eq_true rfl, Nat.le_of_ble_eq_true rfl⟩ (fun r9 h9 H locs hp hW hS => ?_)
            obtain ⟨rfl, hGn, hF9⟩ := hp
            refine W.eq (g2 := F0 m 53 ls [.int (J (DI 1 0))]) rfl ?_
            have hF9 : Fr (QF (R 1) DR 1) h h9 := by rw [hj0] at hF9; exact hF9
            have hF := hF.tr hF9 (fun q w _ => ⟨1, by omega, w⟩)
            have hX := hX.fr hF9 (fun q w z => aX q w ⟨1, by omega, z⟩)
            have hB := QB_j hB hF9 (by rw [hj0] at hGn; exact hGn)
            generalize h9 = h at hX hB hF hW hGn
            have hG := hGn
            exact g_iret hx hb hr hW hS dX5_jug_53 hlocks (⟨hF, Or.inr (Or.inr ⟨by omega, by omega, rfl, _, _, hB, QV_j hV ⟨rfl, rfl, rfl⟩ hwa.1 hwa.2 ⟨Zo_uf vZ.2.1 (by omega) (by omega), Zo_uf vZ.2.2.2 (by omega) (by omega)⟩, rfl, rfl, rfl, rfl, rfl⟩)⟩)
          · refine lv_bipush (v := J (-4)) hx hb dX5_jug_34 (by decide) ?_
            exact g_iret hx hb hr hW hS dX5_jug_36 hlocks (⟨hF, Or.inr (Or.inl ⟨by omega, by omega, rfl, rfl⟩)⟩)
        · refine lv_bipush (v := J (-2)) hx hb dX5_jug_20 (by decide) ?_
          exact g_iret hx hb hr hW hS dX5_jug_22 hlocks (⟨hF, Or.inl ⟨by omega, rfl, rfl⟩⟩)

set_option maxHeartbeats 4000000 in
set_option maxRecDepth 100000 in
theorem x_clear (l : Launch) (g : GX) (base : Nat) (sa : Nat → Nat) (h0 : Hp) (o : Nat) (R : Nat → Nat) (I L : Nat → Int) (A : Nat → Int → Int) (DR : Nat → Nat → Nat) (DI DL : Nat → Nat → Int) (DA : Nat → Nat → Int → Int) (hX : OB g 5 3 kd5 h0 o R I L A) (hB : QB g h0 (R 1) DR DI DL DA) (hV : QV DI DL DA) (hj0 : R 0 = DR 0 0) (aX : ∀ q, FP 3 kd5 o R q → ¬ FS (R 1) DR q) : MC l g base sa yX5_clear wsX5_clear ({ frames := 1, cells := 0, slots := 0, locals := 21 }) ([.ref o]) h0 (fun r9 h' => Fr (FS (R 1) DR) h0 h' ∧ r9 = some (.int (J (DI 1 0))) ∧ ∃ DI' DA', QB g h' (R 1) DR DI' DL DA' ∧ QV DI' DL DA' ∧ DI' 1 0 = 0 ∧ DI' 1 2 = DI 1 2 ∧ DI' 1 3 = DI 1 3 ∧ DA' 1 4 = DA 1 4 ∧ DA' 1 5 = DA 1 5) := by
  refine Met.ofW (cc := cX5_clear) (maxL := 1) (ret := (some .int)) (by decide) rfl ?_
  intro p e s m args below meth c s₁ B hml hv
  obtain ⟨rfl, hk, hW⟩ := hv
  have hx := B.exec
  have hb := B.bytes
  have hr := B.returns
  have hts := atoms_spec (ws := wsX5_clear) B.pre
  have hown : s.vm.findClass RX5 = some m.cls := findClass_of_methodNamed B.named
  have hlocks := B.notSynchronized
  have hfX1 : ∀ w ∈ wsX10, w.before ([.ref o]).toArray s = true := fun w h => hts w (List.mem_cons_of_mem _ (List.mem_append_right _ h))
  have hfX2 : ∀ w ∈ wsX20, w.before ([.ref o]).toArray s = true := fun w h => hts w (List.mem_cons_of_mem _ (List.mem_append_left _ (List.mem_append_right _ h)))
  have hfX5 : ∀ w ∈ wsX50, w.before ([.ref o]).toArray s = true := fun w h => hts w (List.mem_cons_of_mem _ (List.mem_append_left _ (List.mem_append_left _ (List.mem_append_right _ h))))
  have hS : va_S (Ab base) s.heap s.heap [] := va_S.rf
  have hl := lv_entry ([.ref o]) (n := 1) (Nat.le_of_ble_eq_true rfl)
  rw [lg_entry_eq]
  generalize (lg_sl ([.ref o]) ++ List.replicate (1 - (lg_sl ([.ref o])).length) Slot.unset).toArray = ls at hl ⊢
  have hl : lv_has ls 1 [(0, .ref o)] := hl
  have hF : Fr (FS (R 1) DR) h0 h0 := Fr.rf
  obtain ⟨vW, vV, vZ, vF, vA, vT, vS, vg, f6, f7, f8⟩ := id hV
  have hn : 0 ≤ DI 1 0 ∧ DI 1 0 ≤ 4 := ⟨vW.1.1, vW.1.2.1⟩
  have hG : OB g 1 7 kd1 h0 (R 0) (DR 1) (DI 1) L4 (DA 1) := by rw [hj0]; exact hB.2.1
  refine lv_aload_n hx hb dX5_clear_0 rfl (lv_at hl 0 rfl) ?_
  refine g_get (ci := 5) (C := RX5) (T := TX5) (N := 3) (v := .ref (R 1)) hx hb hfX5 (fun _ h9 => h9) hown hk hW hX.1 rfl 1 (by decide) (hts (.fieldLink RX5 10 "JugsAndGlasses" "search" "LJugsAndGlasses$Search;") (by decide +kernel)) rfl rfl dX5_clear_1 ?_
  refine g_callV (As := []) (rest := []) (b := R 1) (ci := 2) (C := RX2) (T := TX2) (N := 9) ⟨hx, hb, hml, hown, hts⟩ (q_forget l g base sa h0 (R 1) DR DI DL DA hB) (cwV 0 hts gX5_clear_X2_forget rfl rfl rfl (by decide +kernel) ⟨Nat.le_of_ble_eq_true rfl, Nat.le_of_ble_eq_true rfl⟩) hk hW hS hB.1.1 rfl rfl hl.1 (Nat.le_of_ble_eq_true rfl) dX5_clear_4 ⟨Nat.le_of_ble_eq_true rfl, Nat.le_of_ble_eq_true rfl⟩ (fun r9 h9 H locs hp hW hS => ?_)
  obtain ⟨rfl, hF9, hB⟩ := hp
  refine W.eq (g2 := F0 m 7 ls []) rfl ?_
  have hF := hF.tr hF9 (fun q w _ => ⟨0, by omega, w⟩)
  have hX := hX.fr hF9 (fun q w z => aX q w ⟨0, by omega, z⟩)
  generalize h9 = h at hX hB hF hW
  have hG : OB g 1 7 kd1 h (R 0) (DR 1) ((DI 1)) L4 ((DA 1)) := by rw [hj0]; exact hB.2.1
  refine lv_aload_n hx hb dX5_clear_7 rfl (lv_at hl 0 rfl) ?_
  refine g_get (ci := 5) (C := RX5) (T := TX5) (N := 3) (v := .ref (R 0)) hx hb hfX5 (fun _ h9 => h9) hown hk hW hX.1 rfl 0 (by decide) (hts (.fieldLink RX5 20 "JugsAndGlasses" "jugs" "LJugsAndGlasses$Jugs;") (by decide +kernel)) rfl rfl dX5_clear_8 ?_
  refine g_callV (As := []) (rest := []) (b := R 0) (ci := 1) (C := RX1) (T := TX1) (N := 7) ⟨hx, hb, hml, hown, hts⟩ (k_removeAll l g base sa h (R 0) (DR 1) (DI 1) (DA 1) hG) (cwV 0 hts gX5_clear_X1_removeAll rfl rfl rfl (by decide +kernel) ⟨Nat.le_of_ble_eq_true rfl, Nat.le_of_ble_eq_true rfl⟩) hk hW hS hG.1 rfl rfl hl.1 (Nat.le_of_ble_eq_true rfl) dX5_clear_11 ⟨Nat.le_of_ble_eq_true rfl, Nat.le_of_ble_eq_true rfl⟩ (fun r9 h9 H locs hp hW hS => ?_)
  obtain ⟨rfl, hGn, hF9⟩ := hp
  refine W.eq (g2 := F0 m 14 ls [.int (J (DI 1 0))]) rfl ?_
  have hF9 : Fr (QF (R 1) DR 1) h h9 := by rw [hj0] at hF9; exact hF9
  have hF := hF.tr hF9 (fun q w _ => ⟨1, by omega, w⟩)
  have hX := hX.fr hF9 (fun q w z => aX q w ⟨1, by omega, z⟩)
  have hB := QB_j hB hF9 (by rw [hj0] at hGn; exact hGn)
  generalize h9 = h at hX hB hF hW hGn
  have hG := hGn
  exact g_iret hx hb hr hW hS dX5_clear_14 hlocks (⟨hF, rfl, _, _, hB, QV_j hV ⟨rfl, rfl, rfl⟩ (Wok_0 vW) (fun i i0 i1 => absurd (show i < 0 from i1) (by omega)) ⟨vZ.2.1, vZ.2.2.2⟩, rfl, rfl, rfl, rfl, rfl⟩)

set_option maxHeartbeats 4000000 in
set_option maxRecDepth 100000 in
theorem x_holds (l : Launch) (g : GX) (base : Nat) (sa : Nat → Nat) (h0 : Hp) (o : Nat) (R : Nat → Nat) (I L : Nat → Int) (A : Nat → Int → Int) (DR : Nat → Nat → Nat) (DI DL : Nat → Nat → Int) (DA : Nat → Nat → Int → Int) (a : Int) (hX : OB g 5 3 kd5 h0 o R I L A) (hB : QB g h0 (R 1) DR DI DL DA) (hV : QV DI DL DA) (hj0 : R 0 = DR 0 0) (aX : ∀ q, FP 3 kd5 o R q → ¬ FS (R 1) DR q) (ha9 : i32 a) : MC l g base sa yX5_holds wsX5_holds ({ frames := 1, cells := 0, slots := 0, locals := 21 }) ([.ref o, .int (J a)]) h0 (fun r9 h' => r9 = some (.int (J (if 0 ≤ a ∧ a < DI 1 0 then DA 1 5 a else -2))) ∧ h' = h0) := by
  refine Met.ofW (cc := cX5_holds) (maxL := 2) (ret := (some .int)) (by decide) rfl ?_
  intro p e s m args below meth c s₁ B hml hv
  obtain ⟨rfl, hk, hW⟩ := hv
  have hx := B.exec
  have hb := B.bytes
  have hr := B.returns
  have hts := atoms_spec (ws := wsX5_holds) B.pre
  have hown : s.vm.findClass RX5 = some m.cls := findClass_of_methodNamed B.named
  have hlocks := B.notSynchronized
  have hfX1 : ∀ w ∈ wsX10, w.before ([.ref o, .int (J a)]).toArray s = true := fun w h => hts w (List.mem_cons_of_mem _ (List.mem_append_right _ h))
  have hfX5 : ∀ w ∈ wsX50, w.before ([.ref o, .int (J a)]).toArray s = true := fun w h => hts w (List.mem_cons_of_mem _ (List.mem_append_left _ (List.mem_append_right _ h)))
  have hS : va_S (Ab base) s.heap s.heap [] := va_S.rf
  have hl := lv_entry ([.ref o, .int (J a)]) (n := 2) (Nat.le_of_ble_eq_true rfl)
  rw [lg_entry_eq]
  generalize (lg_sl ([.ref o, .int (J a)]) ++ List.replicate (2 - (lg_sl ([.ref o, .int (J a)])).length) Slot.unset).toArray = ls at hl ⊢
  have hl : lv_has ls 2 [(0, .ref o), (1, .int (J a))] := hl
  obtain ⟨vW, vV, vZ, vF, vA, vT, vS, vg, f6, f7, f8⟩ := id hV
  have hn : 0 ≤ DI 1 0 ∧ DI 1 0 ≤ 4 := ⟨vW.1.1, vW.1.2.1⟩
  have hG : OB g 1 7 kd1 h0 (R 0) (DR 1) (DI 1) L4 (DA 1) := by rw [hj0]; exact hB.2.1
  obtain ⟨ha1, ha2⟩ := id ha9
  refine lv_aload_n hx hb dX5_holds_0 rfl (lv_at hl 0 rfl) ?_
  refine g_get (ci := 5) (C := RX5) (T := TX5) (N := 3) (v := .ref (R 0)) hx hb hfX5 (fun _ h9 => h9) hown hk hW hX.1 rfl 0 (by decide) (hts (.fieldLink RX5 20 "JugsAndGlasses" "jugs" "LJugsAndGlasses$Jugs;") (by decide +kernel)) rfl rfl dX5_holds_1 ?_
  refine lv_iload_n hx hb dX5_holds_4 rfl (lv_at hl 1 rfl) ?_
  refine g_callV (As := [.int (J a)]) (rest := []) (b := R 0) (ci := 1) (C := RX1) (T := TX1) (N := 7) ⟨hx, hb, hml, hown, hts⟩ (k_has l g base sa h0 (R 0) (DR 1) (DI 1) (DA 1) a hG ha9 hn) (cwV 1 hts gX5_holds_X1_has rfl rfl rfl (by decide +kernel) ⟨Nat.le_of_ble_eq_true rfl, Nat.le_of_ble_eq_true rfl⟩) hk hW hS hG.1 rfl rfl hl.1 (Nat.le_of_ble_eq_true rfl) dX5_holds_5 ⟨Nat.le_of_ble_eq_true rfl, Nat.le_of_ble_eq_true rfl⟩ (fun r9 h9 H locs hp hW hS => ?_)
  obtain ⟨rfl, e9⟩ := hp
  rw [e9] at hW
  refine W.eq (g2 := F0 m 8 ls [.int (J (p_has (DI 1 0) a))]) rfl ?_
  have hph := p_has_r (DI 1 0) a
  refine j_if_eq (x := p_has (DI 1 0) a) (tgt := 23) hx hb ⟨by omega, by omega⟩ dX5_holds_8 (by decide) (fun c_8 => ?_) (fun c_8 => ?_)
  · refine lv_bipush (v := J (-2)) hx hb dX5_holds_23 (by decide) ?_
    exact g_iret hx hb hr hW hS dX5_holds_25 hlocks (⟨congrArg (fun q : Int => some (Value.int (J q))) (show (-2) = (if 0 ≤ a ∧ a < DI 1 0 then DA 1 5 a else -2) from by first | rw [if_pos (by omega)] | rw [if_neg (by have := p_has_0 c_8; omega)]), rfl⟩)
  · have hq := p_has_1 c_8
    refine lv_aload_n hx hb dX5_holds_11 rfl (lv_at hl 0 rfl) ?_
    refine g_get (ci := 5) (C := RX5) (T := TX5) (N := 3) (v := .ref (R 0)) hx hb hfX5 (fun _ h9 => h9) hown hk hW hX.1 rfl 0 (by decide) (hts (.fieldLink RX5 20 "JugsAndGlasses" "jugs" "LJugsAndGlasses$Jugs;") (by decide +kernel)) rfl rfl dX5_holds_12 ?_
    refine g_get (ci := 1) (C := RX1) (T := TX1) (N := 7) (v := .ref ((DR 1) 5)) hx hb hfX1 (fun _ h9 => h9) hown hk hW hG.1 rfl 5 (by decide) (hts (.fieldLink RX5 56 "JugsAndGlasses$Jugs" "held" "[I") (by decide +kernel)) rfl rfl dX5_holds_15 ?_
    refine lv_iload_n hx hb dX5_holds_18 rfl (lv_at hl 1 rfl) ?_
    refine g_iald (n := 4) (f := (DA 1) 5) (i := a) hx hb hk hW (hG.ai 5 (by decide) rfl) (by omega) (by omega) (by omega) dX5_holds_19 ?_
    refine lv_goto (tgt := 25) hx hb dX5_holds_20 (by decide) ?_
    exact g_iret hx hb hr hW hS dX5_holds_25 hlocks (⟨congrArg (fun q : Int => some (Value.int (J q))) (show (DA 1) 5 a = (if 0 ≤ a ∧ a < DI 1 0 then DA 1 5 a else -2) from by first | rw [if_pos (by omega)] | rw [if_neg (by have := p_has_0 c_8; omega)]), rfl⟩)

set_option maxHeartbeats 4000000 in
set_option maxRecDepth 100000 in
theorem x_act (l : Launch) (g : GX) (base : Nat) (sa : Nat → Nat) (h0 : Hp) (o : Nat) (R : Nat → Nat) (I L : Nat → Int) (A : Nat → Int → Int) (DR : Nat → Nat → Nat) (DI DL : Nat → Nat → Int) (DA : Nat → Nat → Int → Int) (a : Int) (hX : OB g 5 3 kd5 h0 o R I L A) (hB : QB g h0 (R 1) DR DI DL DA) (hV : QV DI DL DA) (hj0 : R 0 = DR 0 0) (aX : ∀ q, FP 3 kd5 o R q → ¬ FS (R 1) DR q) (ha9 : i32 a) : MC l g base sa yX5_act wsX5_act ({ frames := 2, cells := 0, slots := 0, locals := 43 }) ([.ref o, .int (J a)]) h0 (fun r9 h' => Fr (FS (R 1) DR) h0 h' ∧ ((¬ (0 ≤ a ∧ a < 24 ∧ p_act (DI 1 0) a) ∧ r9 = some (.int (J (-2))) ∧ h' = h0) ∨ ((0 ≤ a ∧ a < 24 ∧ p_act (DI 1 0) a) ∧ p_mv (DI 1 0) (DI 1 2) (DI 1 3) (DA 1 4) (DA 1 5) a = 0 ∧ r9 = some (.int (J (-3))) ∧ h' = h0) ∨ ((0 ≤ a ∧ a < 24 ∧ p_act (DI 1 0) a) ∧ 0 < p_mv (DI 1 0) (DI 1 2) (DI 1 3) (DA 1 4) (DA 1 5) a ∧ r9 = some (.int (J (p_mv (DI 1 0) (DI 1 2) (DI 1 3) (DA 1 4) (DA 1 5) a))) ∧ ∃ DI' DA', QB g h' (R 1) DR DI' DL DA' ∧ QV DI' DL DA' ∧ DI' 1 = DI 1 ∧ DA' 1 4 = DA 1 4 ∧ DA' 1 5 = p_move (DA 1 5) a (p_mv (DI 1 0) (DI 1 2) (DI 1 3) (DA 1 4) (DA 1 5) a)))) := by
  refine Met.ofW (cc := cX5_act) (maxL := 3) (ret := (some .int)) (by decide) rfl ?_
  intro p e s m args below meth c s₁ B hml hv
  obtain ⟨rfl, hk, hW⟩ := hv
  have hx := B.exec
  have hb := B.bytes
  have hr := B.returns
  have hts := atoms_spec (ws := wsX5_act) B.pre
  have hown : s.vm.findClass RX5 = some m.cls := findClass_of_methodNamed B.named
  have hlocks := B.notSynchronized
  have hfX1 : ∀ w ∈ wsX10, w.before ([.ref o, .int (J a)]).toArray s = true := fun w h => hts w (List.mem_cons_of_mem _ (List.mem_append_left _ (List.mem_append_right _ h)))
  have hfX2 : ∀ w ∈ wsX20, w.before ([.ref o, .int (J a)]).toArray s = true := fun w h => hts w (List.mem_cons_of_mem _ (List.mem_append_right _ h))
  have hfX5 : ∀ w ∈ wsX50, w.before ([.ref o, .int (J a)]).toArray s = true := fun w h => hts w (List.mem_cons_of_mem _ (List.mem_append_left _ (List.mem_append_left _ (List.mem_append_right _ h))))
  have hS : va_S (Ab base) s.heap s.heap [] := va_S.rf
  have hl := lv_entry ([.ref o, .int (J a)]) (n := 3) (Nat.le_of_ble_eq_true rfl)
  rw [lg_entry_eq]
  generalize (lg_sl ([.ref o, .int (J a)]) ++ List.replicate (3 - (lg_sl ([.ref o, .int (J a)])).length) Slot.unset).toArray = ls at hl ⊢
  have hl : lv_has ls 3 [(0, .ref o), (1, .int (J a))] := hl
  have hF : Fr (FS (R 1) DR) h0 h0 := Fr.rf
  obtain ⟨vW, vV, vZ, vF, vA, vT, vS, vg, f6, f7, f8⟩ := id hV
  have hn : 0 ≤ DI 1 0 ∧ DI 1 0 ≤ 4 := ⟨vW.1.1, vW.1.2.1⟩
  have hG : OB g 1 7 kd1 h0 (R 0) (DR 1) (DI 1) L4 (DA 1) := by rw [hj0]; exact hB.2.1
  obtain ⟨ha1, ha2⟩ := id ha9
  have hjok := Wok_Jok vW vV
  refine lv_aload_n hx hb dX5_act_0 rfl (lv_at hl 0 rfl) ?_
  refine g_get (ci := 5) (C := RX5) (T := TX5) (N := 3) (v := .ref (R 0)) hx hb hfX5 (fun _ h9 => h9) hown hk hW hX.1 rfl 0 (by decide) (hts (.fieldLink RX5 20 "JugsAndGlasses" "jugs" "LJugsAndGlasses$Jugs;") (by decide +kernel)) rfl rfl dX5_act_1 ?_
  refine lv_iload_n hx hb dX5_act_4 rfl (lv_at hl 1 rfl) ?_
  refine g_callV (As := [.int (J a)]) (rest := []) (b := R 0) (ci := 1) (C := RX1) (T := TX1) (N := 7) ⟨hx, hb, hml, hown, hts⟩ (k_haveAct l g base sa h0 (R 0) (DR 1) (DI 1) (DA 1) a hG ha9 hn) (cwV 1 hts gX5_act_X1_haveAct rfl rfl rfl (by decide +kernel) ⟨Nat.le_of_ble_eq_true rfl, Nat.le_of_ble_eq_true rfl⟩) hk hW hS hG.1 rfl rfl hl.1 (Nat.le_of_ble_eq_true rfl) dX5_act_5 ⟨Nat.le_of_ble_eq_true rfl, Nat.le_of_ble_eq_true rfl⟩ (fun r9 h9 H locs hp hW hS => ?_)
  obtain ⟨rfl, e9⟩ := hp
  rw [e9] at hW
  refine W.eq (g2 := F0 m 8 ls [.int (J (p_haveAct (DI 1 0) a))]) rfl ?_
  have hph := p_haveAct_r (DI 1 0) a
  refine j_if_ne (x := p_haveAct (DI 1 0) a) (tgt := 14) hx hb ⟨by omega, by omega⟩ dX5_act_8 (by decide) (fun c_8 => ?_) (fun c_8 => ?_)
  · have hac := p_haveAct_1 c_8
    have hac2 : (0 ≤ a ∧ a < 24 ∧ p_act (DI 1 0) a) := ⟨hac.1, hac.2.1, hac.2.2⟩
    refine lv_aload_n hx hb dX5_act_14 rfl (lv_at hl 0 rfl) ?_
    refine g_get (ci := 5) (C := RX5) (T := TX5) (N := 3) (v := .ref (R 0)) hx hb hfX5 (fun _ h9 => h9) hown hk hW hX.1 rfl 0 (by decide) (hts (.fieldLink RX5 20 "JugsAndGlasses" "jugs" "LJugsAndGlasses$Jugs;") (by decide +kernel)) rfl rfl dX5_act_15 ?_
    refine lv_iload_n hx hb dX5_act_18 rfl (lv_at hl 1 rfl) ?_
    refine g_callV (As := [.int (J a)]) (rest := []) (b := R 0) (ci := 1) (C := RX1) (T := TX1) (N := 7) ⟨hx, hb, hml, hown, hts⟩ (k_moved l g base sa h0 (R 0) (DR 1) (DI 1) (DA 1) a hG ha9 hjok) (cwV 1 hts gX5_act_X1_moved rfl rfl rfl (by decide +kernel) ⟨Nat.le_of_ble_eq_true rfl, Nat.le_of_ble_eq_true rfl⟩) hk hW hS hG.1 rfl rfl hl.1 (Nat.le_of_ble_eq_true rfl) dX5_act_19 ⟨Nat.le_of_ble_eq_true rfl, Nat.le_of_ble_eq_true rfl⟩ (fun r9 h9 H locs hp hW hS => ?_)
    obtain ⟨rfl, e9⟩ := hp
    rw [e9] at hW
    refine W.eq (g2 := F0 m 22 ls [.int (J (p_mv (DI 1 0) (DI 1 2) (DI 1 3) (DA 1 4) (DA 1 5) a))]) rfl ?_
    have hmr := p_mv_r hjok a
    refine lv_istore_n (lv' := [(2, .int (J (p_mv (DI 1 0) (DI 1 2) (DI 1 3) (DA 1 4) (DA 1 5) a))), (0, .ref o), (1, .int (J a))]) hx hb dX5_act_22 rfl hl (by decide) rfl (fun ls hl => ?_)
    refine lv_iload_n hx hb dX5_act_23 rfl (lv_at hl 0 rfl) ?_
    refine j_if_ne (x := p_mv (DI 1 0) (DI 1 2) (DI 1 3) (DA 1 4) (DA 1 5) a) (tgt := 30) hx hb ⟨by omega, by omega⟩ dX5_act_24 (by decide) (fun c_24 => ?_) (fun c_24 => ?_)
    · have hm0 : 0 < p_mv (DI 1 0) (DI 1 2) (DI 1 3) (DA 1 4) (DA 1 5) a := by omega
      have hmv := move_v vV hm0
      refine lv_aload_n hx hb dX5_act_30 rfl (lv_at hl 1 rfl) ?_
      refine g_get (ci := 5) (C := RX5) (T := TX5) (N := 3) (v := .ref (R 0)) hx hb hfX5 (fun _ h9 => h9) hown hk hW hX.1 rfl 0 (by decide) (hts (.fieldLink RX5 20 "JugsAndGlasses" "jugs" "LJugsAndGlasses$Jugs;") (by decide +kernel)) rfl rfl dX5_act_31 ?_
      refine lv_iload_n hx hb dX5_act_34 rfl (lv_at hl 2 rfl) ?_
      refine lv_iload_n hx hb dX5_act_35 rfl (lv_at hl 0 rfl) ?_
      refine g_callV (As := [.int (J a), .int (J (p_mv (DI 1 0) (DI 1 2) (DI 1 3) (DA 1 4) (DA 1 5) a))]) (rest := []) (b := R 0) (ci := 1) (C := RX1) (T := TX1) (N := 7) ⟨hx, hb, hml, hown, hts⟩ (k_move l g base sa h0 (R 0) (DR 1) (DI 1) (DA 1) a (p_mv (DI 1 0) (DI 1 2) (DI 1 3) (DA 1 4) (DA 1 5) a) hG ha9 hn) (cwV 2 hts gX5_act_X1_move rfl rfl rfl (by decide +kernel) ⟨Nat.le_of_ble_eq_true rfl, Nat.le_of_ble_eq_true rfl⟩) hk hW hS hG.1 rfl rfl hl.1 (Nat.le_of_ble_eq_true rfl) dX5_act_36 ⟨Nat.le_of_ble_eq_true rfl, Nat.le_of_ble_eq_true rfl⟩ (fun r9 h9 H locs hp hW hS => ?_)
      obtain ⟨rfl, hGn, hF9⟩ := hp
      refine W.eq (g2 := F0 m 39 ls []) rfl ?_
      rw [if_neg c_8] at hGn
      have hF9 : Fr (QF (R 1) DR 1) h0 h9 := by rw [hj0] at hF9; exact hF9
      have hF := hF.tr hF9 (fun q w _ => ⟨1, by omega, w⟩)
      have hX := hX.fr hF9 (fun q w z => aX q w ⟨1, by omega, z⟩)
      have hB := QB_j hB hF9 (by rw [hj0] at hGn; exact hGn)
      generalize h9 = h at hX hB hF hW hGn
      have hG := hGn
      refine lv_aload_n hx hb dX5_act_39 rfl (lv_at hl 1 rfl) ?_
      refine g_get (ci := 5) (C := RX5) (T := TX5) (N := 3) (v := .ref (R 1)) hx hb hfX5 (fun _ h9 => h9) hown hk hW hX.1 rfl 1 (by decide) (hts (.fieldLink RX5 10 "JugsAndGlasses" "search" "LJugsAndGlasses$Search;") (by decide +kernel)) rfl rfl dX5_act_40 ?_
      refine g_callV (As := []) (rest := []) (b := R 1) (ci := 2) (C := RX2) (T := TX2) (N := 9) ⟨hx, hb, hml, hown, hts⟩ (q_forget l g base sa h (R 1) DR ((va_up DI 1 (DI 1))) DL ((va_up DA 1 (va_up (DA 1) 5 (p_move (DA 1 5) a (p_mv (DI 1 0) (DI 1 2) (DI 1 3) (DA 1 4) (DA 1 5) a))))) hB) (cwV 0 hts gX5_act_X2_forget rfl rfl rfl (by decide +kernel) ⟨Nat.le_of_ble_eq_true rfl, Nat.le_of_ble_eq_true rfl⟩) hk hW hS hB.1.1 rfl rfl hl.1 (Nat.le_of_ble_eq_true rfl) dX5_act_43 ⟨Nat.le_of_ble_eq_true rfl, Nat.le_of_ble_eq_true rfl⟩ (fun r9 h9 H locs hp hW hS => ?_)
      obtain ⟨rfl, hF9, hB⟩ := hp
      refine W.eq (g2 := F0 m 46 ls []) rfl ?_
      have hF := hF.tr hF9 (fun q w _ => ⟨0, by omega, w⟩)
      have hX := hX.fr hF9 (fun q w z => aX q w ⟨0, by omega, z⟩)
      generalize h9 = h at hX hB hF hW
      have hG : OB g 1 7 kd1 h (R 0) (DR 1) ((DI 1)) L4 ((va_up (DA 1) 5 (p_move (DA 1 5) a (p_mv (DI 1 0) (DI 1 2) (DI 1 3) (DA 1 4) (DA 1 5) a)))) := by rw [hj0]; exact hB.2.1
      refine lv_iload_n hx hb dX5_act_46 rfl (lv_at hl 0 rfl) ?_
      exact g_iret hx hb hr hW hS dX5_act_47 hlocks (⟨hF, Or.inr (Or.inr ⟨hac2, hm0, rfl, _, _, hB, QV_j2 hV ⟨rfl, rfl, rfl⟩ (Wok_hd vW hmv (fun i i0 _ => p_move_out hac2.2.2 i0)) hmv ⟨vZ.2.1, vZ.2.2.2⟩, rfl, rfl, rfl⟩)⟩)
    · refine lv_bipush (v := J (-3)) hx hb dX5_act_27 (by decide) ?_
      exact g_iret hx hb hr hW hS dX5_act_29 hlocks (⟨hF, Or.inr (Or.inl ⟨hac2, by omega, rfl, rfl⟩)⟩)
  · refine lv_bipush (v := J (-2)) hx hb dX5_act_11 (by decide) ?_
    exact g_iret hx hb hr hW hS dX5_act_13 hlocks (⟨hF, Or.inl ⟨fun w => by unfold p_haveAct at c_8; rw [if_pos ⟨w.1, w.2.1, w.2.2⟩] at c_8; omega, rfl, rfl⟩⟩)

set_option maxHeartbeats 4000000 in
set_option maxRecDepth 100000 in
theorem x_set (l : Launch) (g : GX) (base : Nat) (sa : Nat → Nat) (h0 : Hp) (o : Nat) (R : Nat → Nat) (I L : Nat → Int) (A : Nat → Int → Int) (DR : Nat → Nat → Nat) (DI DL : Nat → Nat → Int) (DA : Nat → Nat → Int → Int) (a b : Int) (hX : OB g 5 3 kd5 h0 o R I L A) (hB : QB g h0 (R 1) DR DI DL DA) (hV : QV DI DL DA) (hj0 : R 0 = DR 0 0) (aX : ∀ q, FP 3 kd5 o R q → ¬ FS (R 1) DR q) (ha9 : i32 a) (hb9 : b = 0 ∨ b = 1) : MC l g base sa yX5_set wsX5_set ({ frames := 1, cells := 0, slots := 0, locals := 20 }) ([.ref o, .int (J a), .int (J b)]) h0 (fun r9 h' => Fr (FS (R 1) DR) h0 h' ∧ ((¬ (a = 0 ∨ a = 1) ∧ r9 = some (.int (J (-2))) ∧ h' = h0) ∨ (a = 0 ∧ r9 = some (.int (J (DI 1 2))) ∧ ∃ DI' DA', QB g h' (R 1) DR DI' DL DA' ∧ QV DI' DL DA' ∧ DI' 1 = va_up (DI 1) 2 b ∧ DA' 1 = DA 1) ∨ (a = 1 ∧ r9 = some (.int (J (DI 1 3))) ∧ ∃ DI' DA', QB g h' (R 1) DR DI' DL DA' ∧ QV DI' DL DA' ∧ DI' 1 = va_up (DI 1) 3 b ∧ DA' 1 = DA 1))) := by
  refine Met.ofW (cc := cX5_set) (maxL := 4) (ret := (some .int)) (by decide) rfl ?_
  intro p e s m args below meth c s₁ B hml hv
  obtain ⟨rfl, hk, hW⟩ := hv
  have hx := B.exec
  have hb := B.bytes
  have hr := B.returns
  have hts := atoms_spec (ws := wsX5_set) B.pre
  have hown : s.vm.findClass RX5 = some m.cls := findClass_of_methodNamed B.named
  have hlocks := B.notSynchronized
  have hfX1 : ∀ w ∈ wsX10, w.before ([.ref o, .int (J a), .int (J b)]).toArray s = true := fun w h => hts w (List.mem_cons_of_mem _ (List.mem_append_left _ (List.mem_append_right _ h)))
  have hfX2 : ∀ w ∈ wsX20, w.before ([.ref o, .int (J a), .int (J b)]).toArray s = true := fun w h => hts w (List.mem_cons_of_mem _ (List.mem_append_right _ h))
  have hfX5 : ∀ w ∈ wsX50, w.before ([.ref o, .int (J a), .int (J b)]).toArray s = true := fun w h => hts w (List.mem_cons_of_mem _ (List.mem_append_left _ (List.mem_append_left _ (List.mem_append_right _ h))))
  have hS : va_S (Ab base) s.heap s.heap [] := va_S.rf
  have hl := lv_entry ([.ref o, .int (J a), .int (J b)]) (n := 4) (Nat.le_of_ble_eq_true rfl)
  rw [lg_entry_eq]
  generalize (lg_sl ([.ref o, .int (J a), .int (J b)]) ++ List.replicate (4 - (lg_sl ([.ref o, .int (J a), .int (J b)])).length) Slot.unset).toArray = ls at hl ⊢
  have hl : lv_has ls 4 [(0, .ref o), (1, .int (J a)), (2, .int (J b))] := hl
  have hF : Fr (FS (R 1) DR) h0 h0 := Fr.rf
  obtain ⟨vW, vV, vZ, vF, vA, vT, vS, vg, f6, f7, f8⟩ := id hV
  have hn : 0 ≤ DI 1 0 ∧ DI 1 0 ≤ 4 := ⟨vW.1.1, vW.1.2.1⟩
  have hG : OB g 1 7 kd1 h0 (R 0) (DR 1) (DI 1) L4 (DA 1) := by rw [hj0]; exact hB.2.1
  obtain ⟨ha1, ha2⟩ := id ha9
  have hb2 := vW.2.1
  have hb3 := vW.2.2.1
  have aXJ : ∀ q, FP 3 kd5 o R q → ¬ FP 7 kd1 (R 0) (DR 1) q := fun q w z => aX q w ⟨1, by omega, by show FP 7 kd1 (DR 0 0) (DR 1) q; rw [← hj0]; exact z⟩
  refine lv_iload_n hx hb dX5_set_0 rfl (lv_at hl 1 rfl) ?_
  refine j_if_eq (x := a) (tgt := 12) hx hb ⟨by omega, by omega⟩ dX5_set_1 (by decide) (fun c_1 => ?_) (fun c_1 => ?_)
  · refine lv_iload_n hx hb dX5_set_12 rfl (lv_at hl 1 rfl) ?_
    refine j_if_ne (x := a) (tgt := 26) hx hb ⟨by omega, by omega⟩ dX5_set_13 (by decide) (fun c_13 => ?_) (fun c_13 => ?_)
    · refine lv_aload_n hx hb dX5_set_26 rfl (lv_at hl 0 rfl) ?_
      refine g_get (ci := 5) (C := RX5) (T := TX5) (N := 3) (v := .ref (R 0)) hx hb hfX5 (fun _ h9 => h9) hown hk hW hX.1 rfl 0 (by decide) (hts (.fieldLink RX5 20 "JugsAndGlasses" "jugs" "LJugsAndGlasses$Jugs;") (by decide +kernel)) rfl rfl dX5_set_27 ?_
      refine g_get (ci := 1) (C := RX1) (T := TX1) (N := 7) (v := .int (J ((DI 1) 3))) hx hb hfX1 (fun _ h9 => h9) hown hk hW hG.1 rfl 3 (by decide) (hts (.fieldLink RX5 45 "JugsAndGlasses$Jugs" "drain" "Z") (by decide +kernel)) rfl rfl dX5_set_30 ?_
      refine lv_istore_n (lv' := [(3, .int (J ((DI 1) 3))), (0, .ref o), (1, .int (J a)), (2, .int (J b))]) hx hb dX5_set_33 rfl hl (by decide) rfl (fun ls hl => ?_)
      refine lv_iload_n hx hb dX5_set_34 rfl (lv_at hl 2 rfl) ?_
      refine j_if_ne (x := a) (tgt := 49) hx hb ⟨by omega, by omega⟩ dX5_set_35 (by decide) (fun c_35 => ?_) (fun c_35 => ?_)
      · refine lv_aload_n hx hb dX5_set_49 rfl (lv_at hl 1 rfl) ?_
        refine g_get (ci := 5) (C := RX5) (T := TX5) (N := 3) (v := .ref (R 0)) hx hb hfX5 (fun _ h9 => h9) hown hk hW hX.1 rfl 0 (by decide) (hts (.fieldLink RX5 20 "JugsAndGlasses" "jugs" "LJugsAndGlasses$Jugs;") (by decide +kernel)) rfl rfl dX5_set_50 ?_
        refine lv_iload_n hx hb dX5_set_53 rfl (lv_at hl 3 rfl) ?_
        have hBo := hB
        refine o_put (I' := (va_up (DI 1) 3 (b))) (ci := 1) (C := RX1) (T := TX1) (N := 7) (ty := .boolean) hx hb hfX1 (fun _ h9 => h9) tyX1 tyX1_ok nmX1 hown hk hW hS hG hF ⟨1, by omega, Or.inl hj0⟩ rfl 3 (by decide) rfl (hts (.fieldLink RX5 45 "JugsAndGlasses$Jugs" "drain" "Z") (by decide +kernel)) rfl rfl (by decide +kernel) (nb_n (hb9)) (nb_f (hb9)) rfl dX5_set_54 (fun h H locs hG hF hst hW hS => ?_)
        have hX := hX.fr hst (fun q h1 h2 => aXJ q h1 (by rw [h2]; exact FP.o))
        have hB := QB_j hBo (hst.mono (fun q e9 => (show QF (R 1) DR 1 q from Or.inl (by rw [e9]; exact hj0)))) (I' := (va_up (DI 1) 3 (b))) (A' := (DA 1)) (by rw [← hj0]; exact hG)
        refine lv_aload_n hx hb dX5_set_57 rfl (lv_at hl 1 rfl) ?_
        refine g_get (ci := 5) (C := RX5) (T := TX5) (N := 3) (v := .ref (R 1)) hx hb hfX5 (fun _ h9 => h9) hown hk hW hX.1 rfl 1 (by decide) (hts (.fieldLink RX5 10 "JugsAndGlasses" "search" "LJugsAndGlasses$Search;") (by decide +kernel)) rfl rfl dX5_set_58 ?_
        refine g_callV (As := []) (rest := []) (b := R 1) (ci := 2) (C := RX2) (T := TX2) (N := 9) ⟨hx, hb, hml, hown, hts⟩ (q_forget l g base sa h (R 1) DR (va_up DI 1 ((va_up (DI 1) 3 (b)))) DL (va_up DA 1 ((DA 1))) hB) (cwV 0 hts gX5_set_X2_forget rfl rfl rfl (by decide +kernel) ⟨Nat.le_of_ble_eq_true rfl, Nat.le_of_ble_eq_true rfl⟩) hk hW hS hB.1.1 rfl rfl hl.1 (Nat.le_of_ble_eq_true rfl) dX5_set_61 ⟨Nat.le_of_ble_eq_true rfl, Nat.le_of_ble_eq_true rfl⟩ (fun r9 h9 H locs hp hW hS => ?_)
        obtain ⟨rfl, hF9, hB⟩ := hp
        refine W.eq (g2 := F0 m 64 ls []) rfl ?_
        have hF := hF.tr hF9 (fun q w _ => ⟨0, by omega, w⟩)
        have hX := hX.fr hF9 (fun q w z => aX q w ⟨0, by omega, z⟩)
        generalize h9 = h at hX hB hF hW
        have hG : OB g 1 7 kd1 h (R 0) (DR 1) ((va_up (DI 1) 3 (b))) L4 ((DA 1)) := by rw [hj0]; exact hB.2.1
        refine lv_iload_n hx hb dX5_set_64 rfl (lv_at hl 0 rfl) ?_
        refine j_if_eq (x := (DI 1) 3) (tgt := 72) hx hb ⟨by omega, by omega⟩ dX5_set_65 (by decide) (fun c_65 => ?_) (fun c_65 => ?_)
        · refine lv_iconst (v := J (0)) hx hb dX5_set_72 rfl ?_
          exact g_iret hx hb hr hW hS dX5_set_73 hlocks (by first | (exfalso; omega) | exact ⟨hF, Or.inr (Or.inr ⟨by omega, congrArg (fun q : Int => some (Value.int (J q))) (show 0 = DI 1 3 from by have := vW.2.2.1; omega), _, _, hB, QV_j2 hV ⟨rfl, rfl, rfl⟩ (Wok_tp vW hb9).2 vV ⟨vZ.2.1, vZ.2.2.2⟩, rfl, rfl⟩)⟩)
        · refine lv_iconst (v := J (1)) hx hb dX5_set_68 rfl ?_
          refine lv_goto (tgt := 73) hx hb dX5_set_69 (by decide) ?_
          exact g_iret hx hb hr hW hS dX5_set_73 hlocks (by first | (exfalso; omega) | exact ⟨hF, Or.inr (Or.inr ⟨by omega, congrArg (fun q : Int => some (Value.int (J q))) (show 1 = DI 1 3 from by have := vW.2.2.1; omega), _, _, hB, QV_j2 hV ⟨rfl, rfl, rfl⟩ (Wok_tp vW hb9).2 vV ⟨vZ.2.1, vZ.2.2.2⟩, rfl, rfl⟩)⟩)
      · refine lv_aload_n hx hb dX5_set_38 rfl (lv_at hl 1 rfl) ?_
        refine g_get (ci := 5) (C := RX5) (T := TX5) (N := 3) (v := .ref (R 0)) hx hb hfX5 (fun _ h9 => h9) hown hk hW hX.1 rfl 0 (by decide) (hts (.fieldLink RX5 20 "JugsAndGlasses" "jugs" "LJugsAndGlasses$Jugs;") (by decide +kernel)) rfl rfl dX5_set_39 ?_
        refine lv_iload_n hx hb dX5_set_42 rfl (lv_at hl 3 rfl) ?_
        have hBo := hB
        refine o_put (I' := (va_up (DI 1) 2 (b))) (ci := 1) (C := RX1) (T := TX1) (N := 7) (ty := .boolean) hx hb hfX1 (fun _ h9 => h9) tyX1 tyX1_ok nmX1 hown hk hW hS hG hF ⟨1, by omega, Or.inl hj0⟩ rfl 2 (by decide) rfl (hts (.fieldLink RX5 41 "JugsAndGlasses$Jugs" "tap" "Z") (by decide +kernel)) rfl rfl (by decide +kernel) (nb_n (hb9)) (nb_f (hb9)) rfl dX5_set_43 (fun h H locs hG hF hst hW hS => ?_)
        have hX := hX.fr hst (fun q h1 h2 => aXJ q h1 (by rw [h2]; exact FP.o))
        have hB := QB_j hBo (hst.mono (fun q e9 => (show QF (R 1) DR 1 q from Or.inl (by rw [e9]; exact hj0)))) (I' := (va_up (DI 1) 2 (b))) (A' := (DA 1)) (by rw [← hj0]; exact hG)
        refine lv_goto (tgt := 57) hx hb dX5_set_46 (by decide) ?_
        refine lv_aload_n hx hb dX5_set_57 rfl (lv_at hl 1 rfl) ?_
        refine g_get (ci := 5) (C := RX5) (T := TX5) (N := 3) (v := .ref (R 1)) hx hb hfX5 (fun _ h9 => h9) hown hk hW hX.1 rfl 1 (by decide) (hts (.fieldLink RX5 10 "JugsAndGlasses" "search" "LJugsAndGlasses$Search;") (by decide +kernel)) rfl rfl dX5_set_58 ?_
        refine g_callV (As := []) (rest := []) (b := R 1) (ci := 2) (C := RX2) (T := TX2) (N := 9) ⟨hx, hb, hml, hown, hts⟩ (q_forget l g base sa h (R 1) DR (va_up DI 1 ((va_up (DI 1) 2 (b)))) DL (va_up DA 1 ((DA 1))) hB) (cwV 0 hts gX5_set_X2_forget rfl rfl rfl (by decide +kernel) ⟨Nat.le_of_ble_eq_true rfl, Nat.le_of_ble_eq_true rfl⟩) hk hW hS hB.1.1 rfl rfl hl.1 (Nat.le_of_ble_eq_true rfl) dX5_set_61 ⟨Nat.le_of_ble_eq_true rfl, Nat.le_of_ble_eq_true rfl⟩ (fun r9 h9 H locs hp hW hS => ?_)
        obtain ⟨rfl, hF9, hB⟩ := hp
        refine W.eq (g2 := F0 m 64 ls []) rfl ?_
        have hF := hF.tr hF9 (fun q w _ => ⟨0, by omega, w⟩)
        have hX := hX.fr hF9 (fun q w z => aX q w ⟨0, by omega, z⟩)
        generalize h9 = h at hX hB hF hW
        have hG : OB g 1 7 kd1 h (R 0) (DR 1) ((va_up (DI 1) 2 (b))) L4 ((DA 1)) := by rw [hj0]; exact hB.2.1
        refine lv_iload_n hx hb dX5_set_64 rfl (lv_at hl 0 rfl) ?_
        refine j_if_eq (x := (DI 1) 3) (tgt := 72) hx hb ⟨by omega, by omega⟩ dX5_set_65 (by decide) (fun c_65 => ?_) (fun c_65 => ?_)
        · refine lv_iconst (v := J (0)) hx hb dX5_set_72 rfl ?_
          exact g_iret hx hb hr hW hS dX5_set_73 hlocks (by first | (exfalso; omega) | exact ⟨hF, Or.inr (Or.inl ⟨by omega, congrArg (fun q : Int => some (Value.int (J q))) (show 0 = DI 1 2 from by have := vW.2.1; omega), _, _, hB, QV_j2 hV ⟨rfl, rfl, rfl⟩ (Wok_tp vW hb9).1 vV ⟨vZ.2.1, vZ.2.2.2⟩, rfl, rfl⟩)⟩)
        · refine lv_iconst (v := J (1)) hx hb dX5_set_68 rfl ?_
          refine lv_goto (tgt := 73) hx hb dX5_set_69 (by decide) ?_
          exact g_iret hx hb hr hW hS dX5_set_73 hlocks (by first | (exfalso; omega) | exact ⟨hF, Or.inr (Or.inl ⟨by omega, congrArg (fun q : Int => some (Value.int (J q))) (show 1 = DI 1 2 from by have := vW.2.1; omega), _, _, hB, QV_j2 hV ⟨rfl, rfl, rfl⟩ (Wok_tp vW hb9).1 vV ⟨vZ.2.1, vZ.2.2.2⟩, rfl, rfl⟩)⟩)
    · refine lv_aload_n hx hb dX5_set_16 rfl (lv_at hl 0 rfl) ?_
      refine g_get (ci := 5) (C := RX5) (T := TX5) (N := 3) (v := .ref (R 0)) hx hb hfX5 (fun _ h9 => h9) hown hk hW hX.1 rfl 0 (by decide) (hts (.fieldLink RX5 20 "JugsAndGlasses" "jugs" "LJugsAndGlasses$Jugs;") (by decide +kernel)) rfl rfl dX5_set_17 ?_
      refine g_get (ci := 1) (C := RX1) (T := TX1) (N := 7) (v := .int (J ((DI 1) 2))) hx hb hfX1 (fun _ h9 => h9) hown hk hW hG.1 rfl 2 (by decide) (hts (.fieldLink RX5 41 "JugsAndGlasses$Jugs" "tap" "Z") (by decide +kernel)) rfl rfl dX5_set_20 ?_
      refine lv_goto (tgt := 33) hx hb dX5_set_23 (by decide) ?_
      refine lv_istore_n (lv' := [(3, .int (J ((DI 1) 2))), (0, .ref o), (1, .int (J a)), (2, .int (J b))]) hx hb dX5_set_33 rfl hl (by decide) rfl (fun ls hl => ?_)
      refine lv_iload_n hx hb dX5_set_34 rfl (lv_at hl 2 rfl) ?_
      refine j_if_ne (x := a) (tgt := 49) hx hb ⟨by omega, by omega⟩ dX5_set_35 (by decide) (fun c_35 => ?_) (fun c_35 => ?_)
      · refine lv_aload_n hx hb dX5_set_49 rfl (lv_at hl 1 rfl) ?_
        refine g_get (ci := 5) (C := RX5) (T := TX5) (N := 3) (v := .ref (R 0)) hx hb hfX5 (fun _ h9 => h9) hown hk hW hX.1 rfl 0 (by decide) (hts (.fieldLink RX5 20 "JugsAndGlasses" "jugs" "LJugsAndGlasses$Jugs;") (by decide +kernel)) rfl rfl dX5_set_50 ?_
        refine lv_iload_n hx hb dX5_set_53 rfl (lv_at hl 3 rfl) ?_
        have hBo := hB
        refine o_put (I' := (va_up (DI 1) 3 (b))) (ci := 1) (C := RX1) (T := TX1) (N := 7) (ty := .boolean) hx hb hfX1 (fun _ h9 => h9) tyX1 tyX1_ok nmX1 hown hk hW hS hG hF ⟨1, by omega, Or.inl hj0⟩ rfl 3 (by decide) rfl (hts (.fieldLink RX5 45 "JugsAndGlasses$Jugs" "drain" "Z") (by decide +kernel)) rfl rfl (by decide +kernel) (nb_n (hb9)) (nb_f (hb9)) rfl dX5_set_54 (fun h H locs hG hF hst hW hS => ?_)
        have hX := hX.fr hst (fun q h1 h2 => aXJ q h1 (by rw [h2]; exact FP.o))
        have hB := QB_j hBo (hst.mono (fun q e9 => (show QF (R 1) DR 1 q from Or.inl (by rw [e9]; exact hj0)))) (I' := (va_up (DI 1) 3 (b))) (A' := (DA 1)) (by rw [← hj0]; exact hG)
        refine lv_aload_n hx hb dX5_set_57 rfl (lv_at hl 1 rfl) ?_
        refine g_get (ci := 5) (C := RX5) (T := TX5) (N := 3) (v := .ref (R 1)) hx hb hfX5 (fun _ h9 => h9) hown hk hW hX.1 rfl 1 (by decide) (hts (.fieldLink RX5 10 "JugsAndGlasses" "search" "LJugsAndGlasses$Search;") (by decide +kernel)) rfl rfl dX5_set_58 ?_
        refine g_callV (As := []) (rest := []) (b := R 1) (ci := 2) (C := RX2) (T := TX2) (N := 9) ⟨hx, hb, hml, hown, hts⟩ (q_forget l g base sa h (R 1) DR (va_up DI 1 ((va_up (DI 1) 3 (b)))) DL (va_up DA 1 ((DA 1))) hB) (cwV 0 hts gX5_set_X2_forget rfl rfl rfl (by decide +kernel) ⟨Nat.le_of_ble_eq_true rfl, Nat.le_of_ble_eq_true rfl⟩) hk hW hS hB.1.1 rfl rfl hl.1 (Nat.le_of_ble_eq_true rfl) dX5_set_61 ⟨Nat.le_of_ble_eq_true rfl, Nat.le_of_ble_eq_true rfl⟩ (fun r9 h9 H locs hp hW hS => ?_)
        obtain ⟨rfl, hF9, hB⟩ := hp
        refine W.eq (g2 := F0 m 64 ls []) rfl ?_
        have hF := hF.tr hF9 (fun q w _ => ⟨0, by omega, w⟩)
        have hX := hX.fr hF9 (fun q w z => aX q w ⟨0, by omega, z⟩)
        generalize h9 = h at hX hB hF hW
        have hG : OB g 1 7 kd1 h (R 0) (DR 1) ((va_up (DI 1) 3 (b))) L4 ((DA 1)) := by rw [hj0]; exact hB.2.1
        refine lv_iload_n hx hb dX5_set_64 rfl (lv_at hl 0 rfl) ?_
        refine j_if_eq (x := (DI 1) 2) (tgt := 72) hx hb ⟨by omega, by omega⟩ dX5_set_65 (by decide) (fun c_65 => ?_) (fun c_65 => ?_)
        · refine lv_iconst (v := J (0)) hx hb dX5_set_72 rfl ?_
          exact g_iret hx hb hr hW hS dX5_set_73 hlocks (by first | (exfalso; omega) | exact ⟨hF, Or.inr (Or.inr ⟨by omega, congrArg (fun q : Int => some (Value.int (J q))) (show 0 = DI 1 3 from by have := vW.2.2.1; omega), _, _, hB, QV_j2 hV ⟨rfl, rfl, rfl⟩ (Wok_tp vW hb9).2 vV ⟨vZ.2.1, vZ.2.2.2⟩, rfl, rfl⟩)⟩)
        · refine lv_iconst (v := J (1)) hx hb dX5_set_68 rfl ?_
          refine lv_goto (tgt := 73) hx hb dX5_set_69 (by decide) ?_
          exact g_iret hx hb hr hW hS dX5_set_73 hlocks (by first | (exfalso; omega) | exact ⟨hF, Or.inr (Or.inr ⟨by omega, congrArg (fun q : Int => some (Value.int (J q))) (show 1 = DI 1 3 from by have := vW.2.2.1; omega), _, _, hB, QV_j2 hV ⟨rfl, rfl, rfl⟩ (Wok_tp vW hb9).2 vV ⟨vZ.2.1, vZ.2.2.2⟩, rfl, rfl⟩)⟩)
      · refine lv_aload_n hx hb dX5_set_38 rfl (lv_at hl 1 rfl) ?_
        refine g_get (ci := 5) (C := RX5) (T := TX5) (N := 3) (v := .ref (R 0)) hx hb hfX5 (fun _ h9 => h9) hown hk hW hX.1 rfl 0 (by decide) (hts (.fieldLink RX5 20 "JugsAndGlasses" "jugs" "LJugsAndGlasses$Jugs;") (by decide +kernel)) rfl rfl dX5_set_39 ?_
        refine lv_iload_n hx hb dX5_set_42 rfl (lv_at hl 3 rfl) ?_
        have hBo := hB
        refine o_put (I' := (va_up (DI 1) 2 (b))) (ci := 1) (C := RX1) (T := TX1) (N := 7) (ty := .boolean) hx hb hfX1 (fun _ h9 => h9) tyX1 tyX1_ok nmX1 hown hk hW hS hG hF ⟨1, by omega, Or.inl hj0⟩ rfl 2 (by decide) rfl (hts (.fieldLink RX5 41 "JugsAndGlasses$Jugs" "tap" "Z") (by decide +kernel)) rfl rfl (by decide +kernel) (nb_n (hb9)) (nb_f (hb9)) rfl dX5_set_43 (fun h H locs hG hF hst hW hS => ?_)
        have hX := hX.fr hst (fun q h1 h2 => aXJ q h1 (by rw [h2]; exact FP.o))
        have hB := QB_j hBo (hst.mono (fun q e9 => (show QF (R 1) DR 1 q from Or.inl (by rw [e9]; exact hj0)))) (I' := (va_up (DI 1) 2 (b))) (A' := (DA 1)) (by rw [← hj0]; exact hG)
        refine lv_goto (tgt := 57) hx hb dX5_set_46 (by decide) ?_
        refine lv_aload_n hx hb dX5_set_57 rfl (lv_at hl 1 rfl) ?_
        refine g_get (ci := 5) (C := RX5) (T := TX5) (N := 3) (v := .ref (R 1)) hx hb hfX5 (fun _ h9 => h9) hown hk hW hX.1 rfl 1 (by decide) (hts (.fieldLink RX5 10 "JugsAndGlasses" "search" "LJugsAndGlasses$Search;") (by decide +kernel)) rfl rfl dX5_set_58 ?_
        refine g_callV (As := []) (rest := []) (b := R 1) (ci := 2) (C := RX2) (T := TX2) (N := 9) ⟨hx, hb, hml, hown, hts⟩ (q_forget l g base sa h (R 1) DR (va_up DI 1 ((va_up (DI 1) 2 (b)))) DL (va_up DA 1 ((DA 1))) hB) (cwV 0 hts gX5_set_X2_forget rfl rfl rfl (by decide +kernel) ⟨Nat.le_of_ble_eq_true rfl, Nat.le_of_ble_eq_true rfl⟩) hk hW hS hB.1.1 rfl rfl hl.1 (Nat.le_of_ble_eq_true rfl) dX5_set_61 ⟨Nat.le_of_ble_eq_true rfl, Nat.le_of_ble_eq_true rfl⟩ (fun r9 h9 H locs hp hW hS => ?_)
        obtain ⟨rfl, hF9, hB⟩ := hp
        refine W.eq (g2 := F0 m 64 ls []) rfl ?_
        have hF := hF.tr hF9 (fun q w _ => ⟨0, by omega, w⟩)
        have hX := hX.fr hF9 (fun q w z => aX q w ⟨0, by omega, z⟩)
        generalize h9 = h at hX hB hF hW
        have hG : OB g 1 7 kd1 h (R 0) (DR 1) ((va_up (DI 1) 2 (b))) L4 ((DA 1)) := by rw [hj0]; exact hB.2.1
        refine lv_iload_n hx hb dX5_set_64 rfl (lv_at hl 0 rfl) ?_
        refine j_if_eq (x := (DI 1) 2) (tgt := 72) hx hb ⟨by omega, by omega⟩ dX5_set_65 (by decide) (fun c_65 => ?_) (fun c_65 => ?_)
        · refine lv_iconst (v := J (0)) hx hb dX5_set_72 rfl ?_
          exact g_iret hx hb hr hW hS dX5_set_73 hlocks (by first | (exfalso; omega) | exact ⟨hF, Or.inr (Or.inl ⟨by omega, congrArg (fun q : Int => some (Value.int (J q))) (show 0 = DI 1 2 from by have := vW.2.1; omega), _, _, hB, QV_j2 hV ⟨rfl, rfl, rfl⟩ (Wok_tp vW hb9).1 vV ⟨vZ.2.1, vZ.2.2.2⟩, rfl, rfl⟩)⟩)
        · refine lv_iconst (v := J (1)) hx hb dX5_set_68 rfl ?_
          refine lv_goto (tgt := 73) hx hb dX5_set_69 (by decide) ?_
          exact g_iret hx hb hr hW hS dX5_set_73 hlocks (by first | (exfalso; omega) | exact ⟨hF, Or.inr (Or.inl ⟨by omega, congrArg (fun q : Int => some (Value.int (J q))) (show 1 = DI 1 2 from by have := vW.2.1; omega), _, _, hB, QV_j2 hV ⟨rfl, rfl, rfl⟩ (Wok_tp vW hb9).1 vV ⟨vZ.2.1, vZ.2.2.2⟩, rfl, rfl⟩)⟩)
  · refine lv_iload_n hx hb dX5_set_4 rfl (lv_at hl 1 rfl) ?_
    refine lv_iconst (v := J (1)) hx hb dX5_set_5 rfl ?_
    refine j_icmp_eq (x := a) (y := 1) (tgt := 12) hx hb ⟨by omega, by omega⟩ ⟨by decide, by decide⟩ dX5_set_6 (by decide) (fun c_6 => ?_) (fun c_6 => ?_)
    · refine lv_iload_n hx hb dX5_set_12 rfl (lv_at hl 1 rfl) ?_
      refine j_if_ne (x := a) (tgt := 26) hx hb ⟨by omega, by omega⟩ dX5_set_13 (by decide) (fun c_13 => ?_) (fun c_13 => ?_)
      · refine lv_aload_n hx hb dX5_set_26 rfl (lv_at hl 0 rfl) ?_
        refine g_get (ci := 5) (C := RX5) (T := TX5) (N := 3) (v := .ref (R 0)) hx hb hfX5 (fun _ h9 => h9) hown hk hW hX.1 rfl 0 (by decide) (hts (.fieldLink RX5 20 "JugsAndGlasses" "jugs" "LJugsAndGlasses$Jugs;") (by decide +kernel)) rfl rfl dX5_set_27 ?_
        refine g_get (ci := 1) (C := RX1) (T := TX1) (N := 7) (v := .int (J ((DI 1) 3))) hx hb hfX1 (fun _ h9 => h9) hown hk hW hG.1 rfl 3 (by decide) (hts (.fieldLink RX5 45 "JugsAndGlasses$Jugs" "drain" "Z") (by decide +kernel)) rfl rfl dX5_set_30 ?_
        refine lv_istore_n (lv' := [(3, .int (J ((DI 1) 3))), (0, .ref o), (1, .int (J a)), (2, .int (J b))]) hx hb dX5_set_33 rfl hl (by decide) rfl (fun ls hl => ?_)
        refine lv_iload_n hx hb dX5_set_34 rfl (lv_at hl 2 rfl) ?_
        refine j_if_ne (x := a) (tgt := 49) hx hb ⟨by omega, by omega⟩ dX5_set_35 (by decide) (fun c_35 => ?_) (fun c_35 => ?_)
        · refine lv_aload_n hx hb dX5_set_49 rfl (lv_at hl 1 rfl) ?_
          refine g_get (ci := 5) (C := RX5) (T := TX5) (N := 3) (v := .ref (R 0)) hx hb hfX5 (fun _ h9 => h9) hown hk hW hX.1 rfl 0 (by decide) (hts (.fieldLink RX5 20 "JugsAndGlasses" "jugs" "LJugsAndGlasses$Jugs;") (by decide +kernel)) rfl rfl dX5_set_50 ?_
          refine lv_iload_n hx hb dX5_set_53 rfl (lv_at hl 3 rfl) ?_
          have hBo := hB
          refine o_put (I' := (va_up (DI 1) 3 (b))) (ci := 1) (C := RX1) (T := TX1) (N := 7) (ty := .boolean) hx hb hfX1 (fun _ h9 => h9) tyX1 tyX1_ok nmX1 hown hk hW hS hG hF ⟨1, by omega, Or.inl hj0⟩ rfl 3 (by decide) rfl (hts (.fieldLink RX5 45 "JugsAndGlasses$Jugs" "drain" "Z") (by decide +kernel)) rfl rfl (by decide +kernel) (nb_n (hb9)) (nb_f (hb9)) rfl dX5_set_54 (fun h H locs hG hF hst hW hS => ?_)
          have hX := hX.fr hst (fun q h1 h2 => aXJ q h1 (by rw [h2]; exact FP.o))
          have hB := QB_j hBo (hst.mono (fun q e9 => (show QF (R 1) DR 1 q from Or.inl (by rw [e9]; exact hj0)))) (I' := (va_up (DI 1) 3 (b))) (A' := (DA 1)) (by rw [← hj0]; exact hG)
          refine lv_aload_n hx hb dX5_set_57 rfl (lv_at hl 1 rfl) ?_
          refine g_get (ci := 5) (C := RX5) (T := TX5) (N := 3) (v := .ref (R 1)) hx hb hfX5 (fun _ h9 => h9) hown hk hW hX.1 rfl 1 (by decide) (hts (.fieldLink RX5 10 "JugsAndGlasses" "search" "LJugsAndGlasses$Search;") (by decide +kernel)) rfl rfl dX5_set_58 ?_
          refine g_callV (As := []) (rest := []) (b := R 1) (ci := 2) (C := RX2) (T := TX2) (N := 9) ⟨hx, hb, hml, hown, hts⟩ (q_forget l g base sa h (R 1) DR (va_up DI 1 ((va_up (DI 1) 3 (b)))) DL (va_up DA 1 ((DA 1))) hB) (cwV 0 hts gX5_set_X2_forget rfl rfl rfl (by decide +kernel) ⟨Nat.le_of_ble_eq_true rfl, Nat.le_of_ble_eq_true rfl⟩) hk hW hS hB.1.1 rfl rfl hl.1 (Nat.le_of_ble_eq_true rfl) dX5_set_61 ⟨Nat.le_of_ble_eq_true rfl, Nat.le_of_ble_eq_true rfl⟩ (fun r9 h9 H locs hp hW hS => ?_)
          obtain ⟨rfl, hF9, hB⟩ := hp
          refine W.eq (g2 := F0 m 64 ls []) rfl ?_
          have hF := hF.tr hF9 (fun q w _ => ⟨0, by omega, w⟩)
          have hX := hX.fr hF9 (fun q w z => aX q w ⟨0, by omega, z⟩)
          generalize h9 = h at hX hB hF hW
          have hG : OB g 1 7 kd1 h (R 0) (DR 1) ((va_up (DI 1) 3 (b))) L4 ((DA 1)) := by rw [hj0]; exact hB.2.1
          refine lv_iload_n hx hb dX5_set_64 rfl (lv_at hl 0 rfl) ?_
          refine j_if_eq (x := (DI 1) 3) (tgt := 72) hx hb ⟨by omega, by omega⟩ dX5_set_65 (by decide) (fun c_65 => ?_) (fun c_65 => ?_)
          · refine lv_iconst (v := J (0)) hx hb dX5_set_72 rfl ?_
            exact g_iret hx hb hr hW hS dX5_set_73 hlocks (by first | (exfalso; omega) | exact ⟨hF, Or.inr (Or.inr ⟨by omega, congrArg (fun q : Int => some (Value.int (J q))) (show 0 = DI 1 3 from by have := vW.2.2.1; omega), _, _, hB, QV_j2 hV ⟨rfl, rfl, rfl⟩ (Wok_tp vW hb9).2 vV ⟨vZ.2.1, vZ.2.2.2⟩, rfl, rfl⟩)⟩)
          · refine lv_iconst (v := J (1)) hx hb dX5_set_68 rfl ?_
            refine lv_goto (tgt := 73) hx hb dX5_set_69 (by decide) ?_
            exact g_iret hx hb hr hW hS dX5_set_73 hlocks (by first | (exfalso; omega) | exact ⟨hF, Or.inr (Or.inr ⟨by omega, congrArg (fun q : Int => some (Value.int (J q))) (show 1 = DI 1 3 from by have := vW.2.2.1; omega), _, _, hB, QV_j2 hV ⟨rfl, rfl, rfl⟩ (Wok_tp vW hb9).2 vV ⟨vZ.2.1, vZ.2.2.2⟩, rfl, rfl⟩)⟩)
        · refine lv_aload_n hx hb dX5_set_38 rfl (lv_at hl 1 rfl) ?_
          refine g_get (ci := 5) (C := RX5) (T := TX5) (N := 3) (v := .ref (R 0)) hx hb hfX5 (fun _ h9 => h9) hown hk hW hX.1 rfl 0 (by decide) (hts (.fieldLink RX5 20 "JugsAndGlasses" "jugs" "LJugsAndGlasses$Jugs;") (by decide +kernel)) rfl rfl dX5_set_39 ?_
          refine lv_iload_n hx hb dX5_set_42 rfl (lv_at hl 3 rfl) ?_
          have hBo := hB
          refine o_put (I' := (va_up (DI 1) 2 (b))) (ci := 1) (C := RX1) (T := TX1) (N := 7) (ty := .boolean) hx hb hfX1 (fun _ h9 => h9) tyX1 tyX1_ok nmX1 hown hk hW hS hG hF ⟨1, by omega, Or.inl hj0⟩ rfl 2 (by decide) rfl (hts (.fieldLink RX5 41 "JugsAndGlasses$Jugs" "tap" "Z") (by decide +kernel)) rfl rfl (by decide +kernel) (nb_n (hb9)) (nb_f (hb9)) rfl dX5_set_43 (fun h H locs hG hF hst hW hS => ?_)
          have hX := hX.fr hst (fun q h1 h2 => aXJ q h1 (by rw [h2]; exact FP.o))
          have hB := QB_j hBo (hst.mono (fun q e9 => (show QF (R 1) DR 1 q from Or.inl (by rw [e9]; exact hj0)))) (I' := (va_up (DI 1) 2 (b))) (A' := (DA 1)) (by rw [← hj0]; exact hG)
          refine lv_goto (tgt := 57) hx hb dX5_set_46 (by decide) ?_
          refine lv_aload_n hx hb dX5_set_57 rfl (lv_at hl 1 rfl) ?_
          refine g_get (ci := 5) (C := RX5) (T := TX5) (N := 3) (v := .ref (R 1)) hx hb hfX5 (fun _ h9 => h9) hown hk hW hX.1 rfl 1 (by decide) (hts (.fieldLink RX5 10 "JugsAndGlasses" "search" "LJugsAndGlasses$Search;") (by decide +kernel)) rfl rfl dX5_set_58 ?_
          refine g_callV (As := []) (rest := []) (b := R 1) (ci := 2) (C := RX2) (T := TX2) (N := 9) ⟨hx, hb, hml, hown, hts⟩ (q_forget l g base sa h (R 1) DR (va_up DI 1 ((va_up (DI 1) 2 (b)))) DL (va_up DA 1 ((DA 1))) hB) (cwV 0 hts gX5_set_X2_forget rfl rfl rfl (by decide +kernel) ⟨Nat.le_of_ble_eq_true rfl, Nat.le_of_ble_eq_true rfl⟩) hk hW hS hB.1.1 rfl rfl hl.1 (Nat.le_of_ble_eq_true rfl) dX5_set_61 ⟨Nat.le_of_ble_eq_true rfl, Nat.le_of_ble_eq_true rfl⟩ (fun r9 h9 H locs hp hW hS => ?_)
          obtain ⟨rfl, hF9, hB⟩ := hp
          refine W.eq (g2 := F0 m 64 ls []) rfl ?_
          have hF := hF.tr hF9 (fun q w _ => ⟨0, by omega, w⟩)
          have hX := hX.fr hF9 (fun q w z => aX q w ⟨0, by omega, z⟩)
          generalize h9 = h at hX hB hF hW
          have hG : OB g 1 7 kd1 h (R 0) (DR 1) ((va_up (DI 1) 2 (b))) L4 ((DA 1)) := by rw [hj0]; exact hB.2.1
          refine lv_iload_n hx hb dX5_set_64 rfl (lv_at hl 0 rfl) ?_
          refine j_if_eq (x := (DI 1) 3) (tgt := 72) hx hb ⟨by omega, by omega⟩ dX5_set_65 (by decide) (fun c_65 => ?_) (fun c_65 => ?_)
          · refine lv_iconst (v := J (0)) hx hb dX5_set_72 rfl ?_
            exact g_iret hx hb hr hW hS dX5_set_73 hlocks (by first | (exfalso; omega) | exact ⟨hF, Or.inr (Or.inl ⟨by omega, congrArg (fun q : Int => some (Value.int (J q))) (show 0 = DI 1 2 from by have := vW.2.1; omega), _, _, hB, QV_j2 hV ⟨rfl, rfl, rfl⟩ (Wok_tp vW hb9).1 vV ⟨vZ.2.1, vZ.2.2.2⟩, rfl, rfl⟩)⟩)
          · refine lv_iconst (v := J (1)) hx hb dX5_set_68 rfl ?_
            refine lv_goto (tgt := 73) hx hb dX5_set_69 (by decide) ?_
            exact g_iret hx hb hr hW hS dX5_set_73 hlocks (by first | (exfalso; omega) | exact ⟨hF, Or.inr (Or.inl ⟨by omega, congrArg (fun q : Int => some (Value.int (J q))) (show 1 = DI 1 2 from by have := vW.2.1; omega), _, _, hB, QV_j2 hV ⟨rfl, rfl, rfl⟩ (Wok_tp vW hb9).1 vV ⟨vZ.2.1, vZ.2.2.2⟩, rfl, rfl⟩)⟩)
      · refine lv_aload_n hx hb dX5_set_16 rfl (lv_at hl 0 rfl) ?_
        refine g_get (ci := 5) (C := RX5) (T := TX5) (N := 3) (v := .ref (R 0)) hx hb hfX5 (fun _ h9 => h9) hown hk hW hX.1 rfl 0 (by decide) (hts (.fieldLink RX5 20 "JugsAndGlasses" "jugs" "LJugsAndGlasses$Jugs;") (by decide +kernel)) rfl rfl dX5_set_17 ?_
        refine g_get (ci := 1) (C := RX1) (T := TX1) (N := 7) (v := .int (J ((DI 1) 2))) hx hb hfX1 (fun _ h9 => h9) hown hk hW hG.1 rfl 2 (by decide) (hts (.fieldLink RX5 41 "JugsAndGlasses$Jugs" "tap" "Z") (by decide +kernel)) rfl rfl dX5_set_20 ?_
        refine lv_goto (tgt := 33) hx hb dX5_set_23 (by decide) ?_
        refine lv_istore_n (lv' := [(3, .int (J ((DI 1) 2))), (0, .ref o), (1, .int (J a)), (2, .int (J b))]) hx hb dX5_set_33 rfl hl (by decide) rfl (fun ls hl => ?_)
        refine lv_iload_n hx hb dX5_set_34 rfl (lv_at hl 2 rfl) ?_
        refine j_if_ne (x := a) (tgt := 49) hx hb ⟨by omega, by omega⟩ dX5_set_35 (by decide) (fun c_35 => ?_) (fun c_35 => ?_)
        · refine lv_aload_n hx hb dX5_set_49 rfl (lv_at hl 1 rfl) ?_
          refine g_get (ci := 5) (C := RX5) (T := TX5) (N := 3) (v := .ref (R 0)) hx hb hfX5 (fun _ h9 => h9) hown hk hW hX.1 rfl 0 (by decide) (hts (.fieldLink RX5 20 "JugsAndGlasses" "jugs" "LJugsAndGlasses$Jugs;") (by decide +kernel)) rfl rfl dX5_set_50 ?_
          refine lv_iload_n hx hb dX5_set_53 rfl (lv_at hl 3 rfl) ?_
          have hBo := hB
          refine o_put (I' := (va_up (DI 1) 3 (b))) (ci := 1) (C := RX1) (T := TX1) (N := 7) (ty := .boolean) hx hb hfX1 (fun _ h9 => h9) tyX1 tyX1_ok nmX1 hown hk hW hS hG hF ⟨1, by omega, Or.inl hj0⟩ rfl 3 (by decide) rfl (hts (.fieldLink RX5 45 "JugsAndGlasses$Jugs" "drain" "Z") (by decide +kernel)) rfl rfl (by decide +kernel) (nb_n (hb9)) (nb_f (hb9)) rfl dX5_set_54 (fun h H locs hG hF hst hW hS => ?_)
          have hX := hX.fr hst (fun q h1 h2 => aXJ q h1 (by rw [h2]; exact FP.o))
          have hB := QB_j hBo (hst.mono (fun q e9 => (show QF (R 1) DR 1 q from Or.inl (by rw [e9]; exact hj0)))) (I' := (va_up (DI 1) 3 (b))) (A' := (DA 1)) (by rw [← hj0]; exact hG)
          refine lv_aload_n hx hb dX5_set_57 rfl (lv_at hl 1 rfl) ?_
          refine g_get (ci := 5) (C := RX5) (T := TX5) (N := 3) (v := .ref (R 1)) hx hb hfX5 (fun _ h9 => h9) hown hk hW hX.1 rfl 1 (by decide) (hts (.fieldLink RX5 10 "JugsAndGlasses" "search" "LJugsAndGlasses$Search;") (by decide +kernel)) rfl rfl dX5_set_58 ?_
          refine g_callV (As := []) (rest := []) (b := R 1) (ci := 2) (C := RX2) (T := TX2) (N := 9) ⟨hx, hb, hml, hown, hts⟩ (q_forget l g base sa h (R 1) DR (va_up DI 1 ((va_up (DI 1) 3 (b)))) DL (va_up DA 1 ((DA 1))) hB) (cwV 0 hts gX5_set_X2_forget rfl rfl rfl (by decide +kernel) ⟨Nat.le_of_ble_eq_true rfl, Nat.le_of_ble_eq_true rfl⟩) hk hW hS hB.1.1 rfl rfl hl.1 (Nat.le_of_ble_eq_true rfl) dX5_set_61 ⟨Nat.le_of_ble_eq_true rfl, Nat.le_of_ble_eq_true rfl⟩ (fun r9 h9 H locs hp hW hS => ?_)
          obtain ⟨rfl, hF9, hB⟩ := hp
          refine W.eq (g2 := F0 m 64 ls []) rfl ?_
          have hF := hF.tr hF9 (fun q w _ => ⟨0, by omega, w⟩)
          have hX := hX.fr hF9 (fun q w z => aX q w ⟨0, by omega, z⟩)
          generalize h9 = h at hX hB hF hW
          have hG : OB g 1 7 kd1 h (R 0) (DR 1) ((va_up (DI 1) 3 (b))) L4 ((DA 1)) := by rw [hj0]; exact hB.2.1
          refine lv_iload_n hx hb dX5_set_64 rfl (lv_at hl 0 rfl) ?_
          refine j_if_eq (x := (DI 1) 2) (tgt := 72) hx hb ⟨by omega, by omega⟩ dX5_set_65 (by decide) (fun c_65 => ?_) (fun c_65 => ?_)
          · refine lv_iconst (v := J (0)) hx hb dX5_set_72 rfl ?_
            exact g_iret hx hb hr hW hS dX5_set_73 hlocks (by first | (exfalso; omega) | exact ⟨hF, Or.inr (Or.inr ⟨by omega, congrArg (fun q : Int => some (Value.int (J q))) (show 0 = DI 1 3 from by have := vW.2.2.1; omega), _, _, hB, QV_j2 hV ⟨rfl, rfl, rfl⟩ (Wok_tp vW hb9).2 vV ⟨vZ.2.1, vZ.2.2.2⟩, rfl, rfl⟩)⟩)
          · refine lv_iconst (v := J (1)) hx hb dX5_set_68 rfl ?_
            refine lv_goto (tgt := 73) hx hb dX5_set_69 (by decide) ?_
            exact g_iret hx hb hr hW hS dX5_set_73 hlocks (by first | (exfalso; omega) | exact ⟨hF, Or.inr (Or.inr ⟨by omega, congrArg (fun q : Int => some (Value.int (J q))) (show 1 = DI 1 3 from by have := vW.2.2.1; omega), _, _, hB, QV_j2 hV ⟨rfl, rfl, rfl⟩ (Wok_tp vW hb9).2 vV ⟨vZ.2.1, vZ.2.2.2⟩, rfl, rfl⟩)⟩)
        · refine lv_aload_n hx hb dX5_set_38 rfl (lv_at hl 1 rfl) ?_
          refine g_get (ci := 5) (C := RX5) (T := TX5) (N := 3) (v := .ref (R 0)) hx hb hfX5 (fun _ h9 => h9) hown hk hW hX.1 rfl 0 (by decide) (hts (.fieldLink RX5 20 "JugsAndGlasses" "jugs" "LJugsAndGlasses$Jugs;") (by decide +kernel)) rfl rfl dX5_set_39 ?_
          refine lv_iload_n hx hb dX5_set_42 rfl (lv_at hl 3 rfl) ?_
          have hBo := hB
          refine o_put (I' := (va_up (DI 1) 2 (b))) (ci := 1) (C := RX1) (T := TX1) (N := 7) (ty := .boolean) hx hb hfX1 (fun _ h9 => h9) tyX1 tyX1_ok nmX1 hown hk hW hS hG hF ⟨1, by omega, Or.inl hj0⟩ rfl 2 (by decide) rfl (hts (.fieldLink RX5 41 "JugsAndGlasses$Jugs" "tap" "Z") (by decide +kernel)) rfl rfl (by decide +kernel) (nb_n (hb9)) (nb_f (hb9)) rfl dX5_set_43 (fun h H locs hG hF hst hW hS => ?_)
          have hX := hX.fr hst (fun q h1 h2 => aXJ q h1 (by rw [h2]; exact FP.o))
          have hB := QB_j hBo (hst.mono (fun q e9 => (show QF (R 1) DR 1 q from Or.inl (by rw [e9]; exact hj0)))) (I' := (va_up (DI 1) 2 (b))) (A' := (DA 1)) (by rw [← hj0]; exact hG)
          refine lv_goto (tgt := 57) hx hb dX5_set_46 (by decide) ?_
          refine lv_aload_n hx hb dX5_set_57 rfl (lv_at hl 1 rfl) ?_
          refine g_get (ci := 5) (C := RX5) (T := TX5) (N := 3) (v := .ref (R 1)) hx hb hfX5 (fun _ h9 => h9) hown hk hW hX.1 rfl 1 (by decide) (hts (.fieldLink RX5 10 "JugsAndGlasses" "search" "LJugsAndGlasses$Search;") (by decide +kernel)) rfl rfl dX5_set_58 ?_
          refine g_callV (As := []) (rest := []) (b := R 1) (ci := 2) (C := RX2) (T := TX2) (N := 9) ⟨hx, hb, hml, hown, hts⟩ (q_forget l g base sa h (R 1) DR (va_up DI 1 ((va_up (DI 1) 2 (b)))) DL (va_up DA 1 ((DA 1))) hB) (cwV 0 hts gX5_set_X2_forget rfl rfl rfl (by decide +kernel) ⟨Nat.le_of_ble_eq_true rfl, Nat.le_of_ble_eq_true rfl⟩) hk hW hS hB.1.1 rfl rfl hl.1 (Nat.le_of_ble_eq_true rfl) dX5_set_61 ⟨Nat.le_of_ble_eq_true rfl, Nat.le_of_ble_eq_true rfl⟩ (fun r9 h9 H locs hp hW hS => ?_)
          obtain ⟨rfl, hF9, hB⟩ := hp
          refine W.eq (g2 := F0 m 64 ls []) rfl ?_
          have hF := hF.tr hF9 (fun q w _ => ⟨0, by omega, w⟩)
          have hX := hX.fr hF9 (fun q w z => aX q w ⟨0, by omega, z⟩)
          generalize h9 = h at hX hB hF hW
          have hG : OB g 1 7 kd1 h (R 0) (DR 1) ((va_up (DI 1) 2 (b))) L4 ((DA 1)) := by rw [hj0]; exact hB.2.1
          refine lv_iload_n hx hb dX5_set_64 rfl (lv_at hl 0 rfl) ?_
          refine j_if_eq (x := (DI 1) 2) (tgt := 72) hx hb ⟨by omega, by omega⟩ dX5_set_65 (by decide) (fun c_65 => ?_) (fun c_65 => ?_)
          · refine lv_iconst (v := J (0)) hx hb dX5_set_72 rfl ?_
            exact g_iret hx hb hr hW hS dX5_set_73 hlocks (by first | (exfalso; omega) | exact ⟨hF, Or.inr (Or.inl ⟨by omega, congrArg (fun q : Int => some (Value.int (J q))) (show 0 = DI 1 2 from by have := vW.2.1; omega), _, _, hB, QV_j2 hV ⟨rfl, rfl, rfl⟩ (Wok_tp vW hb9).1 vV ⟨vZ.2.1, vZ.2.2.2⟩, rfl, rfl⟩)⟩)
          · refine lv_iconst (v := J (1)) hx hb dX5_set_68 rfl ?_
            refine lv_goto (tgt := 73) hx hb dX5_set_69 (by decide) ?_
            exact g_iret hx hb hr hW hS dX5_set_73 hlocks (by first | (exfalso; omega) | exact ⟨hF, Or.inr (Or.inl ⟨by omega, congrArg (fun q : Int => some (Value.int (J q))) (show 1 = DI 1 2 from by have := vW.2.1; omega), _, _, hB, QV_j2 hV ⟨rfl, rfl, rfl⟩ (Wok_tp vW hb9).1 vV ⟨vZ.2.1, vZ.2.2.2⟩, rfl, rfl⟩)⟩)
    · refine lv_bipush (v := J (-2)) hx hb dX5_set_9 (by decide) ?_
      exact g_iret hx hb hr hW hS dX5_set_11 hlocks (⟨hF, Or.inl ⟨by omega, rfl, rfl⟩⟩)

set_option maxHeartbeats 4000000 in
set_option maxRecDepth 100000 in
theorem x_put (l : Launch) (g : GX) (base : Nat) (sa : Nat → Nat) (h0 : Hp) (o : Nat) (R : Nat → Nat) (I L : Nat → Int) (A : Nat → Int → Int) (DR : Nat → Nat → Nat) (DI DL : Nat → Nat → Int) (DA : Nat → Nat → Int → Int) (a b : Int) (hX : OB g 5 3 kd5 h0 o R I L A) (hB : QB g h0 (R 1) DR DI DL DA) (hV : QV DI DL DA) (hj0 : R 0 = DR 0 0) (aX : ∀ q, FP 3 kd5 o R q → ¬ FS (R 1) DR q) (ha9 : i32 a) (hb9 : i32 b) : MC l g base sa yX5_put wsX5_put ({ frames := 1, cells := 0, slots := 0, locals := 21 }) ([.ref o, .int (J a), .int (J b)]) h0 (fun r9 h' => Fr (FS (R 1) DR) h0 h' ∧ ((¬ (0 ≤ a ∧ a < DI 1 0 ∧ 0 ≤ b ∧ b ≤ DA 1 4 a) ∧ r9 = some (.int (J (-2))) ∧ h' = h0) ∨ ((0 ≤ a ∧ a < DI 1 0 ∧ 0 ≤ b ∧ b ≤ DA 1 4 a) ∧ r9 = some (.int (J (DA 1 5 a))) ∧ ∃ DI' DA', QB g h' (R 1) DR DI' DL DA' ∧ QV DI' DL DA' ∧ DI' 1 = DI 1 ∧ DA' 1 4 = DA 1 4 ∧ DA' 1 5 = uf (DA 1 5) a b))) := by
  refine Met.ofW (cc := cX5_put) (maxL := 4) (ret := (some .int)) (by decide) rfl ?_
  intro p e s m args below meth c s₁ B hml hv
  obtain ⟨rfl, hk, hW⟩ := hv
  have hx := B.exec
  have hb := B.bytes
  have hr := B.returns
  have hts := atoms_spec (ws := wsX5_put) B.pre
  have hown : s.vm.findClass RX5 = some m.cls := findClass_of_methodNamed B.named
  have hlocks := B.notSynchronized
  have hfX1 : ∀ w ∈ wsX10, w.before ([.ref o, .int (J a), .int (J b)]).toArray s = true := fun w h => hts w (List.mem_cons_of_mem _ (List.mem_append_left _ (List.mem_append_right _ h)))
  have hfX2 : ∀ w ∈ wsX20, w.before ([.ref o, .int (J a), .int (J b)]).toArray s = true := fun w h => hts w (List.mem_cons_of_mem _ (List.mem_append_right _ h))
  have hfX5 : ∀ w ∈ wsX50, w.before ([.ref o, .int (J a), .int (J b)]).toArray s = true := fun w h => hts w (List.mem_cons_of_mem _ (List.mem_append_left _ (List.mem_append_left _ (List.mem_append_right _ h))))
  have hS : va_S (Ab base) s.heap s.heap [] := va_S.rf
  have hl := lv_entry ([.ref o, .int (J a), .int (J b)]) (n := 4) (Nat.le_of_ble_eq_true rfl)
  rw [lg_entry_eq]
  generalize (lg_sl ([.ref o, .int (J a), .int (J b)]) ++ List.replicate (4 - (lg_sl ([.ref o, .int (J a), .int (J b)])).length) Slot.unset).toArray = ls at hl ⊢
  have hl : lv_has ls 4 [(0, .ref o), (1, .int (J a)), (2, .int (J b))] := hl
  have hF : Fr (FS (R 1) DR) h0 h0 := Fr.rf
  obtain ⟨vW, vV, vZ, vF, vA, vT, vS, vg, f6, f7, f8⟩ := id hV
  have hn : 0 ≤ DI 1 0 ∧ DI 1 0 ≤ 4 := ⟨vW.1.1, vW.1.2.1⟩
  have hG : OB g 1 7 kd1 h0 (R 0) (DR 1) (DI 1) L4 (DA 1) := by rw [hj0]; exact hB.2.1
  obtain ⟨ha1, ha2⟩ := id ha9
  obtain ⟨hb1, hb2⟩ := id hb9
  have aXJ : ∀ q, FP 3 kd5 o R q → ¬ FP 7 kd1 (R 0) (DR 1) q := fun q w z => aX q w ⟨1, by omega, by show FP 7 kd1 (DR 0 0) (DR 1) q; rw [← hj0]; exact z⟩
  refine lv_aload_n hx hb dX5_put_0 rfl (lv_at hl 0 rfl) ?_
  refine g_get (ci := 5) (C := RX5) (T := TX5) (N := 3) (v := .ref (R 0)) hx hb hfX5 (fun _ h9 => h9) hown hk hW hX.1 rfl 0 (by decide) (hts (.fieldLink RX5 20 "JugsAndGlasses" "jugs" "LJugsAndGlasses$Jugs;") (by decide +kernel)) rfl rfl dX5_put_1 ?_
  refine lv_iload_n hx hb dX5_put_4 rfl (lv_at hl 1 rfl) ?_
  refine g_callV (As := [.int (J a)]) (rest := []) (b := R 0) (ci := 1) (C := RX1) (T := TX1) (N := 7) ⟨hx, hb, hml, hown, hts⟩ (k_has l g base sa h0 (R 0) (DR 1) (DI 1) (DA 1) a hG ha9 hn) (cwV 1 hts gX5_put_X1_has rfl rfl rfl (by decide +kernel) ⟨Nat.le_of_ble_eq_true rfl, Nat.le_of_ble_eq_true rfl⟩) hk hW hS hG.1 rfl rfl hl.1 (Nat.le_of_ble_eq_true rfl) dX5_put_5 ⟨Nat.le_of_ble_eq_true rfl, Nat.le_of_ble_eq_true rfl⟩ (fun r9 h9 H locs hp hW hS => ?_)
  obtain ⟨rfl, e9⟩ := hp
  rw [e9] at hW
  refine W.eq (g2 := F0 m 8 ls [.int (J (p_has (DI 1 0) a))]) rfl ?_
  have hph := p_has_r (DI 1 0) a
  refine j_if_eq (x := p_has (DI 1 0) a) (tgt := 28) hx hb ⟨by omega, by omega⟩ dX5_put_8 (by decide) (fun c_8 => ?_) (fun c_8 => ?_)
  · refine lv_bipush (v := J (-2)) hx hb dX5_put_28 (by decide) ?_
    exact g_iret hx hb hr hW hS dX5_put_30 hlocks (⟨hF, Or.inl ⟨by first | omega | (have := p_has_0 c_8; omega), rfl, rfl⟩⟩)
  · have hq := p_has_1 c_8
    have hsz := vW.1.2.2 a hq.1 hq.2.1
    refine lv_iload_n hx hb dX5_put_11 rfl (lv_at hl 2 rfl) ?_
    refine j_if_lt (x := b) (tgt := 28) hx hb ⟨by omega, by omega⟩ dX5_put_12 (by decide) (fun c_12 => ?_) (fun c_12 => ?_)
    · refine lv_bipush (v := J (-2)) hx hb dX5_put_28 (by decide) ?_
      exact g_iret hx hb hr hW hS dX5_put_30 hlocks (⟨hF, Or.inl ⟨by first | omega | (have := p_has_0 c_8; omega), rfl, rfl⟩⟩)
    · refine lv_iload_n hx hb dX5_put_15 rfl (lv_at hl 2 rfl) ?_
      refine lv_aload_n hx hb dX5_put_16 rfl (lv_at hl 0 rfl) ?_
      refine g_get (ci := 5) (C := RX5) (T := TX5) (N := 3) (v := .ref (R 0)) hx hb hfX5 (fun _ h9 => h9) hown hk hW hX.1 rfl 0 (by decide) (hts (.fieldLink RX5 20 "JugsAndGlasses" "jugs" "LJugsAndGlasses$Jugs;") (by decide +kernel)) rfl rfl dX5_put_17 ?_
      refine g_get (ci := 1) (C := RX1) (T := TX1) (N := 7) (v := .ref ((DR 1) 4)) hx hb hfX1 (fun _ h9 => h9) hown hk hW hG.1 rfl 4 (by decide) (hts (.fieldLink RX5 52 "JugsAndGlasses$Jugs" "size" "[I") (by decide +kernel)) rfl rfl dX5_put_20 ?_
      refine lv_iload_n hx hb dX5_put_23 rfl (lv_at hl 1 rfl) ?_
      refine g_iald (n := 4) (f := (DA 1) 4) (i := a) hx hb hk hW (hG.ai 4 (by decide) rfl) (by omega) (by omega) (by omega) dX5_put_24 ?_
      refine j_icmp_le (x := b) (y := (DA 1) 4 a) (tgt := 31) hx hb ⟨by omega, by omega⟩ ⟨by omega, by omega⟩ dX5_put_25 (by decide) (fun c_25 => ?_) (fun c_25 => ?_)
      · refine lv_aload_n hx hb dX5_put_31 rfl (lv_at hl 0 rfl) ?_
        refine g_get (ci := 5) (C := RX5) (T := TX5) (N := 3) (v := .ref (R 0)) hx hb hfX5 (fun _ h9 => h9) hown hk hW hX.1 rfl 0 (by decide) (hts (.fieldLink RX5 20 "JugsAndGlasses" "jugs" "LJugsAndGlasses$Jugs;") (by decide +kernel)) rfl rfl dX5_put_32 ?_
        refine g_get (ci := 1) (C := RX1) (T := TX1) (N := 7) (v := .ref ((DR 1) 5)) hx hb hfX1 (fun _ h9 => h9) hown hk hW hG.1 rfl 5 (by decide) (hts (.fieldLink RX5 56 "JugsAndGlasses$Jugs" "held" "[I") (by decide +kernel)) rfl rfl dX5_put_35 ?_
        refine lv_iload_n hx hb dX5_put_38 rfl (lv_at hl 1 rfl) ?_
        refine g_iald (n := 4) (f := (DA 1) 5) (i := a) hx hb hk hW (hG.ai 5 (by decide) rfl) (by omega) (by omega) (by omega) dX5_put_39 ?_
        refine lv_istore_n (lv' := [(3, .int (J ((DA 1) 5 a))), (0, .ref o), (1, .int (J a)), (2, .int (J b))]) hx hb dX5_put_40 rfl hl (by decide) rfl (fun ls hl => ?_)
        refine lv_aload_n hx hb dX5_put_41 rfl (lv_at hl 1 rfl) ?_
        refine g_get (ci := 5) (C := RX5) (T := TX5) (N := 3) (v := .ref (R 0)) hx hb hfX5 (fun _ h9 => h9) hown hk hW hX.1 rfl 0 (by decide) (hts (.fieldLink RX5 20 "JugsAndGlasses" "jugs" "LJugsAndGlasses$Jugs;") (by decide +kernel)) rfl rfl dX5_put_42 ?_
        refine g_get (ci := 1) (C := RX1) (T := TX1) (N := 7) (v := .ref ((DR 1) 5)) hx hb hfX1 (fun _ h9 => h9) hown hk hW hG.1 rfl 5 (by decide) (hts (.fieldLink RX5 56 "JugsAndGlasses$Jugs" "held" "[I") (by decide +kernel)) rfl rfl dX5_put_45 ?_
        refine lv_iload_n hx hb dX5_put_48 rfl (lv_at hl 2 rfl) ?_
        refine lv_iload_n hx hb dX5_put_49 rfl (lv_at hl 3 rfl) ?_
        have hBo := hB
        refine o_iast (A' := (va_up (DA 1) 5 (uf ((DA 1) 5) a b))) (i := a) (x := b) hx hb hk hW hS hG hF 5 (by decide) rfl (⟨1, by omega, Or.inr ⟨5, by decide, ⟨by decide, by decide⟩, rfl⟩⟩) (by omega) (show a < 4 from by omega) (show 4 < 2147483648 from by omega) rfl dX5_put_50 (fun h H locs hG hF hst hW hS => ?_)
        have hX := hX.fr hst (fun q h1 h2 => aXJ q h1 (by rw [h2]; exact FP.a 5 (by decide) ⟨by decide, by decide⟩))
        have hB := QB_j hBo (hst.mono (fun q e9 => (show QF (R 1) DR 1 q from Or.inr ⟨5, by decide, ⟨by decide, by decide⟩, e9⟩))) (I' := (DI 1)) (A' := (va_up (DA 1) 5 (uf ((DA 1) 5) a b))) (by rw [← hj0]; exact hG)
        refine lv_aload_n hx hb dX5_put_51 rfl (lv_at hl 1 rfl) ?_
        refine g_get (ci := 5) (C := RX5) (T := TX5) (N := 3) (v := .ref (R 1)) hx hb hfX5 (fun _ h9 => h9) hown hk hW hX.1 rfl 1 (by decide) (hts (.fieldLink RX5 10 "JugsAndGlasses" "search" "LJugsAndGlasses$Search;") (by decide +kernel)) rfl rfl dX5_put_52 ?_
        refine g_callV (As := []) (rest := []) (b := R 1) (ci := 2) (C := RX2) (T := TX2) (N := 9) ⟨hx, hb, hml, hown, hts⟩ (q_forget l g base sa h (R 1) DR (va_up DI 1 ((DI 1))) DL (va_up DA 1 ((va_up (DA 1) 5 (uf ((DA 1) 5) a b)))) hB) (cwV 0 hts gX5_put_X2_forget rfl rfl rfl (by decide +kernel) ⟨Nat.le_of_ble_eq_true rfl, Nat.le_of_ble_eq_true rfl⟩) hk hW hS hB.1.1 rfl rfl hl.1 (Nat.le_of_ble_eq_true rfl) dX5_put_55 ⟨Nat.le_of_ble_eq_true rfl, Nat.le_of_ble_eq_true rfl⟩ (fun r9 h9 H locs hp hW hS => ?_)
        obtain ⟨rfl, hF9, hB⟩ := hp
        refine W.eq (g2 := F0 m 58 ls []) rfl ?_
        have hF := hF.tr hF9 (fun q w _ => ⟨0, by omega, w⟩)
        have hX := hX.fr hF9 (fun q w z => aX q w ⟨0, by omega, z⟩)
        generalize h9 = h at hX hB hF hW
        have hG : OB g 1 7 kd1 h (R 0) (DR 1) ((DI 1)) L4 ((va_up (DA 1) 5 (uf ((DA 1) 5) a b))) := by rw [hj0]; exact hB.2.1
        refine lv_iload_n hx hb dX5_put_58 rfl (lv_at hl 0 rfl) ?_
        exact g_iret hx hb hr hW hS dX5_put_59 hlocks (⟨hF, Or.inr ⟨by omega, rfl, _, _, hB, QV_j2 hV ⟨rfl, rfl, rfl⟩ (Wok_hd vW (fun i i0 i1 => by by_cases e : i = a; (rw [e, uf_same]; omega); (rw [uf_ne _ _ e]; exact vV i i0 i1)) (fun i i0 _ => uf_ne _ _ (by omega))) (fun i i0 i1 => by show 0 ≤ uf (DA 1 5) a b i ∧ uf (DA 1 5) a b i ≤ DA 1 4 i; by_cases e : i = a; (rw [e, uf_same]; omega); (rw [uf_ne _ _ e]; exact vV i i0 i1)) ⟨vZ.2.1, vZ.2.2.2⟩, rfl, rfl, rfl⟩⟩)
      · refine lv_bipush (v := J (-2)) hx hb dX5_put_28 (by decide) ?_
        exact g_iret hx hb hr hW hS dX5_put_30 hlocks (⟨hF, Or.inl ⟨by first | omega | (have := p_has_0 c_8; omega), rfl, rfl⟩⟩)
