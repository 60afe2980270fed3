set_option maxHeartbeats 4000000 in
set_option maxRecDepth 100000 in
theorem g_leapBy (l : Launch) (g : GX) (base : Nat) (sa : Nat → Nat) (h0 : Hp) (o : Nat) (R : Nat → Nat) (I : Nat → Int) (L : Nat → Int) (A : Nat → Int → Int) (x ch : Int) (hM : OB g 0 12 kd0 h0 o R I L A) (hx9 : 0 ≤ x ∧ x < 1728) (hc9 : 0 ≤ ch ∧ ch < 8) (h8 : x * 8 + ch < L 8 ∧ L 8 ≤ 13824) : MC l g base sa yX0_leapBy wsX0_leapBy ({ frames := 0, cells := 0, slots := 0, locals := 0 }) ([.ref o, .int (J x), .int (J ch)]) h0 (fun r h' => r = some (.int (J (A 8 (x * 8 + ch)))) ∧ h' = h0) := by
  refine Met.ofW (cc := cX0_leapBy) (maxL := 4) (ret := (some .int)) (by decide) rfl ?_
  intro p e s m args below meth c s₁ B hml hv
  obtain ⟨rfl, hk, hW⟩ := hv
  have hx := B.exec
  have hb := B.bytes
  have hr := B.returns
  have hts := atoms_spec (ws := wsX0_leapBy) B.pre
  have hown : s.vm.findClass RX0 = some m.cls := findClass_of_methodNamed B.named
  have hlocks := B.notSynchronized
  have hfX0 : ∀ w ∈ wsX00, w.before ([.ref o, .int (J x), .int (J ch)]).toArray s = true := fun w h => hts w (List.mem_cons_of_mem _ (List.mem_append_right _ h))
  have hS : va_S (Ab base) s.heap s.heap [] := va_S.rf
  have hl := lv_entry ([.ref o, .int (J x), .int (J ch)]) (n := 4) (Nat.le_of_ble_eq_true rfl)
  rw [lg_entry_eq]
  generalize (lg_sl ([.ref o, .int (J x), .int (J ch)]) ++ List.replicate (4 - (lg_sl ([.ref o, .int (J x), .int (J ch)])).length) Slot.unset).toArray = ls at hl ⊢
  have hl : lv_has ls 4 [(0, .ref o), (1, .int (J x)), (2, .int (J ch))] := hl
  refine lv_iload_n hx hb dX0_leapBy_0 rfl (lv_at hl 1 rfl) ?_
  refine lv_bipush (v := J (8)) hx hb dX0_leapBy_1 (by decide) ?_
  refine j_imul hx hb dX0_leapBy_3 ?_
  refine lv_iload_n hx hb dX0_leapBy_4 rfl (lv_at hl 2 rfl) ?_
  refine j_iadd hx hb dX0_leapBy_5 ?_
  refine lv_istore_n (lv' := [(3, .int (J ((x * 8) + ch))), (0, .ref o), (1, .int (J x)), (2, .int (J ch))]) hx hb dX0_leapBy_6 rfl hl (by decide) rfl (fun ls hl => ?_)
  refine lv_iload_n hx hb dX0_leapBy_7 rfl (lv_at hl 0 rfl) ?_
  refine j_if_lt (x := (x * 8) + ch) (tgt := 29) hx hb ⟨by omega, by omega⟩ dX0_leapBy_8 (by decide) (fun c_8 => ?_) (fun c_8 => ?_)
  · exfalso
    omega
  · refine lv_iload_n hx hb dX0_leapBy_11 rfl (lv_at hl 0 rfl) ?_
    refine lv_aload_n hx hb dX0_leapBy_12 rfl (lv_at hl 1 rfl) ?_
    refine g_get (ci := 0) (C := RX0) (T := TX0) (N := 12) (v := .ref (R 8)) hx hb hfX0 (fun _ h9 => h9) hown hk hW hM.1 rfl 8 (by decide) (hts (.fieldLink RX0 39 "JugsAndGlasses$Glasses" "leap" "[I") (by decide +kernel)) rfl rfl dX0_leapBy_13 ?_
    refine g_alen (n := L 8) hx hb hk hW (hM.ai 8 (by decide) rfl) (by omega) dX0_leapBy_16 ?_
    refine j_icmp_ge (x := (x * 8) + ch) (y := L 8) (tgt := 29) hx hb ⟨by omega, by omega⟩ ⟨by omega, by omega⟩ dX0_leapBy_17 (by decide) (fun c_17 => ?_) (fun c_17 => ?_)
    · exfalso
      omega
    · refine lv_aload_n hx hb dX0_leapBy_20 rfl (lv_at hl 1 rfl) ?_
      refine g_get (ci := 0) (C := RX0) (T := TX0) (N := 12) (v := .ref (R 8)) hx hb hfX0 (fun _ h9 => h9) hown hk hW hM.1 rfl 8 (by decide) (hts (.fieldLink RX0 39 "JugsAndGlasses$Glasses" "leap" "[I") (by decide +kernel)) rfl rfl dX0_leapBy_21 ?_
      refine lv_iload_n hx hb dX0_leapBy_24 rfl (lv_at hl 0 rfl) ?_
      refine g_iald (n := L 8) (f := A 8) (i := (x * 8) + ch) hx hb hk hW (hM.ai 8 (by decide) rfl) (by omega) (by omega) (by omega) dX0_leapBy_25 ?_
      refine lv_goto (tgt := 30) hx hb dX0_leapBy_26 (by decide) ?_
      exact g_iret hx hb hr hW hS dX0_leapBy_30 hlocks (⟨rfl, rfl⟩)

set_option maxHeartbeats 4000000 in
set_option maxRecDepth 100000 in
theorem g_earlyAt (l : Launch) (g : GX) (base : Nat) (sa : Nat → Nat) (h0 : Hp) (o : Nat) (R : Nat → Nat) (I : Nat → Int) (L : Nat → Int) (A : Nat → Int → Int) (x : Int) (hM : OB g 0 12 kd0 h0 o R I L A) (hx9 : 0 ≤ x ∧ x < L 9 ∧ L 9 ≤ 1728) : MC l g base sa yX0_earlyAt wsX0_earlyAt ({ frames := 0, cells := 0, slots := 0, locals := 0 }) ([.ref o, .int (J x)]) h0 (fun r h' => r = some (.int (J (A 9 x))) ∧ h' = h0) := by
  refine Met.ofW (cc := cX0_earlyAt) (maxL := 2) (ret := (some .int)) (by decide) rfl ?_
  intro p e s m args below meth c s₁ B hml hv
  obtain ⟨rfl, hk, hW⟩ := hv
  have hx := B.exec
  have hb := B.bytes
  have hr := B.returns
  have hts := atoms_spec (ws := wsX0_earlyAt) B.pre
  have hown : s.vm.findClass RX0 = some m.cls := findClass_of_methodNamed B.named
  have hlocks := B.notSynchronized
  have hfX0 : ∀ w ∈ wsX00, w.before ([.ref o, .int (J x)]).toArray s = true := fun w h => hts w (List.mem_cons_of_mem _ (List.mem_append_right _ h))
  have hS : va_S (Ab base) s.heap s.heap [] := va_S.rf
  have hl := lv_entry ([.ref o, .int (J x)]) (n := 2) (Nat.le_of_ble_eq_true rfl)
  rw [lg_entry_eq]
  generalize (lg_sl ([.ref o, .int (J x)]) ++ List.replicate (2 - (lg_sl ([.ref o, .int (J x)])).length) Slot.unset).toArray = ls at hl ⊢
  have hl : lv_has ls 2 [(0, .ref o), (1, .int (J x))] := hl
  refine lv_iload_n hx hb dX0_earlyAt_0 rfl (lv_at hl 1 rfl) ?_
  refine j_if_lt (x := x) (tgt := 22) hx hb ⟨by omega, by omega⟩ dX0_earlyAt_1 (by decide) (fun c_1 => ?_) (fun c_1 => ?_)
  · exfalso
    omega
  · refine lv_iload_n hx hb dX0_earlyAt_4 rfl (lv_at hl 1 rfl) ?_
    refine lv_aload_n hx hb dX0_earlyAt_5 rfl (lv_at hl 0 rfl) ?_
    refine g_get (ci := 0) (C := RX0) (T := TX0) (N := 12) (v := .ref (R 9)) hx hb hfX0 (fun _ h9 => h9) hown hk hW hM.1 rfl 9 (by decide) (hts (.fieldLink RX0 42 "JugsAndGlasses$Glasses" "early" "[I") (by decide +kernel)) rfl rfl dX0_earlyAt_6 ?_
    refine g_alen (n := L 9) hx hb hk hW (hM.ai 9 (by decide) rfl) (by omega) dX0_earlyAt_9 ?_
    refine j_icmp_ge (x := x) (y := L 9) (tgt := 22) hx hb ⟨by omega, by omega⟩ ⟨by omega, by omega⟩ dX0_earlyAt_10 (by decide) (fun c_10 => ?_) (fun c_10 => ?_)
    · exfalso
      omega
    · refine lv_aload_n hx hb dX0_earlyAt_13 rfl (lv_at hl 0 rfl) ?_
      refine g_get (ci := 0) (C := RX0) (T := TX0) (N := 12) (v := .ref (R 9)) hx hb hfX0 (fun _ h9 => h9) hown hk hW hM.1 rfl 9 (by decide) (hts (.fieldLink RX0 42 "JugsAndGlasses$Glasses" "early" "[I") (by decide +kernel)) rfl rfl dX0_earlyAt_14 ?_
      refine lv_iload_n hx hb dX0_earlyAt_17 rfl (lv_at hl 1 rfl) ?_
      refine g_iald (n := L 9) (f := A 9) (i := x) hx hb hk hW (hM.ai 9 (by decide) rfl) (by omega) (by omega) (by omega) dX0_earlyAt_18 ?_
      refine lv_goto (tgt := 24) hx hb dX0_earlyAt_19 (by decide) ?_
      exact g_iret hx hb hr hW hS dX0_earlyAt_24 hlocks (⟨rfl, rfl⟩)

set_option maxHeartbeats 4000000 in
set_option maxRecDepth 100000 in
theorem g_turnedAt (l : Launch) (g : GX) (base : Nat) (sa : Nat → Nat) (h0 : Hp) (o : Nat) (R : Nat → Nat) (I : Nat → Int) (L : Nat → Int) (A : Nat → Int → Int) (x : Int) (hM : OB g 0 12 kd0 h0 o R I L A) (hx9 : 0 ≤ x ∧ x < L 10 ∧ L 10 ≤ 1728) : MC l g base sa yX0_turnedAt wsX0_turnedAt ({ frames := 0, cells := 0, slots := 0, locals := 0 }) ([.ref o, .int (J x)]) h0 (fun r h' => r = some (.int (J (A 10 x))) ∧ h' = h0) := by
  refine Met.ofW (cc := cX0_turnedAt) (maxL := 2) (ret := (some .int)) (by decide) rfl ?_
  intro p e s m args below meth c s₁ B hml hv
  obtain ⟨rfl, hk, hW⟩ := hv
  have hx := B.exec
  have hb := B.bytes
  have hr := B.returns
  have hts := atoms_spec (ws := wsX0_turnedAt) B.pre
  have hown : s.vm.findClass RX0 = some m.cls := findClass_of_methodNamed B.named
  have hlocks := B.notSynchronized
  have hfX0 : ∀ w ∈ wsX00, w.before ([.ref o, .int (J x)]).toArray s = true := fun w h => hts w (List.mem_cons_of_mem _ (List.mem_append_right _ h))
  have hS : va_S (Ab base) s.heap s.heap [] := va_S.rf
  have hl := lv_entry ([.ref o, .int (J x)]) (n := 2) (Nat.le_of_ble_eq_true rfl)
  rw [lg_entry_eq]
  generalize (lg_sl ([.ref o, .int (J x)]) ++ List.replicate (2 - (lg_sl ([.ref o, .int (J x)])).length) Slot.unset).toArray = ls at hl ⊢
  have hl : lv_has ls 2 [(0, .ref o), (1, .int (J x))] := hl
  refine lv_iload_n hx hb dX0_turnedAt_0 rfl (lv_at hl 1 rfl) ?_
  refine j_if_lt (x := x) (tgt := 22) hx hb ⟨by omega, by omega⟩ dX0_turnedAt_1 (by decide) (fun c_1 => ?_) (fun c_1 => ?_)
  · exfalso
    omega
  · refine lv_iload_n hx hb dX0_turnedAt_4 rfl (lv_at hl 1 rfl) ?_
    refine lv_aload_n hx hb dX0_turnedAt_5 rfl (lv_at hl 0 rfl) ?_
    refine g_get (ci := 0) (C := RX0) (T := TX0) (N := 12) (v := .ref (R 10)) hx hb hfX0 (fun _ h9 => h9) hown hk hW hM.1 rfl 10 (by decide) (hts (.fieldLink RX0 45 "JugsAndGlasses$Glasses" "turned" "[I") (by decide +kernel)) rfl rfl dX0_turnedAt_6 ?_
    refine g_alen (n := L 10) hx hb hk hW (hM.ai 10 (by decide) rfl) (by omega) dX0_turnedAt_9 ?_
    refine j_icmp_ge (x := x) (y := L 10) (tgt := 22) hx hb ⟨by omega, by omega⟩ ⟨by omega, by omega⟩ dX0_turnedAt_10 (by decide) (fun c_10 => ?_) (fun c_10 => ?_)
    · exfalso
      omega
    · refine lv_aload_n hx hb dX0_turnedAt_13 rfl (lv_at hl 0 rfl) ?_
      refine g_get (ci := 0) (C := RX0) (T := TX0) (N := 12) (v := .ref (R 10)) hx hb hfX0 (fun _ h9 => h9) hown hk hW hM.1 rfl 10 (by decide) (hts (.fieldLink RX0 45 "JugsAndGlasses$Glasses" "turned" "[I") (by decide +kernel)) rfl rfl dX0_turnedAt_14 ?_
      refine lv_iload_n hx hb dX0_turnedAt_17 rfl (lv_at hl 1 rfl) ?_
      refine g_iald (n := L 10) (f := A 10) (i := x) hx hb hk hW (hM.ai 10 (by decide) rfl) (by omega) (by omega) (by omega) dX0_turnedAt_18 ?_
      refine lv_goto (tgt := 24) hx hb dX0_turnedAt_19 (by decide) ?_
      exact g_iret hx hb hr hW hS dX0_turnedAt_24 hlocks (⟨rfl, rfl⟩)

set_option maxHeartbeats 4000000 in
set_option maxRecDepth 100000 in
theorem g_placeAhead (l : Launch) (g : GX) (base : Nat) (sa : Nat → Nat) (h0 : Hp) (o : Nat) (sn x : Int) (hs9 : 0 ≤ sn ∧ sn ≤ 40) (hx9 : 0 ≤ x ∧ x < 1728) : MC l g base sa yX0_placeAhead wsX0_placeAhead ({ frames := 0, cells := 0, slots := 0, locals := 0 }) ([.ref o, .int (J sn), .int (J x)]) h0 (fun r h' => r = some (.int (J (x * 13 + sn % 13))) ∧ h' = h0) := by
  refine Met.ofW (cc := cX0_placeAhead) (maxL := 3) (ret := (some .int)) (by decide) rfl ?_
  intro p e s m args below meth c s₁ B hml hv
  obtain ⟨rfl, hk, hW⟩ := hv
  have hx := B.exec
  have hb := B.bytes
  have hr := B.returns
  have hts := atoms_spec (ws := wsX0_placeAhead) B.pre
  have hown : s.vm.findClass RX0 = some m.cls := findClass_of_methodNamed B.named
  have hlocks := B.notSynchronized
  have hS : va_S (Ab base) s.heap s.heap [] := va_S.rf
  have hl := lv_entry ([.ref o, .int (J sn), .int (J x)]) (n := 3) (Nat.le_of_ble_eq_true rfl)
  rw [lg_entry_eq]
  generalize (lg_sl ([.ref o, .int (J sn), .int (J x)]) ++ List.replicate (3 - (lg_sl ([.ref o, .int (J sn), .int (J x)])).length) Slot.unset).toArray = ls at hl ⊢
  have hl : lv_has ls 3 [(0, .ref o), (1, .int (J sn)), (2, .int (J x))] := hl
  refine lv_iload_n hx hb dX0_placeAhead_0 rfl (lv_at hl 2 rfl) ?_
  refine lv_bipush (v := J (13)) hx hb dX0_placeAhead_1 (by decide) ?_
  refine j_imul hx hb dX0_placeAhead_3 ?_
  refine lv_iload_n hx hb dX0_placeAhead_4 rfl (lv_at hl 1 rfl) ?_
  refine lv_bipush (v := J (13)) hx hb dX0_placeAhead_5 (by decide) ?_
  refine j_irem hx hb (by omega) (by omega) (by omega) (by omega) dX0_placeAhead_7 ?_
  refine j_iadd hx hb dX0_placeAhead_8 ?_
  exact g_iret hx hb hr hW hS dX0_placeAhead_9 hlocks (⟨rfl, rfl⟩)

set_option maxHeartbeats 4000000 in
set_option maxRecDepth 100000 in
theorem g_aheadAt (l : Launch) (g : GX) (base : Nat) (sa : Nat → Nat) (h0 : Hp) (o : Nat) (R : Nat → Nat) (I : Nat → Int) (L : Nat → Int) (A : Nat → Int → Int) (sn x : Int) (hM : OB g 0 12 kd0 h0 o R I L A) (hs9 : 0 ≤ sn ∧ sn ≤ 40) (hx9 : 0 ≤ x ∧ x < 1728) (h11 : x * 13 + 13 ≤ L 11 ∧ L 11 ≤ 22464) : MC l g base sa yX0_aheadAt wsX0_aheadAt ({ frames := 1, cells := 0, slots := 0, locals := 22 }) ([.ref o, .int (J sn), .int (J x)]) h0 (fun r h' => r = some (.int (J (A 11 (x * 13 + sn % 13)))) ∧ h' = h0) := by
  refine Met.ofW (cc := cX0_aheadAt) (maxL := 4) (ret := (some .int)) (by decide) rfl ?_
  intro p e s m args below meth c s₁ B hml hv
  obtain ⟨rfl, hk, hW⟩ := hv
  have hx := B.exec
  have hb := B.bytes
  have hr := B.returns
  have hts := atoms_spec (ws := wsX0_aheadAt) B.pre
  have hown : s.vm.findClass RX0 = some m.cls := findClass_of_methodNamed B.named
  have hlocks := B.notSynchronized
  have hfX0 : ∀ w ∈ wsX00, w.before ([.ref o, .int (J sn), .int (J x)]).toArray s = true := fun w h => hts w (List.mem_cons_of_mem _ (List.mem_append_right _ h))
  have hS : va_S (Ab base) s.heap s.heap [] := va_S.rf
  have hl := lv_entry ([.ref o, .int (J sn), .int (J x)]) (n := 4) (Nat.le_of_ble_eq_true rfl)
  rw [lg_entry_eq]
  generalize (lg_sl ([.ref o, .int (J sn), .int (J x)]) ++ List.replicate (4 - (lg_sl ([.ref o, .int (J sn), .int (J x)])).length) Slot.unset).toArray = ls at hl ⊢
  have hl : lv_has ls 4 [(0, .ref o), (1, .int (J sn)), (2, .int (J x))] := hl
  refine lv_aload_n hx hb dX0_aheadAt_0 rfl (lv_at hl 0 rfl) ?_
  refine lv_iload_n hx hb dX0_aheadAt_1 rfl (lv_at hl 1 rfl) ?_
  refine lv_iload_n hx hb dX0_aheadAt_2 rfl (lv_at hl 2 rfl) ?_
  refine g_callV (As := [.int (J sn), .int (J x)]) (rest := []) (b := o) (ci := 0) (C := RX0) (T := TX0) (N := 12) ⟨hx, hb, hml, hown, hts⟩ (g_placeAhead l g base sa h0 o sn x hs9 hx9) (cwV 2 hts gX0_aheadAt_X0_placeAhead rfl rfl rfl (by decide +kernel) ⟨Nat.le_of_ble_eq_true rfl, Nat.le_of_ble_eq_true rfl⟩) hk hW hS hM.1 rfl rfl hl.1 (Nat.le_of_ble_eq_true rfl) dX0_aheadAt_3 ⟨Nat.le_of_ble_eq_true rfl, Nat.le_of_ble_eq_true rfl⟩ (fun r9 h9 H locs hp hW hS => ?_)
  obtain ⟨rfl, e9⟩ := hp
  rw [e9] at hW
  refine W.eq (g2 := F0 m 6 ls [.int (J (x * 13 + sn % 13))]) rfl ?_
  refine lv_istore_n (lv' := [(3, .int (J (x * 13 + sn % 13))), (0, .ref o), (1, .int (J sn)), (2, .int (J x))]) hx hb dX0_aheadAt_6 rfl hl (by decide) rfl (fun ls hl => ?_)
  refine lv_iload_n hx hb dX0_aheadAt_7 rfl (lv_at hl 0 rfl) ?_
  refine j_if_lt (x := x * 13 + sn % 13) (tgt := 29) hx hb ⟨by omega, by omega⟩ dX0_aheadAt_8 (by decide) (fun c_8 => ?_) (fun c_8 => ?_)
  · exfalso
    omega
  · refine lv_iload_n hx hb dX0_aheadAt_11 rfl (lv_at hl 0 rfl) ?_
    refine lv_aload_n hx hb dX0_aheadAt_12 rfl (lv_at hl 1 rfl) ?_
    refine g_get (ci := 0) (C := RX0) (T := TX0) (N := 12) (v := .ref (R 11)) hx hb hfX0 (fun _ h9 => h9) hown hk hW hM.1 rfl 11 (by decide) (hts (.fieldLink RX0 48 "JugsAndGlasses$Glasses" "ahead" "[I") (by decide +kernel)) rfl rfl dX0_aheadAt_13 ?_
    refine g_alen (n := L 11) hx hb hk hW (hM.ai 11 (by decide) rfl) (by omega) dX0_aheadAt_16 ?_
    refine j_icmp_ge (x := x * 13 + sn % 13) (y := L 11) (tgt := 29) hx hb ⟨by omega, by omega⟩ ⟨by omega, by omega⟩ dX0_aheadAt_17 (by decide) (fun c_17 => ?_) (fun c_17 => ?_)
    · exfalso
      omega
    · refine lv_aload_n hx hb dX0_aheadAt_20 rfl (lv_at hl 1 rfl) ?_
      refine g_get (ci := 0) (C := RX0) (T := TX0) (N := 12) (v := .ref (R 11)) hx hb hfX0 (fun _ h9 => h9) hown hk hW hM.1 rfl 11 (by decide) (hts (.fieldLink RX0 48 "JugsAndGlasses$Glasses" "ahead" "[I") (by decide +kernel)) rfl rfl dX0_aheadAt_21 ?_
      refine lv_iload_n hx hb dX0_aheadAt_24 rfl (lv_at hl 0 rfl) ?_
      refine g_iald (n := L 11) (f := A 11) (i := x * 13 + sn % 13) hx hb hk hW (hM.ai 11 (by decide) rfl) (by omega) (by omega) (by omega) dX0_aheadAt_25 ?_
      refine lv_goto (tgt := 31) hx hb dX0_aheadAt_26 (by decide) ?_
      exact g_iret hx hb hr hW hS dX0_aheadAt_31 hlocks (⟨rfl, rfl⟩)

set_option maxHeartbeats 4000000 in
set_option maxRecDepth 100000 in
theorem g_comeTo (l : Launch) (g : GX) (base : Nat) (sa : Nat → Nat) (h0 : Hp) (o : Nat) (R : Nat → Nat) (I : Nat → Int) (L : Nat → Int) (A : Nat → Int → Int) (x T u : Int) (hM : OB g 0 12 kd0 h0 o R I L A) (hx9 : 0 ≤ x ∧ x < L 9 ∧ L 9 ≤ 1728 ∧ L 10 = L 9) (hT9 : 0 ≤ T ∧ T ≤ 1000) (hu9 : 0 ≤ u ∧ u ≤ 10000) (hv9 : 0 ≤ A 9 x ∧ A 9 x ≤ 1000000 ∧ 0 ≤ A 10 x ∧ A 10 x ≤ 1000000) : MC l g base sa yX0_comeTo wsX0_comeTo ({ frames := 0, cells := 0, slots := 0, locals := 0 }) ([.ref o, .int (J x), .int (J T), .int (J u)]) h0 (fun r h' => r = none ∧ (((T < A 9 x ∨ (T = A 9 x ∧ u < A 10 x)) ∧ OB g 0 12 kd0 h' o R I L (va_up (va_up A 9 (uf (A 9) x T)) 10 (uf (A 10) x u)) ∧ Fr (FP 12 kd0 o R) h0 h') ∨ (¬ (T < A 9 x ∨ (T = A 9 x ∧ u < A 10 x)) ∧ h' = h0))) := by
  refine Met.ofW (cc := cX0_comeTo) (maxL := 4) (ret := none) (by decide) rfl ?_
  intro p e s m args below meth c s₁ B hml hv
  obtain ⟨rfl, hk, hW⟩ := hv
  have hx := B.exec
  have hb := B.bytes
  have hr := B.returns
  have hts := atoms_spec (ws := wsX0_comeTo) B.pre
  have hown : s.vm.findClass RX0 = some m.cls := findClass_of_methodNamed B.named
  have hlocks := B.notSynchronized
  have hfX0 : ∀ w ∈ wsX00, w.before ([.ref o, .int (J x), .int (J T), .int (J u)]).toArray s = true := fun w h => hts w (List.mem_cons_of_mem _ (List.mem_append_right _ h))
  have hS : va_S (Ab base) s.heap s.heap [] := va_S.rf
  have hl := lv_entry ([.ref o, .int (J x), .int (J T), .int (J u)]) (n := 4) (Nat.le_of_ble_eq_true rfl)
  rw [lg_entry_eq]
  generalize (lg_sl ([.ref o, .int (J x), .int (J T), .int (J u)]) ++ List.replicate (4 - (lg_sl ([.ref o, .int (J x), .int (J T), .int (J u)])).length) Slot.unset).toArray = ls at hl ⊢
  have hl : lv_has ls 4 [(0, .ref o), (1, .int (J x)), (2, .int (J T)), (3, .int (J u))] := hl
  have hF : Fr (FP 12 kd0 o R) h0 h0 := Fr.rf
  refine lv_iload_n hx hb dX0_comeTo_0 rfl (lv_at hl 1 rfl) ?_
  refine j_if_lt (x := x) (tgt := 22) hx hb ⟨by omega, by omega⟩ dX0_comeTo_1 (by decide) (fun c_1 => ?_) (fun c_1 => ?_)
  · exfalso
    omega
  · refine lv_iload_n hx hb dX0_comeTo_4 rfl (lv_at hl 1 rfl) ?_
    refine lv_aload_n hx hb dX0_comeTo_5 rfl (lv_at hl 0 rfl) ?_
    refine g_get (ci := 0) (C := RX0) (T := TX0) (N := 12) (v := .ref (R 9)) hx hb hfX0 (fun _ h9 => h9) hown hk hW hM.1 rfl 9 (by decide) (hts (.fieldLink RX0 42 "JugsAndGlasses$Glasses" "early" "[I") (by decide +kernel)) rfl rfl dX0_comeTo_6 ?_
    refine g_alen (n := L 9) hx hb hk hW (hM.ai 9 (by decide) rfl) (by omega) dX0_comeTo_9 ?_
    refine j_icmp_ge (x := x) (y := L 9) (tgt := 22) hx hb ⟨by omega, by omega⟩ ⟨by omega, by omega⟩ dX0_comeTo_10 (by decide) (fun c_10 => ?_) (fun c_10 => ?_)
    · exfalso
      omega
    · refine lv_iload_n hx hb dX0_comeTo_13 rfl (lv_at hl 1 rfl) ?_
      refine lv_aload_n hx hb dX0_comeTo_14 rfl (lv_at hl 0 rfl) ?_
      refine g_get (ci := 0) (C := RX0) (T := TX0) (N := 12) (v := .ref (R 10)) hx hb hfX0 (fun _ h9 => h9) hown hk hW hM.1 rfl 10 (by decide) (hts (.fieldLink RX0 45 "JugsAndGlasses$Glasses" "turned" "[I") (by decide +kernel)) rfl rfl dX0_comeTo_15 ?_
      refine g_alen (n := L 10) hx hb hk hW (hM.ai 10 (by decide) rfl) (by omega) dX0_comeTo_18 ?_
      refine j_icmp_lt (x := x) (y := L 10) (tgt := 23) hx hb ⟨by omega, by omega⟩ ⟨by omega, by omega⟩ dX0_comeTo_19 (by decide) (fun c_19 => ?_) (fun c_19 => ?_)
      · refine lv_iload_n hx hb dX0_comeTo_23 rfl (lv_at hl 2 rfl) ?_
        refine lv_aload_n hx hb dX0_comeTo_24 rfl (lv_at hl 0 rfl) ?_
        refine g_get (ci := 0) (C := RX0) (T := TX0) (N := 12) (v := .ref (R 9)) hx hb hfX0 (fun _ h9 => h9) hown hk hW hM.1 rfl 9 (by decide) (hts (.fieldLink RX0 42 "JugsAndGlasses$Glasses" "early" "[I") (by decide +kernel)) rfl rfl dX0_comeTo_25 ?_
        refine lv_iload_n hx hb dX0_comeTo_28 rfl (lv_at hl 1 rfl) ?_
        refine g_iald (n := L 9) (f := A 9) (i := x) hx hb hk hW (hM.ai 9 (by decide) rfl) (by omega) (by omega) (by omega) dX0_comeTo_29 ?_
        refine j_icmp_lt (x := T) (y := A 9 x) (tgt := 53) hx hb ⟨by omega, by omega⟩ ⟨by omega, by omega⟩ dX0_comeTo_30 (by decide) (fun c_30 => ?_) (fun c_30 => ?_)
        · refine lv_aload_n hx hb dX0_comeTo_53 rfl (lv_at hl 0 rfl) ?_
          refine g_get (ci := 0) (C := RX0) (T := TX0) (N := 12) (v := .ref (R 9)) hx hb hfX0 (fun _ h9 => h9) hown hk hW hM.1 rfl 9 (by decide) (hts (.fieldLink RX0 42 "JugsAndGlasses$Glasses" "early" "[I") (by decide +kernel)) rfl rfl dX0_comeTo_54 ?_
          refine lv_iload_n hx hb dX0_comeTo_57 rfl (lv_at hl 1 rfl) ?_
          refine lv_iload_n hx hb dX0_comeTo_58 rfl (lv_at hl 2 rfl) ?_
          refine o_iast (A' := (va_up A 9 (uf (A 9) x T))) (i := x) (x := T) hx hb hk hW hS hM hF 9 (by decide) rfl (FP.a 9 (by decide) ⟨by decide, by decide⟩) (by omega) (show x < L 9 from by omega) (show L 9 < 2147483648 from by omega) rfl dX0_comeTo_59 (fun h H locs hM hF hst hW hS => ?_)
          refine lv_aload_n hx hb dX0_comeTo_60 rfl (lv_at hl 0 rfl) ?_
          refine g_get (ci := 0) (C := RX0) (T := TX0) (N := 12) (v := .ref (R 10)) hx hb hfX0 (fun _ h9 => h9) hown hk hW hM.1 rfl 10 (by decide) (hts (.fieldLink RX0 45 "JugsAndGlasses$Glasses" "turned" "[I") (by decide +kernel)) rfl rfl dX0_comeTo_61 ?_
          refine lv_iload_n hx hb dX0_comeTo_64 rfl (lv_at hl 1 rfl) ?_
          refine lv_iload_n hx hb dX0_comeTo_65 rfl (lv_at hl 3 rfl) ?_
          refine o_iast (A' := (va_up (va_up A 9 (uf (A 9) x T)) 10 (uf (A 10) x u))) (i := x) (x := u) hx hb hk hW hS hM hF 10 (by decide) rfl (FP.a 10 (by decide) ⟨by decide, by decide⟩) (by omega) (show x < L 10 from by omega) (show L 10 < 2147483648 from by omega) rfl dX0_comeTo_66 (fun h H locs hM hF hst hW hS => ?_)
          exact g_vret hx hb hr hW hS dX0_comeTo_67 hlocks (⟨rfl, Or.inl ⟨by omega, hM, hF⟩⟩)
        · refine lv_iload_n hx hb dX0_comeTo_33 rfl (lv_at hl 2 rfl) ?_
          refine lv_aload_n hx hb dX0_comeTo_34 rfl (lv_at hl 0 rfl) ?_
          refine g_get (ci := 0) (C := RX0) (T := TX0) (N := 12) (v := .ref (R 9)) hx hb hfX0 (fun _ h9 => h9) hown hk hW hM.1 rfl 9 (by decide) (hts (.fieldLink RX0 42 "JugsAndGlasses$Glasses" "early" "[I") (by decide +kernel)) rfl rfl dX0_comeTo_35 ?_
          refine lv_iload_n hx hb dX0_comeTo_38 rfl (lv_at hl 1 rfl) ?_
          refine g_iald (n := L 9) (f := A 9) (i := x) hx hb hk hW (hM.ai 9 (by decide) rfl) (by omega) (by omega) (by omega) dX0_comeTo_39 ?_
          refine j_icmp_ne (x := T) (y := A 9 x) (tgt := 67) hx hb ⟨by omega, by omega⟩ ⟨by omega, by omega⟩ dX0_comeTo_40 (by decide) (fun c_40 => ?_) (fun c_40 => ?_)
          · exact g_vret hx hb hr hW hS dX0_comeTo_67 hlocks (⟨rfl, Or.inr ⟨by omega, rfl⟩⟩)
          · refine lv_iload_n hx hb dX0_comeTo_43 rfl (lv_at hl 3 rfl) ?_
            refine lv_aload_n hx hb dX0_comeTo_44 rfl (lv_at hl 0 rfl) ?_
            refine g_get (ci := 0) (C := RX0) (T := TX0) (N := 12) (v := .ref (R 10)) hx hb hfX0 (fun _ h9 => h9) hown hk hW hM.1 rfl 10 (by decide) (hts (.fieldLink RX0 45 "JugsAndGlasses$Glasses" "turned" "[I") (by decide +kernel)) rfl rfl dX0_comeTo_45 ?_
            refine lv_iload_n hx hb dX0_comeTo_48 rfl (lv_at hl 1 rfl) ?_
            refine g_iald (n := L 10) (f := A 10) (i := x) hx hb hk hW (hM.ai 10 (by decide) rfl) (by omega) (by omega) (by omega) dX0_comeTo_49 ?_
            refine j_icmp_ge (x := u) (y := A 10 x) (tgt := 67) hx hb ⟨by omega, by omega⟩ ⟨by omega, by omega⟩ dX0_comeTo_50 (by decide) (fun c_50 => ?_) (fun c_50 => ?_)
            · exact g_vret hx hb hr hW hS dX0_comeTo_67 hlocks (⟨rfl, Or.inr ⟨by omega, rfl⟩⟩)
            · refine lv_aload_n hx hb dX0_comeTo_53 rfl (lv_at hl 0 rfl) ?_
              refine g_get (ci := 0) (C := RX0) (T := TX0) (N := 12) (v := .ref (R 9)) hx hb hfX0 (fun _ h9 => h9) hown hk hW hM.1 rfl 9 (by decide) (hts (.fieldLink RX0 42 "JugsAndGlasses$Glasses" "early" "[I") (by decide +kernel)) rfl rfl dX0_comeTo_54 ?_
              refine lv_iload_n hx hb dX0_comeTo_57 rfl (lv_at hl 1 rfl) ?_
              refine lv_iload_n hx hb dX0_comeTo_58 rfl (lv_at hl 2 rfl) ?_
              refine o_iast (A' := (va_up A 9 (uf (A 9) x T))) (i := x) (x := T) hx hb hk hW hS hM hF 9 (by decide) rfl (FP.a 9 (by decide) ⟨by decide, by decide⟩) (by omega) (show x < L 9 from by omega) (show L 9 < 2147483648 from by omega) rfl dX0_comeTo_59 (fun h H locs hM hF hst hW hS => ?_)
              refine lv_aload_n hx hb dX0_comeTo_60 rfl (lv_at hl 0 rfl) ?_
              refine g_get (ci := 0) (C := RX0) (T := TX0) (N := 12) (v := .ref (R 10)) hx hb hfX0 (fun _ h9 => h9) hown hk hW hM.1 rfl 10 (by decide) (hts (.fieldLink RX0 45 "JugsAndGlasses$Glasses" "turned" "[I") (by decide +kernel)) rfl rfl dX0_comeTo_61 ?_
              refine lv_iload_n hx hb dX0_comeTo_64 rfl (lv_at hl 1 rfl) ?_
              refine lv_iload_n hx hb dX0_comeTo_65 rfl (lv_at hl 3 rfl) ?_
              refine o_iast (A' := (va_up (va_up A 9 (uf (A 9) x T)) 10 (uf (A 10) x u))) (i := x) (x := u) hx hb hk hW hS hM hF 10 (by decide) rfl (FP.a 10 (by decide) ⟨by decide, by decide⟩) (by omega) (show x < L 10 from by omega) (show L 10 < 2147483648 from by omega) rfl dX0_comeTo_66 (fun h H locs hM hF hst hW hS => ?_)
              exact g_vret hx hb hr hW hS dX0_comeTo_67 hlocks (⟨rfl, Or.inl ⟨by omega, hM, hF⟩⟩)
      · exfalso
        omega

set_option maxHeartbeats 4000000 in
set_option maxRecDepth 100000 in
theorem g_goOn (l : Launch) (g : GX) (base : Nat) (sa : Nat → Nat) (h0 : Hp) (o : Nat) (R : Nat → Nat) (I : Nat → Int) (L : Nat → Int) (A : Nat → Int → Int) (k T : Int) (hM : OB g 0 12 kd0 h0 o R I L A) (hL1 : L 1 = 3) (hsk : Sok (I 0) (A 1)) (hL6 : k_states (I 0) ≤ L 6 ∧ L 6 ≤ 1728 ∧ L 5 = L 6 ∧ L 8 = 8 * L 6 ∧ L 9 = L 6 ∧ L 10 = L 6) (hLE : LE (k_states (I 0)) (L 6) (lp (I 0) (A 1)) (2 ^ (I 0).toNat) (A 5) (A 6) (A 8) (I 7) (8 * I 7)) (hk9 : 0 ≤ k ∧ k < I 7) (hT9 : 0 ≤ T ∧ T ≤ 60) (hEF0 : EF (lp (I 0) (A 1)) (2 ^ (I 0).toNat) (A 5) (I 7) (A 9) (A 10) T k 0) (hea0 : A 9 (A 5 k) = T) : MC l g base sa yX0_goOnFrom wsX0_goOnFrom ({ frames := 1, cells := 0, slots := 0, locals := 23 }) ([.ref o, .int (J (A 5 k)), .int (J T)]) h0 (fun r9 h' => r9 = none ∧ Fr (FP 12 kd0 o R) h0 h' ∧ ∃ ea tu, OB g 0 12 kd0 h' o R I L (va_up (va_up A 9 ea) 10 tu) ∧ EF (lp (I 0) (A 1)) (2 ^ (I 0).toNat) (A 5) (I 7) ea tu T (k + 1) 0) := by
  refine Met.ofW (cc := cX0_goOnFrom) (maxL := 6) (ret := none) (by decide) rfl ?_
  intro p e s m args below meth c s₁ B hml hv
  obtain ⟨rfl, hk, hW⟩ := hv
  have hx := B.exec
  have hb := B.bytes
  have hr := B.returns
  have hts := atoms_spec (ws := wsX0_goOnFrom) B.pre
  have hown : s.vm.findClass RX0 = some m.cls := findClass_of_methodNamed B.named
  have hlocks := B.notSynchronized
  have hfX0 : ∀ w ∈ wsX00, w.before ([.ref o, .int (J (A 5 k)), .int (J T)]).toArray s = true := fun w h => hts w (List.mem_cons_of_mem _ (List.mem_append_right _ h))
  have hS : va_S (Ab base) s.heap s.heap [] := va_S.rf
  have hl := lv_entry ([.ref o, .int (J (A 5 k)), .int (J T)]) (n := 6) (Nat.le_of_ble_eq_true rfl)
  rw [lg_entry_eq]
  generalize (lg_sl ([.ref o, .int (J (A 5 k)), .int (J T)]) ++ List.replicate (6 - (lg_sl ([.ref o, .int (J (A 5 k)), .int (J T)])).length) Slot.unset).toArray = ls at hl ⊢
  have hl : lv_has ls 6 [(0, .ref o), (1, .int (J (A 5 k))), (2, .int (J T))] := hl
  have hF : Fr (FP 12 kd0 o R) h0 h0 := Fr.rf
  have hn1 := hsk.1
  have hn2 := hsk.2.1
  have hsr := st_r hn1 hn2
  have hp2n := p2n hn1 hn2
  have hNM := hL6.1
  have hr1 := hLE.1
  have hrN := hLE.2.1
  have hek := hLE.2.2.2.1 k hk9.1 hk9.2
  have hbf : 0 ≤ A 10 (A 5 k) ∧ A 10 (A 5 k) ≤ 3 * T := by
    rcases hEF0.1 k hk9.1 hk9.2 with w | w
    · omega
    · exact ⟨w.2.2.1, by rw [← hea0]; exact w.2.2.2.1⟩
  refine lv_aload_n hx hb dX0_goOnFrom_0 rfl (lv_at hl 0 rfl) ?_
  refine lv_iload_n hx hb dX0_goOnFrom_1 rfl (lv_at hl 1 rfl) ?_
  refine g_callV (As := [.int (J (A 5 k))]) (rest := []) (b := o) (ci := 0) (C := RX0) (T := TX0) (N := 12) ⟨hx, hb, hml, hown, hts⟩ (g_turnedAt l g base sa h0 o R I L A (A 5 k) hM ⟨by omega, by omega, by omega⟩) (cwV 1 hts gX0_goOnFrom_X0_turnedAt rfl rfl rfl (by decide +kernel) ⟨Nat.le_of_ble_eq_true rfl, Nat.le_of_ble_eq_true rfl⟩) hk hW hS hM.1 rfl rfl hl.1 (Nat.le_of_ble_eq_true rfl) dX0_goOnFrom_2 ⟨Nat.le_of_ble_eq_true rfl, Nat.le_of_ble_eq_true rfl⟩ (fun r9 h9 H locs hp hW hS => ?_)
  obtain ⟨rfl, e9⟩ := hp
  rw [e9] at hW
  refine W.eq (g2 := F0 m 5 ls [.int (J (A 10 (A 5 k)))]) rfl ?_
  refine lv_istore_n (lv' := [(3, .int (J (A 10 (A 5 k)))), (0, .ref o), (1, .int (J (A 5 k))), (2, .int (J T))]) hx hb dX0_goOnFrom_5 rfl hl (by decide) rfl (fun ls hl => ?_)
  refine lv_iconst (v := J (0)) hx hb dX0_goOnFrom_6 rfl ?_
  refine lv_istore (lv' := [(4, .int (J 0)), (3, .int (J (A 10 (A 5 k)))), (0, .ref o), (1, .int (J (A 5 k))), (2, .int (J T))]) hx hb dX0_goOnFrom_7 hl (by decide) rfl (fun ls hl => ?_)
  have loop_9 : ∀ (n9 : Nat) (ch : Int) (ea : Int → Int) (tu : Int → Int) (h : Hp) (H : Heap) (locs : List Loc) (ls : Array Slot), 2 ^ (I 0).toNat - ch < (n9 : Int) → (0 ≤ ch ∧ ch ≤ 2 ^ (I 0).toNat) → (EF (lp (I 0) (A 1)) (2 ^ (I 0).toNat) (A 5) (I 7) ea tu T k ch) → (ea (A 5 k) = T) → (tu (A 5 k) = A 10 (A 5 k)) → (OB g 0 12 kd0 h o R I L (va_up (va_up A 9 (ea)) 10 (tu))) → (Fr (FP 12 kd0 o R) h0 h) → (Wd g base h H) → (va_S (Ab base) s.heap H locs) → (lv_has ls 6 [(0, .ref o), (1, .int (J (A 5 k))), (2, .int (J T)), (3, .int (J (A 10 (A 5 k)))), (4, .int (J ch))]) → W p l e (headSpec wsX0_goOnFrom ({ frames := 1, cells := 0, slots := 0, locals := 23 })).room s m ([.ref o, .int (J (A 5 k)), .int (J T)]).toArray below meth c H locs 0 0 (MQ below (QcM g base (fun r9 h' => r9 = none ∧ Fr (FP 12 kd0 o R) h0 h' ∧ ∃ ea tu, OB g 0 12 kd0 h' o R I L (va_up (va_up A 9 ea) 10 tu) ∧ EF (lp (I 0) (A 1)) (2 ^ (I 0).toNat) (A 5) (I 7) ea tu T (k + 1) 0)) ([.ref o, .int (J (A 5 k)), .int (J T)]).toArray s (0) (0) (Ab base)) (F0 m 9 ls []) := by
    intro n9
    induction n9 with
    | zero =>
      intro ch ea tu h H locs ls hmu ha9 hEF hea htu9 hM hF hW hS hl
      exact absurd hmu (by omega)
    | succ n9 ih =>
      intro ch ea tu h H locs ls hmu ha9 hEF hea htu9 hM hF hW hS hl
      have ih_9 := ih
      refine lv_iload hx hb dX0_goOnFrom_9 (lv_at hl 4 rfl) ?_
      refine lv_iconst (v := J (1)) hx hb dX0_goOnFrom_11 rfl ?_
      refine lv_aload_n hx hb dX0_goOnFrom_12 rfl (lv_at hl 0 rfl) ?_
      refine g_get (ci := 0) (C := RX0) (T := TX0) (N := 12) (v := .int (J (I 0))) hx hb hfX0 (fun _ h9 => h9) hown hk hW hM.1 rfl 0 (by decide) (hts (.fieldLink RX0 9 "JugsAndGlasses$Glasses" "number" "I") (by decide +kernel)) rfl rfl dX0_goOnFrom_13 ?_
      refine j_shl1 (y := I 0) hx hb (by omega) (by omega) dX0_goOnFrom_16 ?_
      refine j_icmp_ge (x := ch) (y := 2 ^ (I 0).toNat) (tgt := 64) hx hb ⟨by omega, by omega⟩ ⟨by omega, by omega⟩ dX0_goOnFrom_17 (by decide) (fun c_17 => ?_) (fun c_17 => ?_)
      · exact g_vret hx hb hr hW hS dX0_goOnFrom_64 hlocks (⟨rfl, hF, ea, tu, hM, EF_k (by have e9 : ch = 2 ^ (I 0).toNat := (by omega); rw [e9] at hEF; exact hEF)⟩)
      · refine lv_aload_n hx hb dX0_goOnFrom_20 rfl (lv_at hl 0 rfl) ?_
        refine lv_iload_n hx hb dX0_goOnFrom_21 rfl (lv_at hl 1 rfl) ?_
        refine lv_iload hx hb dX0_goOnFrom_22 (lv_at hl 4 rfl) ?_
        have hlr := lp_r hsk (A 5 k) ch
        have hlq := hLE.2.2.2.2.2.2 k ch hk9.1 hk9.2 ha9.1 (by omega) (by omega)
        refine g_callV (As := [.int (J (A 5 k)), .int (J ch)]) (rest := []) (b := o) (ci := 0) (C := RX0) (T := TX0) (N := 12) ⟨hx, hb, hml, hown, hts⟩ (g_leapBy l g base sa h o R I L (va_up (va_up A 9 (ea)) 10 (tu)) (A 5 k) ch hM ⟨by omega, by omega⟩ ⟨by omega, by omega⟩ ⟨by omega, by omega⟩) (cwV 2 hts gX0_goOnFrom_X0_leapBy rfl rfl rfl (by decide +kernel) ⟨Nat.le_of_ble_eq_true rfl, Nat.le_of_ble_eq_true rfl⟩) hk hW hS hM.1 rfl rfl hl.1 (Nat.le_of_ble_eq_true rfl) dX0_goOnFrom_24 ⟨Nat.le_of_ble_eq_true rfl, Nat.le_of_ble_eq_true rfl⟩ (fun r9 h9 H locs hp hW hS => ?_)
        have hp : r9 = some (.int (J (A 8 (A 5 k * 8 + ch)))) ∧ h9 = h := hp
        obtain ⟨rfl, e9⟩ := hp
        rw [e9] at hW
        refine W.eq (g2 := F0 m 27 ls [.int (J (A 8 (A 5 k * 8 + ch)))]) rfl ?_
        rw [hlq.1]
        obtain ⟨v, ev9⟩ : ∃ v, v = lp (I 0) (A 1) (A 5 k) ch := ⟨_, rfl⟩
        rw [← ev9] at hlr hlq ⊢
        refine lv_istore (lv' := [(5, .int (J v)), (0, .ref o), (1, .int (J (A 5 k))), (2, .int (J T)), (3, .int (J (A 10 (A 5 k)))), (4, .int (J ch))]) hx hb dX0_goOnFrom_27 hl (by decide) rfl (fun ls hl => ?_)
        refine lv_iload hx hb dX0_goOnFrom_29 (lv_at hl 0 rfl) ?_
        refine lv_iconst (v := J (-1)) hx hb dX0_goOnFrom_31 rfl ?_
        refine j_icmp_eq (x := v) (y := (-1)) (tgt := 58) hx hb ⟨by omega, by omega⟩ ⟨by omega, by omega⟩ dX0_goOnFrom_32 (by decide) (fun c_32 => ?_) (fun c_32 => ?_)
        · refine lv_iinc (v := J (ch + 1)) (lv' := [(4, .int (J (ch + 1))), (5, .int (J v)), (0, .ref o), (1, .int (J (A 5 k))), (2, .int (J T)), (3, .int (J (A 10 (A 5 k))))]) hx hb dX0_goOnFrom_58 hl (k := 5) rfl (J_inc (by omega)) (by decide) rfl (fun ls hl => ?_)
          refine lv_goto (tgt := 9) hx hb dX0_goOnFrom_61 (by decide) ?_
          exact ih_9 (ch + 1) ea tu h H locs ls (by omega) (by omega) (EF_no hEF (fun w9 => by rw [← ev9] at w9 ⊢; exact ⟨by omega, fun _ => by omega⟩)) (by omega) (by omega) hM hF hW hS (lv_sub hl [2, 3, 4, 5, 0] rfl)
        · have htl := hlq.2 (by omega)
          have hta : (ea (v / 16) = 1000000 ∧ tu (v / 16) = 1000000) ∨ (0 ≤ ea (v / 16) ∧ ea (v / 16) ≤ T + 12 ∧ 0 ≤ tu (v / 16) ∧ tu (v / 16) ≤ 3 * ea (v / 16)) := by
            obtain ⟨j, j0, j1, j2⟩ := htl
            rw [← j2]
            rcases hEF.1 j j0 j1 with w | w
            · exact Or.inl w
            · exact Or.inr ⟨w.1, w.2.1, w.2.2.1, w.2.2.2.1⟩
          refine lv_aload_n hx hb dX0_goOnFrom_35 rfl (lv_at hl 1 rfl) ?_
          refine lv_iload hx hb dX0_goOnFrom_36 (lv_at hl 0 rfl) ?_
          refine lv_bipush (v := J (16)) hx hb dX0_goOnFrom_38 (by decide) ?_
          refine j_idiv hx hb (by omega) (by omega) (by omega) (by omega) dX0_goOnFrom_40 ?_
          refine lv_iload_n hx hb dX0_goOnFrom_41 rfl (lv_at hl 3 rfl) ?_
          refine lv_iload hx hb dX0_goOnFrom_42 (lv_at hl 0 rfl) ?_
          refine lv_bipush (v := J (16)) hx hb dX0_goOnFrom_44 (by decide) ?_
          refine j_irem hx hb (by omega) (by omega) (by omega) (by omega) dX0_goOnFrom_46 ?_
          refine j_iadd hx hb dX0_goOnFrom_47 ?_
          refine lv_iload_n hx hb dX0_goOnFrom_48 rfl (lv_at hl 4 rfl) ?_
          refine lv_iload hx hb dX0_goOnFrom_49 (lv_at hl 5 rfl) ?_
          refine g_callS (As := [.int (J ch)]) (rest := [.int (J (A 10 (A 5 k))), .int (J (T + (v % 16))), .int (J (v / 16)), .ref o]) ⟨hx, hb, hml, hown, hts⟩ (k_bits l g base sa h ch ⟨by omega, by omega⟩) (va_cwS 1 hts gX0_goOnFrom_J6_bitCount_0f7a4 rfl rfl rfl (by decide +kernel) ⟨Nat.le_of_ble_eq_true rfl, Nat.le_of_ble_eq_true rfl⟩) hk hW hS rfl hl.1 (Nat.le_of_ble_eq_true rfl) dX0_goOnFrom_51 ⟨Nat.le_of_ble_eq_true rfl, Nat.le_of_ble_eq_true rfl⟩ (fun r9 h9 H locs hp hW hS => ?_)
          obtain ⟨rfl, e9⟩ := hp
          rw [e9] at hW
          refine W.eq (g2 := F0 m 54 ls [.int (J (bc ch)), .int (J (A 10 (A 5 k))), .int (J (T + (v % 16))), .int (J (v / 16)), .ref o]) rfl ?_
          have hbc := bc_r ch
          refine j_iadd hx hb dX0_goOnFrom_54 ?_
          refine g_callV (As := [.int (J (v / 16)), .int (J (T + (v % 16))), .int (J ((A 10 (A 5 k)) + (bc ch)))]) (rest := []) (b := o) (ci := 0) (C := RX0) (T := TX0) (N := 12) ⟨hx, hb, hml, hown, hts⟩ (g_comeTo l g base sa h o R I L (va_up (va_up A 9 (ea)) 10 (tu)) (v / 16) (T + v % 16) (A 10 (A 5 k) + bc ch) hM ⟨by omega, by omega, by omega, by omega⟩ ⟨by omega, by omega⟩ ⟨by omega, by omega⟩ (show 0 ≤ ea (v / 16) ∧ ea (v / 16) ≤ 1000000 ∧ 0 ≤ tu (v / 16) ∧ tu (v / 16) ≤ 1000000 by omega)) (cwV 3 hts gX0_goOnFrom_X0_comeTo rfl rfl rfl (by decide +kernel) ⟨Nat.le_of_ble_eq_true rfl, Nat.le_of_ble_eq_true rfl⟩) hk hW hS hM.1 rfl rfl hl.1 (Nat.le_of_ble_eq_true rfl) dX0_goOnFrom_55 ⟨Nat.le_of_ble_eq_true rfl, Nat.le_of_ble_eq_true rfl⟩ (fun r9 h9 H locs hp hW hS => ?_)
          have hp : r9 = none ∧ (((T + v % 16 < ea (v / 16) ∨ (T + v % 16 = ea (v / 16) ∧ A 10 (A 5 k) + bc ch < tu (v / 16))) ∧ OB g 0 12 kd0 h9 o R I L (va_up (va_up (va_up (va_up A 9 (ea)) 10 (tu)) 9 (uf ea (v / 16) (T + v % 16))) 10 (uf tu (v / 16) (A 10 (A 5 k) + bc ch))) ∧ Fr (FP 12 kd0 o R) h h9) ∨ (¬ (T + v % 16 < ea (v / 16) ∨ (T + v % 16 = ea (v / 16) ∧ A 10 (A 5 k) + bc ch < tu (v / 16))) ∧ h9 = h)) := hp
          obtain ⟨rfl, hp2⟩ := hp
          refine W.eq (g2 := F0 m 58 ls []) rfl ?_
          rcases hp2 with ⟨u9, hM, hF9⟩ | ⟨u9, e9⟩
          · have hF := hF.tr hF9 (fun q w _ => w)
            generalize h9 = h at hM hF hW
            have hM : OB g 0 12 kd0 h o R I L (va_up (va_up A 9 (uf ea (v / 16) (T + v % 16))) 10 (uf tu (v / 16) (A 10 (A 5 k) + bc ch))) := by
              have e9 : (va_up (va_up (va_up (va_up A 9 (ea)) 10 (tu)) 9 (uf ea (v / 16) (T + v % 16))) 10 (uf tu (v / 16) (A 10 (A 5 k) + bc ch))) = (va_up (va_up A 9 (uf ea (v / 16) (T + v % 16))) 10 (uf tu (v / 16) (A 10 (A 5 k) + bc ch))) := by funext q9; by_cases w9 : q9 = 9 <;> by_cases w10 : q9 = 10 <;> simp [va_up, w9, w10]
              rw [← e9]
              exact hM
            refine lv_iinc (v := J (ch + 1)) (lv' := [(4, .int (J (ch + 1))), (5, .int (J v)), (0, .ref o), (1, .int (J (A 5 k))), (2, .int (J T)), (3, .int (J (A 10 (A 5 k))))]) hx hb dX0_goOnFrom_58 hl (k := 5) rfl (J_inc (by omega)) (by decide) rfl (fun ls hl => ?_)
            refine lv_goto (tgt := 9) hx hb dX0_goOnFrom_61 (by decide) ?_
            exact ih_9 (ch + 1) (uf ea (v / 16) (T + v % 16)) (uf tu (v / 16) (A 10 (A 5 k) + bc ch)) h H locs ls (by omega) (by omega) (by have h8 := EF_yes hEF hk9.1 hk9.2 ha9.1 (by omega) hT9.1 (by omega) (by omega) (by rw [← ev9]; omega) (by rw [← ev9]; omega) (by rw [← ev9]; omega); rw [← ev9, htu9] at h8; exact h8) (by rw [uf_ne _ _ (by intro w9; rw [w9] at hea; omega)]; exact hea) (by rw [uf_ne _ _ (by intro w9; rw [w9] at hea; omega)]; exact htu9) hM hF hW hS (lv_sub hl [2, 3, 4, 5, 0] rfl)
          · rw [e9] at hW
            refine lv_iinc (v := J (ch + 1)) (lv' := [(4, .int (J (ch + 1))), (5, .int (J v)), (0, .ref o), (1, .int (J (A 5 k))), (2, .int (J T)), (3, .int (J (A 10 (A 5 k))))]) hx hb dX0_goOnFrom_58 hl (k := 5) rfl (J_inc (by omega)) (by decide) rfl (fun ls hl => ?_)
            refine lv_goto (tgt := 9) hx hb dX0_goOnFrom_61 (by decide) ?_
            exact ih_9 (ch + 1) ea tu h H locs ls (by omega) (by omega) (EF_no hEF (fun w9 => by rw [← ev9] at w9 ⊢; exact ⟨by omega, fun _ => by omega⟩)) (by omega) (by omega) hM hF hW hS (lv_sub hl [2, 3, 4, 5, 0] rfl)
  exact loop_9 9 0 (A 9) (A 10) h0 H locs ls (by omega) (by omega) hEF0 hea0 rfl (by rw [va_up_id, va_up_id]; exact hM) hF hW hS (lv_sub hl [2, 3, 4, 1, 0] rfl)

set_option maxHeartbeats 4000000 in
set_option maxRecDepth 100000 in
theorem g_goForth (l : Launch) (g : GX) (base : Nat) (sa : Nat → Nat) (h0 : Hp) (o : Nat) (R : Nat → Nat) (I : Nat → Int) (L : Nat → Int) (A : Nat → Int → Int) (hM : OB g 0 12 kd0 h0 o R I L A) (hL1 : L 1 = 3) (hsk : Sok (I 0) (A 1)) (hL6 : k_states (I 0) ≤ L 6 ∧ L 6 ≤ 1728 ∧ L 5 = L 6 ∧ L 8 = 8 * L 6 ∧ L 9 = L 6 ∧ L 10 = L 6) (hLE : LE (k_states (I 0)) (L 6) (lp (I 0) (A 1)) (2 ^ (I 0).toNat) (A 5) (A 6) (A 8) (I 7) (8 * I 7)) : MC l g base sa yX0_goForth wsX0_goForth ({ frames := 2, cells := 0, slots := 0, locals := 48 }) ([.ref o]) h0 (fun r9 h' => r9 = none ∧ Fr (FP 12 kd0 o R) h0 h' ∧ ∃ ea tu, OB g 0 12 kd0 h' o R I L (va_up (va_up A 9 ea) 10 tu) ∧ EF (lp (I 0) (A 1)) (2 ^ (I 0).toNat) (A 5) (I 7) ea tu 61 0 0) := by
  refine Met.ofW (cc := cX0_goForth) (maxL := 3) (ret := none) (by decide) rfl ?_
  intro p e s m args below meth c s₁ B hml hv
  obtain ⟨rfl, hk, hW⟩ := hv
  have hx := B.exec
  have hb := B.bytes
  have hr := B.returns
  have hts := atoms_spec (ws := wsX0_goForth) B.pre
  have hown : s.vm.findClass RX0 = some m.cls := findClass_of_methodNamed B.named
  have hlocks := B.notSynchronized
  have hfX0 : ∀ w ∈ wsX00, w.before ([.ref o]).toArray s = true := fun w h => hts w (List.mem_cons_of_mem _ (List.mem_append_right _ h))
  have hS : va_S (Ab base) s.heap s.heap [] := va_S.rf
  have hl := lv_entry ([.ref o]) (n := 3) (Nat.le_of_ble_eq_true rfl)
  rw [lg_entry_eq]
  generalize (lg_sl ([.ref o]) ++ List.replicate (3 - (lg_sl ([.ref o])).length) Slot.unset).toArray = ls at hl ⊢
  have hl : lv_has ls 3 [(0, .ref o)] := hl
  have hF : Fr (FP 12 kd0 o R) h0 h0 := Fr.rf
  have hn1 := hsk.1
  have hn2 := hsk.2.1
  have hsr := st_r hn1 hn2
  have hp2n := p2n hn1 hn2
  have hNM := hL6.1
  have hr1 := hLE.1
  have hrN := hLE.2.1
  refine lv_aload_n hx hb dX0_goForth_0 rfl (lv_at hl 0 rfl) ?_
  refine g_get (ci := 0) (C := RX0) (T := TX0) (N := 12) (v := .ref (R 9)) hx hb hfX0 (fun _ h9 => h9) hown hk hW hM.1 rfl 9 (by decide) (hts (.fieldLink RX0 42 "JugsAndGlasses$Glasses" "early" "[I") (by decide +kernel)) rfl rfl dX0_goForth_1 ?_
  refine j_ldc (z := 1000000) hx hb (by decide) hown (hts (.constant RX0 77 (1000000)) (by decide +kernel)) dX0_goForth_4 ?_
  refine g_callS (As := [.ref (R 9), .int (J 1000000)]) (rest := []) ⟨hx, hb, hml, hown, hts⟩ (k_fill l g base sa h0 (R 9) (L 9) (1000000) (A 9) (hM.ai 9 (by decide) rfl) ⟨by omega, by omega⟩) (va_cwS 2 hts gX0_goForth_J7_fill_53178 rfl rfl rfl (by decide +kernel) ⟨Nat.le_of_ble_eq_true rfl, Nat.le_of_ble_eq_true rfl⟩) hk hW hS rfl hl.1 (Nat.le_of_ble_eq_true rfl) dX0_goForth_6 ⟨Nat.le_refl _, Nat.le_refl _⟩ (fun r9 h9 H locs hp hW hS => ?_)
  obtain ⟨rfl, e9⟩ := hp
  refine W.eq (g2 := F0 m 9 ls []) rfl ?_
  rw [e9] at hW
  have hM := fill_ob hM 9 (by decide) rfl (v := 1000000)
  have hF := Fr.set (e := (ai g (L 9) (cpN (L 9) (fun _ => 1000000) (A 9)))) hF (FP.a 9 (by decide) ⟨by decide, by decide⟩)
  have hW : Wd g base (uh h0 (R 9) (ai g (L 9) (cpN (L 9) (fun _ => 1000000) (A 9)))) H := hW
  generalize uh h0 (R 9) (ai g (L 9) (cpN (L 9) (fun _ => 1000000) (A 9))) = h at hM hW hF
  have hM : OB g 0 12 kd0 h o R I L (va_up A 9 (cpN (L 9) (fun _ => 1000000) (A 9))) := hM
  refine lv_aload_n hx hb dX0_goForth_9 rfl (lv_at hl 0 rfl) ?_
  refine g_get (ci := 0) (C := RX0) (T := TX0) (N := 12) (v := .ref (R 10)) hx hb hfX0 (fun _ h9 => h9) hown hk hW hM.1 rfl 10 (by decide) (hts (.fieldLink RX0 45 "JugsAndGlasses$Glasses" "turned" "[I") (by decide +kernel)) rfl rfl dX0_goForth_10 ?_
  refine j_ldc (z := 1000000) hx hb (by decide) hown (hts (.constant RX0 77 (1000000)) (by decide +kernel)) dX0_goForth_13 ?_
  refine g_callS (As := [.ref (R 10), .int (J 1000000)]) (rest := []) ⟨hx, hb, hml, hown, hts⟩ (k_fill l g base sa h (R 10) (L 10) (1000000) (A 10) (hM.ai 10 (by decide) rfl) ⟨by omega, by omega⟩) (va_cwS 2 hts gX0_goForth_J7_fill_53178 rfl rfl rfl (by decide +kernel) ⟨Nat.le_of_ble_eq_true rfl, Nat.le_of_ble_eq_true rfl⟩) hk hW hS rfl hl.1 (Nat.le_of_ble_eq_true rfl) dX0_goForth_15 ⟨Nat.le_refl _, Nat.le_refl _⟩ (fun r9 h9 H locs hp hW hS => ?_)
  obtain ⟨rfl, e9⟩ := hp
  refine W.eq (g2 := F0 m 18 ls []) rfl ?_
  rw [e9] at hW
  have hM := fill_ob hM 10 (by decide) rfl (v := 1000000)
  have hF := Fr.set (e := (ai g (L 10) (cpN (L 10) (fun _ => 1000000) ((va_up A 9 (cpN (L 9) (fun _ => 1000000) (A 9))) 10)))) hF (FP.a 10 (by decide) ⟨by decide, by decide⟩)
  have hW : Wd g base (uh h (R 10) (ai g (L 10) (cpN (L 10) (fun _ => 1000000) ((va_up A 9 (cpN (L 9) (fun _ => 1000000) (A 9))) 10)))) H := hW
  generalize uh h (R 10) (ai g (L 10) (cpN (L 10) (fun _ => 1000000) ((va_up A 9 (cpN (L 9) (fun _ => 1000000) (A 9))) 10))) = h at hM hW hF
  have hM : OB g 0 12 kd0 h o R I L (va_up (va_up A 9 (cpN (L 9) (fun _ => 1000000) (A 9))) 10 (cpN (L 10) (fun _ => 1000000) (A 10))) := hM
  refine lv_aload_n hx hb dX0_goForth_18 rfl (lv_at hl 0 rfl) ?_
  refine lv_iconst (v := J (0)) hx hb dX0_goForth_19 rfl ?_
  refine lv_iconst (v := J (0)) hx hb dX0_goForth_20 rfl ?_
  refine lv_iconst (v := J (0)) hx hb dX0_goForth_21 rfl ?_
  have z9 : (cpN (L 9) (fun _ => 1000000) (A 9)) 0 = 1000000 := cpN_in (by omega) (by omega)
  have z10 : (cpN (L 10) (fun _ => 1000000) (A 10)) 0 = 1000000 := cpN_in (by omega) (by omega)
  refine g_callV (As := [.int (J 0), .int (J 0), .int (J 0)]) (rest := []) (b := o) (ci := 0) (C := RX0) (T := TX0) (N := 12) ⟨hx, hb, hml, hown, hts⟩ (g_comeTo l g base sa h o R I L (va_up (va_up A 9 (cpN (L 9) (fun _ => 1000000) (A 9))) 10 (cpN (L 10) (fun _ => 1000000) (A 10))) 0 0 0 hM ⟨by omega, by omega, by omega, by omega⟩ ⟨by omega, by omega⟩ ⟨by omega, by omega⟩ (show 0 ≤ (cpN (L 9) (fun _ => 1000000) (A 9)) 0 ∧ (cpN (L 9) (fun _ => 1000000) (A 9)) 0 ≤ 1000000 ∧ 0 ≤ (cpN (L 10) (fun _ => 1000000) (A 10)) 0 ∧ (cpN (L 10) (fun _ => 1000000) (A 10)) 0 ≤ 1000000 by omega)) (cwV 3 hts gX0_goForth_X0_comeTo rfl rfl rfl (by decide +kernel) ⟨Nat.le_of_ble_eq_true rfl, Nat.le_of_ble_eq_true rfl⟩) hk hW hS hM.1 rfl rfl hl.1 (Nat.le_of_ble_eq_true rfl) dX0_goForth_22 ⟨Nat.le_of_ble_eq_true rfl, Nat.le_of_ble_eq_true rfl⟩ (fun r9 h9 H locs hp hW hS => ?_)
  have hp : r9 = none ∧ (((0 < (cpN (L 9) (fun _ => 1000000) (A 9)) 0 ∨ ((0 : Int) = (cpN (L 9) (fun _ => 1000000) (A 9)) 0 ∧ 0 < (cpN (L 10) (fun _ => 1000000) (A 10)) 0)) ∧ OB g 0 12 kd0 h9 o R I L (va_up (va_up (va_up (va_up A 9 (cpN (L 9) (fun _ => 1000000) (A 9))) 10 (cpN (L 10) (fun _ => 1000000) (A 10))) 9 (uf (cpN (L 9) (fun _ => 1000000) (A 9)) 0 0)) 10 (uf (cpN (L 10) (fun _ => 1000000) (A 10)) 0 0)) ∧ Fr (FP 12 kd0 o R) h h9) ∨ (¬ (0 < (cpN (L 9) (fun _ => 1000000) (A 9)) 0 ∨ ((0 : Int) = (cpN (L 9) (fun _ => 1000000) (A 9)) 0 ∧ 0 < (cpN (L 10) (fun _ => 1000000) (A 10)) 0)) ∧ h9 = h)) := hp
  obtain ⟨rfl, hp2⟩ := hp
  refine W.eq (g2 := F0 m 25 ls []) rfl ?_
  rcases hp2 with ⟨-, hM, hF9⟩ | ⟨u9, -⟩
  rotate_left
  · exact absurd (Or.inl (by rw [z9]; decide)) u9
  have hF := hF.tr hF9 (fun q w _ => w)
  clear z9 z10
  generalize h9 = h at hM hF hW
  have hM : OB g 0 12 kd0 h o R I L (va_up (va_up A 9 (uf (cpN (L 9) (fun _ => 1000000) (A 9)) 0 0)) 10 (uf (cpN (L 10) (fun _ => 1000000) (A 10)) 0 0)) := by
    have e9 : (va_up (va_up (va_up (va_up A 9 (cpN (L 9) (fun _ => 1000000) (A 9))) 10 (cpN (L 10) (fun _ => 1000000) (A 10))) 9 (uf (cpN (L 9) (fun _ => 1000000) (A 9)) 0 0)) 10 (uf (cpN (L 10) (fun _ => 1000000) (A 10)) 0 0)) = (va_up (va_up A 9 (uf (cpN (L 9) (fun _ => 1000000) (A 9)) 0 0)) 10 (uf (cpN (L 10) (fun _ => 1000000) (A 10)) 0 0)) := by funext q9; by_cases w9 : q9 = 9 <;> by_cases w10 : q9 = 10 <;> simp [va_up, w9, w10]
    rw [← e9]
    exact hM
  refine lv_iconst (v := J (0)) hx hb dX0_goForth_25 rfl ?_
  refine lv_istore_n (lv' := [(1, .int (J 0)), (0, .ref o)]) hx hb dX0_goForth_26 rfl hl (by decide) rfl (fun ls hl => ?_)
  have loop_27 : ∀ (n9 : Nat) (T : Int) (ea : Int → Int) (tu : Int → Int) (h : Hp) (H : Heap) (locs : List Loc) (ls : Array Slot), 61 - T < (n9 : Int) → (0 ≤ T ∧ T ≤ 61) → (EF (lp (I 0) (A 1)) (2 ^ (I 0).toNat) (A 5) (I 7) ea tu T 0 0) → (OB g 0 12 kd0 h o R I L (va_up (va_up A 9 (ea)) 10 (tu))) → (Fr (FP 12 kd0 o R) h0 h) → (Wd g base h H) → (va_S (Ab base) s.heap H locs) → (lv_has ls 3 [(0, .ref o), (1, .int (J T))]) → W p l e (headSpec wsX0_goForth ({ frames := 2, cells := 0, slots := 0, locals := 48 })).room s m ([.ref o]).toArray below meth c H locs 0 0 (MQ below (QcM g base (fun r9 h' => r9 = none ∧ Fr (FP 12 kd0 o R) h0 h' ∧ ∃ ea tu, OB g 0 12 kd0 h' o R I L (va_up (va_up A 9 ea) 10 tu) ∧ EF (lp (I 0) (A 1)) (2 ^ (I 0).toNat) (A 5) (I 7) ea tu 61 0 0)) ([.ref o]).toArray s (0) (0) (Ab base)) (F0 m 27 ls []) := by
    intro n9
    induction n9 with
    | zero =>
      intro T ea tu h H locs ls hmu hT9 hEF hM hF hW hS hl
      exact absurd hmu (by omega)
    | succ n9 ih =>
      intro T ea tu h H locs ls hmu hT9 hEF hM hF hW hS hl
      have ih_27 := ih
      refine lv_iload_n hx hb dX0_goForth_27 rfl (lv_at hl 1 rfl) ?_
      refine lv_bipush (v := J (60)) hx hb dX0_goForth_28 (by decide) ?_
      refine j_icmp_gt (x := T) (y := 60) (tgt := 89) hx hb ⟨by omega, by omega⟩ ⟨by decide, by decide⟩ dX0_goForth_30 (by decide) (fun c_30 => ?_) (fun c_30 => ?_)
      · exact g_vret hx hb hr hW hS dX0_goForth_89 hlocks (⟨rfl, hF, ea, tu, hM, by have e9 : T = 61 := (by omega); rw [e9] at hEF; exact hEF⟩)
      · refine lv_iconst (v := J (0)) hx hb dX0_goForth_33 rfl ?_
        refine lv_istore_n (lv' := [(2, .int (J 0)), (0, .ref o), (1, .int (J T))]) hx hb dX0_goForth_34 rfl hl (by decide) rfl (fun ls hl => ?_)
        have loop_35 : ∀ (n9 : Nat) (k : Int) (ea : Int → Int) (tu : Int → Int) (h : Hp) (H : Heap) (locs : List Loc) (ls : Array Slot), I 7 - k < (n9 : Int) → (0 ≤ k ∧ k ≤ I 7) → (EF (lp (I 0) (A 1)) (2 ^ (I 0).toNat) (A 5) (I 7) ea tu T k 0) → (OB g 0 12 kd0 h o R I L (va_up (va_up A 9 (ea)) 10 (tu))) → (Fr (FP 12 kd0 o R) h0 h) → (Wd g base h H) → (va_S (Ab base) s.heap H locs) → (lv_has ls 3 [(0, .ref o), (1, .int (J T)), (2, .int (J k))]) → W p l e (headSpec wsX0_goForth ({ frames := 2, cells := 0, slots := 0, locals := 48 })).room s m ([.ref o]).toArray below meth c H locs 0 0 (MQ below (QcM g base (fun r9 h' => r9 = none ∧ Fr (FP 12 kd0 o R) h0 h' ∧ ∃ ea tu, OB g 0 12 kd0 h' o R I L (va_up (va_up A 9 ea) 10 tu) ∧ EF (lp (I 0) (A 1)) (2 ^ (I 0).toNat) (A 5) (I 7) ea tu 61 0 0)) ([.ref o]).toArray s (0) (0) (Ab base)) (F0 m 35 ls []) := by
          intro n9
          induction n9 with
          | zero =>
            intro k ea tu h H locs ls hmu hk9 hEF hM hF hW hS hl
            exact absurd hmu (by omega)
          | succ n9 ih =>
            intro k ea tu h H locs ls hmu hk9 hEF hM hF hW hS hl
            have ih_35 := ih
            refine lv_iload_n hx hb dX0_goForth_35 rfl (lv_at hl 2 rfl) ?_
            refine lv_aload_n hx hb dX0_goForth_36 rfl (lv_at hl 0 rfl) ?_
            refine g_get (ci := 0) (C := RX0) (T := TX0) (N := 12) (v := .int (J (I 7))) hx hb hfX0 (fun _ h9 => h9) hown hk hW hM.1 rfl 7 (by decide) (hts (.fieldLink RX0 36 "JugsAndGlasses$Glasses" "listedEvents" "I") (by decide +kernel)) rfl rfl dX0_goForth_37 ?_
            refine j_icmp_ge (x := k) (y := I 7) (tgt := 83) hx hb ⟨by omega, by omega⟩ ⟨by omega, by omega⟩ dX0_goForth_40 (by decide) (fun c_40 => ?_) (fun c_40 => ?_)
            · refine lv_iinc (v := J (T + 1)) (lv' := [(1, .int (J (T + 1))), (0, .ref o), (2, .int (J k))]) hx hb dX0_goForth_83 hl (k := 1) rfl (J_inc (by omega)) (by decide) rfl (fun ls hl => ?_)
              refine lv_goto (tgt := 27) hx hb dX0_goForth_86 (by decide) ?_
              exact ih_27 (T + 1) ea tu h H locs ls (by omega) (by omega) (EF_T (by have e9 : k = I 7 := (by omega); rw [e9] at hEF; exact hEF)) hM hF hW hS (lv_sub hl [1, 0] rfl)
            · refine lv_iload_n hx hb dX0_goForth_43 rfl (lv_at hl 2 rfl) ?_
              refine lv_aload_n hx hb dX0_goForth_44 rfl (lv_at hl 0 rfl) ?_
              refine g_get (ci := 0) (C := RX0) (T := TX0) (N := 12) (v := .ref (R 5)) hx hb hfX0 (fun _ h9 => h9) hown hk hW hM.1 rfl 5 (by decide) (hts (.fieldLink RX0 29 "JugsAndGlasses$Glasses" "events" "[I") (by decide +kernel)) rfl rfl dX0_goForth_45 ?_
              refine g_alen (n := L 5) hx hb hk hW (hM.ai 5 (by decide) rfl) (by omega) dX0_goForth_48 ?_
              refine j_icmp_ge (x := k) (y := L 5) (tgt := 83) hx hb ⟨by omega, by omega⟩ ⟨by omega, by omega⟩ dX0_goForth_49 (by decide) (fun c_49 => ?_) (fun c_49 => ?_)
              · exfalso
                omega
              · have hek := hLE.2.2.2.1 k hk9.1 (by omega)
                have hkr : (ea (A 5 k) = 1000000 ∧ tu (A 5 k) = 1000000) ∨ (0 ≤ ea (A 5 k) ∧ ea (A 5 k) ≤ T + 12) := (hEF.1 k hk9.1 (by omega)).imp id (fun w => ⟨w.1, w.2.1⟩)
                refine lv_aload_n hx hb dX0_goForth_52 rfl (lv_at hl 0 rfl) ?_
                refine lv_aload_n hx hb dX0_goForth_53 rfl (lv_at hl 0 rfl) ?_
                refine g_get (ci := 0) (C := RX0) (T := TX0) (N := 12) (v := .ref (R 5)) hx hb hfX0 (fun _ h9 => h9) hown hk hW hM.1 rfl 5 (by decide) (hts (.fieldLink RX0 29 "JugsAndGlasses$Glasses" "events" "[I") (by decide +kernel)) rfl rfl dX0_goForth_54 ?_
                refine lv_iload_n hx hb dX0_goForth_57 rfl (lv_at hl 2 rfl) ?_
                refine g_iald (n := L 5) (f := A 5) (i := k) hx hb hk hW (hM.ai 5 (by decide) rfl) (by omega) (by omega) (by omega) dX0_goForth_58 ?_
                refine g_callV (As := [.int (J (A 5 k))]) (rest := []) (b := o) (ci := 0) (C := RX0) (T := TX0) (N := 12) ⟨hx, hb, hml, hown, hts⟩ (g_earlyAt l g base sa h o R I L (va_up (va_up A 9 (ea)) 10 (tu)) (A 5 k) hM ⟨by omega, by omega, by omega⟩) (cwV 1 hts gX0_goForth_X0_earlyAt rfl rfl rfl (by decide +kernel) ⟨Nat.le_of_ble_eq_true rfl, Nat.le_of_ble_eq_true rfl⟩) hk hW hS hM.1 rfl rfl hl.1 (Nat.le_of_ble_eq_true rfl) dX0_goForth_59 ⟨Nat.le_of_ble_eq_true rfl, Nat.le_of_ble_eq_true rfl⟩ (fun r9 h9 H locs hp hW hS => ?_)
                have hp : r9 = some (.int (J (ea (A 5 k)))) ∧ h9 = h := hp
                obtain ⟨rfl, e9⟩ := hp
                rw [e9] at hW
                refine W.eq (g2 := F0 m 62 ls [.int (J (ea (A 5 k)))]) rfl ?_
                refine lv_iload_n hx hb dX0_goForth_62 rfl (lv_at hl 1 rfl) ?_
                refine j_icmp_ne (x := ea (A 5 k)) (y := T) (tgt := 77) hx hb ⟨by omega, by omega⟩ ⟨by omega, by omega⟩ dX0_goForth_63 (by decide) (fun c_63 => ?_) (fun c_63 => ?_)
                · refine lv_iinc (v := J (k + 1)) (lv' := [(2, .int (J (k + 1))), (0, .ref o), (1, .int (J T))]) hx hb dX0_goForth_77 hl (k := 2) rfl (J_inc (by omega)) (by decide) rfl (fun ls hl => ?_)
                  refine lv_goto (tgt := 35) hx hb dX0_goForth_80 (by decide) ?_
                  exact ih_35 (k + 1) ea tu h H locs ls (by omega) (by omega) (EF_skip hEF c_63) hM hF hW hS (lv_sub hl [1, 2, 0] rfl)
                · refine lv_aload_n hx hb dX0_goForth_66 rfl (lv_at hl 0 rfl) ?_
                  refine lv_aload_n hx hb dX0_goForth_67 rfl (lv_at hl 0 rfl) ?_
                  refine g_get (ci := 0) (C := RX0) (T := TX0) (N := 12) (v := .ref (R 5)) hx hb hfX0 (fun _ h9 => h9) hown hk hW hM.1 rfl 5 (by decide) (hts (.fieldLink RX0 29 "JugsAndGlasses$Glasses" "events" "[I") (by decide +kernel)) rfl rfl dX0_goForth_68 ?_
                  refine lv_iload_n hx hb dX0_goForth_71 rfl (lv_at hl 2 rfl) ?_
                  refine g_iald (n := L 5) (f := A 5) (i := k) hx hb hk hW (hM.ai 5 (by decide) rfl) (by omega) (by omega) (by omega) dX0_goForth_72 ?_
                  refine lv_iload_n hx hb dX0_goForth_73 rfl (lv_at hl 1 rfl) ?_
                  refine g_callV (As := [.int (J (A 5 k)), .int (J T)]) (rest := []) (b := o) (ci := 0) (C := RX0) (T := TX0) (N := 12) ⟨hx, hb, hml, hown, hts⟩ (g_goOn l g base sa h o R I L (va_up (va_up A 9 (ea)) 10 (tu)) k T hM hL1 hsk hL6 hLE ⟨by omega, by omega⟩ ⟨by omega, by omega⟩ hEF c_63) (cwV 2 hts gX0_goForth_X0_goOnFrom rfl rfl rfl (by decide +kernel) ⟨Nat.le_of_ble_eq_true rfl, Nat.le_of_ble_eq_true rfl⟩) hk hW hS hM.1 rfl rfl hl.1 (Nat.le_of_ble_eq_true rfl) dX0_goForth_74 ⟨Nat.le_of_ble_eq_true rfl, Nat.le_of_ble_eq_true rfl⟩ (fun r9 h9 H locs hp hW hS => ?_)
                  have hp : r9 = none ∧ Fr (FP 12 kd0 o R) h h9 ∧ ∃ ea2 tu2, OB g 0 12 kd0 h9 o R I L (va_up (va_up (va_up (va_up A 9 ea) 10 tu) 9 ea2) 10 tu2) ∧ EF (lp (I 0) (A 1)) (2 ^ (I 0).toNat) (A 5) (I 7) ea2 tu2 T (k + 1) 0 := hp
                  obtain ⟨rfl, hF9, ea2, tu2, hM, hEF2⟩ := hp
                  refine W.eq (g2 := F0 m 77 ls []) rfl ?_
                  have hF := hF.tr hF9 (fun q w _ => w)
                  generalize h9 = h at hM hF hW
                  have hM : OB g 0 12 kd0 h o R I L (va_up (va_up A 9 (ea2)) 10 (tu2)) := by
                    have e9 : (va_up (va_up (va_up (va_up A 9 (ea)) 10 (tu)) 9 (ea2)) 10 (tu2)) = (va_up (va_up A 9 (ea2)) 10 (tu2)) := by funext q9; by_cases w9 : q9 = 9 <;> by_cases w10 : q9 = 10 <;> simp [va_up, w9, w10]
                    rw [← e9]
                    exact hM
                  refine lv_iinc (v := J (k + 1)) (lv' := [(2, .int (J (k + 1))), (0, .ref o), (1, .int (J T))]) hx hb dX0_goForth_77 hl (k := 2) rfl (J_inc (by omega)) (by decide) rfl (fun ls hl => ?_)
                  refine lv_goto (tgt := 35) hx hb dX0_goForth_80 (by decide) ?_
                  exact ih_35 (k + 1) ea2 tu2 h H locs ls (by omega) (by omega) hEF2 hM hF hW hS (lv_sub hl [1, 2, 0] rfl)
        exact loop_35 ((I 7).toNat + 1) 0 ea tu h H locs ls (by omega) (by omega) hEF hM hF hW hS (lv_sub hl [1, 2, 0] rfl)
  exact loop_27 62 0 (uf (cpN (L 9) (fun _ => 1000000) (A 9)) 0 0) (uf (cpN (L 10) (fun _ => 1000000) (A 10)) 0 0) h H locs ls (by omega) (by omega) (EF_0 (fun j j0 j1 => by have := hLE.2.2.2.1 j j0 j1; unfold uf; split; rfl; exact cpN_in this.1 (by omega)) (fun j j0 j1 => by have := hLE.2.2.2.1 j j0 j1; unfold uf; split; rfl; exact cpN_in this.1 (by omega)) (uf_same _ _ _) (uf_same _ _ _)) hM hF hW hS (lv_sub hl [1, 0] rfl)
