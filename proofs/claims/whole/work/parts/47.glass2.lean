set_option maxHeartbeats 4000000 in
set_option maxRecDepth 100000 in
theorem g_add (l : Launch) (g : GX) (base : Nat) (sa : Nat → Nat) (h0 : Hp) (o : Nat) (R : Nat → Nat) (I : Nat → Int) (L : Nat → Int) (A : Nat → Int → Int) (v : Int) (hM : OB g 0 12 kd0 h0 o R I L A) (hL1 : L 1 = 3) (hn : 0 ≤ I 0 ∧ I 0 ≤ 3) : MC l g base sa yX0_add wsX0_add ({ frames := 0, cells := 0, slots := 0, locals := 0 }) ([.ref o, .int (J v)]) h0 (fun r h' => (I 0 = 3 ∧ r = some (.int (J (-4))) ∧ h' = h0) ∨ (I 0 < 3 ∧ r = some (.int (J (I 0))) ∧ OB g 0 12 kd0 h' o R (va_up (va_up I 0 (I 0 + 1)) 4 0) L (va_up A 1 (uf (A 1) (I 0) v)) ∧ Fr (FP 12 kd0 o R) h0 h')) := by
  refine Met.ofW (cc := cX0_add) (maxL := 2) (ret := (some .int)) (by decide) rfl ?_
  intro p e s m args below meth c s₁ B hml hv
  obtain ⟨rfl, hk, hW⟩ := hv
  have hx := B.exec
  have hb := B.bytes
  have hr := B.returns
  have hts := atoms_spec (ws := wsX0_add) B.pre
  have hown : s.vm.findClass RX0 = some m.cls := findClass_of_methodNamed B.named
  have hlocks := B.notSynchronized
  have hfX0 : ∀ w ∈ wsX00, w.before ([.ref o, .int (J v)]).toArray s = true := fun w h => hts w (List.mem_cons_of_mem _ (List.mem_append_right _ h))
  have hS : va_S (Ab base) s.heap s.heap [] := va_S.rf
  have hl := lv_entry ([.ref o, .int (J v)]) (n := 2) (Nat.le_of_ble_eq_true rfl)
  rw [lg_entry_eq]
  generalize (lg_sl ([.ref o, .int (J v)]) ++ List.replicate (2 - (lg_sl ([.ref o, .int (J v)])).length) Slot.unset).toArray = ls at hl ⊢
  have hl : lv_has ls 2 [(0, .ref o), (1, .int (J v))] := hl
  have hF : Fr (FP 12 kd0 o R) h0 h0 := Fr.rf
  refine lv_aload_n hx hb dX0_add_0 rfl (lv_at hl 0 rfl) ?_
  refine g_get (ci := 0) (C := RX0) (T := TX0) (N := 12) (v := .int (J (I 0))) hx hb hfX0 (fun _ h9 => h9) hown hk hW hM.1 rfl 0 (by decide) (hts (.fieldLink RX0 9 "JugsAndGlasses$Glasses" "number" "I") (by decide +kernel)) rfl rfl dX0_add_1 ?_
  refine lv_iconst (v := J (3)) hx hb dX0_add_4 rfl ?_
  refine j_icmp_lt (x := I 0) (y := 3) (tgt := 11) hx hb ⟨by omega, by omega⟩ ⟨by decide, by decide⟩ dX0_add_5 (by decide) (fun c_5 => ?_) (fun c_5 => ?_)
  · refine lv_aload_n hx hb dX0_add_11 rfl (lv_at hl 0 rfl) ?_
    refine g_get (ci := 0) (C := RX0) (T := TX0) (N := 12) (v := .ref (R 1)) hx hb hfX0 (fun _ h9 => h9) hown hk hW hM.1 rfl 1 (by decide) (hts (.fieldLink RX0 15 "JugsAndGlasses$Glasses" "span" "[I") (by decide +kernel)) rfl rfl dX0_add_12 ?_
    refine lv_aload_n hx hb dX0_add_15 rfl (lv_at hl 0 rfl) ?_
    refine g_get (ci := 0) (C := RX0) (T := TX0) (N := 12) (v := .int (J (I 0))) hx hb hfX0 (fun _ h9 => h9) hown hk hW hM.1 rfl 0 (by decide) (hts (.fieldLink RX0 9 "JugsAndGlasses$Glasses" "number" "I") (by decide +kernel)) rfl rfl dX0_add_16 ?_
    refine lv_iload_n hx hb dX0_add_19 rfl (lv_at hl 1 rfl) ?_
    refine o_iast (A' := (va_up A 1 (uf (A 1) (I 0) v))) (i := I 0) (x := v) hx hb hk hW hS hM hF 1 (by decide) rfl (FP.a 1 (by decide) ⟨by decide, by decide⟩) (by omega) (show I 0 < L 1 from by omega) (show L 1 < 2147483648 from by omega) rfl dX0_add_20 (fun h H locs hM hF hst hW hS => ?_)
    refine lv_aload_n hx hb dX0_add_21 rfl (lv_at hl 0 rfl) ?_
    refine lv_dup hx hb dX0_add_22 rfl ?_
    refine g_get (ci := 0) (C := RX0) (T := TX0) (N := 12) (v := .int (J (I 0))) hx hb hfX0 (fun _ h9 => h9) hown hk hW hM.1 rfl 0 (by decide) (hts (.fieldLink RX0 9 "JugsAndGlasses$Glasses" "number" "I") (by decide +kernel)) rfl rfl dX0_add_23 ?_
    refine lv_iconst (v := J (1)) hx hb dX0_add_26 rfl ?_
    refine j_iadd hx hb dX0_add_27 ?_
    refine o_put (I' := (va_up I 0 ((I 0) + 1))) (ci := 0) (C := RX0) (T := TX0) (N := 12) (ty := .int) hx hb hfX0 (fun _ h9 => h9) tyX0 tyX0_ok nmX0 hown hk hW hS hM hF FP.o rfl 0 (by decide) rfl (hts (.fieldLink RX0 9 "JugsAndGlasses$Glasses" "number" "I") (by decide +kernel)) rfl rfl (by decide +kernel) rfl rfl rfl dX0_add_28 (fun h H locs hM hF hst hW hS => ?_)
    refine lv_aload_n hx hb dX0_add_31 rfl (lv_at hl 0 rfl) ?_
    refine lv_iconst (v := J (0)) hx hb dX0_add_32 rfl ?_
    refine o_put (I' := (va_up (va_up I 0 ((I 0) + 1)) 4 (0))) (ci := 0) (C := RX0) (T := TX0) (N := 12) (ty := .boolean) hx hb hfX0 (fun _ h9 => h9) tyX0 tyX0_ok nmX0 hown hk hW hS hM hF FP.o rfl 4 (by decide) rfl (hts (.fieldLink RX0 25 "JugsAndGlasses$Glasses" "known" "Z") (by decide +kernel)) rfl rfl (by decide +kernel) (nb_n (Or.inl rfl)) (nb_f (Or.inl rfl)) rfl dX0_add_33 (fun h H locs hM hF hst hW hS => ?_)
    refine lv_aload_n hx hb dX0_add_36 rfl (lv_at hl 0 rfl) ?_
    refine g_get (ci := 0) (C := RX0) (T := TX0) (N := 12) (v := .int (J ((I 0) + 1))) hx hb hfX0 (fun _ h9 => h9) hown hk hW hM.1 rfl 0 (by decide) (hts (.fieldLink RX0 9 "JugsAndGlasses$Glasses" "number" "I") (by decide +kernel)) rfl rfl dX0_add_37 ?_
    refine lv_iconst (v := J (1)) hx hb dX0_add_40 rfl ?_
    refine j_isub hx hb dX0_add_41 ?_
    exact g_iret hx hb hr hW hS dX0_add_42 hlocks (Or.inr ⟨by omega, congrArg (fun q : Int => some (Value.int (J q))) (show I 0 + 1 - 1 = I 0 by omega), hM, hF⟩)
  · refine lv_bipush (v := J (-4)) hx hb dX0_add_8 (by decide) ?_
    exact g_iret hx hb hr hW hS dX0_add_10 hlocks (Or.inl ⟨by omega, rfl, rfl⟩)

set_option maxHeartbeats 4000000 in
set_option maxRecDepth 100000 in
theorem g_removeAll (l : Launch) (g : GX) (base : Nat) (sa : Nat → Nat) (h0 : Hp) (o : Nat) (R : Nat → Nat) (I : Nat → Int) (L : Nat → Int) (A : Nat → Int → Int) (hM : OB g 0 12 kd0 h0 o R I L A) : MC l g base sa yX0_removeAll wsX0_removeAll ({ frames := 0, cells := 0, slots := 0, locals := 0 }) ([.ref o]) h0 (fun r h' => r = some (.int (J (I 0))) ∧ OB g 0 12 kd0 h' o R (va_up (va_up I 0 0) 4 0) L A ∧ Fr (FP 12 kd0 o R) h0 h') := by
  refine Met.ofW (cc := cX0_removeAll) (maxL := 2) (ret := (some .int)) (by decide) rfl ?_
  intro p e s m args below meth c s₁ B hml hv
  obtain ⟨rfl, hk, hW⟩ := hv
  have hx := B.exec
  have hb := B.bytes
  have hr := B.returns
  have hts := atoms_spec (ws := wsX0_removeAll) B.pre
  have hown : s.vm.findClass RX0 = some m.cls := findClass_of_methodNamed B.named
  have hlocks := B.notSynchronized
  have hfX0 : ∀ w ∈ wsX00, w.before ([.ref o]).toArray s = true := fun w h => hts w (List.mem_cons_of_mem _ (List.mem_append_right _ h))
  have hS : va_S (Ab base) s.heap s.heap [] := va_S.rf
  have hl := lv_entry ([.ref o]) (n := 2) (Nat.le_of_ble_eq_true rfl)
  rw [lg_entry_eq]
  generalize (lg_sl ([.ref o]) ++ List.replicate (2 - (lg_sl ([.ref o])).length) Slot.unset).toArray = ls at hl ⊢
  have hl : lv_has ls 2 [(0, .ref o)] := hl
  have hF : Fr (FP 12 kd0 o R) h0 h0 := Fr.rf
  refine lv_aload_n hx hb dX0_removeAll_0 rfl (lv_at hl 0 rfl) ?_
  refine g_get (ci := 0) (C := RX0) (T := TX0) (N := 12) (v := .int (J (I 0))) hx hb hfX0 (fun _ h9 => h9) hown hk hW hM.1 rfl 0 (by decide) (hts (.fieldLink RX0 9 "JugsAndGlasses$Glasses" "number" "I") (by decide +kernel)) rfl rfl dX0_removeAll_1 ?_
  refine lv_istore_n (lv' := [(1, .int (J (I 0))), (0, .ref o)]) hx hb dX0_removeAll_4 rfl hl (by decide) rfl (fun ls hl => ?_)
  refine lv_aload_n hx hb dX0_removeAll_5 rfl (lv_at hl 1 rfl) ?_
  refine lv_iconst (v := J (0)) hx hb dX0_removeAll_6 rfl ?_
  refine o_put (I' := (va_up I 0 (0))) (ci := 0) (C := RX0) (T := TX0) (N := 12) (ty := .int) hx hb hfX0 (fun _ h9 => h9) tyX0 tyX0_ok nmX0 hown hk hW hS hM hF FP.o rfl 0 (by decide) rfl (hts (.fieldLink RX0 9 "JugsAndGlasses$Glasses" "number" "I") (by decide +kernel)) rfl rfl (by decide +kernel) rfl rfl rfl dX0_removeAll_7 (fun h H locs hM hF hst hW hS => ?_)
  refine lv_aload_n hx hb dX0_removeAll_10 rfl (lv_at hl 1 rfl) ?_
  refine lv_iconst (v := J (0)) hx hb dX0_removeAll_11 rfl ?_
  refine o_put (I' := (va_up (va_up I 0 (0)) 4 (0))) (ci := 0) (C := RX0) (T := TX0) (N := 12) (ty := .boolean) hx hb hfX0 (fun _ h9 => h9) tyX0 tyX0_ok nmX0 hown hk hW hS hM hF FP.o rfl 4 (by decide) rfl (hts (.fieldLink RX0 25 "JugsAndGlasses$Glasses" "known" "Z") (by decide +kernel)) rfl rfl (by decide +kernel) (nb_n (Or.inl rfl)) (nb_f (Or.inl rfl)) rfl dX0_removeAll_12 (fun h H locs hM hF hst hW hS => ?_)
  refine lv_iload_n hx hb dX0_removeAll_15 rfl (lv_at hl 0 rfl) ?_
  exact g_iret hx hb hr hW hS dX0_removeAll_16 hlocks (⟨rfl, hM, hF⟩)

set_option maxHeartbeats 4000000 in
set_option maxRecDepth 100000 in
theorem g_list (l : Launch) (g : GX) (base : Nat) (sa : Nat → Nat) (h0 : Hp) (o : Nat) (R : Nat → Nat) (I : Nat → Int) (L : Nat → Int) (A : Nat → Int → Int) (y : Int) (hM : OB g 0 12 kd0 h0 o R I L A) (hy9 : 0 ≤ y ∧ y < L 6) (hL6 : L 6 ≤ 1728 ∧ L 5 = L 6) (hb9 : A 6 y = 0 ∨ A 6 y = 1) (hr9 : 0 ≤ I 7 ∧ I 7 ≤ L 5 ∧ (A 6 y = 0 → I 7 < L 5)) : MC l g base sa yX0_list wsX0_list ({ frames := 0, cells := 0, slots := 0, locals := 0 }) ([.ref o, .int (J y)]) h0 (fun r h' => r = none ∧ ((A 6 y ≠ 0 ∧ h' = h0) ∨ (A 6 y = 0 ∧ OB g 0 12 kd0 h' o R (va_up I 7 (I 7 + 1)) L (va_up (va_up A 6 (uf (A 6) y 1)) 5 (uf (A 5) (I 7) y)) ∧ Fr (FP 12 kd0 o R) h0 h'))) := by
  refine Met.ofW (cc := cX0_list) (maxL := 2) (ret := none) (by decide) rfl ?_
  intro p e s m args below meth c s₁ B hml hv
  obtain ⟨rfl, hk, hW⟩ := hv
  have hx := B.exec
  have hb := B.bytes
  have hr := B.returns
  have hts := atoms_spec (ws := wsX0_list) B.pre
  have hown : s.vm.findClass RX0 = some m.cls := findClass_of_methodNamed B.named
  have hlocks := B.notSynchronized
  have hfX0 : ∀ w ∈ wsX00, w.before ([.ref o, .int (J y)]).toArray s = true := fun w h => hts w (List.mem_cons_of_mem _ (List.mem_append_right _ h))
  have hS : va_S (Ab base) s.heap s.heap [] := va_S.rf
  have hl := lv_entry ([.ref o, .int (J y)]) (n := 2) (Nat.le_of_ble_eq_true rfl)
  rw [lg_entry_eq]
  generalize (lg_sl ([.ref o, .int (J y)]) ++ List.replicate (2 - (lg_sl ([.ref o, .int (J y)])).length) Slot.unset).toArray = ls at hl ⊢
  have hl : lv_has ls 2 [(0, .ref o), (1, .int (J y))] := hl
  have hF : Fr (FP 12 kd0 o R) h0 h0 := Fr.rf
  refine lv_iload_n hx hb dX0_list_0 rfl (lv_at hl 1 rfl) ?_
  refine j_if_lt (x := y) (tgt := 61) hx hb ⟨by omega, by omega⟩ dX0_list_1 (by decide) (fun c_1 => ?_) (fun c_1 => ?_)
  · exfalso
    omega
  · refine lv_iload_n hx hb dX0_list_4 rfl (lv_at hl 1 rfl) ?_
    refine lv_aload_n hx hb dX0_list_5 rfl (lv_at hl 0 rfl) ?_
    refine g_get (ci := 0) (C := RX0) (T := TX0) (N := 12) (v := .ref (R 6)) hx hb hfX0 (fun _ h9 => h9) hown hk hW hM.1 rfl 6 (by decide) (hts (.fieldLink RX0 32 "JugsAndGlasses$Glasses" "listed" "[Z") (by decide +kernel)) rfl rfl dX0_list_6 ?_
    refine g_zalen (n := L 6) hx hb hk hW (hM.az 6 (by decide) rfl) (by omega) dX0_list_9 ?_
    refine j_icmp_ge (x := y) (y := L 6) (tgt := 61) hx hb ⟨by omega, by omega⟩ ⟨by omega, by omega⟩ dX0_list_10 (by decide) (fun c_10 => ?_) (fun c_10 => ?_)
    · exfalso
      omega
    · refine lv_aload_n hx hb dX0_list_13 rfl (lv_at hl 0 rfl) ?_
      refine g_get (ci := 0) (C := RX0) (T := TX0) (N := 12) (v := .ref (R 6)) hx hb hfX0 (fun _ h9 => h9) hown hk hW hM.1 rfl 6 (by decide) (hts (.fieldLink RX0 32 "JugsAndGlasses$Glasses" "listed" "[Z") (by decide +kernel)) rfl rfl dX0_list_14 ?_
      refine lv_iload_n hx hb dX0_list_17 rfl (lv_at hl 1 rfl) ?_
      refine g_zald (n := L 6) (f := A 6) (i := y) hx hb hk hW (hM.az 6 (by decide) rfl) (by omega) (by omega) (by omega) dX0_list_18 ?_
      refine j_if_ne (x := A 6 y) (tgt := 61) hx hb ⟨by omega, by omega⟩ dX0_list_19 (by decide) (fun c_19 => ?_) (fun c_19 => ?_)
      · exact g_vret hx hb hr hW hS dX0_list_61 hlocks (⟨rfl, Or.inl ⟨by omega, rfl⟩⟩)
      · refine lv_aload_n hx hb dX0_list_22 rfl (lv_at hl 0 rfl) ?_
        refine g_get (ci := 0) (C := RX0) (T := TX0) (N := 12) (v := .int (J (I 7))) hx hb hfX0 (fun _ h9 => h9) hown hk hW hM.1 rfl 7 (by decide) (hts (.fieldLink RX0 36 "JugsAndGlasses$Glasses" "listedEvents" "I") (by decide +kernel)) rfl rfl dX0_list_23 ?_
        have hr8 := hr9.2.2 (by omega)
        refine lv_aload_n hx hb dX0_list_26 rfl (lv_at hl 0 rfl) ?_
        refine g_get (ci := 0) (C := RX0) (T := TX0) (N := 12) (v := .ref (R 5)) hx hb hfX0 (fun _ h9 => h9) hown hk hW hM.1 rfl 5 (by decide) (hts (.fieldLink RX0 29 "JugsAndGlasses$Glasses" "events" "[I") (by decide +kernel)) rfl rfl dX0_list_27 ?_
        refine g_alen (n := L 5) hx hb hk hW (hM.ai 5 (by decide) rfl) (by omega) dX0_list_30 ?_
        refine j_icmp_ge (x := I 7) (y := L 5) (tgt := 61) hx hb ⟨by omega, by omega⟩ ⟨by omega, by omega⟩ dX0_list_31 (by decide) (fun c_31 => ?_) (fun c_31 => ?_)
        · exfalso
          have := hr9.2.2 (by omega); omega
        · refine lv_aload_n hx hb dX0_list_34 rfl (lv_at hl 0 rfl) ?_
          refine g_get (ci := 0) (C := RX0) (T := TX0) (N := 12) (v := .ref (R 6)) hx hb hfX0 (fun _ h9 => h9) hown hk hW hM.1 rfl 6 (by decide) (hts (.fieldLink RX0 32 "JugsAndGlasses$Glasses" "listed" "[Z") (by decide +kernel)) rfl rfl dX0_list_35 ?_
          refine lv_iload_n hx hb dX0_list_38 rfl (lv_at hl 1 rfl) ?_
          refine lv_iconst (v := J (1)) hx hb dX0_list_39 rfl ?_
          refine o_zast (A' := (va_up A 6 (uf (A 6) y 1))) (i := y) (x := 1) hx hb hk hW hS hM hF 6 (by decide) rfl (FP.a 6 (by decide) ⟨by decide, by decide⟩) (by omega) (show y < L 6 from by omega) (show L 6 < 2147483648 from by omega) (Or.inr rfl) rfl dX0_list_40 (fun h H locs hM hF hst hW hS => ?_)
          refine lv_aload_n hx hb dX0_list_41 rfl (lv_at hl 0 rfl) ?_
          refine g_get (ci := 0) (C := RX0) (T := TX0) (N := 12) (v := .ref (R 5)) hx hb hfX0 (fun _ h9 => h9) hown hk hW hM.1 rfl 5 (by decide) (hts (.fieldLink RX0 29 "JugsAndGlasses$Glasses" "events" "[I") (by decide +kernel)) rfl rfl dX0_list_42 ?_
          refine lv_aload_n hx hb dX0_list_45 rfl (lv_at hl 0 rfl) ?_
          refine g_get (ci := 0) (C := RX0) (T := TX0) (N := 12) (v := .int (J (I 7))) hx hb hfX0 (fun _ h9 => h9) hown hk hW hM.1 rfl 7 (by decide) (hts (.fieldLink RX0 36 "JugsAndGlasses$Glasses" "listedEvents" "I") (by decide +kernel)) rfl rfl dX0_list_46 ?_
          refine lv_iload_n hx hb dX0_list_49 rfl (lv_at hl 1 rfl) ?_
          refine o_iast (A' := (va_up (va_up A 6 (uf (A 6) y 1)) 5 (uf (A 5) (I 7) y))) (i := I 7) (x := y) hx hb hk hW hS hM hF 5 (by decide) rfl (FP.a 5 (by decide) ⟨by decide, by decide⟩) (by omega) (show I 7 < L 5 from by omega) (show L 5 < 2147483648 from by omega) rfl dX0_list_50 (fun h H locs hM hF hst hW hS => ?_)
          refine lv_aload_n hx hb dX0_list_51 rfl (lv_at hl 0 rfl) ?_
          refine lv_dup hx hb dX0_list_52 rfl ?_
          refine g_get (ci := 0) (C := RX0) (T := TX0) (N := 12) (v := .int (J (I 7))) hx hb hfX0 (fun _ h9 => h9) hown hk hW hM.1 rfl 7 (by decide) (hts (.fieldLink RX0 36 "JugsAndGlasses$Glasses" "listedEvents" "I") (by decide +kernel)) rfl rfl dX0_list_53 ?_
          refine lv_iconst (v := J (1)) hx hb dX0_list_56 rfl ?_
          refine j_iadd hx hb dX0_list_57 ?_
          refine o_put (I' := (va_up I 7 ((I 7) + 1))) (ci := 0) (C := RX0) (T := TX0) (N := 12) (ty := .int) hx hb hfX0 (fun _ h9 => h9) tyX0 tyX0_ok nmX0 hown hk hW hS hM hF FP.o rfl 7 (by decide) rfl (hts (.fieldLink RX0 36 "JugsAndGlasses$Glasses" "listedEvents" "I") (by decide +kernel)) rfl rfl (by decide +kernel) rfl rfl rfl dX0_list_58 (fun h H locs hM hF hst hW hS => ?_)
          exact g_vret hx hb hr hW hS dX0_list_61 hlocks (⟨rfl, Or.inr ⟨by omega, hM, hF⟩⟩)

set_option maxHeartbeats 4000000 in
set_option maxRecDepth 100000 in
theorem g_listEvents (l : Launch) (g : GX) (base : Nat) (sa : Nat → Nat) (h0 : Hp) (o : Nat) (R : Nat → Nat) (I : Nat → Int) (L : Nat → Int) (A : Nat → Int → Int) (hM : OB g 0 12 kd0 h0 o R I L A) (hL1 : L 1 = 3) (hsk : Sok (I 0) (A 1)) (hI7 : I 7 = 0) (hL6 : k_states (I 0) ≤ L 6 ∧ L 6 ≤ 1728 ∧ L 5 = L 6 ∧ L 8 = 8 * L 6) (hli : ∀ y, 0 ≤ y → y < L 6 → A 6 y = 0) : MC l g base sa yX0_listEvents wsX0_listEvents ({ frames := 3, cells := 0, slots := 0, locals := 105 }) ([.ref o]) h0 (fun r9 h' => r9 = none ∧ Fr (FP 12 kd0 o R) h0 h' ∧ ∃ ev li lq r, OB g 0 12 kd0 h' o R (va_up I 7 r) L (va_up (va_up (va_up A 5 ev) 6 li) 8 lq) ∧ LE (k_states (I 0)) (L 6) (lp (I 0) (A 1)) (2 ^ (I 0).toNat) ev li lq r (8 * r)) := by
  refine Met.ofW (cc := cX0_listEvents) (maxL := 6) (ret := none) (by decide) rfl ?_
  intro p e s m args below meth c s₁ B hml hv
  obtain ⟨rfl, hk, hW⟩ := hv
  have hx := B.exec
  have hb := B.bytes
  have hr := B.returns
  have hts := atoms_spec (ws := wsX0_listEvents) B.pre
  have hown : s.vm.findClass RX0 = some m.cls := findClass_of_methodNamed B.named
  have hlocks := B.notSynchronized
  have hfX0 : ∀ w ∈ wsX00, w.before ([.ref o]).toArray s = true := fun w h => hts w (List.mem_cons_of_mem _ (List.mem_append_right _ h))
  have hS : va_S (Ab base) s.heap s.heap [] := va_S.rf
  have hl := lv_entry ([.ref o]) (n := 6) (Nat.le_of_ble_eq_true rfl)
  rw [lg_entry_eq]
  generalize (lg_sl ([.ref o]) ++ List.replicate (6 - (lg_sl ([.ref o])).length) Slot.unset).toArray = ls at hl ⊢
  have hl : lv_has ls 6 [(0, .ref o)] := hl
  have hF : Fr (FP 12 kd0 o R) h0 h0 := Fr.rf
  have hn1 := hsk.1
  have hn2 := hsk.2.1
  have hsr := st_r hn1 hn2
  have hp2n := p2n hn1 hn2
  have hNM := hL6.1
  refine lv_aload_n hx hb dX0_listEvents_0 rfl (lv_at hl 0 rfl) ?_
  refine lv_iconst (v := J (0)) hx hb dX0_listEvents_1 rfl ?_
  refine g_callV (As := [.int (J 0)]) (rest := []) (b := o) (ci := 0) (C := RX0) (T := TX0) (N := 12) ⟨hx, hb, hml, hown, hts⟩ (g_list l g base sa h0 o R I L A 0 hM ⟨by omega, by omega⟩ ⟨by omega, by omega⟩ (Or.inl (hli 0 (by omega) (by omega))) ⟨by omega, by omega, fun _ => by omega⟩) (cwV 1 hts gX0_listEvents_X0_list rfl rfl rfl (by decide +kernel) ⟨Nat.le_of_ble_eq_true rfl, Nat.le_of_ble_eq_true rfl⟩) hk hW hS hM.1 rfl rfl hl.1 (Nat.le_of_ble_eq_true rfl) dX0_listEvents_2 ⟨Nat.le_of_ble_eq_true rfl, Nat.le_of_ble_eq_true rfl⟩ (fun r9 h9 H locs hp hW hS => ?_)
  obtain ⟨rfl, hp2⟩ := hp
  refine W.eq (g2 := F0 m 5 ls []) rfl ?_
  rcases hp2 with ⟨w9, -⟩ | ⟨-, hM, hF9⟩
  · exact absurd (hli 0 (by omega) (by omega)) w9
  have hF := hF.tr hF9 (fun q w _ => w)
  generalize h9 = h at hM hF hW
  refine lv_iconst (v := J (0)) hx hb dX0_listEvents_5 rfl ?_
  refine lv_istore_n (lv' := [(1, .int (J 0)), (0, .ref o)]) hx hb dX0_listEvents_6 rfl hl (by decide) rfl (fun ls hl => ?_)
  have loop_7 : ∀ (n9 : Nat) (k : Int) (r : Int) (ev : Int → Int) (li : Int → Int) (lq : Int → Int) (h : Hp) (H : Heap) (locs : List Loc) (ls : Array Slot), k_states (I 0) - k < (n9 : Int) → (0 ≤ k ∧ k ≤ r) → (LE (k_states (I 0)) (L 6) (lp (I 0) (A 1)) (2 ^ (I 0).toNat) ev li lq r (8 * k)) → (OB g 0 12 kd0 h o R (va_up I 7 (r)) L (va_up (va_up (va_up A 5 (ev)) 6 (li)) 8 (lq))) → (Fr (FP 12 kd0 o R) h0 h) → (Wd g base h H) → (va_S (Ab base) s.heap H locs) → (lv_has ls 6 [(0, .ref o), (1, .int (J k))]) → W p l e (headSpec wsX0_listEvents ({ frames := 3, cells := 0, slots := 0, locals := 105 })).room s m ([.ref o]).toArray below meth c H locs 0 0 (MQ below (QcM g base (fun r9 h' => r9 = none ∧ Fr (FP 12 kd0 o R) h0 h' ∧ ∃ ev li lq r, OB g 0 12 kd0 h' o R (va_up I 7 r) L (va_up (va_up (va_up A 5 ev) 6 li) 8 lq) ∧ LE (k_states (I 0)) (L 6) (lp (I 0) (A 1)) (2 ^ (I 0).toNat) ev li lq r (8 * r))) ([.ref o]).toArray s (0) (0) (Ab base)) (F0 m 7 ls []) := by
    intro n9
    induction n9 with
    | zero =>
      intro k r ev li lq h H locs ls hmu hk9 hLE hM hF hW hS hl
      exact absurd hmu (by have := hLE.2.1; omega)
    | succ n9 ih =>
      intro k r ev li lq h H locs ls hmu hk9 hLE hM hF hW hS hl
      have hr1 := hLE.1
      have hrN := hLE.2.1
      have ih_7 := ih
      refine lv_iload_n hx hb dX0_listEvents_7 rfl (lv_at hl 1 rfl) ?_
      refine lv_aload_n hx hb dX0_listEvents_8 rfl (lv_at hl 0 rfl) ?_
      refine g_get (ci := 0) (C := RX0) (T := TX0) (N := 12) (v := .int (J r)) hx hb hfX0 (fun _ h9 => h9) hown hk hW hM.1 rfl 7 (by decide) (hts (.fieldLink RX0 36 "JugsAndGlasses$Glasses" "listedEvents" "I") (by decide +kernel)) rfl rfl dX0_listEvents_9 ?_
      refine j_icmp_ge (x := k) (y := r) (tgt := 110) hx hb ⟨by omega, by omega⟩ ⟨by omega, by omega⟩ dX0_listEvents_12 (by decide) (fun c_12 => ?_) (fun c_12 => ?_)
      · exact g_vret hx hb hr hW hS dX0_listEvents_110 hlocks (⟨rfl, hF, ev, li, lq, r, hM, by have e9 : k = r := (by omega); rw [e9] at hLE; exact hLE⟩)
      · refine lv_iload_n hx hb dX0_listEvents_15 rfl (lv_at hl 1 rfl) ?_
        refine lv_aload_n hx hb dX0_listEvents_16 rfl (lv_at hl 0 rfl) ?_
        refine g_get (ci := 0) (C := RX0) (T := TX0) (N := 12) (v := .ref (R 5)) hx hb hfX0 (fun _ h9 => h9) hown hk hW hM.1 rfl 5 (by decide) (hts (.fieldLink RX0 29 "JugsAndGlasses$Glasses" "events" "[I") (by decide +kernel)) rfl rfl dX0_listEvents_17 ?_
        refine g_alen (n := L 5) hx hb hk hW (hM.ai 5 (by decide) rfl) (by omega) dX0_listEvents_20 ?_
        refine j_icmp_ge (x := k) (y := L 5) (tgt := 110) hx hb ⟨by omega, by omega⟩ ⟨by omega, by omega⟩ dX0_listEvents_21 (by decide) (fun c_21 => ?_) (fun c_21 => ?_)
        · exfalso
          omega
        · have hek := hLE.2.2.2.1 k hk9.1 (by omega)
          refine lv_aload_n hx hb dX0_listEvents_24 rfl (lv_at hl 0 rfl) ?_
          refine g_get (ci := 0) (C := RX0) (T := TX0) (N := 12) (v := .ref (R 5)) hx hb hfX0 (fun _ h9 => h9) hown hk hW hM.1 rfl 5 (by decide) (hts (.fieldLink RX0 29 "JugsAndGlasses$Glasses" "events" "[I") (by decide +kernel)) rfl rfl dX0_listEvents_25 ?_
          refine lv_iload_n hx hb dX0_listEvents_28 rfl (lv_at hl 1 rfl) ?_
          refine g_iald (n := L 5) (f := ev) (i := k) hx hb hk hW (hM.ai 5 (by decide) rfl) (by omega) (by omega) (by omega) dX0_listEvents_29 ?_
          refine lv_istore_n (lv' := [(2, .int (J (ev k))), (0, .ref o), (1, .int (J k))]) hx hb dX0_listEvents_30 rfl hl (by decide) rfl (fun ls hl => ?_)
          obtain ⟨y, ey⟩ : ∃ y, y = ev k := ⟨_, rfl⟩
          rw [← ey] at hl
          refine lv_iconst (v := J (0)) hx hb dX0_listEvents_31 rfl ?_
          refine lv_istore_n (lv' := [(3, .int (J 0)), (2, .int (J y)), (0, .ref o), (1, .int (J k))]) hx hb dX0_listEvents_32 rfl hl (by decide) rfl (fun ls hl => ?_)
          have loop_33 : ∀ (n9 : Nat) (ch : Int) (r : Int) (ev : Int → Int) (li : Int → Int) (lq : Int → Int) (h : Hp) (H : Heap) (locs : List Loc) (ls : Array Slot), 2 ^ (I 0).toNat - ch < (n9 : Int) → (0 ≤ ch ∧ ch ≤ 2 ^ (I 0).toNat) → (k < r) → (ev k = y) → (LE (k_states (I 0)) (L 6) (lp (I 0) (A 1)) (2 ^ (I 0).toNat) ev li lq r (8 * k + ch)) → (OB g 0 12 kd0 h o R (va_up I 7 (r)) L (va_up (va_up (va_up A 5 (ev)) 6 (li)) 8 (lq))) → (Fr (FP 12 kd0 o R) h0 h) → (Wd g base h H) → (va_S (Ab base) s.heap H locs) → (lv_has ls 6 [(0, .ref o), (1, .int (J k)), (2, .int (J y)), (3, .int (J ch))]) → W p l e (headSpec wsX0_listEvents ({ frames := 3, cells := 0, slots := 0, locals := 105 })).room s m ([.ref o]).toArray below meth c H locs 0 0 (MQ below (QcM g base (fun r9 h' => r9 = none ∧ Fr (FP 12 kd0 o R) h0 h' ∧ ∃ ev li lq r, OB g 0 12 kd0 h' o R (va_up I 7 r) L (va_up (va_up (va_up A 5 ev) 6 li) 8 lq) ∧ LE (k_states (I 0)) (L 6) (lp (I 0) (A 1)) (2 ^ (I 0).toNat) ev li lq r (8 * r))) ([.ref o]).toArray s (0) (0) (Ab base)) (F0 m 33 ls []) := by
            intro n9
            induction n9 with
            | zero =>
              intro ch r ev li lq h H locs ls hmu ha9 hkr hyk hLE hM hF hW hS hl
              exact absurd hmu (by omega)
            | succ n9 ih =>
              intro ch r ev li lq h H locs ls hmu ha9 hkr hyk hLE hM hF hW hS hl
              have hr1 := hLE.1
              have hrN := hLE.2.1
              have hek := hLE.2.2.2.1 k hk9.1 hkr
              have ih_33 := ih
              refine lv_iload_n hx hb dX0_listEvents_33 rfl (lv_at hl 3 rfl) ?_
              refine lv_iconst (v := J (1)) hx hb dX0_listEvents_34 rfl ?_
              refine lv_aload_n hx hb dX0_listEvents_35 rfl (lv_at hl 0 rfl) ?_
              refine g_get (ci := 0) (C := RX0) (T := TX0) (N := 12) (v := .int (J (I 0))) hx hb hfX0 (fun _ h9 => h9) hown hk hW hM.1 rfl 0 (by decide) (hts (.fieldLink RX0 9 "JugsAndGlasses$Glasses" "number" "I") (by decide +kernel)) rfl rfl dX0_listEvents_36 ?_
              refine j_shl1 (y := I 0) hx hb (by omega) (by omega) dX0_listEvents_39 ?_
              refine j_icmp_ge (x := ch) (y := 2 ^ (I 0).toNat) (tgt := 104) hx hb ⟨by omega, by omega⟩ ⟨by omega, by omega⟩ dX0_listEvents_40 (by decide) (fun c_40 => ?_) (fun c_40 => ?_)
              · refine lv_iinc (v := J (k + 1)) (lv' := [(1, .int (J (k + 1))), (0, .ref o), (2, .int (J y)), (3, .int (J ch))]) hx hb dX0_listEvents_104 hl (k := 1) rfl (J_inc (by omega)) (by decide) rfl (fun ls hl => ?_)
                refine lv_goto (tgt := 7) hx hb dX0_listEvents_107 (by decide) ?_
                exact ih_7 (k + 1) r ev li lq h H locs ls (by omega) (by omega) (LE_next (by have e9 : ch = 2 ^ (I 0).toNat := (by omega); rw [e9] at hLE; exact hLE) hp2n.2) hM hF hW hS (lv_sub hl [1, 0] rfl)
              · rw [← hyk] at hl
                refine lv_iload_n hx hb dX0_listEvents_43 rfl (lv_at hl 2 rfl) ?_
                refine lv_bipush (v := J (8)) hx hb dX0_listEvents_44 (by decide) ?_
                refine j_imul hx hb dX0_listEvents_46 ?_
                refine lv_iload_n hx hb dX0_listEvents_47 rfl (lv_at hl 3 rfl) ?_
                refine j_iadd hx hb dX0_listEvents_48 ?_
                refine lv_istore (lv' := [(4, .int (J (((ev k) * 8) + ch))), (0, .ref o), (1, .int (J k)), (2, .int (J (ev k))), (3, .int (J ch))]) hx hb dX0_listEvents_49 hl (by decide) rfl (fun ls hl => ?_)
                refine lv_aload_n hx hb dX0_listEvents_51 rfl (lv_at hl 1 rfl) ?_
                refine lv_iload_n hx hb dX0_listEvents_52 rfl (lv_at hl 3 rfl) ?_
                refine lv_iload_n hx hb dX0_listEvents_53 rfl (lv_at hl 4 rfl) ?_
                refine g_callV (As := [.int (J (ev k)), .int (J ch)]) (rest := []) (b := o) (ci := 0) (C := RX0) (T := TX0) (N := 12) ⟨hx, hb, hml, hown, hts⟩ (g_leap l g base sa h o R (va_up I 7 (r)) L (va_up (va_up (va_up A 5 (ev)) 6 (li)) 8 (lq)) (ev k) ch hM hL1 hsk ⟨by omega, by omega⟩ ⟨by omega, by omega⟩) (cwV 2 hts gX0_listEvents_X0_leapFrom rfl rfl rfl (by decide +kernel) ⟨Nat.le_of_ble_eq_true rfl, Nat.le_of_ble_eq_true rfl⟩) hk hW hS hM.1 rfl rfl hl.1 (Nat.le_of_ble_eq_true rfl) dX0_listEvents_54 ⟨Nat.le_of_ble_eq_true rfl, Nat.le_of_ble_eq_true rfl⟩ (fun r9 h9 H locs hp hW hS => ?_)
                have hp : r9 = some (.int (J (lp (I 0) (A 1) (ev k) ch))) ∧ h9 = h := hp
                obtain ⟨rfl, e9⟩ := hp
                rw [e9] at hW
                refine W.eq (g2 := F0 m 57 ls [.int (J (lp (I 0) (A 1) (ev k) ch))]) rfl ?_
                have hlr := lp_r hsk (ev k) ch
                refine lv_istore (lv' := [(5, .int (J (lp (I 0) (A 1) (ev k) ch))), (4, .int (J (((ev k) * 8) + ch))), (0, .ref o), (1, .int (J k)), (2, .int (J (ev k))), (3, .int (J ch))]) hx hb dX0_listEvents_57 hl (by decide) rfl (fun ls hl => ?_)
                refine lv_iload hx hb dX0_listEvents_59 (lv_at hl 1 rfl) ?_
                refine j_if_lt (x := ((ev k) * 8) + ch) (tgt := 83) hx hb ⟨by omega, by omega⟩ dX0_listEvents_61 (by decide) (fun c_61 => ?_) (fun c_61 => ?_)
                · exfalso
                  omega
                · refine lv_iload hx hb dX0_listEvents_64 (lv_at hl 1 rfl) ?_
                  refine lv_aload_n hx hb dX0_listEvents_66 rfl (lv_at hl 2 rfl) ?_
                  refine g_get (ci := 0) (C := RX0) (T := TX0) (N := 12) (v := .ref (R 8)) hx hb hfX0 (fun _ h9 => h9) hown hk hW hM.1 rfl 8 (by decide) (hts (.fieldLink RX0 39 "JugsAndGlasses$Glasses" "leap" "[I") (by decide +kernel)) rfl rfl dX0_listEvents_67 ?_
                  refine g_alen (n := L 8) hx hb hk hW (hM.ai 8 (by decide) rfl) (by omega) dX0_listEvents_70 ?_
                  refine j_icmp_ge (x := ((ev k) * 8) + ch) (y := L 8) (tgt := 83) hx hb ⟨by omega, by omega⟩ ⟨by omega, by omega⟩ dX0_listEvents_71 (by decide) (fun c_71 => ?_) (fun c_71 => ?_)
                  · exfalso
                    omega
                  · refine lv_aload_n hx hb dX0_listEvents_74 rfl (lv_at hl 2 rfl) ?_
                    refine g_get (ci := 0) (C := RX0) (T := TX0) (N := 12) (v := .ref (R 8)) hx hb hfX0 (fun _ h9 => h9) hown hk hW hM.1 rfl 8 (by decide) (hts (.fieldLink RX0 39 "JugsAndGlasses$Glasses" "leap" "[I") (by decide +kernel)) rfl rfl dX0_listEvents_75 ?_
                    refine lv_iload hx hb dX0_listEvents_78 (lv_at hl 1 rfl) ?_
                    refine lv_iload hx hb dX0_listEvents_80 (lv_at hl 0 rfl) ?_
                    refine o_iast (A' := (va_up (va_up (va_up A 5 (ev)) 6 (li)) 8 (uf lq (((ev k) * 8) + ch) (lp (I 0) (A 1) (ev k) ch)))) (i := ((ev k) * 8) + ch) (x := lp (I 0) (A 1) (ev k) ch) hx hb hk hW hS hM hF 8 (by decide) rfl (FP.a 8 (by decide) ⟨by decide, by decide⟩) (by omega) (show ((ev k) * 8) + ch < L 8 from by omega) (show L 8 < 2147483648 from by omega) (bx_uu _ _ _ _) dX0_listEvents_82 (fun h H locs hM hF hst hW hS => ?_)
                    refine lv_iload hx hb dX0_listEvents_83 (lv_at hl 0 rfl) ?_
                    refine lv_iconst (v := J (-1)) hx hb dX0_listEvents_85 rfl ?_
                    refine j_icmp_eq (x := lp (I 0) (A 1) (ev k) ch) (y := (-1)) (tgt := 98) hx hb ⟨by omega, by omega⟩ ⟨by omega, by omega⟩ dX0_listEvents_86 (by decide) (fun c_86 => ?_) (fun c_86 => ?_)
                    · rw [hyk] at hl
                      refine lv_iinc (v := J (ch + 1)) (lv' := [(3, .int (J (ch + 1))), (5, .int (J (lp (I 0) (A 1) (y) ch))), (4, .int (J (((y) * 8) + ch))), (0, .ref o), (1, .int (J k)), (2, .int (J y))]) hx hb dX0_listEvents_98 hl (k := 5) rfl (J_inc (by omega)) (by decide) rfl (fun ls hl => ?_)
                      refine lv_goto (tgt := 33) hx hb dX0_listEvents_101 (by decide) ?_
                      exact ih_33 (ch + 1) r ev li (uf lq (((ev k) * 8) + ch) (lp (I 0) (A 1) (ev k) ch)) h H locs ls (by omega) (by omega) (by omega) hyk (LE_old hLE hk9.1 hkr ha9.1 (by omega) hp2n.2 hNM (fun w => absurd c_86 w)) hM hF hW hS (lv_sub hl [3, 4, 5, 0] rfl)
                    · refine lv_aload_n hx hb dX0_listEvents_89 rfl (lv_at hl 2 rfl) ?_
                      refine lv_iload hx hb dX0_listEvents_90 (lv_at hl 0 rfl) ?_
                      refine lv_bipush (v := J (16)) hx hb dX0_listEvents_92 (by decide) ?_
                      refine j_idiv hx hb (by omega) (by omega) (by omega) (by omega) dX0_listEvents_94 ?_
                      have hbt : li (lp (I 0) (A 1) (ev k) ch / 16) = 0 ∨ li (lp (I 0) (A 1) (ev k) ch / 16) = 1 := by
                        rcases hLE.2.2.2.2.1 (lp (I 0) (A 1) (ev k) ch / 16) (by omega) (by omega) with w | w
                        · exact Or.inl w
                        · exact Or.inr w.1
                      refine g_callV (As := [.int (J ((lp (I 0) (A 1) (ev k) ch) / 16))]) (rest := []) (b := o) (ci := 0) (C := RX0) (T := TX0) (N := 12) ⟨hx, hb, hml, hown, hts⟩ (g_list l g base sa h o R (va_up I 7 (r)) L (va_up (va_up (va_up A 5 (ev)) 6 (li)) 8 (uf lq (((ev k) * 8) + ch) (lp (I 0) (A 1) (ev k) ch))) (lp (I 0) (A 1) (ev k) ch / 16) hM ⟨by omega, by omega⟩ ⟨by omega, by omega⟩ hbt ⟨show 0 ≤ r by omega, show r ≤ L 5 by omega, fun q9 => (show r < L 5 from by have := LE_lt hLE (by omega) (by omega) q9; omega)⟩) (cwV 1 hts gX0_listEvents_X0_list rfl rfl rfl (by decide +kernel) ⟨Nat.le_of_ble_eq_true rfl, Nat.le_of_ble_eq_true rfl⟩) hk hW hS hM.1 rfl rfl hl.1 (Nat.le_of_ble_eq_true rfl) dX0_listEvents_95 ⟨Nat.le_of_ble_eq_true rfl, Nat.le_of_ble_eq_true rfl⟩ (fun r9 h9 H locs hp hW hS => ?_)
                      obtain ⟨rfl, hp2⟩ := hp
                      refine W.eq (g2 := F0 m 98 ls []) rfl ?_
                      rcases hp2 with ⟨w9, e9⟩ | ⟨w9, hM, hF9⟩
                      · rw [e9] at hW
                        rw [hyk] at hl
                        refine lv_iinc (v := J (ch + 1)) (lv' := [(3, .int (J (ch + 1))), (5, .int (J (lp (I 0) (A 1) (y) ch))), (4, .int (J (((y) * 8) + ch))), (0, .ref o), (1, .int (J k)), (2, .int (J y))]) hx hb dX0_listEvents_98 hl (k := 5) rfl (J_inc (by omega)) (by decide) rfl (fun ls hl => ?_)
                        refine lv_goto (tgt := 33) hx hb dX0_listEvents_101 (by decide) ?_
                        exact ih_33 (ch + 1) r ev li (uf lq (((ev k) * 8) + ch) (lp (I 0) (A 1) (ev k) ch)) h H locs ls (by omega) (by omega) (by omega) hyk (LE_old hLE hk9.1 hkr ha9.1 (by omega) hp2n.2 hNM (fun w => ⟨by omega, by omega, w9⟩)) hM hF hW hS (lv_sub hl [3, 4, 5, 0] rfl)
                      · have hF := hF.tr hF9 (fun q w _ => w)
                        generalize h9 = h at hM hF hW
                        have hM : OB g 0 12 kd0 h o R (va_up (va_up I 7 (r)) 7 (r + 1)) L (va_up (va_up (va_up (va_up (va_up A 5 (ev)) 6 (li)) 8 (uf lq (ev k * 8 + ch) (lp (I 0) (A 1) (ev k) ch))) 6 (uf li (lp (I 0) (A 1) (ev k) ch / 16) 1)) 5 (uf ev r (lp (I 0) (A 1) (ev k) ch / 16))) := hM
                        have hM : OB g 0 12 kd0 h o R (va_up I 7 (r + 1)) L (va_up (va_up (va_up (va_up (va_up A 5 (ev)) 6 (li)) 8 (uf lq (ev k * 8 + ch) (lp (I 0) (A 1) (ev k) ch))) 6 (uf li (lp (I 0) (A 1) (ev k) ch / 16) 1)) 5 (uf ev r (lp (I 0) (A 1) (ev k) ch / 16))) := by
                          have e9 : (va_up (va_up I 7 (r)) 7 (r + 1)) = (va_up I 7 (r + 1)) := by funext q9; by_cases w7 : q9 = 7 <;> simp [va_up, w7]
                          rw [← e9]
                          exact hM
                        have hM : OB g 0 12 kd0 h o R (va_up I 7 (r + 1)) L (va_up (va_up (va_up A 5 (uf ev r (lp (I 0) (A 1) (ev k) ch / 16))) 6 (uf li (lp (I 0) (A 1) (ev k) ch / 16) 1)) 8 (uf lq (ev k * 8 + ch) (lp (I 0) (A 1) (ev k) ch))) := by
                          have e9 : (va_up (va_up (va_up (va_up (va_up A 5 (ev)) 6 (li)) 8 (uf lq (ev k * 8 + ch) (lp (I 0) (A 1) (ev k) ch))) 6 (uf li (lp (I 0) (A 1) (ev k) ch / 16) 1)) 5 (uf ev r (lp (I 0) (A 1) (ev k) ch / 16))) = (va_up (va_up (va_up A 5 (uf ev r (lp (I 0) (A 1) (ev k) ch / 16))) 6 (uf li (lp (I 0) (A 1) (ev k) ch / 16) 1)) 8 (uf lq (ev k * 8 + ch) (lp (I 0) (A 1) (ev k) ch))) := by funext q9; by_cases w5 : q9 = 5 <;> by_cases w6 : q9 = 6 <;> by_cases w8 : q9 = 8 <;> simp [va_up, w5, w6, w8]
                          rw [← e9]
                          exact hM
                        rw [hyk] at hl
                        refine lv_iinc (v := J (ch + 1)) (lv' := [(3, .int (J (ch + 1))), (5, .int (J (lp (I 0) (A 1) (y) ch))), (4, .int (J (((y) * 8) + ch))), (0, .ref o), (1, .int (J k)), (2, .int (J y))]) hx hb dX0_listEvents_98 hl (k := 5) rfl (J_inc (by omega)) (by decide) rfl (fun ls hl => ?_)
                        refine lv_goto (tgt := 33) hx hb dX0_listEvents_101 (by decide) ?_
                        exact ih_33 (ch + 1) (r + 1) (uf ev r (lp (I 0) (A 1) (ev k) ch / 16)) (uf li (lp (I 0) (A 1) (ev k) ch / 16) 1) (uf lq (ev k * 8 + ch) (lp (I 0) (A 1) (ev k) ch)) h H locs ls (by omega) (by omega) (by omega) (by rw [uf_ne _ _ (by omega)]; exact hyk) (LE_new hLE hk9.1 hkr ha9.1 (by omega) hp2n.2 hNM (by omega) (by omega) w9) hM hF hW hS (lv_sub hl [3, 4, 5, 0] rfl)
          exact loop_33 9 0 r ev li lq h H locs ls (by omega) (by omega) (by omega) ey.symm (by rw [Int.add_zero]; exact hLE) hM hF hW hS (lv_sub hl [2, 3, 1, 0] rfl)
  exact loop_7 ((k_states (I 0)).toNat + 1) 0 (I 7 + 1) (uf (A 5) (I 7) 0) (uf (A 6) 0 1) (A 8) h H locs ls (by omega) (by omega) (by rw [hI7]; exact LE_0 hsr.1 hli) (hM.cg (fun _ _ _ => rfl) (fun _ _ _ => rfl) (fun q9 _ _ => by by_cases w5 : q9 = 5 <;> by_cases w6 : q9 = 6 <;> by_cases w8 : q9 = 8 <;> simp [va_up, w5, w6, w8])) hF hW hS (lv_sub hl [1, 0] rfl)
