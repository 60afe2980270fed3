def ixX0 (k : Nat) : Nat := match k with | 1 => 8 | 2 => 7 | 3 => 6 | 5 => 5 | 6 => 4 | 8 => 3 | 9 => 2 | 10 => 1 | 11 => 0 | _ => 99

set_option maxHeartbeats 4000000 in
set_option maxRecDepth 100000 in
theorem i_glasses (l : Launch) (g : GX) (base : Nat) (sa : Nat → Nat) (h0 : Hp) (o : Nat) (ho : h0 o = some (.inr (0, [.int (J 0), .null, .null, .null, .int (J 0), .null, .null, .int (J 0), .null, .null, .null, .null]))) : MC l g base sa yX0_init wsX0_init ({ frames := 1, cells := 9, slots := 85, locals := 40 }) ([.ref o]) h0 (fun r h' => r = none ∧ Fr (fun q => q = o) h0 h' ∧ ∃ R, GB g h' o R i0 LG0 a0 ∧ ∀ q, FG o R q → q = o ∨ h0 q = none) := by
  refine Met.ofW (cc := cX0_init) (maxL := 1) (ret := none) (by decide) rfl ?_
  intro p e s m args below meth c s₁ B hml hv
  obtain ⟨rfl, hk, hW⟩ := hv
  have hx := B.exec
  have hb := B.bytes
  have hr := B.returns
  have hts := atoms_spec (ws := wsX0_init) B.pre
  have hown : s.vm.findClass RX0 = some m.cls := findClass_of_methodNamed B.named
  have hlocks := B.notSynchronized
  have hin : meth.name = "<init>" := (name_of_methodNamed B.named B.method).1
  have hfX0 : ∀ w ∈ wsX00, w.before ([.ref o]).toArray s = true := fun w h => hts w (List.mem_cons_of_mem _ (List.mem_append_right _ h))
  have hS : va_S (Ab base) s.heap s.heap [] := va_S.rf
  have hl := lv_entry ([.ref o]) (n := 1) (Nat.le_of_ble_eq_true rfl)
  rw [lg_entry_eq]
  generalize (lg_sl ([.ref o]) ++ List.replicate (1 - (lg_sl ([.ref o])).length) Slot.unset).toArray = ls at hl ⊢
  have hl : lv_has ls 1 [(0, .ref o)] := hl
  have hF : Fr (fun q => q = o ∨ h0 q = none) h0 h0 := Fr.rf
  have hnd : ([] : List Nat).Nodup := List.nodup_nil
  have hall : ∀ a ∈ ([] : List Nat), h0 a ≠ none := fun a w => absurd w (by simp)
  refine lv_aload_n hx hb dX0_init_0 rfl (lv_at hl 0 rfl) ?_
  refine W.objInit hx hb hown (hts (.methodLink RX0 3 objectInit) (by decide +kernel)) (hts (.instanceMethod objectInit) (by decide +kernel)) (hts (.code objectInit ⟨#[0xb1]⟩ 1 none) (by decide +kernel)) rfl (by rw [hml]; exact hl.1) rfl dX0_init_1 (Nat.le_of_ble_eq_true rfl) (Nat.le_of_ble_eq_true rfl) ?_
  refine lv_aload_n hx hb dX0_init_4 rfl (lv_at hl 0 rfl) ?_
  refine lv_iconst (v := J (0)) hx hb dX0_init_5 rfl ?_
  refine g_put (ci := 0) (C := RX0) (T := TX0) (N := 12) (ty := .int) (fs := [.int (J 0), .null, .null, .null, .int (J 0), .null, .null, .int (J 0), .null, .null, .null, .null]) hx hb hfX0 (fun _ h9 => h9) tyX0 tyX0_ok nmX0 hown hk hW hS ho rfl 0 (by decide) (hts (.fieldLink RX0 9 "JugsAndGlasses$Glasses" "number" "I") (by decide +kernel)) rfl rfl (by decide +kernel) rfl rfl (by simp) dX0_init_6 (fun H locs hW hS => ?_)
  have ho2 : uh h0 o (.inr (0, ([.int (J 0), .null, .null, .null, .int (J 0), .null, .null, .int (J 0), .null, .null, .null, .null] : List Value).set 0 (.int (J 0)))) o = some (.inr (0, [.int (J 0), .null, .null, .null, .int (J 0), .null, .null, .int (J 0), .null, .null, .null, .null])) := uh_same _ _ _
  have hF := Fr.set (e := .inr (0, ([.int (J 0), .null, .null, .null, .int (J 0), .null, .null, .int (J 0), .null, .null, .null, .null] : List Value).set 0 (.int (J 0)))) hF (Or.inl rfl)
  have hall := al_set (o := o) (e := .inr (0, ([.int (J 0), .null, .null, .null, .int (J 0), .null, .null, .int (J 0), .null, .null, .null, .null] : List Value).set 0 (.int (J 0)))) hall
  generalize uh h0 o (.inr (0, ([.int (J 0), .null, .null, .null, .int (J 0), .null, .null, .int (J 0), .null, .null, .null, .null] : List Value).set 0 (.int (J 0)))) = h at ho2 hF hall hW 
  have ho := ho2
  refine lv_aload_n hx hb dX0_init_9 rfl (lv_at hl 0 rfl) ?_
  refine lv_iconst (v := J (3)) hx hb dX0_init_10 rfl ?_
  refine g_newi (n := 3) hx hb (hts (.arrayClass .int) (by decide +kernel)) hk hW hS (by decide) (by decide) (Nat.le_of_ble_eq_true rfl) (Nat.le_of_ble_eq_true rfl) dX0_init_11 (fun q11 H hq11 hW hS => ?_)
  have f_q11 : h0 q11 = none := hF.none hq11
  have n_q11 : q11 ≠ o := raw_ne ho hq11
  have hnd := nd_new hnd hall hq11
  have hall := al_new (q := q11) (e := ai g 3 (fun _ => 0)) hall
  have ho := raw_new (e := ai g 3 (fun _ => 0)) ho hq11
  have c_q11 : uh h q11 (ai g 3 (fun _ => 0)) q11 = some (ai g 3 (fun _ => 0)) := uh_same _ _ _
  have hF := Fr.new (e := ai g 3 (fun _ => 0)) hF hq11
  generalize uh h q11 (ai g 3 (fun _ => 0)) = h at ho hF hall hW c_q11 
  refine W.eq (g2 := F0 m 13 ls [.ref q11, .ref o]) rfl ?_
  refine g_putF (ci := 0) (C := RX0) (T := TX0) (N := 12) (ty := .array .int) (fs := [.int (J 0), .null, .null, .null, .int (J 0), .null, .null, .int (J 0), .null, .null, .null, .null]) hx hb hfX0 (fun _ h9 => h9) tyX0 tyX0_ok nmX0 hown hk hW hS ho rfl 1 (by decide) (hts (.fieldLink RX0 15 "JugsAndGlasses$Glasses" "span" "[I") (by decide +kernel)) rfl rfl hin rfl (by decide +kernel) rfl rfl (by simp) dX0_init_13 (fun H locs hW hS => ?_)
  have ho2 : uh h o (.inr (0, ([.int (J 0), .null, .null, .null, .int (J 0), .null, .null, .int (J 0), .null, .null, .null, .null] : List Value).set 1 (.ref q11))) o = some (.inr (0, [.int (J 0), .ref q11, .null, .null, .int (J 0), .null, .null, .int (J 0), .null, .null, .null, .null])) := uh_same _ _ _
  have c_q11 := raw_set (e := .inr (0, ([.int (J 0), .null, .null, .null, .int (J 0), .null, .null, .int (J 0), .null, .null, .null, .null] : List Value).set 1 (.ref q11))) c_q11 n_q11
  have hF := Fr.set (e := .inr (0, ([.int (J 0), .null, .null, .null, .int (J 0), .null, .null, .int (J 0), .null, .null, .null, .null] : List Value).set 1 (.ref q11))) hF (Or.inl rfl)
  have hall := al_set (o := o) (e := .inr (0, ([.int (J 0), .null, .null, .null, .int (J 0), .null, .null, .int (J 0), .null, .null, .null, .null] : List Value).set 1 (.ref q11))) hall
  generalize uh h o (.inr (0, ([.int (J 0), .null, .null, .null, .int (J 0), .null, .null, .int (J 0), .null, .null, .null, .null] : List Value).set 1 (.ref q11))) = h at ho2 hF hall hW c_q11
  have ho := ho2
  refine lv_aload_n hx hb dX0_init_16 rfl (lv_at hl 0 rfl) ?_
  refine lv_bipush (v := J (41)) hx hb dX0_init_17 (by decide) ?_
  refine g_newi (n := 41) hx hb (hts (.arrayClass .int) (by decide +kernel)) hk hW hS (by decide) (by decide) (Nat.le_of_ble_eq_true rfl) (Nat.le_of_ble_eq_true rfl) dX0_init_19 (fun q19 H hq19 hW hS => ?_)
  have f_q19 : h0 q19 = none := hF.none hq19
  have n_q19 : q19 ≠ o := raw_ne ho hq19
  have hnd := nd_new hnd hall hq19
  have hall := al_new (q := q19) (e := ai g 41 (fun _ => 0)) hall
  have ho := raw_new (e := ai g 41 (fun _ => 0)) ho hq19
  have c_q11 := raw_new (e := ai g 41 (fun _ => 0)) c_q11 hq19
  have c_q19 : uh h q19 (ai g 41 (fun _ => 0)) q19 = some (ai g 41 (fun _ => 0)) := uh_same _ _ _
  have hF := Fr.new (e := ai g 41 (fun _ => 0)) hF hq19
  generalize uh h q19 (ai g 41 (fun _ => 0)) = h at ho hF hall hW c_q19 c_q11
  refine W.eq (g2 := F0 m 21 ls [.ref q19, .ref o]) rfl ?_
  refine g_putF (ci := 0) (C := RX0) (T := TX0) (N := 12) (ty := .array .int) (fs := [.int (J 0), .ref q11, .null, .null, .int (J 0), .null, .null, .int (J 0), .null, .null, .null, .null]) hx hb hfX0 (fun _ h9 => h9) tyX0 tyX0_ok nmX0 hown hk hW hS ho rfl 2 (by decide) (hts (.fieldLink RX0 19 "JugsAndGlasses$Glasses" "waitOf" "[I") (by decide +kernel)) rfl rfl hin rfl (by decide +kernel) rfl rfl (by simp) dX0_init_21 (fun H locs hW hS => ?_)
  have ho2 : uh h o (.inr (0, ([.int (J 0), .ref q11, .null, .null, .int (J 0), .null, .null, .int (J 0), .null, .null, .null, .null] : List Value).set 2 (.ref q19))) o = some (.inr (0, [.int (J 0), .ref q11, .ref q19, .null, .int (J 0), .null, .null, .int (J 0), .null, .null, .null, .null])) := uh_same _ _ _
  have c_q11 := raw_set (e := .inr (0, ([.int (J 0), .ref q11, .null, .null, .int (J 0), .null, .null, .int (J 0), .null, .null, .null, .null] : List Value).set 2 (.ref q19))) c_q11 n_q11
  have c_q19 := raw_set (e := .inr (0, ([.int (J 0), .ref q11, .null, .null, .int (J 0), .null, .null, .int (J 0), .null, .null, .null, .null] : List Value).set 2 (.ref q19))) c_q19 n_q19
  have hF := Fr.set (e := .inr (0, ([.int (J 0), .ref q11, .null, .null, .int (J 0), .null, .null, .int (J 0), .null, .null, .null, .null] : List Value).set 2 (.ref q19))) hF (Or.inl rfl)
  have hall := al_set (o := o) (e := .inr (0, ([.int (J 0), .ref q11, .null, .null, .int (J 0), .null, .null, .int (J 0), .null, .null, .null, .null] : List Value).set 2 (.ref q19))) hall
  generalize uh h o (.inr (0, ([.int (J 0), .ref q11, .null, .null, .int (J 0), .null, .null, .int (J 0), .null, .null, .null, .null] : List Value).set 2 (.ref q19))) = h at ho2 hF hall hW c_q11 c_q19
  have ho := ho2
  refine lv_aload_n hx hb dX0_init_24 rfl (lv_at hl 0 rfl) ?_
  refine lv_bipush (v := J (41)) hx hb dX0_init_25 (by decide) ?_
  refine g_newi (n := 41) hx hb (hts (.arrayClass .int) (by decide +kernel)) hk hW hS (by decide) (by decide) (Nat.le_of_ble_eq_true rfl) (Nat.le_of_ble_eq_true rfl) dX0_init_27 (fun q27 H hq27 hW hS => ?_)
  have f_q27 : h0 q27 = none := hF.none hq27
  have n_q27 : q27 ≠ o := raw_ne ho hq27
  have hnd := nd_new hnd hall hq27
  have hall := al_new (q := q27) (e := ai g 41 (fun _ => 0)) hall
  have ho := raw_new (e := ai g 41 (fun _ => 0)) ho hq27
  have c_q11 := raw_new (e := ai g 41 (fun _ => 0)) c_q11 hq27
  have c_q19 := raw_new (e := ai g 41 (fun _ => 0)) c_q19 hq27
  have c_q27 : uh h q27 (ai g 41 (fun _ => 0)) q27 = some (ai g 41 (fun _ => 0)) := uh_same _ _ _
  have hF := Fr.new (e := ai g 41 (fun _ => 0)) hF hq27
  generalize uh h q27 (ai g 41 (fun _ => 0)) = h at ho hF hall hW c_q27 c_q11 c_q19
  refine W.eq (g2 := F0 m 29 ls [.ref q27, .ref o]) rfl ?_
  refine g_putF (ci := 0) (C := RX0) (T := TX0) (N := 12) (ty := .array .int) (fs := [.int (J 0), .ref q11, .ref q19, .null, .int (J 0), .null, .null, .int (J 0), .null, .null, .null, .null]) hx hb hfX0 (fun _ h9 => h9) tyX0 tyX0_ok nmX0 hown hk hW hS ho rfl 3 (by decide) (hts (.fieldLink RX0 22 "JugsAndGlasses$Glasses" "turnsOf" "[I") (by decide +kernel)) rfl rfl hin rfl (by decide +kernel) rfl rfl (by simp) dX0_init_29 (fun H locs hW hS => ?_)
  have ho2 : uh h o (.inr (0, ([.int (J 0), .ref q11, .ref q19, .null, .int (J 0), .null, .null, .int (J 0), .null, .null, .null, .null] : List Value).set 3 (.ref q27))) o = some (.inr (0, [.int (J 0), .ref q11, .ref q19, .ref q27, .int (J 0), .null, .null, .int (J 0), .null, .null, .null, .null])) := uh_same _ _ _
  have c_q11 := raw_set (e := .inr (0, ([.int (J 0), .ref q11, .ref q19, .null, .int (J 0), .null, .null, .int (J 0), .null, .null, .null, .null] : List Value).set 3 (.ref q27))) c_q11 n_q11
  have c_q19 := raw_set (e := .inr (0, ([.int (J 0), .ref q11, .ref q19, .null, .int (J 0), .null, .null, .int (J 0), .null, .null, .null, .null] : List Value).set 3 (.ref q27))) c_q19 n_q19
  have c_q27 := raw_set (e := .inr (0, ([.int (J 0), .ref q11, .ref q19, .null, .int (J 0), .null, .null, .int (J 0), .null, .null, .null, .null] : List Value).set 3 (.ref q27))) c_q27 n_q27
  have hF := Fr.set (e := .inr (0, ([.int (J 0), .ref q11, .ref q19, .null, .int (J 0), .null, .null, .int (J 0), .null, .null, .null, .null] : List Value).set 3 (.ref q27))) hF (Or.inl rfl)
  have hall := al_set (o := o) (e := .inr (0, ([.int (J 0), .ref q11, .ref q19, .null, .int (J 0), .null, .null, .int (J 0), .null, .null, .null, .null] : List Value).set 3 (.ref q27))) hall
  generalize uh h o (.inr (0, ([.int (J 0), .ref q11, .ref q19, .null, .int (J 0), .null, .null, .int (J 0), .null, .null, .null, .null] : List Value).set 3 (.ref q27))) = h at ho2 hF hall hW c_q11 c_q19 c_q27
  have ho := ho2
  refine lv_aload_n hx hb dX0_init_32 rfl (lv_at hl 0 rfl) ?_
  refine lv_iconst (v := J (0)) hx hb dX0_init_33 rfl ?_
  refine g_put (ci := 0) (C := RX0) (T := TX0) (N := 12) (ty := .boolean) (fs := [.int (J 0), .ref q11, .ref q19, .ref q27, .int (J 0), .null, .null, .int (J 0), .null, .null, .null, .null]) hx hb hfX0 (fun _ h9 => h9) tyX0 tyX0_ok nmX0 hown hk hW hS ho rfl 4 (by decide) (hts (.fieldLink RX0 25 "JugsAndGlasses$Glasses" "known" "Z") (by decide +kernel)) rfl rfl (by decide +kernel) (nb_n (by first | exact Or.inl rfl | exact Or.inr rfl)) (nb_f (by first | exact Or.inl rfl | exact Or.inr rfl)) (by simp) dX0_init_34 (fun H locs hW hS => ?_)
  have ho2 : uh h o (.inr (0, ([.int (J 0), .ref q11, .ref q19, .ref q27, .int (J 0), .null, .null, .int (J 0), .null, .null, .null, .null] : List Value).set 4 (.int (J 0)))) o = some (.inr (0, [.int (J 0), .ref q11, .ref q19, .ref q27, .int (J 0), .null, .null, .int (J 0), .null, .null, .null, .null])) := uh_same _ _ _
  have c_q11 := raw_set (e := .inr (0, ([.int (J 0), .ref q11, .ref q19, .ref q27, .int (J 0), .null, .null, .int (J 0), .null, .null, .null, .null] : List Value).set 4 (.int (J 0)))) c_q11 n_q11
  have c_q19 := raw_set (e := .inr (0, ([.int (J 0), .ref q11, .ref q19, .ref q27, .int (J 0), .null, .null, .int (J 0), .null, .null, .null, .null] : List Value).set 4 (.int (J 0)))) c_q19 n_q19
  have c_q27 := raw_set (e := .inr (0, ([.int (J 0), .ref q11, .ref q19, .ref q27, .int (J 0), .null, .null, .int (J 0), .null, .null, .null, .null] : List Value).set 4 (.int (J 0)))) c_q27 n_q27
  have hF := Fr.set (e := .inr (0, ([.int (J 0), .ref q11, .ref q19, .ref q27, .int (J 0), .null, .null, .int (J 0), .null, .null, .null, .null] : List Value).set 4 (.int (J 0)))) hF (Or.inl rfl)
  have hall := al_set (o := o) (e := .inr (0, ([.int (J 0), .ref q11, .ref q19, .ref q27, .int (J 0), .null, .null, .int (J 0), .null, .null, .null, .null] : List Value).set 4 (.int (J 0)))) hall
  generalize uh h o (.inr (0, ([.int (J 0), .ref q11, .ref q19, .ref q27, .int (J 0), .null, .null, .int (J 0), .null, .null, .null, .null] : List Value).set 4 (.int (J 0)))) = h at ho2 hF hall hW c_q11 c_q19 c_q27
  have ho := ho2
  refine lv_aload_n hx hb dX0_init_37 rfl (lv_at hl 0 rfl) ?_
  refine lv_iconst (v := J (0)) hx hb dX0_init_38 rfl ?_
  refine g_newi (n := 0) hx hb (hts (.arrayClass .int) (by decide +kernel)) hk hW hS (by decide) (by decide) (Nat.le_of_ble_eq_true rfl) (Nat.le_of_ble_eq_true rfl) dX0_init_39 (fun q39 H hq39 hW hS => ?_)
  have f_q39 : h0 q39 = none := hF.none hq39
  have n_q39 : q39 ≠ o := raw_ne ho hq39
  have hnd := nd_new hnd hall hq39
  have hall := al_new (q := q39) (e := ai g 0 (fun _ => 0)) hall
  have ho := raw_new (e := ai g 0 (fun _ => 0)) ho hq39
  have c_q11 := raw_new (e := ai g 0 (fun _ => 0)) c_q11 hq39
  have c_q19 := raw_new (e := ai g 0 (fun _ => 0)) c_q19 hq39
  have c_q27 := raw_new (e := ai g 0 (fun _ => 0)) c_q27 hq39
  have c_q39 : uh h q39 (ai g 0 (fun _ => 0)) q39 = some (ai g 0 (fun _ => 0)) := uh_same _ _ _
  have hF := Fr.new (e := ai g 0 (fun _ => 0)) hF hq39
  generalize uh h q39 (ai g 0 (fun _ => 0)) = h at ho hF hall hW c_q39 c_q11 c_q19 c_q27
  refine W.eq (g2 := F0 m 41 ls [.ref q39, .ref o]) rfl ?_
  refine g_put (ci := 0) (C := RX0) (T := TX0) (N := 12) (ty := .array .int) (fs := [.int (J 0), .ref q11, .ref q19, .ref q27, .int (J 0), .null, .null, .int (J 0), .null, .null, .null, .null]) hx hb hfX0 (fun _ h9 => h9) tyX0 tyX0_ok nmX0 hown hk hW hS ho rfl 5 (by decide) (hts (.fieldLink RX0 29 "JugsAndGlasses$Glasses" "events" "[I") (by decide +kernel)) rfl rfl (by decide +kernel) rfl rfl (by simp) dX0_init_41 (fun H locs hW hS => ?_)
  have ho2 : uh h o (.inr (0, ([.int (J 0), .ref q11, .ref q19, .ref q27, .int (J 0), .null, .null, .int (J 0), .null, .null, .null, .null] : List Value).set 5 (.ref q39))) o = some (.inr (0, [.int (J 0), .ref q11, .ref q19, .ref q27, .int (J 0), .ref q39, .null, .int (J 0), .null, .null, .null, .null])) := uh_same _ _ _
  have c_q11 := raw_set (e := .inr (0, ([.int (J 0), .ref q11, .ref q19, .ref q27, .int (J 0), .null, .null, .int (J 0), .null, .null, .null, .null] : List Value).set 5 (.ref q39))) c_q11 n_q11
  have c_q19 := raw_set (e := .inr (0, ([.int (J 0), .ref q11, .ref q19, .ref q27, .int (J 0), .null, .null, .int (J 0), .null, .null, .null, .null] : List Value).set 5 (.ref q39))) c_q19 n_q19
  have c_q27 := raw_set (e := .inr (0, ([.int (J 0), .ref q11, .ref q19, .ref q27, .int (J 0), .null, .null, .int (J 0), .null, .null, .null, .null] : List Value).set 5 (.ref q39))) c_q27 n_q27
  have c_q39 := raw_set (e := .inr (0, ([.int (J 0), .ref q11, .ref q19, .ref q27, .int (J 0), .null, .null, .int (J 0), .null, .null, .null, .null] : List Value).set 5 (.ref q39))) c_q39 n_q39
  have hF := Fr.set (e := .inr (0, ([.int (J 0), .ref q11, .ref q19, .ref q27, .int (J 0), .null, .null, .int (J 0), .null, .null, .null, .null] : List Value).set 5 (.ref q39))) hF (Or.inl rfl)
  have hall := al_set (o := o) (e := .inr (0, ([.int (J 0), .ref q11, .ref q19, .ref q27, .int (J 0), .null, .null, .int (J 0), .null, .null, .null, .null] : List Value).set 5 (.ref q39))) hall
  generalize uh h o (.inr (0, ([.int (J 0), .ref q11, .ref q19, .ref q27, .int (J 0), .null, .null, .int (J 0), .null, .null, .null, .null] : List Value).set 5 (.ref q39))) = h at ho2 hF hall hW c_q11 c_q19 c_q27 c_q39
  have ho := ho2
  refine lv_aload_n hx hb dX0_init_44 rfl (lv_at hl 0 rfl) ?_
  refine lv_iconst (v := J (0)) hx hb dX0_init_45 rfl ?_
  refine g_newz (n := 0) hx hb (hts (.arrayClass .boolean) (by decide +kernel)) hk hW hS (by decide) (by decide) (Nat.le_of_ble_eq_true rfl) (Nat.le_of_ble_eq_true rfl) dX0_init_46 (fun q46 H hq46 hW hS => ?_)
  have f_q46 : h0 q46 = none := hF.none hq46
  have n_q46 : q46 ≠ o := raw_ne ho hq46
  have hnd := nd_new hnd hall hq46
  have hall := al_new (q := q46) (e := az g 0 (fun _ => 0)) hall
  have ho := raw_new (e := az g 0 (fun _ => 0)) ho hq46
  have c_q11 := raw_new (e := az g 0 (fun _ => 0)) c_q11 hq46
  have c_q19 := raw_new (e := az g 0 (fun _ => 0)) c_q19 hq46
  have c_q27 := raw_new (e := az g 0 (fun _ => 0)) c_q27 hq46
  have c_q39 := raw_new (e := az g 0 (fun _ => 0)) c_q39 hq46
  have c_q46 : uh h q46 (az g 0 (fun _ => 0)) q46 = some (az g 0 (fun _ => 0)) := uh_same _ _ _
  have hF := Fr.new (e := az g 0 (fun _ => 0)) hF hq46
  generalize uh h q46 (az g 0 (fun _ => 0)) = h at ho hF hall hW c_q46 c_q11 c_q19 c_q27 c_q39
  refine W.eq (g2 := F0 m 48 ls [.ref q46, .ref o]) rfl ?_
  refine g_put (ci := 0) (C := RX0) (T := TX0) (N := 12) (ty := .array .boolean) (fs := [.int (J 0), .ref q11, .ref q19, .ref q27, .int (J 0), .ref q39, .null, .int (J 0), .null, .null, .null, .null]) hx hb hfX0 (fun _ h9 => h9) tyX0 tyX0_ok nmX0 hown hk hW hS ho rfl 6 (by decide) (hts (.fieldLink RX0 32 "JugsAndGlasses$Glasses" "listed" "[Z") (by decide +kernel)) rfl rfl (by decide +kernel) rfl rfl (by simp) dX0_init_48 (fun H locs hW hS => ?_)
  have ho2 : uh h o (.inr (0, ([.int (J 0), .ref q11, .ref q19, .ref q27, .int (J 0), .ref q39, .null, .int (J 0), .null, .null, .null, .null] : List Value).set 6 (.ref q46))) o = some (.inr (0, [.int (J 0), .ref q11, .ref q19, .ref q27, .int (J 0), .ref q39, .ref q46, .int (J 0), .null, .null, .null, .null])) := uh_same _ _ _
  have c_q11 := raw_set (e := .inr (0, ([.int (J 0), .ref q11, .ref q19, .ref q27, .int (J 0), .ref q39, .null, .int (J 0), .null, .null, .null, .null] : List Value).set 6 (.ref q46))) c_q11 n_q11
  have c_q19 := raw_set (e := .inr (0, ([.int (J 0), .ref q11, .ref q19, .ref q27, .int (J 0), .ref q39, .null, .int (J 0), .null, .null, .null, .null] : List Value).set 6 (.ref q46))) c_q19 n_q19
  have c_q27 := raw_set (e := .inr (0, ([.int (J 0), .ref q11, .ref q19, .ref q27, .int (J 0), .ref q39, .null, .int (J 0), .null, .null, .null, .null] : List Value).set 6 (.ref q46))) c_q27 n_q27
  have c_q39 := raw_set (e := .inr (0, ([.int (J 0), .ref q11, .ref q19, .ref q27, .int (J 0), .ref q39, .null, .int (J 0), .null, .null, .null, .null] : List Value).set 6 (.ref q46))) c_q39 n_q39
  have c_q46 := raw_set (e := .inr (0, ([.int (J 0), .ref q11, .ref q19, .ref q27, .int (J 0), .ref q39, .null, .int (J 0), .null, .null, .null, .null] : List Value).set 6 (.ref q46))) c_q46 n_q46
  have hF := Fr.set (e := .inr (0, ([.int (J 0), .ref q11, .ref q19, .ref q27, .int (J 0), .ref q39, .null, .int (J 0), .null, .null, .null, .null] : List Value).set 6 (.ref q46))) hF (Or.inl rfl)
  have hall := al_set (o := o) (e := .inr (0, ([.int (J 0), .ref q11, .ref q19, .ref q27, .int (J 0), .ref q39, .null, .int (J 0), .null, .null, .null, .null] : List Value).set 6 (.ref q46))) hall
  generalize uh h o (.inr (0, ([.int (J 0), .ref q11, .ref q19, .ref q27, .int (J 0), .ref q39, .null, .int (J 0), .null, .null, .null, .null] : List Value).set 6 (.ref q46))) = h at ho2 hF hall hW c_q11 c_q19 c_q27 c_q39 c_q46
  have ho := ho2
  refine lv_aload_n hx hb dX0_init_51 rfl (lv_at hl 0 rfl) ?_
  refine lv_iconst (v := J (0)) hx hb dX0_init_52 rfl ?_
  refine g_put (ci := 0) (C := RX0) (T := TX0) (N := 12) (ty := .int) (fs := [.int (J 0), .ref q11, .ref q19, .ref q27, .int (J 0), .ref q39, .ref q46, .int (J 0), .null, .null, .null, .null]) hx hb hfX0 (fun _ h9 => h9) tyX0 tyX0_ok nmX0 hown hk hW hS ho rfl 7 (by decide) (hts (.fieldLink RX0 36 "JugsAndGlasses$Glasses" "listedEvents" "I") (by decide +kernel)) rfl rfl (by decide +kernel) rfl rfl (by simp) dX0_init_53 (fun H locs hW hS => ?_)
  have ho2 : uh h o (.inr (0, ([.int (J 0), .ref q11, .ref q19, .ref q27, .int (J 0), .ref q39, .ref q46, .int (J 0), .null, .null, .null, .null] : List Value).set 7 (.int (J 0)))) o = some (.inr (0, [.int (J 0), .ref q11, .ref q19, .ref q27, .int (J 0), .ref q39, .ref q46, .int (J 0), .null, .null, .null, .null])) := uh_same _ _ _
  have c_q11 := raw_set (e := .inr (0, ([.int (J 0), .ref q11, .ref q19, .ref q27, .int (J 0), .ref q39, .ref q46, .int (J 0), .null, .null, .null, .null] : List Value).set 7 (.int (J 0)))) c_q11 n_q11
  have c_q19 := raw_set (e := .inr (0, ([.int (J 0), .ref q11, .ref q19, .ref q27, .int (J 0), .ref q39, .ref q46, .int (J 0), .null, .null, .null, .null] : List Value).set 7 (.int (J 0)))) c_q19 n_q19
  have c_q27 := raw_set (e := .inr (0, ([.int (J 0), .ref q11, .ref q19, .ref q27, .int (J 0), .ref q39, .ref q46, .int (J 0), .null, .null, .null, .null] : List Value).set 7 (.int (J 0)))) c_q27 n_q27
  have c_q39 := raw_set (e := .inr (0, ([.int (J 0), .ref q11, .ref q19, .ref q27, .int (J 0), .ref q39, .ref q46, .int (J 0), .null, .null, .null, .null] : List Value).set 7 (.int (J 0)))) c_q39 n_q39
  have c_q46 := raw_set (e := .inr (0, ([.int (J 0), .ref q11, .ref q19, .ref q27, .int (J 0), .ref q39, .ref q46, .int (J 0), .null, .null, .null, .null] : List Value).set 7 (.int (J 0)))) c_q46 n_q46
  have hF := Fr.set (e := .inr (0, ([.int (J 0), .ref q11, .ref q19, .ref q27, .int (J 0), .ref q39, .ref q46, .int (J 0), .null, .null, .null, .null] : List Value).set 7 (.int (J 0)))) hF (Or.inl rfl)
  have hall := al_set (o := o) (e := .inr (0, ([.int (J 0), .ref q11, .ref q19, .ref q27, .int (J 0), .ref q39, .ref q46, .int (J 0), .null, .null, .null, .null] : List Value).set 7 (.int (J 0)))) hall
  generalize uh h o (.inr (0, ([.int (J 0), .ref q11, .ref q19, .ref q27, .int (J 0), .ref q39, .ref q46, .int (J 0), .null, .null, .null, .null] : List Value).set 7 (.int (J 0)))) = h at ho2 hF hall hW c_q11 c_q19 c_q27 c_q39 c_q46
  have ho := ho2
  refine lv_aload_n hx hb dX0_init_56 rfl (lv_at hl 0 rfl) ?_
  refine lv_iconst (v := J (0)) hx hb dX0_init_57 rfl ?_
  refine g_newi (n := 0) hx hb (hts (.arrayClass .int) (by decide +kernel)) hk hW hS (by decide) (by decide) (Nat.le_of_ble_eq_true rfl) (Nat.le_of_ble_eq_true rfl) dX0_init_58 (fun q58 H hq58 hW hS => ?_)
  have f_q58 : h0 q58 = none := hF.none hq58
  have n_q58 : q58 ≠ o := raw_ne ho hq58
  have hnd := nd_new hnd hall hq58
  have hall := al_new (q := q58) (e := ai g 0 (fun _ => 0)) hall
  have ho := raw_new (e := ai g 0 (fun _ => 0)) ho hq58
  have c_q11 := raw_new (e := ai g 0 (fun _ => 0)) c_q11 hq58
  have c_q19 := raw_new (e := ai g 0 (fun _ => 0)) c_q19 hq58
  have c_q27 := raw_new (e := ai g 0 (fun _ => 0)) c_q27 hq58
  have c_q39 := raw_new (e := ai g 0 (fun _ => 0)) c_q39 hq58
  have c_q46 := raw_new (e := ai g 0 (fun _ => 0)) c_q46 hq58
  have c_q58 : uh h q58 (ai g 0 (fun _ => 0)) q58 = some (ai g 0 (fun _ => 0)) := uh_same _ _ _
  have hF := Fr.new (e := ai g 0 (fun _ => 0)) hF hq58
  generalize uh h q58 (ai g 0 (fun _ => 0)) = h at ho hF hall hW c_q58 c_q11 c_q19 c_q27 c_q39 c_q46
  refine W.eq (g2 := F0 m 60 ls [.ref q58, .ref o]) rfl ?_
  refine g_put (ci := 0) (C := RX0) (T := TX0) (N := 12) (ty := .array .int) (fs := [.int (J 0), .ref q11, .ref q19, .ref q27, .int (J 0), .ref q39, .ref q46, .int (J 0), .null, .null, .null, .null]) hx hb hfX0 (fun _ h9 => h9) tyX0 tyX0_ok nmX0 hown hk hW hS ho rfl 8 (by decide) (hts (.fieldLink RX0 39 "JugsAndGlasses$Glasses" "leap" "[I") (by decide +kernel)) rfl rfl (by decide +kernel) rfl rfl (by simp) dX0_init_60 (fun H locs hW hS => ?_)
  have ho2 : uh h o (.inr (0, ([.int (J 0), .ref q11, .ref q19, .ref q27, .int (J 0), .ref q39, .ref q46, .int (J 0), .null, .null, .null, .null] : List Value).set 8 (.ref q58))) o = some (.inr (0, [.int (J 0), .ref q11, .ref q19, .ref q27, .int (J 0), .ref q39, .ref q46, .int (J 0), .ref q58, .null, .null, .null])) := uh_same _ _ _
  have c_q11 := raw_set (e := .inr (0, ([.int (J 0), .ref q11, .ref q19, .ref q27, .int (J 0), .ref q39, .ref q46, .int (J 0), .null, .null, .null, .null] : List Value).set 8 (.ref q58))) c_q11 n_q11
  have c_q19 := raw_set (e := .inr (0, ([.int (J 0), .ref q11, .ref q19, .ref q27, .int (J 0), .ref q39, .ref q46, .int (J 0), .null, .null, .null, .null] : List Value).set 8 (.ref q58))) c_q19 n_q19
  have c_q27 := raw_set (e := .inr (0, ([.int (J 0), .ref q11, .ref q19, .ref q27, .int (J 0), .ref q39, .ref q46, .int (J 0), .null, .null, .null, .null] : List Value).set 8 (.ref q58))) c_q27 n_q27
  have c_q39 := raw_set (e := .inr (0, ([.int (J 0), .ref q11, .ref q19, .ref q27, .int (J 0), .ref q39, .ref q46, .int (J 0), .null, .null, .null, .null] : List Value).set 8 (.ref q58))) c_q39 n_q39
  have c_q46 := raw_set (e := .inr (0, ([.int (J 0), .ref q11, .ref q19, .ref q27, .int (J 0), .ref q39, .ref q46, .int (J 0), .null, .null, .null, .null] : List Value).set 8 (.ref q58))) c_q46 n_q46
  have c_q58 := raw_set (e := .inr (0, ([.int (J 0), .ref q11, .ref q19, .ref q27, .int (J 0), .ref q39, .ref q46, .int (J 0), .null, .null, .null, .null] : List Value).set 8 (.ref q58))) c_q58 n_q58
  have hF := Fr.set (e := .inr (0, ([.int (J 0), .ref q11, .ref q19, .ref q27, .int (J 0), .ref q39, .ref q46, .int (J 0), .null, .null, .null, .null] : List Value).set 8 (.ref q58))) hF (Or.inl rfl)
  have hall := al_set (o := o) (e := .inr (0, ([.int (J 0), .ref q11, .ref q19, .ref q27, .int (J 0), .ref q39, .ref q46, .int (J 0), .null, .null, .null, .null] : List Value).set 8 (.ref q58))) hall
  generalize uh h o (.inr (0, ([.int (J 0), .ref q11, .ref q19, .ref q27, .int (J 0), .ref q39, .ref q46, .int (J 0), .null, .null, .null, .null] : List Value).set 8 (.ref q58))) = h at ho2 hF hall hW c_q11 c_q19 c_q27 c_q39 c_q46 c_q58
  have ho := ho2
  refine lv_aload_n hx hb dX0_init_63 rfl (lv_at hl 0 rfl) ?_
  refine lv_iconst (v := J (0)) hx hb dX0_init_64 rfl ?_
  refine g_newi (n := 0) hx hb (hts (.arrayClass .int) (by decide +kernel)) hk hW hS (by decide) (by decide) (Nat.le_of_ble_eq_true rfl) (Nat.le_of_ble_eq_true rfl) dX0_init_65 (fun q65 H hq65 hW hS => ?_)
  have f_q65 : h0 q65 = none := hF.none hq65
  have n_q65 : q65 ≠ o := raw_ne ho hq65
  have hnd := nd_new hnd hall hq65
  have hall := al_new (q := q65) (e := ai g 0 (fun _ => 0)) hall
  have ho := raw_new (e := ai g 0 (fun _ => 0)) ho hq65
  have c_q11 := raw_new (e := ai g 0 (fun _ => 0)) c_q11 hq65
  have c_q19 := raw_new (e := ai g 0 (fun _ => 0)) c_q19 hq65
  have c_q27 := raw_new (e := ai g 0 (fun _ => 0)) c_q27 hq65
  have c_q39 := raw_new (e := ai g 0 (fun _ => 0)) c_q39 hq65
  have c_q46 := raw_new (e := ai g 0 (fun _ => 0)) c_q46 hq65
  have c_q58 := raw_new (e := ai g 0 (fun _ => 0)) c_q58 hq65
  have c_q65 : uh h q65 (ai g 0 (fun _ => 0)) q65 = some (ai g 0 (fun _ => 0)) := uh_same _ _ _
  have hF := Fr.new (e := ai g 0 (fun _ => 0)) hF hq65
  generalize uh h q65 (ai g 0 (fun _ => 0)) = h at ho hF hall hW c_q65 c_q11 c_q19 c_q27 c_q39 c_q46 c_q58
  refine W.eq (g2 := F0 m 67 ls [.ref q65, .ref o]) rfl ?_
  refine g_put (ci := 0) (C := RX0) (T := TX0) (N := 12) (ty := .array .int) (fs := [.int (J 0), .ref q11, .ref q19, .ref q27, .int (J 0), .ref q39, .ref q46, .int (J 0), .ref q58, .null, .null, .null]) hx hb hfX0 (fun _ h9 => h9) tyX0 tyX0_ok nmX0 hown hk hW hS ho rfl 9 (by decide) (hts (.fieldLink RX0 42 "JugsAndGlasses$Glasses" "early" "[I") (by decide +kernel)) rfl rfl (by decide +kernel) rfl rfl (by simp) dX0_init_67 (fun H locs hW hS => ?_)
  have ho2 : uh h o (.inr (0, ([.int (J 0), .ref q11, .ref q19, .ref q27, .int (J 0), .ref q39, .ref q46, .int (J 0), .ref q58, .null, .null, .null] : List Value).set 9 (.ref q65))) o = some (.inr (0, [.int (J 0), .ref q11, .ref q19, .ref q27, .int (J 0), .ref q39, .ref q46, .int (J 0), .ref q58, .ref q65, .null, .null])) := uh_same _ _ _
  have c_q11 := raw_set (e := .inr (0, ([.int (J 0), .ref q11, .ref q19, .ref q27, .int (J 0), .ref q39, .ref q46, .int (J 0), .ref q58, .null, .null, .null] : List Value).set 9 (.ref q65))) c_q11 n_q11
  have c_q19 := raw_set (e := .inr (0, ([.int (J 0), .ref q11, .ref q19, .ref q27, .int (J 0), .ref q39, .ref q46, .int (J 0), .ref q58, .null, .null, .null] : List Value).set 9 (.ref q65))) c_q19 n_q19
  have c_q27 := raw_set (e := .inr (0, ([.int (J 0), .ref q11, .ref q19, .ref q27, .int (J 0), .ref q39, .ref q46, .int (J 0), .ref q58, .null, .null, .null] : List Value).set 9 (.ref q65))) c_q27 n_q27
  have c_q39 := raw_set (e := .inr (0, ([.int (J 0), .ref q11, .ref q19, .ref q27, .int (J 0), .ref q39, .ref q46, .int (J 0), .ref q58, .null, .null, .null] : List Value).set 9 (.ref q65))) c_q39 n_q39
  have c_q46 := raw_set (e := .inr (0, ([.int (J 0), .ref q11, .ref q19, .ref q27, .int (J 0), .ref q39, .ref q46, .int (J 0), .ref q58, .null, .null, .null] : List Value).set 9 (.ref q65))) c_q46 n_q46
  have c_q58 := raw_set (e := .inr (0, ([.int (J 0), .ref q11, .ref q19, .ref q27, .int (J 0), .ref q39, .ref q46, .int (J 0), .ref q58, .null, .null, .null] : List Value).set 9 (.ref q65))) c_q58 n_q58
  have c_q65 := raw_set (e := .inr (0, ([.int (J 0), .ref q11, .ref q19, .ref q27, .int (J 0), .ref q39, .ref q46, .int (J 0), .ref q58, .null, .null, .null] : List Value).set 9 (.ref q65))) c_q65 n_q65
  have hF := Fr.set (e := .inr (0, ([.int (J 0), .ref q11, .ref q19, .ref q27, .int (J 0), .ref q39, .ref q46, .int (J 0), .ref q58, .null, .null, .null] : List Value).set 9 (.ref q65))) hF (Or.inl rfl)
  have hall := al_set (o := o) (e := .inr (0, ([.int (J 0), .ref q11, .ref q19, .ref q27, .int (J 0), .ref q39, .ref q46, .int (J 0), .ref q58, .null, .null, .null] : List Value).set 9 (.ref q65))) hall
  generalize uh h o (.inr (0, ([.int (J 0), .ref q11, .ref q19, .ref q27, .int (J 0), .ref q39, .ref q46, .int (J 0), .ref q58, .null, .null, .null] : List Value).set 9 (.ref q65))) = h at ho2 hF hall hW c_q11 c_q19 c_q27 c_q39 c_q46 c_q58 c_q65
  have ho := ho2
  refine lv_aload_n hx hb dX0_init_70 rfl (lv_at hl 0 rfl) ?_
  refine lv_iconst (v := J (0)) hx hb dX0_init_71 rfl ?_
  refine g_newi (n := 0) hx hb (hts (.arrayClass .int) (by decide +kernel)) hk hW hS (by decide) (by decide) (Nat.le_of_ble_eq_true rfl) (Nat.le_of_ble_eq_true rfl) dX0_init_72 (fun q72 H hq72 hW hS => ?_)
  have f_q72 : h0 q72 = none := hF.none hq72
  have n_q72 : q72 ≠ o := raw_ne ho hq72
  have hnd := nd_new hnd hall hq72
  have hall := al_new (q := q72) (e := ai g 0 (fun _ => 0)) hall
  have ho := raw_new (e := ai g 0 (fun _ => 0)) ho hq72
  have c_q11 := raw_new (e := ai g 0 (fun _ => 0)) c_q11 hq72
  have c_q19 := raw_new (e := ai g 0 (fun _ => 0)) c_q19 hq72
  have c_q27 := raw_new (e := ai g 0 (fun _ => 0)) c_q27 hq72
  have c_q39 := raw_new (e := ai g 0 (fun _ => 0)) c_q39 hq72
  have c_q46 := raw_new (e := ai g 0 (fun _ => 0)) c_q46 hq72
  have c_q58 := raw_new (e := ai g 0 (fun _ => 0)) c_q58 hq72
  have c_q65 := raw_new (e := ai g 0 (fun _ => 0)) c_q65 hq72
  have c_q72 : uh h q72 (ai g 0 (fun _ => 0)) q72 = some (ai g 0 (fun _ => 0)) := uh_same _ _ _
  have hF := Fr.new (e := ai g 0 (fun _ => 0)) hF hq72
  generalize uh h q72 (ai g 0 (fun _ => 0)) = h at ho hF hall hW c_q72 c_q11 c_q19 c_q27 c_q39 c_q46 c_q58 c_q65
  refine W.eq (g2 := F0 m 74 ls [.ref q72, .ref o]) rfl ?_
  refine g_put (ci := 0) (C := RX0) (T := TX0) (N := 12) (ty := .array .int) (fs := [.int (J 0), .ref q11, .ref q19, .ref q27, .int (J 0), .ref q39, .ref q46, .int (J 0), .ref q58, .ref q65, .null, .null]) hx hb hfX0 (fun _ h9 => h9) tyX0 tyX0_ok nmX0 hown hk hW hS ho rfl 10 (by decide) (hts (.fieldLink RX0 45 "JugsAndGlasses$Glasses" "turned" "[I") (by decide +kernel)) rfl rfl (by decide +kernel) rfl rfl (by simp) dX0_init_74 (fun H locs hW hS => ?_)
  have ho2 : uh h o (.inr (0, ([.int (J 0), .ref q11, .ref q19, .ref q27, .int (J 0), .ref q39, .ref q46, .int (J 0), .ref q58, .ref q65, .null, .null] : List Value).set 10 (.ref q72))) o = some (.inr (0, [.int (J 0), .ref q11, .ref q19, .ref q27, .int (J 0), .ref q39, .ref q46, .int (J 0), .ref q58, .ref q65, .ref q72, .null])) := uh_same _ _ _
  have c_q11 := raw_set (e := .inr (0, ([.int (J 0), .ref q11, .ref q19, .ref q27, .int (J 0), .ref q39, .ref q46, .int (J 0), .ref q58, .ref q65, .null, .null] : List Value).set 10 (.ref q72))) c_q11 n_q11
  have c_q19 := raw_set (e := .inr (0, ([.int (J 0), .ref q11, .ref q19, .ref q27, .int (J 0), .ref q39, .ref q46, .int (J 0), .ref q58, .ref q65, .null, .null] : List Value).set 10 (.ref q72))) c_q19 n_q19
  have c_q27 := raw_set (e := .inr (0, ([.int (J 0), .ref q11, .ref q19, .ref q27, .int (J 0), .ref q39, .ref q46, .int (J 0), .ref q58, .ref q65, .null, .null] : List Value).set 10 (.ref q72))) c_q27 n_q27
  have c_q39 := raw_set (e := .inr (0, ([.int (J 0), .ref q11, .ref q19, .ref q27, .int (J 0), .ref q39, .ref q46, .int (J 0), .ref q58, .ref q65, .null, .null] : List Value).set 10 (.ref q72))) c_q39 n_q39
  have c_q46 := raw_set (e := .inr (0, ([.int (J 0), .ref q11, .ref q19, .ref q27, .int (J 0), .ref q39, .ref q46, .int (J 0), .ref q58, .ref q65, .null, .null] : List Value).set 10 (.ref q72))) c_q46 n_q46
  have c_q58 := raw_set (e := .inr (0, ([.int (J 0), .ref q11, .ref q19, .ref q27, .int (J 0), .ref q39, .ref q46, .int (J 0), .ref q58, .ref q65, .null, .null] : List Value).set 10 (.ref q72))) c_q58 n_q58
  have c_q65 := raw_set (e := .inr (0, ([.int (J 0), .ref q11, .ref q19, .ref q27, .int (J 0), .ref q39, .ref q46, .int (J 0), .ref q58, .ref q65, .null, .null] : List Value).set 10 (.ref q72))) c_q65 n_q65
  have c_q72 := raw_set (e := .inr (0, ([.int (J 0), .ref q11, .ref q19, .ref q27, .int (J 0), .ref q39, .ref q46, .int (J 0), .ref q58, .ref q65, .null, .null] : List Value).set 10 (.ref q72))) c_q72 n_q72
  have hF := Fr.set (e := .inr (0, ([.int (J 0), .ref q11, .ref q19, .ref q27, .int (J 0), .ref q39, .ref q46, .int (J 0), .ref q58, .ref q65, .null, .null] : List Value).set 10 (.ref q72))) hF (Or.inl rfl)
  have hall := al_set (o := o) (e := .inr (0, ([.int (J 0), .ref q11, .ref q19, .ref q27, .int (J 0), .ref q39, .ref q46, .int (J 0), .ref q58, .ref q65, .null, .null] : List Value).set 10 (.ref q72))) hall
  generalize uh h o (.inr (0, ([.int (J 0), .ref q11, .ref q19, .ref q27, .int (J 0), .ref q39, .ref q46, .int (J 0), .ref q58, .ref q65, .null, .null] : List Value).set 10 (.ref q72))) = h at ho2 hF hall hW c_q11 c_q19 c_q27 c_q39 c_q46 c_q58 c_q65 c_q72
  have ho := ho2
  refine lv_aload_n hx hb dX0_init_77 rfl (lv_at hl 0 rfl) ?_
  refine lv_iconst (v := J (0)) hx hb dX0_init_78 rfl ?_
  refine g_newi (n := 0) hx hb (hts (.arrayClass .int) (by decide +kernel)) hk hW hS (by decide) (by decide) (Nat.le_of_ble_eq_true rfl) (Nat.le_of_ble_eq_true rfl) dX0_init_79 (fun q79 H hq79 hW hS => ?_)
  have f_q79 : h0 q79 = none := hF.none hq79
  have n_q79 : q79 ≠ o := raw_ne ho hq79
  have hnd := nd_new hnd hall hq79
  have hall := al_new (q := q79) (e := ai g 0 (fun _ => 0)) hall
  have ho := raw_new (e := ai g 0 (fun _ => 0)) ho hq79
  have c_q11 := raw_new (e := ai g 0 (fun _ => 0)) c_q11 hq79
  have c_q19 := raw_new (e := ai g 0 (fun _ => 0)) c_q19 hq79
  have c_q27 := raw_new (e := ai g 0 (fun _ => 0)) c_q27 hq79
  have c_q39 := raw_new (e := ai g 0 (fun _ => 0)) c_q39 hq79
  have c_q46 := raw_new (e := ai g 0 (fun _ => 0)) c_q46 hq79
  have c_q58 := raw_new (e := ai g 0 (fun _ => 0)) c_q58 hq79
  have c_q65 := raw_new (e := ai g 0 (fun _ => 0)) c_q65 hq79
  have c_q72 := raw_new (e := ai g 0 (fun _ => 0)) c_q72 hq79
  have c_q79 : uh h q79 (ai g 0 (fun _ => 0)) q79 = some (ai g 0 (fun _ => 0)) := uh_same _ _ _
  have hF := Fr.new (e := ai g 0 (fun _ => 0)) hF hq79
  generalize uh h q79 (ai g 0 (fun _ => 0)) = h at ho hF hall hW c_q79 c_q11 c_q19 c_q27 c_q39 c_q46 c_q58 c_q65 c_q72
  refine W.eq (g2 := F0 m 81 ls [.ref q79, .ref o]) rfl ?_
  refine g_put (ci := 0) (C := RX0) (T := TX0) (N := 12) (ty := .array .int) (fs := [.int (J 0), .ref q11, .ref q19, .ref q27, .int (J 0), .ref q39, .ref q46, .int (J 0), .ref q58, .ref q65, .ref q72, .null]) hx hb hfX0 (fun _ h9 => h9) tyX0 tyX0_ok nmX0 hown hk hW hS ho rfl 11 (by decide) (hts (.fieldLink RX0 48 "JugsAndGlasses$Glasses" "ahead" "[I") (by decide +kernel)) rfl rfl (by decide +kernel) rfl rfl (by simp) dX0_init_81 (fun H locs hW hS => ?_)
  have ho2 : uh h o (.inr (0, ([.int (J 0), .ref q11, .ref q19, .ref q27, .int (J 0), .ref q39, .ref q46, .int (J 0), .ref q58, .ref q65, .ref q72, .null] : List Value).set 11 (.ref q79))) o = some (.inr (0, [.int (J 0), .ref q11, .ref q19, .ref q27, .int (J 0), .ref q39, .ref q46, .int (J 0), .ref q58, .ref q65, .ref q72, .ref q79])) := uh_same _ _ _
  have c_q11 := raw_set (e := .inr (0, ([.int (J 0), .ref q11, .ref q19, .ref q27, .int (J 0), .ref q39, .ref q46, .int (J 0), .ref q58, .ref q65, .ref q72, .null] : List Value).set 11 (.ref q79))) c_q11 n_q11
  have c_q19 := raw_set (e := .inr (0, ([.int (J 0), .ref q11, .ref q19, .ref q27, .int (J 0), .ref q39, .ref q46, .int (J 0), .ref q58, .ref q65, .ref q72, .null] : List Value).set 11 (.ref q79))) c_q19 n_q19
  have c_q27 := raw_set (e := .inr (0, ([.int (J 0), .ref q11, .ref q19, .ref q27, .int (J 0), .ref q39, .ref q46, .int (J 0), .ref q58, .ref q65, .ref q72, .null] : List Value).set 11 (.ref q79))) c_q27 n_q27
  have c_q39 := raw_set (e := .inr (0, ([.int (J 0), .ref q11, .ref q19, .ref q27, .int (J 0), .ref q39, .ref q46, .int (J 0), .ref q58, .ref q65, .ref q72, .null] : List Value).set 11 (.ref q79))) c_q39 n_q39
  have c_q46 := raw_set (e := .inr (0, ([.int (J 0), .ref q11, .ref q19, .ref q27, .int (J 0), .ref q39, .ref q46, .int (J 0), .ref q58, .ref q65, .ref q72, .null] : List Value).set 11 (.ref q79))) c_q46 n_q46
  have c_q58 := raw_set (e := .inr (0, ([.int (J 0), .ref q11, .ref q19, .ref q27, .int (J 0), .ref q39, .ref q46, .int (J 0), .ref q58, .ref q65, .ref q72, .null] : List Value).set 11 (.ref q79))) c_q58 n_q58
  have c_q65 := raw_set (e := .inr (0, ([.int (J 0), .ref q11, .ref q19, .ref q27, .int (J 0), .ref q39, .ref q46, .int (J 0), .ref q58, .ref q65, .ref q72, .null] : List Value).set 11 (.ref q79))) c_q65 n_q65
  have c_q72 := raw_set (e := .inr (0, ([.int (J 0), .ref q11, .ref q19, .ref q27, .int (J 0), .ref q39, .ref q46, .int (J 0), .ref q58, .ref q65, .ref q72, .null] : List Value).set 11 (.ref q79))) c_q72 n_q72
  have c_q79 := raw_set (e := .inr (0, ([.int (J 0), .ref q11, .ref q19, .ref q27, .int (J 0), .ref q39, .ref q46, .int (J 0), .ref q58, .ref q65, .ref q72, .null] : List Value).set 11 (.ref q79))) c_q79 n_q79
  have hF := Fr.set (e := .inr (0, ([.int (J 0), .ref q11, .ref q19, .ref q27, .int (J 0), .ref q39, .ref q46, .int (J 0), .ref q58, .ref q65, .ref q72, .null] : List Value).set 11 (.ref q79))) hF (Or.inl rfl)
  have hall := al_set (o := o) (e := .inr (0, ([.int (J 0), .ref q11, .ref q19, .ref q27, .int (J 0), .ref q39, .ref q46, .int (J 0), .ref q58, .ref q65, .ref q72, .null] : List Value).set 11 (.ref q79))) hall
  generalize uh h o (.inr (0, ([.int (J 0), .ref q11, .ref q19, .ref q27, .int (J 0), .ref q39, .ref q46, .int (J 0), .ref q58, .ref q65, .ref q72, .null] : List Value).set 11 (.ref q79))) = h at ho2 hF hall hW c_q11 c_q19 c_q27 c_q39 c_q46 c_q58 c_q65 c_q72 c_q79
  have ho := ho2
  refine W.widen (k := 9) (n := 85) (Nat.le_of_ble_eq_true rfl) (Nat.le_of_ble_eq_true rfl) ?_
  exact g_vret hx hb hr hW hS dX0_init_84 hlocks (by
      have hOB : OB g 0 12 kd0 h o (fun k => ([q79, q72, q65, q58, q46, q39, q27, q19, q11] : List Nat).getD (ixX0 k) 0) i0 LG0 a0 := ⟨ho, fun k hk ha => by
          match k, hk with
          | 0, _ => exact absurd ha (by unfold isA; decide)
          | 1, _ => exact c_q11
          | 2, _ => exact c_q19
          | 3, _ => exact c_q27
          | 4, _ => exact absurd ha (by unfold isA; decide)
          | 5, _ => exact c_q39
          | 6, _ => exact c_q46
          | 7, _ => exact absurd ha (by unfold isA; decide)
          | 8, _ => exact c_q58
          | 9, _ => exact c_q65
          | 10, _ => exact c_q72
          | 11, _ => exact c_q79, fun i j hi hj hia hja e => by
          have h1 : ∀ i, i < 12 → isA kd0 i → ixX0 i < 9 := by unfold isA; decide
          have h2 : ∀ i, i < 12 → ∀ j, j < 12 → isA kd0 i → isA kd0 j → ixX0 i = ixX0 j → i = j := by unfold isA; decide
          exact h2 i hi j hj hia hja (nd_inj hnd (h1 i hi hia) (h1 j hj hja) e)⟩
      exact ⟨rfl, hF.weak, (fun k => ([q79, q72, q65, q58, q46, q39, q27, q19, q11] : List Nat).getD (ixX0 k) 0), ⟨hOB, ⟨rfl, rfl, rfl, show (0 : Int) ≤ 0 by omega, show (0 : Int) ≤ 1728 by omega, rfl, rfl, rfl, rfl, rfl⟩⟩, fun q w => by
          rcases w with w | ⟨k, hk, ha, w⟩
          · exact Or.inl w
          · match k, hk with
            | 0, _ => exact absurd ha (by unfold isA; decide)
            | 1, _ => (have w : q = q11 := w); rw [w]; exact Or.inr f_q11
            | 2, _ => (have w : q = q19 := w); rw [w]; exact Or.inr f_q19
            | 3, _ => (have w : q = q27 := w); rw [w]; exact Or.inr f_q27
            | 4, _ => exact absurd ha (by unfold isA; decide)
            | 5, _ => (have w : q = q39 := w); rw [w]; exact Or.inr f_q39
            | 6, _ => (have w : q = q46 := w); rw [w]; exact Or.inr f_q46
            | 7, _ => exact absurd ha (by unfold isA; decide)
            | 8, _ => (have w : q = q58 := w); rw [w]; exact Or.inr f_q58
            | 9, _ => (have w : q = q65 := w); rw [w]; exact Or.inr f_q65
            | 10, _ => (have w : q = q72 := w); rw [w]; exact Or.inr f_q72
            | 11, _ => (have w : q = q79 := w); rw [w]; exact Or.inr f_q79⟩)

set_option maxHeartbeats 4000000 in
set_option maxRecDepth 100000 in
theorem i_search (l : Launch) (g : GX) (base : Nat) (sa : Nat → Nat) (h0 : Hp) (o : Nat) (ho : h0 o = some (.inr (2, [.null, .null, .null, .null, .null, .null, .int (J 0), .int (J 0), .int (J 0)]))) : MC l g base sa yX2_init wsX2_init ({ frames := 2, cells := 20, slots := 48, locals := 80 }) ([.ref o]) h0 (fun r h' => r = none ∧ Fr (fun q => q = o) h0 h' ∧ ∃ DR, QB g h' o DR DI0 DL0 DA0 ∧ ∀ q, FS o DR q → q = o ∨ h0 q = none) := by
  refine Met.ofW (cc := cX2_init) (maxL := 1) (ret := none) (by decide) rfl ?_
  intro p e s m args below meth c s₁ B hml hv
  obtain ⟨rfl, hk, hW⟩ := hv
  have hx := B.exec
  have hb := B.bytes
  have hr := B.returns
  have hts := atoms_spec (ws := wsX2_init) B.pre
  have hown : s.vm.findClass RX2 = some m.cls := findClass_of_methodNamed B.named
  have hlocks := B.notSynchronized
  have hin : meth.name = "<init>" := (name_of_methodNamed B.named B.method).1
  have hfX1 : ∀ w ∈ wsX10, w.before ([.ref o]).toArray s = true := fun w h => hts w (List.mem_cons_of_mem _ (List.mem_append_left _ (List.mem_append_left _ (List.mem_append_left _ (List.mem_append_right _ h)))))
  have hfX2 : ∀ w ∈ wsX20, w.before ([.ref o]).toArray s = true := fun w h => hts w (List.mem_cons_of_mem _ (List.mem_append_left _ (List.mem_append_left _ (List.mem_append_right _ h))))
  have hfX3 : ∀ w ∈ wsX30, w.before ([.ref o]).toArray s = true := fun w h => hts w (List.mem_cons_of_mem _ (List.mem_append_right _ h))
  have hfX4 : ∀ w ∈ wsX40, w.before ([.ref o]).toArray s = true := fun w h => hts w (List.mem_cons_of_mem _ (List.mem_append_left _ (List.mem_append_right _ h)))
  have hS : va_S (Ab base) s.heap s.heap [] := va_S.rf
  have hl := lv_entry ([.ref o]) (n := 1) (Nat.le_of_ble_eq_true rfl)
  rw [lg_entry_eq]
  generalize (lg_sl ([.ref o]) ++ List.replicate (1 - (lg_sl ([.ref o])).length) Slot.unset).toArray = ls at hl ⊢
  have hl : lv_has ls 1 [(0, .ref o)] := hl
  have hF : Fr (fun q => q = o ∨ h0 q = none) h0 h0 := Fr.rf
  have hnd : ([] : List Nat).Nodup := List.nodup_nil
  have hall : ∀ a ∈ ([] : List Nat), h0 a ≠ none := fun a w => absurd w (by simp)
  have ho0 := ho
  refine lv_aload_n hx hb dX2_init_0 rfl (lv_at hl 0 rfl) ?_
  refine W.objInit hx hb hown (hts (.methodLink RX2 3 objectInit) (by decide +kernel)) (hts (.instanceMethod objectInit) (by decide +kernel)) (hts (.code objectInit ⟨#[0xb1]⟩ 1 none) (by decide +kernel)) rfl (by rw [hml]; exact hl.1) rfl dX2_init_1 (Nat.le_of_ble_eq_true rfl) (Nat.le_of_ble_eq_true rfl) ?_
  refine lv_aload_n hx hb dX2_init_4 rfl (lv_at hl 0 rfl) ?_
  refine g_new (ci := 1) (C := RX1) (T := TX1) (N := 7) (fs := [.int (J 0), .int (J 0), .int (J 0), .int (J 0), .null, .null, .null]) hx hb hfX1 (fun _ h9 => h9) tyX1 tyX1_ok hown (hts (.classLink RX2 9 RX1) (by decide +kernel)) (hts (.instantiable RX1 7) (by decide +kernel)) (hts (.initialized RX1) (by decide +kernel)) hk hW hS rfl (by intro j hj; match j, hj with | 0, _ => rfl | 1, _ => rfl | 2, _ => rfl | 3, _ => rfl | 4, _ => rfl | 5, _ => rfl | 6, _ => rfl) (Nat.le_of_ble_eq_true rfl) (Nat.le_of_ble_eq_true rfl) dX2_init_5 (fun q5 H hq5 hW hS => ?_)
  have f_q5 : h0 q5 = none := hF.none hq5
  have n_q5 : q5 ≠ o := raw_ne ho hq5
  have ho := raw_new (e := .inr (1, [.int (J 0), .int (J 0), .int (J 0), .int (J 0), .null, .null, .null])) ho hq5
  have d_q5 : uh h0 q5 (.inr (1, [.int (J 0), .int (J 0), .int (J 0), .int (J 0), .null, .null, .null])) q5 = some (.inr (1, [.int (J 0), .int (J 0), .int (J 0), .int (J 0), .null, .null, .null])) := uh_same _ _ _
  have hF := Fr.new (e := .inr (1, [.int (J 0), .int (J 0), .int (J 0), .int (J 0), .null, .null, .null])) hF hq5
  have hall := al_set (o := q5) (e := .inr (1, [.int (J 0), .int (J 0), .int (J 0), .int (J 0), .null, .null, .null])) hall
  generalize uh h0 q5 (.inr (1, [.int (J 0), .int (J 0), .int (J 0), .int (J 0), .null, .null, .null])) = h at ho hF hall hW d_q5 
  refine W.eq (g2 := F0 m 8 ls [.ref q5, .ref o]) rfl ?_
  refine lv_dup hx hb dX2_init_8 rfl ?_
  refine g_callIN (As := []) (rest := [.ref q5, .ref o]) (b := q5) ⟨hx, hb, hml, hown, hts⟩ (i_jugs l g base sa h q5 d_q5) ⟨va_cnB (host := "JugsAndGlasses") 0 hts gX2_init_X1_init_n11 rfl rfl rfl (hk.2.2.2.2.2.2.2.1) (hts (.initialized RX1) (by decide +kernel)) (by decide +kernel) ⟨Nat.le_of_ble_eq_true rfl, Nat.le_of_ble_eq_true rfl⟩, rfl, hts (.instanceMethod yX1_init) (by decide +kernel)⟩ hk hW hS rfl hl.1 (Nat.le_of_ble_eq_true rfl) dX2_init_9 ⟨Nat.le_of_ble_eq_true rfl, Nat.le_of_ble_eq_true rfl⟩ (fun r9 h9 H locs hp hW hS => ?_)
  obtain ⟨rfl, hF9, Rq5, hO_q5, hn9⟩ := hp
  refine W.widen (k := 4) (n := 19) (Nat.le_of_ble_eq_true rfl) (Nat.le_of_ble_eq_true rfl) ?_
  refine W.eq (g2 := F0 m 12 ls [.ref q5, .ref o]) rfl ?_
  have ho := raw_fr hF9 ho (fun e => n_q5 e.symm)
  have z_q5 : ∀ z, FP 7 kd1 q5 Rq5 z → h0 z = none := fun z v => by
    rcases v with v | ⟨k, hk, ha, v⟩
    · rw [v]; exact f_q5
    · rw [v]; exact hF.none (hn9 k hk ha)
  have b_q5 : ∀ z, FP 7 kd1 q5 Rq5 z → z ≠ o := fun z v e => by
    have h8 := z_q5 z v
    rw [e, ho0] at h8
    cases h8
  have hF := hF.tr hF9 (fun z w _ => Or.inr (by rw [w]; exact f_q5))
  clear hall
  generalize h9 = h at ho hF hW hO_q5 
  have hall : ∀ a ∈ ([] : List Nat), h a ≠ none := fun a w => absurd w (by simp)
  refine g_putF (ci := 2) (C := RX2) (T := TX2) (N := 9) (ty := .object "JugsAndGlasses$Jugs") (fs := [.null, .null, .null, .null, .null, .null, .int (J 0), .int (J 0), .int (J 0)]) hx hb hfX2 (fun _ h9 => h9) tyX2 tyX2_ok nmX2 hown hk hW hS ho rfl 0 (by decide) (hts (.fieldLink RX2 12 "JugsAndGlasses$Search" "jugs" "LJugsAndGlasses$Jugs;") (by decide +kernel)) rfl rfl hin rfl (by decide +kernel) rfl rfl (by simp) dX2_init_12 (fun H locs hW hS => ?_)
  have ho2 : uh h o (.inr (2, ([.null, .null, .null, .null, .null, .null, .int (J 0), .int (J 0), .int (J 0)] : List Value).set 0 (.ref q5))) o = some (.inr (2, [.ref q5, .null, .null, .null, .null, .null, .int (J 0), .int (J 0), .int (J 0)])) := uh_same _ _ _
  have hO_q5 := hO_q5.fr (P := fun z => z = o) (Fr.one (e := .inr (2, ([.null, .null, .null, .null, .null, .null, .int (J 0), .int (J 0), .int (J 0)] : List Value).set 0 (.ref q5)))) (fun q w z => b_q5 q w z)
  have hF := Fr.set (e := .inr (2, ([.null, .null, .null, .null, .null, .null, .int (J 0), .int (J 0), .int (J 0)] : List Value).set 0 (.ref q5))) hF (Or.inl rfl)
  have hall := al_set (o := o) (e := .inr (2, ([.null, .null, .null, .null, .null, .null, .int (J 0), .int (J 0), .int (J 0)] : List Value).set 0 (.ref q5))) hall
  generalize uh h o (.inr (2, ([.null, .null, .null, .null, .null, .null, .int (J 0), .int (J 0), .int (J 0)] : List Value).set 0 (.ref q5))) = h at ho2 hF hall hW hO_q5
  have ho := ho2
  refine lv_aload_n hx hb dX2_init_15 rfl (lv_at hl 0 rfl) ?_
  refine g_new (ci := 1) (C := RX1) (T := TX1) (N := 7) (fs := [.int (J 0), .int (J 0), .int (J 0), .int (J 0), .null, .null, .null]) hx hb hfX1 (fun _ h9 => h9) tyX1 tyX1_ok hown (hts (.classLink RX2 9 RX1) (by decide +kernel)) (hts (.instantiable RX1 7) (by decide +kernel)) (hts (.initialized RX1) (by decide +kernel)) hk hW hS rfl (by intro j hj; match j, hj with | 0, _ => rfl | 1, _ => rfl | 2, _ => rfl | 3, _ => rfl | 4, _ => rfl | 5, _ => rfl | 6, _ => rfl) (Nat.le_of_ble_eq_true rfl) (Nat.le_of_ble_eq_true rfl) dX2_init_16 (fun q16 H hq16 hW hS => ?_)
  have f_q16 : h0 q16 = none := hF.none hq16
  have n_q16 : q16 ≠ o := raw_ne ho hq16
  have a_hO_q5_q16 : ∀ z, FP 7 kd1 q5 Rq5 z → z ≠ q16 := fun z w e => hO_q5.ex w (by rw [e]; exact hq16)
  have ho := raw_new (e := .inr (1, [.int (J 0), .int (J 0), .int (J 0), .int (J 0), .null, .null, .null])) ho hq16
  have hO_q5 := hO_q5.new (e := .inr (1, [.int (J 0), .int (J 0), .int (J 0), .int (J 0), .null, .null, .null])) hq16
  have d_q16 : uh h q16 (.inr (1, [.int (J 0), .int (J 0), .int (J 0), .int (J 0), .null, .null, .null])) q16 = some (.inr (1, [.int (J 0), .int (J 0), .int (J 0), .int (J 0), .null, .null, .null])) := uh_same _ _ _
  have hF := Fr.new (e := .inr (1, [.int (J 0), .int (J 0), .int (J 0), .int (J 0), .null, .null, .null])) hF hq16
  have hall := al_set (o := q16) (e := .inr (1, [.int (J 0), .int (J 0), .int (J 0), .int (J 0), .null, .null, .null])) hall
  generalize uh h q16 (.inr (1, [.int (J 0), .int (J 0), .int (J 0), .int (J 0), .null, .null, .null])) = h at ho hF hall hW d_q16 hO_q5
  refine W.eq (g2 := F0 m 19 ls [.ref q16, .ref o]) rfl ?_
  refine lv_dup hx hb dX2_init_19 rfl ?_
  refine g_callIN (As := []) (rest := [.ref q16, .ref o]) (b := q16) ⟨hx, hb, hml, hown, hts⟩ (i_jugs l g base sa h q16 d_q16) ⟨va_cnB (host := "JugsAndGlasses") 0 hts gX2_init_X1_init_n11 rfl rfl rfl (hk.2.2.2.2.2.2.2.1) (hts (.initialized RX1) (by decide +kernel)) (by decide +kernel) ⟨Nat.le_of_ble_eq_true rfl, Nat.le_of_ble_eq_true rfl⟩, rfl, hts (.instanceMethod yX1_init) (by decide +kernel)⟩ hk hW hS rfl hl.1 (Nat.le_of_ble_eq_true rfl) dX2_init_20 ⟨Nat.le_of_ble_eq_true rfl, Nat.le_of_ble_eq_true rfl⟩ (fun r9 h9 H locs hp hW hS => ?_)
  obtain ⟨rfl, hF9, Rq16, hO_q16, hn9⟩ := hp
  refine W.widen (k := 8) (n := 38) (Nat.le_of_ble_eq_true rfl) (Nat.le_of_ble_eq_true rfl) ?_
  refine W.eq (g2 := F0 m 23 ls [.ref q16, .ref o]) rfl ?_
  have ho := raw_fr hF9 ho (fun e => n_q16 e.symm)
  have ap_hO_q5_q16 : ∀ z, FP 7 kd1 q5 Rq5 z → ¬ FP 7 kd1 q16 Rq16 z := fun z w v => by
    rcases v with v | ⟨k, hk, ha, v⟩
    · exact a_hO_q5_q16 z w v
    · exact hO_q5.ex w (by rw [v]; exact hn9 k hk ha)
  have z_q16 : ∀ z, FP 7 kd1 q16 Rq16 z → h0 z = none := fun z v => by
    rcases v with v | ⟨k, hk, ha, v⟩
    · rw [v]; exact f_q16
    · rw [v]; exact hF.none (hn9 k hk ha)
  have b_q16 : ∀ z, FP 7 kd1 q16 Rq16 z → z ≠ o := fun z v e => by
    have h8 := z_q16 z v
    rw [e, ho0] at h8
    cases h8
  have hO_q5 := hO_q5.fr hF9 (fun z w e => a_hO_q5_q16 z w e)
  have hF := hF.tr hF9 (fun z w _ => Or.inr (by rw [w]; exact f_q16))
  clear hall
  generalize h9 = h at ho hF hW hO_q16 hO_q5
  have hall : ∀ a ∈ ([] : List Nat), h a ≠ none := fun a w => absurd w (by simp)
  refine g_putF (ci := 2) (C := RX2) (T := TX2) (N := 9) (ty := .object "JugsAndGlasses$Jugs") (fs := [.ref q5, .null, .null, .null, .null, .null, .int (J 0), .int (J 0), .int (J 0)]) hx hb hfX2 (fun _ h9 => h9) tyX2 tyX2_ok nmX2 hown hk hW hS ho rfl 1 (by decide) (hts (.fieldLink RX2 18 "JugsAndGlasses$Search" "trial" "LJugsAndGlasses$Jugs;") (by decide +kernel)) rfl rfl hin rfl (by decide +kernel) rfl rfl (by simp) dX2_init_23 (fun H locs hW hS => ?_)
  have ho2 : uh h o (.inr (2, ([.ref q5, .null, .null, .null, .null, .null, .int (J 0), .int (J 0), .int (J 0)] : List Value).set 1 (.ref q16))) o = some (.inr (2, [.ref q5, .ref q16, .null, .null, .null, .null, .int (J 0), .int (J 0), .int (J 0)])) := uh_same _ _ _
  have hO_q5 := hO_q5.fr (P := fun z => z = o) (Fr.one (e := .inr (2, ([.ref q5, .null, .null, .null, .null, .null, .int (J 0), .int (J 0), .int (J 0)] : List Value).set 1 (.ref q16)))) (fun q w z => b_q5 q w z)
  have hO_q16 := hO_q16.fr (P := fun z => z = o) (Fr.one (e := .inr (2, ([.ref q5, .null, .null, .null, .null, .null, .int (J 0), .int (J 0), .int (J 0)] : List Value).set 1 (.ref q16)))) (fun q w z => b_q16 q w z)
  have hF := Fr.set (e := .inr (2, ([.ref q5, .null, .null, .null, .null, .null, .int (J 0), .int (J 0), .int (J 0)] : List Value).set 1 (.ref q16))) hF (Or.inl rfl)
  have hall := al_set (o := o) (e := .inr (2, ([.ref q5, .null, .null, .null, .null, .null, .int (J 0), .int (J 0), .int (J 0)] : List Value).set 1 (.ref q16))) hall
  generalize uh h o (.inr (2, ([.ref q5, .null, .null, .null, .null, .null, .int (J 0), .int (J 0), .int (J 0)] : List Value).set 1 (.ref q16))) = h at ho2 hF hall hW hO_q5 hO_q16
  have ho := ho2
  refine lv_aload_n hx hb dX2_init_26 rfl (lv_at hl 0 rfl) ?_
  refine g_new (ci := 4) (C := RX4) (T := TX4) (N := 4) (fs := [.null, .null, .null, .int (J 0)]) hx hb hfX4 (fun _ h9 => h9) tyX4 tyX4_ok hown (hts (.classLink RX2 21 RX4) (by decide +kernel)) (hts (.instantiable RX4 4) (by decide +kernel)) (hts (.initialized RX4) (by decide +kernel)) hk hW hS rfl (by intro j hj; match j, hj with | 0, _ => rfl | 1, _ => rfl | 2, _ => rfl | 3, _ => rfl) (Nat.le_of_ble_eq_true rfl) (Nat.le_of_ble_eq_true rfl) dX2_init_27 (fun q27 H hq27 hW hS => ?_)
  have f_q27 : h0 q27 = none := hF.none hq27
  have n_q27 : q27 ≠ o := raw_ne ho hq27
  have a_hO_q5_q27 : ∀ z, FP 7 kd1 q5 Rq5 z → z ≠ q27 := fun z w e => hO_q5.ex w (by rw [e]; exact hq27)
  have a_hO_q16_q27 : ∀ z, FP 7 kd1 q16 Rq16 z → z ≠ q27 := fun z w e => hO_q16.ex w (by rw [e]; exact hq27)
  have ho := raw_new (e := .inr (4, [.null, .null, .null, .int (J 0)])) ho hq27
  have hO_q5 := hO_q5.new (e := .inr (4, [.null, .null, .null, .int (J 0)])) hq27
  have hO_q16 := hO_q16.new (e := .inr (4, [.null, .null, .null, .int (J 0)])) hq27
  have d_q27 : uh h q27 (.inr (4, [.null, .null, .null, .int (J 0)])) q27 = some (.inr (4, [.null, .null, .null, .int (J 0)])) := uh_same _ _ _
  have hF := Fr.new (e := .inr (4, [.null, .null, .null, .int (J 0)])) hF hq27
  have hall := al_set (o := q27) (e := .inr (4, [.null, .null, .null, .int (J 0)])) hall
  generalize uh h q27 (.inr (4, [.null, .null, .null, .int (J 0)])) = h at ho hF hall hW d_q27 hO_q5 hO_q16
  refine W.eq (g2 := F0 m 30 ls [.ref q27, .ref o]) rfl ?_
  refine lv_dup hx hb dX2_init_30 rfl ?_
  refine g_callIN (As := []) (rest := [.ref q27, .ref o]) (b := q27) ⟨hx, hb, hml, hown, hts⟩ (i_tour l g base sa h q27 d_q27) ⟨va_cnB (host := "JugsAndGlasses") 0 hts gX2_init_X4_init_n23 rfl rfl rfl (hk.2.2.2.2.2.2.2.2.1) (hts (.initialized RX4) (by decide +kernel)) (by decide +kernel) ⟨Nat.le_of_ble_eq_true rfl, Nat.le_of_ble_eq_true rfl⟩, rfl, hts (.instanceMethod yX4_init) (by decide +kernel)⟩ hk hW hS rfl hl.1 (Nat.le_of_ble_eq_true rfl) dX2_init_31 ⟨Nat.le_of_ble_eq_true rfl, Nat.le_of_ble_eq_true rfl⟩ (fun r9 h9 H locs hp hW hS => ?_)
  obtain ⟨rfl, hF9, Rq27, hO_q27, hn9⟩ := hp
  refine W.widen (k := 12) (n := 42) (Nat.le_of_ble_eq_true rfl) (Nat.le_of_ble_eq_true rfl) ?_
  refine W.eq (g2 := F0 m 34 ls [.ref q27, .ref o]) rfl ?_
  have ho := raw_fr hF9 ho (fun e => n_q27 e.symm)
  have ap_hO_q5_q27 : ∀ z, FP 7 kd1 q5 Rq5 z → ¬ FP 4 kd4 q27 Rq27 z := fun z w v => by
    rcases v with v | ⟨k, hk, ha, v⟩
    · exact a_hO_q5_q27 z w v
    · exact hO_q5.ex w (by rw [v]; exact hn9 k hk ha)
  have ap_hO_q16_q27 : ∀ z, FP 7 kd1 q16 Rq16 z → ¬ FP 4 kd4 q27 Rq27 z := fun z w v => by
    rcases v with v | ⟨k, hk, ha, v⟩
    · exact a_hO_q16_q27 z w v
    · exact hO_q16.ex w (by rw [v]; exact hn9 k hk ha)
  have z_q27 : ∀ z, FP 4 kd4 q27 Rq27 z → h0 z = none := fun z v => by
    rcases v with v | ⟨k, hk, ha, v⟩
    · rw [v]; exact f_q27
    · rw [v]; exact hF.none (hn9 k hk ha)
  have b_q27 : ∀ z, FP 4 kd4 q27 Rq27 z → z ≠ o := fun z v e => by
    have h8 := z_q27 z v
    rw [e, ho0] at h8
    cases h8
  have hO_q5 := hO_q5.fr hF9 (fun z w e => a_hO_q5_q27 z w e)
  have hO_q16 := hO_q16.fr hF9 (fun z w e => a_hO_q16_q27 z w e)
  have hF := hF.tr hF9 (fun z w _ => Or.inr (by rw [w]; exact f_q27))
  clear hall
  generalize h9 = h at ho hF hW hO_q27 hO_q5 hO_q16
  have hall : ∀ a ∈ ([] : List Nat), h a ≠ none := fun a w => absurd w (by simp)
  refine g_putF (ci := 2) (C := RX2) (T := TX2) (N := 9) (ty := .object "JugsAndGlasses$Tour") (fs := [.ref q5, .ref q16, .null, .null, .null, .null, .int (J 0), .int (J 0), .int (J 0)]) hx hb hfX2 (fun _ h9 => h9) tyX2 tyX2_ok nmX2 hown hk hW hS ho rfl 2 (by decide) (hts (.fieldLink RX2 24 "JugsAndGlasses$Search" "all" "LJugsAndGlasses$Tour;") (by decide +kernel)) rfl rfl hin rfl (by decide +kernel) rfl rfl (by simp) dX2_init_34 (fun H locs hW hS => ?_)
  have ho2 : uh h o (.inr (2, ([.ref q5, .ref q16, .null, .null, .null, .null, .int (J 0), .int (J 0), .int (J 0)] : List Value).set 2 (.ref q27))) o = some (.inr (2, [.ref q5, .ref q16, .ref q27, .null, .null, .null, .int (J 0), .int (J 0), .int (J 0)])) := uh_same _ _ _
  have hO_q5 := hO_q5.fr (P := fun z => z = o) (Fr.one (e := .inr (2, ([.ref q5, .ref q16, .null, .null, .null, .null, .int (J 0), .int (J 0), .int (J 0)] : List Value).set 2 (.ref q27)))) (fun q w z => b_q5 q w z)
  have hO_q16 := hO_q16.fr (P := fun z => z = o) (Fr.one (e := .inr (2, ([.ref q5, .ref q16, .null, .null, .null, .null, .int (J 0), .int (J 0), .int (J 0)] : List Value).set 2 (.ref q27)))) (fun q w z => b_q16 q w z)
  have hO_q27 := hO_q27.fr (P := fun z => z = o) (Fr.one (e := .inr (2, ([.ref q5, .ref q16, .null, .null, .null, .null, .int (J 0), .int (J 0), .int (J 0)] : List Value).set 2 (.ref q27)))) (fun q w z => b_q27 q w z)
  have hF := Fr.set (e := .inr (2, ([.ref q5, .ref q16, .null, .null, .null, .null, .int (J 0), .int (J 0), .int (J 0)] : List Value).set 2 (.ref q27))) hF (Or.inl rfl)
  have hall := al_set (o := o) (e := .inr (2, ([.ref q5, .ref q16, .null, .null, .null, .null, .int (J 0), .int (J 0), .int (J 0)] : List Value).set 2 (.ref q27))) hall
  generalize uh h o (.inr (2, ([.ref q5, .ref q16, .null, .null, .null, .null, .int (J 0), .int (J 0), .int (J 0)] : List Value).set 2 (.ref q27))) = h at ho2 hF hall hW hO_q5 hO_q16 hO_q27
  have ho := ho2
  refine lv_aload_n hx hb dX2_init_37 rfl (lv_at hl 0 rfl) ?_
  refine g_new (ci := 4) (C := RX4) (T := TX4) (N := 4) (fs := [.null, .null, .null, .int (J 0)]) hx hb hfX4 (fun _ h9 => h9) tyX4 tyX4_ok hown (hts (.classLink RX2 21 RX4) (by decide +kernel)) (hts (.instantiable RX4 4) (by decide +kernel)) (hts (.initialized RX4) (by decide +kernel)) hk hW hS rfl (by intro j hj; match j, hj with | 0, _ => rfl | 1, _ => rfl | 2, _ => rfl | 3, _ => rfl) (Nat.le_of_ble_eq_true rfl) (Nat.le_of_ble_eq_true rfl) dX2_init_38 (fun q38 H hq38 hW hS => ?_)
  have f_q38 : h0 q38 = none := hF.none hq38
  have n_q38 : q38 ≠ o := raw_ne ho hq38
  have a_hO_q5_q38 : ∀ z, FP 7 kd1 q5 Rq5 z → z ≠ q38 := fun z w e => hO_q5.ex w (by rw [e]; exact hq38)
  have a_hO_q16_q38 : ∀ z, FP 7 kd1 q16 Rq16 z → z ≠ q38 := fun z w e => hO_q16.ex w (by rw [e]; exact hq38)
  have a_hO_q27_q38 : ∀ z, FP 4 kd4 q27 Rq27 z → z ≠ q38 := fun z w e => hO_q27.ex w (by rw [e]; exact hq38)
  have ho := raw_new (e := .inr (4, [.null, .null, .null, .int (J 0)])) ho hq38
  have hO_q5 := hO_q5.new (e := .inr (4, [.null, .null, .null, .int (J 0)])) hq38
  have hO_q16 := hO_q16.new (e := .inr (4, [.null, .null, .null, .int (J 0)])) hq38
  have hO_q27 := hO_q27.new (e := .inr (4, [.null, .null, .null, .int (J 0)])) hq38
  have d_q38 : uh h q38 (.inr (4, [.null, .null, .null, .int (J 0)])) q38 = some (.inr (4, [.null, .null, .null, .int (J 0)])) := uh_same _ _ _
  have hF := Fr.new (e := .inr (4, [.null, .null, .null, .int (J 0)])) hF hq38
  have hall := al_set (o := q38) (e := .inr (4, [.null, .null, .null, .int (J 0)])) hall
  generalize uh h q38 (.inr (4, [.null, .null, .null, .int (J 0)])) = h at ho hF hall hW d_q38 hO_q5 hO_q16 hO_q27
  refine W.eq (g2 := F0 m 41 ls [.ref q38, .ref o]) rfl ?_
  refine lv_dup hx hb dX2_init_41 rfl ?_
  refine g_callIN (As := []) (rest := [.ref q38, .ref o]) (b := q38) ⟨hx, hb, hml, hown, hts⟩ (i_tour l g base sa h q38 d_q38) ⟨va_cnB (host := "JugsAndGlasses") 0 hts gX2_init_X4_init_n23 rfl rfl rfl (hk.2.2.2.2.2.2.2.2.1) (hts (.initialized RX4) (by decide +kernel)) (by decide +kernel) ⟨Nat.le_of_ble_eq_true rfl, Nat.le_of_ble_eq_true rfl⟩, rfl, hts (.instanceMethod yX4_init) (by decide +kernel)⟩ hk hW hS rfl hl.1 (Nat.le_of_ble_eq_true rfl) dX2_init_42 ⟨Nat.le_of_ble_eq_true rfl, Nat.le_of_ble_eq_true rfl⟩ (fun r9 h9 H locs hp hW hS => ?_)
  obtain ⟨rfl, hF9, Rq38, hO_q38, hn9⟩ := hp
  refine W.widen (k := 16) (n := 46) (Nat.le_of_ble_eq_true rfl) (Nat.le_of_ble_eq_true rfl) ?_
  refine W.eq (g2 := F0 m 45 ls [.ref q38, .ref o]) rfl ?_
  have ho := raw_fr hF9 ho (fun e => n_q38 e.symm)
  have ap_hO_q5_q38 : ∀ z, FP 7 kd1 q5 Rq5 z → ¬ FP 4 kd4 q38 Rq38 z := fun z w v => by
    rcases v with v | ⟨k, hk, ha, v⟩
    · exact a_hO_q5_q38 z w v
    · exact hO_q5.ex w (by rw [v]; exact hn9 k hk ha)
  have ap_hO_q16_q38 : ∀ z, FP 7 kd1 q16 Rq16 z → ¬ FP 4 kd4 q38 Rq38 z := fun z w v => by
    rcases v with v | ⟨k, hk, ha, v⟩
    · exact a_hO_q16_q38 z w v
    · exact hO_q16.ex w (by rw [v]; exact hn9 k hk ha)
  have ap_hO_q27_q38 : ∀ z, FP 4 kd4 q27 Rq27 z → ¬ FP 4 kd4 q38 Rq38 z := fun z w v => by
    rcases v with v | ⟨k, hk, ha, v⟩
    · exact a_hO_q27_q38 z w v
    · exact hO_q27.ex w (by rw [v]; exact hn9 k hk ha)
  have z_q38 : ∀ z, FP 4 kd4 q38 Rq38 z → h0 z = none := fun z v => by
    rcases v with v | ⟨k, hk, ha, v⟩
    · rw [v]; exact f_q38
    · rw [v]; exact hF.none (hn9 k hk ha)
  have b_q38 : ∀ z, FP 4 kd4 q38 Rq38 z → z ≠ o := fun z v e => by
    have h8 := z_q38 z v
    rw [e, ho0] at h8
    cases h8
  have hO_q5 := hO_q5.fr hF9 (fun z w e => a_hO_q5_q38 z w e)
  have hO_q16 := hO_q16.fr hF9 (fun z w e => a_hO_q16_q38 z w e)
  have hO_q27 := hO_q27.fr hF9 (fun z w e => a_hO_q27_q38 z w e)
  have hF := hF.tr hF9 (fun z w _ => Or.inr (by rw [w]; exact f_q38))
  clear hall
  generalize h9 = h at ho hF hW hO_q38 hO_q5 hO_q16 hO_q27
  have hall : ∀ a ∈ ([] : List Nat), h a ≠ none := fun a w => absurd w (by simp)
  refine g_putF (ci := 2) (C := RX2) (T := TX2) (N := 9) (ty := .object "JugsAndGlasses$Tour") (fs := [.ref q5, .ref q16, .ref q27, .null, .null, .null, .int (J 0), .int (J 0), .int (J 0)]) hx hb hfX2 (fun _ h9 => h9) tyX2 tyX2_ok nmX2 hown hk hW hS ho rfl 3 (by decide) (hts (.fieldLink RX2 28 "JugsAndGlasses$Search" "thrifty" "LJugsAndGlasses$Tour;") (by decide +kernel)) rfl rfl hin rfl (by decide +kernel) rfl rfl (by simp) dX2_init_45 (fun H locs hW hS => ?_)
  have ho2 : uh h o (.inr (2, ([.ref q5, .ref q16, .ref q27, .null, .null, .null, .int (J 0), .int (J 0), .int (J 0)] : List Value).set 3 (.ref q38))) o = some (.inr (2, [.ref q5, .ref q16, .ref q27, .ref q38, .null, .null, .int (J 0), .int (J 0), .int (J 0)])) := uh_same _ _ _
  have hO_q5 := hO_q5.fr (P := fun z => z = o) (Fr.one (e := .inr (2, ([.ref q5, .ref q16, .ref q27, .null, .null, .null, .int (J 0), .int (J 0), .int (J 0)] : List Value).set 3 (.ref q38)))) (fun q w z => b_q5 q w z)
  have hO_q16 := hO_q16.fr (P := fun z => z = o) (Fr.one (e := .inr (2, ([.ref q5, .ref q16, .ref q27, .null, .null, .null, .int (J 0), .int (J 0), .int (J 0)] : List Value).set 3 (.ref q38)))) (fun q w z => b_q16 q w z)
  have hO_q27 := hO_q27.fr (P := fun z => z = o) (Fr.one (e := .inr (2, ([.ref q5, .ref q16, .ref q27, .null, .null, .null, .int (J 0), .int (J 0), .int (J 0)] : List Value).set 3 (.ref q38)))) (fun q w z => b_q27 q w z)
  have hO_q38 := hO_q38.fr (P := fun z => z = o) (Fr.one (e := .inr (2, ([.ref q5, .ref q16, .ref q27, .null, .null, .null, .int (J 0), .int (J 0), .int (J 0)] : List Value).set 3 (.ref q38)))) (fun q w z => b_q38 q w z)
  have hF := Fr.set (e := .inr (2, ([.ref q5, .ref q16, .ref q27, .null, .null, .null, .int (J 0), .int (J 0), .int (J 0)] : List Value).set 3 (.ref q38))) hF (Or.inl rfl)
  have hall := al_set (o := o) (e := .inr (2, ([.ref q5, .ref q16, .ref q27, .null, .null, .null, .int (J 0), .int (J 0), .int (J 0)] : List Value).set 3 (.ref q38))) hall
  generalize uh h o (.inr (2, ([.ref q5, .ref q16, .ref q27, .null, .null, .null, .int (J 0), .int (J 0), .int (J 0)] : List Value).set 3 (.ref q38))) = h at ho2 hF hall hW hO_q5 hO_q16 hO_q27 hO_q38
  have ho := ho2
  refine lv_aload_n hx hb dX2_init_48 rfl (lv_at hl 0 rfl) ?_
  refine g_new (ci := 3) (C := RX3) (T := TX3) (N := 2) (fs := [.null, .null]) hx hb hfX3 (fun _ h9 => h9) tyX3 tyX3_ok hown (hts (.classLink RX2 31 RX3) (by decide +kernel)) (hts (.instantiable RX3 2) (by decide +kernel)) (hts (.initialized RX3) (by decide +kernel)) hk hW hS rfl (by intro j hj; match j, hj with | 0, _ => rfl | 1, _ => rfl) (Nat.le_of_ble_eq_true rfl) (Nat.le_of_ble_eq_true rfl) dX2_init_49 (fun q49 H hq49 hW hS => ?_)
  have f_q49 : h0 q49 = none := hF.none hq49
  have n_q49 : q49 ≠ o := raw_ne ho hq49
  have a_hO_q5_q49 : ∀ z, FP 7 kd1 q5 Rq5 z → z ≠ q49 := fun z w e => hO_q5.ex w (by rw [e]; exact hq49)
  have a_hO_q16_q49 : ∀ z, FP 7 kd1 q16 Rq16 z → z ≠ q49 := fun z w e => hO_q16.ex w (by rw [e]; exact hq49)
  have a_hO_q27_q49 : ∀ z, FP 4 kd4 q27 Rq27 z → z ≠ q49 := fun z w e => hO_q27.ex w (by rw [e]; exact hq49)
  have a_hO_q38_q49 : ∀ z, FP 4 kd4 q38 Rq38 z → z ≠ q49 := fun z w e => hO_q38.ex w (by rw [e]; exact hq49)
  have ho := raw_new (e := .inr (3, [.null, .null])) ho hq49
  have hO_q5 := hO_q5.new (e := .inr (3, [.null, .null])) hq49
  have hO_q16 := hO_q16.new (e := .inr (3, [.null, .null])) hq49
  have hO_q27 := hO_q27.new (e := .inr (3, [.null, .null])) hq49
  have hO_q38 := hO_q38.new (e := .inr (3, [.null, .null])) hq49
  have d_q49 : uh h q49 (.inr (3, [.null, .null])) q49 = some (.inr (3, [.null, .null])) := uh_same _ _ _
  have hF := Fr.new (e := .inr (3, [.null, .null])) hF hq49
  have hall := al_set (o := q49) (e := .inr (3, [.null, .null])) hall
  generalize uh h q49 (.inr (3, [.null, .null])) = h at ho hF hall hW d_q49 hO_q5 hO_q16 hO_q27 hO_q38
  refine W.eq (g2 := F0 m 52 ls [.ref q49, .ref o]) rfl ?_
  refine lv_dup hx hb dX2_init_52 rfl ?_
  refine g_callIN (As := []) (rest := [.ref q49, .ref o]) (b := q49) ⟨hx, hb, hml, hown, hts⟩ (i_spilling l g base sa h q49 d_q49) ⟨va_cnB (host := "JugsAndGlasses") 0 hts gX2_init_X3_init_n33 rfl rfl rfl (hk.2.2.2.2.2.2.2.2.2.1) (hts (.initialized RX3) (by decide +kernel)) (by decide +kernel) ⟨Nat.le_of_ble_eq_true rfl, Nat.le_of_ble_eq_true rfl⟩, rfl, hts (.instanceMethod yX3_init) (by decide +kernel)⟩ hk hW hS rfl hl.1 (Nat.le_of_ble_eq_true rfl) dX2_init_53 ⟨Nat.le_of_ble_eq_true rfl, Nat.le_of_ble_eq_true rfl⟩ (fun r9 h9 H locs hp hW hS => ?_)
  obtain ⟨rfl, hF9, Rq49, hO_q49, hn9⟩ := hp
  refine W.widen (k := 19) (n := 48) (Nat.le_of_ble_eq_true rfl) (Nat.le_of_ble_eq_true rfl) ?_
  refine W.eq (g2 := F0 m 56 ls [.ref q49, .ref o]) rfl ?_
  have ho := raw_fr hF9 ho (fun e => n_q49 e.symm)
  have ap_hO_q5_q49 : ∀ z, FP 7 kd1 q5 Rq5 z → ¬ FP 2 kd3 q49 Rq49 z := fun z w v => by
    rcases v with v | ⟨k, hk, ha, v⟩
    · exact a_hO_q5_q49 z w v
    · exact hO_q5.ex w (by rw [v]; exact hn9 k hk ha)
  have ap_hO_q16_q49 : ∀ z, FP 7 kd1 q16 Rq16 z → ¬ FP 2 kd3 q49 Rq49 z := fun z w v => by
    rcases v with v | ⟨k, hk, ha, v⟩
    · exact a_hO_q16_q49 z w v
    · exact hO_q16.ex w (by rw [v]; exact hn9 k hk ha)
  have ap_hO_q27_q49 : ∀ z, FP 4 kd4 q27 Rq27 z → ¬ FP 2 kd3 q49 Rq49 z := fun z w v => by
    rcases v with v | ⟨k, hk, ha, v⟩
    · exact a_hO_q27_q49 z w v
    · exact hO_q27.ex w (by rw [v]; exact hn9 k hk ha)
  have ap_hO_q38_q49 : ∀ z, FP 4 kd4 q38 Rq38 z → ¬ FP 2 kd3 q49 Rq49 z := fun z w v => by
    rcases v with v | ⟨k, hk, ha, v⟩
    · exact a_hO_q38_q49 z w v
    · exact hO_q38.ex w (by rw [v]; exact hn9 k hk ha)
  have z_q49 : ∀ z, FP 2 kd3 q49 Rq49 z → h0 z = none := fun z v => by
    rcases v with v | ⟨k, hk, ha, v⟩
    · rw [v]; exact f_q49
    · rw [v]; exact hF.none (hn9 k hk ha)
  have b_q49 : ∀ z, FP 2 kd3 q49 Rq49 z → z ≠ o := fun z v e => by
    have h8 := z_q49 z v
    rw [e, ho0] at h8
    cases h8
  have hO_q5 := hO_q5.fr hF9 (fun z w e => a_hO_q5_q49 z w e)
  have hO_q16 := hO_q16.fr hF9 (fun z w e => a_hO_q16_q49 z w e)
  have hO_q27 := hO_q27.fr hF9 (fun z w e => a_hO_q27_q49 z w e)
  have hO_q38 := hO_q38.fr hF9 (fun z w e => a_hO_q38_q49 z w e)
  have hF := hF.tr hF9 (fun z w _ => Or.inr (by rw [w]; exact f_q49))
  clear hall
  generalize h9 = h at ho hF hW hO_q49 hO_q5 hO_q16 hO_q27 hO_q38
  have hall : ∀ a ∈ ([] : List Nat), h a ≠ none := fun a w => absurd w (by simp)
  refine g_putF (ci := 2) (C := RX2) (T := TX2) (N := 9) (ty := .object "JugsAndGlasses$Spilling") (fs := [.ref q5, .ref q16, .ref q27, .ref q38, .null, .null, .int (J 0), .int (J 0), .int (J 0)]) hx hb hfX2 (fun _ h9 => h9) tyX2 tyX2_ok nmX2 hown hk hW hS ho rfl 4 (by decide) (hts (.fieldLink RX2 34 "JugsAndGlasses$Search" "spilling" "LJugsAndGlasses$Spilling;") (by decide +kernel)) rfl rfl hin rfl (by decide +kernel) rfl rfl (by simp) dX2_init_56 (fun H locs hW hS => ?_)
  have ho2 : uh h o (.inr (2, ([.ref q5, .ref q16, .ref q27, .ref q38, .null, .null, .int (J 0), .int (J 0), .int (J 0)] : List Value).set 4 (.ref q49))) o = some (.inr (2, [.ref q5, .ref q16, .ref q27, .ref q38, .ref q49, .null, .int (J 0), .int (J 0), .int (J 0)])) := uh_same _ _ _
  have hO_q5 := hO_q5.fr (P := fun z => z = o) (Fr.one (e := .inr (2, ([.ref q5, .ref q16, .ref q27, .ref q38, .null, .null, .int (J 0), .int (J 0), .int (J 0)] : List Value).set 4 (.ref q49)))) (fun q w z => b_q5 q w z)
  have hO_q16 := hO_q16.fr (P := fun z => z = o) (Fr.one (e := .inr (2, ([.ref q5, .ref q16, .ref q27, .ref q38, .null, .null, .int (J 0), .int (J 0), .int (J 0)] : List Value).set 4 (.ref q49)))) (fun q w z => b_q16 q w z)
  have hO_q27 := hO_q27.fr (P := fun z => z = o) (Fr.one (e := .inr (2, ([.ref q5, .ref q16, .ref q27, .ref q38, .null, .null, .int (J 0), .int (J 0), .int (J 0)] : List Value).set 4 (.ref q49)))) (fun q w z => b_q27 q w z)
  have hO_q38 := hO_q38.fr (P := fun z => z = o) (Fr.one (e := .inr (2, ([.ref q5, .ref q16, .ref q27, .ref q38, .null, .null, .int (J 0), .int (J 0), .int (J 0)] : List Value).set 4 (.ref q49)))) (fun q w z => b_q38 q w z)
  have hO_q49 := hO_q49.fr (P := fun z => z = o) (Fr.one (e := .inr (2, ([.ref q5, .ref q16, .ref q27, .ref q38, .null, .null, .int (J 0), .int (J 0), .int (J 0)] : List Value).set 4 (.ref q49)))) (fun q w z => b_q49 q w z)
  have hF := Fr.set (e := .inr (2, ([.ref q5, .ref q16, .ref q27, .ref q38, .null, .null, .int (J 0), .int (J 0), .int (J 0)] : List Value).set 4 (.ref q49))) hF (Or.inl rfl)
  have hall := al_set (o := o) (e := .inr (2, ([.ref q5, .ref q16, .ref q27, .ref q38, .null, .null, .int (J 0), .int (J 0), .int (J 0)] : List Value).set 4 (.ref q49))) hall
  generalize uh h o (.inr (2, ([.ref q5, .ref q16, .ref q27, .ref q38, .null, .null, .int (J 0), .int (J 0), .int (J 0)] : List Value).set 4 (.ref q49))) = h at ho2 hF hall hW hO_q5 hO_q16 hO_q27 hO_q38 hO_q49
  have ho := ho2
  refine lv_aload_n hx hb dX2_init_59 rfl (lv_at hl 0 rfl) ?_
  refine lv_iconst (v := J (0)) hx hb dX2_init_60 rfl ?_
  refine g_newl (n := 0) hx hb (hts (.arrayClass .long) (by decide +kernel)) hk hW hS (by decide) (by decide) (Nat.le_of_ble_eq_true rfl) (Nat.le_of_ble_eq_true rfl) dX2_init_61 (fun q61 H hq61 hW hS => ?_)
  have g_hO_q5_q61 : ∀ z, FP 7 kd1 q5 Rq5 z → z ≠ q61 := fun z w e => hO_q5.ex w (by rw [e]; exact hq61)
  have g_hO_q16_q61 : ∀ z, FP 7 kd1 q16 Rq16 z → z ≠ q61 := fun z w e => hO_q16.ex w (by rw [e]; exact hq61)
  have g_hO_q27_q61 : ∀ z, FP 4 kd4 q27 Rq27 z → z ≠ q61 := fun z w e => hO_q27.ex w (by rw [e]; exact hq61)
  have g_hO_q38_q61 : ∀ z, FP 4 kd4 q38 Rq38 z → z ≠ q61 := fun z w e => hO_q38.ex w (by rw [e]; exact hq61)
  have g_hO_q49_q61 : ∀ z, FP 2 kd3 q49 Rq49 z → z ≠ q61 := fun z w e => hO_q49.ex w (by rw [e]; exact hq61)
  have f_q61 : h0 q61 = none := hF.none hq61
  have n_q61 : q61 ≠ o := raw_ne ho hq61
  have hnd := nd_new hnd hall hq61
  have hall := al_new (q := q61) (e := al g 0 (fun _ => 0)) hall
  have ho := raw_new (e := al g 0 (fun _ => 0)) ho hq61
  have hO_q5 := hO_q5.new (e := al g 0 (fun _ => 0)) hq61
  have hO_q16 := hO_q16.new (e := al g 0 (fun _ => 0)) hq61
  have hO_q27 := hO_q27.new (e := al g 0 (fun _ => 0)) hq61
  have hO_q38 := hO_q38.new (e := al g 0 (fun _ => 0)) hq61
  have hO_q49 := hO_q49.new (e := al g 0 (fun _ => 0)) hq61
  have c_q61 : uh h q61 (al g 0 (fun _ => 0)) q61 = some (al g 0 (fun _ => 0)) := uh_same _ _ _
  have hF := Fr.new (e := al g 0 (fun _ => 0)) hF hq61
  generalize uh h q61 (al g 0 (fun _ => 0)) = h at ho hF hall hW c_q61 hO_q5 hO_q16 hO_q27 hO_q38 hO_q49
  refine W.eq (g2 := F0 m 63 ls [.ref q61, .ref o]) rfl ?_
  refine g_put (ci := 2) (C := RX2) (T := TX2) (N := 9) (ty := .array .long) (fs := [.ref q5, .ref q16, .ref q27, .ref q38, .ref q49, .null, .int (J 0), .int (J 0), .int (J 0)]) hx hb hfX2 (fun _ h9 => h9) tyX2 tyX2_ok nmX2 hown hk hW hS ho rfl 5 (by decide) (hts (.fieldLink RX2 38 "JugsAndGlasses$Search" "ways" "[J") (by decide +kernel)) rfl rfl (by decide +kernel) rfl rfl (by simp) dX2_init_63 (fun H locs hW hS => ?_)
  have ho2 : uh h o (.inr (2, ([.ref q5, .ref q16, .ref q27, .ref q38, .ref q49, .null, .int (J 0), .int (J 0), .int (J 0)] : List Value).set 5 (.ref q61))) o = some (.inr (2, [.ref q5, .ref q16, .ref q27, .ref q38, .ref q49, .ref q61, .int (J 0), .int (J 0), .int (J 0)])) := uh_same _ _ _
  have c_q61 := raw_set (e := .inr (2, ([.ref q5, .ref q16, .ref q27, .ref q38, .ref q49, .null, .int (J 0), .int (J 0), .int (J 0)] : List Value).set 5 (.ref q61))) c_q61 n_q61
  have hO_q5 := hO_q5.fr (P := fun z => z = o) (Fr.one (e := .inr (2, ([.ref q5, .ref q16, .ref q27, .ref q38, .ref q49, .null, .int (J 0), .int (J 0), .int (J 0)] : List Value).set 5 (.ref q61)))) (fun q w z => b_q5 q w z)
  have hO_q16 := hO_q16.fr (P := fun z => z = o) (Fr.one (e := .inr (2, ([.ref q5, .ref q16, .ref q27, .ref q38, .ref q49, .null, .int (J 0), .int (J 0), .int (J 0)] : List Value).set 5 (.ref q61)))) (fun q w z => b_q16 q w z)
  have hO_q27 := hO_q27.fr (P := fun z => z = o) (Fr.one (e := .inr (2, ([.ref q5, .ref q16, .ref q27, .ref q38, .ref q49, .null, .int (J 0), .int (J 0), .int (J 0)] : List Value).set 5 (.ref q61)))) (fun q w z => b_q27 q w z)
  have hO_q38 := hO_q38.fr (P := fun z => z = o) (Fr.one (e := .inr (2, ([.ref q5, .ref q16, .ref q27, .ref q38, .ref q49, .null, .int (J 0), .int (J 0), .int (J 0)] : List Value).set 5 (.ref q61)))) (fun q w z => b_q38 q w z)
  have hO_q49 := hO_q49.fr (P := fun z => z = o) (Fr.one (e := .inr (2, ([.ref q5, .ref q16, .ref q27, .ref q38, .ref q49, .null, .int (J 0), .int (J 0), .int (J 0)] : List Value).set 5 (.ref q61)))) (fun q w z => b_q49 q w z)
  have hF := Fr.set (e := .inr (2, ([.ref q5, .ref q16, .ref q27, .ref q38, .ref q49, .null, .int (J 0), .int (J 0), .int (J 0)] : List Value).set 5 (.ref q61))) hF (Or.inl rfl)
  have hall := al_set (o := o) (e := .inr (2, ([.ref q5, .ref q16, .ref q27, .ref q38, .ref q49, .null, .int (J 0), .int (J 0), .int (J 0)] : List Value).set 5 (.ref q61))) hall
  generalize uh h o (.inr (2, ([.ref q5, .ref q16, .ref q27, .ref q38, .ref q49, .null, .int (J 0), .int (J 0), .int (J 0)] : List Value).set 5 (.ref q61))) = h at ho2 hF hall hW c_q61 hO_q5 hO_q16 hO_q27 hO_q38 hO_q49
  have ho := ho2
  refine lv_aload_n hx hb dX2_init_66 rfl (lv_at hl 0 rfl) ?_
  refine lv_iconst (v := J (0)) hx hb dX2_init_67 rfl ?_
  refine g_put (ci := 2) (C := RX2) (T := TX2) (N := 9) (ty := .boolean) (fs := [.ref q5, .ref q16, .ref q27, .ref q38, .ref q49, .ref q61, .int (J 0), .int (J 0), .int (J 0)]) hx hb hfX2 (fun _ h9 => h9) tyX2 tyX2_ok nmX2 hown hk hW hS ho rfl 6 (by decide) (hts (.fieldLink RX2 42 "JugsAndGlasses$Search" "explored" "Z") (by decide +kernel)) rfl rfl (by decide +kernel) (nb_n (by first | exact Or.inl rfl | exact Or.inr rfl)) (nb_f (by first | exact Or.inl rfl | exact Or.inr rfl)) (by simp) dX2_init_68 (fun H locs hW hS => ?_)
  have ho2 : uh h o (.inr (2, ([.ref q5, .ref q16, .ref q27, .ref q38, .ref q49, .ref q61, .int (J 0), .int (J 0), .int (J 0)] : List Value).set 6 (.int (J 0)))) o = some (.inr (2, [.ref q5, .ref q16, .ref q27, .ref q38, .ref q49, .ref q61, .int (J 0), .int (J 0), .int (J 0)])) := uh_same _ _ _
  have c_q61 := raw_set (e := .inr (2, ([.ref q5, .ref q16, .ref q27, .ref q38, .ref q49, .ref q61, .int (J 0), .int (J 0), .int (J 0)] : List Value).set 6 (.int (J 0)))) c_q61 n_q61
  have hO_q5 := hO_q5.fr (P := fun z => z = o) (Fr.one (e := .inr (2, ([.ref q5, .ref q16, .ref q27, .ref q38, .ref q49, .ref q61, .int (J 0), .int (J 0), .int (J 0)] : List Value).set 6 (.int (J 0))))) (fun q w z => b_q5 q w z)
  have hO_q16 := hO_q16.fr (P := fun z => z = o) (Fr.one (e := .inr (2, ([.ref q5, .ref q16, .ref q27, .ref q38, .ref q49, .ref q61, .int (J 0), .int (J 0), .int (J 0)] : List Value).set 6 (.int (J 0))))) (fun q w z => b_q16 q w z)
  have hO_q27 := hO_q27.fr (P := fun z => z = o) (Fr.one (e := .inr (2, ([.ref q5, .ref q16, .ref q27, .ref q38, .ref q49, .ref q61, .int (J 0), .int (J 0), .int (J 0)] : List Value).set 6 (.int (J 0))))) (fun q w z => b_q27 q w z)
  have hO_q38 := hO_q38.fr (P := fun z => z = o) (Fr.one (e := .inr (2, ([.ref q5, .ref q16, .ref q27, .ref q38, .ref q49, .ref q61, .int (J 0), .int (J 0), .int (J 0)] : List Value).set 6 (.int (J 0))))) (fun q w z => b_q38 q w z)
  have hO_q49 := hO_q49.fr (P := fun z => z = o) (Fr.one (e := .inr (2, ([.ref q5, .ref q16, .ref q27, .ref q38, .ref q49, .ref q61, .int (J 0), .int (J 0), .int (J 0)] : List Value).set 6 (.int (J 0))))) (fun q w z => b_q49 q w z)
  have hF := Fr.set (e := .inr (2, ([.ref q5, .ref q16, .ref q27, .ref q38, .ref q49, .ref q61, .int (J 0), .int (J 0), .int (J 0)] : List Value).set 6 (.int (J 0)))) hF (Or.inl rfl)
  have hall := al_set (o := o) (e := .inr (2, ([.ref q5, .ref q16, .ref q27, .ref q38, .ref q49, .ref q61, .int (J 0), .int (J 0), .int (J 0)] : List Value).set 6 (.int (J 0)))) hall
  generalize uh h o (.inr (2, ([.ref q5, .ref q16, .ref q27, .ref q38, .ref q49, .ref q61, .int (J 0), .int (J 0), .int (J 0)] : List Value).set 6 (.int (J 0)))) = h at ho2 hF hall hW c_q61 hO_q5 hO_q16 hO_q27 hO_q38 hO_q49
  have ho := ho2
  refine lv_aload_n hx hb dX2_init_71 rfl (lv_at hl 0 rfl) ?_
  refine lv_iconst (v := J (0)) hx hb dX2_init_72 rfl ?_
  refine g_put (ci := 2) (C := RX2) (T := TX2) (N := 9) (ty := .boolean) (fs := [.ref q5, .ref q16, .ref q27, .ref q38, .ref q49, .ref q61, .int (J 0), .int (J 0), .int (J 0)]) hx hb hfX2 (fun _ h9 => h9) tyX2 tyX2_ok nmX2 hown hk hW hS ho rfl 7 (by decide) (hts (.fieldLink RX2 46 "JugsAndGlasses$Search" "counted" "Z") (by decide +kernel)) rfl rfl (by decide +kernel) (nb_n (by first | exact Or.inl rfl | exact Or.inr rfl)) (nb_f (by first | exact Or.inl rfl | exact Or.inr rfl)) (by simp) dX2_init_73 (fun H locs hW hS => ?_)
  have ho2 : uh h o (.inr (2, ([.ref q5, .ref q16, .ref q27, .ref q38, .ref q49, .ref q61, .int (J 0), .int (J 0), .int (J 0)] : List Value).set 7 (.int (J 0)))) o = some (.inr (2, [.ref q5, .ref q16, .ref q27, .ref q38, .ref q49, .ref q61, .int (J 0), .int (J 0), .int (J 0)])) := uh_same _ _ _
  have c_q61 := raw_set (e := .inr (2, ([.ref q5, .ref q16, .ref q27, .ref q38, .ref q49, .ref q61, .int (J 0), .int (J 0), .int (J 0)] : List Value).set 7 (.int (J 0)))) c_q61 n_q61
  have hO_q5 := hO_q5.fr (P := fun z => z = o) (Fr.one (e := .inr (2, ([.ref q5, .ref q16, .ref q27, .ref q38, .ref q49, .ref q61, .int (J 0), .int (J 0), .int (J 0)] : List Value).set 7 (.int (J 0))))) (fun q w z => b_q5 q w z)
  have hO_q16 := hO_q16.fr (P := fun z => z = o) (Fr.one (e := .inr (2, ([.ref q5, .ref q16, .ref q27, .ref q38, .ref q49, .ref q61, .int (J 0), .int (J 0), .int (J 0)] : List Value).set 7 (.int (J 0))))) (fun q w z => b_q16 q w z)
  have hO_q27 := hO_q27.fr (P := fun z => z = o) (Fr.one (e := .inr (2, ([.ref q5, .ref q16, .ref q27, .ref q38, .ref q49, .ref q61, .int (J 0), .int (J 0), .int (J 0)] : List Value).set 7 (.int (J 0))))) (fun q w z => b_q27 q w z)
  have hO_q38 := hO_q38.fr (P := fun z => z = o) (Fr.one (e := .inr (2, ([.ref q5, .ref q16, .ref q27, .ref q38, .ref q49, .ref q61, .int (J 0), .int (J 0), .int (J 0)] : List Value).set 7 (.int (J 0))))) (fun q w z => b_q38 q w z)
  have hO_q49 := hO_q49.fr (P := fun z => z = o) (Fr.one (e := .inr (2, ([.ref q5, .ref q16, .ref q27, .ref q38, .ref q49, .ref q61, .int (J 0), .int (J 0), .int (J 0)] : List Value).set 7 (.int (J 0))))) (fun q w z => b_q49 q w z)
  have hF := Fr.set (e := .inr (2, ([.ref q5, .ref q16, .ref q27, .ref q38, .ref q49, .ref q61, .int (J 0), .int (J 0), .int (J 0)] : List Value).set 7 (.int (J 0)))) hF (Or.inl rfl)
  have hall := al_set (o := o) (e := .inr (2, ([.ref q5, .ref q16, .ref q27, .ref q38, .ref q49, .ref q61, .int (J 0), .int (J 0), .int (J 0)] : List Value).set 7 (.int (J 0)))) hall
  generalize uh h o (.inr (2, ([.ref q5, .ref q16, .ref q27, .ref q38, .ref q49, .ref q61, .int (J 0), .int (J 0), .int (J 0)] : List Value).set 7 (.int (J 0)))) = h at ho2 hF hall hW c_q61 hO_q5 hO_q16 hO_q27 hO_q38 hO_q49
  have ho := ho2
  refine lv_aload_n hx hb dX2_init_76 rfl (lv_at hl 0 rfl) ?_
  refine lv_iconst (v := J (0)) hx hb dX2_init_77 rfl ?_
  refine g_put (ci := 2) (C := RX2) (T := TX2) (N := 9) (ty := .boolean) (fs := [.ref q5, .ref q16, .ref q27, .ref q38, .ref q49, .ref q61, .int (J 0), .int (J 0), .int (J 0)]) hx hb hfX2 (fun _ h9 => h9) tyX2 tyX2_ok nmX2 hown hk hW hS ho rfl 8 (by decide) (hts (.fieldLink RX2 49 "JugsAndGlasses$Search" "exploredSparing" "Z") (by decide +kernel)) rfl rfl (by decide +kernel) (nb_n (by first | exact Or.inl rfl | exact Or.inr rfl)) (nb_f (by first | exact Or.inl rfl | exact Or.inr rfl)) (by simp) dX2_init_78 (fun H locs hW hS => ?_)
  have ho2 : uh h o (.inr (2, ([.ref q5, .ref q16, .ref q27, .ref q38, .ref q49, .ref q61, .int (J 0), .int (J 0), .int (J 0)] : List Value).set 8 (.int (J 0)))) o = some (.inr (2, [.ref q5, .ref q16, .ref q27, .ref q38, .ref q49, .ref q61, .int (J 0), .int (J 0), .int (J 0)])) := uh_same _ _ _
  have c_q61 := raw_set (e := .inr (2, ([.ref q5, .ref q16, .ref q27, .ref q38, .ref q49, .ref q61, .int (J 0), .int (J 0), .int (J 0)] : List Value).set 8 (.int (J 0)))) c_q61 n_q61
  have hO_q5 := hO_q5.fr (P := fun z => z = o) (Fr.one (e := .inr (2, ([.ref q5, .ref q16, .ref q27, .ref q38, .ref q49, .ref q61, .int (J 0), .int (J 0), .int (J 0)] : List Value).set 8 (.int (J 0))))) (fun q w z => b_q5 q w z)
  have hO_q16 := hO_q16.fr (P := fun z => z = o) (Fr.one (e := .inr (2, ([.ref q5, .ref q16, .ref q27, .ref q38, .ref q49, .ref q61, .int (J 0), .int (J 0), .int (J 0)] : List Value).set 8 (.int (J 0))))) (fun q w z => b_q16 q w z)
  have hO_q27 := hO_q27.fr (P := fun z => z = o) (Fr.one (e := .inr (2, ([.ref q5, .ref q16, .ref q27, .ref q38, .ref q49, .ref q61, .int (J 0), .int (J 0), .int (J 0)] : List Value).set 8 (.int (J 0))))) (fun q w z => b_q27 q w z)
  have hO_q38 := hO_q38.fr (P := fun z => z = o) (Fr.one (e := .inr (2, ([.ref q5, .ref q16, .ref q27, .ref q38, .ref q49, .ref q61, .int (J 0), .int (J 0), .int (J 0)] : List Value).set 8 (.int (J 0))))) (fun q w z => b_q38 q w z)
  have hO_q49 := hO_q49.fr (P := fun z => z = o) (Fr.one (e := .inr (2, ([.ref q5, .ref q16, .ref q27, .ref q38, .ref q49, .ref q61, .int (J 0), .int (J 0), .int (J 0)] : List Value).set 8 (.int (J 0))))) (fun q w z => b_q49 q w z)
  have hF := Fr.set (e := .inr (2, ([.ref q5, .ref q16, .ref q27, .ref q38, .ref q49, .ref q61, .int (J 0), .int (J 0), .int (J 0)] : List Value).set 8 (.int (J 0)))) hF (Or.inl rfl)
  have hall := al_set (o := o) (e := .inr (2, ([.ref q5, .ref q16, .ref q27, .ref q38, .ref q49, .ref q61, .int (J 0), .int (J 0), .int (J 0)] : List Value).set 8 (.int (J 0)))) hall
  generalize uh h o (.inr (2, ([.ref q5, .ref q16, .ref q27, .ref q38, .ref q49, .ref q61, .int (J 0), .int (J 0), .int (J 0)] : List Value).set 8 (.int (J 0)))) = h at ho2 hF hall hW c_q61 hO_q5 hO_q16 hO_q27 hO_q38 hO_q49
  have ho := ho2
  refine W.widen (k := 20) (n := 48) (Nat.le_of_ble_eq_true rfl) (Nat.le_of_ble_eq_true rfl) ?_
  exact g_vret hx hb hr hW hS dX2_init_81 hlocks (by
      have h5 : ∀ k, k < 9 → isA kd2 k → k = 5 := by unfold isA; decide
      obtain ⟨RS9, eRS⟩ : ∃ RS9, RS9 = (fun k => match k with | 0 => q5 | 1 => q16 | 2 => q27 | 3 => q38 | 4 => q49 | _ => q61) := ⟨_, rfl⟩
      have hOB : OB g 2 9 kd2 h o RS9 i0 i0 a0 := by
        rw [eRS]
        exact ⟨ho, fun k hk ha => by have e := h5 k hk ha; subst e; exact c_q61, fun i j hi hj hia hja _ => (h5 i hi hia).trans (h5 j hj hja).symm⟩
      have hlt : ∀ i j, i < j → j < 6 → ∀ q, QF o (fun i => match i with | 0 => RS9 | 1 => Rq5 | 2 => Rq16 | 3 => Rq27 | 4 => Rq38 | _ => Rq49) i q → ¬ QF o (fun i => match i with | 0 => RS9 | 1 => Rq5 | 2 => Rq16 | 3 => Rq27 | 4 => Rq38 | _ => Rq49) j q := by
        intro i j hij hj
        rw [eRS]
        have hc : (i = 0 ∧ j = 1) ∨ (i = 0 ∧ j = 2) ∨ (i = 0 ∧ j = 3) ∨ (i = 0 ∧ j = 4) ∨ (i = 0 ∧ j = 5) ∨ (i = 1 ∧ j = 2) ∨ (i = 1 ∧ j = 3) ∨ (i = 1 ∧ j = 4) ∨ (i = 1 ∧ j = 5) ∨ (i = 2 ∧ j = 3) ∨ (i = 2 ∧ j = 4) ∨ (i = 2 ∧ j = 5) ∨ (i = 3 ∧ j = 4) ∨ (i = 3 ∧ j = 5) ∨ (i = 4 ∧ j = 5) := by omega
        rcases hc with ⟨rfl, rfl⟩ | ⟨rfl, rfl⟩ | ⟨rfl, rfl⟩ | ⟨rfl, rfl⟩ | ⟨rfl, rfl⟩ | ⟨rfl, rfl⟩ | ⟨rfl, rfl⟩ | ⟨rfl, rfl⟩ | ⟨rfl, rfl⟩ | ⟨rfl, rfl⟩ | ⟨rfl, rfl⟩ | ⟨rfl, rfl⟩ | ⟨rfl, rfl⟩ | ⟨rfl, rfl⟩ | ⟨rfl, rfl⟩
        · exact fun q w v => by
            rcases w with w | ⟨k, hk, ha, w⟩
            · exact b_q5 q v w
            · have hk5 : k = 5 := h5 k hk ha
              subst hk5
              exact g_hO_q5_q61 q v w
        · exact fun q w v => by
            rcases w with w | ⟨k, hk, ha, w⟩
            · exact b_q16 q v w
            · have hk5 : k = 5 := h5 k hk ha
              subst hk5
              exact g_hO_q16_q61 q v w
        · exact fun q w v => by
            rcases w with w | ⟨k, hk, ha, w⟩
            · exact b_q27 q v w
            · have hk5 : k = 5 := h5 k hk ha
              subst hk5
              exact g_hO_q27_q61 q v w
        · exact fun q w v => by
            rcases w with w | ⟨k, hk, ha, w⟩
            · exact b_q38 q v w
            · have hk5 : k = 5 := h5 k hk ha
              subst hk5
              exact g_hO_q38_q61 q v w
        · exact fun q w v => by
            rcases w with w | ⟨k, hk, ha, w⟩
            · exact b_q49 q v w
            · have hk5 : k = 5 := h5 k hk ha
              subst hk5
              exact g_hO_q49_q61 q v w
        · exact ap_hO_q5_q16
        · exact ap_hO_q5_q27
        · exact ap_hO_q5_q38
        · exact ap_hO_q5_q49
        · exact ap_hO_q16_q27
        · exact ap_hO_q16_q38
        · exact ap_hO_q16_q49
        · exact ap_hO_q27_q38
        · exact ap_hO_q27_q49
        · exact ap_hO_q38_q49
      have hQA : QA o (fun i => match i with | 0 => RS9 | 1 => Rq5 | 2 => Rq16 | 3 => Rq27 | 4 => Rq38 | _ => Rq49) := fun i j hi hj hij q w v => by
        rcases Nat.lt_or_ge i j with z | z
        · exact hlt i j z hj q w v
        · exact hlt j i (by omega) hi q v w
      refine ⟨rfl, hF.weak, (fun i => match i with | 0 => RS9 | 1 => Rq5 | 2 => Rq16 | 3 => Rq27 | 4 => Rq38 | _ => Rq49), ⟨hOB, ?_, ?_, ?_, ?_, ?_, hQA⟩, fun q w => ?_⟩
      · rw [eRS]; exact hO_q5
      · rw [eRS]; exact hO_q16
      · rw [eRS]; exact hO_q27
      · rw [eRS]; exact hO_q38
      · rw [eRS]; exact hO_q49
      · rw [eRS] at w
        obtain ⟨i, hi, w⟩ := w
        match i, hi with
        | 0, _ =>
          rcases w with w | ⟨k, hk, ha, w⟩
          · exact Or.inl w
          · have e := h5 k hk ha
            subst e
            have w : q = q61 := w
            rw [w]; exact Or.inr f_q61
        | 1, _ => exact Or.inr (z_q5 q w)
        | 2, _ => exact Or.inr (z_q16 q w)
        | 3, _ => exact Or.inr (z_q27 q w)
        | 4, _ => exact Or.inr (z_q38 q w)
        | 5, _ => exact Or.inr (z_q49 q w))
