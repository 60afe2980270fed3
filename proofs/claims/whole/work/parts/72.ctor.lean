def ixX1 (k : Nat) : Nat := match k with | 4 => 2 | 5 => 1 | 6 => 0 | _ => 99

set_option maxHeartbeats 4000000 in
set_option maxRecDepth 100000 in
theorem i_jugs (l : Launch) (g : GX) (base : Nat) (sa : Nat → Nat) (h0 : Hp) (o : Nat) (ho : h0 o = some (.inr (1, [.int (J 0), .int (J 0), .int (J 0), .int (J 0), .null, .null, .null]))) : MC l g base sa yX1_init wsX1_init ({ frames := 1, cells := 3, slots := 12, locals := 40 }) ([.ref o]) h0 (fun r h' => r = none ∧ Fr (fun q => q = o) h0 h' ∧ ∃ R, OB g 1 7 kd1 h' o R (va_up (va_up (va_up i0 1 1) 2 1) 3 1) L4 a0 ∧ ∀ k, k < 7 → isA kd1 k → h0 (R k) = none) := by
  refine Met.ofW (cc := cX1_init) (maxL := 1) (ret := none) (by decide) rfl ?_
  intro p e s m args below meth c s₁ B hml hv
  obtain ⟨rfl, hk, hW⟩ := hv
  have hx := B.exec
  have hb := B.bytes
  have hr := B.returns
  have hts := atoms_spec (ws := wsX1_init) B.pre
  have hown : s.vm.findClass RX1 = some m.cls := findClass_of_methodNamed B.named
  have hlocks := B.notSynchronized
  have hin : meth.name = "<init>" := (name_of_methodNamed B.named B.method).1
  have hfX1 : ∀ w ∈ wsX10, w.before ([.ref o]).toArray s = true := fun w h => hts w (List.mem_cons_of_mem _ (List.mem_append_right _ h))
  have hS : va_S (Ab base) s.heap s.heap [] := va_S.rf
  have hl := lv_entry ([.ref o]) (n := 1) (Nat.le_of_ble_eq_true rfl)
  rw [lg_entry_eq]
  generalize (lg_sl ([.ref o]) ++ List.replicate (1 - (lg_sl ([.ref o])).length) Slot.unset).toArray = ls at hl ⊢
  have hl : lv_has ls 1 [(0, .ref o)] := hl
  have hF : Fr (fun q => q = o ∨ h0 q = none) h0 h0 := Fr.rf
  have hnd : ([] : List Nat).Nodup := List.nodup_nil
  have hall : ∀ a ∈ ([] : List Nat), h0 a ≠ none := fun a w => absurd w (by simp)
  refine lv_aload_n hx hb dX1_init_0 rfl (lv_at hl 0 rfl) ?_
  refine W.objInit hx hb hown (hts (.methodLink RX1 3 objectInit) (by decide +kernel)) (hts (.instanceMethod objectInit) (by decide +kernel)) (hts (.code objectInit ⟨#[0xb1]⟩ 1 none) (by decide +kernel)) rfl (by rw [hml]; exact hl.1) rfl dX1_init_1 (Nat.le_of_ble_eq_true rfl) (Nat.le_of_ble_eq_true rfl) ?_
  refine lv_aload_n hx hb dX1_init_4 rfl (lv_at hl 0 rfl) ?_
  refine lv_iconst (v := J (0)) hx hb dX1_init_5 rfl ?_
  refine g_put (ci := 1) (C := RX1) (T := TX1) (N := 7) (ty := .int) (fs := [.int (J 0), .int (J 0), .int (J 0), .int (J 0), .null, .null, .null]) hx hb hfX1 (fun _ h9 => h9) tyX1 tyX1_ok nmX1 hown hk hW hS ho rfl 0 (by decide) (hts (.fieldLink RX1 9 "JugsAndGlasses$Jugs" "number" "I") (by decide +kernel)) rfl rfl (by decide +kernel) rfl rfl (by simp) dX1_init_6 (fun H locs hW hS => ?_)
  have ho2 : uh h0 o (.inr (1, ([.int (J 0), .int (J 0), .int (J 0), .int (J 0), .null, .null, .null] : List Value).set 0 (.int (J 0)))) o = some (.inr (1, [.int (J 0), .int (J 0), .int (J 0), .int (J 0), .null, .null, .null])) := uh_same _ _ _
  have hF := Fr.set (e := .inr (1, ([.int (J 0), .int (J 0), .int (J 0), .int (J 0), .null, .null, .null] : List Value).set 0 (.int (J 0)))) hF (Or.inl rfl)
  have hall := al_set (o := o) (e := .inr (1, ([.int (J 0), .int (J 0), .int (J 0), .int (J 0), .null, .null, .null] : List Value).set 0 (.int (J 0)))) hall
  generalize uh h0 o (.inr (1, ([.int (J 0), .int (J 0), .int (J 0), .int (J 0), .null, .null, .null] : List Value).set 0 (.int (J 0)))) = h at ho2 hF hall hW 
  have ho := ho2
  refine lv_aload_n hx hb dX1_init_9 rfl (lv_at hl 0 rfl) ?_
  refine lv_iconst (v := J (1)) hx hb dX1_init_10 rfl ?_
  refine g_put (ci := 1) (C := RX1) (T := TX1) (N := 7) (ty := .int) (fs := [.int (J 0), .int (J 0), .int (J 0), .int (J 0), .null, .null, .null]) hx hb hfX1 (fun _ h9 => h9) tyX1 tyX1_ok nmX1 hown hk hW hS ho rfl 1 (by decide) (hts (.fieldLink RX1 15 "JugsAndGlasses$Jugs" "codes" "I") (by decide +kernel)) rfl rfl (by decide +kernel) rfl rfl (by simp) dX1_init_11 (fun H locs hW hS => ?_)
  have ho2 : uh h o (.inr (1, ([.int (J 0), .int (J 0), .int (J 0), .int (J 0), .null, .null, .null] : List Value).set 1 (.int (J 1)))) o = some (.inr (1, [.int (J 0), .int (J 1), .int (J 0), .int (J 0), .null, .null, .null])) := uh_same _ _ _
  have hF := Fr.set (e := .inr (1, ([.int (J 0), .int (J 0), .int (J 0), .int (J 0), .null, .null, .null] : List Value).set 1 (.int (J 1)))) hF (Or.inl rfl)
  have hall := al_set (o := o) (e := .inr (1, ([.int (J 0), .int (J 0), .int (J 0), .int (J 0), .null, .null, .null] : List Value).set 1 (.int (J 1)))) hall
  generalize uh h o (.inr (1, ([.int (J 0), .int (J 0), .int (J 0), .int (J 0), .null, .null, .null] : List Value).set 1 (.int (J 1)))) = h at ho2 hF hall hW 
  have ho := ho2
  refine lv_aload_n hx hb dX1_init_14 rfl (lv_at hl 0 rfl) ?_
  refine lv_iconst (v := J (1)) hx hb dX1_init_15 rfl ?_
  refine g_put (ci := 1) (C := RX1) (T := TX1) (N := 7) (ty := .boolean) (fs := [.int (J 0), .int (J 1), .int (J 0), .int (J 0), .null, .null, .null]) hx hb hfX1 (fun _ h9 => h9) tyX1 tyX1_ok nmX1 hown hk hW hS ho rfl 2 (by decide) (hts (.fieldLink RX1 18 "JugsAndGlasses$Jugs" "tap" "Z") (by decide +kernel)) rfl rfl (by decide +kernel) (nb_n (by first | exact Or.inl rfl | exact Or.inr rfl)) (nb_f (by first | exact Or.inl rfl | exact Or.inr rfl)) (by simp) dX1_init_16 (fun H locs hW hS => ?_)
  have ho2 : uh h o (.inr (1, ([.int (J 0), .int (J 1), .int (J 0), .int (J 0), .null, .null, .null] : List Value).set 2 (.int (J 1)))) o = some (.inr (1, [.int (J 0), .int (J 1), .int (J 1), .int (J 0), .null, .null, .null])) := uh_same _ _ _
  have hF := Fr.set (e := .inr (1, ([.int (J 0), .int (J 1), .int (J 0), .int (J 0), .null, .null, .null] : List Value).set 2 (.int (J 1)))) hF (Or.inl rfl)
  have hall := al_set (o := o) (e := .inr (1, ([.int (J 0), .int (J 1), .int (J 0), .int (J 0), .null, .null, .null] : List Value).set 2 (.int (J 1)))) hall
  generalize uh h o (.inr (1, ([.int (J 0), .int (J 1), .int (J 0), .int (J 0), .null, .null, .null] : List Value).set 2 (.int (J 1)))) = h at ho2 hF hall hW 
  have ho := ho2
  refine lv_aload_n hx hb dX1_init_19 rfl (lv_at hl 0 rfl) ?_
  refine lv_iconst (v := J (1)) hx hb dX1_init_20 rfl ?_
  refine g_put (ci := 1) (C := RX1) (T := TX1) (N := 7) (ty := .boolean) (fs := [.int (J 0), .int (J 1), .int (J 1), .int (J 0), .null, .null, .null]) hx hb hfX1 (fun _ h9 => h9) tyX1 tyX1_ok nmX1 hown hk hW hS ho rfl 3 (by decide) (hts (.fieldLink RX1 22 "JugsAndGlasses$Jugs" "drain" "Z") (by decide +kernel)) rfl rfl (by decide +kernel) (nb_n (by first | exact Or.inl rfl | exact Or.inr rfl)) (nb_f (by first | exact Or.inl rfl | exact Or.inr rfl)) (by simp) dX1_init_21 (fun H locs hW hS => ?_)
  have ho2 : uh h o (.inr (1, ([.int (J 0), .int (J 1), .int (J 1), .int (J 0), .null, .null, .null] : List Value).set 3 (.int (J 1)))) o = some (.inr (1, [.int (J 0), .int (J 1), .int (J 1), .int (J 1), .null, .null, .null])) := uh_same _ _ _
  have hF := Fr.set (e := .inr (1, ([.int (J 0), .int (J 1), .int (J 1), .int (J 0), .null, .null, .null] : List Value).set 3 (.int (J 1)))) hF (Or.inl rfl)
  have hall := al_set (o := o) (e := .inr (1, ([.int (J 0), .int (J 1), .int (J 1), .int (J 0), .null, .null, .null] : List Value).set 3 (.int (J 1)))) hall
  generalize uh h o (.inr (1, ([.int (J 0), .int (J 1), .int (J 1), .int (J 0), .null, .null, .null] : List Value).set 3 (.int (J 1)))) = h at ho2 hF hall hW 
  have ho := ho2
  refine lv_aload_n hx hb dX1_init_24 rfl (lv_at hl 0 rfl) ?_
  refine lv_iconst (v := J (4)) hx hb dX1_init_25 rfl ?_
  refine g_newi (n := 4) hx hb (hts (.arrayClass .int) (by decide +kernel)) hk hW hS (by decide) (by decide) (Nat.le_of_ble_eq_true rfl) (Nat.le_of_ble_eq_true rfl) dX1_init_26 (fun q26 H hq26 hW hS => ?_)
  have f_q26 : h0 q26 = none := hF.none hq26
  have n_q26 : q26 ≠ o := raw_ne ho hq26
  have hnd := nd_new hnd hall hq26
  have hall := al_new (q := q26) (e := ai g 4 (fun _ => 0)) hall
  have ho := raw_new (e := ai g 4 (fun _ => 0)) ho hq26
  have c_q26 : uh h q26 (ai g 4 (fun _ => 0)) q26 = some (ai g 4 (fun _ => 0)) := uh_same _ _ _
  have hF := Fr.new (e := ai g 4 (fun _ => 0)) hF hq26
  generalize uh h q26 (ai g 4 (fun _ => 0)) = h at ho hF hall hW c_q26 
  refine W.eq (g2 := F0 m 28 ls [.ref q26, .ref o]) rfl ?_
  refine g_putF (ci := 1) (C := RX1) (T := TX1) (N := 7) (ty := .array .int) (fs := [.int (J 0), .int (J 1), .int (J 1), .int (J 1), .null, .null, .null]) hx hb hfX1 (fun _ h9 => h9) tyX1 tyX1_ok nmX1 hown hk hW hS ho rfl 4 (by decide) (hts (.fieldLink RX1 25 "JugsAndGlasses$Jugs" "size" "[I") (by decide +kernel)) rfl rfl hin rfl (by decide +kernel) rfl rfl (by simp) dX1_init_28 (fun H locs hW hS => ?_)
  have ho2 : uh h o (.inr (1, ([.int (J 0), .int (J 1), .int (J 1), .int (J 1), .null, .null, .null] : List Value).set 4 (.ref q26))) o = some (.inr (1, [.int (J 0), .int (J 1), .int (J 1), .int (J 1), .ref q26, .null, .null])) := uh_same _ _ _
  have c_q26 := raw_set (e := .inr (1, ([.int (J 0), .int (J 1), .int (J 1), .int (J 1), .null, .null, .null] : List Value).set 4 (.ref q26))) c_q26 n_q26
  have hF := Fr.set (e := .inr (1, ([.int (J 0), .int (J 1), .int (J 1), .int (J 1), .null, .null, .null] : List Value).set 4 (.ref q26))) hF (Or.inl rfl)
  have hall := al_set (o := o) (e := .inr (1, ([.int (J 0), .int (J 1), .int (J 1), .int (J 1), .null, .null, .null] : List Value).set 4 (.ref q26))) hall
  generalize uh h o (.inr (1, ([.int (J 0), .int (J 1), .int (J 1), .int (J 1), .null, .null, .null] : List Value).set 4 (.ref q26))) = h at ho2 hF hall hW c_q26
  have ho := ho2
  refine lv_aload_n hx hb dX1_init_31 rfl (lv_at hl 0 rfl) ?_
  refine lv_iconst (v := J (4)) hx hb dX1_init_32 rfl ?_
  refine g_newi (n := 4) hx hb (hts (.arrayClass .int) (by decide +kernel)) hk hW hS (by decide) (by decide) (Nat.le_of_ble_eq_true rfl) (Nat.le_of_ble_eq_true rfl) dX1_init_33 (fun q33 H hq33 hW hS => ?_)
  have f_q33 : h0 q33 = none := hF.none hq33
  have n_q33 : q33 ≠ o := raw_ne ho hq33
  have hnd := nd_new hnd hall hq33
  have hall := al_new (q := q33) (e := ai g 4 (fun _ => 0)) hall
  have ho := raw_new (e := ai g 4 (fun _ => 0)) ho hq33
  have c_q26 := raw_new (e := ai g 4 (fun _ => 0)) c_q26 hq33
  have c_q33 : uh h q33 (ai g 4 (fun _ => 0)) q33 = some (ai g 4 (fun _ => 0)) := uh_same _ _ _
  have hF := Fr.new (e := ai g 4 (fun _ => 0)) hF hq33
  generalize uh h q33 (ai g 4 (fun _ => 0)) = h at ho hF hall hW c_q33 c_q26
  refine W.eq (g2 := F0 m 35 ls [.ref q33, .ref o]) rfl ?_
  refine g_putF (ci := 1) (C := RX1) (T := TX1) (N := 7) (ty := .array .int) (fs := [.int (J 0), .int (J 1), .int (J 1), .int (J 1), .ref q26, .null, .null]) hx hb hfX1 (fun _ h9 => h9) tyX1 tyX1_ok nmX1 hown hk hW hS ho rfl 5 (by decide) (hts (.fieldLink RX1 29 "JugsAndGlasses$Jugs" "held" "[I") (by decide +kernel)) rfl rfl hin rfl (by decide +kernel) rfl rfl (by simp) dX1_init_35 (fun H locs hW hS => ?_)
  have ho2 : uh h o (.inr (1, ([.int (J 0), .int (J 1), .int (J 1), .int (J 1), .ref q26, .null, .null] : List Value).set 5 (.ref q33))) o = some (.inr (1, [.int (J 0), .int (J 1), .int (J 1), .int (J 1), .ref q26, .ref q33, .null])) := uh_same _ _ _
  have c_q26 := raw_set (e := .inr (1, ([.int (J 0), .int (J 1), .int (J 1), .int (J 1), .ref q26, .null, .null] : List Value).set 5 (.ref q33))) c_q26 n_q26
  have c_q33 := raw_set (e := .inr (1, ([.int (J 0), .int (J 1), .int (J 1), .int (J 1), .ref q26, .null, .null] : List Value).set 5 (.ref q33))) c_q33 n_q33
  have hF := Fr.set (e := .inr (1, ([.int (J 0), .int (J 1), .int (J 1), .int (J 1), .ref q26, .null, .null] : List Value).set 5 (.ref q33))) hF (Or.inl rfl)
  have hall := al_set (o := o) (e := .inr (1, ([.int (J 0), .int (J 1), .int (J 1), .int (J 1), .ref q26, .null, .null] : List Value).set 5 (.ref q33))) hall
  generalize uh h o (.inr (1, ([.int (J 0), .int (J 1), .int (J 1), .int (J 1), .ref q26, .null, .null] : List Value).set 5 (.ref q33))) = h at ho2 hF hall hW c_q26 c_q33
  have ho := ho2
  refine lv_aload_n hx hb dX1_init_38 rfl (lv_at hl 0 rfl) ?_
  refine lv_iconst (v := J (4)) hx hb dX1_init_39 rfl ?_
  refine g_newi (n := 4) hx hb (hts (.arrayClass .int) (by decide +kernel)) hk hW hS (by decide) (by decide) (Nat.le_of_ble_eq_true rfl) (Nat.le_of_ble_eq_true rfl) dX1_init_40 (fun q40 H hq40 hW hS => ?_)
  have f_q40 : h0 q40 = none := hF.none hq40
  have n_q40 : q40 ≠ o := raw_ne ho hq40
  have hnd := nd_new hnd hall hq40
  have hall := al_new (q := q40) (e := ai g 4 (fun _ => 0)) hall
  have ho := raw_new (e := ai g 4 (fun _ => 0)) ho hq40
  have c_q26 := raw_new (e := ai g 4 (fun _ => 0)) c_q26 hq40
  have c_q33 := raw_new (e := ai g 4 (fun _ => 0)) c_q33 hq40
  have c_q40 : uh h q40 (ai g 4 (fun _ => 0)) q40 = some (ai g 4 (fun _ => 0)) := uh_same _ _ _
  have hF := Fr.new (e := ai g 4 (fun _ => 0)) hF hq40
  generalize uh h q40 (ai g 4 (fun _ => 0)) = h at ho hF hall hW c_q40 c_q26 c_q33
  refine W.eq (g2 := F0 m 42 ls [.ref q40, .ref o]) rfl ?_
  refine g_putF (ci := 1) (C := RX1) (T := TX1) (N := 7) (ty := .array .int) (fs := [.int (J 0), .int (J 1), .int (J 1), .int (J 1), .ref q26, .ref q33, .null]) hx hb hfX1 (fun _ h9 => h9) tyX1 tyX1_ok nmX1 hown hk hW hS ho rfl 6 (by decide) (hts (.fieldLink RX1 32 "JugsAndGlasses$Jugs" "weight" "[I") (by decide +kernel)) rfl rfl hin rfl (by decide +kernel) rfl rfl (by simp) dX1_init_42 (fun H locs hW hS => ?_)
  have ho2 : uh h o (.inr (1, ([.int (J 0), .int (J 1), .int (J 1), .int (J 1), .ref q26, .ref q33, .null] : List Value).set 6 (.ref q40))) o = some (.inr (1, [.int (J 0), .int (J 1), .int (J 1), .int (J 1), .ref q26, .ref q33, .ref q40])) := uh_same _ _ _
  have c_q26 := raw_set (e := .inr (1, ([.int (J 0), .int (J 1), .int (J 1), .int (J 1), .ref q26, .ref q33, .null] : List Value).set 6 (.ref q40))) c_q26 n_q26
  have c_q33 := raw_set (e := .inr (1, ([.int (J 0), .int (J 1), .int (J 1), .int (J 1), .ref q26, .ref q33, .null] : List Value).set 6 (.ref q40))) c_q33 n_q33
  have c_q40 := raw_set (e := .inr (1, ([.int (J 0), .int (J 1), .int (J 1), .int (J 1), .ref q26, .ref q33, .null] : List Value).set 6 (.ref q40))) c_q40 n_q40
  have hF := Fr.set (e := .inr (1, ([.int (J 0), .int (J 1), .int (J 1), .int (J 1), .ref q26, .ref q33, .null] : List Value).set 6 (.ref q40))) hF (Or.inl rfl)
  have hall := al_set (o := o) (e := .inr (1, ([.int (J 0), .int (J 1), .int (J 1), .int (J 1), .ref q26, .ref q33, .null] : List Value).set 6 (.ref q40))) hall
  generalize uh h o (.inr (1, ([.int (J 0), .int (J 1), .int (J 1), .int (J 1), .ref q26, .ref q33, .null] : List Value).set 6 (.ref q40))) = h at ho2 hF hall hW c_q26 c_q33 c_q40
  have ho := ho2
  refine W.widen (k := 3) (n := 12) (Nat.le_of_ble_eq_true rfl) (Nat.le_of_ble_eq_true rfl) ?_
  exact g_vret hx hb hr hW hS dX1_init_45 hlocks (⟨rfl, hF.weak, (fun k => ([q40, q33, q26] : List Nat).getD (ixX1 k) 0), ⟨ho, fun k hk ha => by
      match k, hk with
      | 0, _ => exact absurd ha (by unfold isA; decide)
      | 1, _ => exact absurd ha (by unfold isA; decide)
      | 2, _ => exact absurd ha (by unfold isA; decide)
      | 3, _ => exact absurd ha (by unfold isA; decide)
      | 4, _ => exact c_q26
      | 5, _ => exact c_q33
      | 6, _ => exact c_q40, fun i j hi hj hia hja e => by
      have h1 : ∀ i, i < 7 → isA kd1 i → ixX1 i < 3 := by unfold isA; decide
      have h2 : ∀ i, i < 7 → ∀ j, j < 7 → isA kd1 i → isA kd1 j → ixX1 i = ixX1 j → i = j := by unfold isA; decide
      exact h2 i hi j hj hia hja (nd_inj hnd (h1 i hi hia) (h1 j hj hja) e)⟩, fun k hk ha => by
      match k, hk with
      | 0, _ => exact absurd ha (by unfold isA; decide)
      | 1, _ => exact absurd ha (by unfold isA; decide)
      | 2, _ => exact absurd ha (by unfold isA; decide)
      | 3, _ => exact absurd ha (by unfold isA; decide)
      | 4, _ => exact f_q26
      | 5, _ => exact f_q33
      | 6, _ => exact f_q40⟩)

def ixX4 (k : Nat) : Nat := match k with | 0 => 2 | 1 => 1 | 2 => 0 | _ => 99

set_option maxHeartbeats 4000000 in
set_option maxRecDepth 100000 in
theorem i_tour (l : Launch) (g : GX) (base : Nat) (sa : Nat → Nat) (h0 : Hp) (o : Nat) (ho : h0 o = some (.inr (4, [.null, .null, .null, .int (J 0)]))) : MC l g base sa yX4_init wsX4_init ({ frames := 1, cells := 3, slots := 0, locals := 40 }) ([.ref o]) h0 (fun r h' => r = none ∧ Fr (fun q => q = o) h0 h' ∧ ∃ R, OB g 4 4 kd4 h' o R i0 i0 a0 ∧ ∀ k, k < 4 → isA kd4 k → h0 (R k) = none) := by
  refine Met.ofW (cc := cX4_init) (maxL := 1) (ret := none) (by decide) rfl ?_
  intro p e s m args below meth c s₁ B hml hv
  obtain ⟨rfl, hk, hW⟩ := hv
  have hx := B.exec
  have hb := B.bytes
  have hr := B.returns
  have hts := atoms_spec (ws := wsX4_init) B.pre
  have hown : s.vm.findClass RX4 = some m.cls := findClass_of_methodNamed B.named
  have hlocks := B.notSynchronized
  have hin : meth.name = "<init>" := (name_of_methodNamed B.named B.method).1
  have hfX4 : ∀ w ∈ wsX40, w.before ([.ref o]).toArray s = true := fun w h => hts w (List.mem_cons_of_mem _ (List.mem_append_right _ h))
  have hS : va_S (Ab base) s.heap s.heap [] := va_S.rf
  have hl := lv_entry ([.ref o]) (n := 1) (Nat.le_of_ble_eq_true rfl)
  rw [lg_entry_eq]
  generalize (lg_sl ([.ref o]) ++ List.replicate (1 - (lg_sl ([.ref o])).length) Slot.unset).toArray = ls at hl ⊢
  have hl : lv_has ls 1 [(0, .ref o)] := hl
  have hF : Fr (fun q => q = o ∨ h0 q = none) h0 h0 := Fr.rf
  have hnd : ([] : List Nat).Nodup := List.nodup_nil
  have hall : ∀ a ∈ ([] : List Nat), h0 a ≠ none := fun a w => absurd w (by simp)
  refine lv_aload_n hx hb dX4_init_0 rfl (lv_at hl 0 rfl) ?_
  refine W.objInit hx hb hown (hts (.methodLink RX4 3 objectInit) (by decide +kernel)) (hts (.instanceMethod objectInit) (by decide +kernel)) (hts (.code objectInit ⟨#[0xb1]⟩ 1 none) (by decide +kernel)) rfl (by rw [hml]; exact hl.1) rfl dX4_init_1 (Nat.le_of_ble_eq_true rfl) (Nat.le_of_ble_eq_true rfl) ?_
  refine lv_aload_n hx hb dX4_init_4 rfl (lv_at hl 0 rfl) ?_
  refine lv_iconst (v := J (0)) hx hb dX4_init_5 rfl ?_
  refine g_newi (n := 0) hx hb (hts (.arrayClass .int) (by decide +kernel)) hk hW hS (by decide) (by decide) (Nat.le_of_ble_eq_true rfl) (Nat.le_of_ble_eq_true rfl) dX4_init_6 (fun q6 H hq6 hW hS => ?_)
  have f_q6 : h0 q6 = none := hF.none hq6
  have n_q6 : q6 ≠ o := raw_ne ho hq6
  have hnd := nd_new hnd hall hq6
  have hall := al_new (q := q6) (e := ai g 0 (fun _ => 0)) hall
  have ho := raw_new (e := ai g 0 (fun _ => 0)) ho hq6
  have c_q6 : uh h0 q6 (ai g 0 (fun _ => 0)) q6 = some (ai g 0 (fun _ => 0)) := uh_same _ _ _
  have hF := Fr.new (e := ai g 0 (fun _ => 0)) hF hq6
  generalize uh h0 q6 (ai g 0 (fun _ => 0)) = h at ho hF hall hW c_q6 
  refine W.eq (g2 := F0 m 8 ls [.ref q6, .ref o]) rfl ?_
  refine g_put (ci := 4) (C := RX4) (T := TX4) (N := 4) (ty := .array .int) (fs := [.null, .null, .null, .int (J 0)]) hx hb hfX4 (fun _ h9 => h9) tyX4 tyX4_ok nmX4 hown hk hW hS ho rfl 0 (by decide) (hts (.fieldLink RX4 9 "JugsAndGlasses$Tour" "found" "[I") (by decide +kernel)) rfl rfl (by decide +kernel) rfl rfl (by simp) dX4_init_8 (fun H locs hW hS => ?_)
  have ho2 : uh h o (.inr (4, ([.null, .null, .null, .int (J 0)] : List Value).set 0 (.ref q6))) o = some (.inr (4, [.ref q6, .null, .null, .int (J 0)])) := uh_same _ _ _
  have c_q6 := raw_set (e := .inr (4, ([.null, .null, .null, .int (J 0)] : List Value).set 0 (.ref q6))) c_q6 n_q6
  have hF := Fr.set (e := .inr (4, ([.null, .null, .null, .int (J 0)] : List Value).set 0 (.ref q6))) hF (Or.inl rfl)
  have hall := al_set (o := o) (e := .inr (4, ([.null, .null, .null, .int (J 0)] : List Value).set 0 (.ref q6))) hall
  generalize uh h o (.inr (4, ([.null, .null, .null, .int (J 0)] : List Value).set 0 (.ref q6))) = h at ho2 hF hall hW c_q6
  have ho := ho2
  refine lv_aload_n hx hb dX4_init_11 rfl (lv_at hl 0 rfl) ?_
  refine lv_iconst (v := J (0)) hx hb dX4_init_12 rfl ?_
  refine g_newi (n := 0) hx hb (hts (.arrayClass .int) (by decide +kernel)) hk hW hS (by decide) (by decide) (Nat.le_of_ble_eq_true rfl) (Nat.le_of_ble_eq_true rfl) dX4_init_13 (fun q13 H hq13 hW hS => ?_)
  have f_q13 : h0 q13 = none := hF.none hq13
  have n_q13 : q13 ≠ o := raw_ne ho hq13
  have hnd := nd_new hnd hall hq13
  have hall := al_new (q := q13) (e := ai g 0 (fun _ => 0)) hall
  have ho := raw_new (e := ai g 0 (fun _ => 0)) ho hq13
  have c_q6 := raw_new (e := ai g 0 (fun _ => 0)) c_q6 hq13
  have c_q13 : uh h q13 (ai g 0 (fun _ => 0)) q13 = some (ai g 0 (fun _ => 0)) := uh_same _ _ _
  have hF := Fr.new (e := ai g 0 (fun _ => 0)) hF hq13
  generalize uh h q13 (ai g 0 (fun _ => 0)) = h at ho hF hall hW c_q13 c_q6
  refine W.eq (g2 := F0 m 15 ls [.ref q13, .ref o]) rfl ?_
  refine g_put (ci := 4) (C := RX4) (T := TX4) (N := 4) (ty := .array .int) (fs := [.ref q6, .null, .null, .int (J 0)]) hx hb hfX4 (fun _ h9 => h9) tyX4 tyX4_ok nmX4 hown hk hW hS ho rfl 1 (by decide) (hts (.fieldLink RX4 15 "JugsAndGlasses$Tour" "level" "[I") (by decide +kernel)) rfl rfl (by decide +kernel) rfl rfl (by simp) dX4_init_15 (fun H locs hW hS => ?_)
  have ho2 : uh h o (.inr (4, ([.ref q6, .null, .null, .int (J 0)] : List Value).set 1 (.ref q13))) o = some (.inr (4, [.ref q6, .ref q13, .null, .int (J 0)])) := uh_same _ _ _
  have c_q6 := raw_set (e := .inr (4, ([.ref q6, .null, .null, .int (J 0)] : List Value).set 1 (.ref q13))) c_q6 n_q6
  have c_q13 := raw_set (e := .inr (4, ([.ref q6, .null, .null, .int (J 0)] : List Value).set 1 (.ref q13))) c_q13 n_q13
  have hF := Fr.set (e := .inr (4, ([.ref q6, .null, .null, .int (J 0)] : List Value).set 1 (.ref q13))) hF (Or.inl rfl)
  have hall := al_set (o := o) (e := .inr (4, ([.ref q6, .null, .null, .int (J 0)] : List Value).set 1 (.ref q13))) hall
  generalize uh h o (.inr (4, ([.ref q6, .null, .null, .int (J 0)] : List Value).set 1 (.ref q13))) = h at ho2 hF hall hW c_q6 c_q13
  have ho := ho2
  refine lv_aload_n hx hb dX4_init_18 rfl (lv_at hl 0 rfl) ?_
  refine lv_iconst (v := J (0)) hx hb dX4_init_19 rfl ?_
  refine g_newi (n := 0) hx hb (hts (.arrayClass .int) (by decide +kernel)) hk hW hS (by decide) (by decide) (Nat.le_of_ble_eq_true rfl) (Nat.le_of_ble_eq_true rfl) dX4_init_20 (fun q20 H hq20 hW hS => ?_)
  have f_q20 : h0 q20 = none := hF.none hq20
  have n_q20 : q20 ≠ o := raw_ne ho hq20
  have hnd := nd_new hnd hall hq20
  have hall := al_new (q := q20) (e := ai g 0 (fun _ => 0)) hall
  have ho := raw_new (e := ai g 0 (fun _ => 0)) ho hq20
  have c_q6 := raw_new (e := ai g 0 (fun _ => 0)) c_q6 hq20
  have c_q13 := raw_new (e := ai g 0 (fun _ => 0)) c_q13 hq20
  have c_q20 : uh h q20 (ai g 0 (fun _ => 0)) q20 = some (ai g 0 (fun _ => 0)) := uh_same _ _ _
  have hF := Fr.new (e := ai g 0 (fun _ => 0)) hF hq20
  generalize uh h q20 (ai g 0 (fun _ => 0)) = h at ho hF hall hW c_q20 c_q6 c_q13
  refine W.eq (g2 := F0 m 22 ls [.ref q20, .ref o]) rfl ?_
  refine g_put (ci := 4) (C := RX4) (T := TX4) (N := 4) (ty := .array .int) (fs := [.ref q6, .ref q13, .null, .int (J 0)]) hx hb hfX4 (fun _ h9 => h9) tyX4 tyX4_ok nmX4 hown hk hW hS ho rfl 2 (by decide) (hts (.fieldLink RX4 18 "JugsAndGlasses$Tour" "cause" "[I") (by decide +kernel)) rfl rfl (by decide +kernel) rfl rfl (by simp) dX4_init_22 (fun H locs hW hS => ?_)
  have ho2 : uh h o (.inr (4, ([.ref q6, .ref q13, .null, .int (J 0)] : List Value).set 2 (.ref q20))) o = some (.inr (4, [.ref q6, .ref q13, .ref q20, .int (J 0)])) := uh_same _ _ _
  have c_q6 := raw_set (e := .inr (4, ([.ref q6, .ref q13, .null, .int (J 0)] : List Value).set 2 (.ref q20))) c_q6 n_q6
  have c_q13 := raw_set (e := .inr (4, ([.ref q6, .ref q13, .null, .int (J 0)] : List Value).set 2 (.ref q20))) c_q13 n_q13
  have c_q20 := raw_set (e := .inr (4, ([.ref q6, .ref q13, .null, .int (J 0)] : List Value).set 2 (.ref q20))) c_q20 n_q20
  have hF := Fr.set (e := .inr (4, ([.ref q6, .ref q13, .null, .int (J 0)] : List Value).set 2 (.ref q20))) hF (Or.inl rfl)
  have hall := al_set (o := o) (e := .inr (4, ([.ref q6, .ref q13, .null, .int (J 0)] : List Value).set 2 (.ref q20))) hall
  generalize uh h o (.inr (4, ([.ref q6, .ref q13, .null, .int (J 0)] : List Value).set 2 (.ref q20))) = h at ho2 hF hall hW c_q6 c_q13 c_q20
  have ho := ho2
  refine lv_aload_n hx hb dX4_init_25 rfl (lv_at hl 0 rfl) ?_
  refine lv_iconst (v := J (0)) hx hb dX4_init_26 rfl ?_
  refine g_put (ci := 4) (C := RX4) (T := TX4) (N := 4) (ty := .int) (fs := [.ref q6, .ref q13, .ref q20, .int (J 0)]) hx hb hfX4 (fun _ h9 => h9) tyX4 tyX4_ok nmX4 hown hk hW hS ho rfl 3 (by decide) (hts (.fieldLink RX4 21 "JugsAndGlasses$Tour" "reached" "I") (by decide +kernel)) rfl rfl (by decide +kernel) rfl rfl (by simp) dX4_init_27 (fun H locs hW hS => ?_)
  have ho2 : uh h o (.inr (4, ([.ref q6, .ref q13, .ref q20, .int (J 0)] : List Value).set 3 (.int (J 0)))) o = some (.inr (4, [.ref q6, .ref q13, .ref q20, .int (J 0)])) := uh_same _ _ _
  have c_q6 := raw_set (e := .inr (4, ([.ref q6, .ref q13, .ref q20, .int (J 0)] : List Value).set 3 (.int (J 0)))) c_q6 n_q6
  have c_q13 := raw_set (e := .inr (4, ([.ref q6, .ref q13, .ref q20, .int (J 0)] : List Value).set 3 (.int (J 0)))) c_q13 n_q13
  have c_q20 := raw_set (e := .inr (4, ([.ref q6, .ref q13, .ref q20, .int (J 0)] : List Value).set 3 (.int (J 0)))) c_q20 n_q20
  have hF := Fr.set (e := .inr (4, ([.ref q6, .ref q13, .ref q20, .int (J 0)] : List Value).set 3 (.int (J 0)))) hF (Or.inl rfl)
  have hall := al_set (o := o) (e := .inr (4, ([.ref q6, .ref q13, .ref q20, .int (J 0)] : List Value).set 3 (.int (J 0)))) hall
  generalize uh h o (.inr (4, ([.ref q6, .ref q13, .ref q20, .int (J 0)] : List Value).set 3 (.int (J 0)))) = h at ho2 hF hall hW c_q6 c_q13 c_q20
  have ho := ho2
  refine W.widen (k := 3) (n := 0) (Nat.le_of_ble_eq_true rfl) (Nat.le_of_ble_eq_true rfl) ?_
  exact g_vret hx hb hr hW hS dX4_init_30 hlocks (⟨rfl, hF.weak, (fun k => ([q20, q13, q6] : List Nat).getD (ixX4 k) 0), ⟨ho, fun k hk ha => by
      match k, hk with
      | 0, _ => exact c_q6
      | 1, _ => exact c_q13
      | 2, _ => exact c_q20
      | 3, _ => exact absurd ha (by unfold isA; decide), fun i j hi hj hia hja e => by
      have h1 : ∀ i, i < 4 → isA kd4 i → ixX4 i < 3 := by unfold isA; decide
      have h2 : ∀ i, i < 4 → ∀ j, j < 4 → isA kd4 i → isA kd4 j → ixX4 i = ixX4 j → i = j := by unfold isA; decide
      exact h2 i hi j hj hia hja (nd_inj hnd (h1 i hi hia) (h1 j hj hja) e)⟩, fun k hk ha => by
      match k, hk with
      | 0, _ => exact f_q6
      | 1, _ => exact f_q13
      | 2, _ => exact f_q20
      | 3, _ => exact absurd ha (by unfold isA; decide)⟩)

def ixX3 (k : Nat) : Nat := match k with | 0 => 1 | 1 => 0 | _ => 99

set_option maxHeartbeats 4000000 in
set_option maxRecDepth 100000 in
theorem i_spilling (l : Launch) (g : GX) (base : Nat) (sa : Nat → Nat) (h0 : Hp) (o : Nat) (ho : h0 o = some (.inr (3, [.null, .null]))) : MC l g base sa yX3_init wsX3_init ({ frames := 1, cells := 2, slots := 0, locals := 40 }) ([.ref o]) h0 (fun r h' => r = none ∧ Fr (fun q => q = o) h0 h' ∧ ∃ R, OB g 3 2 kd3 h' o R i0 i0 a0 ∧ ∀ k, k < 2 → isA kd3 k → h0 (R k) = none) := by
  refine Met.ofW (cc := cX3_init) (maxL := 1) (ret := none) (by decide) rfl ?_
  intro p e s m args below meth c s₁ B hml hv
  obtain ⟨rfl, hk, hW⟩ := hv
  have hx := B.exec
  have hb := B.bytes
  have hr := B.returns
  have hts := atoms_spec (ws := wsX3_init) B.pre
  have hown : s.vm.findClass RX3 = some m.cls := findClass_of_methodNamed B.named
  have hlocks := B.notSynchronized
  have hin : meth.name = "<init>" := (name_of_methodNamed B.named B.method).1
  have hfX3 : ∀ w ∈ wsX30, w.before ([.ref o]).toArray s = true := fun w h => hts w (List.mem_cons_of_mem _ (List.mem_append_right _ h))
  have hS : va_S (Ab base) s.heap s.heap [] := va_S.rf
  have hl := lv_entry ([.ref o]) (n := 1) (Nat.le_of_ble_eq_true rfl)
  rw [lg_entry_eq]
  generalize (lg_sl ([.ref o]) ++ List.replicate (1 - (lg_sl ([.ref o])).length) Slot.unset).toArray = ls at hl ⊢
  have hl : lv_has ls 1 [(0, .ref o)] := hl
  have hF : Fr (fun q => q = o ∨ h0 q = none) h0 h0 := Fr.rf
  have hnd : ([] : List Nat).Nodup := List.nodup_nil
  have hall : ∀ a ∈ ([] : List Nat), h0 a ≠ none := fun a w => absurd w (by simp)
  refine lv_aload_n hx hb dX3_init_0 rfl (lv_at hl 0 rfl) ?_
  refine W.objInit hx hb hown (hts (.methodLink RX3 3 objectInit) (by decide +kernel)) (hts (.instanceMethod objectInit) (by decide +kernel)) (hts (.code objectInit ⟨#[0xb1]⟩ 1 none) (by decide +kernel)) rfl (by rw [hml]; exact hl.1) rfl dX3_init_1 (Nat.le_of_ble_eq_true rfl) (Nat.le_of_ble_eq_true rfl) ?_
  refine lv_aload_n hx hb dX3_init_4 rfl (lv_at hl 0 rfl) ?_
  refine lv_iconst (v := J (0)) hx hb dX3_init_5 rfl ?_
  refine g_newi (n := 0) hx hb (hts (.arrayClass .int) (by decide +kernel)) hk hW hS (by decide) (by decide) (Nat.le_of_ble_eq_true rfl) (Nat.le_of_ble_eq_true rfl) dX3_init_6 (fun q6 H hq6 hW hS => ?_)
  have f_q6 : h0 q6 = none := hF.none hq6
  have n_q6 : q6 ≠ o := raw_ne ho hq6
  have hnd := nd_new hnd hall hq6
  have hall := al_new (q := q6) (e := ai g 0 (fun _ => 0)) hall
  have ho := raw_new (e := ai g 0 (fun _ => 0)) ho hq6
  have c_q6 : uh h0 q6 (ai g 0 (fun _ => 0)) q6 = some (ai g 0 (fun _ => 0)) := uh_same _ _ _
  have hF := Fr.new (e := ai g 0 (fun _ => 0)) hF hq6
  generalize uh h0 q6 (ai g 0 (fun _ => 0)) = h at ho hF hall hW c_q6 
  refine W.eq (g2 := F0 m 8 ls [.ref q6, .ref o]) rfl ?_
  refine g_put (ci := 3) (C := RX3) (T := TX3) (N := 2) (ty := .array .int) (fs := [.null, .null]) hx hb hfX3 (fun _ h9 => h9) tyX3 tyX3_ok nmX3 hown hk hW hS ho rfl 0 (by decide) (hts (.fieldLink RX3 9 "JugsAndGlasses$Spilling" "least" "[I") (by decide +kernel)) rfl rfl (by decide +kernel) rfl rfl (by simp) dX3_init_8 (fun H locs hW hS => ?_)
  have ho2 : uh h o (.inr (3, ([.null, .null] : List Value).set 0 (.ref q6))) o = some (.inr (3, [.ref q6, .null])) := uh_same _ _ _
  have c_q6 := raw_set (e := .inr (3, ([.null, .null] : List Value).set 0 (.ref q6))) c_q6 n_q6
  have hF := Fr.set (e := .inr (3, ([.null, .null] : List Value).set 0 (.ref q6))) hF (Or.inl rfl)
  have hall := al_set (o := o) (e := .inr (3, ([.null, .null] : List Value).set 0 (.ref q6))) hall
  generalize uh h o (.inr (3, ([.null, .null] : List Value).set 0 (.ref q6))) = h at ho2 hF hall hW c_q6
  have ho := ho2
  refine lv_aload_n hx hb dX3_init_11 rfl (lv_at hl 0 rfl) ?_
  refine lv_iconst (v := J (0)) hx hb dX3_init_12 rfl ?_
  refine g_newi (n := 0) hx hb (hts (.arrayClass .int) (by decide +kernel)) hk hW hS (by decide) (by decide) (Nat.le_of_ble_eq_true rfl) (Nat.le_of_ble_eq_true rfl) dX3_init_13 (fun q13 H hq13 hW hS => ?_)
  have f_q13 : h0 q13 = none := hF.none hq13
  have n_q13 : q13 ≠ o := raw_ne ho hq13
  have hnd := nd_new hnd hall hq13
  have hall := al_new (q := q13) (e := ai g 0 (fun _ => 0)) hall
  have ho := raw_new (e := ai g 0 (fun _ => 0)) ho hq13
  have c_q6 := raw_new (e := ai g 0 (fun _ => 0)) c_q6 hq13
  have c_q13 : uh h q13 (ai g 0 (fun _ => 0)) q13 = some (ai g 0 (fun _ => 0)) := uh_same _ _ _
  have hF := Fr.new (e := ai g 0 (fun _ => 0)) hF hq13
  generalize uh h q13 (ai g 0 (fun _ => 0)) = h at ho hF hall hW c_q13 c_q6
  refine W.eq (g2 := F0 m 15 ls [.ref q13, .ref o]) rfl ?_
  refine g_put (ci := 3) (C := RX3) (T := TX3) (N := 2) (ty := .array .int) (fs := [.ref q6, .null]) hx hb hfX3 (fun _ h9 => h9) tyX3 tyX3_ok nmX3 hown hk hW hS ho rfl 1 (by decide) (hts (.fieldLink RX3 15 "JugsAndGlasses$Spilling" "work" "[I") (by decide +kernel)) rfl rfl (by decide +kernel) rfl rfl (by simp) dX3_init_15 (fun H locs hW hS => ?_)
  have ho2 : uh h o (.inr (3, ([.ref q6, .null] : List Value).set 1 (.ref q13))) o = some (.inr (3, [.ref q6, .ref q13])) := uh_same _ _ _
  have c_q6 := raw_set (e := .inr (3, ([.ref q6, .null] : List Value).set 1 (.ref q13))) c_q6 n_q6
  have c_q13 := raw_set (e := .inr (3, ([.ref q6, .null] : List Value).set 1 (.ref q13))) c_q13 n_q13
  have hF := Fr.set (e := .inr (3, ([.ref q6, .null] : List Value).set 1 (.ref q13))) hF (Or.inl rfl)
  have hall := al_set (o := o) (e := .inr (3, ([.ref q6, .null] : List Value).set 1 (.ref q13))) hall
  generalize uh h o (.inr (3, ([.ref q6, .null] : List Value).set 1 (.ref q13))) = h at ho2 hF hall hW c_q6 c_q13
  have ho := ho2
  refine W.widen (k := 2) (n := 0) (Nat.le_of_ble_eq_true rfl) (Nat.le_of_ble_eq_true rfl) ?_
  exact g_vret hx hb hr hW hS dX3_init_18 hlocks (⟨rfl, hF.weak, (fun k => ([q13, q6] : List Nat).getD (ixX3 k) 0), ⟨ho, fun k hk ha => by
      match k, hk with
      | 0, _ => exact c_q6
      | 1, _ => exact c_q13, fun i j hi hj hia hja e => by
      have h1 : ∀ i, i < 2 → isA kd3 i → ixX3 i < 2 := by unfold isA; decide
      have h2 : ∀ i, i < 2 → ∀ j, j < 2 → isA kd3 i → isA kd3 j → ixX3 i = ixX3 j → i = j := by unfold isA; decide
      exact h2 i hi j hj hia hja (nd_inj hnd (h1 i hi hia) (h1 j hj hja) e)⟩, fun k hk ha => by
      match k, hk with
      | 0, _ => exact f_q6
      | 1, _ => exact f_q13⟩)

def ixX6 (k : Nat) : Nat := match k with | 1 => 14 | 2 => 13 | 6 => 12 | 8 => 11 | 9 => 10 | 14 => 9 | 15 => 8 | 16 => 7 | 18 => 6 | 19 => 5 | 20 => 4 | 23 => 3 | 24 => 2 | 25 => 1 | 26 => 0 | _ => 99

set_option maxRecDepth 20000 in

set_option maxHeartbeats 4000000 in
set_option maxRecDepth 100000 in
theorem i_model (l : Launch) (g : GX) (base : Nat) (sa : Nat → Nat) (h0 : Hp) (o : Nat) (ho : h0 o = some (.inr (6, [.int (J 0), .null, .null, .int (J 0), .int (J 0), .int (J 0), .null, .int (J 0), .null, .null, .int (J 0), .int (J 0), .int (J 0), .int (J 0), .null, .null, .null, .int (J 0), .null, .null, .null, .int (J 0), .int (J 0), .null, .null, .null, .null, .int (J 0)]))) : MC l g base sa yX6_init wsX6_init ({ frames := 1, cells := 15, slots := 1020597, locals := 40 }) ([.ref o]) h0 (fun r h' => r = none ∧ Fr (fun q => q = o) h0 h' ∧ ∃ R, OB g 6 28 kd6 h' o R (va_up (va_up i0 3 1) 4 1) mL a0 ∧ ∀ k, k < 28 → isA kd6 k → h0 (R k) = none) := by
  refine Met.ofW (cc := cX6_init) (maxL := 1) (ret := none) (by decide) rfl ?_
  intro p e s m args below meth c s₁ B hml hv
  obtain ⟨rfl, hk, hW⟩ := hv
  have hx := B.exec
  have hb := B.bytes
  have hr := B.returns
  have hts := atoms_spec (ws := wsX6_init) B.pre
  have hown : s.vm.findClass RX6 = some m.cls := findClass_of_methodNamed B.named
  have hlocks := B.notSynchronized
  have hin : meth.name = "<init>" := (name_of_methodNamed B.named B.method).1
  have hfX6 : ∀ w ∈ wsX60, w.before ([.ref o]).toArray s = true := fun w h => hts w (List.mem_cons_of_mem _ (List.mem_append_right _ h))
  have hS : va_S (Ab base) s.heap s.heap [] := va_S.rf
  have hl := lv_entry ([.ref o]) (n := 1) (Nat.le_of_ble_eq_true rfl)
  rw [lg_entry_eq]
  generalize (lg_sl ([.ref o]) ++ List.replicate (1 - (lg_sl ([.ref o])).length) Slot.unset).toArray = ls at hl ⊢
  have hl : lv_has ls 1 [(0, .ref o)] := hl
  have hF : Fr (fun q => q = o ∨ h0 q = none) h0 h0 := Fr.rf
  have hnd : ([] : List Nat).Nodup := List.nodup_nil
  have hall : ∀ a ∈ ([] : List Nat), h0 a ≠ none := fun a w => absurd w (by simp)
  refine lv_aload_n hx hb dX6_init_0 rfl (lv_at hl 0 rfl) ?_
  refine W.objInit hx hb hown (hts (.methodLink RX6 1 objectInit) (by decide +kernel)) (hts (.instanceMethod objectInit) (by decide +kernel)) (hts (.code objectInit ⟨#[0xb1]⟩ 1 none) (by decide +kernel)) rfl (by rw [hml]; exact hl.1) rfl dX6_init_1 (Nat.le_of_ble_eq_true rfl) (Nat.le_of_ble_eq_true rfl) ?_
  refine lv_aload_n hx hb dX6_init_4 rfl (lv_at hl 0 rfl) ?_
  refine lv_iconst (v := J (4)) hx hb dX6_init_5 rfl ?_
  refine g_newi (n := 4) hx hb (hts (.arrayClass .int) (by decide +kernel)) hk hW hS (by decide) (by decide) (Nat.le_of_ble_eq_true rfl) (Nat.le_of_ble_eq_true rfl) dX6_init_6 (fun q6 H hq6 hW hS => ?_)
  have f_q6 : h0 q6 = none := hF.none hq6
  have n_q6 : q6 ≠ o := raw_ne ho hq6
  have hnd := nd_new hnd hall hq6
  have hall := al_new (q := q6) (e := ai g 4 (fun _ => 0)) hall
  have ho := raw_new (e := ai g 4 (fun _ => 0)) ho hq6
  have c_q6 : uh h0 q6 (ai g 4 (fun _ => 0)) q6 = some (ai g 4 (fun _ => 0)) := uh_same _ _ _
  have hF := Fr.new (e := ai g 4 (fun _ => 0)) hF hq6
  generalize uh h0 q6 (ai g 4 (fun _ => 0)) = h at ho hF hall hW c_q6 
  refine W.eq (g2 := F0 m 8 ls [.ref q6, .ref o]) rfl ?_
  refine g_putF (ci := 6) (C := RX6) (T := TX6) (N := 28) (ty := .array .int) (fs := [.int (J 0), .null, .null, .int (J 0), .int (J 0), .int (J 0), .null, .int (J 0), .null, .null, .int (J 0), .int (J 0), .int (J 0), .int (J 0), .null, .null, .null, .int (J 0), .null, .null, .null, .int (J 0), .int (J 0), .null, .null, .null, .null, .int (J 0)]) hx hb hfX6 (fun _ h9 => h9) tyX6 tyX6_ok nmX6 hown hk hW hS ho rfl 1 (by decide) (hts (.fieldLink RX6 7 "JugsAndGlassesModel" "size" "[I") (by decide +kernel)) rfl rfl hin rfl (by decide +kernel) rfl rfl (by simp) dX6_init_8 (fun H locs hW hS => ?_)
  have ho2 : uh h o (.inr (6, ([.int (J 0), .null, .null, .int (J 0), .int (J 0), .int (J 0), .null, .int (J 0), .null, .null, .int (J 0), .int (J 0), .int (J 0), .int (J 0), .null, .null, .null, .int (J 0), .null, .null, .null, .int (J 0), .int (J 0), .null, .null, .null, .null, .int (J 0)] : List Value).set 1 (.ref q6))) o = some (.inr (6, [.int (J 0), .ref q6, .null, .int (J 0), .int (J 0), .int (J 0), .null, .int (J 0), .null, .null, .int (J 0), .int (J 0), .int (J 0), .int (J 0), .null, .null, .null, .int (J 0), .null, .null, .null, .int (J 0), .int (J 0), .null, .null, .null, .null, .int (J 0)])) := uh_same _ _ _
  have c_q6 := raw_set (e := .inr (6, ([.int (J 0), .null, .null, .int (J 0), .int (J 0), .int (J 0), .null, .int (J 0), .null, .null, .int (J 0), .int (J 0), .int (J 0), .int (J 0), .null, .null, .null, .int (J 0), .null, .null, .null, .int (J 0), .int (J 0), .null, .null, .null, .null, .int (J 0)] : List Value).set 1 (.ref q6))) c_q6 n_q6
  have hF := Fr.set (e := .inr (6, ([.int (J 0), .null, .null, .int (J 0), .int (J 0), .int (J 0), .null, .int (J 0), .null, .null, .int (J 0), .int (J 0), .int (J 0), .int (J 0), .null, .null, .null, .int (J 0), .null, .null, .null, .int (J 0), .int (J 0), .null, .null, .null, .null, .int (J 0)] : List Value).set 1 (.ref q6))) hF (Or.inl rfl)
  have hall := al_set (o := o) (e := .inr (6, ([.int (J 0), .null, .null, .int (J 0), .int (J 0), .int (J 0), .null, .int (J 0), .null, .null, .int (J 0), .int (J 0), .int (J 0), .int (J 0), .null, .null, .null, .int (J 0), .null, .null, .null, .int (J 0), .int (J 0), .null, .null, .null, .null, .int (J 0)] : List Value).set 1 (.ref q6))) hall
  generalize uh h o (.inr (6, ([.int (J 0), .null, .null, .int (J 0), .int (J 0), .int (J 0), .null, .int (J 0), .null, .null, .int (J 0), .int (J 0), .int (J 0), .int (J 0), .null, .null, .null, .int (J 0), .null, .null, .null, .int (J 0), .int (J 0), .null, .null, .null, .null, .int (J 0)] : List Value).set 1 (.ref q6))) = h at ho2 hF hall hW c_q6
  have ho := ho2
  refine lv_aload_n hx hb dX6_init_11 rfl (lv_at hl 0 rfl) ?_
  refine lv_iconst (v := J (4)) hx hb dX6_init_12 rfl ?_
  refine g_newi (n := 4) hx hb (hts (.arrayClass .int) (by decide +kernel)) hk hW hS (by decide) (by decide) (Nat.le_of_ble_eq_true rfl) (Nat.le_of_ble_eq_true rfl) dX6_init_13 (fun q13 H hq13 hW hS => ?_)
  have f_q13 : h0 q13 = none := hF.none hq13
  have n_q13 : q13 ≠ o := raw_ne ho hq13
  have hnd := nd_new hnd hall hq13
  have hall := al_new (q := q13) (e := ai g 4 (fun _ => 0)) hall
  have ho := raw_new (e := ai g 4 (fun _ => 0)) ho hq13
  have c_q6 := raw_new (e := ai g 4 (fun _ => 0)) c_q6 hq13
  have c_q13 : uh h q13 (ai g 4 (fun _ => 0)) q13 = some (ai g 4 (fun _ => 0)) := uh_same _ _ _
  have hF := Fr.new (e := ai g 4 (fun _ => 0)) hF hq13
  generalize uh h q13 (ai g 4 (fun _ => 0)) = h at ho hF hall hW c_q13 c_q6
  refine W.eq (g2 := F0 m 15 ls [.ref q13, .ref o]) rfl ?_
  refine g_putF (ci := 6) (C := RX6) (T := TX6) (N := 28) (ty := .array .int) (fs := [.int (J 0), .ref q6, .null, .int (J 0), .int (J 0), .int (J 0), .null, .int (J 0), .null, .null, .int (J 0), .int (J 0), .int (J 0), .int (J 0), .null, .null, .null, .int (J 0), .null, .null, .null, .int (J 0), .int (J 0), .null, .null, .null, .null, .int (J 0)]) hx hb hfX6 (fun _ h9 => h9) tyX6 tyX6_ok nmX6 hown hk hW hS ho rfl 2 (by decide) (hts (.fieldLink RX6 13 "JugsAndGlassesModel" "held" "[I") (by decide +kernel)) rfl rfl hin rfl (by decide +kernel) rfl rfl (by simp) dX6_init_15 (fun H locs hW hS => ?_)
  have ho2 : uh h o (.inr (6, ([.int (J 0), .ref q6, .null, .int (J 0), .int (J 0), .int (J 0), .null, .int (J 0), .null, .null, .int (J 0), .int (J 0), .int (J 0), .int (J 0), .null, .null, .null, .int (J 0), .null, .null, .null, .int (J 0), .int (J 0), .null, .null, .null, .null, .int (J 0)] : List Value).set 2 (.ref q13))) o = some (.inr (6, [.int (J 0), .ref q6, .ref q13, .int (J 0), .int (J 0), .int (J 0), .null, .int (J 0), .null, .null, .int (J 0), .int (J 0), .int (J 0), .int (J 0), .null, .null, .null, .int (J 0), .null, .null, .null, .int (J 0), .int (J 0), .null, .null, .null, .null, .int (J 0)])) := uh_same _ _ _
  have c_q6 := raw_set (e := .inr (6, ([.int (J 0), .ref q6, .null, .int (J 0), .int (J 0), .int (J 0), .null, .int (J 0), .null, .null, .int (J 0), .int (J 0), .int (J 0), .int (J 0), .null, .null, .null, .int (J 0), .null, .null, .null, .int (J 0), .int (J 0), .null, .null, .null, .null, .int (J 0)] : List Value).set 2 (.ref q13))) c_q6 n_q6
  have c_q13 := raw_set (e := .inr (6, ([.int (J 0), .ref q6, .null, .int (J 0), .int (J 0), .int (J 0), .null, .int (J 0), .null, .null, .int (J 0), .int (J 0), .int (J 0), .int (J 0), .null, .null, .null, .int (J 0), .null, .null, .null, .int (J 0), .int (J 0), .null, .null, .null, .null, .int (J 0)] : List Value).set 2 (.ref q13))) c_q13 n_q13
  have hF := Fr.set (e := .inr (6, ([.int (J 0), .ref q6, .null, .int (J 0), .int (J 0), .int (J 0), .null, .int (J 0), .null, .null, .int (J 0), .int (J 0), .int (J 0), .int (J 0), .null, .null, .null, .int (J 0), .null, .null, .null, .int (J 0), .int (J 0), .null, .null, .null, .null, .int (J 0)] : List Value).set 2 (.ref q13))) hF (Or.inl rfl)
  have hall := al_set (o := o) (e := .inr (6, ([.int (J 0), .ref q6, .null, .int (J 0), .int (J 0), .int (J 0), .null, .int (J 0), .null, .null, .int (J 0), .int (J 0), .int (J 0), .int (J 0), .null, .null, .null, .int (J 0), .null, .null, .null, .int (J 0), .int (J 0), .null, .null, .null, .null, .int (J 0)] : List Value).set 2 (.ref q13))) hall
  generalize uh h o (.inr (6, ([.int (J 0), .ref q6, .null, .int (J 0), .int (J 0), .int (J 0), .null, .int (J 0), .null, .null, .int (J 0), .int (J 0), .int (J 0), .int (J 0), .null, .null, .null, .int (J 0), .null, .null, .null, .int (J 0), .int (J 0), .null, .null, .null, .null, .int (J 0)] : List Value).set 2 (.ref q13))) = h at ho2 hF hall hW c_q6 c_q13
  have ho := ho2
  refine lv_aload_n hx hb dX6_init_18 rfl (lv_at hl 0 rfl) ?_
  refine lv_iconst (v := J (1)) hx hb dX6_init_19 rfl ?_
  refine g_put (ci := 6) (C := RX6) (T := TX6) (N := 28) (ty := .boolean) (fs := [.int (J 0), .ref q6, .ref q13, .int (J 0), .int (J 0), .int (J 0), .null, .int (J 0), .null, .null, .int (J 0), .int (J 0), .int (J 0), .int (J 0), .null, .null, .null, .int (J 0), .null, .null, .null, .int (J 0), .int (J 0), .null, .null, .null, .null, .int (J 0)]) hx hb hfX6 (fun _ h9 => h9) tyX6 tyX6_ok nmX6 hown hk hW hS ho rfl 3 (by decide) (hts (.fieldLink RX6 16 "JugsAndGlassesModel" "hasTap" "Z") (by decide +kernel)) rfl rfl (by decide +kernel) (nb_n (by first | exact Or.inl rfl | exact Or.inr rfl)) (nb_f (by first | exact Or.inl rfl | exact Or.inr rfl)) (by simp) dX6_init_20 (fun H locs hW hS => ?_)
  have ho2 : uh h o (.inr (6, ([.int (J 0), .ref q6, .ref q13, .int (J 0), .int (J 0), .int (J 0), .null, .int (J 0), .null, .null, .int (J 0), .int (J 0), .int (J 0), .int (J 0), .null, .null, .null, .int (J 0), .null, .null, .null, .int (J 0), .int (J 0), .null, .null, .null, .null, .int (J 0)] : List Value).set 3 (.int (J 1)))) o = some (.inr (6, [.int (J 0), .ref q6, .ref q13, .int (J 1), .int (J 0), .int (J 0), .null, .int (J 0), .null, .null, .int (J 0), .int (J 0), .int (J 0), .int (J 0), .null, .null, .null, .int (J 0), .null, .null, .null, .int (J 0), .int (J 0), .null, .null, .null, .null, .int (J 0)])) := uh_same _ _ _
  have c_q6 := raw_set (e := .inr (6, ([.int (J 0), .ref q6, .ref q13, .int (J 0), .int (J 0), .int (J 0), .null, .int (J 0), .null, .null, .int (J 0), .int (J 0), .int (J 0), .int (J 0), .null, .null, .null, .int (J 0), .null, .null, .null, .int (J 0), .int (J 0), .null, .null, .null, .null, .int (J 0)] : List Value).set 3 (.int (J 1)))) c_q6 n_q6
  have c_q13 := raw_set (e := .inr (6, ([.int (J 0), .ref q6, .ref q13, .int (J 0), .int (J 0), .int (J 0), .null, .int (J 0), .null, .null, .int (J 0), .int (J 0), .int (J 0), .int (J 0), .null, .null, .null, .int (J 0), .null, .null, .null, .int (J 0), .int (J 0), .null, .null, .null, .null, .int (J 0)] : List Value).set 3 (.int (J 1)))) c_q13 n_q13
  have hF := Fr.set (e := .inr (6, ([.int (J 0), .ref q6, .ref q13, .int (J 0), .int (J 0), .int (J 0), .null, .int (J 0), .null, .null, .int (J 0), .int (J 0), .int (J 0), .int (J 0), .null, .null, .null, .int (J 0), .null, .null, .null, .int (J 0), .int (J 0), .null, .null, .null, .null, .int (J 0)] : List Value).set 3 (.int (J 1)))) hF (Or.inl rfl)
  have hall := al_set (o := o) (e := .inr (6, ([.int (J 0), .ref q6, .ref q13, .int (J 0), .int (J 0), .int (J 0), .null, .int (J 0), .null, .null, .int (J 0), .int (J 0), .int (J 0), .int (J 0), .null, .null, .null, .int (J 0), .null, .null, .null, .int (J 0), .int (J 0), .null, .null, .null, .null, .int (J 0)] : List Value).set 3 (.int (J 1)))) hall
  generalize uh h o (.inr (6, ([.int (J 0), .ref q6, .ref q13, .int (J 0), .int (J 0), .int (J 0), .null, .int (J 0), .null, .null, .int (J 0), .int (J 0), .int (J 0), .int (J 0), .null, .null, .null, .int (J 0), .null, .null, .null, .int (J 0), .int (J 0), .null, .null, .null, .null, .int (J 0)] : List Value).set 3 (.int (J 1)))) = h at ho2 hF hall hW c_q6 c_q13
  have ho := ho2
  refine lv_aload_n hx hb dX6_init_23 rfl (lv_at hl 0 rfl) ?_
  refine lv_iconst (v := J (1)) hx hb dX6_init_24 rfl ?_
  refine g_put (ci := 6) (C := RX6) (T := TX6) (N := 28) (ty := .boolean) (fs := [.int (J 0), .ref q6, .ref q13, .int (J 1), .int (J 0), .int (J 0), .null, .int (J 0), .null, .null, .int (J 0), .int (J 0), .int (J 0), .int (J 0), .null, .null, .null, .int (J 0), .null, .null, .null, .int (J 0), .int (J 0), .null, .null, .null, .null, .int (J 0)]) hx hb hfX6 (fun _ h9 => h9) tyX6 tyX6_ok nmX6 hown hk hW hS ho rfl 4 (by decide) (hts (.fieldLink RX6 20 "JugsAndGlassesModel" "hasDrain" "Z") (by decide +kernel)) rfl rfl (by decide +kernel) (nb_n (by first | exact Or.inl rfl | exact Or.inr rfl)) (nb_f (by first | exact Or.inl rfl | exact Or.inr rfl)) (by simp) dX6_init_25 (fun H locs hW hS => ?_)
  have ho2 : uh h o (.inr (6, ([.int (J 0), .ref q6, .ref q13, .int (J 1), .int (J 0), .int (J 0), .null, .int (J 0), .null, .null, .int (J 0), .int (J 0), .int (J 0), .int (J 0), .null, .null, .null, .int (J 0), .null, .null, .null, .int (J 0), .int (J 0), .null, .null, .null, .null, .int (J 0)] : List Value).set 4 (.int (J 1)))) o = some (.inr (6, [.int (J 0), .ref q6, .ref q13, .int (J 1), .int (J 1), .int (J 0), .null, .int (J 0), .null, .null, .int (J 0), .int (J 0), .int (J 0), .int (J 0), .null, .null, .null, .int (J 0), .null, .null, .null, .int (J 0), .int (J 0), .null, .null, .null, .null, .int (J 0)])) := uh_same _ _ _
  have c_q6 := raw_set (e := .inr (6, ([.int (J 0), .ref q6, .ref q13, .int (J 1), .int (J 0), .int (J 0), .null, .int (J 0), .null, .null, .int (J 0), .int (J 0), .int (J 0), .int (J 0), .null, .null, .null, .int (J 0), .null, .null, .null, .int (J 0), .int (J 0), .null, .null, .null, .null, .int (J 0)] : List Value).set 4 (.int (J 1)))) c_q6 n_q6
  have c_q13 := raw_set (e := .inr (6, ([.int (J 0), .ref q6, .ref q13, .int (J 1), .int (J 0), .int (J 0), .null, .int (J 0), .null, .null, .int (J 0), .int (J 0), .int (J 0), .int (J 0), .null, .null, .null, .int (J 0), .null, .null, .null, .int (J 0), .int (J 0), .null, .null, .null, .null, .int (J 0)] : List Value).set 4 (.int (J 1)))) c_q13 n_q13
  have hF := Fr.set (e := .inr (6, ([.int (J 0), .ref q6, .ref q13, .int (J 1), .int (J 0), .int (J 0), .null, .int (J 0), .null, .null, .int (J 0), .int (J 0), .int (J 0), .int (J 0), .null, .null, .null, .int (J 0), .null, .null, .null, .int (J 0), .int (J 0), .null, .null, .null, .null, .int (J 0)] : List Value).set 4 (.int (J 1)))) hF (Or.inl rfl)
  have hall := al_set (o := o) (e := .inr (6, ([.int (J 0), .ref q6, .ref q13, .int (J 1), .int (J 0), .int (J 0), .null, .int (J 0), .null, .null, .int (J 0), .int (J 0), .int (J 0), .int (J 0), .null, .null, .null, .int (J 0), .null, .null, .null, .int (J 0), .int (J 0), .null, .null, .null, .null, .int (J 0)] : List Value).set 4 (.int (J 1)))) hall
  generalize uh h o (.inr (6, ([.int (J 0), .ref q6, .ref q13, .int (J 1), .int (J 0), .int (J 0), .null, .int (J 0), .null, .null, .int (J 0), .int (J 0), .int (J 0), .int (J 0), .null, .null, .null, .int (J 0), .null, .null, .null, .int (J 0), .int (J 0), .null, .null, .null, .null, .int (J 0)] : List Value).set 4 (.int (J 1)))) = h at ho2 hF hall hW c_q6 c_q13
  have ho := ho2
  refine lv_aload_n hx hb dX6_init_28 rfl (lv_at hl 0 rfl) ?_
  refine lv_iconst (v := J (3)) hx hb dX6_init_29 rfl ?_
  refine g_newi (n := 3) hx hb (hts (.arrayClass .int) (by decide +kernel)) hk hW hS (by decide) (by decide) (Nat.le_of_ble_eq_true rfl) (Nat.le_of_ble_eq_true rfl) dX6_init_30 (fun q30 H hq30 hW hS => ?_)
  have f_q30 : h0 q30 = none := hF.none hq30
  have n_q30 : q30 ≠ o := raw_ne ho hq30
  have hnd := nd_new hnd hall hq30
  have hall := al_new (q := q30) (e := ai g 3 (fun _ => 0)) hall
  have ho := raw_new (e := ai g 3 (fun _ => 0)) ho hq30
  have c_q6 := raw_new (e := ai g 3 (fun _ => 0)) c_q6 hq30
  have c_q13 := raw_new (e := ai g 3 (fun _ => 0)) c_q13 hq30
  have c_q30 : uh h q30 (ai g 3 (fun _ => 0)) q30 = some (ai g 3 (fun _ => 0)) := uh_same _ _ _
  have hF := Fr.new (e := ai g 3 (fun _ => 0)) hF hq30
  generalize uh h q30 (ai g 3 (fun _ => 0)) = h at ho hF hall hW c_q30 c_q6 c_q13
  refine W.eq (g2 := F0 m 32 ls [.ref q30, .ref o]) rfl ?_
  refine g_putF (ci := 6) (C := RX6) (T := TX6) (N := 28) (ty := .array .int) (fs := [.int (J 0), .ref q6, .ref q13, .int (J 1), .int (J 1), .int (J 0), .null, .int (J 0), .null, .null, .int (J 0), .int (J 0), .int (J 0), .int (J 0), .null, .null, .null, .int (J 0), .null, .null, .null, .int (J 0), .int (J 0), .null, .null, .null, .null, .int (J 0)]) hx hb hfX6 (fun _ h9 => h9) tyX6 tyX6_ok nmX6 hown hk hW hS ho rfl 6 (by decide) (hts (.fieldLink RX6 23 "JugsAndGlassesModel" "span" "[I") (by decide +kernel)) rfl rfl hin rfl (by decide +kernel) rfl rfl (by simp) dX6_init_32 (fun H locs hW hS => ?_)
  have ho2 : uh h o (.inr (6, ([.int (J 0), .ref q6, .ref q13, .int (J 1), .int (J 1), .int (J 0), .null, .int (J 0), .null, .null, .int (J 0), .int (J 0), .int (J 0), .int (J 0), .null, .null, .null, .int (J 0), .null, .null, .null, .int (J 0), .int (J 0), .null, .null, .null, .null, .int (J 0)] : List Value).set 6 (.ref q30))) o = some (.inr (6, [.int (J 0), .ref q6, .ref q13, .int (J 1), .int (J 1), .int (J 0), .ref q30, .int (J 0), .null, .null, .int (J 0), .int (J 0), .int (J 0), .int (J 0), .null, .null, .null, .int (J 0), .null, .null, .null, .int (J 0), .int (J 0), .null, .null, .null, .null, .int (J 0)])) := uh_same _ _ _
  have c_q6 := raw_set (e := .inr (6, ([.int (J 0), .ref q6, .ref q13, .int (J 1), .int (J 1), .int (J 0), .null, .int (J 0), .null, .null, .int (J 0), .int (J 0), .int (J 0), .int (J 0), .null, .null, .null, .int (J 0), .null, .null, .null, .int (J 0), .int (J 0), .null, .null, .null, .null, .int (J 0)] : List Value).set 6 (.ref q30))) c_q6 n_q6
  have c_q13 := raw_set (e := .inr (6, ([.int (J 0), .ref q6, .ref q13, .int (J 1), .int (J 1), .int (J 0), .null, .int (J 0), .null, .null, .int (J 0), .int (J 0), .int (J 0), .int (J 0), .null, .null, .null, .int (J 0), .null, .null, .null, .int (J 0), .int (J 0), .null, .null, .null, .null, .int (J 0)] : List Value).set 6 (.ref q30))) c_q13 n_q13
  have c_q30 := raw_set (e := .inr (6, ([.int (J 0), .ref q6, .ref q13, .int (J 1), .int (J 1), .int (J 0), .null, .int (J 0), .null, .null, .int (J 0), .int (J 0), .int (J 0), .int (J 0), .null, .null, .null, .int (J 0), .null, .null, .null, .int (J 0), .int (J 0), .null, .null, .null, .null, .int (J 0)] : List Value).set 6 (.ref q30))) c_q30 n_q30
  have hF := Fr.set (e := .inr (6, ([.int (J 0), .ref q6, .ref q13, .int (J 1), .int (J 1), .int (J 0), .null, .int (J 0), .null, .null, .int (J 0), .int (J 0), .int (J 0), .int (J 0), .null, .null, .null, .int (J 0), .null, .null, .null, .int (J 0), .int (J 0), .null, .null, .null, .null, .int (J 0)] : List Value).set 6 (.ref q30))) hF (Or.inl rfl)
  have hall := al_set (o := o) (e := .inr (6, ([.int (J 0), .ref q6, .ref q13, .int (J 1), .int (J 1), .int (J 0), .null, .int (J 0), .null, .null, .int (J 0), .int (J 0), .int (J 0), .int (J 0), .null, .null, .null, .int (J 0), .null, .null, .null, .int (J 0), .int (J 0), .null, .null, .null, .null, .int (J 0)] : List Value).set 6 (.ref q30))) hall
  generalize uh h o (.inr (6, ([.int (J 0), .ref q6, .ref q13, .int (J 1), .int (J 1), .int (J 0), .null, .int (J 0), .null, .null, .int (J 0), .int (J 0), .int (J 0), .int (J 0), .null, .null, .null, .int (J 0), .null, .null, .null, .int (J 0), .int (J 0), .null, .null, .null, .null, .int (J 0)] : List Value).set 6 (.ref q30))) = h at ho2 hF hall hW c_q6 c_q13 c_q30
  have ho := ho2
  refine lv_aload_n hx hb dX6_init_35 rfl (lv_at hl 0 rfl) ?_
  refine lv_iconst (v := J (4)) hx hb dX6_init_36 rfl ?_
  refine g_newi (n := 4) hx hb (hts (.arrayClass .int) (by decide +kernel)) hk hW hS (by decide) (by decide) (Nat.le_of_ble_eq_true rfl) (Nat.le_of_ble_eq_true rfl) dX6_init_37 (fun q37 H hq37 hW hS => ?_)
  have f_q37 : h0 q37 = none := hF.none hq37
  have n_q37 : q37 ≠ o := raw_ne ho hq37
  have hnd := nd_new hnd hall hq37
  have hall := al_new (q := q37) (e := ai g 4 (fun _ => 0)) hall
  have ho := raw_new (e := ai g 4 (fun _ => 0)) ho hq37
  have c_q6 := raw_new (e := ai g 4 (fun _ => 0)) c_q6 hq37
  have c_q13 := raw_new (e := ai g 4 (fun _ => 0)) c_q13 hq37
  have c_q30 := raw_new (e := ai g 4 (fun _ => 0)) c_q30 hq37
  have c_q37 : uh h q37 (ai g 4 (fun _ => 0)) q37 = some (ai g 4 (fun _ => 0)) := uh_same _ _ _
  have hF := Fr.new (e := ai g 4 (fun _ => 0)) hF hq37
  generalize uh h q37 (ai g 4 (fun _ => 0)) = h at ho hF hall hW c_q37 c_q6 c_q13 c_q30
  refine W.eq (g2 := F0 m 39 ls [.ref q37, .ref o]) rfl ?_
  refine g_putF (ci := 6) (C := RX6) (T := TX6) (N := 28) (ty := .array .int) (fs := [.int (J 0), .ref q6, .ref q13, .int (J 1), .int (J 1), .int (J 0), .ref q30, .int (J 0), .null, .null, .int (J 0), .int (J 0), .int (J 0), .int (J 0), .null, .null, .null, .int (J 0), .null, .null, .null, .int (J 0), .int (J 0), .null, .null, .null, .null, .int (J 0)]) hx hb hfX6 (fun _ h9 => h9) tyX6 tyX6_ok nmX6 hown hk hW hS ho rfl 8 (by decide) (hts (.fieldLink RX6 26 "JugsAndGlassesModel" "room" "[I") (by decide +kernel)) rfl rfl hin rfl (by decide +kernel) rfl rfl (by simp) dX6_init_39 (fun H locs hW hS => ?_)
  have ho2 : uh h o (.inr (6, ([.int (J 0), .ref q6, .ref q13, .int (J 1), .int (J 1), .int (J 0), .ref q30, .int (J 0), .null, .null, .int (J 0), .int (J 0), .int (J 0), .int (J 0), .null, .null, .null, .int (J 0), .null, .null, .null, .int (J 0), .int (J 0), .null, .null, .null, .null, .int (J 0)] : List Value).set 8 (.ref q37))) o = some (.inr (6, [.int (J 0), .ref q6, .ref q13, .int (J 1), .int (J 1), .int (J 0), .ref q30, .int (J 0), .ref q37, .null, .int (J 0), .int (J 0), .int (J 0), .int (J 0), .null, .null, .null, .int (J 0), .null, .null, .null, .int (J 0), .int (J 0), .null, .null, .null, .null, .int (J 0)])) := uh_same _ _ _
  have c_q6 := raw_set (e := .inr (6, ([.int (J 0), .ref q6, .ref q13, .int (J 1), .int (J 1), .int (J 0), .ref q30, .int (J 0), .null, .null, .int (J 0), .int (J 0), .int (J 0), .int (J 0), .null, .null, .null, .int (J 0), .null, .null, .null, .int (J 0), .int (J 0), .null, .null, .null, .null, .int (J 0)] : List Value).set 8 (.ref q37))) c_q6 n_q6
  have c_q13 := raw_set (e := .inr (6, ([.int (J 0), .ref q6, .ref q13, .int (J 1), .int (J 1), .int (J 0), .ref q30, .int (J 0), .null, .null, .int (J 0), .int (J 0), .int (J 0), .int (J 0), .null, .null, .null, .int (J 0), .null, .null, .null, .int (J 0), .int (J 0), .null, .null, .null, .null, .int (J 0)] : List Value).set 8 (.ref q37))) c_q13 n_q13
  have c_q30 := raw_set (e := .inr (6, ([.int (J 0), .ref q6, .ref q13, .int (J 1), .int (J 1), .int (J 0), .ref q30, .int (J 0), .null, .null, .int (J 0), .int (J 0), .int (J 0), .int (J 0), .null, .null, .null, .int (J 0), .null, .null, .null, .int (J 0), .int (J 0), .null, .null, .null, .null, .int (J 0)] : List Value).set 8 (.ref q37))) c_q30 n_q30
  have c_q37 := raw_set (e := .inr (6, ([.int (J 0), .ref q6, .ref q13, .int (J 1), .int (J 1), .int (J 0), .ref q30, .int (J 0), .null, .null, .int (J 0), .int (J 0), .int (J 0), .int (J 0), .null, .null, .null, .int (J 0), .null, .null, .null, .int (J 0), .int (J 0), .null, .null, .null, .null, .int (J 0)] : List Value).set 8 (.ref q37))) c_q37 n_q37
  have hF := Fr.set (e := .inr (6, ([.int (J 0), .ref q6, .ref q13, .int (J 1), .int (J 1), .int (J 0), .ref q30, .int (J 0), .null, .null, .int (J 0), .int (J 0), .int (J 0), .int (J 0), .null, .null, .null, .int (J 0), .null, .null, .null, .int (J 0), .int (J 0), .null, .null, .null, .null, .int (J 0)] : List Value).set 8 (.ref q37))) hF (Or.inl rfl)
  have hall := al_set (o := o) (e := .inr (6, ([.int (J 0), .ref q6, .ref q13, .int (J 1), .int (J 1), .int (J 0), .ref q30, .int (J 0), .null, .null, .int (J 0), .int (J 0), .int (J 0), .int (J 0), .null, .null, .null, .int (J 0), .null, .null, .null, .int (J 0), .int (J 0), .null, .null, .null, .null, .int (J 0)] : List Value).set 8 (.ref q37))) hall
  generalize uh h o (.inr (6, ([.int (J 0), .ref q6, .ref q13, .int (J 1), .int (J 1), .int (J 0), .ref q30, .int (J 0), .null, .null, .int (J 0), .int (J 0), .int (J 0), .int (J 0), .null, .null, .null, .int (J 0), .null, .null, .null, .int (J 0), .int (J 0), .null, .null, .null, .null, .int (J 0)] : List Value).set 8 (.ref q37))) = h at ho2 hF hall hW c_q6 c_q13 c_q30 c_q37
  have ho := ho2
  refine lv_aload_n hx hb dX6_init_42 rfl (lv_at hl 0 rfl) ?_
  refine lv_iconst (v := J (4)) hx hb dX6_init_43 rfl ?_
  refine g_newi (n := 4) hx hb (hts (.arrayClass .int) (by decide +kernel)) hk hW hS (by decide) (by decide) (Nat.le_of_ble_eq_true rfl) (Nat.le_of_ble_eq_true rfl) dX6_init_44 (fun q44 H hq44 hW hS => ?_)
  have f_q44 : h0 q44 = none := hF.none hq44
  have n_q44 : q44 ≠ o := raw_ne ho hq44
  have hnd := nd_new hnd hall hq44
  have hall := al_new (q := q44) (e := ai g 4 (fun _ => 0)) hall
  have ho := raw_new (e := ai g 4 (fun _ => 0)) ho hq44
  have c_q6 := raw_new (e := ai g 4 (fun _ => 0)) c_q6 hq44
  have c_q13 := raw_new (e := ai g 4 (fun _ => 0)) c_q13 hq44
  have c_q30 := raw_new (e := ai g 4 (fun _ => 0)) c_q30 hq44
  have c_q37 := raw_new (e := ai g 4 (fun _ => 0)) c_q37 hq44
  have c_q44 : uh h q44 (ai g 4 (fun _ => 0)) q44 = some (ai g 4 (fun _ => 0)) := uh_same _ _ _
  have hF := Fr.new (e := ai g 4 (fun _ => 0)) hF hq44
  generalize uh h q44 (ai g 4 (fun _ => 0)) = h at ho hF hall hW c_q44 c_q6 c_q13 c_q30 c_q37
  refine W.eq (g2 := F0 m 46 ls [.ref q44, .ref o]) rfl ?_
  refine g_putF (ci := 6) (C := RX6) (T := TX6) (N := 28) (ty := .array .int) (fs := [.int (J 0), .ref q6, .ref q13, .int (J 1), .int (J 1), .int (J 0), .ref q30, .int (J 0), .ref q37, .null, .int (J 0), .int (J 0), .int (J 0), .int (J 0), .null, .null, .null, .int (J 0), .null, .null, .null, .int (J 0), .int (J 0), .null, .null, .null, .null, .int (J 0)]) hx hb hfX6 (fun _ h9 => h9) tyX6 tyX6_ok nmX6 hown hk hW hS ho rfl 9 (by decide) (hts (.fieldLink RX6 29 "JugsAndGlassesModel" "has" "[I") (by decide +kernel)) rfl rfl hin rfl (by decide +kernel) rfl rfl (by simp) dX6_init_46 (fun H locs hW hS => ?_)
  have ho2 : uh h o (.inr (6, ([.int (J 0), .ref q6, .ref q13, .int (J 1), .int (J 1), .int (J 0), .ref q30, .int (J 0), .ref q37, .null, .int (J 0), .int (J 0), .int (J 0), .int (J 0), .null, .null, .null, .int (J 0), .null, .null, .null, .int (J 0), .int (J 0), .null, .null, .null, .null, .int (J 0)] : List Value).set 9 (.ref q44))) o = some (.inr (6, [.int (J 0), .ref q6, .ref q13, .int (J 1), .int (J 1), .int (J 0), .ref q30, .int (J 0), .ref q37, .ref q44, .int (J 0), .int (J 0), .int (J 0), .int (J 0), .null, .null, .null, .int (J 0), .null, .null, .null, .int (J 0), .int (J 0), .null, .null, .null, .null, .int (J 0)])) := uh_same _ _ _
  have c_q6 := raw_set (e := .inr (6, ([.int (J 0), .ref q6, .ref q13, .int (J 1), .int (J 1), .int (J 0), .ref q30, .int (J 0), .ref q37, .null, .int (J 0), .int (J 0), .int (J 0), .int (J 0), .null, .null, .null, .int (J 0), .null, .null, .null, .int (J 0), .int (J 0), .null, .null, .null, .null, .int (J 0)] : List Value).set 9 (.ref q44))) c_q6 n_q6
  have c_q13 := raw_set (e := .inr (6, ([.int (J 0), .ref q6, .ref q13, .int (J 1), .int (J 1), .int (J 0), .ref q30, .int (J 0), .ref q37, .null, .int (J 0), .int (J 0), .int (J 0), .int (J 0), .null, .null, .null, .int (J 0), .null, .null, .null, .int (J 0), .int (J 0), .null, .null, .null, .null, .int (J 0)] : List Value).set 9 (.ref q44))) c_q13 n_q13
  have c_q30 := raw_set (e := .inr (6, ([.int (J 0), .ref q6, .ref q13, .int (J 1), .int (J 1), .int (J 0), .ref q30, .int (J 0), .ref q37, .null, .int (J 0), .int (J 0), .int (J 0), .int (J 0), .null, .null, .null, .int (J 0), .null, .null, .null, .int (J 0), .int (J 0), .null, .null, .null, .null, .int (J 0)] : List Value).set 9 (.ref q44))) c_q30 n_q30
  have c_q37 := raw_set (e := .inr (6, ([.int (J 0), .ref q6, .ref q13, .int (J 1), .int (J 1), .int (J 0), .ref q30, .int (J 0), .ref q37, .null, .int (J 0), .int (J 0), .int (J 0), .int (J 0), .null, .null, .null, .int (J 0), .null, .null, .null, .int (J 0), .int (J 0), .null, .null, .null, .null, .int (J 0)] : List Value).set 9 (.ref q44))) c_q37 n_q37
  have c_q44 := raw_set (e := .inr (6, ([.int (J 0), .ref q6, .ref q13, .int (J 1), .int (J 1), .int (J 0), .ref q30, .int (J 0), .ref q37, .null, .int (J 0), .int (J 0), .int (J 0), .int (J 0), .null, .null, .null, .int (J 0), .null, .null, .null, .int (J 0), .int (J 0), .null, .null, .null, .null, .int (J 0)] : List Value).set 9 (.ref q44))) c_q44 n_q44
  have hF := Fr.set (e := .inr (6, ([.int (J 0), .ref q6, .ref q13, .int (J 1), .int (J 1), .int (J 0), .ref q30, .int (J 0), .ref q37, .null, .int (J 0), .int (J 0), .int (J 0), .int (J 0), .null, .null, .null, .int (J 0), .null, .null, .null, .int (J 0), .int (J 0), .null, .null, .null, .null, .int (J 0)] : List Value).set 9 (.ref q44))) hF (Or.inl rfl)
  have hall := al_set (o := o) (e := .inr (6, ([.int (J 0), .ref q6, .ref q13, .int (J 1), .int (J 1), .int (J 0), .ref q30, .int (J 0), .ref q37, .null, .int (J 0), .int (J 0), .int (J 0), .int (J 0), .null, .null, .null, .int (J 0), .null, .null, .null, .int (J 0), .int (J 0), .null, .null, .null, .null, .int (J 0)] : List Value).set 9 (.ref q44))) hall
  generalize uh h o (.inr (6, ([.int (J 0), .ref q6, .ref q13, .int (J 1), .int (J 1), .int (J 0), .ref q30, .int (J 0), .ref q37, .null, .int (J 0), .int (J 0), .int (J 0), .int (J 0), .null, .null, .null, .int (J 0), .null, .null, .null, .int (J 0), .int (J 0), .null, .null, .null, .null, .int (J 0)] : List Value).set 9 (.ref q44))) = h at ho2 hF hall hW c_q6 c_q13 c_q30 c_q37 c_q44
  have ho := ho2
  refine lv_aload_n hx hb dX6_init_49 rfl (lv_at hl 0 rfl) ?_
  refine j_ldc (z := 351384) hx hb (by decide) hown (hts (.constant RX6 32 (351384)) (by decide +kernel)) dX6_init_50 ?_
  refine g_newi (n := 351384) hx hb (hts (.arrayClass .int) (by decide +kernel)) hk hW hS (by decide) (by decide) (Nat.le_of_ble_eq_true rfl) (Nat.le_of_ble_eq_true rfl) dX6_init_52 (fun q52 H hq52 hW hS => ?_)
  have f_q52 : h0 q52 = none := hF.none hq52
  have n_q52 : q52 ≠ o := raw_ne ho hq52
  have hnd := nd_new hnd hall hq52
  have hall := al_new (q := q52) (e := ai g 351384 (fun _ => 0)) hall
  have ho := raw_new (e := ai g 351384 (fun _ => 0)) ho hq52
  have c_q6 := raw_new (e := ai g 351384 (fun _ => 0)) c_q6 hq52
  have c_q13 := raw_new (e := ai g 351384 (fun _ => 0)) c_q13 hq52
  have c_q30 := raw_new (e := ai g 351384 (fun _ => 0)) c_q30 hq52
  have c_q37 := raw_new (e := ai g 351384 (fun _ => 0)) c_q37 hq52
  have c_q44 := raw_new (e := ai g 351384 (fun _ => 0)) c_q44 hq52
  have c_q52 : uh h q52 (ai g 351384 (fun _ => 0)) q52 = some (ai g 351384 (fun _ => 0)) := uh_same _ _ _
  have hF := Fr.new (e := ai g 351384 (fun _ => 0)) hF hq52
  generalize uh h q52 (ai g 351384 (fun _ => 0)) = h at ho hF hall hW c_q52 c_q6 c_q13 c_q30 c_q37 c_q44
  refine W.eq (g2 := F0 m 54 ls [.ref q52, .ref o]) rfl ?_
  refine g_putF (ci := 6) (C := RX6) (T := TX6) (N := 28) (ty := .array .int) (fs := [.int (J 0), .ref q6, .ref q13, .int (J 1), .int (J 1), .int (J 0), .ref q30, .int (J 0), .ref q37, .ref q44, .int (J 0), .int (J 0), .int (J 0), .int (J 0), .null, .null, .null, .int (J 0), .null, .null, .null, .int (J 0), .int (J 0), .null, .null, .null, .null, .int (J 0)]) hx hb hfX6 (fun _ h9 => h9) tyX6 tyX6_ok nmX6 hown hk hW hS ho rfl 14 (by decide) (hts (.fieldLink RX6 33 "JugsAndGlassesModel" "next" "[I") (by decide +kernel)) rfl rfl hin rfl (by decide +kernel) rfl rfl (by simp) dX6_init_54 (fun H locs hW hS => ?_)
  have ho2 : uh h o (.inr (6, ([.int (J 0), .ref q6, .ref q13, .int (J 1), .int (J 1), .int (J 0), .ref q30, .int (J 0), .ref q37, .ref q44, .int (J 0), .int (J 0), .int (J 0), .int (J 0), .null, .null, .null, .int (J 0), .null, .null, .null, .int (J 0), .int (J 0), .null, .null, .null, .null, .int (J 0)] : List Value).set 14 (.ref q52))) o = some (.inr (6, [.int (J 0), .ref q6, .ref q13, .int (J 1), .int (J 1), .int (J 0), .ref q30, .int (J 0), .ref q37, .ref q44, .int (J 0), .int (J 0), .int (J 0), .int (J 0), .ref q52, .null, .null, .int (J 0), .null, .null, .null, .int (J 0), .int (J 0), .null, .null, .null, .null, .int (J 0)])) := uh_same _ _ _
  have c_q6 := raw_set (e := .inr (6, ([.int (J 0), .ref q6, .ref q13, .int (J 1), .int (J 1), .int (J 0), .ref q30, .int (J 0), .ref q37, .ref q44, .int (J 0), .int (J 0), .int (J 0), .int (J 0), .null, .null, .null, .int (J 0), .null, .null, .null, .int (J 0), .int (J 0), .null, .null, .null, .null, .int (J 0)] : List Value).set 14 (.ref q52))) c_q6 n_q6
  have c_q13 := raw_set (e := .inr (6, ([.int (J 0), .ref q6, .ref q13, .int (J 1), .int (J 1), .int (J 0), .ref q30, .int (J 0), .ref q37, .ref q44, .int (J 0), .int (J 0), .int (J 0), .int (J 0), .null, .null, .null, .int (J 0), .null, .null, .null, .int (J 0), .int (J 0), .null, .null, .null, .null, .int (J 0)] : List Value).set 14 (.ref q52))) c_q13 n_q13
  have c_q30 := raw_set (e := .inr (6, ([.int (J 0), .ref q6, .ref q13, .int (J 1), .int (J 1), .int (J 0), .ref q30, .int (J 0), .ref q37, .ref q44, .int (J 0), .int (J 0), .int (J 0), .int (J 0), .null, .null, .null, .int (J 0), .null, .null, .null, .int (J 0), .int (J 0), .null, .null, .null, .null, .int (J 0)] : List Value).set 14 (.ref q52))) c_q30 n_q30
  have c_q37 := raw_set (e := .inr (6, ([.int (J 0), .ref q6, .ref q13, .int (J 1), .int (J 1), .int (J 0), .ref q30, .int (J 0), .ref q37, .ref q44, .int (J 0), .int (J 0), .int (J 0), .int (J 0), .null, .null, .null, .int (J 0), .null, .null, .null, .int (J 0), .int (J 0), .null, .null, .null, .null, .int (J 0)] : List Value).set 14 (.ref q52))) c_q37 n_q37
  have c_q44 := raw_set (e := .inr (6, ([.int (J 0), .ref q6, .ref q13, .int (J 1), .int (J 1), .int (J 0), .ref q30, .int (J 0), .ref q37, .ref q44, .int (J 0), .int (J 0), .int (J 0), .int (J 0), .null, .null, .null, .int (J 0), .null, .null, .null, .int (J 0), .int (J 0), .null, .null, .null, .null, .int (J 0)] : List Value).set 14 (.ref q52))) c_q44 n_q44
  have c_q52 := raw_set (e := .inr (6, ([.int (J 0), .ref q6, .ref q13, .int (J 1), .int (J 1), .int (J 0), .ref q30, .int (J 0), .ref q37, .ref q44, .int (J 0), .int (J 0), .int (J 0), .int (J 0), .null, .null, .null, .int (J 0), .null, .null, .null, .int (J 0), .int (J 0), .null, .null, .null, .null, .int (J 0)] : List Value).set 14 (.ref q52))) c_q52 n_q52
  have hF := Fr.set (e := .inr (6, ([.int (J 0), .ref q6, .ref q13, .int (J 1), .int (J 1), .int (J 0), .ref q30, .int (J 0), .ref q37, .ref q44, .int (J 0), .int (J 0), .int (J 0), .int (J 0), .null, .null, .null, .int (J 0), .null, .null, .null, .int (J 0), .int (J 0), .null, .null, .null, .null, .int (J 0)] : List Value).set 14 (.ref q52))) hF (Or.inl rfl)
  have hall := al_set (o := o) (e := .inr (6, ([.int (J 0), .ref q6, .ref q13, .int (J 1), .int (J 1), .int (J 0), .ref q30, .int (J 0), .ref q37, .ref q44, .int (J 0), .int (J 0), .int (J 0), .int (J 0), .null, .null, .null, .int (J 0), .null, .null, .null, .int (J 0), .int (J 0), .null, .null, .null, .null, .int (J 0)] : List Value).set 14 (.ref q52))) hall
  generalize uh h o (.inr (6, ([.int (J 0), .ref q6, .ref q13, .int (J 1), .int (J 1), .int (J 0), .ref q30, .int (J 0), .ref q37, .ref q44, .int (J 0), .int (J 0), .int (J 0), .int (J 0), .null, .null, .null, .int (J 0), .null, .null, .null, .int (J 0), .int (J 0), .null, .null, .null, .null, .int (J 0)] : List Value).set 14 (.ref q52))) = h at ho2 hF hall hW c_q6 c_q13 c_q30 c_q37 c_q44 c_q52
  have ho := ho2
  refine lv_aload_n hx hb dX6_init_57 rfl (lv_at hl 0 rfl) ?_
  refine j_ldc (z := 351384) hx hb (by decide) hown (hts (.constant RX6 32 (351384)) (by decide +kernel)) dX6_init_58 ?_
  refine g_newi (n := 351384) hx hb (hts (.arrayClass .int) (by decide +kernel)) hk hW hS (by decide) (by decide) (Nat.le_of_ble_eq_true rfl) (Nat.le_of_ble_eq_true rfl) dX6_init_60 (fun q60 H hq60 hW hS => ?_)
  have f_q60 : h0 q60 = none := hF.none hq60
  have n_q60 : q60 ≠ o := raw_ne ho hq60
  have hnd := nd_new hnd hall hq60
  have hall := al_new (q := q60) (e := ai g 351384 (fun _ => 0)) hall
  have ho := raw_new (e := ai g 351384 (fun _ => 0)) ho hq60
  have c_q6 := raw_new (e := ai g 351384 (fun _ => 0)) c_q6 hq60
  have c_q13 := raw_new (e := ai g 351384 (fun _ => 0)) c_q13 hq60
  have c_q30 := raw_new (e := ai g 351384 (fun _ => 0)) c_q30 hq60
  have c_q37 := raw_new (e := ai g 351384 (fun _ => 0)) c_q37 hq60
  have c_q44 := raw_new (e := ai g 351384 (fun _ => 0)) c_q44 hq60
  have c_q52 := raw_new (e := ai g 351384 (fun _ => 0)) c_q52 hq60
  have c_q60 : uh h q60 (ai g 351384 (fun _ => 0)) q60 = some (ai g 351384 (fun _ => 0)) := uh_same _ _ _
  have hF := Fr.new (e := ai g 351384 (fun _ => 0)) hF hq60
  generalize uh h q60 (ai g 351384 (fun _ => 0)) = h at ho hF hall hW c_q60 c_q6 c_q13 c_q30 c_q37 c_q44 c_q52
  refine W.eq (g2 := F0 m 62 ls [.ref q60, .ref o]) rfl ?_
  refine g_putF (ci := 6) (C := RX6) (T := TX6) (N := 28) (ty := .array .int) (fs := [.int (J 0), .ref q6, .ref q13, .int (J 1), .int (J 1), .int (J 0), .ref q30, .int (J 0), .ref q37, .ref q44, .int (J 0), .int (J 0), .int (J 0), .int (J 0), .ref q52, .null, .null, .int (J 0), .null, .null, .null, .int (J 0), .int (J 0), .null, .null, .null, .null, .int (J 0)]) hx hb hfX6 (fun _ h9 => h9) tyX6 tyX6_ok nmX6 hown hk hW hS ho rfl 15 (by decide) (hts (.fieldLink RX6 36 "JugsAndGlassesModel" "spills" "[I") (by decide +kernel)) rfl rfl hin rfl (by decide +kernel) rfl rfl (by simp) dX6_init_62 (fun H locs hW hS => ?_)
  have ho2 : uh h o (.inr (6, ([.int (J 0), .ref q6, .ref q13, .int (J 1), .int (J 1), .int (J 0), .ref q30, .int (J 0), .ref q37, .ref q44, .int (J 0), .int (J 0), .int (J 0), .int (J 0), .ref q52, .null, .null, .int (J 0), .null, .null, .null, .int (J 0), .int (J 0), .null, .null, .null, .null, .int (J 0)] : List Value).set 15 (.ref q60))) o = some (.inr (6, [.int (J 0), .ref q6, .ref q13, .int (J 1), .int (J 1), .int (J 0), .ref q30, .int (J 0), .ref q37, .ref q44, .int (J 0), .int (J 0), .int (J 0), .int (J 0), .ref q52, .ref q60, .null, .int (J 0), .null, .null, .null, .int (J 0), .int (J 0), .null, .null, .null, .null, .int (J 0)])) := uh_same _ _ _
  have c_q6 := raw_set (e := .inr (6, ([.int (J 0), .ref q6, .ref q13, .int (J 1), .int (J 1), .int (J 0), .ref q30, .int (J 0), .ref q37, .ref q44, .int (J 0), .int (J 0), .int (J 0), .int (J 0), .ref q52, .null, .null, .int (J 0), .null, .null, .null, .int (J 0), .int (J 0), .null, .null, .null, .null, .int (J 0)] : List Value).set 15 (.ref q60))) c_q6 n_q6
  have c_q13 := raw_set (e := .inr (6, ([.int (J 0), .ref q6, .ref q13, .int (J 1), .int (J 1), .int (J 0), .ref q30, .int (J 0), .ref q37, .ref q44, .int (J 0), .int (J 0), .int (J 0), .int (J 0), .ref q52, .null, .null, .int (J 0), .null, .null, .null, .int (J 0), .int (J 0), .null, .null, .null, .null, .int (J 0)] : List Value).set 15 (.ref q60))) c_q13 n_q13
  have c_q30 := raw_set (e := .inr (6, ([.int (J 0), .ref q6, .ref q13, .int (J 1), .int (J 1), .int (J 0), .ref q30, .int (J 0), .ref q37, .ref q44, .int (J 0), .int (J 0), .int (J 0), .int (J 0), .ref q52, .null, .null, .int (J 0), .null, .null, .null, .int (J 0), .int (J 0), .null, .null, .null, .null, .int (J 0)] : List Value).set 15 (.ref q60))) c_q30 n_q30
  have c_q37 := raw_set (e := .inr (6, ([.int (J 0), .ref q6, .ref q13, .int (J 1), .int (J 1), .int (J 0), .ref q30, .int (J 0), .ref q37, .ref q44, .int (J 0), .int (J 0), .int (J 0), .int (J 0), .ref q52, .null, .null, .int (J 0), .null, .null, .null, .int (J 0), .int (J 0), .null, .null, .null, .null, .int (J 0)] : List Value).set 15 (.ref q60))) c_q37 n_q37
  have c_q44 := raw_set (e := .inr (6, ([.int (J 0), .ref q6, .ref q13, .int (J 1), .int (J 1), .int (J 0), .ref q30, .int (J 0), .ref q37, .ref q44, .int (J 0), .int (J 0), .int (J 0), .int (J 0), .ref q52, .null, .null, .int (J 0), .null, .null, .null, .int (J 0), .int (J 0), .null, .null, .null, .null, .int (J 0)] : List Value).set 15 (.ref q60))) c_q44 n_q44
  have c_q52 := raw_set (e := .inr (6, ([.int (J 0), .ref q6, .ref q13, .int (J 1), .int (J 1), .int (J 0), .ref q30, .int (J 0), .ref q37, .ref q44, .int (J 0), .int (J 0), .int (J 0), .int (J 0), .ref q52, .null, .null, .int (J 0), .null, .null, .null, .int (J 0), .int (J 0), .null, .null, .null, .null, .int (J 0)] : List Value).set 15 (.ref q60))) c_q52 n_q52
  have c_q60 := raw_set (e := .inr (6, ([.int (J 0), .ref q6, .ref q13, .int (J 1), .int (J 1), .int (J 0), .ref q30, .int (J 0), .ref q37, .ref q44, .int (J 0), .int (J 0), .int (J 0), .int (J 0), .ref q52, .null, .null, .int (J 0), .null, .null, .null, .int (J 0), .int (J 0), .null, .null, .null, .null, .int (J 0)] : List Value).set 15 (.ref q60))) c_q60 n_q60
  have hF := Fr.set (e := .inr (6, ([.int (J 0), .ref q6, .ref q13, .int (J 1), .int (J 1), .int (J 0), .ref q30, .int (J 0), .ref q37, .ref q44, .int (J 0), .int (J 0), .int (J 0), .int (J 0), .ref q52, .null, .null, .int (J 0), .null, .null, .null, .int (J 0), .int (J 0), .null, .null, .null, .null, .int (J 0)] : List Value).set 15 (.ref q60))) hF (Or.inl rfl)
  have hall := al_set (o := o) (e := .inr (6, ([.int (J 0), .ref q6, .ref q13, .int (J 1), .int (J 1), .int (J 0), .ref q30, .int (J 0), .ref q37, .ref q44, .int (J 0), .int (J 0), .int (J 0), .int (J 0), .ref q52, .null, .null, .int (J 0), .null, .null, .null, .int (J 0), .int (J 0), .null, .null, .null, .null, .int (J 0)] : List Value).set 15 (.ref q60))) hall
  generalize uh h o (.inr (6, ([.int (J 0), .ref q6, .ref q13, .int (J 1), .int (J 1), .int (J 0), .ref q30, .int (J 0), .ref q37, .ref q44, .int (J 0), .int (J 0), .int (J 0), .int (J 0), .ref q52, .null, .null, .int (J 0), .null, .null, .null, .int (J 0), .int (J 0), .null, .null, .null, .null, .int (J 0)] : List Value).set 15 (.ref q60))) = h at ho2 hF hall hW c_q6 c_q13 c_q30 c_q37 c_q44 c_q52 c_q60
  have ho := ho2
  refine lv_aload_n hx hb dX6_init_65 rfl (lv_at hl 0 rfl) ?_
  refine lv_sipush (v := J (14641)) hx hb dX6_init_66 (by decide) ?_
  refine g_newi (n := 14641) hx hb (hts (.arrayClass .int) (by decide +kernel)) hk hW hS (by decide) (by decide) (Nat.le_of_ble_eq_true rfl) (Nat.le_of_ble_eq_true rfl) dX6_init_69 (fun q69 H hq69 hW hS => ?_)
  have f_q69 : h0 q69 = none := hF.none hq69
  have n_q69 : q69 ≠ o := raw_ne ho hq69
  have hnd := nd_new hnd hall hq69
  have hall := al_new (q := q69) (e := ai g 14641 (fun _ => 0)) hall
  have ho := raw_new (e := ai g 14641 (fun _ => 0)) ho hq69
  have c_q6 := raw_new (e := ai g 14641 (fun _ => 0)) c_q6 hq69
  have c_q13 := raw_new (e := ai g 14641 (fun _ => 0)) c_q13 hq69
  have c_q30 := raw_new (e := ai g 14641 (fun _ => 0)) c_q30 hq69
  have c_q37 := raw_new (e := ai g 14641 (fun _ => 0)) c_q37 hq69
  have c_q44 := raw_new (e := ai g 14641 (fun _ => 0)) c_q44 hq69
  have c_q52 := raw_new (e := ai g 14641 (fun _ => 0)) c_q52 hq69
  have c_q60 := raw_new (e := ai g 14641 (fun _ => 0)) c_q60 hq69
  have c_q69 : uh h q69 (ai g 14641 (fun _ => 0)) q69 = some (ai g 14641 (fun _ => 0)) := uh_same _ _ _
  have hF := Fr.new (e := ai g 14641 (fun _ => 0)) hF hq69
  generalize uh h q69 (ai g 14641 (fun _ => 0)) = h at ho hF hall hW c_q69 c_q6 c_q13 c_q30 c_q37 c_q44 c_q52 c_q60
  refine W.eq (g2 := F0 m 71 ls [.ref q69, .ref o]) rfl ?_
  refine g_putF (ci := 6) (C := RX6) (T := TX6) (N := 28) (ty := .array .int) (fs := [.int (J 0), .ref q6, .ref q13, .int (J 1), .int (J 1), .int (J 0), .ref q30, .int (J 0), .ref q37, .ref q44, .int (J 0), .int (J 0), .int (J 0), .int (J 0), .ref q52, .ref q60, .null, .int (J 0), .null, .null, .null, .int (J 0), .int (J 0), .null, .null, .null, .null, .int (J 0)]) hx hb hfX6 (fun _ h9 => h9) tyX6 tyX6_ok nmX6 hown hk hW hS ho rfl 16 (by decide) (hts (.fieldLink RX6 39 "JugsAndGlassesModel" "costs" "[I") (by decide +kernel)) rfl rfl hin rfl (by decide +kernel) rfl rfl (by simp) dX6_init_71 (fun H locs hW hS => ?_)
  have ho2 : uh h o (.inr (6, ([.int (J 0), .ref q6, .ref q13, .int (J 1), .int (J 1), .int (J 0), .ref q30, .int (J 0), .ref q37, .ref q44, .int (J 0), .int (J 0), .int (J 0), .int (J 0), .ref q52, .ref q60, .null, .int (J 0), .null, .null, .null, .int (J 0), .int (J 0), .null, .null, .null, .null, .int (J 0)] : List Value).set 16 (.ref q69))) o = some (.inr (6, [.int (J 0), .ref q6, .ref q13, .int (J 1), .int (J 1), .int (J 0), .ref q30, .int (J 0), .ref q37, .ref q44, .int (J 0), .int (J 0), .int (J 0), .int (J 0), .ref q52, .ref q60, .ref q69, .int (J 0), .null, .null, .null, .int (J 0), .int (J 0), .null, .null, .null, .null, .int (J 0)])) := uh_same _ _ _
  have c_q6 := raw_set (e := .inr (6, ([.int (J 0), .ref q6, .ref q13, .int (J 1), .int (J 1), .int (J 0), .ref q30, .int (J 0), .ref q37, .ref q44, .int (J 0), .int (J 0), .int (J 0), .int (J 0), .ref q52, .ref q60, .null, .int (J 0), .null, .null, .null, .int (J 0), .int (J 0), .null, .null, .null, .null, .int (J 0)] : List Value).set 16 (.ref q69))) c_q6 n_q6
  have c_q13 := raw_set (e := .inr (6, ([.int (J 0), .ref q6, .ref q13, .int (J 1), .int (J 1), .int (J 0), .ref q30, .int (J 0), .ref q37, .ref q44, .int (J 0), .int (J 0), .int (J 0), .int (J 0), .ref q52, .ref q60, .null, .int (J 0), .null, .null, .null, .int (J 0), .int (J 0), .null, .null, .null, .null, .int (J 0)] : List Value).set 16 (.ref q69))) c_q13 n_q13
  have c_q30 := raw_set (e := .inr (6, ([.int (J 0), .ref q6, .ref q13, .int (J 1), .int (J 1), .int (J 0), .ref q30, .int (J 0), .ref q37, .ref q44, .int (J 0), .int (J 0), .int (J 0), .int (J 0), .ref q52, .ref q60, .null, .int (J 0), .null, .null, .null, .int (J 0), .int (J 0), .null, .null, .null, .null, .int (J 0)] : List Value).set 16 (.ref q69))) c_q30 n_q30
  have c_q37 := raw_set (e := .inr (6, ([.int (J 0), .ref q6, .ref q13, .int (J 1), .int (J 1), .int (J 0), .ref q30, .int (J 0), .ref q37, .ref q44, .int (J 0), .int (J 0), .int (J 0), .int (J 0), .ref q52, .ref q60, .null, .int (J 0), .null, .null, .null, .int (J 0), .int (J 0), .null, .null, .null, .null, .int (J 0)] : List Value).set 16 (.ref q69))) c_q37 n_q37
  have c_q44 := raw_set (e := .inr (6, ([.int (J 0), .ref q6, .ref q13, .int (J 1), .int (J 1), .int (J 0), .ref q30, .int (J 0), .ref q37, .ref q44, .int (J 0), .int (J 0), .int (J 0), .int (J 0), .ref q52, .ref q60, .null, .int (J 0), .null, .null, .null, .int (J 0), .int (J 0), .null, .null, .null, .null, .int (J 0)] : List Value).set 16 (.ref q69))) c_q44 n_q44
  have c_q52 := raw_set (e := .inr (6, ([.int (J 0), .ref q6, .ref q13, .int (J 1), .int (J 1), .int (J 0), .ref q30, .int (J 0), .ref q37, .ref q44, .int (J 0), .int (J 0), .int (J 0), .int (J 0), .ref q52, .ref q60, .null, .int (J 0), .null, .null, .null, .int (J 0), .int (J 0), .null, .null, .null, .null, .int (J 0)] : List Value).set 16 (.ref q69))) c_q52 n_q52
  have c_q60 := raw_set (e := .inr (6, ([.int (J 0), .ref q6, .ref q13, .int (J 1), .int (J 1), .int (J 0), .ref q30, .int (J 0), .ref q37, .ref q44, .int (J 0), .int (J 0), .int (J 0), .int (J 0), .ref q52, .ref q60, .null, .int (J 0), .null, .null, .null, .int (J 0), .int (J 0), .null, .null, .null, .null, .int (J 0)] : List Value).set 16 (.ref q69))) c_q60 n_q60
  have c_q69 := raw_set (e := .inr (6, ([.int (J 0), .ref q6, .ref q13, .int (J 1), .int (J 1), .int (J 0), .ref q30, .int (J 0), .ref q37, .ref q44, .int (J 0), .int (J 0), .int (J 0), .int (J 0), .ref q52, .ref q60, .null, .int (J 0), .null, .null, .null, .int (J 0), .int (J 0), .null, .null, .null, .null, .int (J 0)] : List Value).set 16 (.ref q69))) c_q69 n_q69
  have hF := Fr.set (e := .inr (6, ([.int (J 0), .ref q6, .ref q13, .int (J 1), .int (J 1), .int (J 0), .ref q30, .int (J 0), .ref q37, .ref q44, .int (J 0), .int (J 0), .int (J 0), .int (J 0), .ref q52, .ref q60, .null, .int (J 0), .null, .null, .null, .int (J 0), .int (J 0), .null, .null, .null, .null, .int (J 0)] : List Value).set 16 (.ref q69))) hF (Or.inl rfl)
  have hall := al_set (o := o) (e := .inr (6, ([.int (J 0), .ref q6, .ref q13, .int (J 1), .int (J 1), .int (J 0), .ref q30, .int (J 0), .ref q37, .ref q44, .int (J 0), .int (J 0), .int (J 0), .int (J 0), .ref q52, .ref q60, .null, .int (J 0), .null, .null, .null, .int (J 0), .int (J 0), .null, .null, .null, .null, .int (J 0)] : List Value).set 16 (.ref q69))) hall
  generalize uh h o (.inr (6, ([.int (J 0), .ref q6, .ref q13, .int (J 1), .int (J 1), .int (J 0), .ref q30, .int (J 0), .ref q37, .ref q44, .int (J 0), .int (J 0), .int (J 0), .int (J 0), .ref q52, .ref q60, .null, .int (J 0), .null, .null, .null, .int (J 0), .int (J 0), .null, .null, .null, .null, .int (J 0)] : List Value).set 16 (.ref q69))) = h at ho2 hF hall hW c_q6 c_q13 c_q30 c_q37 c_q44 c_q52 c_q60 c_q69
  have ho := ho2
  refine lv_aload_n hx hb dX6_init_74 rfl (lv_at hl 0 rfl) ?_
  refine lv_sipush (v := J (14641)) hx hb dX6_init_75 (by decide) ?_
  refine g_newl (n := 14641) hx hb (hts (.arrayClass .long) (by decide +kernel)) hk hW hS (by decide) (by decide) (Nat.le_of_ble_eq_true rfl) (Nat.le_of_ble_eq_true rfl) dX6_init_78 (fun q78 H hq78 hW hS => ?_)
  have f_q78 : h0 q78 = none := hF.none hq78
  have n_q78 : q78 ≠ o := raw_ne ho hq78
  have hnd := nd_new hnd hall hq78
  have hall := al_new (q := q78) (e := al g 14641 (fun _ => 0)) hall
  have ho := raw_new (e := al g 14641 (fun _ => 0)) ho hq78
  have c_q6 := raw_new (e := al g 14641 (fun _ => 0)) c_q6 hq78
  have c_q13 := raw_new (e := al g 14641 (fun _ => 0)) c_q13 hq78
  have c_q30 := raw_new (e := al g 14641 (fun _ => 0)) c_q30 hq78
  have c_q37 := raw_new (e := al g 14641 (fun _ => 0)) c_q37 hq78
  have c_q44 := raw_new (e := al g 14641 (fun _ => 0)) c_q44 hq78
  have c_q52 := raw_new (e := al g 14641 (fun _ => 0)) c_q52 hq78
  have c_q60 := raw_new (e := al g 14641 (fun _ => 0)) c_q60 hq78
  have c_q69 := raw_new (e := al g 14641 (fun _ => 0)) c_q69 hq78
  have c_q78 : uh h q78 (al g 14641 (fun _ => 0)) q78 = some (al g 14641 (fun _ => 0)) := uh_same _ _ _
  have hF := Fr.new (e := al g 14641 (fun _ => 0)) hF hq78
  generalize uh h q78 (al g 14641 (fun _ => 0)) = h at ho hF hall hW c_q78 c_q6 c_q13 c_q30 c_q37 c_q44 c_q52 c_q60 c_q69
  refine W.eq (g2 := F0 m 80 ls [.ref q78, .ref o]) rfl ?_
  refine g_putF (ci := 6) (C := RX6) (T := TX6) (N := 28) (ty := .array .long) (fs := [.int (J 0), .ref q6, .ref q13, .int (J 1), .int (J 1), .int (J 0), .ref q30, .int (J 0), .ref q37, .ref q44, .int (J 0), .int (J 0), .int (J 0), .int (J 0), .ref q52, .ref q60, .ref q69, .int (J 0), .null, .null, .null, .int (J 0), .int (J 0), .null, .null, .null, .null, .int (J 0)]) hx hb hfX6 (fun _ h9 => h9) tyX6 tyX6_ok nmX6 hown hk hW hS ho rfl 18 (by decide) (hts (.fieldLink RX6 42 "JugsAndGlassesModel" "rows" "[J") (by decide +kernel)) rfl rfl hin rfl (by decide +kernel) rfl rfl (by simp) dX6_init_80 (fun H locs hW hS => ?_)
  have ho2 : uh h o (.inr (6, ([.int (J 0), .ref q6, .ref q13, .int (J 1), .int (J 1), .int (J 0), .ref q30, .int (J 0), .ref q37, .ref q44, .int (J 0), .int (J 0), .int (J 0), .int (J 0), .ref q52, .ref q60, .ref q69, .int (J 0), .null, .null, .null, .int (J 0), .int (J 0), .null, .null, .null, .null, .int (J 0)] : List Value).set 18 (.ref q78))) o = some (.inr (6, [.int (J 0), .ref q6, .ref q13, .int (J 1), .int (J 1), .int (J 0), .ref q30, .int (J 0), .ref q37, .ref q44, .int (J 0), .int (J 0), .int (J 0), .int (J 0), .ref q52, .ref q60, .ref q69, .int (J 0), .ref q78, .null, .null, .int (J 0), .int (J 0), .null, .null, .null, .null, .int (J 0)])) := uh_same _ _ _
  have c_q6 := raw_set (e := .inr (6, ([.int (J 0), .ref q6, .ref q13, .int (J 1), .int (J 1), .int (J 0), .ref q30, .int (J 0), .ref q37, .ref q44, .int (J 0), .int (J 0), .int (J 0), .int (J 0), .ref q52, .ref q60, .ref q69, .int (J 0), .null, .null, .null, .int (J 0), .int (J 0), .null, .null, .null, .null, .int (J 0)] : List Value).set 18 (.ref q78))) c_q6 n_q6
  have c_q13 := raw_set (e := .inr (6, ([.int (J 0), .ref q6, .ref q13, .int (J 1), .int (J 1), .int (J 0), .ref q30, .int (J 0), .ref q37, .ref q44, .int (J 0), .int (J 0), .int (J 0), .int (J 0), .ref q52, .ref q60, .ref q69, .int (J 0), .null, .null, .null, .int (J 0), .int (J 0), .null, .null, .null, .null, .int (J 0)] : List Value).set 18 (.ref q78))) c_q13 n_q13
  have c_q30 := raw_set (e := .inr (6, ([.int (J 0), .ref q6, .ref q13, .int (J 1), .int (J 1), .int (J 0), .ref q30, .int (J 0), .ref q37, .ref q44, .int (J 0), .int (J 0), .int (J 0), .int (J 0), .ref q52, .ref q60, .ref q69, .int (J 0), .null, .null, .null, .int (J 0), .int (J 0), .null, .null, .null, .null, .int (J 0)] : List Value).set 18 (.ref q78))) c_q30 n_q30
  have c_q37 := raw_set (e := .inr (6, ([.int (J 0), .ref q6, .ref q13, .int (J 1), .int (J 1), .int (J 0), .ref q30, .int (J 0), .ref q37, .ref q44, .int (J 0), .int (J 0), .int (J 0), .int (J 0), .ref q52, .ref q60, .ref q69, .int (J 0), .null, .null, .null, .int (J 0), .int (J 0), .null, .null, .null, .null, .int (J 0)] : List Value).set 18 (.ref q78))) c_q37 n_q37
  have c_q44 := raw_set (e := .inr (6, ([.int (J 0), .ref q6, .ref q13, .int (J 1), .int (J 1), .int (J 0), .ref q30, .int (J 0), .ref q37, .ref q44, .int (J 0), .int (J 0), .int (J 0), .int (J 0), .ref q52, .ref q60, .ref q69, .int (J 0), .null, .null, .null, .int (J 0), .int (J 0), .null, .null, .null, .null, .int (J 0)] : List Value).set 18 (.ref q78))) c_q44 n_q44
  have c_q52 := raw_set (e := .inr (6, ([.int (J 0), .ref q6, .ref q13, .int (J 1), .int (J 1), .int (J 0), .ref q30, .int (J 0), .ref q37, .ref q44, .int (J 0), .int (J 0), .int (J 0), .int (J 0), .ref q52, .ref q60, .ref q69, .int (J 0), .null, .null, .null, .int (J 0), .int (J 0), .null, .null, .null, .null, .int (J 0)] : List Value).set 18 (.ref q78))) c_q52 n_q52
  have c_q60 := raw_set (e := .inr (6, ([.int (J 0), .ref q6, .ref q13, .int (J 1), .int (J 1), .int (J 0), .ref q30, .int (J 0), .ref q37, .ref q44, .int (J 0), .int (J 0), .int (J 0), .int (J 0), .ref q52, .ref q60, .ref q69, .int (J 0), .null, .null, .null, .int (J 0), .int (J 0), .null, .null, .null, .null, .int (J 0)] : List Value).set 18 (.ref q78))) c_q60 n_q60
  have c_q69 := raw_set (e := .inr (6, ([.int (J 0), .ref q6, .ref q13, .int (J 1), .int (J 1), .int (J 0), .ref q30, .int (J 0), .ref q37, .ref q44, .int (J 0), .int (J 0), .int (J 0), .int (J 0), .ref q52, .ref q60, .ref q69, .int (J 0), .null, .null, .null, .int (J 0), .int (J 0), .null, .null, .null, .null, .int (J 0)] : List Value).set 18 (.ref q78))) c_q69 n_q69
  have c_q78 := raw_set (e := .inr (6, ([.int (J 0), .ref q6, .ref q13, .int (J 1), .int (J 1), .int (J 0), .ref q30, .int (J 0), .ref q37, .ref q44, .int (J 0), .int (J 0), .int (J 0), .int (J 0), .ref q52, .ref q60, .ref q69, .int (J 0), .null, .null, .null, .int (J 0), .int (J 0), .null, .null, .null, .null, .int (J 0)] : List Value).set 18 (.ref q78))) c_q78 n_q78
  have hF := Fr.set (e := .inr (6, ([.int (J 0), .ref q6, .ref q13, .int (J 1), .int (J 1), .int (J 0), .ref q30, .int (J 0), .ref q37, .ref q44, .int (J 0), .int (J 0), .int (J 0), .int (J 0), .ref q52, .ref q60, .ref q69, .int (J 0), .null, .null, .null, .int (J 0), .int (J 0), .null, .null, .null, .null, .int (J 0)] : List Value).set 18 (.ref q78))) hF (Or.inl rfl)
  have hall := al_set (o := o) (e := .inr (6, ([.int (J 0), .ref q6, .ref q13, .int (J 1), .int (J 1), .int (J 0), .ref q30, .int (J 0), .ref q37, .ref q44, .int (J 0), .int (J 0), .int (J 0), .int (J 0), .ref q52, .ref q60, .ref q69, .int (J 0), .null, .null, .null, .int (J 0), .int (J 0), .null, .null, .null, .null, .int (J 0)] : List Value).set 18 (.ref q78))) hall
  generalize uh h o (.inr (6, ([.int (J 0), .ref q6, .ref q13, .int (J 1), .int (J 1), .int (J 0), .ref q30, .int (J 0), .ref q37, .ref q44, .int (J 0), .int (J 0), .int (J 0), .int (J 0), .ref q52, .ref q60, .ref q69, .int (J 0), .null, .null, .null, .int (J 0), .int (J 0), .null, .null, .null, .null, .int (J 0)] : List Value).set 18 (.ref q78))) = h at ho2 hF hall hW c_q6 c_q13 c_q30 c_q37 c_q44 c_q52 c_q60 c_q69 c_q78
  have ho := ho2
  refine lv_aload_n hx hb dX6_init_83 rfl (lv_at hl 0 rfl) ?_
  refine lv_sipush (v := J (14641)) hx hb dX6_init_84 (by decide) ?_
  refine g_newz (n := 14641) hx hb (hts (.arrayClass .boolean) (by decide +kernel)) hk hW hS (by decide) (by decide) (Nat.le_of_ble_eq_true rfl) (Nat.le_of_ble_eq_true rfl) dX6_init_87 (fun q87 H hq87 hW hS => ?_)
  have f_q87 : h0 q87 = none := hF.none hq87
  have n_q87 : q87 ≠ o := raw_ne ho hq87
  have hnd := nd_new hnd hall hq87
  have hall := al_new (q := q87) (e := az g 14641 (fun _ => 0)) hall
  have ho := raw_new (e := az g 14641 (fun _ => 0)) ho hq87
  have c_q6 := raw_new (e := az g 14641 (fun _ => 0)) c_q6 hq87
  have c_q13 := raw_new (e := az g 14641 (fun _ => 0)) c_q13 hq87
  have c_q30 := raw_new (e := az g 14641 (fun _ => 0)) c_q30 hq87
  have c_q37 := raw_new (e := az g 14641 (fun _ => 0)) c_q37 hq87
  have c_q44 := raw_new (e := az g 14641 (fun _ => 0)) c_q44 hq87
  have c_q52 := raw_new (e := az g 14641 (fun _ => 0)) c_q52 hq87
  have c_q60 := raw_new (e := az g 14641 (fun _ => 0)) c_q60 hq87
  have c_q69 := raw_new (e := az g 14641 (fun _ => 0)) c_q69 hq87
  have c_q78 := raw_new (e := az g 14641 (fun _ => 0)) c_q78 hq87
  have c_q87 : uh h q87 (az g 14641 (fun _ => 0)) q87 = some (az g 14641 (fun _ => 0)) := uh_same _ _ _
  have hF := Fr.new (e := az g 14641 (fun _ => 0)) hF hq87
  generalize uh h q87 (az g 14641 (fun _ => 0)) = h at ho hF hall hW c_q87 c_q6 c_q13 c_q30 c_q37 c_q44 c_q52 c_q60 c_q69 c_q78
  refine W.eq (g2 := F0 m 89 ls [.ref q87, .ref o]) rfl ?_
  refine g_putF (ci := 6) (C := RX6) (T := TX6) (N := 28) (ty := .array .boolean) (fs := [.int (J 0), .ref q6, .ref q13, .int (J 1), .int (J 1), .int (J 0), .ref q30, .int (J 0), .ref q37, .ref q44, .int (J 0), .int (J 0), .int (J 0), .int (J 0), .ref q52, .ref q60, .ref q69, .int (J 0), .ref q78, .null, .null, .int (J 0), .int (J 0), .null, .null, .null, .null, .int (J 0)]) hx hb hfX6 (fun _ h9 => h9) tyX6 tyX6_ok nmX6 hown hk hW hS ho rfl 19 (by decide) (hts (.fieldLink RX6 46 "JugsAndGlassesModel" "isReached" "[Z") (by decide +kernel)) rfl rfl hin rfl (by decide +kernel) rfl rfl (by simp) dX6_init_89 (fun H locs hW hS => ?_)
  have ho2 : uh h o (.inr (6, ([.int (J 0), .ref q6, .ref q13, .int (J 1), .int (J 1), .int (J 0), .ref q30, .int (J 0), .ref q37, .ref q44, .int (J 0), .int (J 0), .int (J 0), .int (J 0), .ref q52, .ref q60, .ref q69, .int (J 0), .ref q78, .null, .null, .int (J 0), .int (J 0), .null, .null, .null, .null, .int (J 0)] : List Value).set 19 (.ref q87))) o = some (.inr (6, [.int (J 0), .ref q6, .ref q13, .int (J 1), .int (J 1), .int (J 0), .ref q30, .int (J 0), .ref q37, .ref q44, .int (J 0), .int (J 0), .int (J 0), .int (J 0), .ref q52, .ref q60, .ref q69, .int (J 0), .ref q78, .ref q87, .null, .int (J 0), .int (J 0), .null, .null, .null, .null, .int (J 0)])) := uh_same _ _ _
  have c_q6 := raw_set (e := .inr (6, ([.int (J 0), .ref q6, .ref q13, .int (J 1), .int (J 1), .int (J 0), .ref q30, .int (J 0), .ref q37, .ref q44, .int (J 0), .int (J 0), .int (J 0), .int (J 0), .ref q52, .ref q60, .ref q69, .int (J 0), .ref q78, .null, .null, .int (J 0), .int (J 0), .null, .null, .null, .null, .int (J 0)] : List Value).set 19 (.ref q87))) c_q6 n_q6
  have c_q13 := raw_set (e := .inr (6, ([.int (J 0), .ref q6, .ref q13, .int (J 1), .int (J 1), .int (J 0), .ref q30, .int (J 0), .ref q37, .ref q44, .int (J 0), .int (J 0), .int (J 0), .int (J 0), .ref q52, .ref q60, .ref q69, .int (J 0), .ref q78, .null, .null, .int (J 0), .int (J 0), .null, .null, .null, .null, .int (J 0)] : List Value).set 19 (.ref q87))) c_q13 n_q13
  have c_q30 := raw_set (e := .inr (6, ([.int (J 0), .ref q6, .ref q13, .int (J 1), .int (J 1), .int (J 0), .ref q30, .int (J 0), .ref q37, .ref q44, .int (J 0), .int (J 0), .int (J 0), .int (J 0), .ref q52, .ref q60, .ref q69, .int (J 0), .ref q78, .null, .null, .int (J 0), .int (J 0), .null, .null, .null, .null, .int (J 0)] : List Value).set 19 (.ref q87))) c_q30 n_q30
  have c_q37 := raw_set (e := .inr (6, ([.int (J 0), .ref q6, .ref q13, .int (J 1), .int (J 1), .int (J 0), .ref q30, .int (J 0), .ref q37, .ref q44, .int (J 0), .int (J 0), .int (J 0), .int (J 0), .ref q52, .ref q60, .ref q69, .int (J 0), .ref q78, .null, .null, .int (J 0), .int (J 0), .null, .null, .null, .null, .int (J 0)] : List Value).set 19 (.ref q87))) c_q37 n_q37
  have c_q44 := raw_set (e := .inr (6, ([.int (J 0), .ref q6, .ref q13, .int (J 1), .int (J 1), .int (J 0), .ref q30, .int (J 0), .ref q37, .ref q44, .int (J 0), .int (J 0), .int (J 0), .int (J 0), .ref q52, .ref q60, .ref q69, .int (J 0), .ref q78, .null, .null, .int (J 0), .int (J 0), .null, .null, .null, .null, .int (J 0)] : List Value).set 19 (.ref q87))) c_q44 n_q44
  have c_q52 := raw_set (e := .inr (6, ([.int (J 0), .ref q6, .ref q13, .int (J 1), .int (J 1), .int (J 0), .ref q30, .int (J 0), .ref q37, .ref q44, .int (J 0), .int (J 0), .int (J 0), .int (J 0), .ref q52, .ref q60, .ref q69, .int (J 0), .ref q78, .null, .null, .int (J 0), .int (J 0), .null, .null, .null, .null, .int (J 0)] : List Value).set 19 (.ref q87))) c_q52 n_q52
  have c_q60 := raw_set (e := .inr (6, ([.int (J 0), .ref q6, .ref q13, .int (J 1), .int (J 1), .int (J 0), .ref q30, .int (J 0), .ref q37, .ref q44, .int (J 0), .int (J 0), .int (J 0), .int (J 0), .ref q52, .ref q60, .ref q69, .int (J 0), .ref q78, .null, .null, .int (J 0), .int (J 0), .null, .null, .null, .null, .int (J 0)] : List Value).set 19 (.ref q87))) c_q60 n_q60
  have c_q69 := raw_set (e := .inr (6, ([.int (J 0), .ref q6, .ref q13, .int (J 1), .int (J 1), .int (J 0), .ref q30, .int (J 0), .ref q37, .ref q44, .int (J 0), .int (J 0), .int (J 0), .int (J 0), .ref q52, .ref q60, .ref q69, .int (J 0), .ref q78, .null, .null, .int (J 0), .int (J 0), .null, .null, .null, .null, .int (J 0)] : List Value).set 19 (.ref q87))) c_q69 n_q69
  have c_q78 := raw_set (e := .inr (6, ([.int (J 0), .ref q6, .ref q13, .int (J 1), .int (J 1), .int (J 0), .ref q30, .int (J 0), .ref q37, .ref q44, .int (J 0), .int (J 0), .int (J 0), .int (J 0), .ref q52, .ref q60, .ref q69, .int (J 0), .ref q78, .null, .null, .int (J 0), .int (J 0), .null, .null, .null, .null, .int (J 0)] : List Value).set 19 (.ref q87))) c_q78 n_q78
  have c_q87 := raw_set (e := .inr (6, ([.int (J 0), .ref q6, .ref q13, .int (J 1), .int (J 1), .int (J 0), .ref q30, .int (J 0), .ref q37, .ref q44, .int (J 0), .int (J 0), .int (J 0), .int (J 0), .ref q52, .ref q60, .ref q69, .int (J 0), .ref q78, .null, .null, .int (J 0), .int (J 0), .null, .null, .null, .null, .int (J 0)] : List Value).set 19 (.ref q87))) c_q87 n_q87
  have hF := Fr.set (e := .inr (6, ([.int (J 0), .ref q6, .ref q13, .int (J 1), .int (J 1), .int (J 0), .ref q30, .int (J 0), .ref q37, .ref q44, .int (J 0), .int (J 0), .int (J 0), .int (J 0), .ref q52, .ref q60, .ref q69, .int (J 0), .ref q78, .null, .null, .int (J 0), .int (J 0), .null, .null, .null, .null, .int (J 0)] : List Value).set 19 (.ref q87))) hF (Or.inl rfl)
  have hall := al_set (o := o) (e := .inr (6, ([.int (J 0), .ref q6, .ref q13, .int (J 1), .int (J 1), .int (J 0), .ref q30, .int (J 0), .ref q37, .ref q44, .int (J 0), .int (J 0), .int (J 0), .int (J 0), .ref q52, .ref q60, .ref q69, .int (J 0), .ref q78, .null, .null, .int (J 0), .int (J 0), .null, .null, .null, .null, .int (J 0)] : List Value).set 19 (.ref q87))) hall
  generalize uh h o (.inr (6, ([.int (J 0), .ref q6, .ref q13, .int (J 1), .int (J 1), .int (J 0), .ref q30, .int (J 0), .ref q37, .ref q44, .int (J 0), .int (J 0), .int (J 0), .int (J 0), .ref q52, .ref q60, .ref q69, .int (J 0), .ref q78, .null, .null, .int (J 0), .int (J 0), .null, .null, .null, .null, .int (J 0)] : List Value).set 19 (.ref q87))) = h at ho2 hF hall hW c_q6 c_q13 c_q30 c_q37 c_q44 c_q52 c_q60 c_q69 c_q78 c_q87
  have ho := ho2
  refine lv_aload_n hx hb dX6_init_92 rfl (lv_at hl 0 rfl) ?_
  refine lv_sipush (v := J (14641)) hx hb dX6_init_93 (by decide) ?_
  refine g_newi (n := 14641) hx hb (hts (.arrayClass .int) (by decide +kernel)) hk hW hS (by decide) (by decide) (Nat.le_of_ble_eq_true rfl) (Nat.le_of_ble_eq_true rfl) dX6_init_96 (fun q96 H hq96 hW hS => ?_)
  have f_q96 : h0 q96 = none := hF.none hq96
  have n_q96 : q96 ≠ o := raw_ne ho hq96
  have hnd := nd_new hnd hall hq96
  have hall := al_new (q := q96) (e := ai g 14641 (fun _ => 0)) hall
  have ho := raw_new (e := ai g 14641 (fun _ => 0)) ho hq96
  have c_q6 := raw_new (e := ai g 14641 (fun _ => 0)) c_q6 hq96
  have c_q13 := raw_new (e := ai g 14641 (fun _ => 0)) c_q13 hq96
  have c_q30 := raw_new (e := ai g 14641 (fun _ => 0)) c_q30 hq96
  have c_q37 := raw_new (e := ai g 14641 (fun _ => 0)) c_q37 hq96
  have c_q44 := raw_new (e := ai g 14641 (fun _ => 0)) c_q44 hq96
  have c_q52 := raw_new (e := ai g 14641 (fun _ => 0)) c_q52 hq96
  have c_q60 := raw_new (e := ai g 14641 (fun _ => 0)) c_q60 hq96
  have c_q69 := raw_new (e := ai g 14641 (fun _ => 0)) c_q69 hq96
  have c_q78 := raw_new (e := ai g 14641 (fun _ => 0)) c_q78 hq96
  have c_q87 := raw_new (e := ai g 14641 (fun _ => 0)) c_q87 hq96
  have c_q96 : uh h q96 (ai g 14641 (fun _ => 0)) q96 = some (ai g 14641 (fun _ => 0)) := uh_same _ _ _
  have hF := Fr.new (e := ai g 14641 (fun _ => 0)) hF hq96
  generalize uh h q96 (ai g 14641 (fun _ => 0)) = h at ho hF hall hW c_q96 c_q6 c_q13 c_q30 c_q37 c_q44 c_q52 c_q60 c_q69 c_q78 c_q87
  refine W.eq (g2 := F0 m 98 ls [.ref q96, .ref o]) rfl ?_
  refine g_putF (ci := 6) (C := RX6) (T := TX6) (N := 28) (ty := .array .int) (fs := [.int (J 0), .ref q6, .ref q13, .int (J 1), .int (J 1), .int (J 0), .ref q30, .int (J 0), .ref q37, .ref q44, .int (J 0), .int (J 0), .int (J 0), .int (J 0), .ref q52, .ref q60, .ref q69, .int (J 0), .ref q78, .ref q87, .null, .int (J 0), .int (J 0), .null, .null, .null, .null, .int (J 0)]) hx hb hfX6 (fun _ h9 => h9) tyX6 tyX6_ok nmX6 hown hk hW hS ho rfl 20 (by decide) (hts (.fieldLink RX6 50 "JugsAndGlassesModel" "queue" "[I") (by decide +kernel)) rfl rfl hin rfl (by decide +kernel) rfl rfl (by simp) dX6_init_98 (fun H locs hW hS => ?_)
  have ho2 : uh h o (.inr (6, ([.int (J 0), .ref q6, .ref q13, .int (J 1), .int (J 1), .int (J 0), .ref q30, .int (J 0), .ref q37, .ref q44, .int (J 0), .int (J 0), .int (J 0), .int (J 0), .ref q52, .ref q60, .ref q69, .int (J 0), .ref q78, .ref q87, .null, .int (J 0), .int (J 0), .null, .null, .null, .null, .int (J 0)] : List Value).set 20 (.ref q96))) o = some (.inr (6, [.int (J 0), .ref q6, .ref q13, .int (J 1), .int (J 1), .int (J 0), .ref q30, .int (J 0), .ref q37, .ref q44, .int (J 0), .int (J 0), .int (J 0), .int (J 0), .ref q52, .ref q60, .ref q69, .int (J 0), .ref q78, .ref q87, .ref q96, .int (J 0), .int (J 0), .null, .null, .null, .null, .int (J 0)])) := uh_same _ _ _
  have c_q6 := raw_set (e := .inr (6, ([.int (J 0), .ref q6, .ref q13, .int (J 1), .int (J 1), .int (J 0), .ref q30, .int (J 0), .ref q37, .ref q44, .int (J 0), .int (J 0), .int (J 0), .int (J 0), .ref q52, .ref q60, .ref q69, .int (J 0), .ref q78, .ref q87, .null, .int (J 0), .int (J 0), .null, .null, .null, .null, .int (J 0)] : List Value).set 20 (.ref q96))) c_q6 n_q6
  have c_q13 := raw_set (e := .inr (6, ([.int (J 0), .ref q6, .ref q13, .int (J 1), .int (J 1), .int (J 0), .ref q30, .int (J 0), .ref q37, .ref q44, .int (J 0), .int (J 0), .int (J 0), .int (J 0), .ref q52, .ref q60, .ref q69, .int (J 0), .ref q78, .ref q87, .null, .int (J 0), .int (J 0), .null, .null, .null, .null, .int (J 0)] : List Value).set 20 (.ref q96))) c_q13 n_q13
  have c_q30 := raw_set (e := .inr (6, ([.int (J 0), .ref q6, .ref q13, .int (J 1), .int (J 1), .int (J 0), .ref q30, .int (J 0), .ref q37, .ref q44, .int (J 0), .int (J 0), .int (J 0), .int (J 0), .ref q52, .ref q60, .ref q69, .int (J 0), .ref q78, .ref q87, .null, .int (J 0), .int (J 0), .null, .null, .null, .null, .int (J 0)] : List Value).set 20 (.ref q96))) c_q30 n_q30
  have c_q37 := raw_set (e := .inr (6, ([.int (J 0), .ref q6, .ref q13, .int (J 1), .int (J 1), .int (J 0), .ref q30, .int (J 0), .ref q37, .ref q44, .int (J 0), .int (J 0), .int (J 0), .int (J 0), .ref q52, .ref q60, .ref q69, .int (J 0), .ref q78, .ref q87, .null, .int (J 0), .int (J 0), .null, .null, .null, .null, .int (J 0)] : List Value).set 20 (.ref q96))) c_q37 n_q37
  have c_q44 := raw_set (e := .inr (6, ([.int (J 0), .ref q6, .ref q13, .int (J 1), .int (J 1), .int (J 0), .ref q30, .int (J 0), .ref q37, .ref q44, .int (J 0), .int (J 0), .int (J 0), .int (J 0), .ref q52, .ref q60, .ref q69, .int (J 0), .ref q78, .ref q87, .null, .int (J 0), .int (J 0), .null, .null, .null, .null, .int (J 0)] : List Value).set 20 (.ref q96))) c_q44 n_q44
  have c_q52 := raw_set (e := .inr (6, ([.int (J 0), .ref q6, .ref q13, .int (J 1), .int (J 1), .int (J 0), .ref q30, .int (J 0), .ref q37, .ref q44, .int (J 0), .int (J 0), .int (J 0), .int (J 0), .ref q52, .ref q60, .ref q69, .int (J 0), .ref q78, .ref q87, .null, .int (J 0), .int (J 0), .null, .null, .null, .null, .int (J 0)] : List Value).set 20 (.ref q96))) c_q52 n_q52
  have c_q60 := raw_set (e := .inr (6, ([.int (J 0), .ref q6, .ref q13, .int (J 1), .int (J 1), .int (J 0), .ref q30, .int (J 0), .ref q37, .ref q44, .int (J 0), .int (J 0), .int (J 0), .int (J 0), .ref q52, .ref q60, .ref q69, .int (J 0), .ref q78, .ref q87, .null, .int (J 0), .int (J 0), .null, .null, .null, .null, .int (J 0)] : List Value).set 20 (.ref q96))) c_q60 n_q60
  have c_q69 := raw_set (e := .inr (6, ([.int (J 0), .ref q6, .ref q13, .int (J 1), .int (J 1), .int (J 0), .ref q30, .int (J 0), .ref q37, .ref q44, .int (J 0), .int (J 0), .int (J 0), .int (J 0), .ref q52, .ref q60, .ref q69, .int (J 0), .ref q78, .ref q87, .null, .int (J 0), .int (J 0), .null, .null, .null, .null, .int (J 0)] : List Value).set 20 (.ref q96))) c_q69 n_q69
  have c_q78 := raw_set (e := .inr (6, ([.int (J 0), .ref q6, .ref q13, .int (J 1), .int (J 1), .int (J 0), .ref q30, .int (J 0), .ref q37, .ref q44, .int (J 0), .int (J 0), .int (J 0), .int (J 0), .ref q52, .ref q60, .ref q69, .int (J 0), .ref q78, .ref q87, .null, .int (J 0), .int (J 0), .null, .null, .null, .null, .int (J 0)] : List Value).set 20 (.ref q96))) c_q78 n_q78
  have c_q87 := raw_set (e := .inr (6, ([.int (J 0), .ref q6, .ref q13, .int (J 1), .int (J 1), .int (J 0), .ref q30, .int (J 0), .ref q37, .ref q44, .int (J 0), .int (J 0), .int (J 0), .int (J 0), .ref q52, .ref q60, .ref q69, .int (J 0), .ref q78, .ref q87, .null, .int (J 0), .int (J 0), .null, .null, .null, .null, .int (J 0)] : List Value).set 20 (.ref q96))) c_q87 n_q87
  have c_q96 := raw_set (e := .inr (6, ([.int (J 0), .ref q6, .ref q13, .int (J 1), .int (J 1), .int (J 0), .ref q30, .int (J 0), .ref q37, .ref q44, .int (J 0), .int (J 0), .int (J 0), .int (J 0), .ref q52, .ref q60, .ref q69, .int (J 0), .ref q78, .ref q87, .null, .int (J 0), .int (J 0), .null, .null, .null, .null, .int (J 0)] : List Value).set 20 (.ref q96))) c_q96 n_q96
  have hF := Fr.set (e := .inr (6, ([.int (J 0), .ref q6, .ref q13, .int (J 1), .int (J 1), .int (J 0), .ref q30, .int (J 0), .ref q37, .ref q44, .int (J 0), .int (J 0), .int (J 0), .int (J 0), .ref q52, .ref q60, .ref q69, .int (J 0), .ref q78, .ref q87, .null, .int (J 0), .int (J 0), .null, .null, .null, .null, .int (J 0)] : List Value).set 20 (.ref q96))) hF (Or.inl rfl)
  have hall := al_set (o := o) (e := .inr (6, ([.int (J 0), .ref q6, .ref q13, .int (J 1), .int (J 1), .int (J 0), .ref q30, .int (J 0), .ref q37, .ref q44, .int (J 0), .int (J 0), .int (J 0), .int (J 0), .ref q52, .ref q60, .ref q69, .int (J 0), .ref q78, .ref q87, .null, .int (J 0), .int (J 0), .null, .null, .null, .null, .int (J 0)] : List Value).set 20 (.ref q96))) hall
  generalize uh h o (.inr (6, ([.int (J 0), .ref q6, .ref q13, .int (J 1), .int (J 1), .int (J 0), .ref q30, .int (J 0), .ref q37, .ref q44, .int (J 0), .int (J 0), .int (J 0), .int (J 0), .ref q52, .ref q60, .ref q69, .int (J 0), .ref q78, .ref q87, .null, .int (J 0), .int (J 0), .null, .null, .null, .null, .int (J 0)] : List Value).set 20 (.ref q96))) = h at ho2 hF hall hW c_q6 c_q13 c_q30 c_q37 c_q44 c_q52 c_q60 c_q69 c_q78 c_q87 c_q96
  have ho := ho2
  refine lv_aload_n hx hb dX6_init_101 rfl (lv_at hl 0 rfl) ?_
  refine lv_sipush (v := J (17576)) hx hb dX6_init_102 (by decide) ?_
  refine g_newi (n := 17576) hx hb (hts (.arrayClass .int) (by decide +kernel)) hk hW hS (by decide) (by decide) (Nat.le_of_ble_eq_true rfl) (Nat.le_of_ble_eq_true rfl) dX6_init_105 (fun q105 H hq105 hW hS => ?_)
  have f_q105 : h0 q105 = none := hF.none hq105
  have n_q105 : q105 ≠ o := raw_ne ho hq105
  have hnd := nd_new hnd hall hq105
  have hall := al_new (q := q105) (e := ai g 17576 (fun _ => 0)) hall
  have ho := raw_new (e := ai g 17576 (fun _ => 0)) ho hq105
  have c_q6 := raw_new (e := ai g 17576 (fun _ => 0)) c_q6 hq105
  have c_q13 := raw_new (e := ai g 17576 (fun _ => 0)) c_q13 hq105
  have c_q30 := raw_new (e := ai g 17576 (fun _ => 0)) c_q30 hq105
  have c_q37 := raw_new (e := ai g 17576 (fun _ => 0)) c_q37 hq105
  have c_q44 := raw_new (e := ai g 17576 (fun _ => 0)) c_q44 hq105
  have c_q52 := raw_new (e := ai g 17576 (fun _ => 0)) c_q52 hq105
  have c_q60 := raw_new (e := ai g 17576 (fun _ => 0)) c_q60 hq105
  have c_q69 := raw_new (e := ai g 17576 (fun _ => 0)) c_q69 hq105
  have c_q78 := raw_new (e := ai g 17576 (fun _ => 0)) c_q78 hq105
  have c_q87 := raw_new (e := ai g 17576 (fun _ => 0)) c_q87 hq105
  have c_q96 := raw_new (e := ai g 17576 (fun _ => 0)) c_q96 hq105
  have c_q105 : uh h q105 (ai g 17576 (fun _ => 0)) q105 = some (ai g 17576 (fun _ => 0)) := uh_same _ _ _
  have hF := Fr.new (e := ai g 17576 (fun _ => 0)) hF hq105
  generalize uh h q105 (ai g 17576 (fun _ => 0)) = h at ho hF hall hW c_q105 c_q6 c_q13 c_q30 c_q37 c_q44 c_q52 c_q60 c_q69 c_q78 c_q87 c_q96
  refine W.eq (g2 := F0 m 107 ls [.ref q105, .ref o]) rfl ?_
  refine g_putF (ci := 6) (C := RX6) (T := TX6) (N := 28) (ty := .array .int) (fs := [.int (J 0), .ref q6, .ref q13, .int (J 1), .int (J 1), .int (J 0), .ref q30, .int (J 0), .ref q37, .ref q44, .int (J 0), .int (J 0), .int (J 0), .int (J 0), .ref q52, .ref q60, .ref q69, .int (J 0), .ref q78, .ref q87, .ref q96, .int (J 0), .int (J 0), .null, .null, .null, .null, .int (J 0)]) hx hb hfX6 (fun _ h9 => h9) tyX6 tyX6_ok nmX6 hown hk hW hS ho rfl 23 (by decide) (hts (.fieldLink RX6 53 "JugsAndGlassesModel" "comes" "[I") (by decide +kernel)) rfl rfl hin rfl (by decide +kernel) rfl rfl (by simp) dX6_init_107 (fun H locs hW hS => ?_)
  have ho2 : uh h o (.inr (6, ([.int (J 0), .ref q6, .ref q13, .int (J 1), .int (J 1), .int (J 0), .ref q30, .int (J 0), .ref q37, .ref q44, .int (J 0), .int (J 0), .int (J 0), .int (J 0), .ref q52, .ref q60, .ref q69, .int (J 0), .ref q78, .ref q87, .ref q96, .int (J 0), .int (J 0), .null, .null, .null, .null, .int (J 0)] : List Value).set 23 (.ref q105))) o = some (.inr (6, [.int (J 0), .ref q6, .ref q13, .int (J 1), .int (J 1), .int (J 0), .ref q30, .int (J 0), .ref q37, .ref q44, .int (J 0), .int (J 0), .int (J 0), .int (J 0), .ref q52, .ref q60, .ref q69, .int (J 0), .ref q78, .ref q87, .ref q96, .int (J 0), .int (J 0), .ref q105, .null, .null, .null, .int (J 0)])) := uh_same _ _ _
  have c_q6 := raw_set (e := .inr (6, ([.int (J 0), .ref q6, .ref q13, .int (J 1), .int (J 1), .int (J 0), .ref q30, .int (J 0), .ref q37, .ref q44, .int (J 0), .int (J 0), .int (J 0), .int (J 0), .ref q52, .ref q60, .ref q69, .int (J 0), .ref q78, .ref q87, .ref q96, .int (J 0), .int (J 0), .null, .null, .null, .null, .int (J 0)] : List Value).set 23 (.ref q105))) c_q6 n_q6
  have c_q13 := raw_set (e := .inr (6, ([.int (J 0), .ref q6, .ref q13, .int (J 1), .int (J 1), .int (J 0), .ref q30, .int (J 0), .ref q37, .ref q44, .int (J 0), .int (J 0), .int (J 0), .int (J 0), .ref q52, .ref q60, .ref q69, .int (J 0), .ref q78, .ref q87, .ref q96, .int (J 0), .int (J 0), .null, .null, .null, .null, .int (J 0)] : List Value).set 23 (.ref q105))) c_q13 n_q13
  have c_q30 := raw_set (e := .inr (6, ([.int (J 0), .ref q6, .ref q13, .int (J 1), .int (J 1), .int (J 0), .ref q30, .int (J 0), .ref q37, .ref q44, .int (J 0), .int (J 0), .int (J 0), .int (J 0), .ref q52, .ref q60, .ref q69, .int (J 0), .ref q78, .ref q87, .ref q96, .int (J 0), .int (J 0), .null, .null, .null, .null, .int (J 0)] : List Value).set 23 (.ref q105))) c_q30 n_q30
  have c_q37 := raw_set (e := .inr (6, ([.int (J 0), .ref q6, .ref q13, .int (J 1), .int (J 1), .int (J 0), .ref q30, .int (J 0), .ref q37, .ref q44, .int (J 0), .int (J 0), .int (J 0), .int (J 0), .ref q52, .ref q60, .ref q69, .int (J 0), .ref q78, .ref q87, .ref q96, .int (J 0), .int (J 0), .null, .null, .null, .null, .int (J 0)] : List Value).set 23 (.ref q105))) c_q37 n_q37
  have c_q44 := raw_set (e := .inr (6, ([.int (J 0), .ref q6, .ref q13, .int (J 1), .int (J 1), .int (J 0), .ref q30, .int (J 0), .ref q37, .ref q44, .int (J 0), .int (J 0), .int (J 0), .int (J 0), .ref q52, .ref q60, .ref q69, .int (J 0), .ref q78, .ref q87, .ref q96, .int (J 0), .int (J 0), .null, .null, .null, .null, .int (J 0)] : List Value).set 23 (.ref q105))) c_q44 n_q44
  have c_q52 := raw_set (e := .inr (6, ([.int (J 0), .ref q6, .ref q13, .int (J 1), .int (J 1), .int (J 0), .ref q30, .int (J 0), .ref q37, .ref q44, .int (J 0), .int (J 0), .int (J 0), .int (J 0), .ref q52, .ref q60, .ref q69, .int (J 0), .ref q78, .ref q87, .ref q96, .int (J 0), .int (J 0), .null, .null, .null, .null, .int (J 0)] : List Value).set 23 (.ref q105))) c_q52 n_q52
  have c_q60 := raw_set (e := .inr (6, ([.int (J 0), .ref q6, .ref q13, .int (J 1), .int (J 1), .int (J 0), .ref q30, .int (J 0), .ref q37, .ref q44, .int (J 0), .int (J 0), .int (J 0), .int (J 0), .ref q52, .ref q60, .ref q69, .int (J 0), .ref q78, .ref q87, .ref q96, .int (J 0), .int (J 0), .null, .null, .null, .null, .int (J 0)] : List Value).set 23 (.ref q105))) c_q60 n_q60
  have c_q69 := raw_set (e := .inr (6, ([.int (J 0), .ref q6, .ref q13, .int (J 1), .int (J 1), .int (J 0), .ref q30, .int (J 0), .ref q37, .ref q44, .int (J 0), .int (J 0), .int (J 0), .int (J 0), .ref q52, .ref q60, .ref q69, .int (J 0), .ref q78, .ref q87, .ref q96, .int (J 0), .int (J 0), .null, .null, .null, .null, .int (J 0)] : List Value).set 23 (.ref q105))) c_q69 n_q69
  have c_q78 := raw_set (e := .inr (6, ([.int (J 0), .ref q6, .ref q13, .int (J 1), .int (J 1), .int (J 0), .ref q30, .int (J 0), .ref q37, .ref q44, .int (J 0), .int (J 0), .int (J 0), .int (J 0), .ref q52, .ref q60, .ref q69, .int (J 0), .ref q78, .ref q87, .ref q96, .int (J 0), .int (J 0), .null, .null, .null, .null, .int (J 0)] : List Value).set 23 (.ref q105))) c_q78 n_q78
  have c_q87 := raw_set (e := .inr (6, ([.int (J 0), .ref q6, .ref q13, .int (J 1), .int (J 1), .int (J 0), .ref q30, .int (J 0), .ref q37, .ref q44, .int (J 0), .int (J 0), .int (J 0), .int (J 0), .ref q52, .ref q60, .ref q69, .int (J 0), .ref q78, .ref q87, .ref q96, .int (J 0), .int (J 0), .null, .null, .null, .null, .int (J 0)] : List Value).set 23 (.ref q105))) c_q87 n_q87
  have c_q96 := raw_set (e := .inr (6, ([.int (J 0), .ref q6, .ref q13, .int (J 1), .int (J 1), .int (J 0), .ref q30, .int (J 0), .ref q37, .ref q44, .int (J 0), .int (J 0), .int (J 0), .int (J 0), .ref q52, .ref q60, .ref q69, .int (J 0), .ref q78, .ref q87, .ref q96, .int (J 0), .int (J 0), .null, .null, .null, .null, .int (J 0)] : List Value).set 23 (.ref q105))) c_q96 n_q96
  have c_q105 := raw_set (e := .inr (6, ([.int (J 0), .ref q6, .ref q13, .int (J 1), .int (J 1), .int (J 0), .ref q30, .int (J 0), .ref q37, .ref q44, .int (J 0), .int (J 0), .int (J 0), .int (J 0), .ref q52, .ref q60, .ref q69, .int (J 0), .ref q78, .ref q87, .ref q96, .int (J 0), .int (J 0), .null, .null, .null, .null, .int (J 0)] : List Value).set 23 (.ref q105))) c_q105 n_q105
  have hF := Fr.set (e := .inr (6, ([.int (J 0), .ref q6, .ref q13, .int (J 1), .int (J 1), .int (J 0), .ref q30, .int (J 0), .ref q37, .ref q44, .int (J 0), .int (J 0), .int (J 0), .int (J 0), .ref q52, .ref q60, .ref q69, .int (J 0), .ref q78, .ref q87, .ref q96, .int (J 0), .int (J 0), .null, .null, .null, .null, .int (J 0)] : List Value).set 23 (.ref q105))) hF (Or.inl rfl)
  have hall := al_set (o := o) (e := .inr (6, ([.int (J 0), .ref q6, .ref q13, .int (J 1), .int (J 1), .int (J 0), .ref q30, .int (J 0), .ref q37, .ref q44, .int (J 0), .int (J 0), .int (J 0), .int (J 0), .ref q52, .ref q60, .ref q69, .int (J 0), .ref q78, .ref q87, .ref q96, .int (J 0), .int (J 0), .null, .null, .null, .null, .int (J 0)] : List Value).set 23 (.ref q105))) hall
  generalize uh h o (.inr (6, ([.int (J 0), .ref q6, .ref q13, .int (J 1), .int (J 1), .int (J 0), .ref q30, .int (J 0), .ref q37, .ref q44, .int (J 0), .int (J 0), .int (J 0), .int (J 0), .ref q52, .ref q60, .ref q69, .int (J 0), .ref q78, .ref q87, .ref q96, .int (J 0), .int (J 0), .null, .null, .null, .null, .int (J 0)] : List Value).set 23 (.ref q105))) = h at ho2 hF hall hW c_q6 c_q13 c_q30 c_q37 c_q44 c_q52 c_q60 c_q69 c_q78 c_q87 c_q96 c_q105
  have ho := ho2
  refine lv_aload_n hx hb dX6_init_110 rfl (lv_at hl 0 rfl) ?_
  refine lv_sipush (v := J (17576)) hx hb dX6_init_111 (by decide) ?_
  refine g_newi (n := 17576) hx hb (hts (.arrayClass .int) (by decide +kernel)) hk hW hS (by decide) (by decide) (Nat.le_of_ble_eq_true rfl) (Nat.le_of_ble_eq_true rfl) dX6_init_114 (fun q114 H hq114 hW hS => ?_)
  have f_q114 : h0 q114 = none := hF.none hq114
  have n_q114 : q114 ≠ o := raw_ne ho hq114
  have hnd := nd_new hnd hall hq114
  have hall := al_new (q := q114) (e := ai g 17576 (fun _ => 0)) hall
  have ho := raw_new (e := ai g 17576 (fun _ => 0)) ho hq114
  have c_q6 := raw_new (e := ai g 17576 (fun _ => 0)) c_q6 hq114
  have c_q13 := raw_new (e := ai g 17576 (fun _ => 0)) c_q13 hq114
  have c_q30 := raw_new (e := ai g 17576 (fun _ => 0)) c_q30 hq114
  have c_q37 := raw_new (e := ai g 17576 (fun _ => 0)) c_q37 hq114
  have c_q44 := raw_new (e := ai g 17576 (fun _ => 0)) c_q44 hq114
  have c_q52 := raw_new (e := ai g 17576 (fun _ => 0)) c_q52 hq114
  have c_q60 := raw_new (e := ai g 17576 (fun _ => 0)) c_q60 hq114
  have c_q69 := raw_new (e := ai g 17576 (fun _ => 0)) c_q69 hq114
  have c_q78 := raw_new (e := ai g 17576 (fun _ => 0)) c_q78 hq114
  have c_q87 := raw_new (e := ai g 17576 (fun _ => 0)) c_q87 hq114
  have c_q96 := raw_new (e := ai g 17576 (fun _ => 0)) c_q96 hq114
  have c_q105 := raw_new (e := ai g 17576 (fun _ => 0)) c_q105 hq114
  have c_q114 : uh h q114 (ai g 17576 (fun _ => 0)) q114 = some (ai g 17576 (fun _ => 0)) := uh_same _ _ _
  have hF := Fr.new (e := ai g 17576 (fun _ => 0)) hF hq114
  generalize uh h q114 (ai g 17576 (fun _ => 0)) = h at ho hF hall hW c_q114 c_q6 c_q13 c_q30 c_q37 c_q44 c_q52 c_q60 c_q69 c_q78 c_q87 c_q96 c_q105
  refine W.eq (g2 := F0 m 116 ls [.ref q114, .ref o]) rfl ?_
  refine g_putF (ci := 6) (C := RX6) (T := TX6) (N := 28) (ty := .array .int) (fs := [.int (J 0), .ref q6, .ref q13, .int (J 1), .int (J 1), .int (J 0), .ref q30, .int (J 0), .ref q37, .ref q44, .int (J 0), .int (J 0), .int (J 0), .int (J 0), .ref q52, .ref q60, .ref q69, .int (J 0), .ref q78, .ref q87, .ref q96, .int (J 0), .int (J 0), .ref q105, .null, .null, .null, .int (J 0)]) hx hb hfX6 (fun _ h9 => h9) tyX6 tyX6_ok nmX6 hown hk hW hS ho rfl 24 (by decide) (hts (.fieldLink RX6 56 "JugsAndGlassesModel" "takes" "[I") (by decide +kernel)) rfl rfl hin rfl (by decide +kernel) rfl rfl (by simp) dX6_init_116 (fun H locs hW hS => ?_)
  have ho2 : uh h o (.inr (6, ([.int (J 0), .ref q6, .ref q13, .int (J 1), .int (J 1), .int (J 0), .ref q30, .int (J 0), .ref q37, .ref q44, .int (J 0), .int (J 0), .int (J 0), .int (J 0), .ref q52, .ref q60, .ref q69, .int (J 0), .ref q78, .ref q87, .ref q96, .int (J 0), .int (J 0), .ref q105, .null, .null, .null, .int (J 0)] : List Value).set 24 (.ref q114))) o = some (.inr (6, [.int (J 0), .ref q6, .ref q13, .int (J 1), .int (J 1), .int (J 0), .ref q30, .int (J 0), .ref q37, .ref q44, .int (J 0), .int (J 0), .int (J 0), .int (J 0), .ref q52, .ref q60, .ref q69, .int (J 0), .ref q78, .ref q87, .ref q96, .int (J 0), .int (J 0), .ref q105, .ref q114, .null, .null, .int (J 0)])) := uh_same _ _ _
  have c_q6 := raw_set (e := .inr (6, ([.int (J 0), .ref q6, .ref q13, .int (J 1), .int (J 1), .int (J 0), .ref q30, .int (J 0), .ref q37, .ref q44, .int (J 0), .int (J 0), .int (J 0), .int (J 0), .ref q52, .ref q60, .ref q69, .int (J 0), .ref q78, .ref q87, .ref q96, .int (J 0), .int (J 0), .ref q105, .null, .null, .null, .int (J 0)] : List Value).set 24 (.ref q114))) c_q6 n_q6
  have c_q13 := raw_set (e := .inr (6, ([.int (J 0), .ref q6, .ref q13, .int (J 1), .int (J 1), .int (J 0), .ref q30, .int (J 0), .ref q37, .ref q44, .int (J 0), .int (J 0), .int (J 0), .int (J 0), .ref q52, .ref q60, .ref q69, .int (J 0), .ref q78, .ref q87, .ref q96, .int (J 0), .int (J 0), .ref q105, .null, .null, .null, .int (J 0)] : List Value).set 24 (.ref q114))) c_q13 n_q13
  have c_q30 := raw_set (e := .inr (6, ([.int (J 0), .ref q6, .ref q13, .int (J 1), .int (J 1), .int (J 0), .ref q30, .int (J 0), .ref q37, .ref q44, .int (J 0), .int (J 0), .int (J 0), .int (J 0), .ref q52, .ref q60, .ref q69, .int (J 0), .ref q78, .ref q87, .ref q96, .int (J 0), .int (J 0), .ref q105, .null, .null, .null, .int (J 0)] : List Value).set 24 (.ref q114))) c_q30 n_q30
  have c_q37 := raw_set (e := .inr (6, ([.int (J 0), .ref q6, .ref q13, .int (J 1), .int (J 1), .int (J 0), .ref q30, .int (J 0), .ref q37, .ref q44, .int (J 0), .int (J 0), .int (J 0), .int (J 0), .ref q52, .ref q60, .ref q69, .int (J 0), .ref q78, .ref q87, .ref q96, .int (J 0), .int (J 0), .ref q105, .null, .null, .null, .int (J 0)] : List Value).set 24 (.ref q114))) c_q37 n_q37
  have c_q44 := raw_set (e := .inr (6, ([.int (J 0), .ref q6, .ref q13, .int (J 1), .int (J 1), .int (J 0), .ref q30, .int (J 0), .ref q37, .ref q44, .int (J 0), .int (J 0), .int (J 0), .int (J 0), .ref q52, .ref q60, .ref q69, .int (J 0), .ref q78, .ref q87, .ref q96, .int (J 0), .int (J 0), .ref q105, .null, .null, .null, .int (J 0)] : List Value).set 24 (.ref q114))) c_q44 n_q44
  have c_q52 := raw_set (e := .inr (6, ([.int (J 0), .ref q6, .ref q13, .int (J 1), .int (J 1), .int (J 0), .ref q30, .int (J 0), .ref q37, .ref q44, .int (J 0), .int (J 0), .int (J 0), .int (J 0), .ref q52, .ref q60, .ref q69, .int (J 0), .ref q78, .ref q87, .ref q96, .int (J 0), .int (J 0), .ref q105, .null, .null, .null, .int (J 0)] : List Value).set 24 (.ref q114))) c_q52 n_q52
  have c_q60 := raw_set (e := .inr (6, ([.int (J 0), .ref q6, .ref q13, .int (J 1), .int (J 1), .int (J 0), .ref q30, .int (J 0), .ref q37, .ref q44, .int (J 0), .int (J 0), .int (J 0), .int (J 0), .ref q52, .ref q60, .ref q69, .int (J 0), .ref q78, .ref q87, .ref q96, .int (J 0), .int (J 0), .ref q105, .null, .null, .null, .int (J 0)] : List Value).set 24 (.ref q114))) c_q60 n_q60
  have c_q69 := raw_set (e := .inr (6, ([.int (J 0), .ref q6, .ref q13, .int (J 1), .int (J 1), .int (J 0), .ref q30, .int (J 0), .ref q37, .ref q44, .int (J 0), .int (J 0), .int (J 0), .int (J 0), .ref q52, .ref q60, .ref q69, .int (J 0), .ref q78, .ref q87, .ref q96, .int (J 0), .int (J 0), .ref q105, .null, .null, .null, .int (J 0)] : List Value).set 24 (.ref q114))) c_q69 n_q69
  have c_q78 := raw_set (e := .inr (6, ([.int (J 0), .ref q6, .ref q13, .int (J 1), .int (J 1), .int (J 0), .ref q30, .int (J 0), .ref q37, .ref q44, .int (J 0), .int (J 0), .int (J 0), .int (J 0), .ref q52, .ref q60, .ref q69, .int (J 0), .ref q78, .ref q87, .ref q96, .int (J 0), .int (J 0), .ref q105, .null, .null, .null, .int (J 0)] : List Value).set 24 (.ref q114))) c_q78 n_q78
  have c_q87 := raw_set (e := .inr (6, ([.int (J 0), .ref q6, .ref q13, .int (J 1), .int (J 1), .int (J 0), .ref q30, .int (J 0), .ref q37, .ref q44, .int (J 0), .int (J 0), .int (J 0), .int (J 0), .ref q52, .ref q60, .ref q69, .int (J 0), .ref q78, .ref q87, .ref q96, .int (J 0), .int (J 0), .ref q105, .null, .null, .null, .int (J 0)] : List Value).set 24 (.ref q114))) c_q87 n_q87
  have c_q96 := raw_set (e := .inr (6, ([.int (J 0), .ref q6, .ref q13, .int (J 1), .int (J 1), .int (J 0), .ref q30, .int (J 0), .ref q37, .ref q44, .int (J 0), .int (J 0), .int (J 0), .int (J 0), .ref q52, .ref q60, .ref q69, .int (J 0), .ref q78, .ref q87, .ref q96, .int (J 0), .int (J 0), .ref q105, .null, .null, .null, .int (J 0)] : List Value).set 24 (.ref q114))) c_q96 n_q96
  have c_q105 := raw_set (e := .inr (6, ([.int (J 0), .ref q6, .ref q13, .int (J 1), .int (J 1), .int (J 0), .ref q30, .int (J 0), .ref q37, .ref q44, .int (J 0), .int (J 0), .int (J 0), .int (J 0), .ref q52, .ref q60, .ref q69, .int (J 0), .ref q78, .ref q87, .ref q96, .int (J 0), .int (J 0), .ref q105, .null, .null, .null, .int (J 0)] : List Value).set 24 (.ref q114))) c_q105 n_q105
  have c_q114 := raw_set (e := .inr (6, ([.int (J 0), .ref q6, .ref q13, .int (J 1), .int (J 1), .int (J 0), .ref q30, .int (J 0), .ref q37, .ref q44, .int (J 0), .int (J 0), .int (J 0), .int (J 0), .ref q52, .ref q60, .ref q69, .int (J 0), .ref q78, .ref q87, .ref q96, .int (J 0), .int (J 0), .ref q105, .null, .null, .null, .int (J 0)] : List Value).set 24 (.ref q114))) c_q114 n_q114
  have hF := Fr.set (e := .inr (6, ([.int (J 0), .ref q6, .ref q13, .int (J 1), .int (J 1), .int (J 0), .ref q30, .int (J 0), .ref q37, .ref q44, .int (J 0), .int (J 0), .int (J 0), .int (J 0), .ref q52, .ref q60, .ref q69, .int (J 0), .ref q78, .ref q87, .ref q96, .int (J 0), .int (J 0), .ref q105, .null, .null, .null, .int (J 0)] : List Value).set 24 (.ref q114))) hF (Or.inl rfl)
  have hall := al_set (o := o) (e := .inr (6, ([.int (J 0), .ref q6, .ref q13, .int (J 1), .int (J 1), .int (J 0), .ref q30, .int (J 0), .ref q37, .ref q44, .int (J 0), .int (J 0), .int (J 0), .int (J 0), .ref q52, .ref q60, .ref q69, .int (J 0), .ref q78, .ref q87, .ref q96, .int (J 0), .int (J 0), .ref q105, .null, .null, .null, .int (J 0)] : List Value).set 24 (.ref q114))) hall
  generalize uh h o (.inr (6, ([.int (J 0), .ref q6, .ref q13, .int (J 1), .int (J 1), .int (J 0), .ref q30, .int (J 0), .ref q37, .ref q44, .int (J 0), .int (J 0), .int (J 0), .int (J 0), .ref q52, .ref q60, .ref q69, .int (J 0), .ref q78, .ref q87, .ref q96, .int (J 0), .int (J 0), .ref q105, .null, .null, .null, .int (J 0)] : List Value).set 24 (.ref q114))) = h at ho2 hF hall hW c_q6 c_q13 c_q30 c_q37 c_q44 c_q52 c_q60 c_q69 c_q78 c_q87 c_q96 c_q105 c_q114
  have ho := ho2
  refine lv_aload_n hx hb dX6_init_119 rfl (lv_at hl 0 rfl) ?_
  refine j_ldc (z := 134017) hx hb (by decide) hown (hts (.constant RX6 59 (134017)) (by decide +kernel)) dX6_init_120 ?_
  refine g_newi (n := 134017) hx hb (hts (.arrayClass .int) (by decide +kernel)) hk hW hS (by decide) (by decide) (Nat.le_of_ble_eq_true rfl) (Nat.le_of_ble_eq_true rfl) dX6_init_122 (fun q122 H hq122 hW hS => ?_)
  have f_q122 : h0 q122 = none := hF.none hq122
  have n_q122 : q122 ≠ o := raw_ne ho hq122
  have hnd := nd_new hnd hall hq122
  have hall := al_new (q := q122) (e := ai g 134017 (fun _ => 0)) hall
  have ho := raw_new (e := ai g 134017 (fun _ => 0)) ho hq122
  have c_q6 := raw_new (e := ai g 134017 (fun _ => 0)) c_q6 hq122
  have c_q13 := raw_new (e := ai g 134017 (fun _ => 0)) c_q13 hq122
  have c_q30 := raw_new (e := ai g 134017 (fun _ => 0)) c_q30 hq122
  have c_q37 := raw_new (e := ai g 134017 (fun _ => 0)) c_q37 hq122
  have c_q44 := raw_new (e := ai g 134017 (fun _ => 0)) c_q44 hq122
  have c_q52 := raw_new (e := ai g 134017 (fun _ => 0)) c_q52 hq122
  have c_q60 := raw_new (e := ai g 134017 (fun _ => 0)) c_q60 hq122
  have c_q69 := raw_new (e := ai g 134017 (fun _ => 0)) c_q69 hq122
  have c_q78 := raw_new (e := ai g 134017 (fun _ => 0)) c_q78 hq122
  have c_q87 := raw_new (e := ai g 134017 (fun _ => 0)) c_q87 hq122
  have c_q96 := raw_new (e := ai g 134017 (fun _ => 0)) c_q96 hq122
  have c_q105 := raw_new (e := ai g 134017 (fun _ => 0)) c_q105 hq122
  have c_q114 := raw_new (e := ai g 134017 (fun _ => 0)) c_q114 hq122
  have c_q122 : uh h q122 (ai g 134017 (fun _ => 0)) q122 = some (ai g 134017 (fun _ => 0)) := uh_same _ _ _
  have hF := Fr.new (e := ai g 134017 (fun _ => 0)) hF hq122
  generalize uh h q122 (ai g 134017 (fun _ => 0)) = h at ho hF hall hW c_q122 c_q6 c_q13 c_q30 c_q37 c_q44 c_q52 c_q60 c_q69 c_q78 c_q87 c_q96 c_q105 c_q114
  refine W.eq (g2 := F0 m 124 ls [.ref q122, .ref o]) rfl ?_
  refine g_putF (ci := 6) (C := RX6) (T := TX6) (N := 28) (ty := .array .int) (fs := [.int (J 0), .ref q6, .ref q13, .int (J 1), .int (J 1), .int (J 0), .ref q30, .int (J 0), .ref q37, .ref q44, .int (J 0), .int (J 0), .int (J 0), .int (J 0), .ref q52, .ref q60, .ref q69, .int (J 0), .ref q78, .ref q87, .ref q96, .int (J 0), .int (J 0), .ref q105, .ref q114, .null, .null, .int (J 0)]) hx hb hfX6 (fun _ h9 => h9) tyX6 tyX6_ok nmX6 hown hk hW hS ho rfl 25 (by decide) (hts (.fieldLink RX6 60 "JugsAndGlassesModel" "ahead" "[I") (by decide +kernel)) rfl rfl hin rfl (by decide +kernel) rfl rfl (by simp) dX6_init_124 (fun H locs hW hS => ?_)
  have ho2 : uh h o (.inr (6, ([.int (J 0), .ref q6, .ref q13, .int (J 1), .int (J 1), .int (J 0), .ref q30, .int (J 0), .ref q37, .ref q44, .int (J 0), .int (J 0), .int (J 0), .int (J 0), .ref q52, .ref q60, .ref q69, .int (J 0), .ref q78, .ref q87, .ref q96, .int (J 0), .int (J 0), .ref q105, .ref q114, .null, .null, .int (J 0)] : List Value).set 25 (.ref q122))) o = some (.inr (6, [.int (J 0), .ref q6, .ref q13, .int (J 1), .int (J 1), .int (J 0), .ref q30, .int (J 0), .ref q37, .ref q44, .int (J 0), .int (J 0), .int (J 0), .int (J 0), .ref q52, .ref q60, .ref q69, .int (J 0), .ref q78, .ref q87, .ref q96, .int (J 0), .int (J 0), .ref q105, .ref q114, .ref q122, .null, .int (J 0)])) := uh_same _ _ _
  have c_q6 := raw_set (e := .inr (6, ([.int (J 0), .ref q6, .ref q13, .int (J 1), .int (J 1), .int (J 0), .ref q30, .int (J 0), .ref q37, .ref q44, .int (J 0), .int (J 0), .int (J 0), .int (J 0), .ref q52, .ref q60, .ref q69, .int (J 0), .ref q78, .ref q87, .ref q96, .int (J 0), .int (J 0), .ref q105, .ref q114, .null, .null, .int (J 0)] : List Value).set 25 (.ref q122))) c_q6 n_q6
  have c_q13 := raw_set (e := .inr (6, ([.int (J 0), .ref q6, .ref q13, .int (J 1), .int (J 1), .int (J 0), .ref q30, .int (J 0), .ref q37, .ref q44, .int (J 0), .int (J 0), .int (J 0), .int (J 0), .ref q52, .ref q60, .ref q69, .int (J 0), .ref q78, .ref q87, .ref q96, .int (J 0), .int (J 0), .ref q105, .ref q114, .null, .null, .int (J 0)] : List Value).set 25 (.ref q122))) c_q13 n_q13
  have c_q30 := raw_set (e := .inr (6, ([.int (J 0), .ref q6, .ref q13, .int (J 1), .int (J 1), .int (J 0), .ref q30, .int (J 0), .ref q37, .ref q44, .int (J 0), .int (J 0), .int (J 0), .int (J 0), .ref q52, .ref q60, .ref q69, .int (J 0), .ref q78, .ref q87, .ref q96, .int (J 0), .int (J 0), .ref q105, .ref q114, .null, .null, .int (J 0)] : List Value).set 25 (.ref q122))) c_q30 n_q30
  have c_q37 := raw_set (e := .inr (6, ([.int (J 0), .ref q6, .ref q13, .int (J 1), .int (J 1), .int (J 0), .ref q30, .int (J 0), .ref q37, .ref q44, .int (J 0), .int (J 0), .int (J 0), .int (J 0), .ref q52, .ref q60, .ref q69, .int (J 0), .ref q78, .ref q87, .ref q96, .int (J 0), .int (J 0), .ref q105, .ref q114, .null, .null, .int (J 0)] : List Value).set 25 (.ref q122))) c_q37 n_q37
  have c_q44 := raw_set (e := .inr (6, ([.int (J 0), .ref q6, .ref q13, .int (J 1), .int (J 1), .int (J 0), .ref q30, .int (J 0), .ref q37, .ref q44, .int (J 0), .int (J 0), .int (J 0), .int (J 0), .ref q52, .ref q60, .ref q69, .int (J 0), .ref q78, .ref q87, .ref q96, .int (J 0), .int (J 0), .ref q105, .ref q114, .null, .null, .int (J 0)] : List Value).set 25 (.ref q122))) c_q44 n_q44
  have c_q52 := raw_set (e := .inr (6, ([.int (J 0), .ref q6, .ref q13, .int (J 1), .int (J 1), .int (J 0), .ref q30, .int (J 0), .ref q37, .ref q44, .int (J 0), .int (J 0), .int (J 0), .int (J 0), .ref q52, .ref q60, .ref q69, .int (J 0), .ref q78, .ref q87, .ref q96, .int (J 0), .int (J 0), .ref q105, .ref q114, .null, .null, .int (J 0)] : List Value).set 25 (.ref q122))) c_q52 n_q52
  have c_q60 := raw_set (e := .inr (6, ([.int (J 0), .ref q6, .ref q13, .int (J 1), .int (J 1), .int (J 0), .ref q30, .int (J 0), .ref q37, .ref q44, .int (J 0), .int (J 0), .int (J 0), .int (J 0), .ref q52, .ref q60, .ref q69, .int (J 0), .ref q78, .ref q87, .ref q96, .int (J 0), .int (J 0), .ref q105, .ref q114, .null, .null, .int (J 0)] : List Value).set 25 (.ref q122))) c_q60 n_q60
  have c_q69 := raw_set (e := .inr (6, ([.int (J 0), .ref q6, .ref q13, .int (J 1), .int (J 1), .int (J 0), .ref q30, .int (J 0), .ref q37, .ref q44, .int (J 0), .int (J 0), .int (J 0), .int (J 0), .ref q52, .ref q60, .ref q69, .int (J 0), .ref q78, .ref q87, .ref q96, .int (J 0), .int (J 0), .ref q105, .ref q114, .null, .null, .int (J 0)] : List Value).set 25 (.ref q122))) c_q69 n_q69
  have c_q78 := raw_set (e := .inr (6, ([.int (J 0), .ref q6, .ref q13, .int (J 1), .int (J 1), .int (J 0), .ref q30, .int (J 0), .ref q37, .ref q44, .int (J 0), .int (J 0), .int (J 0), .int (J 0), .ref q52, .ref q60, .ref q69, .int (J 0), .ref q78, .ref q87, .ref q96, .int (J 0), .int (J 0), .ref q105, .ref q114, .null, .null, .int (J 0)] : List Value).set 25 (.ref q122))) c_q78 n_q78
  have c_q87 := raw_set (e := .inr (6, ([.int (J 0), .ref q6, .ref q13, .int (J 1), .int (J 1), .int (J 0), .ref q30, .int (J 0), .ref q37, .ref q44, .int (J 0), .int (J 0), .int (J 0), .int (J 0), .ref q52, .ref q60, .ref q69, .int (J 0), .ref q78, .ref q87, .ref q96, .int (J 0), .int (J 0), .ref q105, .ref q114, .null, .null, .int (J 0)] : List Value).set 25 (.ref q122))) c_q87 n_q87
  have c_q96 := raw_set (e := .inr (6, ([.int (J 0), .ref q6, .ref q13, .int (J 1), .int (J 1), .int (J 0), .ref q30, .int (J 0), .ref q37, .ref q44, .int (J 0), .int (J 0), .int (J 0), .int (J 0), .ref q52, .ref q60, .ref q69, .int (J 0), .ref q78, .ref q87, .ref q96, .int (J 0), .int (J 0), .ref q105, .ref q114, .null, .null, .int (J 0)] : List Value).set 25 (.ref q122))) c_q96 n_q96
  have c_q105 := raw_set (e := .inr (6, ([.int (J 0), .ref q6, .ref q13, .int (J 1), .int (J 1), .int (J 0), .ref q30, .int (J 0), .ref q37, .ref q44, .int (J 0), .int (J 0), .int (J 0), .int (J 0), .ref q52, .ref q60, .ref q69, .int (J 0), .ref q78, .ref q87, .ref q96, .int (J 0), .int (J 0), .ref q105, .ref q114, .null, .null, .int (J 0)] : List Value).set 25 (.ref q122))) c_q105 n_q105
  have c_q114 := raw_set (e := .inr (6, ([.int (J 0), .ref q6, .ref q13, .int (J 1), .int (J 1), .int (J 0), .ref q30, .int (J 0), .ref q37, .ref q44, .int (J 0), .int (J 0), .int (J 0), .int (J 0), .ref q52, .ref q60, .ref q69, .int (J 0), .ref q78, .ref q87, .ref q96, .int (J 0), .int (J 0), .ref q105, .ref q114, .null, .null, .int (J 0)] : List Value).set 25 (.ref q122))) c_q114 n_q114
  have c_q122 := raw_set (e := .inr (6, ([.int (J 0), .ref q6, .ref q13, .int (J 1), .int (J 1), .int (J 0), .ref q30, .int (J 0), .ref q37, .ref q44, .int (J 0), .int (J 0), .int (J 0), .int (J 0), .ref q52, .ref q60, .ref q69, .int (J 0), .ref q78, .ref q87, .ref q96, .int (J 0), .int (J 0), .ref q105, .ref q114, .null, .null, .int (J 0)] : List Value).set 25 (.ref q122))) c_q122 n_q122
  have hF := Fr.set (e := .inr (6, ([.int (J 0), .ref q6, .ref q13, .int (J 1), .int (J 1), .int (J 0), .ref q30, .int (J 0), .ref q37, .ref q44, .int (J 0), .int (J 0), .int (J 0), .int (J 0), .ref q52, .ref q60, .ref q69, .int (J 0), .ref q78, .ref q87, .ref q96, .int (J 0), .int (J 0), .ref q105, .ref q114, .null, .null, .int (J 0)] : List Value).set 25 (.ref q122))) hF (Or.inl rfl)
  have hall := al_set (o := o) (e := .inr (6, ([.int (J 0), .ref q6, .ref q13, .int (J 1), .int (J 1), .int (J 0), .ref q30, .int (J 0), .ref q37, .ref q44, .int (J 0), .int (J 0), .int (J 0), .int (J 0), .ref q52, .ref q60, .ref q69, .int (J 0), .ref q78, .ref q87, .ref q96, .int (J 0), .int (J 0), .ref q105, .ref q114, .null, .null, .int (J 0)] : List Value).set 25 (.ref q122))) hall
  generalize uh h o (.inr (6, ([.int (J 0), .ref q6, .ref q13, .int (J 1), .int (J 1), .int (J 0), .ref q30, .int (J 0), .ref q37, .ref q44, .int (J 0), .int (J 0), .int (J 0), .int (J 0), .ref q52, .ref q60, .ref q69, .int (J 0), .ref q78, .ref q87, .ref q96, .int (J 0), .int (J 0), .ref q105, .ref q114, .null, .null, .int (J 0)] : List Value).set 25 (.ref q122))) = h at ho2 hF hall hW c_q6 c_q13 c_q30 c_q37 c_q44 c_q52 c_q60 c_q69 c_q78 c_q87 c_q96 c_q105 c_q114 c_q122
  have ho := ho2
  refine lv_aload_n hx hb dX6_init_127 rfl (lv_at hl 0 rfl) ?_
  refine j_ldc (z := 90077) hx hb (by decide) hown (hts (.constant RX6 63 (90077)) (by decide +kernel)) dX6_init_128 ?_
  refine g_newi (n := 90077) hx hb (hts (.arrayClass .int) (by decide +kernel)) hk hW hS (by decide) (by decide) (Nat.le_of_ble_eq_true rfl) (Nat.le_of_ble_eq_true rfl) dX6_init_130 (fun q130 H hq130 hW hS => ?_)
  have f_q130 : h0 q130 = none := hF.none hq130
  have n_q130 : q130 ≠ o := raw_ne ho hq130
  have hnd := nd_new hnd hall hq130
  have hall := al_new (q := q130) (e := ai g 90077 (fun _ => 0)) hall
  have ho := raw_new (e := ai g 90077 (fun _ => 0)) ho hq130
  have c_q6 := raw_new (e := ai g 90077 (fun _ => 0)) c_q6 hq130
  have c_q13 := raw_new (e := ai g 90077 (fun _ => 0)) c_q13 hq130
  have c_q30 := raw_new (e := ai g 90077 (fun _ => 0)) c_q30 hq130
  have c_q37 := raw_new (e := ai g 90077 (fun _ => 0)) c_q37 hq130
  have c_q44 := raw_new (e := ai g 90077 (fun _ => 0)) c_q44 hq130
  have c_q52 := raw_new (e := ai g 90077 (fun _ => 0)) c_q52 hq130
  have c_q60 := raw_new (e := ai g 90077 (fun _ => 0)) c_q60 hq130
  have c_q69 := raw_new (e := ai g 90077 (fun _ => 0)) c_q69 hq130
  have c_q78 := raw_new (e := ai g 90077 (fun _ => 0)) c_q78 hq130
  have c_q87 := raw_new (e := ai g 90077 (fun _ => 0)) c_q87 hq130
  have c_q96 := raw_new (e := ai g 90077 (fun _ => 0)) c_q96 hq130
  have c_q105 := raw_new (e := ai g 90077 (fun _ => 0)) c_q105 hq130
  have c_q114 := raw_new (e := ai g 90077 (fun _ => 0)) c_q114 hq130
  have c_q122 := raw_new (e := ai g 90077 (fun _ => 0)) c_q122 hq130
  have c_q130 : uh h q130 (ai g 90077 (fun _ => 0)) q130 = some (ai g 90077 (fun _ => 0)) := uh_same _ _ _
  have hF := Fr.new (e := ai g 90077 (fun _ => 0)) hF hq130
  generalize uh h q130 (ai g 90077 (fun _ => 0)) = h at ho hF hall hW c_q130 c_q6 c_q13 c_q30 c_q37 c_q44 c_q52 c_q60 c_q69 c_q78 c_q87 c_q96 c_q105 c_q114 c_q122
  refine W.eq (g2 := F0 m 132 ls [.ref q130, .ref o]) rfl ?_
  refine g_putF (ci := 6) (C := RX6) (T := TX6) (N := 28) (ty := .array .int) (fs := [.int (J 0), .ref q6, .ref q13, .int (J 1), .int (J 1), .int (J 0), .ref q30, .int (J 0), .ref q37, .ref q44, .int (J 0), .int (J 0), .int (J 0), .int (J 0), .ref q52, .ref q60, .ref q69, .int (J 0), .ref q78, .ref q87, .ref q96, .int (J 0), .int (J 0), .ref q105, .ref q114, .ref q122, .null, .int (J 0)]) hx hb hfX6 (fun _ h9 => h9) tyX6 tyX6_ok nmX6 hown hk hW hS ho rfl 26 (by decide) (hts (.fieldLink RX6 64 "JugsAndGlassesModel" "behind" "[I") (by decide +kernel)) rfl rfl hin rfl (by decide +kernel) rfl rfl (by simp) dX6_init_132 (fun H locs hW hS => ?_)
  have ho2 : uh h o (.inr (6, ([.int (J 0), .ref q6, .ref q13, .int (J 1), .int (J 1), .int (J 0), .ref q30, .int (J 0), .ref q37, .ref q44, .int (J 0), .int (J 0), .int (J 0), .int (J 0), .ref q52, .ref q60, .ref q69, .int (J 0), .ref q78, .ref q87, .ref q96, .int (J 0), .int (J 0), .ref q105, .ref q114, .ref q122, .null, .int (J 0)] : List Value).set 26 (.ref q130))) o = some (.inr (6, [.int (J 0), .ref q6, .ref q13, .int (J 1), .int (J 1), .int (J 0), .ref q30, .int (J 0), .ref q37, .ref q44, .int (J 0), .int (J 0), .int (J 0), .int (J 0), .ref q52, .ref q60, .ref q69, .int (J 0), .ref q78, .ref q87, .ref q96, .int (J 0), .int (J 0), .ref q105, .ref q114, .ref q122, .ref q130, .int (J 0)])) := uh_same _ _ _
  have c_q6 := raw_set (e := .inr (6, ([.int (J 0), .ref q6, .ref q13, .int (J 1), .int (J 1), .int (J 0), .ref q30, .int (J 0), .ref q37, .ref q44, .int (J 0), .int (J 0), .int (J 0), .int (J 0), .ref q52, .ref q60, .ref q69, .int (J 0), .ref q78, .ref q87, .ref q96, .int (J 0), .int (J 0), .ref q105, .ref q114, .ref q122, .null, .int (J 0)] : List Value).set 26 (.ref q130))) c_q6 n_q6
  have c_q13 := raw_set (e := .inr (6, ([.int (J 0), .ref q6, .ref q13, .int (J 1), .int (J 1), .int (J 0), .ref q30, .int (J 0), .ref q37, .ref q44, .int (J 0), .int (J 0), .int (J 0), .int (J 0), .ref q52, .ref q60, .ref q69, .int (J 0), .ref q78, .ref q87, .ref q96, .int (J 0), .int (J 0), .ref q105, .ref q114, .ref q122, .null, .int (J 0)] : List Value).set 26 (.ref q130))) c_q13 n_q13
  have c_q30 := raw_set (e := .inr (6, ([.int (J 0), .ref q6, .ref q13, .int (J 1), .int (J 1), .int (J 0), .ref q30, .int (J 0), .ref q37, .ref q44, .int (J 0), .int (J 0), .int (J 0), .int (J 0), .ref q52, .ref q60, .ref q69, .int (J 0), .ref q78, .ref q87, .ref q96, .int (J 0), .int (J 0), .ref q105, .ref q114, .ref q122, .null, .int (J 0)] : List Value).set 26 (.ref q130))) c_q30 n_q30
  have c_q37 := raw_set (e := .inr (6, ([.int (J 0), .ref q6, .ref q13, .int (J 1), .int (J 1), .int (J 0), .ref q30, .int (J 0), .ref q37, .ref q44, .int (J 0), .int (J 0), .int (J 0), .int (J 0), .ref q52, .ref q60, .ref q69, .int (J 0), .ref q78, .ref q87, .ref q96, .int (J 0), .int (J 0), .ref q105, .ref q114, .ref q122, .null, .int (J 0)] : List Value).set 26 (.ref q130))) c_q37 n_q37
  have c_q44 := raw_set (e := .inr (6, ([.int (J 0), .ref q6, .ref q13, .int (J 1), .int (J 1), .int (J 0), .ref q30, .int (J 0), .ref q37, .ref q44, .int (J 0), .int (J 0), .int (J 0), .int (J 0), .ref q52, .ref q60, .ref q69, .int (J 0), .ref q78, .ref q87, .ref q96, .int (J 0), .int (J 0), .ref q105, .ref q114, .ref q122, .null, .int (J 0)] : List Value).set 26 (.ref q130))) c_q44 n_q44
  have c_q52 := raw_set (e := .inr (6, ([.int (J 0), .ref q6, .ref q13, .int (J 1), .int (J 1), .int (J 0), .ref q30, .int (J 0), .ref q37, .ref q44, .int (J 0), .int (J 0), .int (J 0), .int (J 0), .ref q52, .ref q60, .ref q69, .int (J 0), .ref q78, .ref q87, .ref q96, .int (J 0), .int (J 0), .ref q105, .ref q114, .ref q122, .null, .int (J 0)] : List Value).set 26 (.ref q130))) c_q52 n_q52
  have c_q60 := raw_set (e := .inr (6, ([.int (J 0), .ref q6, .ref q13, .int (J 1), .int (J 1), .int (J 0), .ref q30, .int (J 0), .ref q37, .ref q44, .int (J 0), .int (J 0), .int (J 0), .int (J 0), .ref q52, .ref q60, .ref q69, .int (J 0), .ref q78, .ref q87, .ref q96, .int (J 0), .int (J 0), .ref q105, .ref q114, .ref q122, .null, .int (J 0)] : List Value).set 26 (.ref q130))) c_q60 n_q60
  have c_q69 := raw_set (e := .inr (6, ([.int (J 0), .ref q6, .ref q13, .int (J 1), .int (J 1), .int (J 0), .ref q30, .int (J 0), .ref q37, .ref q44, .int (J 0), .int (J 0), .int (J 0), .int (J 0), .ref q52, .ref q60, .ref q69, .int (J 0), .ref q78, .ref q87, .ref q96, .int (J 0), .int (J 0), .ref q105, .ref q114, .ref q122, .null, .int (J 0)] : List Value).set 26 (.ref q130))) c_q69 n_q69
  have c_q78 := raw_set (e := .inr (6, ([.int (J 0), .ref q6, .ref q13, .int (J 1), .int (J 1), .int (J 0), .ref q30, .int (J 0), .ref q37, .ref q44, .int (J 0), .int (J 0), .int (J 0), .int (J 0), .ref q52, .ref q60, .ref q69, .int (J 0), .ref q78, .ref q87, .ref q96, .int (J 0), .int (J 0), .ref q105, .ref q114, .ref q122, .null, .int (J 0)] : List Value).set 26 (.ref q130))) c_q78 n_q78
  have c_q87 := raw_set (e := .inr (6, ([.int (J 0), .ref q6, .ref q13, .int (J 1), .int (J 1), .int (J 0), .ref q30, .int (J 0), .ref q37, .ref q44, .int (J 0), .int (J 0), .int (J 0), .int (J 0), .ref q52, .ref q60, .ref q69, .int (J 0), .ref q78, .ref q87, .ref q96, .int (J 0), .int (J 0), .ref q105, .ref q114, .ref q122, .null, .int (J 0)] : List Value).set 26 (.ref q130))) c_q87 n_q87
  have c_q96 := raw_set (e := .inr (6, ([.int (J 0), .ref q6, .ref q13, .int (J 1), .int (J 1), .int (J 0), .ref q30, .int (J 0), .ref q37, .ref q44, .int (J 0), .int (J 0), .int (J 0), .int (J 0), .ref q52, .ref q60, .ref q69, .int (J 0), .ref q78, .ref q87, .ref q96, .int (J 0), .int (J 0), .ref q105, .ref q114, .ref q122, .null, .int (J 0)] : List Value).set 26 (.ref q130))) c_q96 n_q96
  have c_q105 := raw_set (e := .inr (6, ([.int (J 0), .ref q6, .ref q13, .int (J 1), .int (J 1), .int (J 0), .ref q30, .int (J 0), .ref q37, .ref q44, .int (J 0), .int (J 0), .int (J 0), .int (J 0), .ref q52, .ref q60, .ref q69, .int (J 0), .ref q78, .ref q87, .ref q96, .int (J 0), .int (J 0), .ref q105, .ref q114, .ref q122, .null, .int (J 0)] : List Value).set 26 (.ref q130))) c_q105 n_q105
  have c_q114 := raw_set (e := .inr (6, ([.int (J 0), .ref q6, .ref q13, .int (J 1), .int (J 1), .int (J 0), .ref q30, .int (J 0), .ref q37, .ref q44, .int (J 0), .int (J 0), .int (J 0), .int (J 0), .ref q52, .ref q60, .ref q69, .int (J 0), .ref q78, .ref q87, .ref q96, .int (J 0), .int (J 0), .ref q105, .ref q114, .ref q122, .null, .int (J 0)] : List Value).set 26 (.ref q130))) c_q114 n_q114
  have c_q122 := raw_set (e := .inr (6, ([.int (J 0), .ref q6, .ref q13, .int (J 1), .int (J 1), .int (J 0), .ref q30, .int (J 0), .ref q37, .ref q44, .int (J 0), .int (J 0), .int (J 0), .int (J 0), .ref q52, .ref q60, .ref q69, .int (J 0), .ref q78, .ref q87, .ref q96, .int (J 0), .int (J 0), .ref q105, .ref q114, .ref q122, .null, .int (J 0)] : List Value).set 26 (.ref q130))) c_q122 n_q122
  have c_q130 := raw_set (e := .inr (6, ([.int (J 0), .ref q6, .ref q13, .int (J 1), .int (J 1), .int (J 0), .ref q30, .int (J 0), .ref q37, .ref q44, .int (J 0), .int (J 0), .int (J 0), .int (J 0), .ref q52, .ref q60, .ref q69, .int (J 0), .ref q78, .ref q87, .ref q96, .int (J 0), .int (J 0), .ref q105, .ref q114, .ref q122, .null, .int (J 0)] : List Value).set 26 (.ref q130))) c_q130 n_q130
  have hF := Fr.set (e := .inr (6, ([.int (J 0), .ref q6, .ref q13, .int (J 1), .int (J 1), .int (J 0), .ref q30, .int (J 0), .ref q37, .ref q44, .int (J 0), .int (J 0), .int (J 0), .int (J 0), .ref q52, .ref q60, .ref q69, .int (J 0), .ref q78, .ref q87, .ref q96, .int (J 0), .int (J 0), .ref q105, .ref q114, .ref q122, .null, .int (J 0)] : List Value).set 26 (.ref q130))) hF (Or.inl rfl)
  have hall := al_set (o := o) (e := .inr (6, ([.int (J 0), .ref q6, .ref q13, .int (J 1), .int (J 1), .int (J 0), .ref q30, .int (J 0), .ref q37, .ref q44, .int (J 0), .int (J 0), .int (J 0), .int (J 0), .ref q52, .ref q60, .ref q69, .int (J 0), .ref q78, .ref q87, .ref q96, .int (J 0), .int (J 0), .ref q105, .ref q114, .ref q122, .null, .int (J 0)] : List Value).set 26 (.ref q130))) hall
  generalize uh h o (.inr (6, ([.int (J 0), .ref q6, .ref q13, .int (J 1), .int (J 1), .int (J 0), .ref q30, .int (J 0), .ref q37, .ref q44, .int (J 0), .int (J 0), .int (J 0), .int (J 0), .ref q52, .ref q60, .ref q69, .int (J 0), .ref q78, .ref q87, .ref q96, .int (J 0), .int (J 0), .ref q105, .ref q114, .ref q122, .null, .int (J 0)] : List Value).set 26 (.ref q130))) = h at ho2 hF hall hW c_q6 c_q13 c_q30 c_q37 c_q44 c_q52 c_q60 c_q69 c_q78 c_q87 c_q96 c_q105 c_q114 c_q122 c_q130
  have ho := ho2
  refine W.widen (k := 15) (n := 1020597) (Nat.le_of_ble_eq_true rfl) (Nat.le_of_ble_eq_true rfl) ?_
  exact g_vret hx hb hr hW hS dX6_init_135 hlocks (⟨rfl, hF.weak, (fun k => ([q130, q122, q114, q105, q96, q87, q78, q69, q60, q52, q44, q37, q30, q13, q6] : List Nat).getD (ixX6 k) 0), ⟨ho, fun k hk ha => by
      match k, hk with
      | 0, _ => exact absurd ha (by unfold isA; decide)
      | 1, _ => exact c_q6
      | 2, _ => exact c_q13
      | 3, _ => exact absurd ha (by unfold isA; decide)
      | 4, _ => exact absurd ha (by unfold isA; decide)
      | 5, _ => exact absurd ha (by unfold isA; decide)
      | 6, _ => exact c_q30
      | 7, _ => exact absurd ha (by unfold isA; decide)
      | 8, _ => exact c_q37
      | 9, _ => exact c_q44
      | 10, _ => exact absurd ha (by unfold isA; decide)
      | 11, _ => exact absurd ha (by unfold isA; decide)
      | 12, _ => exact absurd ha (by unfold isA; decide)
      | 13, _ => exact absurd ha (by unfold isA; decide)
      | 14, _ => exact c_q52
      | 15, _ => exact c_q60
      | 16, _ => exact c_q69
      | 17, _ => exact absurd ha (by unfold isA; decide)
      | 18, _ => exact c_q78
      | 19, _ => exact c_q87
      | 20, _ => exact c_q96
      | 21, _ => exact absurd ha (by unfold isA; decide)
      | 22, _ => exact absurd ha (by unfold isA; decide)
      | 23, _ => exact c_q105
      | 24, _ => exact c_q114
      | 25, _ => exact c_q122
      | 26, _ => exact c_q130
      | 27, _ => exact absurd ha (by unfold isA; decide), fun i j hi hj hia hja e => by
      have h1 : ∀ i, i < 28 → isA kd6 i → ixX6 i < 15 := by unfold isA; decide
      have h2 : ∀ i, i < 28 → ∀ j, j < 28 → isA kd6 i → isA kd6 j → ixX6 i = ixX6 j → i = j := by unfold isA; decide
      exact h2 i hi j hj hia hja (nd_inj hnd (h1 i hi hia) (h1 j hj hja) e)⟩, fun k hk ha => by
      match k, hk with
      | 0, _ => exact absurd ha (by unfold isA; decide)
      | 1, _ => exact f_q6
      | 2, _ => exact f_q13
      | 3, _ => exact absurd ha (by unfold isA; decide)
      | 4, _ => exact absurd ha (by unfold isA; decide)
      | 5, _ => exact absurd ha (by unfold isA; decide)
      | 6, _ => exact f_q30
      | 7, _ => exact absurd ha (by unfold isA; decide)
      | 8, _ => exact f_q37
      | 9, _ => exact f_q44
      | 10, _ => exact absurd ha (by unfold isA; decide)
      | 11, _ => exact absurd ha (by unfold isA; decide)
      | 12, _ => exact absurd ha (by unfold isA; decide)
      | 13, _ => exact absurd ha (by unfold isA; decide)
      | 14, _ => exact f_q52
      | 15, _ => exact f_q60
      | 16, _ => exact f_q69
      | 17, _ => exact absurd ha (by unfold isA; decide)
      | 18, _ => exact f_q78
      | 19, _ => exact f_q87
      | 20, _ => exact f_q96
      | 21, _ => exact absurd ha (by unfold isA; decide)
      | 22, _ => exact absurd ha (by unfold isA; decide)
      | 23, _ => exact f_q105
      | 24, _ => exact f_q114
      | 25, _ => exact f_q122
      | 26, _ => exact f_q130
      | 27, _ => exact absurd ha (by unfold isA; decide)⟩)
