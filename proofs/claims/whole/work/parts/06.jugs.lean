set_option maxHeartbeats 4000000 in
set_option maxRecDepth 100000 in
theorem k_has (l : Launch) (g : GX) (base : Nat) (sa : Nat → Nat) (h0 : Hp) (o : Nat) (R : Nat → Nat) (I : Nat → Int) (A : Nat → Int → Int) (a : Int) (hM : OB g 1 7 kd1 h0 o R I L4 A) (ha : i32 a) (hn : 0 ≤ I 0 ∧ I 0 ≤ 4) : MC l g base sa yX1_has wsX1_has ({ frames := 0, cells := 0, slots := 0, locals := 0 }) ([.ref o, .int (J a)]) h0 (fun r h' => r = some (.int (J (p_has (I 0) a))) ∧ h' = h0) := by
  refine Met.ofW (cc := cX1_has) (maxL := 2) (ret := (some .boolean)) (by decide) rfl ?_
  intro p e s m args below meth c s₁ B hml hv
  obtain ⟨rfl, hk, hW⟩ := hv
  have hx := B.exec
  have hb := B.bytes
  have hr := B.returns
  have hts := atoms_spec (ws := wsX1_has) B.pre
  have hown : s.vm.findClass RX1 = some m.cls := findClass_of_methodNamed B.named
  have hlocks := B.notSynchronized
  have hfX1 : ∀ w ∈ wsX10, w.before ([.ref o, .int (J a)]).toArray s = true := fun w h => hts w (List.mem_cons_of_mem _ (List.mem_append_right _ h))
  have hS : va_S (Ab base) s.heap s.heap [] := va_S.rf
  have hl := lv_entry ([.ref o, .int (J a)]) (n := 2) (Nat.le_of_ble_eq_true rfl)
  rw [lg_entry_eq]
  generalize (lg_sl ([.ref o, .int (J a)]) ++ List.replicate (2 - (lg_sl ([.ref o, .int (J a)])).length) Slot.unset).toArray = ls at hl ⊢
  have hl : lv_has ls 2 [(0, .ref o), (1, .int (J a))] := hl
  obtain ⟨ha1, ha2⟩ := ha
  refine lv_iload_n hx hb dX1_has_0 rfl (lv_at hl 1 rfl) ?_
  refine j_if_lt (x := a) (tgt := 21) hx hb ⟨by omega, by omega⟩ dX1_has_1 (by decide) (fun c_1 => ?_) (fun c_1 => ?_)
  · refine lv_iconst (v := J (0)) hx hb dX1_has_21 rfl ?_
    exact g_zret hx hb hr (by omega) hW hS dX1_has_22 hlocks (⟨congrArg (fun z : Int => some (Value.int (J z))) (show 0 = p_has (I 0) a from by unfold p_has; (repeat' split) <;> omega), rfl⟩)
  · refine lv_iload_n hx hb dX1_has_4 rfl (lv_at hl 1 rfl) ?_
    refine lv_aload_n hx hb dX1_has_5 rfl (lv_at hl 0 rfl) ?_
    refine g_get (ci := 1) (C := RX1) (T := TX1) (N := 7) (v := .int (J (I 0))) hx hb hfX1 (fun _ h9 => h9) hown hk hW hM.1 rfl 0 (by decide) (hts (.fieldLink RX1 9 "JugsAndGlasses$Jugs" "number" "I") (by decide +kernel)) rfl rfl dX1_has_6 ?_
    refine j_icmp_ge (x := a) (y := I 0) (tgt := 21) hx hb ⟨by omega, by omega⟩ ⟨by omega, by omega⟩ dX1_has_9 (by decide) (fun c_9 => ?_) (fun c_9 => ?_)
    · refine lv_iconst (v := J (0)) hx hb dX1_has_21 rfl ?_
      exact g_zret hx hb hr (by omega) hW hS dX1_has_22 hlocks (⟨congrArg (fun z : Int => some (Value.int (J z))) (show 0 = p_has (I 0) a from by unfold p_has; (repeat' split) <;> omega), rfl⟩)
    · refine lv_iload_n hx hb dX1_has_12 rfl (lv_at hl 1 rfl) ?_
      refine lv_iconst (v := J (4)) hx hb dX1_has_13 rfl ?_
      refine j_icmp_ge (x := a) (y := 4) (tgt := 21) hx hb ⟨by omega, by omega⟩ ⟨by decide, by decide⟩ dX1_has_14 (by decide) (fun c_14 => ?_) (fun c_14 => ?_)
      · refine lv_iconst (v := J (0)) hx hb dX1_has_21 rfl ?_
        exact g_zret hx hb hr (by omega) hW hS dX1_has_22 hlocks (⟨congrArg (fun z : Int => some (Value.int (J z))) (show 0 = p_has (I 0) a from by unfold p_has; (repeat' split) <;> omega), rfl⟩)
      · refine lv_iconst (v := J (1)) hx hb dX1_has_17 rfl ?_
        refine lv_goto (tgt := 22) hx hb dX1_has_18 (by decide) ?_
        exact g_zret hx hb hr (by omega) hW hS dX1_has_22 hlocks (⟨congrArg (fun z : Int => some (Value.int (J z))) (show 1 = p_has (I 0) a from by unfold p_has; (repeat' split) <;> omega), rfl⟩)

set_option maxHeartbeats 4000000 in
set_option maxRecDepth 100000 in
theorem k_haveAct (l : Launch) (g : GX) (base : Nat) (sa : Nat → Nat) (h0 : Hp) (o : Nat) (R : Nat → Nat) (I : Nat → Int) (A : Nat → Int → Int) (a : Int) (hM : OB g 1 7 kd1 h0 o R I L4 A) (ha : i32 a) (hn : 0 ≤ I 0 ∧ I 0 ≤ 4) : MC l g base sa yX1_haveAct wsX1_haveAct ({ frames := 0, cells := 0, slots := 0, locals := 0 }) ([.ref o, .int (J a)]) h0 (fun r h' => r = some (.int (J (p_haveAct (I 0) a))) ∧ h' = h0) := by
  refine Met.ofW (cc := cX1_haveAct) (maxL := 2) (ret := (some .boolean)) (by decide) rfl ?_
  intro p e s m args below meth c s₁ B hml hv
  obtain ⟨rfl, hk, hW⟩ := hv
  have hx := B.exec
  have hb := B.bytes
  have hr := B.returns
  have hts := atoms_spec (ws := wsX1_haveAct) B.pre
  have hown : s.vm.findClass RX1 = some m.cls := findClass_of_methodNamed B.named
  have hlocks := B.notSynchronized
  have hfX1 : ∀ w ∈ wsX10, w.before ([.ref o, .int (J a)]).toArray s = true := fun w h => hts w (List.mem_cons_of_mem _ (List.mem_append_right _ h))
  have hS : va_S (Ab base) s.heap s.heap [] := va_S.rf
  have hl := lv_entry ([.ref o, .int (J a)]) (n := 2) (Nat.le_of_ble_eq_true rfl)
  rw [lg_entry_eq]
  generalize (lg_sl ([.ref o, .int (J a)]) ++ List.replicate (2 - (lg_sl ([.ref o, .int (J a)])).length) Slot.unset).toArray = ls at hl ⊢
  have hl : lv_has ls 2 [(0, .ref o), (1, .int (J a))] := hl
  obtain ⟨ha1, ha2⟩ := ha
  have hg := k_giver_r a
  have ht := k_taker_r a
  have cut_52 : ∀ (t : Int) (ls : Array Slot), t = p_haveAct (I 0) a → t = 0 ∨ t = 1 → lv_has ls 2 [(0, .ref o), (1, .int (J a))] → W p l e (headSpec wsX1_haveAct ({ frames := 0, cells := 0, slots := 0, locals := 0 })).room s m ([.ref o, .int (J a)]).toArray below meth c s.heap [] 0 0 (MQ below (QcM g base (fun r h' => r = some (.int (J (p_haveAct (I 0) a))) ∧ h' = h0)) ([.ref o, .int (J a)]).toArray s (0) (0) (Ab base)) (F0 m 52 ls [.int (J t)]) := by
    intro t  ls et et2 hl
    exact g_zret hx hb hr (et2) hW hS dX1_haveAct_52 hlocks (⟨congrArg (fun z : Int => some (Value.int (J z))) (et), rfl⟩)
  refine lv_iload_n hx hb dX1_haveAct_0 rfl (lv_at hl 1 rfl) ?_
  refine j_if_lt (x := a) (tgt := 51) hx hb ⟨by omega, by omega⟩ dX1_haveAct_1 (by decide) (fun c_1 => ?_) (fun c_1 => ?_)
  · refine lv_iconst (v := J (0)) hx hb dX1_haveAct_51 rfl ?_
    exact cut_52 _  ls (by unfold p_haveAct; (repeat' split) <;> omega) (by omega) (lv_sub hl [0, 1] rfl)
  · refine lv_iload_n hx hb dX1_haveAct_4 rfl (lv_at hl 1 rfl) ?_
    refine lv_bipush (v := J (24)) hx hb dX1_haveAct_5 (by decide) ?_
    refine j_icmp_ge (x := a) (y := 24) (tgt := 51) hx hb ⟨by omega, by omega⟩ ⟨by decide, by decide⟩ dX1_haveAct_7 (by decide) (fun c_7 => ?_) (fun c_7 => ?_)
    · refine lv_iconst (v := J (0)) hx hb dX1_haveAct_51 rfl ?_
      exact cut_52 _  ls (by unfold p_haveAct; (repeat' split) <;> omega) (by omega) (lv_sub hl [0, 1] rfl)
    · refine g_statN hx hb hk.2.2.1 hS hown (va_Nw.use rfl hk.2.2.2.2.2.2.2.2.2.2.2.2.1) dX1_haveAct_10 ?_
      refine lv_iload_n hx hb dX1_haveAct_13 rfl (lv_at hl 1 rfl) ?_
      refine g_sald hx hb hk.2.2.1 hS (by omega) (by omega) (by decide) dX1_haveAct_14 ?_
      refine lv_aload_n hx hb dX1_haveAct_15 rfl (lv_at hl 0 rfl) ?_
      refine g_get (ci := 1) (C := RX1) (T := TX1) (N := 7) (v := .int (J (I 0))) hx hb hfX1 (fun _ h9 => h9) hown hk hW hM.1 rfl 0 (by decide) (hts (.fieldLink RX1 9 "JugsAndGlasses$Jugs" "number" "I") (by decide +kernel)) rfl rfl dX1_haveAct_16 ?_
      refine j_icmp_ge (x := k_giver a) (y := I 0) (tgt := 51) hx hb ⟨by omega, by omega⟩ ⟨by omega, by omega⟩ dX1_haveAct_19 (by decide) (fun c_19 => ?_) (fun c_19 => ?_)
      · refine lv_iconst (v := J (0)) hx hb dX1_haveAct_51 rfl ?_
        exact cut_52 _  ls (by unfold p_haveAct; (repeat' split) <;> omega) (by omega) (lv_sub hl [0, 1] rfl)
      · refine g_statN hx hb hk.2.2.2.1 hS hown (va_Nw.use rfl hk.2.2.2.2.2.2.2.2.2.2.2.2.2) dX1_haveAct_22 ?_
        refine lv_iload_n hx hb dX1_haveAct_25 rfl (lv_at hl 1 rfl) ?_
        refine g_sald hx hb hk.2.2.2.1 hS (by omega) (by omega) (by decide) dX1_haveAct_26 ?_
        refine lv_aload_n hx hb dX1_haveAct_27 rfl (lv_at hl 0 rfl) ?_
        refine g_get (ci := 1) (C := RX1) (T := TX1) (N := 7) (v := .int (J (I 0))) hx hb hfX1 (fun _ h9 => h9) hown hk hW hM.1 rfl 0 (by decide) (hts (.fieldLink RX1 9 "JugsAndGlasses$Jugs" "number" "I") (by decide +kernel)) rfl rfl dX1_haveAct_28 ?_
        refine j_icmp_ge (x := k_taker a) (y := I 0) (tgt := 51) hx hb ⟨by omega, by omega⟩ ⟨by omega, by omega⟩ dX1_haveAct_31 (by decide) (fun c_31 => ?_) (fun c_31 => ?_)
        · refine lv_iconst (v := J (0)) hx hb dX1_haveAct_51 rfl ?_
          exact cut_52 _  ls (by unfold p_haveAct; (repeat' split) <;> omega) (by omega) (lv_sub hl [0, 1] rfl)
        · refine g_statN hx hb hk.2.2.1 hS hown (va_Nw.use rfl hk.2.2.2.2.2.2.2.2.2.2.2.2.1) dX1_haveAct_34 ?_
          refine lv_iload_n hx hb dX1_haveAct_37 rfl (lv_at hl 1 rfl) ?_
          refine g_sald hx hb hk.2.2.1 hS (by omega) (by omega) (by decide) dX1_haveAct_38 ?_
          refine g_statN hx hb hk.2.2.2.1 hS hown (va_Nw.use rfl hk.2.2.2.2.2.2.2.2.2.2.2.2.2) dX1_haveAct_39 ?_
          refine lv_iload_n hx hb dX1_haveAct_42 rfl (lv_at hl 1 rfl) ?_
          refine g_sald hx hb hk.2.2.2.1 hS (by omega) (by omega) (by decide) dX1_haveAct_43 ?_
          refine j_icmp_eq (x := k_giver a) (y := k_taker a) (tgt := 51) hx hb ⟨by omega, by omega⟩ ⟨by omega, by omega⟩ dX1_haveAct_44 (by decide) (fun c_44 => ?_) (fun c_44 => ?_)
          · refine lv_iconst (v := J (0)) hx hb dX1_haveAct_51 rfl ?_
            exact cut_52 _  ls (by unfold p_haveAct; (repeat' split) <;> omega) (by omega) (lv_sub hl [0, 1] rfl)
          · refine lv_iconst (v := J (1)) hx hb dX1_haveAct_47 rfl ?_
            refine lv_goto (tgt := 52) hx hb dX1_haveAct_48 (by decide) ?_
            exact cut_52 _  ls (by unfold p_haveAct; (repeat' split) <;> omega) (by omega) (lv_sub hl [0, 1] rfl)

set_option maxHeartbeats 4000000 in
set_option maxRecDepth 100000 in
theorem k_moved (l : Launch) (g : GX) (base : Nat) (sa : Nat → Nat) (h0 : Hp) (o : Nat) (R : Nat → Nat) (I : Nat → Int) (A : Nat → Int → Int) (a : Int) (hM : OB g 1 7 kd1 h0 o R I L4 A) (ha : i32 a) (hj : Jok I A) : MC l g base sa yX1_moved wsX1_moved ({ frames := 0, cells := 0, slots := 0, locals := 0 }) ([.ref o, .int (J a)]) h0 (fun r h' => r = some (.int (J (p_mv (I 0) (I 2) (I 3) (A 4) (A 5) a))) ∧ h' = h0) := by
  refine Met.ofW (cc := cX1_moved) (maxL := 6) (ret := (some .int)) (by decide) rfl ?_
  intro p e s m args below meth c s₁ B hml hv
  obtain ⟨rfl, hk, hW⟩ := hv
  have hx := B.exec
  have hb := B.bytes
  have hr := B.returns
  have hts := atoms_spec (ws := wsX1_moved) B.pre
  have hown : s.vm.findClass RX1 = some m.cls := findClass_of_methodNamed B.named
  have hlocks := B.notSynchronized
  have hfX1 : ∀ w ∈ wsX10, w.before ([.ref o, .int (J a)]).toArray s = true := fun w h => hts w (List.mem_cons_of_mem _ (List.mem_append_right _ h))
  have hS : va_S (Ab base) s.heap s.heap [] := va_S.rf
  have hl := lv_entry ([.ref o, .int (J a)]) (n := 6) (Nat.le_of_ble_eq_true rfl)
  rw [lg_entry_eq]
  generalize (lg_sl ([.ref o, .int (J a)]) ++ List.replicate (6 - (lg_sl ([.ref o, .int (J a)])).length) Slot.unset).toArray = ls at hl ⊢
  have hl : lv_has ls 6 [(0, .ref o), (1, .int (J a))] := hl
  obtain ⟨ha1, ha2⟩ := ha
  have hg := k_giver_r a
  have ht := k_taker_r a
  obtain ⟨hj1, hj2, hj3, hj4, hj5, hj6, hj7, hj8, hj9⟩ := hj
  refine lv_iload_n hx hb dX1_moved_0 rfl (lv_at hl 1 rfl) ?_
  refine j_if_lt (x := a) (tgt := 10) hx hb ⟨by omega, by omega⟩ dX1_moved_1 (by decide) (fun c_1 => ?_) (fun c_1 => ?_)
  · refine lv_iconst (v := J (0)) hx hb dX1_moved_10 rfl ?_
    exact g_iret hx hb hr hW hS dX1_moved_11 hlocks (⟨congrArg (fun z : Int => some (Value.int (J z))) (show 0 = p_mv (I 0) (I 2) (I 3) (A 4) (A 5) a from by unfold p_mv; rw [if_pos (by omega)]), rfl⟩)
  · refine lv_iload_n hx hb dX1_moved_4 rfl (lv_at hl 1 rfl) ?_
    refine lv_bipush (v := J (24)) hx hb dX1_moved_5 (by decide) ?_
    refine j_icmp_lt (x := a) (y := 24) (tgt := 12) hx hb ⟨by omega, by omega⟩ ⟨by decide, by decide⟩ dX1_moved_7 (by decide) (fun c_7 => ?_) (fun c_7 => ?_)
    · refine g_statN hx hb hk.2.2.1 hS hown (va_Nw.use rfl hk.2.2.2.2.2.2.2.2.2.2.2.2.1) dX1_moved_12 ?_
      refine lv_iload_n hx hb dX1_moved_15 rfl (lv_at hl 1 rfl) ?_
      refine g_sald hx hb hk.2.2.1 hS (by omega) (by omega) (by decide) dX1_moved_16 ?_
      refine lv_istore_n (lv' := [(2, .int (J (k_giver a))), (0, .ref o), (1, .int (J a))]) hx hb dX1_moved_17 rfl hl (by decide) rfl (fun ls hl => ?_)
      refine g_statN hx hb hk.2.2.2.1 hS hown (va_Nw.use rfl hk.2.2.2.2.2.2.2.2.2.2.2.2.2) dX1_moved_18 ?_
      refine lv_iload_n hx hb dX1_moved_21 rfl (lv_at hl 2 rfl) ?_
      refine g_sald hx hb hk.2.2.2.1 hS (by omega) (by omega) (by decide) dX1_moved_22 ?_
      refine lv_istore_n (lv' := [(3, .int (J (k_taker a))), (2, .int (J (k_giver a))), (0, .ref o), (1, .int (J a))]) hx hb dX1_moved_23 rfl hl (by decide) rfl (fun ls hl => ?_)
      refine lv_iload_n hx hb dX1_moved_24 rfl (lv_at hl 1 rfl) ?_
      refine lv_aload_n hx hb dX1_moved_25 rfl (lv_at hl 2 rfl) ?_
      refine g_get (ci := 1) (C := RX1) (T := TX1) (N := 7) (v := .int (J (I 0))) hx hb hfX1 (fun _ h9 => h9) hown hk hW hM.1 rfl 0 (by decide) (hts (.fieldLink RX1 9 "JugsAndGlasses$Jugs" "number" "I") (by decide +kernel)) rfl rfl dX1_moved_26 ?_
      refine j_icmp_ge (x := k_giver a) (y := I 0) (tgt := 45) hx hb ⟨by omega, by omega⟩ ⟨by omega, by omega⟩ dX1_moved_29 (by decide) (fun c_29 => ?_) (fun c_29 => ?_)
      · refine lv_iconst (v := J (0)) hx hb dX1_moved_45 rfl ?_
        exact g_iret hx hb hr hW hS dX1_moved_46 hlocks (⟨congrArg (fun z : Int => some (Value.int (J z))) (show 0 = p_mv (I 0) (I 2) (I 3) (A 4) (A 5) a from by unfold p_mv; rw [if_neg (by omega), if_pos (by omega)]), rfl⟩)
      · refine lv_iload_n hx hb dX1_moved_32 rfl (lv_at hl 0 rfl) ?_
        refine lv_aload_n hx hb dX1_moved_33 rfl (lv_at hl 2 rfl) ?_
        refine g_get (ci := 1) (C := RX1) (T := TX1) (N := 7) (v := .int (J (I 0))) hx hb hfX1 (fun _ h9 => h9) hown hk hW hM.1 rfl 0 (by decide) (hts (.fieldLink RX1 9 "JugsAndGlasses$Jugs" "number" "I") (by decide +kernel)) rfl rfl dX1_moved_34 ?_
        refine j_icmp_ge (x := k_taker a) (y := I 0) (tgt := 45) hx hb ⟨by omega, by omega⟩ ⟨by omega, by omega⟩ dX1_moved_37 (by decide) (fun c_37 => ?_) (fun c_37 => ?_)
        · refine lv_iconst (v := J (0)) hx hb dX1_moved_45 rfl ?_
          exact g_iret hx hb hr hW hS dX1_moved_46 hlocks (⟨congrArg (fun z : Int => some (Value.int (J z))) (show 0 = p_mv (I 0) (I 2) (I 3) (A 4) (A 5) a from by unfold p_mv; rw [if_neg (by omega), if_pos (by omega)]), rfl⟩)
        · refine lv_iload_n hx hb dX1_moved_40 rfl (lv_at hl 1 rfl) ?_
          refine lv_iload_n hx hb dX1_moved_41 rfl (lv_at hl 0 rfl) ?_
          refine j_icmp_ne (x := k_giver a) (y := k_taker a) (tgt := 47) hx hb ⟨by omega, by omega⟩ ⟨by omega, by omega⟩ dX1_moved_42 (by decide) (fun c_42 => ?_) (fun c_42 => ?_)
          · have cut_73 : ∀ (t : Int) (ls : Array Slot), t = p_there (I 2) (A 5) (k_giver a) → 0 ≤ t ∧ t ≤ 10 → lv_has ls 6 [(3, .int (J (k_taker a))), (2, .int (J (k_giver a))), (0, .ref o), (1, .int (J a))] → W p l e (headSpec wsX1_moved ({ frames := 0, cells := 0, slots := 0, locals := 0 })).room s m ([.ref o, .int (J a)]).toArray below meth c s.heap [] 0 0 (MQ below (QcM g base (fun r h' => r = some (.int (J (p_mv (I 0) (I 2) (I 3) (A 4) (A 5) a))) ∧ h' = h0)) ([.ref o, .int (J a)]).toArray s (0) (0) (Ab base)) (F0 m 73 ls [.int (J t)]) := by
              intro t  ls et etr hl
              refine lv_istore (lv' := [(4, .int (J t)), (3, .int (J (k_taker a))), (2, .int (J (k_giver a))), (0, .ref o), (1, .int (J a))]) hx hb dX1_moved_73 hl (by decide) rfl (fun ls hl => ?_)
              have cut_108 : ∀ (u : Int) (ls : Array Slot), u = p_room (I 3) (A 4) (A 5) (k_taker a) → 0 ≤ u ∧ u ≤ 10 → lv_has ls 6 [(4, .int (J t)), (3, .int (J (k_taker a))), (2, .int (J (k_giver a))), (0, .ref o), (1, .int (J a))] → W p l e (headSpec wsX1_moved ({ frames := 0, cells := 0, slots := 0, locals := 0 })).room s m ([.ref o, .int (J a)]).toArray below meth c s.heap [] 0 0 (MQ below (QcM g base (fun r h' => r = some (.int (J (p_mv (I 0) (I 2) (I 3) (A 4) (A 5) a))) ∧ h' = h0)) ([.ref o, .int (J a)]).toArray s (0) (0) (Ab base)) (F0 m 108 ls [.int (J u)]) := by
                intro u  ls et2 etr2 hl
                refine lv_istore (lv' := [(5, .int (J u)), (4, .int (J t)), (3, .int (J (k_taker a))), (2, .int (J (k_giver a))), (0, .ref o), (1, .int (J a))]) hx hb dX1_moved_108 hl (by decide) rfl (fun ls hl => ?_)
                refine lv_iload hx hb dX1_moved_110 (lv_at hl 1 rfl) ?_
                refine lv_iload hx hb dX1_moved_112 (lv_at hl 0 rfl) ?_
                refine j_icmp_ge (x := t) (y := u) (tgt := 122) hx hb ⟨by omega, by omega⟩ ⟨by omega, by omega⟩ dX1_moved_114 (by decide) (fun c_114 => ?_) (fun c_114 => ?_)
                · refine lv_iload hx hb dX1_moved_122 (lv_at hl 0 rfl) ?_
                  exact g_iret hx hb hr hW hS dX1_moved_124 hlocks (⟨congrArg (fun z : Int => some (Value.int (J z))) (show u = p_mv (I 0) (I 2) (I 3) (A 4) (A 5) a from by unfold p_mv; rw [if_neg (by omega), if_neg (by omega), ← et, ← et2]; split <;> omega), rfl⟩)
                · refine lv_iload hx hb dX1_moved_117 (lv_at hl 1 rfl) ?_
                  refine lv_goto (tgt := 124) hx hb dX1_moved_119 (by decide) ?_
                  exact g_iret hx hb hr hW hS dX1_moved_124 hlocks (⟨congrArg (fun z : Int => some (Value.int (J z))) (show t = p_mv (I 0) (I 2) (I 3) (A 4) (A 5) a from by unfold p_mv; rw [if_neg (by omega), if_neg (by omega), ← et, ← et2]; split <;> omega), rfl⟩)
              refine lv_iload_n hx hb dX1_moved_75 rfl (lv_at hl 1 rfl) ?_
              refine j_if_lt (x := k_taker a) (tgt := 95) hx hb ⟨by omega, by omega⟩ dX1_moved_76 (by decide) (fun c_76 => ?_) (fun c_76 => ?_)
              · refine lv_aload_n hx hb dX1_moved_95 rfl (lv_at hl 3 rfl) ?_
                refine g_get (ci := 1) (C := RX1) (T := TX1) (N := 7) (v := .int (J (I 3))) hx hb hfX1 (fun _ h9 => h9) hown hk hW hM.1 rfl 3 (by decide) (hts (.fieldLink RX1 22 "JugsAndGlasses$Jugs" "drain" "Z") (by decide +kernel)) rfl rfl dX1_moved_96 ?_
                refine j_if_eq (x := I 3) (tgt := 107) hx hb ⟨by omega, by omega⟩ dX1_moved_99 (by decide) (fun c_99 => ?_) (fun c_99 => ?_)
                · refine lv_iconst (v := J (0)) hx hb dX1_moved_107 rfl ?_
                  exact cut_108 _  ls (by unfold p_room; (repeat' split) <;> omega) (by first | omega | (have h1 := hj5 (k_taker a) (by omega) (by omega); have h2 := hj6 (k_taker a) (by omega) (by omega); omega)) (lv_sub hl [0, 1, 2, 3, 4] rfl)
                · refine lv_bipush (v := J (10)) hx hb dX1_moved_102 (by decide) ?_
                  refine lv_goto (tgt := 108) hx hb dX1_moved_104 (by decide) ?_
                  exact cut_108 _  ls (by unfold p_room; (repeat' split) <;> omega) (by first | omega | (have h1 := hj5 (k_taker a) (by omega) (by omega); have h2 := hj6 (k_taker a) (by omega) (by omega); omega)) (lv_sub hl [0, 1, 2, 3, 4] rfl)
              · refine lv_aload_n hx hb dX1_moved_79 rfl (lv_at hl 3 rfl) ?_
                refine g_get (ci := 1) (C := RX1) (T := TX1) (N := 7) (v := .ref (R 4)) hx hb hfX1 (fun _ h9 => h9) hown hk hW hM.1 rfl 4 (by decide) (hts (.fieldLink RX1 25 "JugsAndGlasses$Jugs" "size" "[I") (by decide +kernel)) rfl rfl dX1_moved_80 ?_
                refine lv_iload_n hx hb dX1_moved_83 rfl (lv_at hl 1 rfl) ?_
                refine g_iald (n := 4) (f := A 4) (i := k_taker a) hx hb hk hW (hM.ai 4 (by decide) rfl) (by omega) (by omega) (by omega) dX1_moved_84 ?_
                refine lv_aload_n hx hb dX1_moved_85 rfl (lv_at hl 3 rfl) ?_
                refine g_get (ci := 1) (C := RX1) (T := TX1) (N := 7) (v := .ref (R 5)) hx hb hfX1 (fun _ h9 => h9) hown hk hW hM.1 rfl 5 (by decide) (hts (.fieldLink RX1 29 "JugsAndGlasses$Jugs" "held" "[I") (by decide +kernel)) rfl rfl dX1_moved_86 ?_
                refine lv_iload_n hx hb dX1_moved_89 rfl (lv_at hl 1 rfl) ?_
                refine g_iald (n := 4) (f := A 5) (i := k_taker a) hx hb hk hW (hM.ai 5 (by decide) rfl) (by omega) (by omega) (by omega) dX1_moved_90 ?_
                refine j_isub hx hb dX1_moved_91 ?_
                refine lv_goto (tgt := 108) hx hb dX1_moved_92 (by decide) ?_
                exact cut_108 _  ls (by unfold p_room; (repeat' split) <;> omega) (by first | omega | (have h1 := hj5 (k_taker a) (by omega) (by omega); have h2 := hj6 (k_taker a) (by omega) (by omega); omega)) (lv_sub hl [0, 1, 2, 3, 4] rfl)
            refine lv_iload_n hx hb dX1_moved_47 rfl (lv_at hl 1 rfl) ?_
            refine j_if_lt (x := k_giver a) (tgt := 60) hx hb ⟨by omega, by omega⟩ dX1_moved_48 (by decide) (fun c_48 => ?_) (fun c_48 => ?_)
            · refine lv_aload_n hx hb dX1_moved_60 rfl (lv_at hl 2 rfl) ?_
              refine g_get (ci := 1) (C := RX1) (T := TX1) (N := 7) (v := .int (J (I 2))) hx hb hfX1 (fun _ h9 => h9) hown hk hW hM.1 rfl 2 (by decide) (hts (.fieldLink RX1 18 "JugsAndGlasses$Jugs" "tap" "Z") (by decide +kernel)) rfl rfl dX1_moved_61 ?_
              refine j_if_eq (x := I 2) (tgt := 72) hx hb ⟨by omega, by omega⟩ dX1_moved_64 (by decide) (fun c_64 => ?_) (fun c_64 => ?_)
              · refine lv_iconst (v := J (0)) hx hb dX1_moved_72 rfl ?_
                exact cut_73 _  ls (by unfold p_there; (repeat' split) <;> omega) (by first | omega | (have h1 := hj5 (k_giver a) (by omega) (by omega); have h2 := hj6 (k_giver a) (by omega) (by omega); omega)) (lv_sub hl [0, 1, 2, 3] rfl)
              · refine lv_bipush (v := J (10)) hx hb dX1_moved_67 (by decide) ?_
                refine lv_goto (tgt := 73) hx hb dX1_moved_69 (by decide) ?_
                exact cut_73 _  ls (by unfold p_there; (repeat' split) <;> omega) (by first | omega | (have h1 := hj5 (k_giver a) (by omega) (by omega); have h2 := hj6 (k_giver a) (by omega) (by omega); omega)) (lv_sub hl [0, 1, 2, 3] rfl)
            · refine lv_aload_n hx hb dX1_moved_51 rfl (lv_at hl 2 rfl) ?_
              refine g_get (ci := 1) (C := RX1) (T := TX1) (N := 7) (v := .ref (R 5)) hx hb hfX1 (fun _ h9 => h9) hown hk hW hM.1 rfl 5 (by decide) (hts (.fieldLink RX1 29 "JugsAndGlasses$Jugs" "held" "[I") (by decide +kernel)) rfl rfl dX1_moved_52 ?_
              refine lv_iload_n hx hb dX1_moved_55 rfl (lv_at hl 1 rfl) ?_
              refine g_iald (n := 4) (f := A 5) (i := k_giver a) hx hb hk hW (hM.ai 5 (by decide) rfl) (by omega) (by omega) (by omega) dX1_moved_56 ?_
              refine lv_goto (tgt := 73) hx hb dX1_moved_57 (by decide) ?_
              exact cut_73 _  ls (by unfold p_there; (repeat' split) <;> omega) (by first | omega | (have h1 := hj5 (k_giver a) (by omega) (by omega); have h2 := hj6 (k_giver a) (by omega) (by omega); omega)) (lv_sub hl [0, 1, 2, 3] rfl)
          · refine lv_iconst (v := J (0)) hx hb dX1_moved_45 rfl ?_
            exact g_iret hx hb hr hW hS dX1_moved_46 hlocks (⟨congrArg (fun z : Int => some (Value.int (J z))) (show 0 = p_mv (I 0) (I 2) (I 3) (A 4) (A 5) a from by unfold p_mv; rw [if_neg (by omega), if_pos (by omega)]), rfl⟩)
    · refine lv_iconst (v := J (0)) hx hb dX1_moved_10 rfl ?_
      exact g_iret hx hb hr hW hS dX1_moved_11 hlocks (⟨congrArg (fun z : Int => some (Value.int (J z))) (show 0 = p_mv (I 0) (I 2) (I 3) (A 4) (A 5) a from by unfold p_mv; rw [if_pos (by omega)]), rfl⟩)

set_option maxHeartbeats 4000000 in
set_option maxRecDepth 100000 in
theorem k_code (l : Launch) (g : GX) (base : Nat) (sa : Nat → Nat) (h0 : Hp) (o : Nat) (R : Nat → Nat) (I : Nat → Int) (A : Nat → Int → Int) (hM : OB g 1 7 kd1 h0 o R I L4 A) (hn : 0 ≤ I 0 ∧ I 0 ≤ 4) : MC l g base sa yX1_code wsX1_code ({ frames := 0, cells := 0, slots := 0, locals := 0 }) ([.ref o]) h0 (fun r h' => r = some (.int (J (sT (fun j => A 5 j * A 6 j) (I 0)))) ∧ h' = h0) := by
  refine Met.ofW (cc := cX1_code) (maxL := 3) (ret := (some .int)) (by decide) rfl ?_
  intro p e s m args below meth c s₁ B hml hv
  obtain ⟨rfl, hk, hW⟩ := hv
  have hx := B.exec
  have hb := B.bytes
  have hr := B.returns
  have hts := atoms_spec (ws := wsX1_code) B.pre
  have hown : s.vm.findClass RX1 = some m.cls := findClass_of_methodNamed B.named
  have hlocks := B.notSynchronized
  have hfX1 : ∀ w ∈ wsX10, w.before ([.ref o]).toArray s = true := fun w h => hts w (List.mem_cons_of_mem _ (List.mem_append_right _ h))
  have hS : va_S (Ab base) s.heap s.heap [] := va_S.rf
  have hl := lv_entry ([.ref o]) (n := 3) (Nat.le_of_ble_eq_true rfl)
  rw [lg_entry_eq]
  generalize (lg_sl ([.ref o]) ++ List.replicate (3 - (lg_sl ([.ref o])).length) Slot.unset).toArray = ls at hl ⊢
  have hl : lv_has ls 3 [(0, .ref o)] := hl
  refine lv_iconst (v := J (0)) hx hb dX1_code_0 rfl ?_
  refine lv_istore_n (lv' := [(1, .int (J 0)), (0, .ref o)]) hx hb dX1_code_1 rfl hl (by decide) rfl (fun ls hl => ?_)
  refine lv_iconst (v := J (0)) hx hb dX1_code_2 rfl ?_
  refine lv_istore_n (lv' := [(2, .int (J 0)), (1, .int (J 0)), (0, .ref o)]) hx hb dX1_code_3 rfl hl (by decide) rfl (fun ls hl => ?_)
  have loop_4 : ∀ (n : Nat) (i : Int) (z : Int) (h : Hp) (H : Heap) (locs : List Loc) (ls : Array Slot), I 0 - i < (n : Int) → 0 ≤ i ∧ i ≤ I 0 → z = sT (fun j => A 5 j * A 6 j) i → h = h0 → OB g 1 7 kd1 h o R I L4 A → Wd g base h H → va_S (Ab base) s.heap H locs → lv_has ls 3 [(0, .ref o), (1, .int (J z)), (2, .int (J i))] → W p l e (headSpec wsX1_code ({ frames := 0, cells := 0, slots := 0, locals := 0 })).room s m ([.ref o]).toArray below meth c H locs 0 0 (MQ below (QcM g base (fun r h' => r = some (.int (J (sT (fun j => A 5 j * A 6 j) (I 0)))) ∧ h' = h0)) ([.ref o]).toArray s (0) (0) (Ab base)) (F0 m 4 ls []) := by
    intro n
    induction n with
    | zero =>
      intro i z h H locs ls hmu hi ez eh hM hW hS hl
      exact absurd hmu (by omega)
    | succ n ih =>
      intro i z h H locs ls hmu hi ez eh hM hW hS hl
      have ih_4 := ih
      refine lv_iload_n hx hb dX1_code_4 rfl (lv_at hl 2 rfl) ?_
      refine lv_aload_n hx hb dX1_code_5 rfl (lv_at hl 0 rfl) ?_
      refine g_get (ci := 1) (C := RX1) (T := TX1) (N := 7) (v := .int (J (I 0))) hx hb hfX1 (fun _ h9 => h9) hown hk hW hM.1 rfl 0 (by decide) (hts (.fieldLink RX1 9 "JugsAndGlasses$Jugs" "number" "I") (by decide +kernel)) rfl rfl dX1_code_6 ?_
      refine j_icmp_ge (x := i) (y := I 0) (tgt := 39) hx hb ⟨by omega, by omega⟩ ⟨by omega, by omega⟩ dX1_code_9 (by decide) (fun c_9 => ?_) (fun c_9 => ?_)
      · refine lv_iload_n hx hb dX1_code_39 rfl (lv_at hl 1 rfl) ?_
        exact g_iret hx hb hr hW hS dX1_code_40 hlocks (⟨congrArg (fun q : Int => some (Value.int (J q))) (show z = sT (fun j => A 5 j * A 6 j) (I 0) from by rw [ez]; congr 1; omega), eh⟩)
      · refine lv_iload_n hx hb dX1_code_12 rfl (lv_at hl 2 rfl) ?_
        refine lv_iconst (v := J (4)) hx hb dX1_code_13 rfl ?_
        refine j_icmp_ge (x := i) (y := 4) (tgt := 39) hx hb ⟨by omega, by omega⟩ ⟨by decide, by decide⟩ dX1_code_14 (by decide) (fun c_14 => ?_) (fun c_14 => ?_)
        · exfalso
          omega
        · refine lv_iload_n hx hb dX1_code_17 rfl (lv_at hl 1 rfl) ?_
          refine lv_aload_n hx hb dX1_code_18 rfl (lv_at hl 0 rfl) ?_
          refine g_get (ci := 1) (C := RX1) (T := TX1) (N := 7) (v := .ref (R 5)) hx hb hfX1 (fun _ h9 => h9) hown hk hW hM.1 rfl 5 (by decide) (hts (.fieldLink RX1 29 "JugsAndGlasses$Jugs" "held" "[I") (by decide +kernel)) rfl rfl dX1_code_19 ?_
          refine lv_iload_n hx hb dX1_code_22 rfl (lv_at hl 2 rfl) ?_
          refine g_iald (n := 4) (f := A 5) (i := i) hx hb hk hW (hM.ai 5 (by decide) rfl) (by omega) (by omega) (by omega) dX1_code_23 ?_
          refine lv_aload_n hx hb dX1_code_24 rfl (lv_at hl 0 rfl) ?_
          refine g_get (ci := 1) (C := RX1) (T := TX1) (N := 7) (v := .ref (R 6)) hx hb hfX1 (fun _ h9 => h9) hown hk hW hM.1 rfl 6 (by decide) (hts (.fieldLink RX1 32 "JugsAndGlasses$Jugs" "weight" "[I") (by decide +kernel)) rfl rfl dX1_code_25 ?_
          refine lv_iload_n hx hb dX1_code_28 rfl (lv_at hl 2 rfl) ?_
          refine g_iald (n := 4) (f := A 6) (i := i) hx hb hk hW (hM.ai 6 (by decide) rfl) (by omega) (by omega) (by omega) dX1_code_29 ?_
          refine j_imul hx hb dX1_code_30 ?_
          refine j_iadd hx hb dX1_code_31 ?_
          refine lv_istore_n (lv' := [(1, .int (J (z + ((A 5 i) * (A 6 i))))), (0, .ref o), (2, .int (J i))]) hx hb dX1_code_32 rfl hl (by decide) rfl (fun ls hl => ?_)
          refine lv_iinc (v := J (i + 1)) (lv' := [(2, .int (J (i + 1))), (1, .int (J (z + ((A 5 i) * (A 6 i))))), (0, .ref o)]) hx hb dX1_code_33 hl (k := 2) rfl (J_inc (by omega)) (by decide) rfl (fun ls hl => ?_)
          refine lv_goto (tgt := 4) hx hb dX1_code_36 (by decide) ?_
          exact ih_4 (i + 1) (z + ((A 5 i) * (A 6 i))) h H locs ls (by omega) (by omega) (by rw [sT_s _ hi.1, ez]) eh hM hW hS (lv_sub hl [2, 1, 0] rfl)
  exact loop_4 ((I 0).toNat + 1) 0 0 h0 s.heap [] ls (by omega) (by omega) rfl rfl hM hW hS (lv_sub hl [2, 1, 0] rfl)

set_option maxHeartbeats 4000000 in
set_option maxRecDepth 100000 in
theorem k_stand (l : Launch) (g : GX) (base : Nat) (sa : Nat → Nat) (h0 : Hp) (o : Nat) (R : Nat → Nat) (I : Nat → Int) (A : Nat → Int → Int) (x : Int) (hM : OB g 1 7 kd1 h0 o R I L4 A) (ha : 0 ≤ x ∧ x < 2147483648) (hn : 0 ≤ I 0 ∧ I 0 ≤ 4) (hs : ∀ i, 0 ≤ i → i < I 0 → 1 ≤ A 4 i ∧ A 4 i ≤ 10) : MC l g base sa yX1_stand wsX1_stand ({ frames := 0, cells := 0, slots := 0, locals := 0 }) ([.ref o, .int (J x)]) h0 (fun r h' => r = none ∧ OB g 1 7 kd1 h' o R I L4 (va_up A 5 (p_stand (I 0) (A 4) (A 5) x)) ∧ Fr (FP 7 kd1 o R) h0 h') := by
  refine Met.ofW (cc := cX1_stand) (maxL := 5) (ret := none) (by decide) rfl ?_
  intro p e s m args below meth c s₁ B hml hv
  obtain ⟨rfl, hk, hW⟩ := hv
  have hx := B.exec
  have hb := B.bytes
  have hr := B.returns
  have hts := atoms_spec (ws := wsX1_stand) B.pre
  have hown : s.vm.findClass RX1 = some m.cls := findClass_of_methodNamed B.named
  have hlocks := B.notSynchronized
  have hfX1 : ∀ w ∈ wsX10, w.before ([.ref o, .int (J x)]).toArray s = true := fun w h => hts w (List.mem_cons_of_mem _ (List.mem_append_right _ h))
  have hS : va_S (Ab base) s.heap s.heap [] := va_S.rf
  have hl := lv_entry ([.ref o, .int (J x)]) (n := 5) (Nat.le_of_ble_eq_true rfl)
  rw [lg_entry_eq]
  generalize (lg_sl ([.ref o, .int (J x)]) ++ List.replicate (5 - (lg_sl ([.ref o, .int (J x)])).length) Slot.unset).toArray = ls at hl ⊢
  have hl : lv_has ls 5 [(0, .ref o), (1, .int (J x))] := hl
  have hF : Fr (FP 7 kd1 o R) h0 h0 := Fr.rf
  refine lv_iload_n hx hb dX1_stand_0 rfl (lv_at hl 1 rfl) ?_
  refine lv_istore_n (lv' := [(2, .int (J x)), (0, .ref o), (1, .int (J x))]) hx hb dX1_stand_1 rfl hl (by decide) rfl (fun ls hl => ?_)
  refine lv_iconst (v := J (0)) hx hb dX1_stand_2 rfl ?_
  refine lv_istore_n (lv' := [(3, .int (J 0)), (2, .int (J x)), (0, .ref o), (1, .int (J x))]) hx hb dX1_stand_3 rfl hl (by decide) rfl (fun ls hl => ?_)
  have loop_4 : ∀ (n : Nat) (i : Int) (f : Int → Int) (z : Int) (h : Hp) (H : Heap) (locs : List Loc) (ls : Array Slot), I 0 - i < (n : Int) → 0 ≤ i ∧ i ≤ I 0 → f = p_stand i (A 4) (A 5) x → z = rT (A 4) x i → 0 ≤ z ∧ z < 2147483648 → OB g 1 7 kd1 h o R I L4 (va_up A 5 (f)) → Fr (FP 7 kd1 o R) h0 h → Wd g base h H → va_S (Ab base) s.heap H locs → lv_has ls 5 [(0, .ref o), (1, .int (J x)), (2, .int (J z)), (3, .int (J i))] → W p l e (headSpec wsX1_stand ({ frames := 0, cells := 0, slots := 0, locals := 0 })).room s m ([.ref o, .int (J x)]).toArray below meth c H locs 0 0 (MQ below (QcM g base (fun r h' => r = none ∧ OB g 1 7 kd1 h' o R I L4 (va_up A 5 (p_stand (I 0) (A 4) (A 5) x)) ∧ Fr (FP 7 kd1 o R) h0 h')) ([.ref o, .int (J x)]).toArray s (0) (0) (Ab base)) (F0 m 4 ls []) := by
    intro n
    induction n with
    | zero =>
      intro i f z h H locs ls hmu hi ef ez hz hM hF hW hS hl
      exact absurd hmu (by omega)
    | succ n ih =>
      intro i f z h H locs ls hmu hi ef ez hz hM hF hW hS hl
      have ih_4 := ih
      refine lv_iload_n hx hb dX1_stand_4 rfl (lv_at hl 3 rfl) ?_
      refine lv_aload_n hx hb dX1_stand_5 rfl (lv_at hl 0 rfl) ?_
      refine g_get (ci := 1) (C := RX1) (T := TX1) (N := 7) (v := .int (J (I 0))) hx hb hfX1 (fun _ h9 => h9) hown hk hW hM.1 rfl 0 (by decide) (hts (.fieldLink RX1 9 "JugsAndGlasses$Jugs" "number" "I") (by decide +kernel)) rfl rfl dX1_stand_6 ?_
      refine j_icmp_ge (x := i) (y := I 0) (tgt := 54) hx hb ⟨by omega, by omega⟩ ⟨by omega, by omega⟩ dX1_stand_9 (by decide) (fun c_9 => ?_) (fun c_9 => ?_)
      · exact g_vret hx hb hr hW hS dX1_stand_54 hlocks (⟨rfl, by have e9 : i = I 0 := (by omega); rw [← e9, ← ef]; exact hM, hF⟩)
      · refine lv_iload_n hx hb dX1_stand_12 rfl (lv_at hl 3 rfl) ?_
        refine lv_iconst (v := J (4)) hx hb dX1_stand_13 rfl ?_
        refine j_icmp_ge (x := i) (y := 4) (tgt := 54) hx hb ⟨by omega, by omega⟩ ⟨by decide, by decide⟩ dX1_stand_14 (by decide) (fun c_14 => ?_) (fun c_14 => ?_)
        · exfalso
          omega
        · have hsi := hs i hi.1 (by omega)
          refine lv_aload_n hx hb dX1_stand_17 rfl (lv_at hl 0 rfl) ?_
          refine g_get (ci := 1) (C := RX1) (T := TX1) (N := 7) (v := .ref (R 4)) hx hb hfX1 (fun _ h9 => h9) hown hk hW hM.1 rfl 4 (by decide) (hts (.fieldLink RX1 25 "JugsAndGlasses$Jugs" "size" "[I") (by decide +kernel)) rfl rfl dX1_stand_18 ?_
          refine lv_iload_n hx hb dX1_stand_21 rfl (lv_at hl 3 rfl) ?_
          refine g_iald (n := 4) (f := A 4) (i := i) hx hb hk hW (hM.ai 4 (by decide) rfl) (by omega) (by omega) (by omega) dX1_stand_22 ?_
          refine lv_iconst (v := J (1)) hx hb dX1_stand_23 rfl ?_
          refine j_iadd hx hb dX1_stand_24 ?_
          refine lv_istore (lv' := [(4, .int (J ((A 4 i) + 1))), (0, .ref o), (1, .int (J x)), (2, .int (J z)), (3, .int (J i))]) hx hb dX1_stand_25 hl (by decide) rfl (fun ls hl => ?_)
          refine lv_iload hx hb dX1_stand_27 (lv_at hl 0 rfl) ?_
          refine lv_iconst (v := J (1)) hx hb dX1_stand_29 rfl ?_
          refine j_icmp_le (x := (A 4 i) + 1) (y := 1) (tgt := 48) hx hb ⟨by omega, by omega⟩ ⟨by decide, by decide⟩ dX1_stand_30 (by decide) (fun c_30 => ?_) (fun c_30 => ?_)
          · exfalso
            omega
          · refine lv_aload_n hx hb dX1_stand_33 rfl (lv_at hl 1 rfl) ?_
            refine g_get (ci := 1) (C := RX1) (T := TX1) (N := 7) (v := .ref (R 5)) hx hb hfX1 (fun _ h9 => h9) hown hk hW hM.1 rfl 5 (by decide) (hts (.fieldLink RX1 29 "JugsAndGlasses$Jugs" "held" "[I") (by decide +kernel)) rfl rfl dX1_stand_34 ?_
            refine lv_iload_n hx hb dX1_stand_37 rfl (lv_at hl 4 rfl) ?_
            refine lv_iload_n hx hb dX1_stand_38 rfl (lv_at hl 3 rfl) ?_
            refine lv_iload hx hb dX1_stand_39 (lv_at hl 0 rfl) ?_
            refine j_irem hx hb (by omega) (by omega) (by omega) (by omega) dX1_stand_41 ?_
            refine o_iast (A' := (va_up A 5 (uf f i (z % ((A 4 i) + 1))))) (i := i) (x := z % ((A 4 i) + 1)) hx hb hk hW hS hM hF 5 (by decide) rfl (FP.a 5 (by decide) ⟨by decide, by decide⟩) (by omega) (show i < 4 from by omega) (show 4 < 2147483648 from by omega) (bx_uu _ _ _ _) dX1_stand_42 (fun h H locs hM hF hst hW hS => ?_)
            refine lv_iload_n hx hb dX1_stand_43 rfl (lv_at hl 3 rfl) ?_
            refine lv_iload hx hb dX1_stand_44 (lv_at hl 0 rfl) ?_
            refine j_idiv hx hb (by omega) (by omega) (by omega) (by omega) dX1_stand_46 ?_
            refine lv_istore_n (lv' := [(2, .int (J (z / ((A 4 i) + 1)))), (4, .int (J ((A 4 i) + 1))), (0, .ref o), (1, .int (J x)), (3, .int (J i))]) hx hb dX1_stand_47 rfl hl (by decide) rfl (fun ls hl => ?_)
            refine lv_iinc (v := J (i + 1)) (lv' := [(3, .int (J (i + 1))), (2, .int (J (z / ((A 4 i) + 1)))), (4, .int (J ((A 4 i) + 1))), (0, .ref o), (1, .int (J x))]) hx hb dX1_stand_48 hl (k := 4) rfl (J_inc (by omega)) (by decide) rfl (fun ls hl => ?_)
            refine lv_goto (tgt := 4) hx hb dX1_stand_51 (by decide) ?_
            exact ih_4 (i + 1) (uf f i (z % ((A 4 i) + 1))) (z / (A 4 i + 1)) h H locs ls (by omega) (by omega) (by rw [ef, ez, p_stand_s _ _ _ hi.1]) (by rw [rT_s _ _ hi.1, ez]) (div_rng hz.1 hz.2 (by omega)) hM hF hW hS (lv_sub hl [3, 4, 1, 0] rfl)
  exact loop_4 ((I 0).toNat + 1) 0 (A 5) x h0 s.heap [] ls (by omega) (by omega) (by unfold p_stand; funext j; rw [if_neg (by omega)]) rfl ha (by rw [va_up_id]; exact hM) hF hW hS (lv_sub hl [2, 3, 1, 0] rfl)

set_option maxHeartbeats 4000000 in
set_option maxRecDepth 100000 in
theorem k_meet (l : Launch) (g : GX) (base : Nat) (sa : Nat → Nat) (h0 : Hp) (o : Nat) (R : Nat → Nat) (I : Nat → Int) (A : Nat → Int → Int) (a v : Int) (hM : OB g 1 7 kd1 h0 o R I L4 A) (ha : i32 a) (hv : i32 v) (hn : 0 ≤ I 0 ∧ I 0 ≤ 4) (hh : ∀ i, 0 ≤ i → i < I 0 → 0 ≤ A 5 i ∧ A 5 i ≤ 10) : MC l g base sa yX1_meet wsX1_meet ({ frames := 1, cells := 0, slots := 0, locals := 21 }) ([.ref o, .int (J a), .int (J v)]) h0 (fun r h' => r = some (.int (J (p_meet (I 0) (A 5) a v))) ∧ h' = h0) := by
  refine Met.ofW (cc := cX1_meet) (maxL := 4) (ret := (some .boolean)) (by decide) rfl ?_
  intro p e s m args below meth c s₁ B hml hv
  obtain ⟨rfl, hk, hW⟩ := hv
  have hx := B.exec
  have hb := B.bytes
  have hr := B.returns
  have hts := atoms_spec (ws := wsX1_meet) B.pre
  have hown : s.vm.findClass RX1 = some m.cls := findClass_of_methodNamed B.named
  have hlocks := B.notSynchronized
  have hfX1 : ∀ w ∈ wsX10, w.before ([.ref o, .int (J a), .int (J v)]).toArray s = true := fun w h => hts w (List.mem_cons_of_mem _ (List.mem_append_right _ h))
  have hS : va_S (Ab base) s.heap s.heap [] := va_S.rf
  have hl := lv_entry ([.ref o, .int (J a), .int (J v)]) (n := 4) (Nat.le_of_ble_eq_true rfl)
  rw [lg_entry_eq]
  generalize (lg_sl ([.ref o, .int (J a), .int (J v)]) ++ List.replicate (4 - (lg_sl ([.ref o, .int (J a), .int (J v)])).length) Slot.unset).toArray = ls at hl ⊢
  have hl : lv_has ls 4 [(0, .ref o), (1, .int (J a)), (2, .int (J v))] := hl
  obtain ⟨ha1, ha2⟩ := ha
  obtain ⟨hv1, hv2⟩ := hv
  refine lv_iload_n hx hb dX1_meet_0 rfl (lv_at hl 1 rfl) ?_
  refine j_if_lt (x := a) (tgt := 28) hx hb ⟨by omega, by omega⟩ dX1_meet_1 (by decide) (fun c_1 => ?_) (fun c_1 => ?_)
  · refine lv_iconst (v := J (0)) hx hb dX1_meet_28 rfl ?_
    refine lv_istore_n (lv' := [(3, .int (J 0)), (0, .ref o), (1, .int (J a)), (2, .int (J v))]) hx hb dX1_meet_29 rfl hl (by decide) rfl (fun ls hl => ?_)
    have loop_30 : ∀ (n : Nat) (j : Int) (h : Hp) (H : Heap) (locs : List Loc) (ls : Array Slot), I 0 - j < (n : Int) → 0 ≤ j ∧ j ≤ I 0 → p_any (A 5) v j.toNat = false → h = h0 → OB g 1 7 kd1 h o R I L4 A → Wd g base h H → va_S (Ab base) s.heap H locs → lv_has ls 4 [(0, .ref o), (1, .int (J a)), (2, .int (J v)), (3, .int (J j))] → W p l e (headSpec wsX1_meet ({ frames := 1, cells := 0, slots := 0, locals := 21 })).room s m ([.ref o, .int (J a), .int (J v)]).toArray below meth c H locs 0 0 (MQ below (QcM g base (fun r h' => r = some (.int (J (p_meet (I 0) (A 5) a v))) ∧ h' = h0)) ([.ref o, .int (J a), .int (J v)]).toArray s (0) (0) (Ab base)) (F0 m 30 ls []) := by
      intro n
      induction n with
      | zero =>
        intro j h H locs ls hmu hi ez eh hM hW hS hl
        exact absurd hmu (by omega)
      | succ n ih =>
        intro j h H locs ls hmu hi ez eh hM hW hS hl
        have ih_30 := ih
        refine lv_iload_n hx hb dX1_meet_30 rfl (lv_at hl 3 rfl) ?_
        refine lv_aload_n hx hb dX1_meet_31 rfl (lv_at hl 0 rfl) ?_
        refine g_get (ci := 1) (C := RX1) (T := TX1) (N := 7) (v := .int (J (I 0))) hx hb hfX1 (fun _ h9 => h9) hown hk hW hM.1 rfl 0 (by decide) (hts (.fieldLink RX1 9 "JugsAndGlasses$Jugs" "number" "I") (by decide +kernel)) rfl rfl dX1_meet_32 ?_
        refine j_icmp_ge (x := j) (y := I 0) (tgt := 61) hx hb ⟨by omega, by omega⟩ ⟨by omega, by omega⟩ dX1_meet_35 (by decide) (fun c_35 => ?_) (fun c_35 => ?_)
        · refine lv_iconst (v := J (0)) hx hb dX1_meet_61 rfl ?_
          exact g_zret hx hb hr (by omega) hW hS dX1_meet_62 hlocks (⟨congrArg (fun z : Int => some (Value.int (J z))) (show 0 = p_meet (I 0) (A 5) a v from by unfold p_meet; have e9 : j = I 0 := (by omega); rw [← e9, if_neg (by omega), ez]; rfl), eh⟩)
        · refine lv_iload_n hx hb dX1_meet_38 rfl (lv_at hl 3 rfl) ?_
          refine lv_iconst (v := J (4)) hx hb dX1_meet_39 rfl ?_
          refine j_icmp_ge (x := j) (y := 4) (tgt := 61) hx hb ⟨by omega, by omega⟩ ⟨by decide, by decide⟩ dX1_meet_40 (by decide) (fun c_40 => ?_) (fun c_40 => ?_)
          · exfalso
            omega
          · have hq2 := hh j hi.1 (by omega)
            refine lv_aload_n hx hb dX1_meet_43 rfl (lv_at hl 0 rfl) ?_
            refine g_get (ci := 1) (C := RX1) (T := TX1) (N := 7) (v := .ref (R 5)) hx hb hfX1 (fun _ h9 => h9) hown hk hW hM.1 rfl 5 (by decide) (hts (.fieldLink RX1 29 "JugsAndGlasses$Jugs" "held" "[I") (by decide +kernel)) rfl rfl dX1_meet_44 ?_
            refine lv_iload_n hx hb dX1_meet_47 rfl (lv_at hl 3 rfl) ?_
            refine g_iald (n := 4) (f := A 5) (i := j) hx hb hk hW (hM.ai 5 (by decide) rfl) (by omega) (by omega) (by omega) dX1_meet_48 ?_
            refine lv_iload_n hx hb dX1_meet_49 rfl (lv_at hl 2 rfl) ?_
            refine j_icmp_ne (x := A 5 j) (y := v) (tgt := 55) hx hb ⟨by omega, by omega⟩ ⟨by omega, by omega⟩ dX1_meet_50 (by decide) (fun c_50 => ?_) (fun c_50 => ?_)
            · refine lv_iinc (v := J (j + 1)) (lv' := [(3, .int (J (j + 1))), (0, .ref o), (1, .int (J a)), (2, .int (J v))]) hx hb dX1_meet_55 hl (k := 3) rfl (J_inc (by omega)) (by decide) rfl (fun ls hl => ?_)
              refine lv_goto (tgt := 30) hx hb dX1_meet_58 (by decide) ?_
              exact ih_30 (j + 1) h H locs ls (by omega) (by omega) (by rw [p_any_s _ _ hi.1, ez]; simp [c_50]) eh hM hW hS (lv_sub hl [1, 2, 3, 0] rfl)
            · refine lv_iconst (v := J (1)) hx hb dX1_meet_53 rfl ?_
              exact g_zret hx hb hr (by omega) hW hS dX1_meet_54 hlocks (⟨congrArg (fun z : Int => some (Value.int (J z))) (show 1 = p_meet (I 0) (A 5) a v from by unfold p_meet; rw [if_neg (by omega), if_pos (p_any_mono _ _ (show (j + 1).toNat ≤ (I 0).toNat by omega) (by rw [p_any_s _ _ hi.1]; simp [c_50]))]), eh⟩)
    exact loop_30 ((I 0).toNat + 1) 0 h0 s.heap [] ls (by omega) (by omega) rfl rfl hM hW hS (lv_sub hl [1, 2, 3, 0] rfl)
  · refine lv_aload_n hx hb dX1_meet_4 rfl (lv_at hl 0 rfl) ?_
    refine lv_iload_n hx hb dX1_meet_5 rfl (lv_at hl 1 rfl) ?_
    refine g_callV (As := [.int (J a)]) (rest := []) (b := o) (ci := 1) (C := RX1) (T := TX1) (N := 7) ⟨hx, hb, hml, hown, hts⟩ (k_has l g base sa h0 o R I A a hM ⟨by omega, by omega⟩ hn) (cwV 1 hts gX1_meet_X1_has rfl rfl rfl (by decide +kernel) ⟨Nat.le_of_ble_eq_true rfl, Nat.le_of_ble_eq_true rfl⟩) hk hW hS hM.1 rfl rfl hl.1 (Nat.le_of_ble_eq_true rfl) dX1_meet_6 ⟨Nat.le_of_ble_eq_true rfl, Nat.le_of_ble_eq_true rfl⟩ (fun r9 h9 H locs hp hW hS => ?_)
    obtain ⟨rfl, e9⟩ := hp
    rw [e9] at hW
    refine W.eq (g2 := F0 m 9 ls [.int (J (p_has (I 0) a))]) rfl ?_
    have hph := p_has_r (I 0) a
    refine j_if_eq (x := p_has (I 0) a) (tgt := 26) hx hb ⟨by omega, by omega⟩ dX1_meet_9 (by decide) (fun c_9 => ?_) (fun c_9 => ?_)
    · refine lv_iconst (v := J (0)) hx hb dX1_meet_26 rfl ?_
      exact g_zret hx hb hr (by omega) hW hS dX1_meet_27 hlocks (⟨congrArg (fun z : Int => some (Value.int (J z))) (show 0 = p_meet (I 0) (A 5) a v from by unfold p_meet; rw [if_pos (by omega)]; split <;> first | omega | (have := p_has_0 c_9; omega)), rfl⟩)
    · have hq := p_has_1 c_9
      have hq2 := hh a (by omega) (by omega)
      refine lv_aload_n hx hb dX1_meet_12 rfl (lv_at hl 0 rfl) ?_
      refine g_get (ci := 1) (C := RX1) (T := TX1) (N := 7) (v := .ref (R 5)) hx hb hfX1 (fun _ h9 => h9) hown hk hW hM.1 rfl 5 (by decide) (hts (.fieldLink RX1 29 "JugsAndGlasses$Jugs" "held" "[I") (by decide +kernel)) rfl rfl dX1_meet_13 ?_
      refine lv_iload_n hx hb dX1_meet_16 rfl (lv_at hl 1 rfl) ?_
      refine g_iald (n := 4) (f := A 5) (i := a) hx hb hk hW (hM.ai 5 (by decide) rfl) (by omega) (by omega) (by omega) dX1_meet_17 ?_
      refine lv_iload_n hx hb dX1_meet_18 rfl (lv_at hl 2 rfl) ?_
      refine j_icmp_ne (x := A 5 a) (y := v) (tgt := 26) hx hb ⟨by omega, by omega⟩ ⟨by omega, by omega⟩ dX1_meet_19 (by decide) (fun c_19 => ?_) (fun c_19 => ?_)
      · refine lv_iconst (v := J (0)) hx hb dX1_meet_26 rfl ?_
        exact g_zret hx hb hr (by omega) hW hS dX1_meet_27 hlocks (⟨congrArg (fun z : Int => some (Value.int (J z))) (show 0 = p_meet (I 0) (A 5) a v from by unfold p_meet; rw [if_pos (by omega)]; split <;> first | omega | (have := p_has_0 c_9; omega)), rfl⟩)
      · refine lv_iconst (v := J (1)) hx hb dX1_meet_22 rfl ?_
        refine lv_goto (tgt := 27) hx hb dX1_meet_23 (by decide) ?_
        exact g_zret hx hb hr (by omega) hW hS dX1_meet_27 hlocks (⟨congrArg (fun z : Int => some (Value.int (J z))) (show 1 = p_meet (I 0) (A 5) a v from by unfold p_meet; rw [if_pos (by omega)]; split <;> first | omega | (have := p_has_0 c_9; omega)), rfl⟩)

set_option maxHeartbeats 4000000 in
set_option maxRecDepth 100000 in
theorem k_spiltBy (l : Launch) (g : GX) (base : Nat) (sa : Nat → Nat) (h0 : Hp) (o : Nat) (R : Nat → Nat) (I : Nat → Int) (A : Nat → Int → Int) (a : Int) (hM : OB g 1 7 kd1 h0 o R I L4 A) (ha : i32 a) : MC l g base sa yX1_spiltBy wsX1_spiltBy ({ frames := 0, cells := 0, slots := 0, locals := 0 }) ([.ref o, .int (J a)]) h0 (fun r h' => r = some (.int (J (p_spilt (A 5) a))) ∧ h' = h0) := by
  refine Met.ofW (cc := cX1_spiltBy) (maxL := 2) (ret := (some .int)) (by decide) rfl ?_
  intro p e s m args below meth c s₁ B hml hv
  obtain ⟨rfl, hk, hW⟩ := hv
  have hx := B.exec
  have hb := B.bytes
  have hr := B.returns
  have hts := atoms_spec (ws := wsX1_spiltBy) B.pre
  have hown : s.vm.findClass RX1 = some m.cls := findClass_of_methodNamed B.named
  have hlocks := B.notSynchronized
  have hfX1 : ∀ w ∈ wsX10, w.before ([.ref o, .int (J a)]).toArray s = true := fun w h => hts w (List.mem_cons_of_mem _ (List.mem_append_right _ h))
  have hS : va_S (Ab base) s.heap s.heap [] := va_S.rf
  have hl := lv_entry ([.ref o, .int (J a)]) (n := 2) (Nat.le_of_ble_eq_true rfl)
  rw [lg_entry_eq]
  generalize (lg_sl ([.ref o, .int (J a)]) ++ List.replicate (2 - (lg_sl ([.ref o, .int (J a)])).length) Slot.unset).toArray = ls at hl ⊢
  have hl : lv_has ls 2 [(0, .ref o), (1, .int (J a))] := hl
  obtain ⟨ha1, ha2⟩ := ha
  have hg := k_giver_r a
  have ht := k_taker_r a
  refine lv_iload_n hx hb dX1_spiltBy_0 rfl (lv_at hl 1 rfl) ?_
  refine j_if_lt (x := a) (tgt := 39) hx hb ⟨by omega, by omega⟩ dX1_spiltBy_1 (by decide) (fun c_1 => ?_) (fun c_1 => ?_)
  · refine lv_iconst (v := J (0)) hx hb dX1_spiltBy_39 rfl ?_
    exact g_iret hx hb hr hW hS dX1_spiltBy_40 hlocks (⟨congrArg (fun z : Int => some (Value.int (J z))) (show 0 = p_spilt (A 5) a from by unfold p_spilt; (repeat' split) <;> omega), rfl⟩)
  · refine lv_iload_n hx hb dX1_spiltBy_4 rfl (lv_at hl 1 rfl) ?_
    refine lv_bipush (v := J (24)) hx hb dX1_spiltBy_5 (by decide) ?_
    refine j_icmp_ge (x := a) (y := 24) (tgt := 39) hx hb ⟨by omega, by omega⟩ ⟨by decide, by decide⟩ dX1_spiltBy_7 (by decide) (fun c_7 => ?_) (fun c_7 => ?_)
    · refine lv_iconst (v := J (0)) hx hb dX1_spiltBy_39 rfl ?_
      exact g_iret hx hb hr hW hS dX1_spiltBy_40 hlocks (⟨congrArg (fun z : Int => some (Value.int (J z))) (show 0 = p_spilt (A 5) a from by unfold p_spilt; (repeat' split) <;> omega), rfl⟩)
    · refine g_statN hx hb hk.2.2.2.1 hS hown (va_Nw.use rfl hk.2.2.2.2.2.2.2.2.2.2.2.2.2) dX1_spiltBy_10 ?_
      refine lv_iload_n hx hb dX1_spiltBy_13 rfl (lv_at hl 1 rfl) ?_
      refine g_sald hx hb hk.2.2.2.1 hS (by omega) (by omega) (by decide) dX1_spiltBy_14 ?_
      refine j_if_ge (x := k_taker a) (tgt := 39) hx hb ⟨by omega, by omega⟩ dX1_spiltBy_15 (by decide) (fun c_15 => ?_) (fun c_15 => ?_)
      · refine lv_iconst (v := J (0)) hx hb dX1_spiltBy_39 rfl ?_
        exact g_iret hx hb hr hW hS dX1_spiltBy_40 hlocks (⟨congrArg (fun z : Int => some (Value.int (J z))) (show 0 = p_spilt (A 5) a from by unfold p_spilt; (repeat' split) <;> omega), rfl⟩)
      · refine g_statN hx hb hk.2.2.1 hS hown (va_Nw.use rfl hk.2.2.2.2.2.2.2.2.2.2.2.2.1) dX1_spiltBy_18 ?_
        refine lv_iload_n hx hb dX1_spiltBy_21 rfl (lv_at hl 1 rfl) ?_
        refine g_sald hx hb hk.2.2.1 hS (by omega) (by omega) (by decide) dX1_spiltBy_22 ?_
        refine j_if_lt (x := k_giver a) (tgt := 39) hx hb ⟨by omega, by omega⟩ dX1_spiltBy_23 (by decide) (fun c_23 => ?_) (fun c_23 => ?_)
        · refine lv_iconst (v := J (0)) hx hb dX1_spiltBy_39 rfl ?_
          exact g_iret hx hb hr hW hS dX1_spiltBy_40 hlocks (⟨congrArg (fun z : Int => some (Value.int (J z))) (show 0 = p_spilt (A 5) a from by unfold p_spilt; (repeat' split) <;> omega), rfl⟩)
        · refine lv_aload_n hx hb dX1_spiltBy_26 rfl (lv_at hl 0 rfl) ?_
          refine g_get (ci := 1) (C := RX1) (T := TX1) (N := 7) (v := .ref (R 5)) hx hb hfX1 (fun _ h9 => h9) hown hk hW hM.1 rfl 5 (by decide) (hts (.fieldLink RX1 29 "JugsAndGlasses$Jugs" "held" "[I") (by decide +kernel)) rfl rfl dX1_spiltBy_27 ?_
          refine g_statN hx hb hk.2.2.1 hS hown (va_Nw.use rfl hk.2.2.2.2.2.2.2.2.2.2.2.2.1) dX1_spiltBy_30 ?_
          refine lv_iload_n hx hb dX1_spiltBy_33 rfl (lv_at hl 1 rfl) ?_
          refine g_sald hx hb hk.2.2.1 hS (by omega) (by omega) (by decide) dX1_spiltBy_34 ?_
          refine g_iald (n := 4) (f := A 5) (i := k_giver a) hx hb hk hW (hM.ai 5 (by decide) rfl) (by omega) (by omega) (by omega) dX1_spiltBy_35 ?_
          refine lv_goto (tgt := 40) hx hb dX1_spiltBy_36 (by decide) ?_
          exact g_iret hx hb hr hW hS dX1_spiltBy_40 hlocks (⟨congrArg (fun z : Int => some (Value.int (J z))) (show A 5 (k_giver a) = p_spilt (A 5) a from by unfold p_spilt; (repeat' split) <;> omega), rfl⟩)

set_option maxHeartbeats 4000000 in
set_option maxRecDepth 100000 in
theorem k_shiftBy (l : Launch) (g : GX) (base : Nat) (sa : Nat → Nat) (h0 : Hp) (o : Nat) (R : Nat → Nat) (I : Nat → Int) (A : Nat → Int → Int) (a : Int) (hM : OB g 1 7 kd1 h0 o R I L4 A) (ha : i32 a) (hj : Jok I A) : MC l g base sa yX1_shiftBy wsX1_shiftBy ({ frames := 1, cells := 0, slots := 0, locals := 25 }) ([.ref o, .int (J a)]) h0 (fun r h' => r = some (.int (J (p_shift (I 0) (I 2) (I 3) (A 4) (A 5) (A 6) a))) ∧ h' = h0) := by
  refine Met.ofW (cc := cX1_shiftBy) (maxL := 5) (ret := (some .int)) (by decide) rfl ?_
  intro p e s m args below meth c s₁ B hml hv
  obtain ⟨rfl, hk, hW⟩ := hv
  have hx := B.exec
  have hb := B.bytes
  have hr := B.returns
  have hts := atoms_spec (ws := wsX1_shiftBy) B.pre
  have hown : s.vm.findClass RX1 = some m.cls := findClass_of_methodNamed B.named
  have hlocks := B.notSynchronized
  have hfX1 : ∀ w ∈ wsX10, w.before ([.ref o, .int (J a)]).toArray s = true := fun w h => hts w (List.mem_cons_of_mem _ (List.mem_append_right _ h))
  have hS : va_S (Ab base) s.heap s.heap [] := va_S.rf
  have hl := lv_entry ([.ref o, .int (J a)]) (n := 5) (Nat.le_of_ble_eq_true rfl)
  rw [lg_entry_eq]
  generalize (lg_sl ([.ref o, .int (J a)]) ++ List.replicate (5 - (lg_sl ([.ref o, .int (J a)])).length) Slot.unset).toArray = ls at hl ⊢
  have hl : lv_has ls 5 [(0, .ref o), (1, .int (J a))] := hl
  have hmr := p_mv_r hj a
  have hg := k_giver_r a
  have ht := k_taker_r a
  refine lv_aload_n hx hb dX1_shiftBy_0 rfl (lv_at hl 0 rfl) ?_
  refine lv_iload_n hx hb dX1_shiftBy_1 rfl (lv_at hl 1 rfl) ?_
  refine g_callV (As := [.int (J a)]) (rest := []) (b := o) (ci := 1) (C := RX1) (T := TX1) (N := 7) ⟨hx, hb, hml, hown, hts⟩ (k_moved l g base sa h0 o R I A a hM ha hj) (cwV 1 hts gX1_shiftBy_X1_moved rfl rfl rfl (by decide +kernel) ⟨Nat.le_of_ble_eq_true rfl, Nat.le_of_ble_eq_true rfl⟩) hk hW hS hM.1 rfl rfl hl.1 (Nat.le_of_ble_eq_true rfl) dX1_shiftBy_2 ⟨Nat.le_of_ble_eq_true rfl, Nat.le_of_ble_eq_true rfl⟩ (fun r9 h9 H locs hp hW hS => ?_)
  obtain ⟨rfl, e9⟩ := hp
  rw [e9] at hW
  refine W.eq (g2 := F0 m 5 ls [.int (J (p_mv (I 0) (I 2) (I 3) (A 4) (A 5) a))]) rfl ?_
  refine lv_istore_n (lv' := [(2, .int (J (p_mv (I 0) (I 2) (I 3) (A 4) (A 5) a))), (0, .ref o), (1, .int (J a))]) hx hb dX1_shiftBy_5 rfl hl (by decide) rfl (fun ls hl => ?_)
  refine lv_iload_n hx hb dX1_shiftBy_6 rfl (lv_at hl 0 rfl) ?_
  refine j_if_ne (x := p_mv (I 0) (I 2) (I 3) (A 4) (A 5) a) (tgt := 12) hx hb ⟨by omega, by omega⟩ dX1_shiftBy_7 (by decide) (fun c_7 => ?_) (fun c_7 => ?_)
  · have hq := p_mv_1 c_7
    have cut_34 : ∀ (t : Int) (ls : Array Slot), t = p_wt (A 6) (k_giver a) → lv_has ls 5 [(2, .int (J (p_mv (I 0) (I 2) (I 3) (A 4) (A 5) a))), (0, .ref o), (1, .int (J a))] → W p l e (headSpec wsX1_shiftBy ({ frames := 1, cells := 0, slots := 0, locals := 25 })).room s m ([.ref o, .int (J a)]).toArray below meth c H locs 0 0 (MQ below (QcM g base (fun r h' => r = some (.int (J (p_shift (I 0) (I 2) (I 3) (A 4) (A 5) (A 6) a))) ∧ h' = h0)) ([.ref o, .int (J a)]).toArray s (0) (0) (Ab base)) (F0 m 34 ls [.int (J t)]) := by
      intro t  ls et hl
      refine lv_istore_n (lv' := [(3, .int (J t)), (2, .int (J (p_mv (I 0) (I 2) (I 3) (A 4) (A 5) a))), (0, .ref o), (1, .int (J a))]) hx hb dX1_shiftBy_34 rfl hl (by decide) rfl (fun ls hl => ?_)
      have cut_57 : ∀ (u : Int) (ls : Array Slot), u = p_wt (A 6) (k_taker a) → lv_has ls 5 [(3, .int (J t)), (2, .int (J (p_mv (I 0) (I 2) (I 3) (A 4) (A 5) a))), (0, .ref o), (1, .int (J a))] → W p l e (headSpec wsX1_shiftBy ({ frames := 1, cells := 0, slots := 0, locals := 25 })).room s m ([.ref o, .int (J a)]).toArray below meth c H locs 0 0 (MQ below (QcM g base (fun r h' => r = some (.int (J (p_shift (I 0) (I 2) (I 3) (A 4) (A 5) (A 6) a))) ∧ h' = h0)) ([.ref o, .int (J a)]).toArray s (0) (0) (Ab base)) (F0 m 57 ls [.int (J u)]) := by
        intro u  ls et2 hl
        refine lv_istore (lv' := [(4, .int (J u)), (3, .int (J t)), (2, .int (J (p_mv (I 0) (I 2) (I 3) (A 4) (A 5) a))), (0, .ref o), (1, .int (J a))]) hx hb dX1_shiftBy_57 hl (by decide) rfl (fun ls hl => ?_)
        refine lv_iload_n hx hb dX1_shiftBy_59 rfl (lv_at hl 2 rfl) ?_
        refine lv_iload hx hb dX1_shiftBy_60 (lv_at hl 0 rfl) ?_
        refine lv_iload_n hx hb dX1_shiftBy_62 rfl (lv_at hl 1 rfl) ?_
        refine j_isub hx hb dX1_shiftBy_63 ?_
        refine j_imul hx hb dX1_shiftBy_64 ?_
        exact g_iret hx hb hr hW hS dX1_shiftBy_65 hlocks (⟨congrArg (fun z : Int => some (Value.int (J z))) (show (p_mv (I 0) (I 2) (I 3) (A 4) (A 5) a) * (u - t) = p_shift (I 0) (I 2) (I 3) (A 4) (A 5) (A 6) a from by unfold p_shift; rw [if_neg c_7, et, et2]), rfl⟩)
      refine g_statN hx hb hk.2.2.2.1 hS hown (va_Nw.use rfl hk.2.2.2.2.2.2.2.2.2.2.2.2.2) dX1_shiftBy_35 ?_
      refine lv_iload_n hx hb dX1_shiftBy_38 rfl (lv_at hl 3 rfl) ?_
      refine g_sald hx hb hk.2.2.2.1 hS (by omega) (by omega) (by decide) dX1_shiftBy_39 ?_
      refine j_if_lt (x := k_taker a) (tgt := 56) hx hb ⟨by omega, by omega⟩ dX1_shiftBy_40 (by decide) (fun c_40 => ?_) (fun c_40 => ?_)
      · refine lv_iconst (v := J (0)) hx hb dX1_shiftBy_56 rfl ?_
        exact cut_57 _  ls (by unfold p_wt; split <;> omega) (lv_sub hl [0, 1, 2, 3] rfl)
      · refine lv_aload_n hx hb dX1_shiftBy_43 rfl (lv_at hl 2 rfl) ?_
        refine g_get (ci := 1) (C := RX1) (T := TX1) (N := 7) (v := .ref (R 6)) hx hb hfX1 (fun _ h9 => h9) hown hk hW hM.1 rfl 6 (by decide) (hts (.fieldLink RX1 32 "JugsAndGlasses$Jugs" "weight" "[I") (by decide +kernel)) rfl rfl dX1_shiftBy_44 ?_
        refine g_statN hx hb hk.2.2.2.1 hS hown (va_Nw.use rfl hk.2.2.2.2.2.2.2.2.2.2.2.2.2) dX1_shiftBy_47 ?_
        refine lv_iload_n hx hb dX1_shiftBy_50 rfl (lv_at hl 3 rfl) ?_
        refine g_sald hx hb hk.2.2.2.1 hS (by omega) (by omega) (by decide) dX1_shiftBy_51 ?_
        refine g_iald (n := 4) (f := A 6) (i := k_taker a) hx hb hk hW (hM.ai 6 (by decide) rfl) (by omega) (by omega) (by omega) dX1_shiftBy_52 ?_
        refine lv_goto (tgt := 57) hx hb dX1_shiftBy_53 (by decide) ?_
        exact cut_57 _  ls (by unfold p_wt; split <;> omega) (lv_sub hl [0, 1, 2, 3] rfl)
    refine g_statN hx hb hk.2.2.1 hS hown (va_Nw.use rfl hk.2.2.2.2.2.2.2.2.2.2.2.2.1) dX1_shiftBy_12 ?_
    refine lv_iload_n hx hb dX1_shiftBy_15 rfl (lv_at hl 2 rfl) ?_
    refine g_sald hx hb hk.2.2.1 hS (by omega) (by omega) (by decide) dX1_shiftBy_16 ?_
    refine j_if_lt (x := k_giver a) (tgt := 33) hx hb ⟨by omega, by omega⟩ dX1_shiftBy_17 (by decide) (fun c_17 => ?_) (fun c_17 => ?_)
    · refine lv_iconst (v := J (0)) hx hb dX1_shiftBy_33 rfl ?_
      exact cut_34 _  ls (by unfold p_wt; split <;> omega) (lv_sub hl [0, 1, 2] rfl)
    · refine lv_aload_n hx hb dX1_shiftBy_20 rfl (lv_at hl 1 rfl) ?_
      refine g_get (ci := 1) (C := RX1) (T := TX1) (N := 7) (v := .ref (R 6)) hx hb hfX1 (fun _ h9 => h9) hown hk hW hM.1 rfl 6 (by decide) (hts (.fieldLink RX1 32 "JugsAndGlasses$Jugs" "weight" "[I") (by decide +kernel)) rfl rfl dX1_shiftBy_21 ?_
      refine g_statN hx hb hk.2.2.1 hS hown (va_Nw.use rfl hk.2.2.2.2.2.2.2.2.2.2.2.2.1) dX1_shiftBy_24 ?_
      refine lv_iload_n hx hb dX1_shiftBy_27 rfl (lv_at hl 2 rfl) ?_
      refine g_sald hx hb hk.2.2.1 hS (by omega) (by omega) (by decide) dX1_shiftBy_28 ?_
      refine g_iald (n := 4) (f := A 6) (i := k_giver a) hx hb hk hW (hM.ai 6 (by decide) rfl) (by omega) (by omega) (by omega) dX1_shiftBy_29 ?_
      refine lv_goto (tgt := 34) hx hb dX1_shiftBy_30 (by decide) ?_
      exact cut_34 _  ls (by unfold p_wt; split <;> omega) (lv_sub hl [0, 1, 2] rfl)
  · refine lv_iconst (v := J (0)) hx hb dX1_shiftBy_10 rfl ?_
    exact g_iret hx hb hr hW hS dX1_shiftBy_11 hlocks (⟨congrArg (fun z : Int => some (Value.int (J z))) (show 0 = p_shift (I 0) (I 2) (I 3) (A 4) (A 5) (A 6) a from by unfold p_shift; rw [if_pos c_7]), rfl⟩)

set_option maxHeartbeats 4000000 in
set_option maxRecDepth 100000 in
theorem k_heldTogether (l : Launch) (g : GX) (base : Nat) (sa : Nat → Nat) (h0 : Hp) (o : Nat) (R : Nat → Nat) (I : Nat → Int) (A : Nat → Int → Int) (hM : OB g 1 7 kd1 h0 o R I L4 A) (hn : 0 ≤ I 0 ∧ I 0 ≤ 4) : MC l g base sa yX1_heldTogether wsX1_heldTogether ({ frames := 0, cells := 0, slots := 0, locals := 0 }) ([.ref o]) h0 (fun r h' => r = some (.int (J (sT (A 5) (I 0)))) ∧ h' = h0) := by
  refine Met.ofW (cc := cX1_heldTogether) (maxL := 3) (ret := (some .int)) (by decide) rfl ?_
  intro p e s m args below meth c s₁ B hml hv
  obtain ⟨rfl, hk, hW⟩ := hv
  have hx := B.exec
  have hb := B.bytes
  have hr := B.returns
  have hts := atoms_spec (ws := wsX1_heldTogether) B.pre
  have hown : s.vm.findClass RX1 = some m.cls := findClass_of_methodNamed B.named
  have hlocks := B.notSynchronized
  have hfX1 : ∀ w ∈ wsX10, w.before ([.ref o]).toArray s = true := fun w h => hts w (List.mem_cons_of_mem _ (List.mem_append_right _ h))
  have hS : va_S (Ab base) s.heap s.heap [] := va_S.rf
  have hl := lv_entry ([.ref o]) (n := 3) (Nat.le_of_ble_eq_true rfl)
  rw [lg_entry_eq]
  generalize (lg_sl ([.ref o]) ++ List.replicate (3 - (lg_sl ([.ref o])).length) Slot.unset).toArray = ls at hl ⊢
  have hl : lv_has ls 3 [(0, .ref o)] := hl
  refine lv_iconst (v := J (0)) hx hb dX1_heldTogether_0 rfl ?_
  refine lv_istore_n (lv' := [(1, .int (J 0)), (0, .ref o)]) hx hb dX1_heldTogether_1 rfl hl (by decide) rfl (fun ls hl => ?_)
  refine lv_iconst (v := J (0)) hx hb dX1_heldTogether_2 rfl ?_
  refine lv_istore_n (lv' := [(2, .int (J 0)), (1, .int (J 0)), (0, .ref o)]) hx hb dX1_heldTogether_3 rfl hl (by decide) rfl (fun ls hl => ?_)
  have loop_4 : ∀ (n : Nat) (i : Int) (z : Int) (h : Hp) (H : Heap) (locs : List Loc) (ls : Array Slot), I 0 - i < (n : Int) → 0 ≤ i ∧ i ≤ I 0 → z = sT (A 5) i → h = h0 → OB g 1 7 kd1 h o R I L4 A → Wd g base h H → va_S (Ab base) s.heap H locs → lv_has ls 3 [(0, .ref o), (1, .int (J z)), (2, .int (J i))] → W p l e (headSpec wsX1_heldTogether ({ frames := 0, cells := 0, slots := 0, locals := 0 })).room s m ([.ref o]).toArray below meth c H locs 0 0 (MQ below (QcM g base (fun r h' => r = some (.int (J (sT (A 5) (I 0)))) ∧ h' = h0)) ([.ref o]).toArray s (0) (0) (Ab base)) (F0 m 4 ls []) := by
    intro n
    induction n with
    | zero =>
      intro i z h H locs ls hmu hi ez eh hM hW hS hl
      exact absurd hmu (by omega)
    | succ n ih =>
      intro i z h H locs ls hmu hi ez eh hM hW hS hl
      have ih_4 := ih
      refine lv_iload_n hx hb dX1_heldTogether_4 rfl (lv_at hl 2 rfl) ?_
      refine lv_aload_n hx hb dX1_heldTogether_5 rfl (lv_at hl 0 rfl) ?_
      refine g_get (ci := 1) (C := RX1) (T := TX1) (N := 7) (v := .int (J (I 0))) hx hb hfX1 (fun _ h9 => h9) hown hk hW hM.1 rfl 0 (by decide) (hts (.fieldLink RX1 9 "JugsAndGlasses$Jugs" "number" "I") (by decide +kernel)) rfl rfl dX1_heldTogether_6 ?_
      refine j_icmp_ge (x := i) (y := I 0) (tgt := 32) hx hb ⟨by omega, by omega⟩ ⟨by omega, by omega⟩ dX1_heldTogether_9 (by decide) (fun c_9 => ?_) (fun c_9 => ?_)
      · refine lv_iload_n hx hb dX1_heldTogether_32 rfl (lv_at hl 1 rfl) ?_
        exact g_iret hx hb hr hW hS dX1_heldTogether_33 hlocks (⟨congrArg (fun q : Int => some (Value.int (J q))) (show z = sT (A 5) (I 0) from by rw [ez]; congr 1; omega), eh⟩)
      · refine lv_iload_n hx hb dX1_heldTogether_12 rfl (lv_at hl 2 rfl) ?_
        refine lv_iconst (v := J (4)) hx hb dX1_heldTogether_13 rfl ?_
        refine j_icmp_ge (x := i) (y := 4) (tgt := 32) hx hb ⟨by omega, by omega⟩ ⟨by decide, by decide⟩ dX1_heldTogether_14 (by decide) (fun c_14 => ?_) (fun c_14 => ?_)
        · exfalso
          omega
        · refine lv_iload_n hx hb dX1_heldTogether_17 rfl (lv_at hl 1 rfl) ?_
          refine lv_aload_n hx hb dX1_heldTogether_18 rfl (lv_at hl 0 rfl) ?_
          refine g_get (ci := 1) (C := RX1) (T := TX1) (N := 7) (v := .ref (R 5)) hx hb hfX1 (fun _ h9 => h9) hown hk hW hM.1 rfl 5 (by decide) (hts (.fieldLink RX1 29 "JugsAndGlasses$Jugs" "held" "[I") (by decide +kernel)) rfl rfl dX1_heldTogether_19 ?_
          refine lv_iload_n hx hb dX1_heldTogether_22 rfl (lv_at hl 2 rfl) ?_
          refine g_iald (n := 4) (f := A 5) (i := i) hx hb hk hW (hM.ai 5 (by decide) rfl) (by omega) (by omega) (by omega) dX1_heldTogether_23 ?_
          refine j_iadd hx hb dX1_heldTogether_24 ?_
          refine lv_istore_n (lv' := [(1, .int (J (z + (A 5 i)))), (0, .ref o), (2, .int (J i))]) hx hb dX1_heldTogether_25 rfl hl (by decide) rfl (fun ls hl => ?_)
          refine lv_iinc (v := J (i + 1)) (lv' := [(2, .int (J (i + 1))), (1, .int (J (z + (A 5 i)))), (0, .ref o)]) hx hb dX1_heldTogether_26 hl (k := 2) rfl (J_inc (by omega)) (by decide) rfl (fun ls hl => ?_)
          refine lv_goto (tgt := 4) hx hb dX1_heldTogether_29 (by decide) ?_
          exact ih_4 (i + 1) (z + (A 5 i)) h H locs ls (by omega) (by omega) (by rw [sT_s _ hi.1, ez]) eh hM hW hS (lv_sub hl [2, 1, 0] rfl)
  exact loop_4 ((I 0).toNat + 1) 0 0 h0 s.heap [] ls (by omega) (by omega) rfl rfl hM hW hS (lv_sub hl [2, 1, 0] rfl)

set_option maxHeartbeats 4000000 in
set_option maxRecDepth 100000 in
theorem k_actsNow (l : Launch) (g : GX) (base : Nat) (sa : Nat → Nat) (h0 : Hp) (o : Nat) (R : Nat → Nat) (I : Nat → Int) (A : Nat → Int → Int) (hM : OB g 1 7 kd1 h0 o R I L4 A) (hj : Jok I A) : MC l g base sa yX1_actsNow wsX1_actsNow ({ frames := 1, cells := 0, slots := 0, locals := 25 }) ([.ref o]) h0 (fun r h' => r = some (.int (J (sT (fun b => if 0 < p_mv (I 0) (I 2) (I 3) (A 4) (A 5) b then 1 else 0) 24))) ∧ h' = h0) := by
  refine Met.ofW (cc := cX1_actsNow) (maxL := 3) (ret := (some .int)) (by decide) rfl ?_
  intro p e s m args below meth c s₁ B hml hv
  obtain ⟨rfl, hk, hW⟩ := hv
  have hx := B.exec
  have hb := B.bytes
  have hr := B.returns
  have hts := atoms_spec (ws := wsX1_actsNow) B.pre
  have hown : s.vm.findClass RX1 = some m.cls := findClass_of_methodNamed B.named
  have hlocks := B.notSynchronized
  have hfX1 : ∀ w ∈ wsX10, w.before ([.ref o]).toArray s = true := fun w h => hts w (List.mem_cons_of_mem _ (List.mem_append_right _ h))
  have hS : va_S (Ab base) s.heap s.heap [] := va_S.rf
  have hl := lv_entry ([.ref o]) (n := 3) (Nat.le_of_ble_eq_true rfl)
  rw [lg_entry_eq]
  generalize (lg_sl ([.ref o]) ++ List.replicate (3 - (lg_sl ([.ref o])).length) Slot.unset).toArray = ls at hl ⊢
  have hl : lv_has ls 3 [(0, .ref o)] := hl
  refine lv_iconst (v := J (0)) hx hb dX1_actsNow_0 rfl ?_
  refine lv_istore_n (lv' := [(1, .int (J 0)), (0, .ref o)]) hx hb dX1_actsNow_1 rfl hl (by decide) rfl (fun ls hl => ?_)
  refine lv_iconst (v := J (0)) hx hb dX1_actsNow_2 rfl ?_
  refine lv_istore_n (lv' := [(2, .int (J 0)), (1, .int (J 0)), (0, .ref o)]) hx hb dX1_actsNow_3 rfl hl (by decide) rfl (fun ls hl => ?_)
  have loop_4 : ∀ (n : Nat) (a : Int) (z : Int) (h : Hp) (H : Heap) (locs : List Loc) (ls : Array Slot), 24 - a < (n : Int) → 0 ≤ a ∧ a ≤ 24 → z = sT (fun b => if 0 < p_mv (I 0) (I 2) (I 3) (A 4) (A 5) b then 1 else 0) a → h = h0 → OB g 1 7 kd1 h o R I L4 A → Wd g base h H → va_S (Ab base) s.heap H locs → lv_has ls 3 [(0, .ref o), (1, .int (J z)), (2, .int (J a))] → W p l e (headSpec wsX1_actsNow ({ frames := 1, cells := 0, slots := 0, locals := 25 })).room s m ([.ref o]).toArray below meth c H locs 0 0 (MQ below (QcM g base (fun r h' => r = some (.int (J (sT (fun b => if 0 < p_mv (I 0) (I 2) (I 3) (A 4) (A 5) b then 1 else 0) 24))) ∧ h' = h0)) ([.ref o]).toArray s (0) (0) (Ab base)) (F0 m 4 ls []) := by
    intro n
    induction n with
    | zero =>
      intro a z h H locs ls hmu hi ez eh hM hW hS hl
      exact absurd hmu (by omega)
    | succ n ih =>
      intro a z h H locs ls hmu hi ez eh hM hW hS hl
      have hmr := p_mv_r hj a
      have ih_4 := ih
      refine lv_iload_n hx hb dX1_actsNow_4 rfl (lv_at hl 2 rfl) ?_
      refine lv_bipush (v := J (24)) hx hb dX1_actsNow_5 (by decide) ?_
      refine j_icmp_ge (x := a) (y := 24) (tgt := 27) hx hb ⟨by omega, by omega⟩ ⟨by decide, by decide⟩ dX1_actsNow_7 (by decide) (fun c_7 => ?_) (fun c_7 => ?_)
      · refine lv_iload_n hx hb dX1_actsNow_27 rfl (lv_at hl 1 rfl) ?_
        exact g_iret hx hb hr hW hS dX1_actsNow_28 hlocks (⟨congrArg (fun q : Int => some (Value.int (J q))) (show z = sT (fun b => if 0 < p_mv (I 0) (I 2) (I 3) (A 4) (A 5) b then 1 else 0) 24 from by rw [ez]; congr 1; omega), eh⟩)
      · refine lv_aload_n hx hb dX1_actsNow_10 rfl (lv_at hl 0 rfl) ?_
        refine lv_iload_n hx hb dX1_actsNow_11 rfl (lv_at hl 2 rfl) ?_
        refine g_callV (As := [.int (J a)]) (rest := []) (b := o) (ci := 1) (C := RX1) (T := TX1) (N := 7) ⟨hx, hb, hml, hown, hts⟩ (k_moved l g base sa h o R I A a hM ⟨by omega, by omega⟩ hj) (cwV 1 hts gX1_actsNow_X1_moved rfl rfl rfl (by decide +kernel) ⟨Nat.le_of_ble_eq_true rfl, Nat.le_of_ble_eq_true rfl⟩) hk hW hS hM.1 rfl rfl hl.1 (Nat.le_of_ble_eq_true rfl) dX1_actsNow_12 ⟨Nat.le_of_ble_eq_true rfl, Nat.le_of_ble_eq_true rfl⟩ (fun r9 h9 H locs hp hW hS => ?_)
        obtain ⟨rfl, e9⟩ := hp
        rw [e9] at hW
        refine W.eq (g2 := F0 m 15 ls [.int (J (p_mv (I 0) (I 2) (I 3) (A 4) (A 5) a))]) rfl ?_
        refine j_if_le (x := p_mv (I 0) (I 2) (I 3) (A 4) (A 5) a) (tgt := 21) hx hb ⟨by omega, by omega⟩ dX1_actsNow_15 (by decide) (fun c_15 => ?_) (fun c_15 => ?_)
        · refine lv_iinc (v := J (a + 1)) (lv' := [(2, .int (J (a + 1))), (0, .ref o), (1, .int (J z))]) hx hb dX1_actsNow_21 hl (k := 2) rfl (J_inc (by omega)) (by decide) rfl (fun ls hl => ?_)
          refine lv_goto (tgt := 4) hx hb dX1_actsNow_24 (by decide) ?_
          exact ih_4 (a + 1) z h H locs ls (by omega) (by omega) (by rw [sT_s _ hi.1, ez]; split <;> omega) eh hM hW hS (lv_sub hl [1, 2, 0] rfl)
        · refine lv_iinc (v := J (z + 1)) (lv' := [(1, .int (J (z + 1))), (0, .ref o), (2, .int (J a))]) hx hb dX1_actsNow_18 hl (k := 1) rfl (J_inc (by omega)) (by decide) rfl (fun ls hl => ?_)
          refine lv_iinc (v := J (a + 1)) (lv' := [(2, .int (J (a + 1))), (1, .int (J (z + 1))), (0, .ref o)]) hx hb dX1_actsNow_21 hl (k := 2) rfl (J_inc (by omega)) (by decide) rfl (fun ls hl => ?_)
          refine lv_goto (tgt := 4) hx hb dX1_actsNow_24 (by decide) ?_
          exact ih_4 (a + 1) (z + 1) h H locs ls (by omega) (by omega) (by rw [sT_s _ hi.1, ez]; split <;> omega) eh hM hW hS (lv_sub hl [2, 1, 0] rfl)
  exact loop_4 25 0 0 h0 s.heap [] ls (by omega) (by omega) rfl rfl hM hW hS (lv_sub hl [2, 1, 0] rfl)

set_option maxHeartbeats 4000000 in
set_option maxRecDepth 100000 in
theorem k_removeAll (l : Launch) (g : GX) (base : Nat) (sa : Nat → Nat) (h0 : Hp) (o : Nat) (R : Nat → Nat) (I : Nat → Int) (A : Nat → Int → Int) (hM : OB g 1 7 kd1 h0 o R I L4 A) : MC l g base sa yX1_removeAll wsX1_removeAll ({ frames := 0, cells := 0, slots := 0, locals := 0 }) ([.ref o]) h0 (fun r h' => r = some (.int (J (I 0))) ∧ OB g 1 7 kd1 h' o R (va_up (va_up I 0 0) 1 1) L4 A ∧ Fr (FP 7 kd1 o R) h0 h') := by
  refine Met.ofW (cc := cX1_removeAll) (maxL := 2) (ret := (some .int)) (by decide) rfl ?_
  intro p e s m args below meth c s₁ B hml hv
  obtain ⟨rfl, hk, hW⟩ := hv
  have hx := B.exec
  have hb := B.bytes
  have hr := B.returns
  have hts := atoms_spec (ws := wsX1_removeAll) B.pre
  have hown : s.vm.findClass RX1 = some m.cls := findClass_of_methodNamed B.named
  have hlocks := B.notSynchronized
  have hfX1 : ∀ w ∈ wsX10, w.before ([.ref o]).toArray s = true := fun w h => hts w (List.mem_cons_of_mem _ (List.mem_append_right _ h))
  have hS : va_S (Ab base) s.heap s.heap [] := va_S.rf
  have hl := lv_entry ([.ref o]) (n := 2) (Nat.le_of_ble_eq_true rfl)
  rw [lg_entry_eq]
  generalize (lg_sl ([.ref o]) ++ List.replicate (2 - (lg_sl ([.ref o])).length) Slot.unset).toArray = ls at hl ⊢
  have hl : lv_has ls 2 [(0, .ref o)] := hl
  have hF : Fr (FP 7 kd1 o R) h0 h0 := Fr.rf
  refine lv_aload_n hx hb dX1_removeAll_0 rfl (lv_at hl 0 rfl) ?_
  refine g_get (ci := 1) (C := RX1) (T := TX1) (N := 7) (v := .int (J (I 0))) hx hb hfX1 (fun _ h9 => h9) hown hk hW hM.1 rfl 0 (by decide) (hts (.fieldLink RX1 9 "JugsAndGlasses$Jugs" "number" "I") (by decide +kernel)) rfl rfl dX1_removeAll_1 ?_
  refine lv_istore_n (lv' := [(1, .int (J (I 0))), (0, .ref o)]) hx hb dX1_removeAll_4 rfl hl (by decide) rfl (fun ls hl => ?_)
  refine lv_aload_n hx hb dX1_removeAll_5 rfl (lv_at hl 1 rfl) ?_
  refine lv_iconst (v := J (0)) hx hb dX1_removeAll_6 rfl ?_
  refine o_put (I' := (va_up I 0 (0))) (ci := 1) (C := RX1) (T := TX1) (N := 7) (ty := .int) hx hb hfX1 (fun _ h9 => h9) tyX1 tyX1_ok nmX1 hown hk hW hS hM hF FP.o rfl 0 (by decide) rfl (hts (.fieldLink RX1 9 "JugsAndGlasses$Jugs" "number" "I") (by decide +kernel)) rfl rfl (by decide +kernel) rfl rfl rfl dX1_removeAll_7 (fun h H locs hM hF hst hW hS => ?_)
  refine lv_aload_n hx hb dX1_removeAll_10 rfl (lv_at hl 1 rfl) ?_
  refine lv_iconst (v := J (1)) hx hb dX1_removeAll_11 rfl ?_
  refine o_put (I' := (va_up (va_up I 0 (0)) 1 (1))) (ci := 1) (C := RX1) (T := TX1) (N := 7) (ty := .int) hx hb hfX1 (fun _ h9 => h9) tyX1 tyX1_ok nmX1 hown hk hW hS hM hF FP.o rfl 1 (by decide) rfl (hts (.fieldLink RX1 15 "JugsAndGlasses$Jugs" "codes" "I") (by decide +kernel)) rfl rfl (by decide +kernel) rfl rfl rfl dX1_removeAll_12 (fun h H locs hM hF hst hW hS => ?_)
  refine lv_iload_n hx hb dX1_removeAll_15 rfl (lv_at hl 0 rfl) ?_
  exact g_iret hx hb hr hW hS dX1_removeAll_16 hlocks (⟨rfl, hM, hF⟩)

set_option maxHeartbeats 4000000 in
set_option maxRecDepth 100000 in
theorem k_add (l : Launch) (g : GX) (base : Nat) (sa : Nat → Nat) (h0 : Hp) (o : Nat) (R : Nat → Nat) (I : Nat → Int) (A : Nat → Int → Int) (a b : Int) (hM : OB g 1 7 kd1 h0 o R I L4 A) (hn : 0 ≤ I 0 ∧ I 0 < 4) : MC l g base sa yX1_add wsX1_add ({ frames := 0, cells := 0, slots := 0, locals := 0 }) ([.ref o, .int (J a), .int (J b)]) h0 (fun r h' => r = some (.int (J (I 0))) ∧ OB g 1 7 kd1 h' o R (va_up (va_up I 1 (I 1 * (a + 1))) 0 (I 0 + 1)) L4 (va_up (va_up (va_up A 4 (uf (A 4) (I 0) a)) 5 (uf (A 5) (I 0) b)) 6 (uf (A 6) (I 0) (I 1))) ∧ Fr (FP 7 kd1 o R) h0 h') := by
  refine Met.ofW (cc := cX1_add) (maxL := 3) (ret := (some .int)) (by decide) rfl ?_
  intro p e s m args below meth c s₁ B hml hv
  obtain ⟨rfl, hk, hW⟩ := hv
  have hx := B.exec
  have hb := B.bytes
  have hr := B.returns
  have hts := atoms_spec (ws := wsX1_add) B.pre
  have hown : s.vm.findClass RX1 = some m.cls := findClass_of_methodNamed B.named
  have hlocks := B.notSynchronized
  have hfX1 : ∀ w ∈ wsX10, w.before ([.ref o, .int (J a), .int (J b)]).toArray s = true := fun w h => hts w (List.mem_cons_of_mem _ (List.mem_append_right _ h))
  have hS : va_S (Ab base) s.heap s.heap [] := va_S.rf
  have hl := lv_entry ([.ref o, .int (J a), .int (J b)]) (n := 3) (Nat.le_of_ble_eq_true rfl)
  rw [lg_entry_eq]
  generalize (lg_sl ([.ref o, .int (J a), .int (J b)]) ++ List.replicate (3 - (lg_sl ([.ref o, .int (J a), .int (J b)])).length) Slot.unset).toArray = ls at hl ⊢
  have hl : lv_has ls 3 [(0, .ref o), (1, .int (J a)), (2, .int (J b))] := hl
  have hF : Fr (FP 7 kd1 o R) h0 h0 := Fr.rf
  refine lv_aload_n hx hb dX1_add_0 rfl (lv_at hl 0 rfl) ?_
  refine g_get (ci := 1) (C := RX1) (T := TX1) (N := 7) (v := .int (J (I 0))) hx hb hfX1 (fun _ h9 => h9) hown hk hW hM.1 rfl 0 (by decide) (hts (.fieldLink RX1 9 "JugsAndGlasses$Jugs" "number" "I") (by decide +kernel)) rfl rfl dX1_add_1 ?_
  refine lv_iconst (v := J (4)) hx hb dX1_add_4 rfl ?_
  refine j_icmp_lt (x := I 0) (y := 4) (tgt := 11) hx hb ⟨by omega, by omega⟩ ⟨by decide, by decide⟩ dX1_add_5 (by decide) (fun c_5 => ?_) (fun c_5 => ?_)
  · refine lv_aload_n hx hb dX1_add_11 rfl (lv_at hl 0 rfl) ?_
    refine g_get (ci := 1) (C := RX1) (T := TX1) (N := 7) (v := .ref (R 4)) hx hb hfX1 (fun _ h9 => h9) hown hk hW hM.1 rfl 4 (by decide) (hts (.fieldLink RX1 25 "JugsAndGlasses$Jugs" "size" "[I") (by decide +kernel)) rfl rfl dX1_add_12 ?_
    refine lv_aload_n hx hb dX1_add_15 rfl (lv_at hl 0 rfl) ?_
    refine g_get (ci := 1) (C := RX1) (T := TX1) (N := 7) (v := .int (J (I 0))) hx hb hfX1 (fun _ h9 => h9) hown hk hW hM.1 rfl 0 (by decide) (hts (.fieldLink RX1 9 "JugsAndGlasses$Jugs" "number" "I") (by decide +kernel)) rfl rfl dX1_add_16 ?_
    refine lv_iload_n hx hb dX1_add_19 rfl (lv_at hl 1 rfl) ?_
    refine o_iast (A' := (va_up A 4 (uf (A 4) (I 0) a))) (i := I 0) (x := a) hx hb hk hW hS hM hF 4 (by decide) rfl (FP.a 4 (by decide) ⟨by decide, by decide⟩) (by omega) (show I 0 < 4 from by omega) (show 4 < 2147483648 from by omega) rfl dX1_add_20 (fun h H locs hM hF hst hW hS => ?_)
    refine lv_aload_n hx hb dX1_add_21 rfl (lv_at hl 0 rfl) ?_
    refine g_get (ci := 1) (C := RX1) (T := TX1) (N := 7) (v := .ref (R 5)) hx hb hfX1 (fun _ h9 => h9) hown hk hW hM.1 rfl 5 (by decide) (hts (.fieldLink RX1 29 "JugsAndGlasses$Jugs" "held" "[I") (by decide +kernel)) rfl rfl dX1_add_22 ?_
    refine lv_aload_n hx hb dX1_add_25 rfl (lv_at hl 0 rfl) ?_
    refine g_get (ci := 1) (C := RX1) (T := TX1) (N := 7) (v := .int (J (I 0))) hx hb hfX1 (fun _ h9 => h9) hown hk hW hM.1 rfl 0 (by decide) (hts (.fieldLink RX1 9 "JugsAndGlasses$Jugs" "number" "I") (by decide +kernel)) rfl rfl dX1_add_26 ?_
    refine lv_iload_n hx hb dX1_add_29 rfl (lv_at hl 2 rfl) ?_
    refine o_iast (A' := (va_up (va_up A 4 (uf (A 4) (I 0) a)) 5 (uf (A 5) (I 0) b))) (i := I 0) (x := b) hx hb hk hW hS hM hF 5 (by decide) rfl (FP.a 5 (by decide) ⟨by decide, by decide⟩) (by omega) (show I 0 < 4 from by omega) (show 4 < 2147483648 from by omega) rfl dX1_add_30 (fun h H locs hM hF hst hW hS => ?_)
    refine lv_aload_n hx hb dX1_add_31 rfl (lv_at hl 0 rfl) ?_
    refine g_get (ci := 1) (C := RX1) (T := TX1) (N := 7) (v := .ref (R 6)) hx hb hfX1 (fun _ h9 => h9) hown hk hW hM.1 rfl 6 (by decide) (hts (.fieldLink RX1 32 "JugsAndGlasses$Jugs" "weight" "[I") (by decide +kernel)) rfl rfl dX1_add_32 ?_
    refine lv_aload_n hx hb dX1_add_35 rfl (lv_at hl 0 rfl) ?_
    refine g_get (ci := 1) (C := RX1) (T := TX1) (N := 7) (v := .int (J (I 0))) hx hb hfX1 (fun _ h9 => h9) hown hk hW hM.1 rfl 0 (by decide) (hts (.fieldLink RX1 9 "JugsAndGlasses$Jugs" "number" "I") (by decide +kernel)) rfl rfl dX1_add_36 ?_
    refine lv_aload_n hx hb dX1_add_39 rfl (lv_at hl 0 rfl) ?_
    refine g_get (ci := 1) (C := RX1) (T := TX1) (N := 7) (v := .int (J (I 1))) hx hb hfX1 (fun _ h9 => h9) hown hk hW hM.1 rfl 1 (by decide) (hts (.fieldLink RX1 15 "JugsAndGlasses$Jugs" "codes" "I") (by decide +kernel)) rfl rfl dX1_add_40 ?_
    refine o_iast (A' := (va_up (va_up (va_up A 4 (uf (A 4) (I 0) a)) 5 (uf (A 5) (I 0) b)) 6 (uf (A 6) (I 0) (I 1)))) (i := I 0) (x := I 1) hx hb hk hW hS hM hF 6 (by decide) rfl (FP.a 6 (by decide) ⟨by decide, by decide⟩) (by omega) (show I 0 < 4 from by omega) (show 4 < 2147483648 from by omega) rfl dX1_add_43 (fun h H locs hM hF hst hW hS => ?_)
    refine lv_aload_n hx hb dX1_add_44 rfl (lv_at hl 0 rfl) ?_
    refine lv_dup hx hb dX1_add_45 rfl ?_
    refine g_get (ci := 1) (C := RX1) (T := TX1) (N := 7) (v := .int (J (I 1))) hx hb hfX1 (fun _ h9 => h9) hown hk hW hM.1 rfl 1 (by decide) (hts (.fieldLink RX1 15 "JugsAndGlasses$Jugs" "codes" "I") (by decide +kernel)) rfl rfl dX1_add_46 ?_
    refine lv_iload_n hx hb dX1_add_49 rfl (lv_at hl 1 rfl) ?_
    refine lv_iconst (v := J (1)) hx hb dX1_add_50 rfl ?_
    refine j_iadd hx hb dX1_add_51 ?_
    refine j_imul hx hb dX1_add_52 ?_
    refine o_put (I' := (va_up I 1 ((I 1) * (a + 1)))) (ci := 1) (C := RX1) (T := TX1) (N := 7) (ty := .int) hx hb hfX1 (fun _ h9 => h9) tyX1 tyX1_ok nmX1 hown hk hW hS hM hF FP.o rfl 1 (by decide) rfl (hts (.fieldLink RX1 15 "JugsAndGlasses$Jugs" "codes" "I") (by decide +kernel)) rfl rfl (by decide +kernel) rfl rfl rfl dX1_add_53 (fun h H locs hM hF hst hW hS => ?_)
    refine lv_aload_n hx hb dX1_add_56 rfl (lv_at hl 0 rfl) ?_
    refine lv_dup hx hb dX1_add_57 rfl ?_
    refine g_get (ci := 1) (C := RX1) (T := TX1) (N := 7) (v := .int (J (I 0))) hx hb hfX1 (fun _ h9 => h9) hown hk hW hM.1 rfl 0 (by decide) (hts (.fieldLink RX1 9 "JugsAndGlasses$Jugs" "number" "I") (by decide +kernel)) rfl rfl dX1_add_58 ?_
    refine lv_iconst (v := J (1)) hx hb dX1_add_61 rfl ?_
    refine j_iadd hx hb dX1_add_62 ?_
    refine o_put (I' := (va_up (va_up I 1 ((I 1) * (a + 1))) 0 ((I 0) + 1))) (ci := 1) (C := RX1) (T := TX1) (N := 7) (ty := .int) hx hb hfX1 (fun _ h9 => h9) tyX1 tyX1_ok nmX1 hown hk hW hS hM hF FP.o rfl 0 (by decide) rfl (hts (.fieldLink RX1 9 "JugsAndGlasses$Jugs" "number" "I") (by decide +kernel)) rfl rfl (by decide +kernel) rfl rfl rfl dX1_add_63 (fun h H locs hM hF hst hW hS => ?_)
    refine lv_aload_n hx hb dX1_add_66 rfl (lv_at hl 0 rfl) ?_
    refine g_get (ci := 1) (C := RX1) (T := TX1) (N := 7) (v := .int (J ((I 0) + 1))) hx hb hfX1 (fun _ h9 => h9) hown hk hW hM.1 rfl 0 (by decide) (hts (.fieldLink RX1 9 "JugsAndGlasses$Jugs" "number" "I") (by decide +kernel)) rfl rfl dX1_add_67 ?_
    refine lv_iconst (v := J (1)) hx hb dX1_add_70 rfl ?_
    refine j_isub hx hb dX1_add_71 ?_
    exact g_iret hx hb hr hW hS dX1_add_72 hlocks (⟨congrArg (fun q : Int => some (Value.int (J q))) (show (I 0 + 1) - 1 = I 0 from by omega), hM, hF⟩)
  · exfalso
    omega

set_option maxHeartbeats 4000000 in
set_option maxRecDepth 100000 in
theorem k_move (l : Launch) (g : GX) (base : Nat) (sa : Nat → Nat) (h0 : Hp) (o : Nat) (R : Nat → Nat) (I : Nat → Int) (A : Nat → Int → Int) (a u : Int) (hM : OB g 1 7 kd1 h0 o R I L4 A) (ha : i32 a) (hn : 0 ≤ I 0 ∧ I 0 ≤ 4) : MC l g base sa yX1_move wsX1_move ({ frames := 1, cells := 0, slots := 0, locals := 21 }) ([.ref o, .int (J a), .int (J u)]) h0 (fun r h' => r = none ∧ OB g 1 7 kd1 h' o R I L4 (va_up A 5 (if p_haveAct (I 0) a = 0 then A 5 else p_move (A 5) a u)) ∧ Fr (FP 7 kd1 o R) h0 h') := by
  refine Met.ofW (cc := cX1_move) (maxL := 3) (ret := none) (by decide) rfl ?_
  intro p e s m args below meth c s₁ B hml hv
  obtain ⟨rfl, hk, hW⟩ := hv
  have hx := B.exec
  have hb := B.bytes
  have hr := B.returns
  have hts := atoms_spec (ws := wsX1_move) B.pre
  have hown : s.vm.findClass RX1 = some m.cls := findClass_of_methodNamed B.named
  have hlocks := B.notSynchronized
  have hfX1 : ∀ w ∈ wsX10, w.before ([.ref o, .int (J a), .int (J u)]).toArray s = true := fun w h => hts w (List.mem_cons_of_mem _ (List.mem_append_right _ h))
  have hS : va_S (Ab base) s.heap s.heap [] := va_S.rf
  have hl := lv_entry ([.ref o, .int (J a), .int (J u)]) (n := 3) (Nat.le_of_ble_eq_true rfl)
  rw [lg_entry_eq]
  generalize (lg_sl ([.ref o, .int (J a), .int (J u)]) ++ List.replicate (3 - (lg_sl ([.ref o, .int (J a), .int (J u)])).length) Slot.unset).toArray = ls at hl ⊢
  have hl : lv_has ls 3 [(0, .ref o), (1, .int (J a)), (2, .int (J u))] := hl
  have hF : Fr (FP 7 kd1 o R) h0 h0 := Fr.rf
  have hg := k_giver_r a
  have ht := k_taker_r a
  have hpr := p_haveAct_r (I 0) a
  refine lv_aload_n hx hb dX1_move_0 rfl (lv_at hl 0 rfl) ?_
  refine lv_iload_n hx hb dX1_move_1 rfl (lv_at hl 1 rfl) ?_
  refine g_callV (As := [.int (J a)]) (rest := []) (b := o) (ci := 1) (C := RX1) (T := TX1) (N := 7) ⟨hx, hb, hml, hown, hts⟩ (k_haveAct l g base sa h0 o R I A a hM ha hn) (cwV 1 hts gX1_move_X1_haveAct rfl rfl rfl (by decide +kernel) ⟨Nat.le_of_ble_eq_true rfl, Nat.le_of_ble_eq_true rfl⟩) hk hW hS hM.1 rfl rfl hl.1 (Nat.le_of_ble_eq_true rfl) dX1_move_2 ⟨Nat.le_of_ble_eq_true rfl, Nat.le_of_ble_eq_true rfl⟩ (fun r9 h9 H locs hp hW hS => ?_)
  obtain ⟨rfl, e9⟩ := hp
  rw [e9] at hW
  refine W.eq (g2 := F0 m 5 ls [.int (J (p_haveAct (I 0) a))]) rfl ?_
  refine j_if_ne (x := p_haveAct (I 0) a) (tgt := 9) hx hb ⟨by omega, by omega⟩ dX1_move_5 (by decide) (fun c_5 => ?_) (fun c_5 => ?_)
  · have hq := p_haveAct_1 c_5
    refine g_statN hx hb hk.2.2.1 hS hown (va_Nw.use rfl hk.2.2.2.2.2.2.2.2.2.2.2.2.1) dX1_move_9 ?_
    refine lv_iload_n hx hb dX1_move_12 rfl (lv_at hl 1 rfl) ?_
    refine g_sald hx hb hk.2.2.1 hS (by omega) (by omega) (by decide) dX1_move_13 ?_
    refine j_if_lt (x := k_giver a) (tgt := 31) hx hb ⟨by omega, by omega⟩ dX1_move_14 (by decide) (fun c_14 => ?_) (fun c_14 => ?_)
    · refine g_statN hx hb hk.2.2.2.1 hS hown (va_Nw.use rfl hk.2.2.2.2.2.2.2.2.2.2.2.2.2) dX1_move_31 ?_
      refine lv_iload_n hx hb dX1_move_34 rfl (lv_at hl 1 rfl) ?_
      refine g_sald hx hb hk.2.2.2.1 hS (by omega) (by omega) (by decide) dX1_move_35 ?_
      refine j_if_lt (x := k_taker a) (tgt := 53) hx hb ⟨by omega, by omega⟩ dX1_move_36 (by decide) (fun c_36 => ?_) (fun c_36 => ?_)
      · exact g_vret hx hb hr hW hS dX1_move_53 hlocks (⟨rfl, by rw [if_neg c_5]; unfold p_move; first | (rw [if_pos (by omega), if_pos (by omega)]; exact hM) | (rw [if_pos (by omega), if_neg (by omega)]; exact hM) | (rw [if_neg (by omega), if_pos (by omega)]; exact hM) | (rw [if_neg (by omega), if_neg (by omega), va_up_id]; exact hM), hF⟩)
      · refine lv_aload_n hx hb dX1_move_39 rfl (lv_at hl 0 rfl) ?_
        refine g_get (ci := 1) (C := RX1) (T := TX1) (N := 7) (v := .ref (R 5)) hx hb hfX1 (fun _ h9 => h9) hown hk hW hM.1 rfl 5 (by decide) (hts (.fieldLink RX1 29 "JugsAndGlasses$Jugs" "held" "[I") (by decide +kernel)) rfl rfl dX1_move_40 ?_
        refine g_statN hx hb hk.2.2.2.1 hS hown (va_Nw.use rfl hk.2.2.2.2.2.2.2.2.2.2.2.2.2) dX1_move_43 ?_
        refine lv_iload_n hx hb dX1_move_46 rfl (lv_at hl 1 rfl) ?_
        refine g_sald hx hb hk.2.2.2.1 hS (by omega) (by omega) (by decide) dX1_move_47 ?_
        refine lv_dup2_11 hx hb dX1_move_48 rfl rfl ?_
        refine g_iald (n := 4) (f := A 5) (i := k_taker a) hx hb hk hW (hM.ai 5 (by decide) rfl) (by omega) (by omega) (by omega) dX1_move_49 ?_
        refine lv_iload_n hx hb dX1_move_50 rfl (lv_at hl 2 rfl) ?_
        refine j_iadd hx hb dX1_move_51 ?_
        refine o_iast (A' := (va_up A 5 (uf (A 5) (k_taker a) ((A 5 (k_taker a)) + u)))) (i := k_taker a) (x := (A 5 (k_taker a)) + u) hx hb hk hW hS hM hF 5 (by decide) rfl (FP.a 5 (by decide) ⟨by decide, by decide⟩) (by omega) (show k_taker a < 4 from by omega) (show 4 < 2147483648 from by omega) rfl dX1_move_52 (fun h H locs hM hF hst hW hS => ?_)
        exact g_vret hx hb hr hW hS dX1_move_53 hlocks (⟨rfl, by rw [if_neg c_5]; unfold p_move; first | (rw [if_pos (by omega), if_pos (by omega)]; exact hM) | (rw [if_pos (by omega), if_neg (by omega)]; exact hM) | (rw [if_neg (by omega), if_pos (by omega)]; exact hM) | (rw [if_neg (by omega), if_neg (by omega), va_up_id]; exact hM), hF⟩)
    · refine lv_aload_n hx hb dX1_move_17 rfl (lv_at hl 0 rfl) ?_
      refine g_get (ci := 1) (C := RX1) (T := TX1) (N := 7) (v := .ref (R 5)) hx hb hfX1 (fun _ h9 => h9) hown hk hW hM.1 rfl 5 (by decide) (hts (.fieldLink RX1 29 "JugsAndGlasses$Jugs" "held" "[I") (by decide +kernel)) rfl rfl dX1_move_18 ?_
      refine g_statN hx hb hk.2.2.1 hS hown (va_Nw.use rfl hk.2.2.2.2.2.2.2.2.2.2.2.2.1) dX1_move_21 ?_
      refine lv_iload_n hx hb dX1_move_24 rfl (lv_at hl 1 rfl) ?_
      refine g_sald hx hb hk.2.2.1 hS (by omega) (by omega) (by decide) dX1_move_25 ?_
      refine lv_dup2_11 hx hb dX1_move_26 rfl rfl ?_
      refine g_iald (n := 4) (f := A 5) (i := k_giver a) hx hb hk hW (hM.ai 5 (by decide) rfl) (by omega) (by omega) (by omega) dX1_move_27 ?_
      refine lv_iload_n hx hb dX1_move_28 rfl (lv_at hl 2 rfl) ?_
      refine j_isub hx hb dX1_move_29 ?_
      refine o_iast (A' := (va_up A 5 (uf (A 5) (k_giver a) ((A 5 (k_giver a)) - u)))) (i := k_giver a) (x := (A 5 (k_giver a)) - u) hx hb hk hW hS hM hF 5 (by decide) rfl (FP.a 5 (by decide) ⟨by decide, by decide⟩) (by omega) (show k_giver a < 4 from by omega) (show 4 < 2147483648 from by omega) rfl dX1_move_30 (fun h H locs hM hF hst hW hS => ?_)
      refine g_statN hx hb hk.2.2.2.1 hS hown (va_Nw.use rfl hk.2.2.2.2.2.2.2.2.2.2.2.2.2) dX1_move_31 ?_
      refine lv_iload_n hx hb dX1_move_34 rfl (lv_at hl 1 rfl) ?_
      refine g_sald hx hb hk.2.2.2.1 hS (by omega) (by omega) (by decide) dX1_move_35 ?_
      refine j_if_lt (x := k_taker a) (tgt := 53) hx hb ⟨by omega, by omega⟩ dX1_move_36 (by decide) (fun c_36 => ?_) (fun c_36 => ?_)
      · exact g_vret hx hb hr hW hS dX1_move_53 hlocks (⟨rfl, by rw [if_neg c_5]; unfold p_move; first | (rw [if_pos (by omega), if_pos (by omega)]; exact hM) | (rw [if_pos (by omega), if_neg (by omega)]; exact hM) | (rw [if_neg (by omega), if_pos (by omega)]; exact hM) | (rw [if_neg (by omega), if_neg (by omega), va_up_id]; exact hM), hF⟩)
      · refine lv_aload_n hx hb dX1_move_39 rfl (lv_at hl 0 rfl) ?_
        refine g_get (ci := 1) (C := RX1) (T := TX1) (N := 7) (v := .ref (R 5)) hx hb hfX1 (fun _ h9 => h9) hown hk hW hM.1 rfl 5 (by decide) (hts (.fieldLink RX1 29 "JugsAndGlasses$Jugs" "held" "[I") (by decide +kernel)) rfl rfl dX1_move_40 ?_
        refine g_statN hx hb hk.2.2.2.1 hS hown (va_Nw.use rfl hk.2.2.2.2.2.2.2.2.2.2.2.2.2) dX1_move_43 ?_
        refine lv_iload_n hx hb dX1_move_46 rfl (lv_at hl 1 rfl) ?_
        refine g_sald hx hb hk.2.2.2.1 hS (by omega) (by omega) (by decide) dX1_move_47 ?_
        refine lv_dup2_11 hx hb dX1_move_48 rfl rfl ?_
        refine g_iald (n := 4) (f := uf (A 5) (k_giver a) ((A 5 (k_giver a)) - u)) (i := k_taker a) hx hb hk hW (hM.ai 5 (by decide) rfl) (by omega) (by omega) (by omega) dX1_move_49 ?_
        refine lv_iload_n hx hb dX1_move_50 rfl (lv_at hl 2 rfl) ?_
        refine j_iadd hx hb dX1_move_51 ?_
        refine o_iast (A' := (va_up A 5 (uf (uf (A 5) (k_giver a) ((A 5 (k_giver a)) - u)) (k_taker a) (((uf (A 5) (k_giver a) ((A 5 (k_giver a)) - u)) (k_taker a)) + u)))) (i := k_taker a) (x := ((uf (A 5) (k_giver a) ((A 5 (k_giver a)) - u)) (k_taker a)) + u) hx hb hk hW hS hM hF 5 (by decide) rfl (FP.a 5 (by decide) ⟨by decide, by decide⟩) (by omega) (show k_taker a < 4 from by omega) (show 4 < 2147483648 from by omega) (bx_uu _ _ _ _) dX1_move_52 (fun h H locs hM hF hst hW hS => ?_)
        exact g_vret hx hb hr hW hS dX1_move_53 hlocks (⟨rfl, by rw [if_neg c_5]; unfold p_move; first | (rw [if_pos (by omega), if_pos (by omega)]; exact hM) | (rw [if_pos (by omega), if_neg (by omega)]; exact hM) | (rw [if_neg (by omega), if_pos (by omega)]; exact hM) | (rw [if_neg (by omega), if_neg (by omega), va_up_id]; exact hM), hF⟩)
  · exact g_vret hx hb hr hW hS dX1_move_8 hlocks (⟨rfl, by rw [if_pos c_5, va_up_id]; exact hM, hF⟩)
