theorem QB_exS {g : GX} {h : Hp} {os : Nat} {DR : Nat → Nat → Nat} {DI DL : Nat → Nat → Int} {DA : Nat → Nat → Int → Int} (hB : QB g h os DR DI DL DA) {q : Nat} (w : FS os DR q) : h q ≠ none := by
  obtain ⟨i, hi, w⟩ := w
  exact hB.ex hi w
theorem GB_ex {g : GX} {h : Hp} {o : Nat} {R : Nat → Nat} {I : Nat → Int} {L : Nat → Int} {A : Nat → Int → Int} (hG : GB g h o R I L A) {q : Nat} (w : FG o R q) : h q ≠ none := hG.1.ex w

set_option maxHeartbeats 4000000 in
set_option maxRecDepth 100000 in
theorem i_top (l : Launch) (g : GX) (base : Nat) (sa : Nat → Nat) (h0 : Hp) (o : Nat) (ho : h0 o = some (.inr (5, [.null, .null, .null]))) : MC l g base sa yX5_init wsX5_init ({ frames := 3, cells := 31, slots := 154, locals := 110 }) ([.ref o]) h0 (fun r h' => r = none ∧ Fr (fun q => q = o) h0 h' ∧ ∃ R DR Rg, OB g 5 3 kd5 h' o R i0 i0 a0 ∧ R 0 = DR 0 0 ∧ QB g h' (R 1) DR DI0 DL0 DA0 ∧ GB g h' (R 2) Rg i0 LG0 a0 ∧ (∀ q, FP 3 kd5 o R q → ¬ FS (R 1) DR q) ∧ (∀ q, FP 3 kd5 o R q → ¬ FG (R 2) Rg q) ∧ (∀ q, FS (R 1) DR q → ¬ FG (R 2) Rg q) ∧ (∀ q, (FP 3 kd5 o R q ∨ FS (R 1) DR q ∨ FG (R 2) Rg q) → q = o ∨ h0 q = none)) := by
  refine Met.ofW (cc := cX5_init) (maxL := 1) (ret := none) (by decide) rfl ?_
  intro p e s m args below meth c s₁ B hml hv
  obtain ⟨rfl, hk, hW⟩ := hv
  have hx := B.exec
  have hb := B.bytes
  have hr := B.returns
  have hts := atoms_spec (ws := wsX5_init) B.pre
  have hown : s.vm.findClass RX5 = some m.cls := findClass_of_methodNamed B.named
  have hlocks := B.notSynchronized
  have hin : meth.name = "<init>" := (name_of_methodNamed B.named B.method).1
  have hfX0 : ∀ w ∈ wsX00, w.before ([.ref o]).toArray s = true := fun w h => hts w (List.mem_cons_of_mem _ (List.mem_append_left _ (List.mem_append_left _ (List.mem_append_left _ (List.mem_append_right _ h)))))
  have hfX2 : ∀ w ∈ wsX20, w.before ([.ref o]).toArray s = true := fun w h => hts w (List.mem_cons_of_mem _ (List.mem_append_left _ (List.mem_append_left _ (List.mem_append_left _ (List.mem_append_left _ (List.mem_append_left _ (List.mem_append_right _ h)))))))
  have hfX5 : ∀ w ∈ wsX50, w.before ([.ref o]).toArray s = true := fun w h => hts w (List.mem_cons_of_mem _ (List.mem_append_left _ (List.mem_append_left _ (List.mem_append_left _ (List.mem_append_left _ (List.mem_append_right _ h))))))
  have hS : va_S (Ab base) s.heap s.heap [] := va_S.rf
  have hl := lv_entry ([.ref o]) (n := 1) (Nat.le_of_ble_eq_true rfl)
  rw [lg_entry_eq]
  generalize (lg_sl ([.ref o]) ++ List.replicate (1 - (lg_sl ([.ref o])).length) Slot.unset).toArray = ls at hl ⊢
  have hl : lv_has ls 1 [(0, .ref o)] := hl
  have hF : Fr (fun q => q = o ∨ h0 q = none) h0 h0 := Fr.rf
  have hnd : ([] : List Nat).Nodup := List.nodup_nil
  have hall : ∀ a ∈ ([] : List Nat), h0 a ≠ none := fun a w => absurd w (by simp)
  have ho0 := ho
  refine lv_aload_n hx hb dX5_init_0 rfl (lv_at hl 0 rfl) ?_
  refine W.objInit hx hb hown (hts (.methodLink RX5 1 objectInit) (by decide +kernel)) (hts (.instanceMethod objectInit) (by decide +kernel)) (hts (.code objectInit ⟨#[0xb1]⟩ 1 none) (by decide +kernel)) rfl (by rw [hml]; exact hl.1) rfl dX5_init_1 (Nat.le_of_ble_eq_true rfl) (Nat.le_of_ble_eq_true rfl) ?_
  refine lv_aload_n hx hb dX5_init_4 rfl (lv_at hl 0 rfl) ?_
  refine g_new (ci := 2) (C := RX2) (T := TX2) (N := 9) (fs := [.null, .null, .null, .null, .null, .null, .int (J 0), .int (J 0), .int (J 0)]) hx hb hfX2 (fun _ h9 => h9) tyX2 tyX2_ok hown (hts (.classLink RX5 7 RX2) (by decide +kernel)) (hts (.instantiable RX2 9) (by decide +kernel)) (hts (.initialized RX2) (by decide +kernel)) hk hW hS rfl (by intro j hj; match j, hj with | 0, _ => rfl | 1, _ => rfl | 2, _ => rfl | 3, _ => rfl | 4, _ => rfl | 5, _ => rfl | 6, _ => rfl | 7, _ => rfl | 8, _ => rfl) (Nat.le_of_ble_eq_true rfl) (Nat.le_of_ble_eq_true rfl) dX5_init_5 (fun q5 H hq5 hW hS => ?_)
  have f_q5 : h0 q5 = none := hF.none hq5
  have n_q5 : q5 ≠ o := raw_ne ho hq5
  have ho := raw_new (e := .inr (2, [.null, .null, .null, .null, .null, .null, .int (J 0), .int (J 0), .int (J 0)])) ho hq5
  have d_q5 : uh h0 q5 (.inr (2, [.null, .null, .null, .null, .null, .null, .int (J 0), .int (J 0), .int (J 0)])) q5 = some (.inr (2, [.null, .null, .null, .null, .null, .null, .int (J 0), .int (J 0), .int (J 0)])) := uh_same _ _ _
  have hF := Fr.new (e := .inr (2, [.null, .null, .null, .null, .null, .null, .int (J 0), .int (J 0), .int (J 0)])) hF hq5
  have hall := al_set (o := q5) (e := .inr (2, [.null, .null, .null, .null, .null, .null, .int (J 0), .int (J 0), .int (J 0)])) hall
  generalize uh h0 q5 (.inr (2, [.null, .null, .null, .null, .null, .null, .int (J 0), .int (J 0), .int (J 0)])) = h at ho hF hall hW d_q5 
  refine W.eq (g2 := F0 m 8 ls [.ref q5, .ref o]) rfl ?_
  refine lv_dup hx hb dX5_init_8 rfl ?_
  refine g_callIN (As := []) (rest := [.ref q5, .ref o]) (b := q5) ⟨hx, hb, hml, hown, hts⟩ (i_search l g base sa h q5 d_q5) ⟨va_cnB (host := "JugsAndGlasses") 0 hts gX5_init_X2_init_n9 rfl rfl rfl (hk.2.2.2.2.2.2.1) (hts (.initialized RX2) (by decide +kernel)) (by decide +kernel) ⟨Nat.le_of_ble_eq_true rfl, Nat.le_of_ble_eq_true rfl⟩, rfl, hts (.instanceMethod yX2_init) (by decide +kernel)⟩ hk hW hS rfl hl.1 (Nat.le_of_ble_eq_true rfl) dX5_init_9 ⟨Nat.le_of_ble_eq_true rfl, Nat.le_of_ble_eq_true rfl⟩ (fun r9 h9 H locs hp hW hS => ?_)
  obtain ⟨rfl, hF9, DR, hB, hn9⟩ := hp
  refine W.widen (k := 21) (n := 57) (Nat.le_of_ble_eq_true rfl) (Nat.le_of_ble_eq_true rfl) ?_
  refine W.eq (g2 := F0 m 12 ls [.ref q5, .ref o]) rfl ?_
  have zB : ∀ z, FS q5 DR z → h0 z = none := fun z w => by
    rcases hn9 z w with e | e
    · rw [e]; exact f_q5
    · exact hF.none e
  have bB : ∀ z, FS q5 DR z → z ≠ o := fun z w e => by
    have h8 := zB z w
    rw [e, ho0] at h8
    cases h8
  have ho := raw_fr hF9 ho (fun e => n_q5 e.symm)
  have hF := hF.tr hF9 (fun z w _ => Or.inr (by rw [w]; exact f_q5))
  clear hall
  generalize h9 = h at ho hF hW hB
  have hall : ∀ a ∈ ([] : List Nat), h a ≠ none := fun a w => absurd w (by simp)
  refine g_putF (ci := 5) (C := RX5) (T := TX5) (N := 3) (ty := .object "JugsAndGlasses$Search") (fs := [.null, .null, .null]) hx hb hfX5 (fun _ h9 => h9) tyX5 tyX5_ok nmX5 hown hk hW hS ho rfl 1 (by decide) (hts (.fieldLink RX5 10 "JugsAndGlasses" "search" "LJugsAndGlasses$Search;") (by decide +kernel)) rfl rfl hin rfl (by decide +kernel) rfl rfl (by simp) dX5_init_12 (fun H locs hW hS => ?_)
  have ho2 : uh h o (.inr (5, ([.null, .null, .null] : List Value).set 1 (.ref q5))) o = some (.inr (5, [.null, .ref q5, .null])) := uh_same _ _ _
  have hB := hB.fr (P := fun z => z = o) (Fr.one (e := .inr (5, ([.null, .null, .null] : List Value).set 1 (.ref q5)))) (fun q w z => bB q w z)
  have hF := Fr.set (e := .inr (5, ([.null, .null, .null] : List Value).set 1 (.ref q5))) hF (Or.inl rfl)
  have hall := al_set (o := o) (e := .inr (5, ([.null, .null, .null] : List Value).set 1 (.ref q5))) hall
  generalize uh h o (.inr (5, ([.null, .null, .null] : List Value).set 1 (.ref q5))) = h at ho2 hF hall hW hB
  have ho := ho2
  refine lv_aload_n hx hb dX5_init_15 rfl (lv_at hl 0 rfl) ?_
  refine lv_aload_n hx hb dX5_init_16 rfl (lv_at hl 0 rfl) ?_
  refine g_get (ci := 5) (C := RX5) (T := TX5) (N := 3) (fs := [.null, .ref q5, .null]) (v := .ref q5) hx hb hfX5 (fun _ h9 => h9) hown hk hW ho rfl 1 (by decide) (hts (.fieldLink RX5 10 "JugsAndGlasses" "search" "LJugsAndGlasses$Search;") (by decide +kernel)) rfl rfl dX5_init_17 ?_
  refine g_get (ci := 2) (C := RX2) (T := TX2) (N := 9) (v := .ref (DR 0 0)) hx hb hfX2 (fun _ h9 => h9) hown hk hW hB.1.1 rfl 0 (by decide) (hts (.fieldLink RX5 16 "JugsAndGlasses$Search" "jugs" "LJugsAndGlasses$Jugs;") (by decide +kernel)) rfl rfl dX5_init_20 ?_
  refine g_putF (ci := 5) (C := RX5) (T := TX5) (N := 3) (ty := .object "JugsAndGlasses$Jugs") (fs := [.null, .ref q5, .null]) hx hb hfX5 (fun _ h9 => h9) tyX5 tyX5_ok nmX5 hown hk hW hS ho rfl 0 (by decide) (hts (.fieldLink RX5 20 "JugsAndGlasses" "jugs" "LJugsAndGlasses$Jugs;") (by decide +kernel)) rfl rfl hin rfl (by decide +kernel) rfl rfl (by simp) dX5_init_23 (fun H locs hW hS => ?_)
  have ho2 : uh h o (.inr (5, ([.null, .ref q5, .null] : List Value).set 0 (.ref (DR 0 0)))) o = some (.inr (5, [.ref (DR 0 0), .ref q5, .null])) := uh_same _ _ _
  have hB := hB.fr (P := fun z => z = o) (Fr.one (e := .inr (5, ([.null, .ref q5, .null] : List Value).set 0 (.ref (DR 0 0))))) (fun q w z => bB q w z)
  have hF := Fr.set (e := .inr (5, ([.null, .ref q5, .null] : List Value).set 0 (.ref (DR 0 0)))) hF (Or.inl rfl)
  have hall := al_set (o := o) (e := .inr (5, ([.null, .ref q5, .null] : List Value).set 0 (.ref (DR 0 0)))) hall
  generalize uh h o (.inr (5, ([.null, .ref q5, .null] : List Value).set 0 (.ref (DR 0 0)))) = h at ho2 hF hall hW hB
  have ho := ho2
  refine lv_aload_n hx hb dX5_init_26 rfl (lv_at hl 0 rfl) ?_
  refine g_new (ci := 0) (C := RX0) (T := TX0) (N := 12) (fs := [.int (J 0), .null, .null, .null, .int (J 0), .null, .null, .int (J 0), .null, .null, .null, .null]) hx hb hfX0 (fun _ h9 => h9) tyX0 tyX0_ok hown (hts (.classLink RX5 21 RX0) (by decide +kernel)) (hts (.instantiable RX0 12) (by decide +kernel)) (hts (.initialized RX0) (by decide +kernel)) hk hW hS rfl (by intro j hj; match j, hj with | 0, _ => rfl | 1, _ => rfl | 2, _ => rfl | 3, _ => rfl | 4, _ => rfl | 5, _ => rfl | 6, _ => rfl | 7, _ => rfl | 8, _ => rfl | 9, _ => rfl | 10, _ => rfl | 11, _ => rfl) (Nat.le_of_ble_eq_true rfl) (Nat.le_of_ble_eq_true rfl) dX5_init_27 (fun q27 H hq27 hW hS => ?_)
  have f_q27 : h0 q27 = none := hF.none hq27
  have n_q27 : q27 ≠ o := raw_ne ho hq27
  have a_hB_q27 : ∀ z, FS q5 DR z → z ≠ q27 := fun z w e => QB_exS hB w (by rw [e]; exact hq27)
  have ho := raw_new (e := .inr (0, [.int (J 0), .null, .null, .null, .int (J 0), .null, .null, .int (J 0), .null, .null, .null, .null])) ho hq27
  have hB := hB.fr (P := fun z => z = q27) (Fr.one (e := .inr (0, [.int (J 0), .null, .null, .null, .int (J 0), .null, .null, .int (J 0), .null, .null, .null, .null]))) (fun z w e => a_hB_q27 z w e)
  have d_q27 : uh h q27 (.inr (0, [.int (J 0), .null, .null, .null, .int (J 0), .null, .null, .int (J 0), .null, .null, .null, .null])) q27 = some (.inr (0, [.int (J 0), .null, .null, .null, .int (J 0), .null, .null, .int (J 0), .null, .null, .null, .null])) := uh_same _ _ _
  have hF := Fr.new (e := .inr (0, [.int (J 0), .null, .null, .null, .int (J 0), .null, .null, .int (J 0), .null, .null, .null, .null])) hF hq27
  have hall := al_set (o := q27) (e := .inr (0, [.int (J 0), .null, .null, .null, .int (J 0), .null, .null, .int (J 0), .null, .null, .null, .null])) hall
  generalize uh h q27 (.inr (0, [.int (J 0), .null, .null, .null, .int (J 0), .null, .null, .int (J 0), .null, .null, .null, .null])) = h at ho hF hall hW d_q27 hB
  refine W.eq (g2 := F0 m 30 ls [.ref q27, .ref o]) rfl ?_
  refine lv_dup hx hb dX5_init_30 rfl ?_
  refine g_callIN (As := []) (rest := [.ref q27, .ref o]) (b := q27) ⟨hx, hb, hml, hown, hts⟩ (i_glasses l g base sa h q27 d_q27) ⟨va_cnB (host := "JugsAndGlasses") 0 hts gX5_init_X0_init_n23 rfl rfl rfl (hk.2.2.2.2.2.2.2.2.2.2.1) (hts (.initialized RX0) (by decide +kernel)) (by decide +kernel) ⟨Nat.le_of_ble_eq_true rfl, Nat.le_of_ble_eq_true rfl⟩, rfl, hts (.instanceMethod yX0_init) (by decide +kernel)⟩ hk hW hS rfl hl.1 (Nat.le_of_ble_eq_true rfl) dX5_init_31 ⟨Nat.le_of_ble_eq_true rfl, Nat.le_of_ble_eq_true rfl⟩ (fun r9 h9 H locs hp hW hS => ?_)
  obtain ⟨rfl, hF9, Rg, hGB, hn9⟩ := hp
  refine W.widen (k := 31) (n := 154) (Nat.le_of_ble_eq_true rfl) (Nat.le_of_ble_eq_true rfl) ?_
  refine W.eq (g2 := F0 m 34 ls [.ref q27, .ref o]) rfl ?_
  have apG : ∀ z, FS q5 DR z → ¬ FG q27 Rg z := fun z w v => by
    rcases hn9 z v with e | e
    · exact a_hB_q27 z w e
    · exact QB_exS hB w e
  have zG : ∀ z, FG q27 Rg z → h0 z = none := fun z w => by
    rcases hn9 z w with e | e
    · rw [e]; exact f_q27
    · exact hF.none e
  have bG : ∀ z, FG q27 Rg z → z ≠ o := fun z w e => by
    have h8 := zG z w
    rw [e, ho0] at h8
    cases h8
  have ho := raw_fr hF9 ho (fun e => n_q27 e.symm)
  have hB := hB.fr hF9 (fun z w e => a_hB_q27 z w e)
  have hF := hF.tr hF9 (fun z w _ => Or.inr (by rw [w]; exact f_q27))
  clear hall
  generalize h9 = h at ho hF hW hB hGB
  have hall : ∀ a ∈ ([] : List Nat), h a ≠ none := fun a w => absurd w (by simp)
  refine g_putF (ci := 5) (C := RX5) (T := TX5) (N := 3) (ty := .object "JugsAndGlasses$Glasses") (fs := [.ref (DR 0 0), .ref q5, .null]) hx hb hfX5 (fun _ h9 => h9) tyX5 tyX5_ok nmX5 hown hk hW hS ho rfl 2 (by decide) (hts (.fieldLink RX5 24 "JugsAndGlasses" "glasses" "LJugsAndGlasses$Glasses;") (by decide +kernel)) rfl rfl hin rfl (by decide +kernel) rfl rfl (by simp) dX5_init_34 (fun H locs hW hS => ?_)
  have ho2 : uh h o (.inr (5, ([.ref (DR 0 0), .ref q5, .null] : List Value).set 2 (.ref q27))) o = some (.inr (5, [.ref (DR 0 0), .ref q5, .ref q27])) := uh_same _ _ _
  have hB := hB.fr (P := fun z => z = o) (Fr.one (e := .inr (5, ([.ref (DR 0 0), .ref q5, .null] : List Value).set 2 (.ref q27)))) (fun q w z => bB q w z)
  have hGB := hGB.fr (P := fun z => z = o) (Fr.one (e := .inr (5, ([.ref (DR 0 0), .ref q5, .null] : List Value).set 2 (.ref q27)))) (fun q w z => bG q w z)
  have hF := Fr.set (e := .inr (5, ([.ref (DR 0 0), .ref q5, .null] : List Value).set 2 (.ref q27))) hF (Or.inl rfl)
  have hall := al_set (o := o) (e := .inr (5, ([.ref (DR 0 0), .ref q5, .null] : List Value).set 2 (.ref q27))) hall
  generalize uh h o (.inr (5, ([.ref (DR 0 0), .ref q5, .null] : List Value).set 2 (.ref q27))) = h at ho2 hF hall hW hB hGB
  have ho := ho2
  refine W.widen (k := 31) (n := 154) (Nat.le_of_ble_eq_true rfl) (Nat.le_of_ble_eq_true rfl) ?_
  exact g_vret hx hb hr hW hS dX5_init_37 hlocks (by
      have h5 : ∀ k, k < 3 → ¬ isA kd5 k := by unfold isA; decide
      have hfo : ∀ q, FP 3 kd5 o (fun k => match k with | 0 => DR 0 0 | 1 => q5 | _ => q27) q → q = o := fun q w => by
        rcases w with w | ⟨k, hk, ha, w⟩
        · exact w
        · exact absurd ha (h5 k hk)
      exact ⟨rfl, hF.weak, (fun k => match k with | 0 => DR 0 0 | 1 => q5 | _ => q27), DR, Rg, ⟨ho, fun k hk ha => absurd ha (h5 k hk), fun i j hi hj hia _ _ => absurd hia (h5 i hi)⟩, rfl, hB, hGB, fun q w v => bB q v (hfo q w), fun q w v => bG q v (hfo q w), apG, fun q w => w.elim (fun z => Or.inl (hfo q z)) (fun z => Or.inr (z.elim (zB q) (zG q)))⟩)
