set_option maxHeartbeats 4000000 in
set_option maxRecDepth 100000 in
theorem m_rows (l : Launch) (g : GX) (base : Nat) (sa : Nat → Nat) (h0 : Hp) (o : Nat) (R : Nat → Nat) (I : Nat → Int) (A : Nat → Int → Int) (i v : Int) (hM : OB g 6 28 kd6 h0 o R I mL A) (hi9 : i32 i) (hv9 : i32 v) (hm : Mok I A) : MC l g base sa yX6_rows wsX6_rows ({ frames := 3, cells := 0, slots := 0, locals := 76 }) ([.ref o, .int (J i), .int (J v)]) h0 (fun r h' => Fr (FP 28 kd6 o R) h0 h' ∧ ((¬ ((i = -1 ∨ (0 ≤ i ∧ i < I 0)) ∧ 0 ≤ v ∧ v ≤ 10) ∧ r = some (.long (JL (-2))) ∧ OB g 6 28 kd6 h' o R I mL A) ∨ (((i = -1 ∨ (0 ≤ i ∧ i < I 0)) ∧ 0 ≤ v ∧ v ≤ 10) ∧ ∃ I' A', OB g 6 28 kd6 h' o R I' mL A' ∧ FCO I I' A A' i v 0 ∧ r = some (.long (JL (if A' 16 (I' 17) = 1000000000 then 0 else min mM (ct (nxM (I 0) (I 3) (I 4) (A' 8)) (goM (I 0) (A' 8) i v) (A' 16 (I' 17)).toNat (I' 17)))))))) := by
  refine Met.ofW (cc := cX6_rows) (maxL := 9) (ret := (some .long)) (by decide) rfl ?_
  intro p e s m args below meth c s₁ B hml hv
  obtain ⟨rfl, hk, hW⟩ := hv
  have hx := B.exec
  have hb := B.bytes
  have hr := B.returns
  have hts := atoms_spec (ws := wsX6_rows) B.pre
  have hown : s.vm.findClass RX6 = some m.cls := findClass_of_methodNamed B.named
  have hlocks := B.notSynchronized
  have hfX6 : ∀ w ∈ wsX60, w.before ([.ref o, .int (J i), .int (J v)]).toArray s = true := fun w h => hts w (List.mem_cons_of_mem _ (List.mem_append_right _ h))
  have hS : va_S (Ab base) s.heap s.heap [] := va_S.rf
  have hl := lv_entry ([.ref o, .int (J i), .int (J v)]) (n := 9) (Nat.le_of_ble_eq_true rfl)
  rw [lg_entry_eq]
  generalize (lg_sl ([.ref o, .int (J i), .int (J v)]) ++ List.replicate (9 - (lg_sl ([.ref o, .int (J i), .int (J v)])).length) Slot.unset).toArray = ls at hl ⊢
  have hl : lv_has ls 9 [(0, .ref o), (1, .int (J i)), (2, .int (J v))] := hl
  have hF : Fr (FP 28 kd6 o R) h0 h0 := Fr.rf
  obtain ⟨hm1, hm2, hm3, hm4, hm5, hm6, hm7, hm8, hm9⟩ := id hm
  have hn : 0 ≤ I 0 ∧ I 0 ≤ 4 := ⟨hm1, hm2⟩
  refine lv_aload_n hx hb dX6_rows_0 rfl (lv_at hl 0 rfl) ?_
  refine lv_iload_n hx hb dX6_rows_1 rfl (lv_at hl 1 rfl) ?_
  refine lv_iload_n hx hb dX6_rows_2 rfl (lv_at hl 2 rfl) ?_
  refine g_callV (As := [.int (J i), .int (J v)]) (rest := []) (b := o) (ci := 6) (C := RX6) (T := TX6) (N := 28) ⟨hx, hb, hml, hown, hts⟩ (m_isAim l g base sa h0 o R I A i v hM hi9 hv9 hn) (cwV 2 hts gX6_rows_X6_isAim rfl rfl rfl (by decide +kernel) ⟨Nat.le_of_ble_eq_true rfl, Nat.le_of_ble_eq_true rfl⟩) hk hW hS hM.1 rfl rfl hl.1 (Nat.le_of_ble_eq_true rfl) dX6_rows_3 ⟨Nat.le_of_ble_eq_true rfl, Nat.le_of_ble_eq_true rfl⟩ (fun r9 h9 H locs hp hW hS => ?_)
  obtain ⟨rfl, e9⟩ := hp
  rw [e9] at hW
  refine W.eq (g2 := F0 m 6 ls [.int (J (if (i = -1 ∨ (0 ≤ i ∧ i < I 0)) ∧ 0 ≤ v ∧ v ≤ 10 then 1 else 0))]) rfl ?_
  refine j_if_ne (x := if (i = -1 ∨ (0 ≤ i ∧ i < I 0)) ∧ 0 ≤ v ∧ v ≤ 10 then 1 else 0) (tgt := 13) hx hb (ifP_r _) dX6_rows_6 (by decide) (fun c_6 => ?_) (fun c_6 => ?_)
  · refine lv_aload_n hx hb dX6_rows_13 rfl (lv_at hl 0 rfl) ?_
    refine lv_iload_n hx hb dX6_rows_14 rfl (lv_at hl 1 rfl) ?_
    refine lv_iload_n hx hb dX6_rows_15 rfl (lv_at hl 2 rfl) ?_
    refine lv_iconst (v := J (0)) hx hb dX6_rows_16 rfl ?_
    refine g_callV (As := [.int (J i), .int (J v), .int (J 0)]) (rest := []) (b := o) (ci := 6) (C := RX6) (T := TX6) (N := 28) ⟨hx, hb, hml, hown, hts⟩ (m_findCosts l g base sa h0 o R I A i v 0 hM hi9 hv9 (Or.inl rfl) hm) (cwV 3 hts gX6_rows_X6_findCosts rfl rfl rfl (by decide +kernel) ⟨Nat.le_of_ble_eq_true rfl, Nat.le_of_ble_eq_true rfl⟩) hk hW hS hM.1 rfl rfl hl.1 (Nat.le_of_ble_eq_true rfl) dX6_rows_17 ⟨Nat.le_of_ble_eq_true rfl, Nat.le_of_ble_eq_true rfl⟩ (fun r9 h9 H locs hp hW hS => ?_)
    obtain ⟨rfl, hF9, I1, A1, hM, hFCO⟩ := hp
    refine W.eq (g2 := F0 m 20 ls []) rfl ?_
    have hF := hF.tr hF9 (fun q h1 _ => h1)
    generalize h9 = h at hM hF hW
    have hfs := FCO_st hm hFCO
    refine lv_aload_n hx hb dX6_rows_20 rfl (lv_at hl 0 rfl) ?_
    refine g_get (ci := 6) (C := RX6) (T := TX6) (N := 28) (v := .ref (R 16)) hx hb hfX6 (fun _ h9 => h9) hown hk hW hM.1 rfl 16 (by decide) (hts (.fieldLink RX6 39 "JugsAndGlassesModel" "costs" "[I") (by decide +kernel)) rfl rfl dX6_rows_21 ?_
    refine lv_aload_n hx hb dX6_rows_24 rfl (lv_at hl 0 rfl) ?_
    refine g_get (ci := 6) (C := RX6) (T := TX6) (N := 28) (v := .int (J (I1 17))) hx hb hfX6 (fun _ h9 => h9) hown hk hW hM.1 rfl 17 (by decide) (hts (.fieldLink RX6 112 "JugsAndGlassesModel" "start" "I") (by decide +kernel)) rfl rfl dX6_rows_25 ?_
    refine g_iald (n := 14641) (f := A1 16) (i := I1 17) hx hb hk hW (hM.ai 16 (by decide) rfl) (by omega) (by omega) (by omega) dX6_rows_28 ?_
    refine j_ldc (z := 1000000000) hx hb (by decide) hown (hts (.constant RX6 111 (1000000000)) (by decide +kernel)) dX6_rows_29 ?_
    refine j_icmp_ne (x := A1 16 (I1 17)) (y := 1000000000) (tgt := 36) hx hb ⟨by omega, by omega⟩ ⟨by decide, by decide⟩ dX6_rows_31 (by decide) (fun c_31 => ?_) (fun c_31 => ?_)
    · have hrm := hFCO.2.2.2.2.1
      have hLA := hFCO.2.2.2.2.2.2.2.1
      have hFC := hFCO.2.2.2.2.2.2.2.2
      have hNX := LA_NX (tp := I 3) (dr := I 4) hrm
      refine lv_aload_n hx hb dX6_rows_36 rfl (lv_at hl 0 rfl) ?_
      refine g_callV (As := []) (rest := []) (b := o) (ci := 6) (C := RX6) (T := TX6) (N := 28) ⟨hx, hb, hml, hown, hts⟩ (m_stateMany l g base sa h o R I1 A1 hM ⟨by rw [hFCO.2.1]; exact hm1, by rw [hFCO.2.1]; exact hm2⟩) (cwV 0 hts gX6_rows_X6_stateMany rfl rfl rfl (by decide +kernel) ⟨Nat.le_of_ble_eq_true rfl, Nat.le_of_ble_eq_true rfl⟩) hk hW hS hM.1 rfl rfl hl.1 (Nat.le_of_ble_eq_true rfl) dX6_rows_37 ⟨Nat.le_of_ble_eq_true rfl, Nat.le_of_ble_eq_true rfl⟩ (fun r9 h9 H locs hp hW hS => ?_)
      rw [hFCO.2.1] at hp
      obtain ⟨rfl, e9⟩ := hp
      rw [e9] at hW
      refine W.eq (g2 := F0 m 40 ls [.int (J (mT (A1 8) (I 0)))]) rfl ?_
      refine lv_istore_n (lv' := [(3, .int (J (mT (A1 8) (I 0)))), (0, .ref o), (1, .int (J i)), (2, .int (J v))]) hx hb dX6_rows_40 rfl hl (by decide) rfl (fun ls hl => ?_)
      refine lv_iconst (v := J (0)) hx hb dX6_rows_41 rfl ?_
      refine lv_istore (lv' := [(4, .int (J 0)), (3, .int (J (mT (A1 8) (I 0)))), (0, .ref o), (1, .int (J i)), (2, .int (J v))]) hx hb dX6_rows_42 hl (by decide) rfl (fun ls hl => ?_)
      have loop_44 : ∀ (n9 : Nat) (z : Int) (rw9 : Int → Int) (h : Hp) (H : Heap) (locs : List Loc) (ls : Array Slot), A1 16 (I1 17) + 1 - z < (n9 : Int) → (0 ≤ z ∧ z ≤ A1 16 (I1 17) + 1) → (RT (mT (A1 8) (I 0)) (nxM (I 0) (I 3) (I 4) (A1 8)) (goM (I 0) (A1 8) i v) (A1 16) rw9 (z) (0)) → (OB g 6 28 kd6 h o R I1 mL (va_up A1 18 (rw9))) → (Fr (FP 28 kd6 o R) h0 h) → (Wd g base h H) → (va_S (Ab base) s.heap H locs) → (lv_has ls 9 [(0, .ref o), (1, .int (J i)), (2, .int (J v)), (3, .int (J (mT (A1 8) (I 0)))), (4, .int (J z))]) → W p l e (headSpec wsX6_rows ({ frames := 3, cells := 0, slots := 0, locals := 76 })).room s m ([.ref o, .int (J i), .int (J v)]).toArray below meth c H locs 0 0 (MQ below (QcM g base (fun r h' => Fr (FP 28 kd6 o R) h0 h' ∧ ((¬ ((i = -1 ∨ (0 ≤ i ∧ i < I 0)) ∧ 0 ≤ v ∧ v ≤ 10) ∧ r = some (.long (JL (-2))) ∧ OB g 6 28 kd6 h' o R I mL A) ∨ (((i = -1 ∨ (0 ≤ i ∧ i < I 0)) ∧ 0 ≤ v ∧ v ≤ 10) ∧ ∃ I' A', OB g 6 28 kd6 h' o R I' mL A' ∧ FCO I I' A A' i v 0 ∧ r = some (.long (JL (if A' 16 (I' 17) = 1000000000 then 0 else min mM (ct (nxM (I 0) (I 3) (I 4) (A' 8)) (goM (I 0) (A' 8) i v) (A' 16 (I' 17)).toNat (I' 17))))))))) ([.ref o, .int (J i), .int (J v)]).toArray s (0) (0) (Ab base)) (F0 m 44 ls []) := by
        intro n9
        induction n9 with
        | zero =>
          intro z rw9 h H locs ls hmu hz9 hRT hM hF hW hS hl
          exact absurd hmu (by omega)
        | succ n9 ih =>
          intro z rw9 h H locs ls hmu hz9 hRT hM hF hW hS hl
          have ih_44 := ih
          refine lv_iload hx hb dX6_rows_44 (lv_at hl 4 rfl) ?_
          refine lv_aload_n hx hb dX6_rows_46 rfl (lv_at hl 0 rfl) ?_
          refine g_get (ci := 6) (C := RX6) (T := TX6) (N := 28) (v := .ref (R 16)) hx hb hfX6 (fun _ h9 => h9) hown hk hW hM.1 rfl 16 (by decide) (hts (.fieldLink RX6 39 "JugsAndGlassesModel" "costs" "[I") (by decide +kernel)) rfl rfl dX6_rows_47 ?_
          refine lv_aload_n hx hb dX6_rows_50 rfl (lv_at hl 0 rfl) ?_
          refine g_get (ci := 6) (C := RX6) (T := TX6) (N := 28) (v := .int (J (I1 17))) hx hb hfX6 (fun _ h9 => h9) hown hk hW hM.1 rfl 17 (by decide) (hts (.fieldLink RX6 112 "JugsAndGlassesModel" "start" "I") (by decide +kernel)) rfl rfl dX6_rows_51 ?_
          refine g_iald (n := 14641) (f := A1 16) (i := I1 17) hx hb hk hW (hM.ai 16 (by decide) rfl) (by omega) (by omega) (by omega) dX6_rows_54 ?_
          refine j_icmp_gt (x := z) (y := A1 16 (I1 17)) (tgt := 193) hx hb ⟨by omega, by omega⟩ ⟨by omega, by omega⟩ dX6_rows_55 (by decide) (fun c_55 => ?_) (fun c_55 => ?_)
          · refine lv_aload_n hx hb dX6_rows_193 rfl (lv_at hl 0 rfl) ?_
            refine g_get (ci := 6) (C := RX6) (T := TX6) (N := 28) (v := .ref (R 18)) hx hb hfX6 (fun _ h9 => h9) hown hk hW hM.1 rfl 18 (by decide) (hts (.fieldLink RX6 42 "JugsAndGlassesModel" "rows" "[J") (by decide +kernel)) rfl rfl dX6_rows_194 ?_
            refine lv_aload_n hx hb dX6_rows_197 rfl (lv_at hl 0 rfl) ?_
            refine g_get (ci := 6) (C := RX6) (T := TX6) (N := 28) (v := .int (J (I1 17))) hx hb hfX6 (fun _ h9 => h9) hown hk hW hM.1 rfl 17 (by decide) (hts (.fieldLink RX6 112 "JugsAndGlassesModel" "start" "I") (by decide +kernel)) rfl rfl dX6_rows_198 ?_
            refine g_lald (n := 14641) (f := rw9) (i := I1 17) hx hb hk hW (hM.al 18 (by decide) rfl) (by omega) (by omega) (by omega) dX6_rows_201 ?_
            exact g_lret hx hb hr hW hS dX6_rows_202 hlocks (⟨hF, Or.inr ⟨ifP_1 c_6, I1, _, hM, hFCO, congrArg (fun z : Int => some (Value.long (JL z))) (show rw9 (I1 17) = (if A1 16 (I1 17) = 1000000000 then 0 else min mM (ct (nxM (I 0) (I 3) (I 4) (A1 8)) (goM (I 0) (A1 8) i v) (A1 16 (I1 17)).toNat (I1 17))) from by rw [if_neg c_31, hRT (I1 17) (by omega) (by omega) (Or.inl (by omega))])⟩⟩)
          · refine lv_iconst (v := J (0)) hx hb dX6_rows_58 rfl ?_
            refine lv_istore (lv' := [(5, .int (J 0)), (0, .ref o), (1, .int (J i)), (2, .int (J v)), (3, .int (J (mT (A1 8) (I 0)))), (4, .int (J z))]) hx hb dX6_rows_59 hl (by decide) rfl (fun ls hl => ?_)
            have loop_61 : ∀ (n9 : Nat) (x : Int) (rw9 : Int → Int) (h : Hp) (H : Heap) (locs : List Loc) (ls : Array Slot), mT (A1 8) (I 0) - x < (n9 : Int) → (0 ≤ x ∧ x ≤ mT (A1 8) (I 0)) → (RT (mT (A1 8) (I 0)) (nxM (I 0) (I 3) (I 4) (A1 8)) (goM (I 0) (A1 8) i v) (A1 16) rw9 (z) (x)) → (OB g 6 28 kd6 h o R I1 mL (va_up A1 18 (rw9))) → (Fr (FP 28 kd6 o R) h0 h) → (Wd g base h H) → (va_S (Ab base) s.heap H locs) → (lv_has ls 9 [(0, .ref o), (1, .int (J i)), (2, .int (J v)), (3, .int (J (mT (A1 8) (I 0)))), (4, .int (J z)), (5, .int (J x))]) → W p l e (headSpec wsX6_rows ({ frames := 3, cells := 0, slots := 0, locals := 76 })).room s m ([.ref o, .int (J i), .int (J v)]).toArray below meth c H locs 0 0 (MQ below (QcM g base (fun r h' => Fr (FP 28 kd6 o R) h0 h' ∧ ((¬ ((i = -1 ∨ (0 ≤ i ∧ i < I 0)) ∧ 0 ≤ v ∧ v ≤ 10) ∧ r = some (.long (JL (-2))) ∧ OB g 6 28 kd6 h' o R I mL A) ∨ (((i = -1 ∨ (0 ≤ i ∧ i < I 0)) ∧ 0 ≤ v ∧ v ≤ 10) ∧ ∃ I' A', OB g 6 28 kd6 h' o R I' mL A' ∧ FCO I I' A A' i v 0 ∧ r = some (.long (JL (if A' 16 (I' 17) = 1000000000 then 0 else min mM (ct (nxM (I 0) (I 3) (I 4) (A' 8)) (goM (I 0) (A' 8) i v) (A' 16 (I' 17)).toNat (I' 17))))))))) ([.ref o, .int (J i), .int (J v)]).toArray s (0) (0) (Ab base)) (F0 m 61 ls []) := by
              intro n9
              induction n9 with
              | zero =>
                intro x rw9 h H locs ls hmu hx9 hRT hM hF hW hS hl
                exact absurd hmu (by omega)
              | succ n9 ih =>
                intro x rw9 h H locs ls hmu hx9 hRT hM hF hW hS hl
                have ih_61 := ih
                refine lv_iload hx hb dX6_rows_61 (lv_at hl 5 rfl) ?_
                refine lv_iload_n hx hb dX6_rows_63 rfl (lv_at hl 3 rfl) ?_
                refine j_icmp_ge (x := x) (y := mT (A1 8) (I 0)) (tgt := 187) hx hb ⟨by omega, by omega⟩ ⟨by omega, by omega⟩ dX6_rows_64 (by decide) (fun c_64 => ?_) (fun c_64 => ?_)
                · refine lv_iinc (v := J (z + 1)) (lv' := [(4, .int (J (z + 1))), (0, .ref o), (1, .int (J i)), (2, .int (J v)), (3, .int (J (mT (A1 8) (I 0)))), (5, .int (J x))]) hx hb dX6_rows_187 hl (k := 4) rfl (J_inc (by omega)) (by decide) rfl (fun ls hl => ?_)
                  refine lv_goto (tgt := 44) hx hb dX6_rows_190 (by decide) ?_
                  exact ih_44 (z + 1) rw9 h H locs ls (by omega) (by omega) (fun s h1 h2 h3 => hRT s h1 h2 (by omega)) hM hF hW hS (lv_sub hl [1, 2, 3, 4, 0] rfl)
                · have hfx := hFC.1 x hx9.1 (by omega)
                  unfold fFAR at hfx
                  refine lv_aload_n hx hb dX6_rows_67 rfl (lv_at hl 0 rfl) ?_
                  refine g_get (ci := 6) (C := RX6) (T := TX6) (N := 28) (v := .ref (R 16)) hx hb hfX6 (fun _ h9 => h9) hown hk hW hM.1 rfl 16 (by decide) (hts (.fieldLink RX6 39 "JugsAndGlassesModel" "costs" "[I") (by decide +kernel)) rfl rfl dX6_rows_68 ?_
                  refine lv_iload hx hb dX6_rows_71 (lv_at hl 5 rfl) ?_
                  refine g_iald (n := 14641) (f := A1 16) (i := x) hx hb hk hW (hM.ai 16 (by decide) rfl) (by omega) (by omega) (by omega) dX6_rows_73 ?_
                  refine lv_iload hx hb dX6_rows_74 (lv_at hl 4 rfl) ?_
                  refine j_icmp_ne (x := A1 16 x) (y := z) (tgt := 181) hx hb ⟨by omega, by omega⟩ ⟨by omega, by omega⟩ dX6_rows_76 (by decide) (fun c_76 => ?_) (fun c_76 => ?_)
                  · refine lv_iinc (v := J (x + 1)) (lv' := [(5, .int (J (x + 1))), (0, .ref o), (1, .int (J i)), (2, .int (J v)), (3, .int (J (mT (A1 8) (I 0)))), (4, .int (J z))]) hx hb dX6_rows_181 hl (k := 5) rfl (J_inc (by omega)) (by decide) rfl (fun ls hl => ?_)
                    refine lv_goto (tgt := 61) hx hb dX6_rows_184 (by decide) ?_
                    exact ih_61 (x + 1) rw9 h H locs ls (by omega) (by omega) (fun s h1 h2 h3 => hRT s h1 h2 (by (by_cases e : s = x); (subst e; omega); omega)) hM hF hW hS (lv_sub hl [1, 2, 3, 4, 5, 0] rfl)
                  · have cut_89 : ∀ (t : Int) (ls : Array Slot), (t = if z = 0 then 1 else 0) → (lv_has ls 9 [(0, .ref o), (1, .int (J i)), (2, .int (J v)), (3, .int (J (mT (A1 8) (I 0)))), (4, .int (J z)), (5, .int (J x))]) → W p l e (headSpec wsX6_rows ({ frames := 3, cells := 0, slots := 0, locals := 76 })).room s m ([.ref o, .int (J i), .int (J v)]).toArray below meth c H locs 0 0 (MQ below (QcM g base (fun r h' => Fr (FP 28 kd6 o R) h0 h' ∧ ((¬ ((i = -1 ∨ (0 ≤ i ∧ i < I 0)) ∧ 0 ≤ v ∧ v ≤ 10) ∧ r = some (.long (JL (-2))) ∧ OB g 6 28 kd6 h' o R I mL A) ∨ (((i = -1 ∨ (0 ≤ i ∧ i < I 0)) ∧ 0 ≤ v ∧ v ≤ 10) ∧ ∃ I' A', OB g 6 28 kd6 h' o R I' mL A' ∧ FCO I I' A A' i v 0 ∧ r = some (.long (JL (if A' 16 (I' 17) = 1000000000 then 0 else min mM (ct (nxM (I 0) (I 3) (I 4) (A' 8)) (goM (I 0) (A' 8) i v) (A' 16 (I' 17)).toNat (I' 17))))))))) ([.ref o, .int (J i), .int (J v)]).toArray s (0) (0) (Ab base)) (F0 m 89 ls [.long (JL t)]) := by
                      intro t  ls et hl
                      refine lv_lstore (lv' := [(6, .long (JL t)), (0, .ref o), (1, .int (J i)), (2, .int (J v)), (3, .int (J (mT (A1 8) (I 0)))), (4, .int (J z)), (5, .int (J x))]) hx hb dX6_rows_89 hl (by decide) rfl (fun ls hl => ?_)
                      refine lv_iconst (v := J (0)) hx hb dX6_rows_91 rfl ?_
                      refine lv_istore (lv' := [(8, .int (J 0)), (6, .long (JL t)), (0, .ref o), (1, .int (J i)), (2, .int (J v)), (3, .int (J (mT (A1 8) (I 0)))), (4, .int (J z)), (5, .int (J x))]) hx hb dX6_rows_92 hl (by decide) rfl (fun ls hl => ?_)
                      have loop_94 : ∀ (n9 : Nat) (a : Int) (t : Int) (h : Hp) (H : Heap) (locs : List Loc) (ls : Array Slot), 24 - a < (n9 : Int) → (0 ≤ a ∧ a ≤ 24) → (z = 0 → t = 1) → (0 < z → t = cS (nxM (I 0) (I 3) (I 4) (A1 8)) (goM (I 0) (A1 8) i v) (z - 1).toNat x a) → (0 ≤ t ∧ t ≤ mM) → (OB g 6 28 kd6 h o R I1 mL (va_up A1 18 (rw9))) → (Fr (FP 28 kd6 o R) h0 h) → (Wd g base h H) → (va_S (Ab base) s.heap H locs) → (lv_has ls 9 [(0, .ref o), (1, .int (J i)), (2, .int (J v)), (3, .int (J (mT (A1 8) (I 0)))), (4, .int (J z)), (5, .int (J x)), (6, .long (JL t)), (8, .int (J a))]) → W p l e (headSpec wsX6_rows ({ frames := 3, cells := 0, slots := 0, locals := 76 })).room s m ([.ref o, .int (J i), .int (J v)]).toArray below meth c H locs 0 0 (MQ below (QcM g base (fun r h' => Fr (FP 28 kd6 o R) h0 h' ∧ ((¬ ((i = -1 ∨ (0 ≤ i ∧ i < I 0)) ∧ 0 ≤ v ∧ v ≤ 10) ∧ r = some (.long (JL (-2))) ∧ OB g 6 28 kd6 h' o R I mL A) ∨ (((i = -1 ∨ (0 ≤ i ∧ i < I 0)) ∧ 0 ≤ v ∧ v ≤ 10) ∧ ∃ I' A', OB g 6 28 kd6 h' o R I' mL A' ∧ FCO I I' A A' i v 0 ∧ r = some (.long (JL (if A' 16 (I' 17) = 1000000000 then 0 else min mM (ct (nxM (I 0) (I 3) (I 4) (A' 8)) (goM (I 0) (A' 8) i v) (A' 16 (I' 17)).toNat (I' 17))))))))) ([.ref o, .int (J i), .int (J v)]).toArray s (0) (0) (Ab base)) (F0 m 94 ls []) := by
                        intro n9
                        induction n9 with
                        | zero =>
                          intro a t h H locs ls hmu ha9 ht0 ht1 htr hM hF hW hS hl
                          exact absurd hmu (by omega)
                        | succ n9 ih =>
                          intro a t h H locs ls hmu ha9 ht0 ht1 htr hM hF hW hS hl
                          have ih_94 := ih
                          refine lv_iload hx hb dX6_rows_94 (lv_at hl 7 rfl) ?_
                          refine lv_bipush (v := J (24)) hx hb dX6_rows_96 (by decide) ?_
                          refine j_icmp_ge (x := a) (y := 24) (tgt := 172) hx hb ⟨by omega, by omega⟩ ⟨by decide, by decide⟩ dX6_rows_98 (by decide) (fun c_98 => ?_) (fun c_98 => ?_)
                          · have hte : t = min mM (ct (nxM (I 0) (I 3) (I 4) (A1 8)) (goM (I 0) (A1 8) i v) z.toNat x) := by
                              rcases Int.lt_or_eq_of_le hz9.1 with q | q
                              · rw [ht1 q, show a = 24 by omega, ct_end q]
                              · have q2 : z = 0 := q.symm
                                have hg0 := cs0_go hNX (by decide) hFC.1 hx9.1 (by omega) (c_76.trans q2)
                                rw [ht0 q2, q2]
                                show 1 = min mM (ct _ _ 0 x)
                                unfold ct
                                rw [if_pos hg0]
                                decide
                            refine lv_aload_n hx hb dX6_rows_172 rfl (lv_at hl 0 rfl) ?_
                            refine g_get (ci := 6) (C := RX6) (T := TX6) (N := 28) (v := .ref (R 18)) hx hb hfX6 (fun _ h9 => h9) hown hk hW hM.1 rfl 18 (by decide) (hts (.fieldLink RX6 42 "JugsAndGlassesModel" "rows" "[J") (by decide +kernel)) rfl rfl dX6_rows_173 ?_
                            refine lv_iload hx hb dX6_rows_176 (lv_at hl 5 rfl) ?_
                            refine lv_lload hx hb dX6_rows_178 (lv_at hl 6 rfl) ?_
                            refine o_last (A' := (va_up A1 18 (uf rw9 x t))) (i := x) (x := t) hx hb hk hW hS hM hF 18 (by decide) rfl (FP.a 18 (by decide) ⟨by decide, by decide⟩) (by omega) (show x < 14641 from by omega) (show 14641 < 2147483648 from by omega) (bx_uu _ _ _ _) dX6_rows_180 (fun h H locs hM hF hst hW hS => ?_)
                            refine lv_iinc (v := J (x + 1)) (lv' := [(5, .int (J (x + 1))), (0, .ref o), (1, .int (J i)), (2, .int (J v)), (3, .int (J (mT (A1 8) (I 0)))), (4, .int (J z)), (6, .long (JL t)), (8, .int (J a))]) hx hb dX6_rows_181 hl (k := 5) rfl (J_inc (by omega)) (by decide) rfl (fun ls hl => ?_)
                            refine lv_goto (tgt := 61) hx hb dX6_rows_184 (by decide) ?_
                            exact ih_61 (x + 1) (uf rw9 x t) h H locs ls (by omega) (by omega) (fun s h1 h2 h3 => by (by_cases e : s = x); (subst e; rw [uf_same, c_76]; exact hte); (rw [uf_ne _ _ e]; exact hRT s h1 h2 (by omega))) hM hF hW hS (lv_sub hl [1, 2, 3, 4, 5, 0] rfl)
                          · refine lv_iload hx hb dX6_rows_101 (lv_at hl 4 rfl) ?_
                            refine j_if_le (x := z) (tgt := 172) hx hb ⟨by omega, by omega⟩ dX6_rows_103 (by decide) (fun c_103 => ?_) (fun c_103 => ?_)
                            · have hte : t = min mM (ct (nxM (I 0) (I 3) (I 4) (A1 8)) (goM (I 0) (A1 8) i v) z.toNat x) := by
                                rcases Int.lt_or_eq_of_le hz9.1 with q | q
                                · rw [ht1 q, show a = 24 by omega, ct_end q]
                                · have q2 : z = 0 := q.symm
                                  have hg0 := cs0_go hNX (by decide) hFC.1 hx9.1 (by omega) (c_76.trans q2)
                                  rw [ht0 q2, q2]
                                  show 1 = min mM (ct _ _ 0 x)
                                  unfold ct
                                  rw [if_pos hg0]
                                  decide
                              refine lv_aload_n hx hb dX6_rows_172 rfl (lv_at hl 0 rfl) ?_
                              refine g_get (ci := 6) (C := RX6) (T := TX6) (N := 28) (v := .ref (R 18)) hx hb hfX6 (fun _ h9 => h9) hown hk hW hM.1 rfl 18 (by decide) (hts (.fieldLink RX6 42 "JugsAndGlassesModel" "rows" "[J") (by decide +kernel)) rfl rfl dX6_rows_173 ?_
                              refine lv_iload hx hb dX6_rows_176 (lv_at hl 5 rfl) ?_
                              refine lv_lload hx hb dX6_rows_178 (lv_at hl 6 rfl) ?_
                              refine o_last (A' := (va_up A1 18 (uf rw9 x t))) (i := x) (x := t) hx hb hk hW hS hM hF 18 (by decide) rfl (FP.a 18 (by decide) ⟨by decide, by decide⟩) (by omega) (show x < 14641 from by omega) (show 14641 < 2147483648 from by omega) (bx_uu _ _ _ _) dX6_rows_180 (fun h H locs hM hF hst hW hS => ?_)
                              refine lv_iinc (v := J (x + 1)) (lv' := [(5, .int (J (x + 1))), (0, .ref o), (1, .int (J i)), (2, .int (J v)), (3, .int (J (mT (A1 8) (I 0)))), (4, .int (J z)), (6, .long (JL t)), (8, .int (J a))]) hx hb dX6_rows_181 hl (k := 5) rfl (J_inc (by omega)) (by decide) rfl (fun ls hl => ?_)
                              refine lv_goto (tgt := 61) hx hb dX6_rows_184 (by decide) ?_
                              exact ih_61 (x + 1) (uf rw9 x t) h H locs ls (by omega) (by omega) (fun s h1 h2 h3 => by (by_cases e : s = x); (subst e; rw [uf_same, c_76]; exact hte); (rw [uf_ne _ _ e]; exact hRT s h1 h2 (by omega))) hM hF hW hS (lv_sub hl [1, 2, 3, 4, 5, 0] rfl)
                            · have cut_144 : ∀ (u : Int) (h : Hp) (H : Heap) (locs : List Loc) (ls : Array Slot), (u = if CB (nxM (I 0) (I 3) (I 4) (A1 8)) (spM (I 0) (I 3) (I 4) (A1 8)) 0 (A1 16) x a = z then rw9 ((nxM (I 0) (I 3) (I 4) (A1 8)) x a) else 0) → (0 ≤ u ∧ u ≤ mM) → (OB g 6 28 kd6 h o R I1 mL (va_up A1 18 (rw9))) → (Fr (FP 28 kd6 o R) h0 h) → (Wd g base h H) → (va_S (Ab base) s.heap H locs) → (lv_has ls 9 [(0, .ref o), (1, .int (J i)), (2, .int (J v)), (3, .int (J (mT (A1 8) (I 0)))), (4, .int (J z)), (5, .int (J x)), (6, .long (JL t)), (8, .int (J a))]) → W p l e (headSpec wsX6_rows ({ frames := 3, cells := 0, slots := 0, locals := 76 })).room s m ([.ref o, .int (J i), .int (J v)]).toArray below meth c H locs 0 0 (MQ below (QcM g base (fun r h' => Fr (FP 28 kd6 o R) h0 h' ∧ ((¬ ((i = -1 ∨ (0 ≤ i ∧ i < I 0)) ∧ 0 ≤ v ∧ v ≤ 10) ∧ r = some (.long (JL (-2))) ∧ OB g 6 28 kd6 h' o R I mL A) ∨ (((i = -1 ∨ (0 ≤ i ∧ i < I 0)) ∧ 0 ≤ v ∧ v ≤ 10) ∧ ∃ I' A', OB g 6 28 kd6 h' o R I' mL A' ∧ FCO I I' A A' i v 0 ∧ r = some (.long (JL (if A' 16 (I' 17) = 1000000000 then 0 else min mM (ct (nxM (I 0) (I 3) (I 4) (A' 8)) (goM (I 0) (A' 8) i v) (A' 16 (I' 17)).toNat (I' 17))))))))) ([.ref o, .int (J i), .int (J v)]).toArray s (0) (0) (Ab base)) (F0 m 144 ls [.long (JL u), .long (JL t)]) := by
                                intro u h H locs ls eu ur hM hF hW hS hl
                                refine j_ladd hx hb dX6_rows_144 ?_
                                refine lv_lstore (lv' := [(6, .long (JL (t + u))), (0, .ref o), (1, .int (J i)), (2, .int (J v)), (3, .int (J (mT (A1 8) (I 0)))), (4, .int (J z)), (5, .int (J x)), (8, .int (J a))]) hx hb dX6_rows_145 hl (by decide) rfl (fun ls hl => ?_)
                                have cut_164 : ∀ (w : Int) (ls : Array Slot), (w = min mM (t + u)) → (lv_has ls 9 [(6, .long (JL (t + u))), (0, .ref o), (1, .int (J i)), (2, .int (J v)), (3, .int (J (mT (A1 8) (I 0)))), (4, .int (J z)), (5, .int (J x)), (8, .int (J a))]) → W p l e (headSpec wsX6_rows ({ frames := 3, cells := 0, slots := 0, locals := 76 })).room s m ([.ref o, .int (J i), .int (J v)]).toArray below meth c H locs 0 0 (MQ below (QcM g base (fun r h' => Fr (FP 28 kd6 o R) h0 h' ∧ ((¬ ((i = -1 ∨ (0 ≤ i ∧ i < I 0)) ∧ 0 ≤ v ∧ v ≤ 10) ∧ r = some (.long (JL (-2))) ∧ OB g 6 28 kd6 h' o R I mL A) ∨ (((i = -1 ∨ (0 ≤ i ∧ i < I 0)) ∧ 0 ≤ v ∧ v ≤ 10) ∧ ∃ I' A', OB g 6 28 kd6 h' o R I' mL A' ∧ FCO I I' A A' i v 0 ∧ r = some (.long (JL (if A' 16 (I' 17) = 1000000000 then 0 else min mM (ct (nxM (I 0) (I 3) (I 4) (A' 8)) (goM (I 0) (A' 8) i v) (A' 16 (I' 17)).toNat (I' 17))))))))) ([.ref o, .int (J i), .int (J v)]).toArray s (0) (0) (Ab base)) (F0 m 164 ls [.long (JL w)]) := by
                                  intro w  ls ew hl
                                  refine lv_lstore (lv' := [(6, .long (JL w)), (0, .ref o), (1, .int (J i)), (2, .int (J v)), (3, .int (J (mT (A1 8) (I 0)))), (4, .int (J z)), (5, .int (J x)), (8, .int (J a))]) hx hb dX6_rows_164 hl (by decide) rfl (fun ls hl => ?_)
                                  refine lv_iinc (v := J (a + 1)) (lv' := [(8, .int (J (a + 1))), (6, .long (JL w)), (0, .ref o), (1, .int (J i)), (2, .int (J v)), (3, .int (J (mT (A1 8) (I 0)))), (4, .int (J z)), (5, .int (J x))]) hx hb dX6_rows_166 hl (k := 7) rfl (J_inc (by omega)) (by decide) rfl (fun ls hl => ?_)
                                  refine lv_goto (tgt := 94) hx hb dX6_rows_169 (by decide) ?_
                                  exact ih_94 (a + 1) w h H locs ls (by omega) (by omega) (fun q => absurd q (by omega)) (fun _ => by rw [ew, ht1 (by omega)]; exact cS_s hNX hFC hx9.1 (by omega) ha9.1 (by omega) (by omega) (by unfold fFAR; omega) c_76 (fun s h1 h2 h3 => hRT s h1 h2 (Or.inl h3)) eu) (by unfold mM at *; omega) hM hF hW hS (lv_sub hl [2, 3, 4, 5, 6, 7, 1, 0] rfl)
                                refine lv_lload hx hb dX6_rows_147 (lv_at hl 0 rfl) ?_
                                refine j_ldc2 (z := 1000000000000000000) hx hb (by decide) hown (hts (.constantLong RX6 135 (1000000000000000000)) (by decide +kernel)) dX6_rows_149 ?_
                                refine j_lcmp (x := t + u) (y := 1000000000000000000) hx hb ⟨by unfold mM at *; omega, by unfold mM at *; omega⟩ ⟨by decide, by decide⟩ dX6_rows_152 ?_
                                refine j_if_le (x := cmpL (t + u) 1000000000000000000) (tgt := 162) hx hb (cmpL_r _ _) dX6_rows_153 (by decide) (fun c_153 => ?_) (fun c_153 => ?_)
                                · refine lv_lload hx hb dX6_rows_162 (lv_at hl 0 rfl) ?_
                                  exact cut_164 _  ls (by unfold mM; have := @cmpL_le (t + u) 1000000000000000000; omega) (lv_sub hl [0, 1, 2, 3, 4, 5, 6, 7] rfl)
                                · refine j_ldc2 (z := 1000000000000000000) hx hb (by decide) hown (hts (.constantLong RX6 135 (1000000000000000000)) (by decide +kernel)) dX6_rows_156 ?_
                                  refine lv_goto (tgt := 164) hx hb dX6_rows_159 (by decide) ?_
                                  exact cut_164 _  ls (by unfold mM; have := @cmpL_le (t + u) 1000000000000000000; omega) (lv_sub hl [0, 1, 2, 3, 4, 5, 6, 7] rfl)
                              refine lv_lload hx hb dX6_rows_106 (lv_at hl 6 rfl) ?_
                              refine lv_aload_n hx hb dX6_rows_108 rfl (lv_at hl 0 rfl) ?_
                              refine lv_iload hx hb dX6_rows_109 (lv_at hl 5 rfl) ?_
                              refine lv_iload hx hb dX6_rows_111 (lv_at hl 7 rfl) ?_
                              refine lv_iconst (v := J (0)) hx hb dX6_rows_113 rfl ?_
                              refine g_callV (As := [.int (J x), .int (J a), .int (J 0)]) (rest := [.long (JL t)]) (b := o) (ci := 6) (C := RX6) (T := TX6) (N := 28) ⟨hx, hb, hml, hown, hts⟩ (m_costBy l g base sa h o R I1 (va_up A1 18 (rw9)) x a 0 hM ⟨by omega, by omega⟩ ⟨by omega, by omega⟩ (cb_to hLA hNX hFC.1 (by omega) (by omega) (by omega) (by omega) (by omega) hfs.2.2.1)) (cwV 3 hts gX6_rows_X6_costBy rfl rfl rfl (by decide +kernel) ⟨Nat.le_of_ble_eq_true rfl, Nat.le_of_ble_eq_true rfl⟩) hk hW hS hM.1 rfl rfl hl.1 (Nat.le_of_ble_eq_true rfl) dX6_rows_114 ⟨Nat.le_of_ble_eq_true rfl, Nat.le_of_ble_eq_true rfl⟩ (fun r9 h9 H locs hp hW hS => ?_)
                              have hp : r9 = some (.int (J (CB (fun s a => A1 14 (24 * s + a)) (fun s a => A1 15 (24 * s + a)) 0 (A1 16) x a))) ∧ h9 = h := hp
                              rw [CB_LA hLA 0 (A1 16) (by omega) (by omega) (by omega) (by omega)] at hp
                              obtain ⟨rfl, e9⟩ := hp
                              rw [e9] at hW
                              refine W.eq (g2 := F0 m 117 ls [.int (J (CB (nxM (I 0) (I 3) (I 4) (A1 8)) (spM (I 0) (I 3) (I 4) (A1 8)) 0 (A1 16) x a)), .long (JL t)]) rfl ?_
                              have hcb := CB_r hNX (Or.inl rfl) hFC.1 (s := x) (a := a) (by omega) (by omega) (by omega) (by omega)
                              refine lv_iload hx hb dX6_rows_117 (lv_at hl 4 rfl) ?_
                              refine j_icmp_ne (x := CB (nxM (I 0) (I 3) (I 4) (A1 8)) (spM (I 0) (I 3) (I 4) (A1 8)) 0 (A1 16) x a) (y := z) (tgt := 143) hx hb ⟨by omega, by omega⟩ ⟨by omega, by omega⟩ dX6_rows_119 (by decide) (fun c_119 => ?_) (fun c_119 => ?_)
                              · refine lv_lconst (v := JL (0)) hx hb dX6_rows_143 (by decide) ?_
                                exact cut_144 _ h H locs ls (by rw [if_neg c_119]) (by unfold mM; omega) hM hF hW hS (lv_sub hl [0, 1, 2, 3, 4, 5, 6, 7] rfl)
                              · have hcn := CB_nx (c_119.trans c_76.symm) (by unfold fFAR; omega)
                                have hnx := (hLA x a hx9.1 (by omega) (by omega) (by omega)).1
                                have hnr : 0 ≤ A1 14 (24 * x + a) ∧ A1 14 (24 * x + a) < mT (A1 8) (I 0) := by rw [hnx]; rcases (hNX x a hx9.1 (by omega) (by omega) (by omega)).1 with e | e; exact absurd e hcn.1; exact e
                                refine lv_aload_n hx hb dX6_rows_122 rfl (lv_at hl 0 rfl) ?_
                                refine g_get (ci := 6) (C := RX6) (T := TX6) (N := 28) (v := .ref (R 18)) hx hb hfX6 (fun _ h9 => h9) hown hk hW hM.1 rfl 18 (by decide) (hts (.fieldLink RX6 42 "JugsAndGlassesModel" "rows" "[J") (by decide +kernel)) rfl rfl dX6_rows_123 ?_
                                refine lv_aload_n hx hb dX6_rows_126 rfl (lv_at hl 0 rfl) ?_
                                refine g_get (ci := 6) (C := RX6) (T := TX6) (N := 28) (v := .ref (R 14)) hx hb hfX6 (fun _ h9 => h9) hown hk hW hM.1 rfl 14 (by decide) (hts (.fieldLink RX6 33 "JugsAndGlassesModel" "next" "[I") (by decide +kernel)) rfl rfl dX6_rows_127 ?_
                                refine lv_bipush (v := J (24)) hx hb dX6_rows_130 (by decide) ?_
                                refine lv_iload hx hb dX6_rows_132 (lv_at hl 5 rfl) ?_
                                refine j_imul hx hb dX6_rows_134 ?_
                                refine lv_iload hx hb dX6_rows_135 (lv_at hl 7 rfl) ?_
                                refine j_iadd hx hb dX6_rows_137 ?_
                                refine g_iald (n := 351384) (f := A1 14) (i := (24 * x) + a) hx hb hk hW (hM.ai 14 (by decide) rfl) (by omega) (by omega) (by omega) dX6_rows_138 ?_
                                refine g_lald (n := 14641) (f := rw9) (i := A1 14 ((24 * x) + a)) hx hb hk hW (hM.al 18 (by decide) rfl) (by omega) (by omega) (by omega) dX6_rows_139 ?_
                                refine lv_goto (tgt := 144) hx hb dX6_rows_140 (by decide) ?_
                                exact cut_144 _ h H locs ls (by rw [if_pos c_119, hnx]) (by rw [hRT _ hnr.1 hnr.2 (Or.inl (by rw [hnx]; omega))]; have := ct_nn (nxM (I 0) (I 3) (I 4) (A1 8)) (goM (I 0) (A1 8) i v) (A1 16 (A1 14 (24 * x + a))).toNat (A1 14 (24 * x + a)); unfold mM; omega) hM hF hW hS (lv_sub hl [0, 1, 2, 3, 4, 5, 6, 7] rfl)
                      exact loop_94 25 0 t h H locs ls (by omega) (by omega) (fun q => by rw [et, if_pos q]) (fun q => by rw [et, if_neg (by omega), cS_0]) (by unfold mM; (split at et) <;> omega) hM hF hW hS (lv_sub hl [2, 3, 4, 5, 6, 7, 1, 0] rfl)
                    refine lv_iload hx hb dX6_rows_79 (lv_at hl 4 rfl) ?_
                    refine j_if_ne (x := z) (tgt := 88) hx hb ⟨by omega, by omega⟩ dX6_rows_81 (by decide) (fun c_81 => ?_) (fun c_81 => ?_)
                    · refine lv_lconst (v := JL (0)) hx hb dX6_rows_88 (by decide) ?_
                      exact cut_89 _  ls (by split <;> omega) (lv_sub hl [0, 1, 2, 3, 4, 5] rfl)
                    · refine lv_lconst (v := JL (1)) hx hb dX6_rows_84 (by decide) ?_
                      refine lv_goto (tgt := 89) hx hb dX6_rows_85 (by decide) ?_
                      exact cut_89 _  ls (by split <;> omega) (lv_sub hl [0, 1, 2, 3, 4, 5] rfl)
            exact loop_61 ((mT (A1 8) (I 0)).toNat + 1) 0 rw9 h H locs ls (by omega) (by omega) hRT hM hF hW hS (lv_sub hl [1, 2, 3, 4, 5, 0] rfl)
      exact loop_44 ((A1 16 (I1 17) + 1).toNat + 1) 0 (A1 18) h H locs ls (by omega) (by omega) (fun s h1 h2 h3 => absurd h3 (by have := (hFC.1 s h1 h2).1; omega)) (by rw [va_up_id]; exact hM) hF hW hS (lv_sub hl [2, 3, 4, 1, 0] rfl)
    · refine lv_lconst (v := JL (0)) hx hb dX6_rows_34 (by decide) ?_
      exact g_lret hx hb hr hW hS dX6_rows_35 hlocks (⟨hF, Or.inr ⟨ifP_1 c_6, I1, A1, hM, hFCO, congrArg (fun z : Int => some (Value.long (JL z))) (show 0 = _ from by rw [if_pos (by omega)])⟩⟩)
  · refine j_ldc2 (z := -2) hx hb (by decide) hown (hts (.constantLong RX6 133 (-2)) (by decide +kernel)) dX6_rows_9 ?_
    exact g_lret hx hb hr hW hS dX6_rows_12 hlocks (⟨hF, Or.inl ⟨ifP_0 c_6, rfl, hM⟩⟩)
