set_option maxHeartbeats 4000000 in
set_option maxRecDepth 100000 in
theorem m_ones (l : Launch) (g : GX) (base : Nat) (sa : Nat → Nat) (h0 : Hp) (ch : Int) (hc9 : 0 ≤ ch ∧ ch < 8) : MC l g base sa yX6_ones wsX6_ones ({ frames := 0, cells := 0, slots := 0, locals := 0 }) ([.int (J ch)]) h0 (fun r h' => r = some (.int (J (bc ch))) ∧ h' = h0) := by
  refine Met.ofW (cc := cX6_ones) (maxL := 1) (ret := (some .int)) (by decide) rfl ?_
  intro p e s m args below meth c s₁ B hml hv
  obtain ⟨rfl, hk, hW⟩ := hv
  have hx := B.exec
  have hb := B.bytes
  have hr := B.returns
  have hts := atoms_spec (ws := wsX6_ones) B.pre
  have hown : s.vm.findClass RX6 = some m.cls := findClass_of_methodNamed B.named
  have hlocks := B.notSynchronized
  have hS : va_S (Ab base) s.heap s.heap [] := va_S.rf
  have hl := lv_entry ([.int (J ch)]) (n := 1) (Nat.le_of_ble_eq_true rfl)
  rw [lg_entry_eq]
  generalize (lg_sl ([.int (J ch)]) ++ List.replicate (1 - (lg_sl ([.int (J ch)])).length) Slot.unset).toArray = ls at hl ⊢
  have hl : lv_has ls 1 [(0, .int (J ch))] := hl
  refine lv_iload_n hx hb dX6_ones_0 rfl (lv_at hl 0 rfl) ?_
  refine lv_iconst (v := J (1)) hx hb dX6_ones_1 rfl ?_
  refine j_and1 (x := ch) hx hb (hc9.1) dX6_ones_2 ?_
  refine lv_iload_n hx hb dX6_ones_3 rfl (lv_at hl 0 rfl) ?_
  refine lv_iconst (v := J (1)) hx hb dX6_ones_4 rfl ?_
  refine j_ishr (x := ch) (y := 1) hx hb (by omega) (by omega) (by omega) (by omega) dX6_ones_5 ?_
  refine lv_iconst (v := J (1)) hx hb dX6_ones_6 rfl ?_
  refine j_and1 (x := ch / 2 ^ (1 : Int).toNat) hx hb (Int.ediv_nonneg hc9.1 (by decide)) dX6_ones_7 ?_
  refine j_iadd hx hb dX6_ones_8 ?_
  refine lv_iload_n hx hb dX6_ones_9 rfl (lv_at hl 0 rfl) ?_
  refine lv_iconst (v := J (2)) hx hb dX6_ones_10 rfl ?_
  refine j_ishr (x := ch) (y := 2) hx hb (by omega) (by omega) (by omega) (by omega) dX6_ones_11 ?_
  refine lv_iconst (v := J (1)) hx hb dX6_ones_12 rfl ?_
  refine j_and1 (x := ch / 2 ^ (2 : Int).toNat) hx hb (Int.ediv_nonneg hc9.1 (by decide)) dX6_ones_13 ?_
  refine j_iadd hx hb dX6_ones_14 ?_
  exact g_iret hx hb hr hW hS dX6_ones_15 hlocks (⟨congrArg (fun q : Int => some (Value.int (J q))) (show (((ch) % 2) + ((ch / 2 ^ (1 : Int).toNat) % 2)) + ((ch / 2 ^ (2 : Int).toNat) % 2) = bc ch from by have e1 : (2 : Int) ^ (1 : Int).toNat = 2 := (by decide); have e2 : (2 : Int) ^ (2 : Int).toNat = 4 := (by decide); rw [e1, e2]; rfl), rfl⟩)

set_option maxHeartbeats 4000000 in
set_option maxRecDepth 100000 in
theorem m_isState (l : Launch) (g : GX) (base : Nat) (sa : Nat → Nat) (h0 : Hp) (o : Nat) (R : Nat → Nat) (I : Nat → Int) (A : Nat → Int → Int) (x : Int) (hM : OB g 6 28 kd6 h0 o R I mL A) (hsk : Sok (I 5) (A 6)) (hx9 : 0 ≤ x ∧ x < 2197) : MC l g base sa yX6_isState wsX6_isState ({ frames := 0, cells := 0, slots := 0, locals := 0 }) ([.ref o, .int (J x)]) h0 (fun r h' => r = some (.int (J (iS (I 5) (A 6) x 3))) ∧ h' = h0) := by
  refine Met.ofW (cc := cX6_isState) (maxL := 5) (ret := (some .boolean)) (by decide) rfl ?_
  intro p e s m args below meth c s₁ B hml hv
  obtain ⟨rfl, hk, hW⟩ := hv
  have hx := B.exec
  have hb := B.bytes
  have hr := B.returns
  have hts := atoms_spec (ws := wsX6_isState) B.pre
  have hown : s.vm.findClass RX6 = some m.cls := findClass_of_methodNamed B.named
  have hlocks := B.notSynchronized
  have hfX6 : ∀ w ∈ wsX60, w.before ([.ref o, .int (J x)]).toArray s = true := fun w h => hts w (List.mem_cons_of_mem _ (List.mem_append_right _ h))
  have hS : va_S (Ab base) s.heap s.heap [] := va_S.rf
  have hl := lv_entry ([.ref o, .int (J x)]) (n := 5) (Nat.le_of_ble_eq_true rfl)
  rw [lg_entry_eq]
  generalize (lg_sl ([.ref o, .int (J x)]) ++ List.replicate (5 - (lg_sl ([.ref o, .int (J x)])).length) Slot.unset).toArray = ls at hl ⊢
  have hl : lv_has ls 5 [(0, .ref o), (1, .int (J x))] := hl
  have hn1 := hsk.1
  have hn2 := hsk.2.1
  refine lv_iload_n hx hb dX6_isState_0 rfl (lv_at hl 1 rfl) ?_
  refine lv_istore_n (lv' := [(2, .int (J x)), (0, .ref o), (1, .int (J x))]) hx hb dX6_isState_1 rfl hl (by decide) rfl (fun ls hl => ?_)
  refine lv_iconst (v := J (1)) hx hb dX6_isState_2 rfl ?_
  refine lv_istore_n (lv' := [(3, .int (J 1)), (2, .int (J x)), (0, .ref o), (1, .int (J x))]) hx hb dX6_isState_3 rfl hl (by decide) rfl (fun ls hl => ?_)
  refine lv_iconst (v := J (0)) hx hb dX6_isState_4 rfl ?_
  refine lv_istore (lv' := [(4, .int (J 0)), (3, .int (J 1)), (2, .int (J x)), (0, .ref o), (1, .int (J x))]) hx hb dX6_isState_5 hl (by decide) rfl (fun ls hl => ?_)
  have loop_7 : ∀ (n9 : Nat) (y : Int) (b : Int) (i : Int) (h : Hp) (H : Heap) (locs : List Loc) (ls : Array Slot), 3 - i < (n9 : Int) → (0 ≤ i ∧ i ≤ 3) → (y = dq 13 x i.toNat) → (b = iS (I 5) (A 6) x i.toNat) → (h = h0) → (OB g 6 28 kd6 h o R I mL A) → (Wd g base h H) → (va_S (Ab base) s.heap H locs) → (lv_has ls 5 [(0, .ref o), (1, .int (J x)), (2, .int (J y)), (3, .int (J b)), (4, .int (J i))]) → W p l e (headSpec wsX6_isState ({ frames := 0, cells := 0, slots := 0, locals := 0 })).room s m ([.ref o, .int (J x)]).toArray below meth c H locs 0 0 (MQ below (QcM g base (fun r h' => r = some (.int (J (iS (I 5) (A 6) x 3))) ∧ h' = h0)) ([.ref o, .int (J x)]).toArray s (0) (0) (Ab base)) (F0 m 7 ls []) := by
    intro n9
    induction n9 with
    | zero =>
      intro y b i h H locs ls hmu hi9 ey eb eh hM hW hS hl
      exact absurd hmu (by omega)
    | succ n9 ih =>
      intro y b i h H locs ls hmu hi9 ey eb eh hM hW hS hl
      have hyr := dq_r (b := 13) (by omega) hx9.1 i.toNat
      rw [← ey] at hyr
      have hbr := iS_r (I 5) (A 6) x i.toNat
      rw [← eb] at hbr
      have hdg : Dg 13 x i = y % 13 := by unfold Dg; rw [← ey]
      have ih_7 := ih
      refine lv_iload hx hb dX6_isState_7 (lv_at hl 4 rfl) ?_
      refine lv_iconst (v := J (3)) hx hb dX6_isState_9 rfl ?_
      refine j_icmp_ge (x := i) (y := 3) (tgt := 61) hx hb ⟨by omega, by omega⟩ ⟨by decide, by decide⟩ dX6_isState_10 (by decide) (fun c_10 => ?_) (fun c_10 => ?_)
      · refine lv_iload_n hx hb dX6_isState_61 rfl (lv_at hl 3 rfl) ?_
        exact g_zret hx hb hr (by omega) hW hS dX6_isState_62 hlocks (⟨congrArg (fun q : Int => some (Value.int (J q))) (show b = iS (I 5) (A 6) x 3 from by rw [eb, show i = 3 by omega]; rfl), eh⟩)
      · refine lv_iload_n hx hb dX6_isState_13 rfl (lv_at hl 3 rfl) ?_
        refine j_if_eq (x := b) (tgt := 48) hx hb ⟨by omega, by omega⟩ dX6_isState_14 (by decide) (fun c_14 => ?_) (fun c_14 => ?_)
        · refine lv_iconst (v := J (0)) hx hb dX6_isState_48 rfl ?_
          refine lv_istore_n (lv' := [(3, .int (J 0)), (0, .ref o), (1, .int (J x)), (2, .int (J y)), (4, .int (J i))]) hx hb dX6_isState_49 rfl hl (by decide) rfl (fun ls hl => ?_)
          refine lv_iload_n hx hb dX6_isState_50 rfl (lv_at hl 3 rfl) ?_
          refine lv_bipush (v := J (13)) hx hb dX6_isState_51 (by decide) ?_
          refine j_idiv hx hb (by omega) (by omega) (by omega) (by omega) dX6_isState_53 ?_
          refine lv_istore_n (lv' := [(2, .int (J (y / 13))), (3, .int (J 0)), (0, .ref o), (1, .int (J x)), (4, .int (J i))]) hx hb dX6_isState_54 rfl hl (by decide) rfl (fun ls hl => ?_)
          refine lv_iinc (v := J (i + 1)) (lv' := [(4, .int (J (i + 1))), (2, .int (J (y / 13))), (3, .int (J 0)), (0, .ref o), (1, .int (J x))]) hx hb dX6_isState_55 hl (k := 4) rfl (J_inc (by omega)) (by decide) rfl (fun ls hl => ?_)
          refine lv_goto (tgt := 7) hx hb dX6_isState_58 (by decide) ?_
          exact ih_7 (y / 13) 0 (i + 1) h H locs ls (by omega) (by omega) (by rw [dq_s _ _ hi9.1, ← ey]) (by rw [iS_s _ _ _ hi9.1, ← eb, hdg]; by_cases q : i < I 5 <;> simp only [q, if_true, if_false] <;> first | (exfalso; omega) | (rw [if_pos (by omega)]) | (rw [if_neg (by omega)])) eh hM hW hS (lv_sub hl [3, 4, 1, 2, 0] rfl)
        · refine lv_iload_n hx hb dX6_isState_17 rfl (lv_at hl 2 rfl) ?_
          refine lv_bipush (v := J (13)) hx hb dX6_isState_18 (by decide) ?_
          refine j_irem hx hb (by omega) (by omega) (by omega) (by omega) dX6_isState_20 ?_
          refine lv_iload hx hb dX6_isState_21 (lv_at hl 4 rfl) ?_
          refine lv_aload_n hx hb dX6_isState_23 rfl (lv_at hl 0 rfl) ?_
          refine g_get (ci := 6) (C := RX6) (T := TX6) (N := 28) (v := .int (J (I 5))) hx hb hfX6 (fun _ h9 => h9) hown hk hW hM.1 rfl 5 (by decide) (hts (.fieldLink RX6 155 "JugsAndGlassesModel" "glasses" "I") (by decide +kernel)) rfl rfl dX6_isState_24 ?_
          refine j_icmp_ge (x := i) (y := I 5) (tgt := 40) hx hb ⟨by omega, by omega⟩ ⟨by omega, by omega⟩ dX6_isState_27 (by decide) (fun c_27 => ?_) (fun c_27 => ?_)
          · refine lv_iconst (v := J (0)) hx hb dX6_isState_40 rfl ?_
            refine j_icmp_gt (x := y % 13) (y := 0) (tgt := 48) hx hb ⟨by omega, by omega⟩ ⟨by decide, by decide⟩ dX6_isState_41 (by decide) (fun c_41 => ?_) (fun c_41 => ?_)
            · refine lv_iconst (v := J (0)) hx hb dX6_isState_48 rfl ?_
              refine lv_istore_n (lv' := [(3, .int (J 0)), (0, .ref o), (1, .int (J x)), (2, .int (J y)), (4, .int (J i))]) hx hb dX6_isState_49 rfl hl (by decide) rfl (fun ls hl => ?_)
              refine lv_iload_n hx hb dX6_isState_50 rfl (lv_at hl 3 rfl) ?_
              refine lv_bipush (v := J (13)) hx hb dX6_isState_51 (by decide) ?_
              refine j_idiv hx hb (by omega) (by omega) (by omega) (by omega) dX6_isState_53 ?_
              refine lv_istore_n (lv' := [(2, .int (J (y / 13))), (3, .int (J 0)), (0, .ref o), (1, .int (J x)), (4, .int (J i))]) hx hb dX6_isState_54 rfl hl (by decide) rfl (fun ls hl => ?_)
              refine lv_iinc (v := J (i + 1)) (lv' := [(4, .int (J (i + 1))), (2, .int (J (y / 13))), (3, .int (J 0)), (0, .ref o), (1, .int (J x))]) hx hb dX6_isState_55 hl (k := 4) rfl (J_inc (by omega)) (by decide) rfl (fun ls hl => ?_)
              refine lv_goto (tgt := 7) hx hb dX6_isState_58 (by decide) ?_
              exact ih_7 (y / 13) 0 (i + 1) h H locs ls (by omega) (by omega) (by rw [dq_s _ _ hi9.1, ← ey]) (by rw [iS_s _ _ _ hi9.1, ← eb, hdg]; by_cases q : i < I 5 <;> simp only [q, if_true, if_false] <;> first | (exfalso; omega) | (rw [if_pos (by omega)]) | (rw [if_neg (by omega)])) eh hM hW hS (lv_sub hl [3, 4, 1, 2, 0] rfl)
            · refine lv_iconst (v := J (1)) hx hb dX6_isState_44 rfl ?_
              refine lv_goto (tgt := 49) hx hb dX6_isState_45 (by decide) ?_
              refine lv_istore_n (lv' := [(3, .int (J 1)), (0, .ref o), (1, .int (J x)), (2, .int (J y)), (4, .int (J i))]) hx hb dX6_isState_49 rfl hl (by decide) rfl (fun ls hl => ?_)
              refine lv_iload_n hx hb dX6_isState_50 rfl (lv_at hl 3 rfl) ?_
              refine lv_bipush (v := J (13)) hx hb dX6_isState_51 (by decide) ?_
              refine j_idiv hx hb (by omega) (by omega) (by omega) (by omega) dX6_isState_53 ?_
              refine lv_istore_n (lv' := [(2, .int (J (y / 13))), (3, .int (J 1)), (0, .ref o), (1, .int (J x)), (4, .int (J i))]) hx hb dX6_isState_54 rfl hl (by decide) rfl (fun ls hl => ?_)
              refine lv_iinc (v := J (i + 1)) (lv' := [(4, .int (J (i + 1))), (2, .int (J (y / 13))), (3, .int (J 1)), (0, .ref o), (1, .int (J x))]) hx hb dX6_isState_55 hl (k := 4) rfl (J_inc (by omega)) (by decide) rfl (fun ls hl => ?_)
              refine lv_goto (tgt := 7) hx hb dX6_isState_58 (by decide) ?_
              exact ih_7 (y / 13) 1 (i + 1) h H locs ls (by omega) (by omega) (by rw [dq_s _ _ hi9.1, ← ey]) (by rw [iS_s _ _ _ hi9.1, ← eb, hdg]; by_cases q : i < I 5 <;> simp only [q, if_true, if_false] <;> first | (exfalso; omega) | (rw [if_pos (by omega)]) | (rw [if_neg (by omega)])) eh hM hW hS (lv_sub hl [3, 4, 1, 2, 0] rfl)
          · have hsp := hsk.2.2 i hi9.1 (by omega)
            refine lv_aload_n hx hb dX6_isState_30 rfl (lv_at hl 0 rfl) ?_
            have hsp := hsk.2.2 i hi9.1 (by omega)
            refine g_get (ci := 6) (C := RX6) (T := TX6) (N := 28) (v := .ref (R 6)) hx hb hfX6 (fun _ h9 => h9) hown hk hW hM.1 rfl 6 (by decide) (hts (.fieldLink RX6 23 "JugsAndGlassesModel" "span" "[I") (by decide +kernel)) rfl rfl dX6_isState_31 ?_
            refine lv_iload hx hb dX6_isState_34 (lv_at hl 4 rfl) ?_
            refine g_iald (n := 3) (f := A 6) (i := i) hx hb hk hW (hM.ai 6 (by decide) rfl) (by omega) (by omega) (by omega) dX6_isState_36 ?_
            refine lv_goto (tgt := 41) hx hb dX6_isState_37 (by decide) ?_
            refine j_icmp_gt (x := y % 13) (y := A 6 i) (tgt := 48) hx hb ⟨by omega, by omega⟩ ⟨by omega, by omega⟩ dX6_isState_41 (by decide) (fun c_41 => ?_) (fun c_41 => ?_)
            · refine lv_iconst (v := J (0)) hx hb dX6_isState_48 rfl ?_
              refine lv_istore_n (lv' := [(3, .int (J 0)), (0, .ref o), (1, .int (J x)), (2, .int (J y)), (4, .int (J i))]) hx hb dX6_isState_49 rfl hl (by decide) rfl (fun ls hl => ?_)
              refine lv_iload_n hx hb dX6_isState_50 rfl (lv_at hl 3 rfl) ?_
              refine lv_bipush (v := J (13)) hx hb dX6_isState_51 (by decide) ?_
              refine j_idiv hx hb (by omega) (by omega) (by omega) (by omega) dX6_isState_53 ?_
              refine lv_istore_n (lv' := [(2, .int (J (y / 13))), (3, .int (J 0)), (0, .ref o), (1, .int (J x)), (4, .int (J i))]) hx hb dX6_isState_54 rfl hl (by decide) rfl (fun ls hl => ?_)
              refine lv_iinc (v := J (i + 1)) (lv' := [(4, .int (J (i + 1))), (2, .int (J (y / 13))), (3, .int (J 0)), (0, .ref o), (1, .int (J x))]) hx hb dX6_isState_55 hl (k := 4) rfl (J_inc (by omega)) (by decide) rfl (fun ls hl => ?_)
              refine lv_goto (tgt := 7) hx hb dX6_isState_58 (by decide) ?_
              exact ih_7 (y / 13) 0 (i + 1) h H locs ls (by omega) (by omega) (by rw [dq_s _ _ hi9.1, ← ey]) (by rw [iS_s _ _ _ hi9.1, ← eb, hdg]; by_cases q : i < I 5 <;> simp only [q, if_true, if_false] <;> first | (exfalso; omega) | (rw [if_pos (by omega)]) | (rw [if_neg (by omega)])) eh hM hW hS (lv_sub hl [3, 4, 1, 2, 0] rfl)
            · refine lv_iconst (v := J (1)) hx hb dX6_isState_44 rfl ?_
              refine lv_goto (tgt := 49) hx hb dX6_isState_45 (by decide) ?_
              refine lv_istore_n (lv' := [(3, .int (J 1)), (0, .ref o), (1, .int (J x)), (2, .int (J y)), (4, .int (J i))]) hx hb dX6_isState_49 rfl hl (by decide) rfl (fun ls hl => ?_)
              refine lv_iload_n hx hb dX6_isState_50 rfl (lv_at hl 3 rfl) ?_
              refine lv_bipush (v := J (13)) hx hb dX6_isState_51 (by decide) ?_
              refine j_idiv hx hb (by omega) (by omega) (by omega) (by omega) dX6_isState_53 ?_
              refine lv_istore_n (lv' := [(2, .int (J (y / 13))), (3, .int (J 1)), (0, .ref o), (1, .int (J x)), (4, .int (J i))]) hx hb dX6_isState_54 rfl hl (by decide) rfl (fun ls hl => ?_)
              refine lv_iinc (v := J (i + 1)) (lv' := [(4, .int (J (i + 1))), (2, .int (J (y / 13))), (3, .int (J 1)), (0, .ref o), (1, .int (J x))]) hx hb dX6_isState_55 hl (k := 4) rfl (J_inc (by omega)) (by decide) rfl (fun ls hl => ?_)
              refine lv_goto (tgt := 7) hx hb dX6_isState_58 (by decide) ?_
              exact ih_7 (y / 13) 1 (i + 1) h H locs ls (by omega) (by omega) (by rw [dq_s _ _ hi9.1, ← ey]) (by rw [iS_s _ _ _ hi9.1, ← eb, hdg]; by_cases q : i < I 5 <;> simp only [q, if_true, if_false] <;> first | (exfalso; omega) | (rw [if_pos (by omega)]) | (rw [if_neg (by omega)])) eh hM hW hS (lv_sub hl [3, 4, 1, 2, 0] rfl)
  exact loop_7 4 x 1 0 h0 s.heap [] ls (by omega) (by omega) rfl rfl rfl hM hW hS (lv_sub hl [3, 4, 2, 1, 0] rfl)

set_option maxHeartbeats 4000000 in
set_option maxRecDepth 100000 in
theorem m_after (l : Launch) (g : GX) (base : Nat) (sa : Nat → Nat) (h0 : Hp) (o : Nat) (R : Nat → Nat) (I : Nat → Int) (A : Nat → Int → Int) (x ch : Int) (hM : OB g 6 28 kd6 h0 o R I mL A) (hsk : Sok (I 5) (A 6)) (hx9 : 0 ≤ x ∧ x < 2197) (hc9 : 0 ≤ ch ∧ ch < 8) : MC l g base sa yX6_after wsX6_after ({ frames := 0, cells := 0, slots := 0, locals := 0 }) ([.ref o, .int (J x), .int (J ch)]) h0 (fun r h' => ∃ I', r = some (.int (J (if mf (I 5) (A 6) x ch = 1000000000 then -1 else mz (I 5) (A 6) x ch))) ∧ Fr (FP 28 kd6 o R) h0 h' ∧ OB g 6 28 kd6 h' o R I' mL A ∧ (∀ k, k ≠ 21 → k ≠ 22 → I' k = I k) ∧ (mf (I 5) (A 6) x ch ≠ 1000000000 → I' 21 = mf (I 5) (A 6) x ch)) := by
  refine Met.ofW (cc := cX6_after) (maxL := 9) (ret := (some .int)) (by decide) rfl ?_
  intro p e s m args below meth c s₁ B hml hv
  obtain ⟨rfl, hk, hW⟩ := hv
  have hx := B.exec
  have hb := B.bytes
  have hr := B.returns
  have hts := atoms_spec (ws := wsX6_after) B.pre
  have hown : s.vm.findClass RX6 = some m.cls := findClass_of_methodNamed B.named
  have hlocks := B.notSynchronized
  have hfX6 : ∀ w ∈ wsX60, w.before ([.ref o, .int (J x), .int (J ch)]).toArray s = true := fun w h => hts w (List.mem_cons_of_mem _ (List.mem_append_right _ h))
  have hS : va_S (Ab base) s.heap s.heap [] := va_S.rf
  have hl := lv_entry ([.ref o, .int (J x), .int (J ch)]) (n := 9) (Nat.le_of_ble_eq_true rfl)
  rw [lg_entry_eq]
  generalize (lg_sl ([.ref o, .int (J x), .int (J ch)]) ++ List.replicate (9 - (lg_sl ([.ref o, .int (J x), .int (J ch)])).length) Slot.unset).toArray = ls at hl ⊢
  have hl : lv_has ls 9 [(0, .ref o), (1, .int (J x)), (2, .int (J ch))] := hl
  have hF : Fr (FP 28 kd6 o R) h0 h0 := Fr.rf
  have hn1 := hsk.1
  have hn2 := hsk.2.1
  refine lv_iload_n hx hb dX6_after_0 rfl (lv_at hl 1 rfl) ?_
  refine lv_istore_n (lv' := [(3, .int (J x)), (0, .ref o), (1, .int (J x)), (2, .int (J ch))]) hx hb dX6_after_1 rfl hl (by decide) rfl (fun ls hl => ?_)
  refine j_ldc (z := 1000000000) hx hb (by decide) hown (hts (.constant RX6 111 (1000000000)) (by decide +kernel)) dX6_after_2 ?_
  refine lv_istore (lv' := [(4, .int (J 1000000000)), (3, .int (J x)), (0, .ref o), (1, .int (J x)), (2, .int (J ch))]) hx hb dX6_after_4 hl (by decide) rfl (fun ls hl => ?_)
  refine lv_aload_n hx hb dX6_after_6 rfl (lv_at hl 2 rfl) ?_
  refine lv_iconst (v := J (0)) hx hb dX6_after_7 rfl ?_
  refine o_put (I' := (va_up I 22 (0))) (ci := 6) (C := RX6) (T := TX6) (N := 28) (ty := .int) hx hb hfX6 (fun _ h9 => h9) tyX6 tyX6_ok nmX6 hown hk hW hS hM hF FP.o rfl 22 (by decide) rfl (hts (.fieldLink RX6 158 "JugsAndGlassesModel" "turned" "I") (by decide +kernel)) rfl rfl (by decide +kernel) rfl rfl rfl dX6_after_8 (fun h H locs hM hF hst hW hS => ?_)
  refine lv_iconst (v := J (0)) hx hb dX6_after_11 rfl ?_
  refine lv_istore (lv' := [(5, .int (J 0)), (4, .int (J 1000000000)), (3, .int (J x)), (0, .ref o), (1, .int (J x)), (2, .int (J ch))]) hx hb dX6_after_12 hl (by decide) rfl (fun ls hl => ?_)
  have loop_14 : ∀ (n9 : Nat) (y : Int) (f : Int) (i : Int) (tz : Int) (h : Hp) (H : Heap) (locs : List Loc) (ls : Array Slot), 3 - i < (n9 : Int) → (0 ≤ i ∧ i ≤ 3) → (y = dq 13 x i.toNat) → (f = ff (tv (A 6) (Dg 13 x) ch) 1000000000 (min i (I 5)).toNat) → (f = 1000000000 ∨ (1 ≤ f ∧ f ≤ 12)) → (OB g 6 28 kd6 h o R (va_up I 22 (tz)) mL A) → (Fr (FP 28 kd6 o R) h0 h) → (Wd g base h H) → (va_S (Ab base) s.heap H locs) → (lv_has ls 9 [(0, .ref o), (1, .int (J x)), (2, .int (J ch)), (3, .int (J y)), (4, .int (J f)), (5, .int (J i))]) → W p l e (headSpec wsX6_after ({ frames := 0, cells := 0, slots := 0, locals := 0 })).room s m ([.ref o, .int (J x), .int (J ch)]).toArray below meth c H locs 0 0 (MQ below (QcM g base (fun r h' => ∃ I', r = some (.int (J (if mf (I 5) (A 6) x ch = 1000000000 then -1 else mz (I 5) (A 6) x ch))) ∧ Fr (FP 28 kd6 o R) h0 h' ∧ OB g 6 28 kd6 h' o R I' mL A ∧ (∀ k, k ≠ 21 → k ≠ 22 → I' k = I k) ∧ (mf (I 5) (A 6) x ch ≠ 1000000000 → I' 21 = mf (I 5) (A 6) x ch))) ([.ref o, .int (J x), .int (J ch)]).toArray s (0) (0) (Ab base)) (F0 m 14 ls []) := by
    intro n9
    induction n9 with
    | zero =>
      intro y f i tz h H locs ls hmu hi9 ey ef hfr hM hF hW hS hl
      exact absurd hmu (by omega)
    | succ n9 ih =>
      intro y f i tz h H locs ls hmu hi9 ey ef hfr hM hF hW hS hl
      have hyr := dq_r (b := 13) (by omega) hx9.1 i.toNat
      rw [← ey] at hyr
      have hpn : 0 ≤ ch / 2 ^ i.toNat ∧ ch / 2 ^ i.toNat ≤ ch := ⟨Int.ediv_nonneg hc9.1 (Int.le_of_lt (Int.pow_pos (by decide))), Int.ediv_le_self _ hc9.1⟩
      have ih_14 := ih
      refine lv_iload hx hb dX6_after_14 (lv_at hl 5 rfl) ?_
      refine lv_iconst (v := J (3)) hx hb dX6_after_16 rfl ?_
      refine j_icmp_ge (x := i) (y := 3) (tgt := 125) hx hb ⟨by omega, by omega⟩ ⟨by decide, by decide⟩ dX6_after_17 (by decide) (fun c_17 => ?_) (fun c_17 => ?_)
      · have emf : f = mf (I 5) (A 6) x ch := by unfold mf; rw [ef, show min i (I 5) = I 5 by omega]
        refine lv_iload hx hb dX6_after_125 (lv_at hl 4 rfl) ?_
        refine j_ldc (z := 1000000000) hx hb (by decide) hown (hts (.constant RX6 111 (1000000000)) (by decide +kernel)) dX6_after_127 ?_
        refine j_icmp_ne (x := f) (y := 1000000000) (tgt := 134) hx hb ⟨by omega, by omega⟩ ⟨by decide, by decide⟩ dX6_after_129 (by decide) (fun c_129 => ?_) (fun c_129 => ?_)
        · refine lv_aload_n hx hb dX6_after_134 rfl (lv_at hl 0 rfl) ?_
          refine lv_iload hx hb dX6_after_135 (lv_at hl 4 rfl) ?_
          refine o_put (I' := (va_up (va_up I 22 (tz)) 21 (f))) (ci := 6) (C := RX6) (T := TX6) (N := 28) (ty := .int) hx hb hfX6 (fun _ h9 => h9) tyX6 tyX6_ok nmX6 hown hk hW hS hM hF FP.o rfl 21 (by decide) rfl (hts (.fieldLink RX6 161 "JugsAndGlassesModel" "gone" "I") (by decide +kernel)) rfl rfl (by decide +kernel) rfl rfl rfl dX6_after_137 (fun h H locs hM hF hst hW hS => ?_)
          refine lv_iload_n hx hb dX6_after_140 rfl (lv_at hl 1 rfl) ?_
          refine lv_istore_n (lv' := [(3, .int (J x)), (0, .ref o), (1, .int (J x)), (2, .int (J ch)), (4, .int (J f)), (5, .int (J i))]) hx hb dX6_after_141 rfl hl (by decide) rfl (fun ls hl => ?_)
          refine lv_iconst (v := J (0)) hx hb dX6_after_142 rfl ?_
          refine lv_istore (lv' := [(5, .int (J 0)), (3, .int (J x)), (0, .ref o), (1, .int (J x)), (2, .int (J ch)), (4, .int (J f))]) hx hb dX6_after_143 hl (by decide) rfl (fun ls hl => ?_)
          refine lv_iconst (v := J (1)) hx hb dX6_after_145 rfl ?_
          refine lv_istore (lv' := [(6, .int (J 1)), (5, .int (J 0)), (3, .int (J x)), (0, .ref o), (1, .int (J x)), (2, .int (J ch)), (4, .int (J f))]) hx hb dX6_after_146 hl (by decide) rfl (fun ls hl => ?_)
          refine lv_iconst (v := J (0)) hx hb dX6_after_148 rfl ?_
          refine lv_istore (lv' := [(7, .int (J 0)), (6, .int (J 1)), (5, .int (J 0)), (3, .int (J x)), (0, .ref o), (1, .int (J x)), (2, .int (J ch)), (4, .int (J f))]) hx hb dX6_after_149 hl (by decide) rfl (fun ls hl => ?_)
          have loop_151 : ∀ (n9 : Nat) (y : Int) (to : Int) (pl : Int) (i : Int) (h : Hp) (H : Heap) (locs : List Loc) (ls : Array Slot), I 5 - i < (n9 : Int) → (0 ≤ i ∧ i ≤ I 5) → (y = dq 13 x i.toNat) → (to = ec 13 (fun k => max 0 (tv (A 6) (Dg 13 x) ch k - mf (I 5) (A 6) x ch)) i.toNat) → (pl = 13 ^ i.toNat) → (OB g 6 28 kd6 h o R (va_up (va_up I 22 (tz)) 21 (f)) mL A) → (Fr (FP 28 kd6 o R) h0 h) → (Wd g base h H) → (va_S (Ab base) s.heap H locs) → (lv_has ls 9 [(0, .ref o), (1, .int (J x)), (2, .int (J ch)), (3, .int (J y)), (4, .int (J f)), (5, .int (J to)), (6, .int (J pl)), (7, .int (J i))]) → W p l e (headSpec wsX6_after ({ frames := 0, cells := 0, slots := 0, locals := 0 })).room s m ([.ref o, .int (J x), .int (J ch)]).toArray below meth c H locs 0 0 (MQ below (QcM g base (fun r h' => ∃ I', r = some (.int (J (if mf (I 5) (A 6) x ch = 1000000000 then -1 else mz (I 5) (A 6) x ch))) ∧ Fr (FP 28 kd6 o R) h0 h' ∧ OB g 6 28 kd6 h' o R I' mL A ∧ (∀ k, k ≠ 21 → k ≠ 22 → I' k = I k) ∧ (mf (I 5) (A 6) x ch ≠ 1000000000 → I' 21 = mf (I 5) (A 6) x ch))) ([.ref o, .int (J x), .int (J ch)]).toArray s (0) (0) (Ab base)) (F0 m 151 ls []) := by
            intro n9
            induction n9 with
            | zero =>
              intro y to pl i h H locs ls hmu hi9 ey eto epl hM hF hW hS hl
              exact absurd hmu (by omega)
            | succ n9 ih =>
              intro y to pl i h H locs ls hmu hi9 ey eto epl hM hF hW hS hl
              have hyr := dq_r (b := 13) (by omega) hx9.1 i.toNat
              rw [← ey] at hyr
              have hpn : 0 ≤ ch / 2 ^ i.toNat ∧ ch / 2 ^ i.toNat ≤ ch := ⟨Int.ediv_nonneg hc9.1 (Int.le_of_lt (Int.pow_pos (by decide))), Int.ediv_le_self _ hc9.1⟩
              have ih_151 := ih
              refine lv_iload hx hb dX6_after_151 (lv_at hl 7 rfl) ?_
              refine lv_aload_n hx hb dX6_after_153 rfl (lv_at hl 0 rfl) ?_
              refine g_get (ci := 6) (C := RX6) (T := TX6) (N := 28) (v := .int (J (I 5))) hx hb hfX6 (fun _ h9 => h9) hown hk hW hM.1 rfl 5 (by decide) (hts (.fieldLink RX6 155 "JugsAndGlassesModel" "glasses" "I") (by decide +kernel)) rfl rfl dX6_after_154 ?_
              refine j_icmp_ge (x := i) (y := I 5) (tgt := 235) hx hb ⟨by omega, by omega⟩ ⟨by omega, by omega⟩ dX6_after_157 (by decide) (fun c_157 => ?_) (fun c_157 => ?_)
              · refine lv_iload hx hb dX6_after_235 (lv_at hl 5 rfl) ?_
                exact g_iret hx hb hr hW hS dX6_after_237 hlocks (⟨_, congrArg (fun q : Int => some (Value.int (J q))) (show to = (if mf (I 5) (A 6) x ch = 1000000000 then -1 else mz (I 5) (A 6) x ch) from by rw [if_neg (by omega), eto, show i = I 5 by omega]; rfl), hF, hM, fun k w1 w2 => by simp [va_up, w1, w2], fun _ => by rw [← emf]; rfl⟩)
              · refine lv_iload_n hx hb dX6_after_160 rfl (lv_at hl 3 rfl) ?_
                refine lv_bipush (v := J (13)) hx hb dX6_after_161 (by decide) ?_
                refine j_irem hx hb (by omega) (by omega) (by omega) (by omega) dX6_after_163 ?_
                refine lv_istore (lv' := [(8, .int (J (y % 13))), (0, .ref o), (1, .int (J x)), (2, .int (J ch)), (3, .int (J y)), (4, .int (J f)), (5, .int (J to)), (6, .int (J pl)), (7, .int (J i))]) hx hb dX6_after_164 hl (by decide) rfl (fun ls hl => ?_)
                refine lv_iload_n hx hb dX6_after_166 rfl (lv_at hl 4 rfl) ?_
                refine lv_bipush (v := J (13)) hx hb dX6_after_167 (by decide) ?_
                refine j_idiv hx hb (by omega) (by omega) (by omega) (by omega) dX6_after_169 ?_
                refine lv_istore_n (lv' := [(3, .int (J (y / 13))), (8, .int (J (y % 13))), (0, .ref o), (1, .int (J x)), (2, .int (J ch)), (4, .int (J f)), (5, .int (J to)), (6, .int (J pl)), (7, .int (J i))]) hx hb dX6_after_170 rfl hl (by decide) rfl (fun ls hl => ?_)
                refine lv_iload_n hx hb dX6_after_171 rfl (lv_at hl 4 rfl) ?_
                refine lv_iload hx hb dX6_after_172 (lv_at hl 8 rfl) ?_
                refine j_ishr (x := ch) (y := i) hx hb (by omega) (by omega) (by omega) (by omega) dX6_after_174 ?_
                refine lv_iconst (v := J (1)) hx hb dX6_after_175 rfl ?_
                refine j_and1 (x := ch / 2 ^ (i).toNat) hx hb (hpn.1) dX6_after_176 ?_
                refine lv_iconst (v := J (1)) hx hb dX6_after_177 rfl ?_
                refine j_icmp_ne (x := (ch / 2 ^ (i).toNat) % 2) (y := 1) (tgt := 194) hx hb ⟨by omega, by omega⟩ ⟨by decide, by decide⟩ dX6_after_178 (by decide) (fun c_178 => ?_) (fun c_178 => ?_)
                · refine lv_iload hx hb dX6_after_194 (lv_at hl 1 rfl) ?_
                  refine lv_istore (lv' := [(8, .int (J (y % 13))), (3, .int (J (y / 13))), (0, .ref o), (1, .int (J x)), (2, .int (J ch)), (4, .int (J f)), (5, .int (J to)), (6, .int (J pl)), (7, .int (J i))]) hx hb dX6_after_196 hl (by decide) rfl (fun ls hl => ?_)
                  obtain ⟨v, ev⟩ : ∃ v, v = tv (A 6) (Dg 13 x) ch i := ⟨_, rfl⟩
                  have e8 : y % 13 = v := by
                    rw [ev]
                    unfold tv Dg
                    rw [if_neg c_178, ← ey]
                  have hvr := tv13 hsk x ch (k := i) (by omega) (by omega)
                  rw [← ev] at hvr
                  rw [e8] at hl
                  refine lv_iload hx hb dX6_after_198 (lv_at hl 6 rfl) ?_
                  refine lv_iload hx hb dX6_after_200 (lv_at hl 7 rfl) ?_
                  refine lv_iload hx hb dX6_after_202 (lv_at hl 0 rfl) ?_
                  refine lv_iload hx hb dX6_after_204 (lv_at hl 5 rfl) ?_
                  refine j_icmp_le (x := v) (y := f) (tgt := 217) hx hb ⟨by omega, by omega⟩ ⟨by omega, by omega⟩ dX6_after_206 (by decide) (fun c_206 => ?_) (fun c_206 => ?_)
                  · refine lv_iconst (v := J (0)) hx hb dX6_after_217 rfl ?_
                    refine j_imul hx hb dX6_after_218 ?_
                    refine j_iadd hx hb dX6_after_219 ?_
                    refine lv_istore (lv' := [(5, .int (J (to + (pl * 0)))), (8, .int (J v)), (3, .int (J (y / 13))), (0, .ref o), (1, .int (J x)), (2, .int (J ch)), (4, .int (J f)), (6, .int (J pl)), (7, .int (J i))]) hx hb dX6_after_220 hl (by decide) rfl (fun ls hl => ?_)
                    refine lv_iload hx hb dX6_after_222 (lv_at hl 7 rfl) ?_
                    refine lv_bipush (v := J (13)) hx hb dX6_after_224 (by decide) ?_
                    refine j_imul hx hb dX6_after_226 ?_
                    refine lv_istore (lv' := [(6, .int (J (pl * 13))), (5, .int (J (to + (pl * 0)))), (8, .int (J v)), (3, .int (J (y / 13))), (0, .ref o), (1, .int (J x)), (2, .int (J ch)), (4, .int (J f)), (7, .int (J i))]) hx hb dX6_after_227 hl (by decide) rfl (fun ls hl => ?_)
                    refine lv_iinc (v := J (i + 1)) (lv' := [(7, .int (J (i + 1))), (6, .int (J (pl * 13))), (5, .int (J (to + (pl * 0)))), (8, .int (J v)), (3, .int (J (y / 13))), (0, .ref o), (1, .int (J x)), (2, .int (J ch)), (4, .int (J f))]) hx hb dX6_after_229 hl (k := 8) rfl (J_inc (by omega)) (by decide) rfl (fun ls hl => ?_)
                    refine lv_goto (tgt := 151) hx hb dX6_after_232 (by decide) ?_
                    exact ih_151 (y / 13) (to + (pl * 0)) (pl * 13) (i + 1) h H locs ls (by omega) (by omega) (by rw [dq_s _ _ hi9.1, ← ey]) (by rw [ec_s _ _ hi9.1, ← eto, ← epl, ← emf, ← ev, Int.mul_comm pl]; congr 2; omega) (by rw [show (i + 1).toNat = i.toNat + 1 by omega, Int.pow_succ, epl]) hM hF hW hS (lv_sub hl [5, 6, 7, 4, 8, 2, 1, 0] rfl)
                  · refine lv_iload hx hb dX6_after_209 (lv_at hl 0 rfl) ?_
                    refine lv_iload hx hb dX6_after_211 (lv_at hl 5 rfl) ?_
                    refine j_isub hx hb dX6_after_213 ?_
                    refine lv_goto (tgt := 218) hx hb dX6_after_214 (by decide) ?_
                    refine j_imul hx hb dX6_after_218 ?_
                    refine j_iadd hx hb dX6_after_219 ?_
                    refine lv_istore (lv' := [(5, .int (J (to + (pl * (v - f))))), (8, .int (J v)), (3, .int (J (y / 13))), (0, .ref o), (1, .int (J x)), (2, .int (J ch)), (4, .int (J f)), (6, .int (J pl)), (7, .int (J i))]) hx hb dX6_after_220 hl (by decide) rfl (fun ls hl => ?_)
                    refine lv_iload hx hb dX6_after_222 (lv_at hl 7 rfl) ?_
                    refine lv_bipush (v := J (13)) hx hb dX6_after_224 (by decide) ?_
                    refine j_imul hx hb dX6_after_226 ?_
                    refine lv_istore (lv' := [(6, .int (J (pl * 13))), (5, .int (J (to + (pl * (v - f))))), (8, .int (J v)), (3, .int (J (y / 13))), (0, .ref o), (1, .int (J x)), (2, .int (J ch)), (4, .int (J f)), (7, .int (J i))]) hx hb dX6_after_227 hl (by decide) rfl (fun ls hl => ?_)
                    refine lv_iinc (v := J (i + 1)) (lv' := [(7, .int (J (i + 1))), (6, .int (J (pl * 13))), (5, .int (J (to + (pl * (v - f))))), (8, .int (J v)), (3, .int (J (y / 13))), (0, .ref o), (1, .int (J x)), (2, .int (J ch)), (4, .int (J f))]) hx hb dX6_after_229 hl (k := 8) rfl (J_inc (by omega)) (by decide) rfl (fun ls hl => ?_)
                    refine lv_goto (tgt := 151) hx hb dX6_after_232 (by decide) ?_
                    exact ih_151 (y / 13) (to + (pl * (v - f))) (pl * 13) (i + 1) h H locs ls (by omega) (by omega) (by rw [dq_s _ _ hi9.1, ← ey]) (by rw [ec_s _ _ hi9.1, ← eto, ← epl, ← emf, ← ev, Int.mul_comm pl]; congr 2; omega) (by rw [show (i + 1).toNat = i.toNat + 1 by omega, Int.pow_succ, epl]) hM hF hW hS (lv_sub hl [5, 6, 7, 4, 8, 2, 1, 0] rfl)
                · refine lv_aload_n hx hb dX6_after_181 rfl (lv_at hl 2 rfl) ?_
                  refine g_get (ci := 6) (C := RX6) (T := TX6) (N := 28) (v := .ref (R 6)) hx hb hfX6 (fun _ h9 => h9) hown hk hW hM.1 rfl 6 (by decide) (hts (.fieldLink RX6 23 "JugsAndGlassesModel" "span" "[I") (by decide +kernel)) rfl rfl dX6_after_182 ?_
                  refine lv_iload hx hb dX6_after_185 (lv_at hl 8 rfl) ?_
                  refine g_iald (n := 3) (f := A 6) (i := i) hx hb hk hW (hM.ai 6 (by decide) rfl) (by omega) (by omega) (by omega) dX6_after_187 ?_
                  refine lv_iload hx hb dX6_after_188 (lv_at hl 1 rfl) ?_
                  refine j_isub hx hb dX6_after_190 ?_
                  refine lv_goto (tgt := 196) hx hb dX6_after_191 (by decide) ?_
                  refine lv_istore (lv' := [(8, .int (J ((A 6 i) - (y % 13)))), (3, .int (J (y / 13))), (0, .ref o), (1, .int (J x)), (2, .int (J ch)), (4, .int (J f)), (5, .int (J to)), (6, .int (J pl)), (7, .int (J i))]) hx hb dX6_after_196 hl (by decide) rfl (fun ls hl => ?_)
                  obtain ⟨v, ev⟩ : ∃ v, v = tv (A 6) (Dg 13 x) ch i := ⟨_, rfl⟩
                  have e8 : (A 6 i) - (y % 13) = v := by
                    rw [ev]
                    unfold tv Dg
                    rw [if_pos c_178, ← ey]
                  have hvr := tv13 hsk x ch (k := i) (by omega) (by omega)
                  rw [← ev] at hvr
                  rw [e8] at hl
                  refine lv_iload hx hb dX6_after_198 (lv_at hl 6 rfl) ?_
                  refine lv_iload hx hb dX6_after_200 (lv_at hl 7 rfl) ?_
                  refine lv_iload hx hb dX6_after_202 (lv_at hl 0 rfl) ?_
                  refine lv_iload hx hb dX6_after_204 (lv_at hl 5 rfl) ?_
                  refine j_icmp_le (x := v) (y := f) (tgt := 217) hx hb ⟨by omega, by omega⟩ ⟨by omega, by omega⟩ dX6_after_206 (by decide) (fun c_206 => ?_) (fun c_206 => ?_)
                  · refine lv_iconst (v := J (0)) hx hb dX6_after_217 rfl ?_
                    refine j_imul hx hb dX6_after_218 ?_
                    refine j_iadd hx hb dX6_after_219 ?_
                    refine lv_istore (lv' := [(5, .int (J (to + (pl * 0)))), (8, .int (J v)), (3, .int (J (y / 13))), (0, .ref o), (1, .int (J x)), (2, .int (J ch)), (4, .int (J f)), (6, .int (J pl)), (7, .int (J i))]) hx hb dX6_after_220 hl (by decide) rfl (fun ls hl => ?_)
                    refine lv_iload hx hb dX6_after_222 (lv_at hl 7 rfl) ?_
                    refine lv_bipush (v := J (13)) hx hb dX6_after_224 (by decide) ?_
                    refine j_imul hx hb dX6_after_226 ?_
                    refine lv_istore (lv' := [(6, .int (J (pl * 13))), (5, .int (J (to + (pl * 0)))), (8, .int (J v)), (3, .int (J (y / 13))), (0, .ref o), (1, .int (J x)), (2, .int (J ch)), (4, .int (J f)), (7, .int (J i))]) hx hb dX6_after_227 hl (by decide) rfl (fun ls hl => ?_)
                    refine lv_iinc (v := J (i + 1)) (lv' := [(7, .int (J (i + 1))), (6, .int (J (pl * 13))), (5, .int (J (to + (pl * 0)))), (8, .int (J v)), (3, .int (J (y / 13))), (0, .ref o), (1, .int (J x)), (2, .int (J ch)), (4, .int (J f))]) hx hb dX6_after_229 hl (k := 8) rfl (J_inc (by omega)) (by decide) rfl (fun ls hl => ?_)
                    refine lv_goto (tgt := 151) hx hb dX6_after_232 (by decide) ?_
                    exact ih_151 (y / 13) (to + (pl * 0)) (pl * 13) (i + 1) h H locs ls (by omega) (by omega) (by rw [dq_s _ _ hi9.1, ← ey]) (by rw [ec_s _ _ hi9.1, ← eto, ← epl, ← emf, ← ev, Int.mul_comm pl]; congr 2; omega) (by rw [show (i + 1).toNat = i.toNat + 1 by omega, Int.pow_succ, epl]) hM hF hW hS (lv_sub hl [5, 6, 7, 4, 8, 2, 1, 0] rfl)
                  · refine lv_iload hx hb dX6_after_209 (lv_at hl 0 rfl) ?_
                    refine lv_iload hx hb dX6_after_211 (lv_at hl 5 rfl) ?_
                    refine j_isub hx hb dX6_after_213 ?_
                    refine lv_goto (tgt := 218) hx hb dX6_after_214 (by decide) ?_
                    refine j_imul hx hb dX6_after_218 ?_
                    refine j_iadd hx hb dX6_after_219 ?_
                    refine lv_istore (lv' := [(5, .int (J (to + (pl * (v - f))))), (8, .int (J v)), (3, .int (J (y / 13))), (0, .ref o), (1, .int (J x)), (2, .int (J ch)), (4, .int (J f)), (6, .int (J pl)), (7, .int (J i))]) hx hb dX6_after_220 hl (by decide) rfl (fun ls hl => ?_)
                    refine lv_iload hx hb dX6_after_222 (lv_at hl 7 rfl) ?_
                    refine lv_bipush (v := J (13)) hx hb dX6_after_224 (by decide) ?_
                    refine j_imul hx hb dX6_after_226 ?_
                    refine lv_istore (lv' := [(6, .int (J (pl * 13))), (5, .int (J (to + (pl * (v - f))))), (8, .int (J v)), (3, .int (J (y / 13))), (0, .ref o), (1, .int (J x)), (2, .int (J ch)), (4, .int (J f)), (7, .int (J i))]) hx hb dX6_after_227 hl (by decide) rfl (fun ls hl => ?_)
                    refine lv_iinc (v := J (i + 1)) (lv' := [(7, .int (J (i + 1))), (6, .int (J (pl * 13))), (5, .int (J (to + (pl * (v - f))))), (8, .int (J v)), (3, .int (J (y / 13))), (0, .ref o), (1, .int (J x)), (2, .int (J ch)), (4, .int (J f))]) hx hb dX6_after_229 hl (k := 8) rfl (J_inc (by omega)) (by decide) rfl (fun ls hl => ?_)
                    refine lv_goto (tgt := 151) hx hb dX6_after_232 (by decide) ?_
                    exact ih_151 (y / 13) (to + (pl * (v - f))) (pl * 13) (i + 1) h H locs ls (by omega) (by omega) (by rw [dq_s _ _ hi9.1, ← ey]) (by rw [ec_s _ _ hi9.1, ← eto, ← epl, ← emf, ← ev, Int.mul_comm pl]; congr 2; omega) (by rw [show (i + 1).toNat = i.toNat + 1 by omega, Int.pow_succ, epl]) hM hF hW hS (lv_sub hl [5, 6, 7, 4, 8, 2, 1, 0] rfl)
          exact loop_151 4 x 0 1 0 h H locs ls (by omega) (by omega) rfl rfl rfl hM hF hW hS (lv_sub hl [4, 5, 6, 3, 7, 2, 1, 0] rfl)
        · refine lv_iconst (v := J (-1)) hx hb dX6_after_132 rfl ?_
          exact g_iret hx hb hr hW hS dX6_after_133 hlocks (⟨_, congrArg (fun q : Int => some (Value.int (J q))) (show -1 = (if mf (I 5) (A 6) x ch = 1000000000 then -1 else mz (I 5) (A 6) x ch) from by rw [if_pos (by omega)]), hF, hM, fun k w1 w2 => by simp [va_up, w2], fun w => absurd emf.symm (by omega)⟩)
      · refine lv_iload_n hx hb dX6_after_20 rfl (lv_at hl 3 rfl) ?_
        refine lv_bipush (v := J (13)) hx hb dX6_after_21 (by decide) ?_
        refine j_irem hx hb (by omega) (by omega) (by omega) (by omega) dX6_after_23 ?_
        refine lv_istore (lv' := [(6, .int (J (y % 13))), (0, .ref o), (1, .int (J x)), (2, .int (J ch)), (3, .int (J y)), (4, .int (J f)), (5, .int (J i))]) hx hb dX6_after_24 hl (by decide) rfl (fun ls hl => ?_)
        refine lv_iload_n hx hb dX6_after_26 rfl (lv_at hl 4 rfl) ?_
        refine lv_bipush (v := J (13)) hx hb dX6_after_27 (by decide) ?_
        refine j_idiv hx hb (by omega) (by omega) (by omega) (by omega) dX6_after_29 ?_
        refine lv_istore_n (lv' := [(3, .int (J (y / 13))), (6, .int (J (y % 13))), (0, .ref o), (1, .int (J x)), (2, .int (J ch)), (4, .int (J f)), (5, .int (J i))]) hx hb dX6_after_30 rfl hl (by decide) rfl (fun ls hl => ?_)
        refine lv_iload hx hb dX6_after_31 (lv_at hl 6 rfl) ?_
        refine lv_aload_n hx hb dX6_after_33 rfl (lv_at hl 2 rfl) ?_
        refine g_get (ci := 6) (C := RX6) (T := TX6) (N := 28) (v := .int (J (I 5))) hx hb hfX6 (fun _ h9 => h9) hown hk hW hM.1 rfl 5 (by decide) (hts (.fieldLink RX6 155 "JugsAndGlassesModel" "glasses" "I") (by decide +kernel)) rfl rfl dX6_after_34 ?_
        refine j_icmp_ge (x := i) (y := I 5) (tgt := 119) hx hb ⟨by omega, by omega⟩ ⟨by omega, by omega⟩ dX6_after_37 (by decide) (fun c_37 => ?_) (fun c_37 => ?_)
        · refine lv_iinc (v := J (i + 1)) (lv' := [(5, .int (J (i + 1))), (3, .int (J (y / 13))), (6, .int (J (y % 13))), (0, .ref o), (1, .int (J x)), (2, .int (J ch)), (4, .int (J f))]) hx hb dX6_after_119 hl (k := 6) rfl (J_inc (by omega)) (by decide) rfl (fun ls hl => ?_)
          refine lv_goto (tgt := 14) hx hb dX6_after_122 (by decide) ?_
          exact ih_14 (y / 13) f (i + 1) tz h H locs ls (by omega) (by omega) (by rw [dq_s _ _ hi9.1, ← ey]) (by rw [ef, show min (i + 1) (I 5) = I 5 by omega, show min i (I 5) = I 5 by omega]) hfr hM hF hW hS (lv_sub hl [3, 4, 5, 1, 6, 0] rfl)
        · have efi : f = ff (tv (A 6) (Dg 13 x) ch) 1000000000 i.toNat := by rw [ef, show min i (I 5) = i by omega]
          refine lv_iload_n hx hb dX6_after_40 rfl (lv_at hl 4 rfl) ?_
          refine lv_iload hx hb dX6_after_41 (lv_at hl 6 rfl) ?_
          refine j_ishr (x := ch) (y := i) hx hb (by omega) (by omega) (by omega) (by omega) dX6_after_43 ?_
          refine lv_iconst (v := J (1)) hx hb dX6_after_44 rfl ?_
          refine j_and1 (x := ch / 2 ^ (i).toNat) hx hb (hpn.1) dX6_after_45 ?_
          refine lv_iconst (v := J (1)) hx hb dX6_after_46 rfl ?_
          refine j_icmp_ne (x := (ch / 2 ^ (i).toNat) % 2) (y := 1) (tgt := 54) hx hb ⟨by omega, by omega⟩ ⟨by decide, by decide⟩ dX6_after_47 (by decide) (fun c_47 => ?_) (fun c_47 => ?_)
          · refine lv_iconst (v := J (0)) hx hb dX6_after_54 rfl ?_
            refine lv_istore (lv' := [(7, .int (J 0)), (3, .int (J (y / 13))), (6, .int (J (y % 13))), (0, .ref o), (1, .int (J x)), (2, .int (J ch)), (4, .int (J f)), (5, .int (J i))]) hx hb dX6_after_55 hl (by decide) rfl (fun ls hl => ?_)
            refine lv_iload hx hb dX6_after_57 (lv_at hl 0 rfl) ?_
            refine j_if_eq (x := 0) (tgt := 75) hx hb ⟨by decide, by decide⟩ dX6_after_59 (by decide) (fun c9 => ?_) (fun c9 => absurd c9 (by decide))
            refine lv_iload hx hb dX6_after_75 (lv_at hl 2 rfl) ?_
            refine lv_istore (lv' := [(6, .int (J (y % 13))), (7, .int (J 0)), (3, .int (J (y / 13))), (0, .ref o), (1, .int (J x)), (2, .int (J ch)), (4, .int (J f)), (5, .int (J i))]) hx hb dX6_after_77 hl (by decide) rfl (fun ls hl => ?_)
            obtain ⟨v, ev⟩ : ∃ v, v = tv (A 6) (Dg 13 x) ch i := ⟨_, rfl⟩
            have e8 : y % 13 = v := by
              rw [ev]
              unfold tv Dg
              rw [if_neg c_47, ← ey]
            have hvr := tv13 hsk x ch (k := i) (by omega) (by omega)
            rw [← ev] at hvr
            rw [e8] at hl
            refine lv_aload_n hx hb dX6_after_79 rfl (lv_at hl 3 rfl) ?_
            refine lv_dup hx hb dX6_after_80 rfl ?_
            refine g_get (ci := 6) (C := RX6) (T := TX6) (N := 28) (v := .int (J tz)) hx hb hfX6 (fun _ h9 => h9) hown hk hW hM.1 rfl 22 (by decide) (hts (.fieldLink RX6 158 "JugsAndGlassesModel" "turned" "I") (by decide +kernel)) rfl rfl dX6_after_81 ?_
            refine lv_iload hx hb dX6_after_84 (lv_at hl 1 rfl) ?_
            refine j_if_eq (x := 0) (tgt := 93) hx hb ⟨by decide, by decide⟩ dX6_after_86 (by decide) (fun c9 => ?_) (fun c9 => absurd c9 (by decide))
            refine lv_iconst (v := J (0)) hx hb dX6_after_93 rfl ?_
            refine j_iadd hx hb dX6_after_94 ?_
            refine o_put (I' := (va_up I 22 (tz + 0))) (ci := 6) (C := RX6) (T := TX6) (N := 28) (ty := .int) hx hb hfX6 (fun _ h9 => h9) tyX6 tyX6_ok nmX6 hown hk hW hS hM hF FP.o rfl 22 (by decide) rfl (hts (.fieldLink RX6 158 "JugsAndGlassesModel" "turned" "I") (by decide +kernel)) rfl rfl (by decide +kernel) rfl rfl (bx_uu _ _ _ _) dX6_after_95 (fun h H locs hM hF hst hW hS => ?_)
            refine lv_iload hx hb dX6_after_98 (lv_at hl 0 rfl) ?_
            refine j_if_le (x := v) (tgt := 115) hx hb ⟨by omega, by omega⟩ dX6_after_100 (by decide) (fun c_100 => ?_) (fun c_100 => ?_)
            · refine lv_iload hx hb dX6_after_115 (lv_at hl 6 rfl) ?_
              refine lv_istore (lv' := [(4, .int (J f)), (6, .int (J v)), (7, .int (J 0)), (3, .int (J (y / 13))), (0, .ref o), (1, .int (J x)), (2, .int (J ch)), (5, .int (J i))]) hx hb dX6_after_117 hl (by decide) rfl (fun ls hl => ?_)
              refine lv_iinc (v := J (i + 1)) (lv' := [(5, .int (J (i + 1))), (4, .int (J f)), (6, .int (J v)), (7, .int (J 0)), (3, .int (J (y / 13))), (0, .ref o), (1, .int (J x)), (2, .int (J ch))]) hx hb dX6_after_119 hl (k := 7) rfl (J_inc (by omega)) (by decide) rfl (fun ls hl => ?_)
              refine lv_goto (tgt := 14) hx hb dX6_after_122 (by decide) ?_
              exact ih_14 (y / 13) f (i + 1) (tz + 0) h H locs ls (by omega) (by omega) (by rw [dq_s _ _ hi9.1, ← ey]) (by rw [show min (i + 1) (I 5) = i + 1 by omega, ff_s _ _ hi9.1, ← efi, ← ev, if_neg (by omega)]) hfr hM hF hW hS (lv_sub hl [5, 6, 7, 4, 1, 0] rfl)
            · refine lv_iload hx hb dX6_after_103 (lv_at hl 0 rfl) ?_
              refine lv_iload hx hb dX6_after_105 (lv_at hl 6 rfl) ?_
              refine j_icmp_ge (x := v) (y := f) (tgt := 115) hx hb ⟨by omega, by omega⟩ ⟨by omega, by omega⟩ dX6_after_107 (by decide) (fun c_107 => ?_) (fun c_107 => ?_)
              · refine lv_iload hx hb dX6_after_115 (lv_at hl 6 rfl) ?_
                refine lv_istore (lv' := [(4, .int (J f)), (6, .int (J v)), (7, .int (J 0)), (3, .int (J (y / 13))), (0, .ref o), (1, .int (J x)), (2, .int (J ch)), (5, .int (J i))]) hx hb dX6_after_117 hl (by decide) rfl (fun ls hl => ?_)
                refine lv_iinc (v := J (i + 1)) (lv' := [(5, .int (J (i + 1))), (4, .int (J f)), (6, .int (J v)), (7, .int (J 0)), (3, .int (J (y / 13))), (0, .ref o), (1, .int (J x)), (2, .int (J ch))]) hx hb dX6_after_119 hl (k := 7) rfl (J_inc (by omega)) (by decide) rfl (fun ls hl => ?_)
                refine lv_goto (tgt := 14) hx hb dX6_after_122 (by decide) ?_
                exact ih_14 (y / 13) f (i + 1) (tz + 0) h H locs ls (by omega) (by omega) (by rw [dq_s _ _ hi9.1, ← ey]) (by rw [show min (i + 1) (I 5) = i + 1 by omega, ff_s _ _ hi9.1, ← efi, ← ev, if_neg (by omega)]) hfr hM hF hW hS (lv_sub hl [5, 6, 7, 4, 1, 0] rfl)
              · refine lv_iload hx hb dX6_after_110 (lv_at hl 0 rfl) ?_
                refine lv_goto (tgt := 117) hx hb dX6_after_112 (by decide) ?_
                refine lv_istore (lv' := [(4, .int (J v)), (6, .int (J v)), (7, .int (J 0)), (3, .int (J (y / 13))), (0, .ref o), (1, .int (J x)), (2, .int (J ch)), (5, .int (J i))]) hx hb dX6_after_117 hl (by decide) rfl (fun ls hl => ?_)
                refine lv_iinc (v := J (i + 1)) (lv' := [(5, .int (J (i + 1))), (4, .int (J v)), (6, .int (J v)), (7, .int (J 0)), (3, .int (J (y / 13))), (0, .ref o), (1, .int (J x)), (2, .int (J ch))]) hx hb dX6_after_119 hl (k := 7) rfl (J_inc (by omega)) (by decide) rfl (fun ls hl => ?_)
                refine lv_goto (tgt := 14) hx hb dX6_after_122 (by decide) ?_
                exact ih_14 (y / 13) v (i + 1) (tz + 0) h H locs ls (by omega) (by omega) (by rw [dq_s _ _ hi9.1, ← ey]) (by rw [show min (i + 1) (I 5) = i + 1 by omega, ff_s _ _ hi9.1, ← efi, ← ev, if_pos (by omega)]) (by omega) hM hF hW hS (lv_sub hl [5, 6, 7, 4, 1, 0] rfl)
          · refine lv_iconst (v := J (1)) hx hb dX6_after_50 rfl ?_
            refine lv_goto (tgt := 55) hx hb dX6_after_51 (by decide) ?_
            refine lv_istore (lv' := [(7, .int (J 1)), (3, .int (J (y / 13))), (6, .int (J (y % 13))), (0, .ref o), (1, .int (J x)), (2, .int (J ch)), (4, .int (J f)), (5, .int (J i))]) hx hb dX6_after_55 hl (by decide) rfl (fun ls hl => ?_)
            refine lv_iload hx hb dX6_after_57 (lv_at hl 0 rfl) ?_
            refine j_if_eq (x := 1) (tgt := 75) hx hb ⟨by decide, by decide⟩ dX6_after_59 (by decide) (fun c9 => absurd c9 (by decide)) (fun c9 => ?_)
            refine lv_aload_n hx hb dX6_after_62 rfl (lv_at hl 3 rfl) ?_
            refine g_get (ci := 6) (C := RX6) (T := TX6) (N := 28) (v := .ref (R 6)) hx hb hfX6 (fun _ h9 => h9) hown hk hW hM.1 rfl 6 (by decide) (hts (.fieldLink RX6 23 "JugsAndGlassesModel" "span" "[I") (by decide +kernel)) rfl rfl dX6_after_63 ?_
            refine lv_iload hx hb dX6_after_66 (lv_at hl 7 rfl) ?_
            refine g_iald (n := 3) (f := A 6) (i := i) hx hb hk hW (hM.ai 6 (by decide) rfl) (by omega) (by omega) (by omega) dX6_after_68 ?_
            refine lv_iload hx hb dX6_after_69 (lv_at hl 2 rfl) ?_
            refine j_isub hx hb dX6_after_71 ?_
            refine lv_goto (tgt := 77) hx hb dX6_after_72 (by decide) ?_
            refine lv_istore (lv' := [(6, .int (J ((A 6 i) - (y % 13)))), (7, .int (J 1)), (3, .int (J (y / 13))), (0, .ref o), (1, .int (J x)), (2, .int (J ch)), (4, .int (J f)), (5, .int (J i))]) hx hb dX6_after_77 hl (by decide) rfl (fun ls hl => ?_)
            obtain ⟨v, ev⟩ : ∃ v, v = tv (A 6) (Dg 13 x) ch i := ⟨_, rfl⟩
            have e8 : (A 6 i) - (y % 13) = v := by
              rw [ev]
              unfold tv Dg
              rw [if_pos c_47, ← ey]
            have hvr := tv13 hsk x ch (k := i) (by omega) (by omega)
            rw [← ev] at hvr
            rw [e8] at hl
            refine lv_aload_n hx hb dX6_after_79 rfl (lv_at hl 3 rfl) ?_
            refine lv_dup hx hb dX6_after_80 rfl ?_
            refine g_get (ci := 6) (C := RX6) (T := TX6) (N := 28) (v := .int (J tz)) hx hb hfX6 (fun _ h9 => h9) hown hk hW hM.1 rfl 22 (by decide) (hts (.fieldLink RX6 158 "JugsAndGlassesModel" "turned" "I") (by decide +kernel)) rfl rfl dX6_after_81 ?_
            refine lv_iload hx hb dX6_after_84 (lv_at hl 1 rfl) ?_
            refine j_if_eq (x := 1) (tgt := 93) hx hb ⟨by decide, by decide⟩ dX6_after_86 (by decide) (fun c9 => absurd c9 (by decide)) (fun c9 => ?_)
            refine lv_iconst (v := J (1)) hx hb dX6_after_89 rfl ?_
            refine lv_goto (tgt := 94) hx hb dX6_after_90 (by decide) ?_
            refine j_iadd hx hb dX6_after_94 ?_
            refine o_put (I' := (va_up I 22 (tz + 1))) (ci := 6) (C := RX6) (T := TX6) (N := 28) (ty := .int) hx hb hfX6 (fun _ h9 => h9) tyX6 tyX6_ok nmX6 hown hk hW hS hM hF FP.o rfl 22 (by decide) rfl (hts (.fieldLink RX6 158 "JugsAndGlassesModel" "turned" "I") (by decide +kernel)) rfl rfl (by decide +kernel) rfl rfl (bx_uu _ _ _ _) dX6_after_95 (fun h H locs hM hF hst hW hS => ?_)
            refine lv_iload hx hb dX6_after_98 (lv_at hl 0 rfl) ?_
            refine j_if_le (x := v) (tgt := 115) hx hb ⟨by omega, by omega⟩ dX6_after_100 (by decide) (fun c_100 => ?_) (fun c_100 => ?_)
            · refine lv_iload hx hb dX6_after_115 (lv_at hl 6 rfl) ?_
              refine lv_istore (lv' := [(4, .int (J f)), (6, .int (J v)), (7, .int (J 1)), (3, .int (J (y / 13))), (0, .ref o), (1, .int (J x)), (2, .int (J ch)), (5, .int (J i))]) hx hb dX6_after_117 hl (by decide) rfl (fun ls hl => ?_)
              refine lv_iinc (v := J (i + 1)) (lv' := [(5, .int (J (i + 1))), (4, .int (J f)), (6, .int (J v)), (7, .int (J 1)), (3, .int (J (y / 13))), (0, .ref o), (1, .int (J x)), (2, .int (J ch))]) hx hb dX6_after_119 hl (k := 7) rfl (J_inc (by omega)) (by decide) rfl (fun ls hl => ?_)
              refine lv_goto (tgt := 14) hx hb dX6_after_122 (by decide) ?_
              exact ih_14 (y / 13) f (i + 1) (tz + 1) h H locs ls (by omega) (by omega) (by rw [dq_s _ _ hi9.1, ← ey]) (by rw [show min (i + 1) (I 5) = i + 1 by omega, ff_s _ _ hi9.1, ← efi, ← ev, if_neg (by omega)]) hfr hM hF hW hS (lv_sub hl [5, 6, 7, 4, 1, 0] rfl)
            · refine lv_iload hx hb dX6_after_103 (lv_at hl 0 rfl) ?_
              refine lv_iload hx hb dX6_after_105 (lv_at hl 6 rfl) ?_
              refine j_icmp_ge (x := v) (y := f) (tgt := 115) hx hb ⟨by omega, by omega⟩ ⟨by omega, by omega⟩ dX6_after_107 (by decide) (fun c_107 => ?_) (fun c_107 => ?_)
              · refine lv_iload hx hb dX6_after_115 (lv_at hl 6 rfl) ?_
                refine lv_istore (lv' := [(4, .int (J f)), (6, .int (J v)), (7, .int (J 1)), (3, .int (J (y / 13))), (0, .ref o), (1, .int (J x)), (2, .int (J ch)), (5, .int (J i))]) hx hb dX6_after_117 hl (by decide) rfl (fun ls hl => ?_)
                refine lv_iinc (v := J (i + 1)) (lv' := [(5, .int (J (i + 1))), (4, .int (J f)), (6, .int (J v)), (7, .int (J 1)), (3, .int (J (y / 13))), (0, .ref o), (1, .int (J x)), (2, .int (J ch))]) hx hb dX6_after_119 hl (k := 7) rfl (J_inc (by omega)) (by decide) rfl (fun ls hl => ?_)
                refine lv_goto (tgt := 14) hx hb dX6_after_122 (by decide) ?_
                exact ih_14 (y / 13) f (i + 1) (tz + 1) h H locs ls (by omega) (by omega) (by rw [dq_s _ _ hi9.1, ← ey]) (by rw [show min (i + 1) (I 5) = i + 1 by omega, ff_s _ _ hi9.1, ← efi, ← ev, if_neg (by omega)]) hfr hM hF hW hS (lv_sub hl [5, 6, 7, 4, 1, 0] rfl)
              · refine lv_iload hx hb dX6_after_110 (lv_at hl 0 rfl) ?_
                refine lv_goto (tgt := 117) hx hb dX6_after_112 (by decide) ?_
                refine lv_istore (lv' := [(4, .int (J v)), (6, .int (J v)), (7, .int (J 1)), (3, .int (J (y / 13))), (0, .ref o), (1, .int (J x)), (2, .int (J ch)), (5, .int (J i))]) hx hb dX6_after_117 hl (by decide) rfl (fun ls hl => ?_)
                refine lv_iinc (v := J (i + 1)) (lv' := [(5, .int (J (i + 1))), (4, .int (J v)), (6, .int (J v)), (7, .int (J 1)), (3, .int (J (y / 13))), (0, .ref o), (1, .int (J x)), (2, .int (J ch))]) hx hb dX6_after_119 hl (k := 7) rfl (J_inc (by omega)) (by decide) rfl (fun ls hl => ?_)
                refine lv_goto (tgt := 14) hx hb dX6_after_122 (by decide) ?_
                exact ih_14 (y / 13) v (i + 1) (tz + 1) h H locs ls (by omega) (by omega) (by rw [dq_s _ _ hi9.1, ← ey]) (by rw [show min (i + 1) (I 5) = i + 1 by omega, ff_s _ _ hi9.1, ← efi, ← ev, if_pos (by omega)]) (by omega) hM hF hW hS (lv_sub hl [5, 6, 7, 4, 1, 0] rfl)
  exact loop_14 4 x 1000000000 0 0 h H locs ls (by omega) (by omega) rfl (by rw [show min 0 (I 5) = 0 by omega]; rfl) (Or.inl rfl) hM hF hW hS (lv_sub hl [3, 4, 5, 2, 1, 0] rfl)
