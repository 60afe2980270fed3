set_option maxHeartbeats 4000000 in
set_option maxRecDepth 100000 in
theorem g_goOn (l : Launch) (g : GX) (base : Nat) (sa : Nat → Nat) (h0 : Hp) (o : Nat) (R : Nat → Nat) (I : Nat → Int) (L : Nat → Int) (A : Nat → Int → Int) (k T : Int) (hM : OB g 0 12 kd0 h0 o R I L A) (hL1 : L 1 = 3) (hsk : Sok (I 0) (A 1)) (hL6 : k_states (I 0) ≤ L 6 ∧ L 6 ≤ 1728 ∧ L 5 = L 6 ∧ L 8 = 8 * L 6 ∧ L 9 = L 6 ∧ L 10 = L 6) (hLE : LE (k_states (I 0)) (L 6) (lp (I 0) (A 1)) (2 ^ (I 0).toNat) (A 5) (A 6) (A 8) (I 7) (8 * I 7)) (hk9 : 0 ≤ k ∧ k < I 7) (hT9 : 0 ≤ T ∧ T ≤ 60) (hEF0 : EF (lp (I 0) (A 1)) (2 ^ (I 0).toNat) (A 5) (I 7) (A 9) (A 10) T k 0) (hea0 : A 9 (A 5 k) = T) : MC l g base sa yX0_goOnFrom wsX0_goOnFrom ({ frames := 1, cells := 0, slots := 0, locals := 20 }) ([.ref o, .int (J (A 5 k)), .int (J T)]) h0 (fun r9 h' => r9 = none ∧ Fr (FP 12 kd0 o R) h0 h' ∧ ∃ ea tu, OB g 0 12 kd0 h' o R I L (va_up (va_up A 9 ea) 10 tu) ∧ EF (lp (I 0) (A 1)) (2 ^ (I 0).toNat) (A 5) (I 7) ea tu T (k + 1) 0) := by
  refine Met.ofW (cc := cX0_goOnFrom) (maxL := 8) (ret := none) (by decide) rfl ?_
  intro p e s m args below meth c s₁ B hml hv
  obtain ⟨rfl, hk, hW⟩ := hv
  have hx := B.exec
  have hb := B.bytes
  have hr := B.returns
  have hts := atoms_spec (ws := wsX0_goOnFrom) B.pre
  have hown : s.vm.findClass RX0 = some m.cls := findClass_of_methodNamed B.named
  have hlocks := B.notSynchronized
  have hfX0 : ∀ w ∈ wsX00, w.before ([.ref o, .int (J (A 5 k)), .int (J T)]).toArray s = true := fun w h => hts w (List.mem_cons_of_mem _ (List.mem_append_right _ h))
  have hS : va_S (Ab base) s.heap s.heap [] := va_S.rf
  have hl := lv_entry ([.ref o, .int (J (A 5 k)), .int (J T)]) (n := 8) (Nat.le_of_ble_eq_true rfl)
  rw [lg_entry_eq]
  generalize (lg_sl ([.ref o, .int (J (A 5 k)), .int (J T)]) ++ List.replicate (8 - (lg_sl ([.ref o, .int (J (A 5 k)), .int (J T)])).length) Slot.unset).toArray = ls at hl ⊢
  have hl : lv_has ls 8 [(0, .ref o), (1, .int (J (A 5 k))), (2, .int (J T))] := hl
  have hF : Fr (FP 12 kd0 o R) h0 h0 := Fr.rf
  have hn1 := hsk.1
  have hn2 := hsk.2.1
  have hsr := st_r hn1 hn2
  have hp2n := p2n hn1 hn2
  have hNM := hL6.1
  have hr1 := hLE.1
  have hrN := hLE.2.1
  have hek := hLE.2.2.2.1 k hk9.1 hk9.2
  refine lv_iconst (v := J (0)) hx hb dX0_goOnFrom_0 rfl ?_
  refine lv_istore_n (lv' := [(3, .int (J 0)), (0, .ref o), (1, .int (J (A 5 k))), (2, .int (J T))]) hx hb dX0_goOnFrom_1 rfl hl (by decide) rfl (fun ls hl => ?_)
  have loop_2 : ∀ (n9 : Nat) (ch : Int) (ea : Int → Int) (tu : Int → Int) (h : Hp) (H : Heap) (locs : List Loc) (ls : Array Slot), 2 ^ (I 0).toNat - ch < (n9 : Int) → (0 ≤ ch ∧ ch ≤ 2 ^ (I 0).toNat) → (EF (lp (I 0) (A 1)) (2 ^ (I 0).toNat) (A 5) (I 7) ea tu T k ch) → (ea (A 5 k) = T) → (tu (A 5 k) = A 10 (A 5 k)) → (OB g 0 12 kd0 h o R I L (va_up (va_up A 9 (ea)) 10 (tu))) → (Fr (FP 12 kd0 o R) h0 h) → (Wd g base h H) → (va_S (Ab base) s.heap H locs) → (lv_has ls 8 [(0, .ref o), (1, .int (J (A 5 k))), (2, .int (J T)), (3, .int (J ch))]) → W p l e (headSpec wsX0_goOnFrom ({ frames := 1, cells := 0, slots := 0, locals := 20 })).room s m ([.ref o, .int (J (A 5 k)), .int (J T)]).toArray below meth c H locs 0 0 (MQ below (QcM g base (fun r9 h' => r9 = none ∧ Fr (FP 12 kd0 o R) h0 h' ∧ ∃ ea tu, OB g 0 12 kd0 h' o R I L (va_up (va_up A 9 ea) 10 tu) ∧ EF (lp (I 0) (A 1)) (2 ^ (I 0).toNat) (A 5) (I 7) ea tu T (k + 1) 0)) ([.ref o, .int (J (A 5 k)), .int (J T)]).toArray s (0) (0) (Ab base)) (F0 m 2 ls []) := by
    intro n9
    induction n9 with
    | zero =>
      intro ch ea tu h H locs ls hmu ha9 hEF hea htu9 hM hF hW hS hl
      exact absurd hmu (by omega)
    | succ n9 ih =>
      intro ch ea tu h H locs ls hmu ha9 hEF hea htu9 hM hF hW hS hl
      have ih_2 := ih
      refine lv_iload_n hx hb dX0_goOnFrom_2 rfl (lv_at hl 3 rfl) ?_
      refine lv_iconst (v := J (1)) hx hb dX0_goOnFrom_3 rfl ?_
      refine lv_aload_n hx hb dX0_goOnFrom_4 rfl (lv_at hl 0 rfl) ?_
      refine g_get (ci := 0) (C := RX0) (T := TX0) (N := 12) (v := .int (J (I 0))) hx hb hfX0 (fun _ h9 => h9) hown hk hW hM.1 rfl 0 (by decide) (hts (.fieldLink RX0 9 "JugsAndGlasses$Glasses" "number" "I") (by decide +kernel)) rfl rfl dX0_goOnFrom_5 ?_
      refine j_shl1 (y := I 0) hx hb (by omega) (by omega) dX0_goOnFrom_8 ?_
      refine j_icmp_ge (x := ch) (y := 2 ^ (I 0).toNat) (tgt := 123) hx hb ⟨by omega, by omega⟩ ⟨by omega, by omega⟩ dX0_goOnFrom_9 (by decide) (fun c_9 => ?_) (fun c_9 => ?_)
      · exact g_vret hx hb hr hW hS dX0_goOnFrom_123 hlocks (⟨rfl, hF, ea, tu, hM, EF_k (by have e9 : ch = 2 ^ (I 0).toNat := (by omega); rw [e9] at hEF; exact hEF)⟩)
      · refine lv_aload_n hx hb dX0_goOnFrom_12 rfl (lv_at hl 0 rfl) ?_
        refine g_get (ci := 0) (C := RX0) (T := TX0) (N := 12) (v := .ref (R 8)) hx hb hfX0 (fun _ h9 => h9) hown hk hW hM.1 rfl 8 (by decide) (hts (.fieldLink RX0 39 "JugsAndGlasses$Glasses" "leap" "[I") (by decide +kernel)) rfl rfl dX0_goOnFrom_13 ?_
        refine lv_iload_n hx hb dX0_goOnFrom_16 rfl (lv_at hl 1 rfl) ?_
        refine lv_bipush (v := J (8)) hx hb dX0_goOnFrom_17 (by decide) ?_
        refine j_imul hx hb dX0_goOnFrom_19 ?_
        refine lv_iload_n hx hb dX0_goOnFrom_20 rfl (lv_at hl 3 rfl) ?_
        refine j_iadd hx hb dX0_goOnFrom_21 ?_
        have hlr := lp_r hsk (A 5 k) ch
        have hlq := hLE.2.2.2.2.2.2 k ch hk9.1 hk9.2 ha9.1 (by omega) (by omega)
        refine g_iald (n := L 8) (f := A 8) (i := (A 5 k) * 8 + ch) hx hb hk hW (hM.ai 8 (by decide) rfl) (by omega) (by omega) (by omega) dX0_goOnFrom_22 ?_
        rw [hlq.1]
        obtain ⟨v, ev9⟩ : ∃ v, v = lp (I 0) (A 1) (A 5 k) ch := ⟨_, rfl⟩
        rw [← ev9] at hlr hlq ⊢
        refine lv_istore (lv' := [(4, .int (J v)), (0, .ref o), (1, .int (J (A 5 k))), (2, .int (J T)), (3, .int (J ch))]) hx hb dX0_goOnFrom_23 hl (by decide) rfl (fun ls hl => ?_)
        refine lv_iload hx hb dX0_goOnFrom_25 (lv_at hl 0 rfl) ?_
        refine lv_iconst (v := J (-1)) hx hb dX0_goOnFrom_27 rfl ?_
        refine j_icmp_ne (x := v) (y := (-1)) (tgt := 34) hx hb ⟨by omega, by omega⟩ ⟨by omega, by omega⟩ dX0_goOnFrom_28 (by decide) (fun c_28 => ?_) (fun c_28 => ?_)
        · have htl := hlq.2 (by omega)
          have hta : (ea (v / 16) = 1000000 ∧ tu (v / 16) = 1000000) ∨ (0 ≤ ea (v / 16) ∧ ea (v / 16) ≤ T + 12 ∧ 0 ≤ tu (v / 16) ∧ tu (v / 16) ≤ 3 * ea (v / 16)) := by
            obtain ⟨j, j0, j1, j2⟩ := htl
            rw [← j2]
            rcases hEF.1 j j0 j1 with w | w
            · exact Or.inl w
            · exact Or.inr ⟨w.1, w.2.1, w.2.2.1, w.2.2.2.1⟩
          have htk : 0 ≤ tu (A 5 k) ∧ tu (A 5 k) ≤ 3 * T := by
            rcases hEF.1 k hk9.1 hk9.2 with w | w
            · omega
            · exact ⟨w.2.2.1, by rw [← hea]; exact w.2.2.2.1⟩
          refine lv_iload hx hb dX0_goOnFrom_34 (lv_at hl 0 rfl) ?_
          refine lv_bipush (v := J (16)) hx hb dX0_goOnFrom_36 (by decide) ?_
          refine j_idiv hx hb (by omega) (by omega) (by omega) (by omega) dX0_goOnFrom_38 ?_
          refine lv_istore (lv' := [(5, .int (J (v / 16))), (4, .int (J v)), (0, .ref o), (1, .int (J (A 5 k))), (2, .int (J T)), (3, .int (J ch))]) hx hb dX0_goOnFrom_39 hl (by decide) rfl (fun ls hl => ?_)
          refine lv_iload_n hx hb dX0_goOnFrom_41 rfl (lv_at hl 4 rfl) ?_
          refine lv_iload hx hb dX0_goOnFrom_42 (lv_at hl 1 rfl) ?_
          refine lv_bipush (v := J (16)) hx hb dX0_goOnFrom_44 (by decide) ?_
          refine j_irem hx hb (by omega) (by omega) (by omega) (by omega) dX0_goOnFrom_46 ?_
          refine j_iadd hx hb dX0_goOnFrom_47 ?_
          refine lv_istore (lv' := [(6, .int (J (T + (v % 16)))), (5, .int (J (v / 16))), (4, .int (J v)), (0, .ref o), (1, .int (J (A 5 k))), (2, .int (J T)), (3, .int (J ch))]) hx hb dX0_goOnFrom_48 hl (by decide) rfl (fun ls hl => ?_)
          refine lv_aload_n hx hb dX0_goOnFrom_50 rfl (lv_at hl 3 rfl) ?_
          refine g_get (ci := 0) (C := RX0) (T := TX0) (N := 12) (v := .ref (R 10)) hx hb hfX0 (fun _ h9 => h9) hown hk hW hM.1 rfl 10 (by decide) (hts (.fieldLink RX0 45 "JugsAndGlasses$Glasses" "turned" "[I") (by decide +kernel)) rfl rfl dX0_goOnFrom_51 ?_
          refine lv_iload_n hx hb dX0_goOnFrom_54 rfl (lv_at hl 4 rfl) ?_
          refine g_iald (n := L 10) (f := tu) (i := A 5 k) hx hb hk hW (hM.ai 10 (by decide) rfl) (by omega) (by omega) (by omega) dX0_goOnFrom_55 ?_
          refine lv_iload_n hx hb dX0_goOnFrom_56 rfl (lv_at hl 6 rfl) ?_
          refine g_callS (As := [.int (J ch)]) (rest := [.int (J (tu (A 5 k)))]) ⟨hx, hb, hml, hown, hts⟩ (k_bits l g base sa h ch ⟨by omega, by omega⟩) (va_cwS 1 hts gX0_goOnFrom_J6_bitCount_0f7a4 rfl rfl rfl (by decide +kernel) ⟨Nat.le_of_ble_eq_true rfl, Nat.le_of_ble_eq_true rfl⟩) hk hW hS rfl hl.1 (Nat.le_of_ble_eq_true rfl) dX0_goOnFrom_57 ⟨Nat.le_of_ble_eq_true rfl, Nat.le_of_ble_eq_true rfl⟩ (fun r9 h9 H locs hp hW hS => ?_)
          obtain ⟨rfl, e9⟩ := hp
          rw [e9] at hW
          refine W.eq (g2 := F0 m 60 ls [.int (J (bc ch)), .int (J (tu (A 5 k)))]) rfl ?_
          have hbc := bc_r ch
          refine j_iadd hx hb dX0_goOnFrom_60 ?_
          refine lv_istore (lv' := [(7, .int (J ((tu (A 5 k)) + (bc ch)))), (6, .int (J (T + (v % 16)))), (5, .int (J (v / 16))), (4, .int (J v)), (0, .ref o), (1, .int (J (A 5 k))), (2, .int (J T)), (3, .int (J ch))]) hx hb dX0_goOnFrom_61 hl (by decide) rfl (fun ls hl => ?_)
          refine lv_iload hx hb dX0_goOnFrom_63 (lv_at hl 1 rfl) ?_
          refine lv_aload_n hx hb dX0_goOnFrom_65 rfl (lv_at hl 4 rfl) ?_
          refine g_get (ci := 0) (C := RX0) (T := TX0) (N := 12) (v := .ref (R 9)) hx hb hfX0 (fun _ h9 => h9) hown hk hW hM.1 rfl 9 (by decide) (hts (.fieldLink RX0 42 "JugsAndGlasses$Glasses" "early" "[I") (by decide +kernel)) rfl rfl dX0_goOnFrom_66 ?_
          refine lv_iload hx hb dX0_goOnFrom_69 (lv_at hl 2 rfl) ?_
          refine g_iald (n := L 9) (f := ea) (i := v / 16) hx hb hk hW (hM.ai 9 (by decide) rfl) (by omega) (by omega) (by omega) dX0_goOnFrom_71 ?_
          refine j_icmp_lt (x := T + (v % 16)) (y := ea (v / 16)) (tgt := 99) hx hb ⟨by omega, by omega⟩ ⟨by omega, by omega⟩ dX0_goOnFrom_72 (by decide) (fun c_72 => ?_) (fun c_72 => ?_)
          · refine lv_aload_n hx hb dX0_goOnFrom_99 rfl (lv_at hl 4 rfl) ?_
            refine g_get (ci := 0) (C := RX0) (T := TX0) (N := 12) (v := .ref (R 9)) hx hb hfX0 (fun _ h9 => h9) hown hk hW hM.1 rfl 9 (by decide) (hts (.fieldLink RX0 42 "JugsAndGlasses$Glasses" "early" "[I") (by decide +kernel)) rfl rfl dX0_goOnFrom_100 ?_
            refine lv_iload hx hb dX0_goOnFrom_103 (lv_at hl 2 rfl) ?_
            refine lv_iload hx hb dX0_goOnFrom_105 (lv_at hl 1 rfl) ?_
            refine o_iast (A' := (va_up (va_up A 10 (tu)) 9 (uf ea (v / 16) (T + (v % 16))))) (i := v / 16) (x := T + (v % 16)) hx hb hk hW hS hM hF 9 (by decide) rfl (FP.a 9 (by decide) ⟨by decide, by decide⟩) (by omega) (show v / 16 < L 9 from by omega) (show L 9 < 2147483648 from by omega) (by funext j9; by_cases q9 : j9 = 9 <;> simp [q9, va_up]) dX0_goOnFrom_107 (fun h H locs hM hF hst hW hS => ?_)
            refine lv_aload_n hx hb dX0_goOnFrom_108 rfl (lv_at hl 4 rfl) ?_
            refine g_get (ci := 0) (C := RX0) (T := TX0) (N := 12) (v := .ref (R 10)) hx hb hfX0 (fun _ h9 => h9) hown hk hW hM.1 rfl 10 (by decide) (hts (.fieldLink RX0 45 "JugsAndGlasses$Glasses" "turned" "[I") (by decide +kernel)) rfl rfl dX0_goOnFrom_109 ?_
            refine lv_iload hx hb dX0_goOnFrom_112 (lv_at hl 2 rfl) ?_
            refine lv_iload hx hb dX0_goOnFrom_114 (lv_at hl 0 rfl) ?_
            refine o_iast (A' := (va_up (va_up A 9 (uf ea (v / 16) (T + (v % 16)))) 10 (uf tu (v / 16) ((tu (A 5 k)) + (bc ch))))) (i := v / 16) (x := (tu (A 5 k)) + (bc ch)) hx hb hk hW hS hM hF 10 (by decide) rfl (FP.a 10 (by decide) ⟨by decide, by decide⟩) (by omega) (show v / 16 < L 10 from by omega) (show L 10 < 2147483648 from by omega) (by funext j9; by_cases q9 : j9 = 10 <;> simp [q9, va_up]) dX0_goOnFrom_116 (fun h H locs hM hF hst hW hS => ?_)
            refine lv_iinc (v := J (ch + 1)) (lv' := [(3, .int (J (ch + 1))), (7, .int (J ((tu (A 5 k)) + (bc ch)))), (6, .int (J (T + (v % 16)))), (5, .int (J (v / 16))), (4, .int (J v)), (0, .ref o), (1, .int (J (A 5 k))), (2, .int (J T))]) hx hb dX0_goOnFrom_117 hl (k := 7) rfl (J_inc (by omega)) (by decide) rfl (fun ls hl => ?_)
            refine lv_goto (tgt := 2) hx hb dX0_goOnFrom_120 (by decide) ?_
            exact ih_2 (ch + 1) (uf ea (v / 16) (T + (v % 16))) (uf tu (v / 16) ((tu (A 5 k)) + (bc ch))) h H locs ls (by omega) (by omega) (by have h8 := EF_yes hEF hk9.1 hk9.2 ha9.1 (by omega) hT9.1 (by omega) (by omega) (by rw [← ev9]; omega) (by rw [← ev9]; omega) (by rw [← ev9]; omega); rw [← ev9] at h8; exact h8) (by rw [uf_ne _ _ (by intro w9; rw [w9] at hea; omega)]; exact hea) (by rw [uf_ne _ _ (by intro w9; rw [w9] at hea; omega)]; exact htu9) hM hF hW hS (lv_sub hl [5, 6, 7, 0] rfl)
          · refine lv_iload hx hb dX0_goOnFrom_75 (lv_at hl 1 rfl) ?_
            refine lv_aload_n hx hb dX0_goOnFrom_77 rfl (lv_at hl 4 rfl) ?_
            refine g_get (ci := 0) (C := RX0) (T := TX0) (N := 12) (v := .ref (R 9)) hx hb hfX0 (fun _ h9 => h9) hown hk hW hM.1 rfl 9 (by decide) (hts (.fieldLink RX0 42 "JugsAndGlasses$Glasses" "early" "[I") (by decide +kernel)) rfl rfl dX0_goOnFrom_78 ?_
            refine lv_iload hx hb dX0_goOnFrom_81 (lv_at hl 2 rfl) ?_
            refine g_iald (n := L 9) (f := ea) (i := v / 16) hx hb hk hW (hM.ai 9 (by decide) rfl) (by omega) (by omega) (by omega) dX0_goOnFrom_83 ?_
            refine j_icmp_ne (x := T + (v % 16)) (y := ea (v / 16)) (tgt := 117) hx hb ⟨by omega, by omega⟩ ⟨by omega, by omega⟩ dX0_goOnFrom_84 (by decide) (fun c_84 => ?_) (fun c_84 => ?_)
            · refine lv_iinc (v := J (ch + 1)) (lv' := [(3, .int (J (ch + 1))), (7, .int (J ((tu (A 5 k)) + (bc ch)))), (6, .int (J (T + (v % 16)))), (5, .int (J (v / 16))), (4, .int (J v)), (0, .ref o), (1, .int (J (A 5 k))), (2, .int (J T))]) hx hb dX0_goOnFrom_117 hl (k := 7) rfl (J_inc (by omega)) (by decide) rfl (fun ls hl => ?_)
              refine lv_goto (tgt := 2) hx hb dX0_goOnFrom_120 (by decide) ?_
              exact ih_2 (ch + 1) ea tu h H locs ls (by omega) (by omega) (EF_no hEF (fun w9 => by rw [← ev9] at w9 ⊢; exact ⟨by omega, fun _ => by omega⟩)) (by omega) (by omega) hM hF hW hS (lv_sub hl [5, 6, 7, 0] rfl)
            · refine lv_iload hx hb dX0_goOnFrom_87 (lv_at hl 0 rfl) ?_
              refine lv_aload_n hx hb dX0_goOnFrom_89 rfl (lv_at hl 4 rfl) ?_
              refine g_get (ci := 0) (C := RX0) (T := TX0) (N := 12) (v := .ref (R 10)) hx hb hfX0 (fun _ h9 => h9) hown hk hW hM.1 rfl 10 (by decide) (hts (.fieldLink RX0 45 "JugsAndGlasses$Glasses" "turned" "[I") (by decide +kernel)) rfl rfl dX0_goOnFrom_90 ?_
              refine lv_iload hx hb dX0_goOnFrom_93 (lv_at hl 2 rfl) ?_
              refine g_iald (n := L 10) (f := tu) (i := v / 16) hx hb hk hW (hM.ai 10 (by decide) rfl) (by omega) (by omega) (by omega) dX0_goOnFrom_95 ?_
              refine j_icmp_ge (x := (tu (A 5 k)) + (bc ch)) (y := tu (v / 16)) (tgt := 117) hx hb ⟨by omega, by omega⟩ ⟨by omega, by omega⟩ dX0_goOnFrom_96 (by decide) (fun c_96 => ?_) (fun c_96 => ?_)
              · refine lv_iinc (v := J (ch + 1)) (lv' := [(3, .int (J (ch + 1))), (7, .int (J ((tu (A 5 k)) + (bc ch)))), (6, .int (J (T + (v % 16)))), (5, .int (J (v / 16))), (4, .int (J v)), (0, .ref o), (1, .int (J (A 5 k))), (2, .int (J T))]) hx hb dX0_goOnFrom_117 hl (k := 7) rfl (J_inc (by omega)) (by decide) rfl (fun ls hl => ?_)
                refine lv_goto (tgt := 2) hx hb dX0_goOnFrom_120 (by decide) ?_
                exact ih_2 (ch + 1) ea tu h H locs ls (by omega) (by omega) (EF_no hEF (fun w9 => by rw [← ev9] at w9 ⊢; exact ⟨by omega, fun _ => by omega⟩)) (by omega) (by omega) hM hF hW hS (lv_sub hl [5, 6, 7, 0] rfl)
              · refine lv_aload_n hx hb dX0_goOnFrom_99 rfl (lv_at hl 4 rfl) ?_
                refine g_get (ci := 0) (C := RX0) (T := TX0) (N := 12) (v := .ref (R 9)) hx hb hfX0 (fun _ h9 => h9) hown hk hW hM.1 rfl 9 (by decide) (hts (.fieldLink RX0 42 "JugsAndGlasses$Glasses" "early" "[I") (by decide +kernel)) rfl rfl dX0_goOnFrom_100 ?_
                refine lv_iload hx hb dX0_goOnFrom_103 (lv_at hl 2 rfl) ?_
                refine lv_iload hx hb dX0_goOnFrom_105 (lv_at hl 1 rfl) ?_
                refine o_iast (A' := (va_up (va_up A 10 (tu)) 9 (uf ea (v / 16) (T + (v % 16))))) (i := v / 16) (x := T + (v % 16)) hx hb hk hW hS hM hF 9 (by decide) rfl (FP.a 9 (by decide) ⟨by decide, by decide⟩) (by omega) (show v / 16 < L 9 from by omega) (show L 9 < 2147483648 from by omega) (by funext j9; by_cases q9 : j9 = 9 <;> simp [q9, va_up]) dX0_goOnFrom_107 (fun h H locs hM hF hst hW hS => ?_)
                refine lv_aload_n hx hb dX0_goOnFrom_108 rfl (lv_at hl 4 rfl) ?_
                refine g_get (ci := 0) (C := RX0) (T := TX0) (N := 12) (v := .ref (R 10)) hx hb hfX0 (fun _ h9 => h9) hown hk hW hM.1 rfl 10 (by decide) (hts (.fieldLink RX0 45 "JugsAndGlasses$Glasses" "turned" "[I") (by decide +kernel)) rfl rfl dX0_goOnFrom_109 ?_
                refine lv_iload hx hb dX0_goOnFrom_112 (lv_at hl 2 rfl) ?_
                refine lv_iload hx hb dX0_goOnFrom_114 (lv_at hl 0 rfl) ?_
                refine o_iast (A' := (va_up (va_up A 9 (uf ea (v / 16) (T + (v % 16)))) 10 (uf tu (v / 16) ((tu (A 5 k)) + (bc ch))))) (i := v / 16) (x := (tu (A 5 k)) + (bc ch)) hx hb hk hW hS hM hF 10 (by decide) rfl (FP.a 10 (by decide) ⟨by decide, by decide⟩) (by omega) (show v / 16 < L 10 from by omega) (show L 10 < 2147483648 from by omega) (by funext j9; by_cases q9 : j9 = 10 <;> simp [q9, va_up]) dX0_goOnFrom_116 (fun h H locs hM hF hst hW hS => ?_)
                refine lv_iinc (v := J (ch + 1)) (lv' := [(3, .int (J (ch + 1))), (7, .int (J ((tu (A 5 k)) + (bc ch)))), (6, .int (J (T + (v % 16)))), (5, .int (J (v / 16))), (4, .int (J v)), (0, .ref o), (1, .int (J (A 5 k))), (2, .int (J T))]) hx hb dX0_goOnFrom_117 hl (k := 7) rfl (J_inc (by omega)) (by decide) rfl (fun ls hl => ?_)
                refine lv_goto (tgt := 2) hx hb dX0_goOnFrom_120 (by decide) ?_
                exact ih_2 (ch + 1) (uf ea (v / 16) (T + (v % 16))) (uf tu (v / 16) ((tu (A 5 k)) + (bc ch))) h H locs ls (by omega) (by omega) (by have h8 := EF_yes hEF hk9.1 hk9.2 ha9.1 (by omega) hT9.1 (by omega) (by omega) (by rw [← ev9]; omega) (by rw [← ev9]; omega) (by rw [← ev9]; omega); rw [← ev9] at h8; exact h8) (by rw [uf_ne _ _ (by intro w9; rw [w9] at hea; omega)]; exact hea) (by rw [uf_ne _ _ (by intro w9; rw [w9] at hea; omega)]; exact htu9) hM hF hW hS (lv_sub hl [5, 6, 7, 0] rfl)
        · refine lv_goto (tgt := 117) hx hb dX0_goOnFrom_31 (by decide) ?_
          refine lv_iinc (v := J (ch + 1)) (lv' := [(3, .int (J (ch + 1))), (4, .int (J v)), (0, .ref o), (1, .int (J (A 5 k))), (2, .int (J T))]) hx hb dX0_goOnFrom_117 hl (k := 4) rfl (J_inc (by omega)) (by decide) rfl (fun ls hl => ?_)
          refine lv_goto (tgt := 2) hx hb dX0_goOnFrom_120 (by decide) ?_
          exact ih_2 (ch + 1) ea tu h H locs ls (by omega) (by omega) (EF_no hEF (fun w9 => by rw [← ev9] at w9 ⊢; exact ⟨by omega, fun _ => by omega⟩)) (by omega) (by omega) hM hF hW hS (lv_sub hl [2, 3, 4, 0] rfl)
  exact loop_2 9 0 (A 9) (A 10) h0 s.heap [] ls (by omega) (by omega) hEF0 hea0 rfl (by rw [va_up_id, va_up_id]; exact hM) hF hW hS (lv_sub hl [1, 2, 3, 0] rfl)

set_option maxHeartbeats 4000000 in
set_option maxRecDepth 100000 in
theorem g_goForth (l : Launch) (g : GX) (base : Nat) (sa : Nat → Nat) (h0 : Hp) (o : Nat) (R : Nat → Nat) (I : Nat → Int) (L : Nat → Int) (A : Nat → Int → Int) (hM : OB g 0 12 kd0 h0 o R I L A) (hL1 : L 1 = 3) (hsk : Sok (I 0) (A 1)) (hL6 : k_states (I 0) ≤ L 6 ∧ L 6 ≤ 1728 ∧ L 5 = L 6 ∧ L 8 = 8 * L 6 ∧ L 9 = L 6 ∧ L 10 = L 6) (hLE : LE (k_states (I 0)) (L 6) (lp (I 0) (A 1)) (2 ^ (I 0).toNat) (A 5) (A 6) (A 8) (I 7) (8 * I 7)) : MC l g base sa yX0_goForth wsX0_goForth ({ frames := 2, cells := 0, slots := 0, locals := 47 }) ([.ref o]) h0 (fun r9 h' => r9 = none ∧ Fr (FP 12 kd0 o R) h0 h' ∧ ∃ ea tu, OB g 0 12 kd0 h' o R I L (va_up (va_up A 9 ea) 10 tu) ∧ EF (lp (I 0) (A 1)) (2 ^ (I 0).toNat) (A 5) (I 7) ea tu 61 0 0) := by
  refine Met.ofW (cc := cX0_goForth) (maxL := 3) (ret := none) (by decide) rfl ?_
  intro p e s m args below meth c s₁ B hml hv
  obtain ⟨rfl, hk, hW⟩ := hv
  have hx := B.exec
  have hb := B.bytes
  have hr := B.returns
  have hts := atoms_spec (ws := wsX0_goForth) B.pre
  have hown : s.vm.findClass RX0 = some m.cls := findClass_of_methodNamed B.named
  have hlocks := B.notSynchronized
  have hfX0 : ∀ w ∈ wsX00, w.before ([.ref o]).toArray s = true := fun w h => hts w (List.mem_cons_of_mem _ (List.mem_append_right _ h))
  have hS : va_S (Ab base) s.heap s.heap [] := va_S.rf
  have hl := lv_entry ([.ref o]) (n := 3) (Nat.le_of_ble_eq_true rfl)
  rw [lg_entry_eq]
  generalize (lg_sl ([.ref o]) ++ List.replicate (3 - (lg_sl ([.ref o])).length) Slot.unset).toArray = ls at hl ⊢
  have hl : lv_has ls 3 [(0, .ref o)] := hl
  have hF : Fr (FP 12 kd0 o R) h0 h0 := Fr.rf
  have hn1 := hsk.1
  have hn2 := hsk.2.1
  have hsr := st_r hn1 hn2
  have hp2n := p2n hn1 hn2
  have hNM := hL6.1
  have hr1 := hLE.1
  have hrN := hLE.2.1
  refine lv_aload_n hx hb dX0_goForth_0 rfl (lv_at hl 0 rfl) ?_
  refine g_get (ci := 0) (C := RX0) (T := TX0) (N := 12) (v := .ref (R 9)) hx hb hfX0 (fun _ h9 => h9) hown hk hW hM.1 rfl 9 (by decide) (hts (.fieldLink RX0 42 "JugsAndGlasses$Glasses" "early" "[I") (by decide +kernel)) rfl rfl dX0_goForth_1 ?_
  refine j_ldc (z := 1000000) hx hb (by decide) hown (hts (.constant RX0 79 (1000000)) (by decide +kernel)) dX0_goForth_4 ?_
  refine g_callS (As := [.ref (R 9), .int (J 1000000)]) (rest := []) ⟨hx, hb, hml, hown, hts⟩ (k_fill l g base sa h0 (R 9) (L 9) (1000000) (A 9) (hM.ai 9 (by decide) rfl) ⟨by omega, by omega⟩) (va_cwS 2 hts gX0_goForth_J7_fill_53178 rfl rfl rfl (by decide +kernel) ⟨Nat.le_of_ble_eq_true rfl, Nat.le_of_ble_eq_true rfl⟩) hk hW hS rfl hl.1 (Nat.le_of_ble_eq_true rfl) dX0_goForth_6 ⟨Nat.le_refl _, Nat.le_refl _⟩ (fun r9 h9 H locs hp hW hS => ?_)
  obtain ⟨rfl, e9⟩ := hp
  refine W.eq (g2 := F0 m 9 ls []) rfl ?_
  rw [e9] at hW
  have hM := fill_ob hM 9 (by decide) rfl (v := 1000000)
  have hF := Fr.set (e := (ai g (L 9) (cpN (L 9) (fun _ => 1000000) (A 9)))) hF (FP.a 9 (by decide) ⟨by decide, by decide⟩)
  have hW : Wd g base (uh h0 (R 9) (ai g (L 9) (cpN (L 9) (fun _ => 1000000) (A 9)))) H := hW
  generalize uh h0 (R 9) (ai g (L 9) (cpN (L 9) (fun _ => 1000000) (A 9))) = h at hM hW hF
  have hM : OB g 0 12 kd0 h o R I L (va_up A 9 (cpN (L 9) (fun _ => 1000000) (A 9))) := hM
  refine lv_aload_n hx hb dX0_goForth_9 rfl (lv_at hl 0 rfl) ?_
  refine g_get (ci := 0) (C := RX0) (T := TX0) (N := 12) (v := .ref (R 10)) hx hb hfX0 (fun _ h9 => h9) hown hk hW hM.1 rfl 10 (by decide) (hts (.fieldLink RX0 45 "JugsAndGlasses$Glasses" "turned" "[I") (by decide +kernel)) rfl rfl dX0_goForth_10 ?_
  refine j_ldc (z := 1000000) hx hb (by decide) hown (hts (.constant RX0 79 (1000000)) (by decide +kernel)) dX0_goForth_13 ?_
  refine g_callS (As := [.ref (R 10), .int (J 1000000)]) (rest := []) ⟨hx, hb, hml, hown, hts⟩ (k_fill l g base sa h (R 10) (L 10) (1000000) (A 10) (hM.ai 10 (by decide) rfl) ⟨by omega, by omega⟩) (va_cwS 2 hts gX0_goForth_J7_fill_53178 rfl rfl rfl (by decide +kernel) ⟨Nat.le_of_ble_eq_true rfl, Nat.le_of_ble_eq_true rfl⟩) hk hW hS rfl hl.1 (Nat.le_of_ble_eq_true rfl) dX0_goForth_15 ⟨Nat.le_refl _, Nat.le_refl _⟩ (fun r9 h9 H locs hp hW hS => ?_)
  obtain ⟨rfl, e9⟩ := hp
  refine W.eq (g2 := F0 m 18 ls []) rfl ?_
  rw [e9] at hW
  have hM := fill_ob hM 10 (by decide) rfl (v := 1000000)
  have hF := Fr.set (e := (ai g (L 10) (cpN (L 10) (fun _ => 1000000) ((va_up A 9 (cpN (L 9) (fun _ => 1000000) (A 9))) 10)))) hF (FP.a 10 (by decide) ⟨by decide, by decide⟩)
  have hW : Wd g base (uh h (R 10) (ai g (L 10) (cpN (L 10) (fun _ => 1000000) ((va_up A 9 (cpN (L 9) (fun _ => 1000000) (A 9))) 10)))) H := hW
  generalize uh h (R 10) (ai g (L 10) (cpN (L 10) (fun _ => 1000000) ((va_up A 9 (cpN (L 9) (fun _ => 1000000) (A 9))) 10))) = h at hM hW hF
  have hM : OB g 0 12 kd0 h o R I L (va_up (va_up A 9 (cpN (L 9) (fun _ => 1000000) (A 9))) 10 (cpN (L 10) (fun _ => 1000000) (A 10))) := hM
  refine lv_aload_n hx hb dX0_goForth_18 rfl (lv_at hl 0 rfl) ?_
  refine g_get (ci := 0) (C := RX0) (T := TX0) (N := 12) (v := .ref (R 9)) hx hb hfX0 (fun _ h9 => h9) hown hk hW hM.1 rfl 9 (by decide) (hts (.fieldLink RX0 42 "JugsAndGlasses$Glasses" "early" "[I") (by decide +kernel)) rfl rfl dX0_goForth_19 ?_
  refine lv_iconst (v := J (0)) hx hb dX0_goForth_22 rfl ?_
  refine lv_iconst (v := J (0)) hx hb dX0_goForth_23 rfl ?_
  refine o_iast (A' := (va_up (va_up A 10 (cpN (L 10) (fun _ => 1000000) (A 10))) 9 (uf (cpN (L 9) (fun _ => 1000000) (A 9)) 0 0))) (i := 0) (x := 0) hx hb hk hW hS hM hF 9 (by decide) rfl (FP.a 9 (by decide) ⟨by decide, by decide⟩) (by omega) (show 0 < L 9 from by omega) (show L 9 < 2147483648 from by omega) (by funext j9; by_cases q9 : j9 = 9 <;> simp [q9, va_up]) dX0_goForth_24 (fun h H locs hM hF hst hW hS => ?_)
  refine lv_aload_n hx hb dX0_goForth_25 rfl (lv_at hl 0 rfl) ?_
  refine g_get (ci := 0) (C := RX0) (T := TX0) (N := 12) (v := .ref (R 10)) hx hb hfX0 (fun _ h9 => h9) hown hk hW hM.1 rfl 10 (by decide) (hts (.fieldLink RX0 45 "JugsAndGlasses$Glasses" "turned" "[I") (by decide +kernel)) rfl rfl dX0_goForth_26 ?_
  refine lv_iconst (v := J (0)) hx hb dX0_goForth_29 rfl ?_
  refine lv_iconst (v := J (0)) hx hb dX0_goForth_30 rfl ?_
  refine o_iast (A' := (va_up (va_up A 9 (uf (cpN (L 9) (fun _ => 1000000) (A 9)) 0 0)) 10 (uf (cpN (L 10) (fun _ => 1000000) (A 10)) 0 0))) (i := 0) (x := 0) hx hb hk hW hS hM hF 10 (by decide) rfl (FP.a 10 (by decide) ⟨by decide, by decide⟩) (by omega) (show 0 < L 10 from by omega) (show L 10 < 2147483648 from by omega) (by funext j9; by_cases q9 : j9 = 10 <;> simp [q9, va_up]) dX0_goForth_31 (fun h H locs hM hF hst hW hS => ?_)
  refine lv_iconst (v := J (0)) hx hb dX0_goForth_32 rfl ?_
  refine lv_istore_n (lv' := [(1, .int (J 0)), (0, .ref o)]) hx hb dX0_goForth_33 rfl hl (by decide) rfl (fun ls hl => ?_)
  have loop_34 : ∀ (n9 : Nat) (T : Int) (ea : Int → Int) (tu : Int → Int) (h : Hp) (H : Heap) (locs : List Loc) (ls : Array Slot), 61 - T < (n9 : Int) → (0 ≤ T ∧ T ≤ 61) → (EF (lp (I 0) (A 1)) (2 ^ (I 0).toNat) (A 5) (I 7) ea tu T 0 0) → (OB g 0 12 kd0 h o R I L (va_up (va_up A 9 (ea)) 10 (tu))) → (Fr (FP 12 kd0 o R) h0 h) → (Wd g base h H) → (va_S (Ab base) s.heap H locs) → (lv_has ls 3 [(0, .ref o), (1, .int (J T))]) → W p l e (headSpec wsX0_goForth ({ frames := 2, cells := 0, slots := 0, locals := 47 })).room s m ([.ref o]).toArray below meth c H locs 0 0 (MQ below (QcM g base (fun r9 h' => r9 = none ∧ Fr (FP 12 kd0 o R) h0 h' ∧ ∃ ea tu, OB g 0 12 kd0 h' o R I L (va_up (va_up A 9 ea) 10 tu) ∧ EF (lp (I 0) (A 1)) (2 ^ (I 0).toNat) (A 5) (I 7) ea tu 61 0 0)) ([.ref o]).toArray s (0) (0) (Ab base)) (F0 m 34 ls []) := by
    intro n9
    induction n9 with
    | zero =>
      intro T ea tu h H locs ls hmu hT9 hEF hM hF hW hS hl
      exact absurd hmu (by omega)
    | succ n9 ih =>
      intro T ea tu h H locs ls hmu hT9 hEF hM hF hW hS hl
      have ih_34 := ih
      refine lv_iload_n hx hb dX0_goForth_34 rfl (lv_at hl 1 rfl) ?_
      refine lv_bipush (v := J (60)) hx hb dX0_goForth_35 (by decide) ?_
      refine j_icmp_gt (x := T) (y := 60) (tgt := 97) hx hb ⟨by omega, by omega⟩ ⟨by decide, by decide⟩ dX0_goForth_37 (by decide) (fun c_37 => ?_) (fun c_37 => ?_)
      · exact g_vret hx hb hr hW hS dX0_goForth_97 hlocks (⟨rfl, hF, ea, tu, hM, by have e9 : T = 61 := (by omega); rw [e9] at hEF; exact hEF⟩)
      · refine lv_iconst (v := J (0)) hx hb dX0_goForth_40 rfl ?_
        refine lv_istore_n (lv' := [(2, .int (J 0)), (0, .ref o), (1, .int (J T))]) hx hb dX0_goForth_41 rfl hl (by decide) rfl (fun ls hl => ?_)
        have loop_42 : ∀ (n9 : Nat) (k : Int) (ea : Int → Int) (tu : Int → Int) (h : Hp) (H : Heap) (locs : List Loc) (ls : Array Slot), I 7 - k < (n9 : Int) → (0 ≤ k ∧ k ≤ I 7) → (EF (lp (I 0) (A 1)) (2 ^ (I 0).toNat) (A 5) (I 7) ea tu T k 0) → (OB g 0 12 kd0 h o R I L (va_up (va_up A 9 (ea)) 10 (tu))) → (Fr (FP 12 kd0 o R) h0 h) → (Wd g base h H) → (va_S (Ab base) s.heap H locs) → (lv_has ls 3 [(0, .ref o), (1, .int (J T)), (2, .int (J k))]) → W p l e (headSpec wsX0_goForth ({ frames := 2, cells := 0, slots := 0, locals := 47 })).room s m ([.ref o]).toArray below meth c H locs 0 0 (MQ below (QcM g base (fun r9 h' => r9 = none ∧ Fr (FP 12 kd0 o R) h0 h' ∧ ∃ ea tu, OB g 0 12 kd0 h' o R I L (va_up (va_up A 9 ea) 10 tu) ∧ EF (lp (I 0) (A 1)) (2 ^ (I 0).toNat) (A 5) (I 7) ea tu 61 0 0)) ([.ref o]).toArray s (0) (0) (Ab base)) (F0 m 42 ls []) := by
          intro n9
          induction n9 with
          | zero =>
            intro k ea tu h H locs ls hmu hk9 hEF hM hF hW hS hl
            exact absurd hmu (by omega)
          | succ n9 ih =>
            intro k ea tu h H locs ls hmu hk9 hEF hM hF hW hS hl
            have ih_42 := ih
            refine lv_iload_n hx hb dX0_goForth_42 rfl (lv_at hl 2 rfl) ?_
            refine lv_aload_n hx hb dX0_goForth_43 rfl (lv_at hl 0 rfl) ?_
            refine g_get (ci := 0) (C := RX0) (T := TX0) (N := 12) (v := .int (J (I 7))) hx hb hfX0 (fun _ h9 => h9) hown hk hW hM.1 rfl 7 (by decide) (hts (.fieldLink RX0 36 "JugsAndGlasses$Glasses" "listedEvents" "I") (by decide +kernel)) rfl rfl dX0_goForth_44 ?_
            refine j_icmp_ge (x := k) (y := I 7) (tgt := 91) hx hb ⟨by omega, by omega⟩ ⟨by omega, by omega⟩ dX0_goForth_47 (by decide) (fun c_47 => ?_) (fun c_47 => ?_)
            · refine lv_iinc (v := J (T + 1)) (lv' := [(1, .int (J (T + 1))), (0, .ref o), (2, .int (J k))]) hx hb dX0_goForth_91 hl (k := 1) rfl (J_inc (by omega)) (by decide) rfl (fun ls hl => ?_)
              refine lv_goto (tgt := 34) hx hb dX0_goForth_94 (by decide) ?_
              exact ih_34 (T + 1) ea tu h H locs ls (by omega) (by omega) (EF_T (by have e9 : k = I 7 := (by omega); rw [e9] at hEF; exact hEF)) hM hF hW hS (lv_sub hl [1, 0] rfl)
            · refine lv_iload_n hx hb dX0_goForth_50 rfl (lv_at hl 2 rfl) ?_
              refine lv_aload_n hx hb dX0_goForth_51 rfl (lv_at hl 0 rfl) ?_
              refine g_get (ci := 0) (C := RX0) (T := TX0) (N := 12) (v := .ref (R 5)) hx hb hfX0 (fun _ h9 => h9) hown hk hW hM.1 rfl 5 (by decide) (hts (.fieldLink RX0 29 "JugsAndGlasses$Glasses" "events" "[I") (by decide +kernel)) rfl rfl dX0_goForth_52 ?_
              refine g_alen (n := L 5) hx hb hk hW (hM.ai 5 (by decide) rfl) (by omega) dX0_goForth_55 ?_
              refine j_icmp_ge (x := k) (y := L 5) (tgt := 91) hx hb ⟨by omega, by omega⟩ ⟨by omega, by omega⟩ dX0_goForth_56 (by decide) (fun c_56 => ?_) (fun c_56 => ?_)
              · exfalso
                omega
              · have hek := hLE.2.2.2.1 k hk9.1 (by omega)
                have hkr : (ea (A 5 k) = 1000000 ∧ tu (A 5 k) = 1000000) ∨ (0 ≤ ea (A 5 k) ∧ ea (A 5 k) ≤ T + 12) := (hEF.1 k hk9.1 (by omega)).imp id (fun w => ⟨w.1, w.2.1⟩)
                refine lv_aload_n hx hb dX0_goForth_59 rfl (lv_at hl 0 rfl) ?_
                refine g_get (ci := 0) (C := RX0) (T := TX0) (N := 12) (v := .ref (R 9)) hx hb hfX0 (fun _ h9 => h9) hown hk hW hM.1 rfl 9 (by decide) (hts (.fieldLink RX0 42 "JugsAndGlasses$Glasses" "early" "[I") (by decide +kernel)) rfl rfl dX0_goForth_60 ?_
                refine lv_aload_n hx hb dX0_goForth_63 rfl (lv_at hl 0 rfl) ?_
                refine g_get (ci := 0) (C := RX0) (T := TX0) (N := 12) (v := .ref (R 5)) hx hb hfX0 (fun _ h9 => h9) hown hk hW hM.1 rfl 5 (by decide) (hts (.fieldLink RX0 29 "JugsAndGlasses$Glasses" "events" "[I") (by decide +kernel)) rfl rfl dX0_goForth_64 ?_
                refine lv_iload_n hx hb dX0_goForth_67 rfl (lv_at hl 2 rfl) ?_
                refine g_iald (n := L 5) (f := A 5) (i := k) hx hb hk hW (hM.ai 5 (by decide) rfl) (by omega) (by omega) (by omega) dX0_goForth_68 ?_
                refine g_iald (n := L 9) (f := ea) (i := A 5 k) hx hb hk hW (hM.ai 9 (by decide) rfl) (by omega) (by omega) (by omega) dX0_goForth_69 ?_
                refine lv_iload_n hx hb dX0_goForth_70 rfl (lv_at hl 1 rfl) ?_
                refine j_icmp_ne (x := ea (A 5 k)) (y := T) (tgt := 85) hx hb ⟨by omega, by omega⟩ ⟨by omega, by omega⟩ dX0_goForth_71 (by decide) (fun c_71 => ?_) (fun c_71 => ?_)
                · refine lv_iinc (v := J (k + 1)) (lv' := [(2, .int (J (k + 1))), (0, .ref o), (1, .int (J T))]) hx hb dX0_goForth_85 hl (k := 2) rfl (J_inc (by omega)) (by decide) rfl (fun ls hl => ?_)
                  refine lv_goto (tgt := 42) hx hb dX0_goForth_88 (by decide) ?_
                  exact ih_42 (k + 1) ea tu h H locs ls (by omega) (by omega) (EF_skip hEF c_71) hM hF hW hS (lv_sub hl [1, 2, 0] rfl)
                · refine lv_aload_n hx hb dX0_goForth_74 rfl (lv_at hl 0 rfl) ?_
                  refine lv_aload_n hx hb dX0_goForth_75 rfl (lv_at hl 0 rfl) ?_
                  refine g_get (ci := 0) (C := RX0) (T := TX0) (N := 12) (v := .ref (R 5)) hx hb hfX0 (fun _ h9 => h9) hown hk hW hM.1 rfl 5 (by decide) (hts (.fieldLink RX0 29 "JugsAndGlasses$Glasses" "events" "[I") (by decide +kernel)) rfl rfl dX0_goForth_76 ?_
                  refine lv_iload_n hx hb dX0_goForth_79 rfl (lv_at hl 2 rfl) ?_
                  refine g_iald (n := L 5) (f := A 5) (i := k) hx hb hk hW (hM.ai 5 (by decide) rfl) (by omega) (by omega) (by omega) dX0_goForth_80 ?_
                  refine lv_iload_n hx hb dX0_goForth_81 rfl (lv_at hl 1 rfl) ?_
                  refine g_callV (As := [.int (J (A 5 k)), .int (J T)]) (rest := []) (b := o) (ci := 0) (C := RX0) (T := TX0) (N := 12) ⟨hx, hb, hml, hown, hts⟩ (g_goOn l g base sa h o R I L (va_up (va_up A 9 (ea)) 10 (tu)) k T hM hL1 hsk hL6 hLE ⟨by omega, by omega⟩ ⟨by omega, by omega⟩ hEF c_71) (cwV 2 hts gX0_goForth_X0_goOnFrom rfl rfl rfl (by decide +kernel) ⟨Nat.le_of_ble_eq_true rfl, Nat.le_of_ble_eq_true rfl⟩) hk hW hS hM.1 rfl rfl hl.1 (Nat.le_of_ble_eq_true rfl) dX0_goForth_82 ⟨Nat.le_of_ble_eq_true rfl, Nat.le_of_ble_eq_true rfl⟩ (fun r9 h9 H locs hp hW hS => ?_)
                  have hp : r9 = none ∧ Fr (FP 12 kd0 o R) h h9 ∧ ∃ ea2 tu2, OB g 0 12 kd0 h9 o R I L (va_up (va_up (va_up (va_up A 9 ea) 10 tu) 9 ea2) 10 tu2) ∧ EF (lp (I 0) (A 1)) (2 ^ (I 0).toNat) (A 5) (I 7) ea2 tu2 T (k + 1) 0 := hp
                  obtain ⟨rfl, hF9, ea2, tu2, hM, hEF2⟩ := hp
                  refine W.eq (g2 := F0 m 85 ls []) rfl ?_
                  have hF := hF.tr hF9 (fun q w _ => w)
                  generalize h9 = h at hM hF hW
                  have hM : OB g 0 12 kd0 h o R I L (va_up (va_up A 9 (ea2)) 10 (tu2)) := by
                    have e9 : (va_up (va_up (va_up (va_up A 9 (ea)) 10 (tu)) 9 (ea2)) 10 (tu2)) = (va_up (va_up A 9 (ea2)) 10 (tu2)) := by funext q9; by_cases w9 : q9 = 9 <;> by_cases w10 : q9 = 10 <;> simp [va_up, w9, w10]
                    rw [← e9]
                    exact hM
                  refine lv_iinc (v := J (k + 1)) (lv' := [(2, .int (J (k + 1))), (0, .ref o), (1, .int (J T))]) hx hb dX0_goForth_85 hl (k := 2) rfl (J_inc (by omega)) (by decide) rfl (fun ls hl => ?_)
                  refine lv_goto (tgt := 42) hx hb dX0_goForth_88 (by decide) ?_
                  exact ih_42 (k + 1) ea2 tu2 h H locs ls (by omega) (by omega) hEF2 hM hF hW hS (lv_sub hl [1, 2, 0] rfl)
        exact loop_42 ((I 7).toNat + 1) 0 ea tu h H locs ls (by omega) (by omega) hEF hM hF hW hS (lv_sub hl [1, 2, 0] rfl)
  exact loop_34 62 0 (uf (cpN (L 9) (fun _ => 1000000) (A 9)) 0 0) (uf (cpN (L 10) (fun _ => 1000000) (A 10)) 0 0) h H locs ls (by omega) (by omega) (EF_0 (fun j j0 j1 => by have := hLE.2.2.2.1 j j0 j1; unfold uf; split; rfl; exact cpN_in this.1 (by omega)) (fun j j0 j1 => by have := hLE.2.2.2.1 j j0 j1; unfold uf; split; rfl; exact cpN_in this.1 (by omega)) (uf_same _ _ _) (uf_same _ _ _)) hM hF hW hS (lv_sub hl [1, 0] rfl)
