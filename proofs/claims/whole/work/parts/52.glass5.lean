set_option maxHeartbeats 4000000 in
set_option maxRecDepth 100000 in
theorem g_fewest (l : Launch) (g : GX) (base : Nat) (sa : Nat → Nat) (h0 : Hp) (o : Nat) (R : Nat → Nat) (I : Nat → Int) (L : Nat → Int) (A : Nat → Int → Int) (k sn : Int) (ad : Int → Nat) (Bh : Int → Int → Int) (hM : OB g 0 12 kd0 h0 o R I L A) (hL1 : L 1 = 3) (hsk : Sok (I 0) (A 1)) (hL6 : k_states (I 0) ≤ L 6 ∧ L 6 ≤ 1728 ∧ L 5 = L 6 ∧ L 8 = 8 * L 6 ∧ L 9 = L 6 ∧ L 10 = L 6) (hLE : LE (k_states (I 0)) (L 6) (lp (I 0) (A 1)) (2 ^ (I 0).toNat) (A 5) (A 6) (A 8) (I 7) (8 * I 7)) (hk9 : 0 ≤ k ∧ k < I 7) (hs9 : 1 ≤ sn ∧ sn ≤ 40) (hAh : AH g h0 (R 11) (L 5) ad Bh) (hRG : RG (lp (I 0) (A 1)) (2 ^ (I 0).toNat) (A 5) (I 7) Bh sn k) : MC l g base sa yX0_fewestTurned wsX0_fewestTurned ({ frames := 1, cells := 0, slots := 0, locals := 20 }) ([.ref o, .int (J (A 5 k)), .int (J sn)]) h0 (fun r9 h' => (∃ v, r9 = some (.int (J v)) ∧ BQ 1000000 (lp (I 0) (A 1)) (2 ^ (I 0).toNat) (A 5 k) sn v) ∧ h' = h0) := by
  refine Met.ofW (cc := cX0_fewestTurned) (maxL := 7) (ret := (some .int)) (by decide) rfl ?_
  intro p e s m args below meth c s₁ B hml hv
  obtain ⟨rfl, hk, hW⟩ := hv
  have hx := B.exec
  have hb := B.bytes
  have hr := B.returns
  have hts := atoms_spec (ws := wsX0_fewestTurned) B.pre
  have hown : s.vm.findClass RX0 = some m.cls := findClass_of_methodNamed B.named
  have hlocks := B.notSynchronized
  have hfX0 : ∀ w ∈ wsX00, w.before ([.ref o, .int (J (A 5 k)), .int (J sn)]).toArray s = true := fun w h => hts w (List.mem_cons_of_mem _ (List.mem_append_right _ h))
  have hS : va_S (Ab base) s.heap s.heap [] := va_S.rf
  have hl := lv_entry ([.ref o, .int (J (A 5 k)), .int (J sn)]) (n := 7) (Nat.le_of_ble_eq_true rfl)
  rw [lg_entry_eq]
  generalize (lg_sl ([.ref o, .int (J (A 5 k)), .int (J sn)]) ++ List.replicate (7 - (lg_sl ([.ref o, .int (J (A 5 k)), .int (J sn)])).length) Slot.unset).toArray = ls at hl ⊢
  have hl : lv_has ls 7 [(0, .ref o), (1, .int (J (A 5 k))), (2, .int (J sn))] := hl
  have hn1 := hsk.1
  have hn2 := hsk.2.1
  have hsr := st_r hn1 hn2
  have hp2n := p2n hn1 hn2
  have hNM := hL6.1
  have hr1 := hLE.1
  have hrN := hLE.2.1
  have hek := hLE.2.2.2.1 k hk9.1 hk9.2
  refine j_ldc (z := 1000000) hx hb (by decide) hown (hts (.constant RX0 79 (1000000)) (by decide +kernel)) dX0_fewestTurned_0 ?_
  refine lv_istore_n (lv' := [(3, .int (J 1000000)), (0, .ref o), (1, .int (J (A 5 k))), (2, .int (J sn))]) hx hb dX0_fewestTurned_2 rfl hl (by decide) rfl (fun ls hl => ?_)
  refine lv_iconst (v := J (0)) hx hb dX0_fewestTurned_3 rfl ?_
  refine lv_istore (lv' := [(4, .int (J 0)), (3, .int (J 1000000)), (0, .ref o), (1, .int (J (A 5 k))), (2, .int (J sn))]) hx hb dX0_fewestTurned_4 hl (by decide) rfl (fun ls hl => ?_)
  have loop_6 : ∀ (n9 : Nat) (ch : Int) (u : Int) (h : Hp) (H : Heap) (locs : List Loc) (ls : Array Slot), 2 ^ (I 0).toNat - ch < (n9 : Int) → (0 ≤ ch ∧ ch ≤ 2 ^ (I 0).toNat) → (FT 1000000 (lp (I 0) (A 1)) (2 ^ (I 0).toNat) (A 5 k) sn ch u) → (h = h0) → (OB g 0 12 kd0 h o R I L A) → (AH g h (R 11) (L 5) ad Bh) → (Wd g base h H) → (va_S (Ab base) s.heap H locs) → (lv_has ls 7 [(0, .ref o), (1, .int (J (A 5 k))), (2, .int (J sn)), (3, .int (J u)), (4, .int (J ch))]) → W p l e (headSpec wsX0_fewestTurned ({ frames := 1, cells := 0, slots := 0, locals := 20 })).room s m ([.ref o, .int (J (A 5 k)), .int (J sn)]).toArray below meth c H locs 0 0 (MQ below (QcM g base (fun r9 h' => (∃ v, r9 = some (.int (J v)) ∧ BQ 1000000 (lp (I 0) (A 1)) (2 ^ (I 0).toNat) (A 5 k) sn v) ∧ h' = h0)) ([.ref o, .int (J (A 5 k)), .int (J sn)]).toArray s (0) (0) (Ab base)) (F0 m 6 ls []) := by
    intro n9
    induction n9 with
    | zero =>
      intro ch u h H locs ls hmu ha9 hFT eh hM hAh hW hS hl
      exact absurd hmu (by omega)
    | succ n9 ih =>
      intro ch u h H locs ls hmu ha9 hFT eh hM hAh hW hS hl
      have hur := FT_r hFT
      have ih_6 := ih
      refine lv_iload hx hb dX0_fewestTurned_6 (lv_at hl 4 rfl) ?_
      refine lv_iconst (v := J (1)) hx hb dX0_fewestTurned_8 rfl ?_
      refine lv_aload_n hx hb dX0_fewestTurned_9 rfl (lv_at hl 0 rfl) ?_
      refine g_get (ci := 0) (C := RX0) (T := TX0) (N := 12) (v := .int (J (I 0))) hx hb hfX0 (fun _ h9 => h9) hown hk hW hM.1 rfl 0 (by decide) (hts (.fieldLink RX0 9 "JugsAndGlasses$Glasses" "number" "I") (by decide +kernel)) rfl rfl dX0_fewestTurned_10 ?_
      refine j_shl1 (y := I 0) hx hb (by omega) (by omega) dX0_fewestTurned_13 ?_
      refine j_icmp_ge (x := ch) (y := 2 ^ (I 0).toNat) (tgt := 98) hx hb ⟨by omega, by omega⟩ ⟨by omega, by omega⟩ dX0_fewestTurned_14 (by decide) (fun c_14 => ?_) (fun c_14 => ?_)
      · refine lv_iload_n hx hb dX0_fewestTurned_98 rfl (lv_at hl 3 rfl) ?_
        exact g_iret hx hb hr hW hS dX0_fewestTurned_99 hlocks (⟨⟨u, rfl, FT_end (by have e9 : ch = 2 ^ (I 0).toNat := (by omega); rw [e9] at hFT; exact hFT) (by omega)⟩, eh⟩)
      · refine lv_aload_n hx hb dX0_fewestTurned_17 rfl (lv_at hl 0 rfl) ?_
        refine g_get (ci := 0) (C := RX0) (T := TX0) (N := 12) (v := .ref (R 8)) hx hb hfX0 (fun _ h9 => h9) hown hk hW hM.1 rfl 8 (by decide) (hts (.fieldLink RX0 39 "JugsAndGlasses$Glasses" "leap" "[I") (by decide +kernel)) rfl rfl dX0_fewestTurned_18 ?_
        refine lv_iload_n hx hb dX0_fewestTurned_21 rfl (lv_at hl 1 rfl) ?_
        refine lv_bipush (v := J (8)) hx hb dX0_fewestTurned_22 (by decide) ?_
        refine j_imul hx hb dX0_fewestTurned_24 ?_
        refine lv_iload hx hb dX0_fewestTurned_25 (lv_at hl 4 rfl) ?_
        refine j_iadd hx hb dX0_fewestTurned_27 ?_
        have hlr := lp_r hsk (A 5 k) ch
        have hlq := hLE.2.2.2.2.2.2 k ch hk9.1 hk9.2 ha9.1 (by omega) (by omega)
        refine g_iald (n := L 8) (f := A 8) (i := (A 5 k) * 8 + ch) hx hb hk hW (hM.ai 8 (by decide) rfl) (by omega) (by omega) (by omega) dX0_fewestTurned_28 ?_
        rw [hlq.1]
        obtain ⟨v, ev9⟩ : ∃ v, v = lp (I 0) (A 1) (A 5 k) ch := ⟨_, rfl⟩
        rw [← ev9] at hlr hlq ⊢
        refine lv_istore (lv' := [(5, .int (J v)), (0, .ref o), (1, .int (J (A 5 k))), (2, .int (J sn)), (3, .int (J u)), (4, .int (J ch))]) hx hb dX0_fewestTurned_29 hl (by decide) rfl (fun ls hl => ?_)
        refine lv_iload hx hb dX0_fewestTurned_31 (lv_at hl 0 rfl) ?_
        refine lv_iconst (v := J (-1)) hx hb dX0_fewestTurned_33 rfl ?_
        refine j_icmp_eq (x := v) (y := (-1)) (tgt := 92) hx hb ⟨by omega, by omega⟩ ⟨by omega, by omega⟩ dX0_fewestTurned_34 (by decide) (fun c_34 => ?_) (fun c_34 => ?_)
        · refine lv_iinc (v := J (ch + 1)) (lv' := [(4, .int (J (ch + 1))), (5, .int (J v)), (0, .ref o), (1, .int (J (A 5 k))), (2, .int (J sn)), (3, .int (J u))]) hx hb dX0_fewestTurned_92 hl (k := 5) rfl (J_inc (by omega)) (by decide) rfl (fun ls hl => ?_)
          refine lv_goto (tgt := 6) hx hb dX0_fewestTurned_95 (by decide) ?_
          exact ih_6 (ch + 1) u h H locs ls (by omega) (by omega) (by first | exact FT_no hFT (Or.inl (by rw [← ev9]; exact c_34)) | exact FT_no hFT (Or.inr (Or.inl (by rw [← ev9]; omega))) | exact FT_no hFT (Or.inr (Or.inr ⟨by rw [← ev9]; exact c_34, by rw [← ev9]; have e8 : w = 1000000 := (by omega); rw [e8] at hBw; exact hBw, by omega⟩))) eh hM hAh hW hS (lv_sub hl [2, 3, 4, 5, 0] rfl)
        · refine lv_iload hx hb dX0_fewestTurned_37 (lv_at hl 0 rfl) ?_
          refine lv_bipush (v := J (16)) hx hb dX0_fewestTurned_39 (by decide) ?_
          refine j_irem hx hb (by omega) (by omega) (by omega) (by omega) dX0_fewestTurned_41 ?_
          refine lv_iload_n hx hb dX0_fewestTurned_42 rfl (lv_at hl 3 rfl) ?_
          refine j_icmp_le (x := v % 16) (y := sn) (tgt := 49) hx hb ⟨by omega, by omega⟩ ⟨by omega, by omega⟩ dX0_fewestTurned_43 (by decide) (fun c_43 => ?_) (fun c_43 => ?_)
          · refine lv_aload_n hx hb dX0_fewestTurned_49 rfl (lv_at hl 1 rfl) ?_
            refine g_get (ci := 0) (C := RX0) (T := TX0) (N := 12) (v := .ref (R 11)) hx hb hfX0 (fun _ h9 => h9) hown hk hW hM.1 rfl 11 (by decide) (hts (.fieldLink RX0 50 "JugsAndGlasses$Glasses" "ahead" "[[I") (by decide +kernel)) rfl rfl dX0_fewestTurned_50 ?_
            refine lv_iload_n hx hb dX0_fewestTurned_53 rfl (lv_at hl 3 rfl) ?_
            refine lv_iload hx hb dX0_fewestTurned_54 (lv_at hl 0 rfl) ?_
            refine lv_bipush (v := J (16)) hx hb dX0_fewestTurned_56 (by decide) ?_
            refine j_irem hx hb (by omega) (by omega) (by omega) (by omega) dX0_fewestTurned_58 ?_
            refine j_isub hx hb dX0_fewestTurned_59 ?_
            refine lv_bipush (v := J (13)) hx hb dX0_fewestTurned_60 (by decide) ?_
            refine j_irem hx hb (by omega) (by omega) (by omega) (by omega) dX0_fewestTurned_62 ?_
            refine g_aald (n := 13) (f := ad) (i := (sn - (v % 16)) % 13) hx hb hk hW hAh.1 (by omega) (by omega) (by decide) dX0_fewestTurned_63 ?_
            refine lv_iload hx hb dX0_fewestTurned_64 (lv_at hl 0 rfl) ?_
            refine lv_bipush (v := J (16)) hx hb dX0_fewestTurned_66 (by decide) ?_
            refine j_idiv hx hb (by omega) (by omega) (by omega) (by omega) dX0_fewestTurned_68 ?_
            refine g_iald (n := L 5) (f := Bh ((sn - (v % 16)) % 13)) (i := v / 16) hx hb hk hW (hAh.2.1 ((sn - (v % 16)) % 13) (by omega) (by omega)) (by omega) (by omega) (by omega) dX0_fewestTurned_69 ?_
            obtain ⟨j9, j0, j1, j2⟩ := hlq.2 (by omega)
            have hBw := hRG.1 (sn - v % 16) j9 (by omega) (by omega) (by omega) j0 j1
            rw [j2] at hBw
            obtain ⟨w, ew⟩ : ∃ w, w = Bh ((sn - v % 16) % 13) (v / 16) := ⟨_, rfl⟩
            rw [← ew] at hBw ⊢
            have hwr := BQ_r hBw
            refine lv_istore (lv' := [(6, .int (J w)), (5, .int (J v)), (0, .ref o), (1, .int (J (A 5 k))), (2, .int (J sn)), (3, .int (J u)), (4, .int (J ch))]) hx hb dX0_fewestTurned_70 hl (by decide) rfl (fun ls hl => ?_)
            refine lv_iload hx hb dX0_fewestTurned_72 (lv_at hl 0 rfl) ?_
            refine j_ldc (z := 1000000) hx hb (by decide) hown (hts (.constant RX0 79 (1000000)) (by decide +kernel)) dX0_fewestTurned_74 ?_
            refine j_icmp_ge (x := w) (y := 1000000) (tgt := 92) hx hb ⟨by omega, by omega⟩ ⟨by decide, by decide⟩ dX0_fewestTurned_76 (by decide) (fun c_76 => ?_) (fun c_76 => ?_)
            · refine lv_iinc (v := J (ch + 1)) (lv' := [(4, .int (J (ch + 1))), (6, .int (J w)), (5, .int (J v)), (0, .ref o), (1, .int (J (A 5 k))), (2, .int (J sn)), (3, .int (J u))]) hx hb dX0_fewestTurned_92 hl (k := 6) rfl (J_inc (by omega)) (by decide) rfl (fun ls hl => ?_)
              refine lv_goto (tgt := 6) hx hb dX0_fewestTurned_95 (by decide) ?_
              exact ih_6 (ch + 1) u h H locs ls (by omega) (by omega) (by first | exact FT_no hFT (Or.inl (by rw [← ev9]; exact c_34)) | exact FT_no hFT (Or.inr (Or.inl (by rw [← ev9]; omega))) | exact FT_no hFT (Or.inr (Or.inr ⟨by rw [← ev9]; exact c_34, by rw [← ev9]; have e8 : w = 1000000 := (by omega); rw [e8] at hBw; exact hBw, by omega⟩))) eh hM hAh hW hS (lv_sub hl [3, 4, 5, 6, 0] rfl)
            · refine lv_iload_n hx hb dX0_fewestTurned_79 rfl (lv_at hl 5 rfl) ?_
              refine lv_iload hx hb dX0_fewestTurned_80 (lv_at hl 0 rfl) ?_
              refine lv_iload hx hb dX0_fewestTurned_82 (lv_at hl 6 rfl) ?_
              refine g_callS (As := [.int (J ch)]) (rest := [.int (J w), .int (J u)]) ⟨hx, hb, hml, hown, hts⟩ (k_bits l g base sa h ch ⟨by omega, by omega⟩) (va_cwS 1 hts gX0_fewestTurned_J6_bitCount_0f7a4 rfl rfl rfl (by decide +kernel) ⟨Nat.le_of_ble_eq_true rfl, Nat.le_of_ble_eq_true rfl⟩) hk hW hS rfl hl.1 (Nat.le_of_ble_eq_true rfl) dX0_fewestTurned_84 ⟨Nat.le_of_ble_eq_true rfl, Nat.le_of_ble_eq_true rfl⟩ (fun r9 h9 H locs hp hW hS => ?_)
              obtain ⟨rfl, e9⟩ := hp
              rw [e9] at hW
              refine W.eq (g2 := F0 m 87 ls [.int (J (bc ch)), .int (J w), .int (J u)]) rfl ?_
              have hbc := bc_r ch
              refine j_iadd hx hb dX0_fewestTurned_87 ?_
              refine j_mmin (x := u) (y := w + (bc ch)) hx hb (by rw [hml]; exact hl.1.symm) hown (hts (.methodLink RX0 111 Lib.Math.min.name) (by decide +kernel)) (hts (.static Lib.Math.min.name) (by decide +kernel)) (hts (.initialized "java/lang/Math") (by decide +kernel)) (hts (.code Lib.Math.min.name Lib.Math.min.code 2 (some .int)) (by decide +kernel)) (Nat.le_of_ble_eq_true rfl) (Nat.le_of_ble_eq_true rfl) (Nat.le_of_ble_eq_true rfl) (Nat.le_of_ble_eq_true rfl) ⟨by omega, by omega⟩ ⟨by omega, by omega⟩ dX0_fewestTurned_88 ?_
              refine lv_istore_n (lv' := [(3, .int (J (min u (w + (bc ch))))), (6, .int (J w)), (5, .int (J v)), (0, .ref o), (1, .int (J (A 5 k))), (2, .int (J sn)), (4, .int (J ch))]) hx hb dX0_fewestTurned_91 rfl hl (by decide) rfl (fun ls hl => ?_)
              refine lv_iinc (v := J (ch + 1)) (lv' := [(4, .int (J (ch + 1))), (3, .int (J (min u (w + (bc ch))))), (6, .int (J w)), (5, .int (J v)), (0, .ref o), (1, .int (J (A 5 k))), (2, .int (J sn))]) hx hb dX0_fewestTurned_92 hl (k := 6) rfl (J_inc (by omega)) (by decide) rfl (fun ls hl => ?_)
              refine lv_goto (tgt := 6) hx hb dX0_fewestTurned_95 (by decide) ?_
              exact ih_6 (ch + 1) (min u (w + (bc ch))) h H locs ls (by omega) (by omega) (by rw [ev9] at hBw; exact FT_min hFT ha9.1 (by omega) (by rw [← ev9]; exact c_34) (by rw [← ev9]; omega) (by omega) hBw (by omega)) eh hM hAh hW hS (lv_sub hl [4, 5, 6, 1, 0] rfl)
          · refine lv_goto (tgt := 92) hx hb dX0_fewestTurned_46 (by decide) ?_
            refine lv_iinc (v := J (ch + 1)) (lv' := [(4, .int (J (ch + 1))), (5, .int (J v)), (0, .ref o), (1, .int (J (A 5 k))), (2, .int (J sn)), (3, .int (J u))]) hx hb dX0_fewestTurned_92 hl (k := 5) rfl (J_inc (by omega)) (by decide) rfl (fun ls hl => ?_)
            refine lv_goto (tgt := 6) hx hb dX0_fewestTurned_95 (by decide) ?_
            exact ih_6 (ch + 1) u h H locs ls (by omega) (by omega) (by first | exact FT_no hFT (Or.inl (by rw [← ev9]; exact c_34)) | exact FT_no hFT (Or.inr (Or.inl (by rw [← ev9]; omega))) | exact FT_no hFT (Or.inr (Or.inr ⟨by rw [← ev9]; exact c_34, by rw [← ev9]; have e8 : w = 1000000 := (by omega); rw [e8] at hBw; exact hBw, by omega⟩))) eh hM hAh hW hS (lv_sub hl [2, 3, 4, 5, 0] rfl)
  exact loop_6 9 0 1000000 h0 s.heap [] ls (by omega) (by omega) (FT_0 _ _ _ _ _) rfl hM hAh hW hS (lv_sub hl [2, 3, 4, 1, 0] rfl)

set_option maxHeartbeats 4000000 in
set_option maxRecDepth 100000 in
theorem g_lookAhead (l : Launch) (g : GX) (base : Nat) (sa : Nat → Nat) (h0 : Hp) (o : Nat) (R : Nat → Nat) (I : Nat → Int) (L : Nat → Int) (A : Nat → Int → Int) (sn : Int) (ad : Int → Nat) (Bh : Int → Int → Int) (hM : OB g 0 12 kd0 h0 o R I L A) (hL1 : L 1 = 3) (hsk : Sok (I 0) (A 1)) (hL6 : k_states (I 0) ≤ L 6 ∧ L 6 ≤ 1728 ∧ L 5 = L 6 ∧ L 8 = 8 * L 6 ∧ L 9 = L 6 ∧ L 10 = L 6) (hLE : LE (k_states (I 0)) (L 6) (lp (I 0) (A 1)) (2 ^ (I 0).toNat) (A 5) (A 6) (A 8) (I 7) (8 * I 7)) (hs9 : 0 ≤ sn ∧ sn ≤ 40) (hAh : AH g h0 (R 11) (L 5) ad Bh) (hap : ∀ q, FP 12 kd0 o R q → ¬ FA (R 11) ad q) (hRG0 : RG (lp (I 0) (A 1)) (2 ^ (I 0).toNat) (A 5) (I 7) Bh sn 0) : MC l g base sa yX0_lookAhead wsX0_lookAhead ({ frames := 2, cells := 0, slots := 0, locals := 46 }) ([.ref o, .int (J sn)]) h0 (fun r9 h' => r9 = none ∧ Fr (FA (R 11) ad) h0 h' ∧ OB g 0 12 kd0 h' o R I L A ∧ ∃ B2, AH g h' (R 11) (L 5) ad B2 ∧ RG (lp (I 0) (A 1)) (2 ^ (I 0).toNat) (A 5) (I 7) B2 sn (I 7)) := by
  refine Met.ofW (cc := cX0_lookAhead) (maxL := 3) (ret := none) (by decide) rfl ?_
  intro p e s m args below meth c s₁ B hml hv
  obtain ⟨rfl, hk, hW⟩ := hv
  have hx := B.exec
  have hb := B.bytes
  have hr := B.returns
  have hts := atoms_spec (ws := wsX0_lookAhead) B.pre
  have hown : s.vm.findClass RX0 = some m.cls := findClass_of_methodNamed B.named
  have hlocks := B.notSynchronized
  have hfX0 : ∀ w ∈ wsX00, w.before ([.ref o, .int (J sn)]).toArray s = true := fun w h => hts w (List.mem_cons_of_mem _ (List.mem_append_right _ h))
  have hS : va_S (Ab base) s.heap s.heap [] := va_S.rf
  have hl := lv_entry ([.ref o, .int (J sn)]) (n := 3) (Nat.le_of_ble_eq_true rfl)
  rw [lg_entry_eq]
  generalize (lg_sl ([.ref o, .int (J sn)]) ++ List.replicate (3 - (lg_sl ([.ref o, .int (J sn)])).length) Slot.unset).toArray = ls at hl ⊢
  have hl : lv_has ls 3 [(0, .ref o), (1, .int (J sn))] := hl
  have hF : Fr (FA (R 11) ad) h0 h0 := Fr.rf
  have hn1 := hsk.1
  have hn2 := hsk.2.1
  have hsr := st_r hn1 hn2
  have hp2n := p2n hn1 hn2
  have hNM := hL6.1
  have hr1 := hLE.1
  have hrN := hLE.2.1
  refine lv_iconst (v := J (0)) hx hb dX0_lookAhead_0 rfl ?_
  refine lv_istore_n (lv' := [(2, .int (J 0)), (0, .ref o), (1, .int (J sn))]) hx hb dX0_lookAhead_1 rfl hl (by decide) rfl (fun ls hl => ?_)
  have loop_2 : ∀ (n9 : Nat) (k : Int) (B2 : Int → Int → Int) (h : Hp) (H : Heap) (locs : List Loc) (ls : Array Slot), I 7 - k < (n9 : Int) → (0 ≤ k ∧ k ≤ I 7) → (RG (lp (I 0) (A 1)) (2 ^ (I 0).toNat) (A 5) (I 7) B2 sn k) → (OB g 0 12 kd0 h o R I L A) → (Fr (FA (R 11) ad) h0 h) → (AH g h (R 11) (L 5) ad B2) → (Wd g base h H) → (va_S (Ab base) s.heap H locs) → (lv_has ls 3 [(0, .ref o), (1, .int (J sn)), (2, .int (J k))]) → W p l e (headSpec wsX0_lookAhead ({ frames := 2, cells := 0, slots := 0, locals := 46 })).room s m ([.ref o, .int (J sn)]).toArray below meth c H locs 0 0 (MQ below (QcM g base (fun r9 h' => r9 = none ∧ Fr (FA (R 11) ad) h0 h' ∧ OB g 0 12 kd0 h' o R I L A ∧ ∃ B2, AH g h' (R 11) (L 5) ad B2 ∧ RG (lp (I 0) (A 1)) (2 ^ (I 0).toNat) (A 5) (I 7) B2 sn (I 7))) ([.ref o, .int (J sn)]).toArray s (0) (0) (Ab base)) (F0 m 2 ls []) := by
    intro n9
    induction n9 with
    | zero =>
      intro k B2 h H locs ls hmu hk9 hRG hM hF hAh hW hS hl
      exact absurd hmu (by omega)
    | succ n9 ih =>
      intro k B2 h H locs ls hmu hk9 hRG hM hF hAh hW hS hl
      have ih_2 := ih
      refine lv_iload_n hx hb dX0_lookAhead_2 rfl (lv_at hl 2 rfl) ?_
      refine lv_aload_n hx hb dX0_lookAhead_3 rfl (lv_at hl 0 rfl) ?_
      refine g_get (ci := 0) (C := RX0) (T := TX0) (N := 12) (v := .int (J (I 7))) hx hb hfX0 (fun _ h9 => h9) hown hk hW hM.1 rfl 7 (by decide) (hts (.fieldLink RX0 36 "JugsAndGlasses$Glasses" "listedEvents" "I") (by decide +kernel)) rfl rfl dX0_lookAhead_4 ?_
      refine j_icmp_ge (x := k) (y := I 7) (tgt := 60) hx hb ⟨by omega, by omega⟩ ⟨by omega, by omega⟩ dX0_lookAhead_7 (by decide) (fun c_7 => ?_) (fun c_7 => ?_)
      · exact g_vret hx hb hr hW hS dX0_lookAhead_60 hlocks (⟨rfl, hF, hM, B2, hAh, by have e9 : k = I 7 := (by omega); rw [e9] at hRG; exact hRG⟩)
      · refine lv_iload_n hx hb dX0_lookAhead_10 rfl (lv_at hl 2 rfl) ?_
        refine lv_aload_n hx hb dX0_lookAhead_11 rfl (lv_at hl 0 rfl) ?_
        refine g_get (ci := 0) (C := RX0) (T := TX0) (N := 12) (v := .ref (R 5)) hx hb hfX0 (fun _ h9 => h9) hown hk hW hM.1 rfl 5 (by decide) (hts (.fieldLink RX0 29 "JugsAndGlasses$Glasses" "events" "[I") (by decide +kernel)) rfl rfl dX0_lookAhead_12 ?_
        refine g_alen (n := L 5) hx hb hk hW (hM.ai 5 (by decide) rfl) (by omega) dX0_lookAhead_15 ?_
        refine j_icmp_ge (x := k) (y := L 5) (tgt := 60) hx hb ⟨by omega, by omega⟩ ⟨by omega, by omega⟩ dX0_lookAhead_16 (by decide) (fun c_16 => ?_) (fun c_16 => ?_)
        · exfalso
          omega
        · have hek := hLE.2.2.2.1 k hk9.1 (by omega)
          refine lv_aload_n hx hb dX0_lookAhead_19 rfl (lv_at hl 0 rfl) ?_
          refine g_get (ci := 0) (C := RX0) (T := TX0) (N := 12) (v := .ref (R 11)) hx hb hfX0 (fun _ h9 => h9) hown hk hW hM.1 rfl 11 (by decide) (hts (.fieldLink RX0 50 "JugsAndGlasses$Glasses" "ahead" "[[I") (by decide +kernel)) rfl rfl dX0_lookAhead_20 ?_
          refine lv_iload_n hx hb dX0_lookAhead_23 rfl (lv_at hl 1 rfl) ?_
          refine lv_bipush (v := J (13)) hx hb dX0_lookAhead_24 (by decide) ?_
          refine j_irem hx hb (by omega) (by omega) (by omega) (by omega) dX0_lookAhead_26 ?_
          refine g_aald (n := 13) (f := ad) (i := sn % 13) hx hb hk hW hAh.1 (by omega) (by omega) (by decide) dX0_lookAhead_27 ?_
          refine lv_aload_n hx hb dX0_lookAhead_28 rfl (lv_at hl 0 rfl) ?_
          refine g_get (ci := 0) (C := RX0) (T := TX0) (N := 12) (v := .ref (R 5)) hx hb hfX0 (fun _ h9 => h9) hown hk hW hM.1 rfl 5 (by decide) (hts (.fieldLink RX0 29 "JugsAndGlasses$Glasses" "events" "[I") (by decide +kernel)) rfl rfl dX0_lookAhead_29 ?_
          refine lv_iload_n hx hb dX0_lookAhead_32 rfl (lv_at hl 2 rfl) ?_
          refine g_iald (n := L 5) (f := A 5) (i := k) hx hb hk hW (hM.ai 5 (by decide) rfl) (by omega) (by omega) (by omega) dX0_lookAhead_33 ?_
          refine lv_iload_n hx hb dX0_lookAhead_34 rfl (lv_at hl 1 rfl) ?_
          refine j_if_ne (x := sn) (tgt := 42) hx hb ⟨by omega, by omega⟩ dX0_lookAhead_35 (by decide) (fun c_35 => ?_) (fun c_35 => ?_)
          · refine lv_aload_n hx hb dX0_lookAhead_42 rfl (lv_at hl 0 rfl) ?_
            refine lv_aload_n hx hb dX0_lookAhead_43 rfl (lv_at hl 0 rfl) ?_
            refine g_get (ci := 0) (C := RX0) (T := TX0) (N := 12) (v := .ref (R 5)) hx hb hfX0 (fun _ h9 => h9) hown hk hW hM.1 rfl 5 (by decide) (hts (.fieldLink RX0 29 "JugsAndGlasses$Glasses" "events" "[I") (by decide +kernel)) rfl rfl dX0_lookAhead_44 ?_
            refine lv_iload_n hx hb dX0_lookAhead_47 rfl (lv_at hl 2 rfl) ?_
            refine g_iald (n := L 5) (f := A 5) (i := k) hx hb hk hW (hM.ai 5 (by decide) rfl) (by omega) (by omega) (by omega) dX0_lookAhead_48 ?_
            refine lv_iload_n hx hb dX0_lookAhead_49 rfl (lv_at hl 1 rfl) ?_
            refine g_callV (As := [.int (J (A 5 k)), .int (J sn)]) (rest := [.int (J (A 5 k)), .ref (ad (sn % 13))]) (b := o) (ci := 0) (C := RX0) (T := TX0) (N := 12) ⟨hx, hb, hml, hown, hts⟩ (g_fewest l g base sa h o R I L A k sn ad B2 hM hL1 hsk hL6 hLE ⟨by omega, by omega⟩ ⟨by omega, by omega⟩ hAh hRG) (cwV 2 hts gX0_lookAhead_X0_fewestTurned rfl rfl rfl (by decide +kernel) ⟨Nat.le_of_ble_eq_true rfl, Nat.le_of_ble_eq_true rfl⟩) hk hW hS hM.1 rfl rfl hl.1 (Nat.le_of_ble_eq_true rfl) dX0_lookAhead_50 ⟨Nat.le_of_ble_eq_true rfl, Nat.le_of_ble_eq_true rfl⟩ (fun r9 h9 H locs hp hW hS => ?_)
            obtain ⟨⟨v, rfl, hBv⟩, e9⟩ := hp
            rw [e9] at hW
            refine W.eq (g2 := F0 m 53 ls [.int (J v), .int (J (A 5 k)), .ref (ad (sn % 13))]) rfl ?_
            refine g_iast (n := L 5) (f := B2 (sn % 13)) (i := A 5 k) (x := v) hx hb hk hW hS (hAh.2.1 (sn % 13) (by omega) (by omega)) (by omega) (by omega) (by omega) dX0_lookAhead_53 (fun H locs hW hS => ?_)
            have hM := hM.fr (P := fun z => z = ad (sn % 13)) (Fr.one (e := ai g (L 5) (uf (B2 (sn % 13)) (A 5 k) v))) (fun q w1 w2 => hap q w1 (by rw [w2]; exact Or.inr ⟨_, by omega, by omega, rfl⟩))
            have hF := hF.set (e := ai g (L 5) (uf (B2 (sn % 13)) (A 5 k) v)) (Or.inr ⟨sn % 13, by omega, by omega, rfl⟩)
            have hAh := hAh.st (i := sn % 13) (by omega) (by omega) (uf (B2 (sn % 13)) (A 5 k) v)
            generalize uh h (ad (sn % 13)) (ai g (L 5) (uf (B2 (sn % 13)) (A 5 k) v)) = h at hM hF hAh hW
            refine lv_iinc (v := J (k + 1)) (lv' := [(2, .int (J (k + 1))), (0, .ref o), (1, .int (J sn))]) hx hb dX0_lookAhead_54 hl (k := 2) rfl (J_inc (by omega)) (by decide) rfl (fun ls hl => ?_)
            refine lv_goto (tgt := 2) hx hb dX0_lookAhead_57 (by decide) ?_
            exact ih_2 (k + 1) (uf B2 (sn % 13) (uf (B2 (sn % 13)) (A 5 k) (v))) h H locs ls (by omega) (by omega) (RG_st hLE.2.2.2.2.2.1 hRG hs9.1 hk9.1 (by omega) hBv) hM hF hAh hW hS (lv_sub hl [1, 2, 0] rfl)
          · refine lv_iconst (v := J (0)) hx hb dX0_lookAhead_38 rfl ?_
            have hBv : BQ 1000000 (lp (I 0) (A 1)) (2 ^ (I 0).toNat) (A 5 k) sn 0 := by rw [c_35]; exact BQ_0 _ _ _ _
            refine lv_goto (tgt := 53) hx hb dX0_lookAhead_39 (by decide) ?_
            refine g_iast (n := L 5) (f := B2 (sn % 13)) (i := A 5 k) (x := 0) hx hb hk hW hS (hAh.2.1 (sn % 13) (by omega) (by omega)) (by omega) (by omega) (by omega) dX0_lookAhead_53 (fun H locs hW hS => ?_)
            have hM := hM.fr (P := fun z => z = ad (sn % 13)) (Fr.one (e := ai g (L 5) (uf (B2 (sn % 13)) (A 5 k) 0))) (fun q w1 w2 => hap q w1 (by rw [w2]; exact Or.inr ⟨_, by omega, by omega, rfl⟩))
            have hF := hF.set (e := ai g (L 5) (uf (B2 (sn % 13)) (A 5 k) 0)) (Or.inr ⟨sn % 13, by omega, by omega, rfl⟩)
            have hAh := hAh.st (i := sn % 13) (by omega) (by omega) (uf (B2 (sn % 13)) (A 5 k) 0)
            generalize uh h (ad (sn % 13)) (ai g (L 5) (uf (B2 (sn % 13)) (A 5 k) 0)) = h at hM hF hAh hW
            refine lv_iinc (v := J (k + 1)) (lv' := [(2, .int (J (k + 1))), (0, .ref o), (1, .int (J sn))]) hx hb dX0_lookAhead_54 hl (k := 2) rfl (J_inc (by omega)) (by decide) rfl (fun ls hl => ?_)
            refine lv_goto (tgt := 2) hx hb dX0_lookAhead_57 (by decide) ?_
            exact ih_2 (k + 1) (uf B2 (sn % 13) (uf (B2 (sn % 13)) (A 5 k) (0))) h H locs ls (by omega) (by omega) (RG_st hLE.2.2.2.2.2.1 hRG hs9.1 hk9.1 (by omega) hBv) hM hF hAh hW hS (lv_sub hl [1, 2, 0] rfl)
  exact loop_2 ((I 7).toNat + 1) 0 Bh h0 s.heap [] ls (by omega) (by omega) hRG0 hM hF hAh hW hS (lv_sub hl [1, 2, 0] rfl)

set_option maxHeartbeats 4000000 in
set_option maxRecDepth 100000 in
theorem g_answer (l : Launch) (g : GX) (base : Nat) (sa : Nat → Nat) (h0 : Hp) (o : Nat) (R : Nat → Nat) (I : Nat → Int) (L : Nat → Int) (A : Nat → Int → Int) (sn : Int) (ad : Int → Nat) (Bh : Int → Int → Int) (hM : OB g 0 12 kd0 h0 o R I L A) (hL1 : L 1 = 3) (hsk : Sok (I 0) (A 1)) (hL6 : k_states (I 0) ≤ L 6 ∧ L 6 ≤ 1728 ∧ L 5 = L 6 ∧ L 8 = 8 * L 6 ∧ L 9 = L 6 ∧ L 10 = L 6) (hLE : LE (k_states (I 0)) (L 6) (lp (I 0) (A 1)) (2 ^ (I 0).toNat) (A 5) (A 6) (A 8) (I 7) (8 * I 7)) (hL23 : L 2 = 41 ∧ L 3 = 41) (hs9 : 0 ≤ sn ∧ sn ≤ 40) (hAh : AH g h0 (R 11) (L 5) ad Bh) (hEF : EF (lp (I 0) (A 1)) (2 ^ (I 0).toNat) (A 5) (I 7) (A 9) (A 10) 61 0 0) (hBq : ∀ i, 0 ≤ i → i < I 7 → BQ 1000000 (lp (I 0) (A 1)) (2 ^ (I 0).toNat) (A 5 i) sn (Bh (sn % 13) (A 5 i))) : MC l g base sa yX0_answer wsX0_answer ({ frames := 1, cells := 0, slots := 0, locals := 40 }) ([.ref o, .int (J sn)]) h0 (fun r9 h' => r9 = none ∧ Fr (FP 12 kd0 o R) h0 h' ∧ ∃ w t, OB g 0 12 kd0 h' o R I L (va_up (va_up A 2 (uf (A 2) sn w)) 3 (uf (A 3) sn t)) ∧ WT (lp (I 0) (A 1)) (2 ^ (I 0).toNat) sn w t) := by
  refine Met.ofW (cc := cX0_answer) (maxL := 7) (ret := none) (by decide) rfl ?_
  intro p e s m args below meth c s₁ B hml hv
  obtain ⟨rfl, hk, hW⟩ := hv
  have hx := B.exec
  have hb := B.bytes
  have hr := B.returns
  have hts := atoms_spec (ws := wsX0_answer) B.pre
  have hown : s.vm.findClass RX0 = some m.cls := findClass_of_methodNamed B.named
  have hlocks := B.notSynchronized
  have hfX0 : ∀ w ∈ wsX00, w.before ([.ref o, .int (J sn)]).toArray s = true := fun w h => hts w (List.mem_cons_of_mem _ (List.mem_append_right _ h))
  have hS : va_S (Ab base) s.heap s.heap [] := va_S.rf
  have hl := lv_entry ([.ref o, .int (J sn)]) (n := 7) (Nat.le_of_ble_eq_true rfl)
  rw [lg_entry_eq]
  generalize (lg_sl ([.ref o, .int (J sn)]) ++ List.replicate (7 - (lg_sl ([.ref o, .int (J sn)])).length) Slot.unset).toArray = ls at hl ⊢
  have hl : lv_has ls 7 [(0, .ref o), (1, .int (J sn))] := hl
  have hF : Fr (FP 12 kd0 o R) h0 h0 := Fr.rf
  have hn1 := hsk.1
  have hn2 := hsk.2.1
  have hsr := st_r hn1 hn2
  have hp2n := p2n hn1 hn2
  have hNM := hL6.1
  have hr1 := hLE.1
  have hrN := hLE.2.1
  refine j_ldc (z := 1000000) hx hb (by decide) hown (hts (.constant RX0 79 (1000000)) (by decide +kernel)) dX0_answer_0 ?_
  refine lv_istore_n (lv' := [(2, .int (J 1000000)), (0, .ref o), (1, .int (J sn))]) hx hb dX0_answer_2 rfl hl (by decide) rfl (fun ls hl => ?_)
  refine j_ldc (z := 1000000) hx hb (by decide) hown (hts (.constant RX0 79 (1000000)) (by decide +kernel)) dX0_answer_3 ?_
  refine lv_istore_n (lv' := [(3, .int (J 1000000)), (2, .int (J 1000000)), (0, .ref o), (1, .int (J sn))]) hx hb dX0_answer_5 rfl hl (by decide) rfl (fun ls hl => ?_)
  refine lv_iconst (v := J (0)) hx hb dX0_answer_6 rfl ?_
  refine lv_istore (lv' := [(4, .int (J 0)), (3, .int (J 1000000)), (2, .int (J 1000000)), (0, .ref o), (1, .int (J sn))]) hx hb dX0_answer_7 hl (by decide) rfl (fun ls hl => ?_)
  have loop_9 : ∀ (n9 : Nat) (le : Int) (su : Int) (k : Int) (h : Hp) (H : Heap) (locs : List Loc) (ls : Array Slot), I 7 - k < (n9 : Int) → (0 ≤ k ∧ k ≤ I 7) → (AN (A 5) (A 9) (A 10) (Bh (sn % 13)) k le su) → (h = h0) → (OB g 0 12 kd0 h o R I L A) → (Fr (FP 12 kd0 o R) h0 h) → (AH g h (R 11) (L 5) ad Bh) → (Wd g base h H) → (va_S (Ab base) s.heap H locs) → (lv_has ls 7 [(0, .ref o), (1, .int (J sn)), (2, .int (J le)), (3, .int (J su)), (4, .int (J k))]) → W p l e (headSpec wsX0_answer ({ frames := 1, cells := 0, slots := 0, locals := 40 })).room s m ([.ref o, .int (J sn)]).toArray below meth c H locs 0 0 (MQ below (QcM g base (fun r9 h' => r9 = none ∧ Fr (FP 12 kd0 o R) h0 h' ∧ ∃ w t, OB g 0 12 kd0 h' o R I L (va_up (va_up A 2 (uf (A 2) sn w)) 3 (uf (A 3) sn t)) ∧ WT (lp (I 0) (A 1)) (2 ^ (I 0).toNat) sn w t)) ([.ref o, .int (J sn)]).toArray s (0) (0) (Ab base)) (F0 m 9 ls []) := by
    intro n9
    induction n9 with
    | zero =>
      intro le su k h H locs ls hmu hk9 hAN eh hM hF hAh hW hS hl
      exact absurd hmu (by omega)
    | succ n9 ih =>
      intro le su k h H locs ls hmu hk9 hAN eh hM hF hAh hW hS hl
      have har := AN_r hAN
      have ih_9 := ih
      refine lv_iload hx hb dX0_answer_9 (lv_at hl 4 rfl) ?_
      refine lv_aload_n hx hb dX0_answer_11 rfl (lv_at hl 0 rfl) ?_
      refine g_get (ci := 0) (C := RX0) (T := TX0) (N := 12) (v := .int (J (I 7))) hx hb hfX0 (fun _ h9 => h9) hown hk hW hM.1 rfl 7 (by decide) (hts (.fieldLink RX0 36 "JugsAndGlasses$Glasses" "listedEvents" "I") (by decide +kernel)) rfl rfl dX0_answer_12 ?_
      refine j_icmp_ge (x := k) (y := I 7) (tgt := 127) hx hb ⟨by omega, by omega⟩ ⟨by omega, by omega⟩ dX0_answer_15 (by decide) (fun c_15 => ?_) (fun c_15 => ?_)
      · have e9 : k = I 7 := (by omega)
        rw [e9] at hAN
        refine lv_aload_n hx hb dX0_answer_127 rfl (lv_at hl 0 rfl) ?_
        refine g_get (ci := 0) (C := RX0) (T := TX0) (N := 12) (v := .ref (R 2)) hx hb hfX0 (fun _ h9 => h9) hown hk hW hM.1 rfl 2 (by decide) (hts (.fieldLink RX0 19 "JugsAndGlasses$Glasses" "waitOf" "[I") (by decide +kernel)) rfl rfl dX0_answer_128 ?_
        refine lv_iload_n hx hb dX0_answer_131 rfl (lv_at hl 1 rfl) ?_
        refine lv_iload_n hx hb dX0_answer_132 rfl (lv_at hl 2 rfl) ?_
        refine j_ldc (z := 1000000) hx hb (by decide) hown (hts (.constant RX0 79 (1000000)) (by decide +kernel)) dX0_answer_133 ?_
        refine j_icmp_ne (x := le) (y := 1000000) (tgt := 142) hx hb ⟨by omega, by omega⟩ ⟨by decide, by decide⟩ dX0_answer_135 (by decide) (fun c_135 => ?_) (fun c_135 => ?_)
        · refine lv_iload_n hx hb dX0_answer_142 rfl (lv_at hl 2 rfl) ?_
          refine o_iast (A' := (va_up A 2 (uf (A 2) sn le))) (i := sn) (x := le) hx hb hk hW hS hM hF 2 (by decide) rfl (FP.a 2 (by decide) ⟨by decide, by decide⟩) (by omega) (show sn < L 2 from by omega) (show L 2 < 2147483648 from by omega) rfl dX0_answer_143 (fun h H locs hM hF hst hW hS => ?_)
          refine lv_aload_n hx hb dX0_answer_144 rfl (lv_at hl 0 rfl) ?_
          refine g_get (ci := 0) (C := RX0) (T := TX0) (N := 12) (v := .ref (R 3)) hx hb hfX0 (fun _ h9 => h9) hown hk hW hM.1 rfl 3 (by decide) (hts (.fieldLink RX0 22 "JugsAndGlasses$Glasses" "turnsOf" "[I") (by decide +kernel)) rfl rfl dX0_answer_145 ?_
          refine lv_iload_n hx hb dX0_answer_148 rfl (lv_at hl 1 rfl) ?_
          refine lv_iload_n hx hb dX0_answer_149 rfl (lv_at hl 2 rfl) ?_
          refine j_ldc (z := 1000000) hx hb (by decide) hown (hts (.constant RX0 79 (1000000)) (by decide +kernel)) dX0_answer_150 ?_
          refine j_icmp_ne (x := le) (y := 1000000) (tgt := 159) hx hb ⟨by omega, by omega⟩ ⟨by decide, by decide⟩ dX0_answer_152 (by decide) (fun c_152 => ?_) (fun c_152 => ?_)
          · refine lv_iload_n hx hb dX0_answer_159 rfl (lv_at hl 3 rfl) ?_
            refine o_iast (A' := (va_up (va_up A 2 (uf (A 2) sn le)) 3 (uf (A 3) sn su))) (i := sn) (x := su) hx hb hk hW hS hM hF 3 (by decide) rfl (FP.a 3 (by decide) ⟨by decide, by decide⟩) (by omega) (show sn < L 3 from by omega) (show L 3 < 2147483648 from by omega) rfl dX0_answer_160 (fun h H locs hM hF hst hW hS => ?_)
            exact g_vret hx hb hr hW hS dX0_answer_161 hlocks (⟨rfl, hF, _, _, hM, by
                have h8 := AN_WT (z := 8 * I 7) hLE (by omega) hp2n.2 hEF hBq (by omega) hAN
                first | (rw [if_pos (by omega), if_pos (by omega)] at h8; exact h8) | (rw [if_neg (by omega), if_neg (by omega)] at h8; exact h8) | (exfalso; omega)⟩)
          · refine lv_iconst (v := J (-1)) hx hb dX0_answer_155 rfl ?_
            refine lv_goto (tgt := 160) hx hb dX0_answer_156 (by decide) ?_
            refine o_iast (A' := (va_up (va_up A 2 (uf (A 2) sn le)) 3 (uf (A 3) sn ((-1))))) (i := sn) (x := (-1)) hx hb hk hW hS hM hF 3 (by decide) rfl (FP.a 3 (by decide) ⟨by decide, by decide⟩) (by omega) (show sn < L 3 from by omega) (show L 3 < 2147483648 from by omega) rfl dX0_answer_160 (fun h H locs hM hF hst hW hS => ?_)
            exact g_vret hx hb hr hW hS dX0_answer_161 hlocks (⟨rfl, hF, _, _, hM, by
                have h8 := AN_WT (z := 8 * I 7) hLE (by omega) hp2n.2 hEF hBq (by omega) hAN
                first | (rw [if_pos (by omega), if_pos (by omega)] at h8; exact h8) | (rw [if_neg (by omega), if_neg (by omega)] at h8; exact h8) | (exfalso; omega)⟩)
        · refine lv_iconst (v := J (-1)) hx hb dX0_answer_138 rfl ?_
          refine lv_goto (tgt := 143) hx hb dX0_answer_139 (by decide) ?_
          refine o_iast (A' := (va_up A 2 (uf (A 2) sn ((-1))))) (i := sn) (x := (-1)) hx hb hk hW hS hM hF 2 (by decide) rfl (FP.a 2 (by decide) ⟨by decide, by decide⟩) (by omega) (show sn < L 2 from by omega) (show L 2 < 2147483648 from by omega) rfl dX0_answer_143 (fun h H locs hM hF hst hW hS => ?_)
          refine lv_aload_n hx hb dX0_answer_144 rfl (lv_at hl 0 rfl) ?_
          refine g_get (ci := 0) (C := RX0) (T := TX0) (N := 12) (v := .ref (R 3)) hx hb hfX0 (fun _ h9 => h9) hown hk hW hM.1 rfl 3 (by decide) (hts (.fieldLink RX0 22 "JugsAndGlasses$Glasses" "turnsOf" "[I") (by decide +kernel)) rfl rfl dX0_answer_145 ?_
          refine lv_iload_n hx hb dX0_answer_148 rfl (lv_at hl 1 rfl) ?_
          refine lv_iload_n hx hb dX0_answer_149 rfl (lv_at hl 2 rfl) ?_
          refine j_ldc (z := 1000000) hx hb (by decide) hown (hts (.constant RX0 79 (1000000)) (by decide +kernel)) dX0_answer_150 ?_
          refine j_icmp_ne (x := le) (y := 1000000) (tgt := 159) hx hb ⟨by omega, by omega⟩ ⟨by decide, by decide⟩ dX0_answer_152 (by decide) (fun c_152 => ?_) (fun c_152 => ?_)
          · refine lv_iload_n hx hb dX0_answer_159 rfl (lv_at hl 3 rfl) ?_
            refine o_iast (A' := (va_up (va_up A 2 (uf (A 2) sn ((-1)))) 3 (uf (A 3) sn su))) (i := sn) (x := su) hx hb hk hW hS hM hF 3 (by decide) rfl (FP.a 3 (by decide) ⟨by decide, by decide⟩) (by omega) (show sn < L 3 from by omega) (show L 3 < 2147483648 from by omega) rfl dX0_answer_160 (fun h H locs hM hF hst hW hS => ?_)
            exact g_vret hx hb hr hW hS dX0_answer_161 hlocks (⟨rfl, hF, _, _, hM, by
                have h8 := AN_WT (z := 8 * I 7) hLE (by omega) hp2n.2 hEF hBq (by omega) hAN
                first | (rw [if_pos (by omega), if_pos (by omega)] at h8; exact h8) | (rw [if_neg (by omega), if_neg (by omega)] at h8; exact h8) | (exfalso; omega)⟩)
          · refine lv_iconst (v := J (-1)) hx hb dX0_answer_155 rfl ?_
            refine lv_goto (tgt := 160) hx hb dX0_answer_156 (by decide) ?_
            refine o_iast (A' := (va_up (va_up A 2 (uf (A 2) sn ((-1)))) 3 (uf (A 3) sn ((-1))))) (i := sn) (x := (-1)) hx hb hk hW hS hM hF 3 (by decide) rfl (FP.a 3 (by decide) ⟨by decide, by decide⟩) (by omega) (show sn < L 3 from by omega) (show L 3 < 2147483648 from by omega) rfl dX0_answer_160 (fun h H locs hM hF hst hW hS => ?_)
            exact g_vret hx hb hr hW hS dX0_answer_161 hlocks (⟨rfl, hF, _, _, hM, by
                have h8 := AN_WT (z := 8 * I 7) hLE (by omega) hp2n.2 hEF hBq (by omega) hAN
                first | (rw [if_pos (by omega), if_pos (by omega)] at h8; exact h8) | (rw [if_neg (by omega), if_neg (by omega)] at h8; exact h8) | (exfalso; omega)⟩)
      · refine lv_iload hx hb dX0_answer_18 (lv_at hl 4 rfl) ?_
        refine lv_aload_n hx hb dX0_answer_20 rfl (lv_at hl 0 rfl) ?_
        refine g_get (ci := 0) (C := RX0) (T := TX0) (N := 12) (v := .ref (R 5)) hx hb hfX0 (fun _ h9 => h9) hown hk hW hM.1 rfl 5 (by decide) (hts (.fieldLink RX0 29 "JugsAndGlasses$Glasses" "events" "[I") (by decide +kernel)) rfl rfl dX0_answer_21 ?_
        refine g_alen (n := L 5) hx hb hk hW (hM.ai 5 (by decide) rfl) (by omega) dX0_answer_24 ?_
        refine j_icmp_ge (x := k) (y := L 5) (tgt := 127) hx hb ⟨by omega, by omega⟩ ⟨by omega, by omega⟩ dX0_answer_25 (by decide) (fun c_25 => ?_) (fun c_25 => ?_)
        · exfalso
          omega
        · have hek := hLE.2.2.2.1 k hk9.1 (by omega)
          have hbr := BQ_r (hBq k hk9.1 (by omega))
          have her : (A 9 (A 5 k) = 1000000 ∧ A 10 (A 5 k) = 1000000) ∨ (0 ≤ A 9 (A 5 k) ∧ A 9 (A 5 k) ≤ 73 ∧ 0 ≤ A 10 (A 5 k) ∧ A 10 (A 5 k) ≤ 3 * A 9 (A 5 k)) := by
            rcases hEF.1 k hk9.1 (by omega) with w | w
            · exact Or.inl w
            · exact Or.inr ⟨w.1, by omega, w.2.2.1, w.2.2.2.1⟩
          refine lv_aload_n hx hb dX0_answer_28 rfl (lv_at hl 0 rfl) ?_
          refine g_get (ci := 0) (C := RX0) (T := TX0) (N := 12) (v := .ref (R 5)) hx hb hfX0 (fun _ h9 => h9) hown hk hW hM.1 rfl 5 (by decide) (hts (.fieldLink RX0 29 "JugsAndGlasses$Glasses" "events" "[I") (by decide +kernel)) rfl rfl dX0_answer_29 ?_
          refine lv_iload hx hb dX0_answer_32 (lv_at hl 4 rfl) ?_
          refine g_iald (n := L 5) (f := A 5) (i := k) hx hb hk hW (hM.ai 5 (by decide) rfl) (by omega) (by omega) (by omega) dX0_answer_34 ?_
          refine lv_istore (lv' := [(5, .int (J (A 5 k))), (0, .ref o), (1, .int (J sn)), (2, .int (J le)), (3, .int (J su)), (4, .int (J k))]) hx hb dX0_answer_35 hl (by decide) rfl (fun ls hl => ?_)
          refine lv_aload_n hx hb dX0_answer_37 rfl (lv_at hl 1 rfl) ?_
          refine g_get (ci := 0) (C := RX0) (T := TX0) (N := 12) (v := .ref (R 11)) hx hb hfX0 (fun _ h9 => h9) hown hk hW hM.1 rfl 11 (by decide) (hts (.fieldLink RX0 50 "JugsAndGlasses$Glasses" "ahead" "[[I") (by decide +kernel)) rfl rfl dX0_answer_38 ?_
          refine lv_iload_n hx hb dX0_answer_41 rfl (lv_at hl 2 rfl) ?_
          refine lv_bipush (v := J (13)) hx hb dX0_answer_42 (by decide) ?_
          refine j_irem hx hb (by omega) (by omega) (by omega) (by omega) dX0_answer_44 ?_
          refine g_aald (n := 13) (f := ad) (i := sn % 13) hx hb hk hW hAh.1 (by omega) (by omega) (by decide) dX0_answer_45 ?_
          refine lv_iload hx hb dX0_answer_46 (lv_at hl 0 rfl) ?_
          refine g_iald (n := L 5) (f := Bh (sn % 13)) (i := A 5 k) hx hb hk hW (hAh.2.1 (sn % 13) (by omega) (by omega)) (by omega) (by omega) (by omega) dX0_answer_48 ?_
          refine lv_istore (lv' := [(6, .int (J (Bh (sn % 13) (A 5 k)))), (5, .int (J (A 5 k))), (0, .ref o), (1, .int (J sn)), (2, .int (J le)), (3, .int (J su)), (4, .int (J k))]) hx hb dX0_answer_49 hl (by decide) rfl (fun ls hl => ?_)
          refine lv_iload hx hb dX0_answer_51 (lv_at hl 0 rfl) ?_
          refine j_ldc (z := 1000000) hx hb (by decide) hown (hts (.constant RX0 79 (1000000)) (by decide +kernel)) dX0_answer_53 ?_
          refine j_icmp_eq (x := Bh (sn % 13) (A 5 k)) (y := 1000000) (tgt := 121) hx hb ⟨by omega, by omega⟩ ⟨by decide, by decide⟩ dX0_answer_55 (by decide) (fun c_55 => ?_) (fun c_55 => ?_)
          · refine lv_iinc (v := J (k + 1)) (lv' := [(4, .int (J (k + 1))), (6, .int (J (Bh (sn % 13) (A 5 k)))), (5, .int (J (A 5 k))), (0, .ref o), (1, .int (J sn)), (2, .int (J le)), (3, .int (J su))]) hx hb dX0_answer_121 hl (k := 6) rfl (J_inc (by omega)) (by decide) rfl (fun ls hl => ?_)
            refine lv_goto (tgt := 9) hx hb dX0_answer_124 (by decide) ?_
            exact ih_9 le su (k + 1) h H locs ls (by omega) (by omega) (AN_no hAN hk9.1 (by omega)) eh hM hF hAh hW hS (lv_sub hl [3, 4, 5, 6, 0] rfl)
          · refine lv_aload_n hx hb dX0_answer_58 rfl (lv_at hl 2 rfl) ?_
            refine g_get (ci := 0) (C := RX0) (T := TX0) (N := 12) (v := .ref (R 9)) hx hb hfX0 (fun _ h9 => h9) hown hk hW hM.1 rfl 9 (by decide) (hts (.fieldLink RX0 42 "JugsAndGlasses$Glasses" "early" "[I") (by decide +kernel)) rfl rfl dX0_answer_59 ?_
            refine lv_iload hx hb dX0_answer_62 (lv_at hl 1 rfl) ?_
            refine g_iald (n := L 9) (f := A 9) (i := A 5 k) hx hb hk hW (hM.ai 9 (by decide) rfl) (by omega) (by omega) (by omega) dX0_answer_64 ?_
            refine lv_bipush (v := J (60)) hx hb dX0_answer_65 (by decide) ?_
            refine j_icmp_gt (x := A 9 (A 5 k)) (y := 60) (tgt := 121) hx hb ⟨by omega, by omega⟩ ⟨by decide, by decide⟩ dX0_answer_67 (by decide) (fun c_67 => ?_) (fun c_67 => ?_)
            · refine lv_iinc (v := J (k + 1)) (lv' := [(4, .int (J (k + 1))), (6, .int (J (Bh (sn % 13) (A 5 k)))), (5, .int (J (A 5 k))), (0, .ref o), (1, .int (J sn)), (2, .int (J le)), (3, .int (J su))]) hx hb dX0_answer_121 hl (k := 6) rfl (J_inc (by omega)) (by decide) rfl (fun ls hl => ?_)
              refine lv_goto (tgt := 9) hx hb dX0_answer_124 (by decide) ?_
              exact ih_9 le su (k + 1) h H locs ls (by omega) (by omega) (AN_no hAN hk9.1 (by omega)) eh hM hF hAh hW hS (lv_sub hl [3, 4, 5, 6, 0] rfl)
            · refine lv_aload_n hx hb dX0_answer_70 rfl (lv_at hl 2 rfl) ?_
              refine g_get (ci := 0) (C := RX0) (T := TX0) (N := 12) (v := .ref (R 9)) hx hb hfX0 (fun _ h9 => h9) hown hk hW hM.1 rfl 9 (by decide) (hts (.fieldLink RX0 42 "JugsAndGlasses$Glasses" "early" "[I") (by decide +kernel)) rfl rfl dX0_answer_71 ?_
              refine lv_iload hx hb dX0_answer_74 (lv_at hl 1 rfl) ?_
              refine g_iald (n := L 9) (f := A 9) (i := A 5 k) hx hb hk hW (hM.ai 9 (by decide) rfl) (by omega) (by omega) (by omega) dX0_answer_76 ?_
              refine lv_iload_n hx hb dX0_answer_77 rfl (lv_at hl 4 rfl) ?_
              refine j_icmp_le (x := A 9 (A 5 k)) (y := le) (tgt := 84) hx hb ⟨by omega, by omega⟩ ⟨by omega, by omega⟩ dX0_answer_78 (by decide) (fun c_78 => ?_) (fun c_78 => ?_)
              · refine lv_aload_n hx hb dX0_answer_84 rfl (lv_at hl 2 rfl) ?_
                refine g_get (ci := 0) (C := RX0) (T := TX0) (N := 12) (v := .ref (R 9)) hx hb hfX0 (fun _ h9 => h9) hown hk hW hM.1 rfl 9 (by decide) (hts (.fieldLink RX0 42 "JugsAndGlasses$Glasses" "early" "[I") (by decide +kernel)) rfl rfl dX0_answer_85 ?_
                refine lv_iload hx hb dX0_answer_88 (lv_at hl 1 rfl) ?_
                refine g_iald (n := L 9) (f := A 9) (i := A 5 k) hx hb hk hW (hM.ai 9 (by decide) rfl) (by omega) (by omega) (by omega) dX0_answer_90 ?_
                refine lv_iload_n hx hb dX0_answer_91 rfl (lv_at hl 4 rfl) ?_
                refine j_icmp_ge (x := A 9 (A 5 k)) (y := le) (tgt := 106) hx hb ⟨by omega, by omega⟩ ⟨by omega, by omega⟩ dX0_answer_92 (by decide) (fun c_92 => ?_) (fun c_92 => ?_)
                · refine lv_iload_n hx hb dX0_answer_106 rfl (lv_at hl 5 rfl) ?_
                  refine lv_aload_n hx hb dX0_answer_107 rfl (lv_at hl 2 rfl) ?_
                  refine g_get (ci := 0) (C := RX0) (T := TX0) (N := 12) (v := .ref (R 10)) hx hb hfX0 (fun _ h9 => h9) hown hk hW hM.1 rfl 10 (by decide) (hts (.fieldLink RX0 45 "JugsAndGlasses$Glasses" "turned" "[I") (by decide +kernel)) rfl rfl dX0_answer_108 ?_
                  refine lv_iload hx hb dX0_answer_111 (lv_at hl 1 rfl) ?_
                  refine g_iald (n := L 10) (f := A 10) (i := A 5 k) hx hb hk hW (hM.ai 10 (by decide) rfl) (by omega) (by omega) (by omega) dX0_answer_113 ?_
                  refine lv_iload hx hb dX0_answer_114 (lv_at hl 0 rfl) ?_
                  refine j_iadd hx hb dX0_answer_116 ?_
                  refine j_mmin (x := su) (y := (A 10 (A 5 k)) + (Bh (sn % 13) (A 5 k))) hx hb (by rw [hml]; exact hl.1.symm) hown (hts (.methodLink RX0 111 Lib.Math.min.name) (by decide +kernel)) (hts (.static Lib.Math.min.name) (by decide +kernel)) (hts (.initialized "java/lang/Math") (by decide +kernel)) (hts (.code Lib.Math.min.name Lib.Math.min.code 2 (some .int)) (by decide +kernel)) (Nat.le_of_ble_eq_true rfl) (Nat.le_of_ble_eq_true rfl) (Nat.le_of_ble_eq_true rfl) (Nat.le_of_ble_eq_true rfl) ⟨by omega, by omega⟩ ⟨by omega, by omega⟩ dX0_answer_117 ?_
                  refine lv_istore_n (lv' := [(3, .int (J (min su ((A 10 (A 5 k)) + (Bh (sn % 13) (A 5 k)))))), (6, .int (J (Bh (sn % 13) (A 5 k)))), (5, .int (J (A 5 k))), (0, .ref o), (1, .int (J sn)), (2, .int (J le)), (4, .int (J k))]) hx hb dX0_answer_120 rfl hl (by decide) rfl (fun ls hl => ?_)
                  refine lv_iinc (v := J (k + 1)) (lv' := [(4, .int (J (k + 1))), (3, .int (J (min su ((A 10 (A 5 k)) + (Bh (sn % 13) (A 5 k)))))), (6, .int (J (Bh (sn % 13) (A 5 k)))), (5, .int (J (A 5 k))), (0, .ref o), (1, .int (J sn)), (2, .int (J le))]) hx hb dX0_answer_121 hl (k := 6) rfl (J_inc (by omega)) (by decide) rfl (fun ls hl => ?_)
                  refine lv_goto (tgt := 9) hx hb dX0_answer_124 (by decide) ?_
                  exact ih_9 le (min su ((A 10 (A 5 k)) + (Bh (sn % 13) (A 5 k)))) (k + 1) h H locs ls (by omega) (by omega) (AN_more hAN hk9.1 (by omega) (by omega) (by omega) (by omega)) eh hM hF hAh hW hS (lv_sub hl [4, 5, 6, 1, 0] rfl)
                · refine lv_aload_n hx hb dX0_answer_95 rfl (lv_at hl 2 rfl) ?_
                  refine g_get (ci := 0) (C := RX0) (T := TX0) (N := 12) (v := .ref (R 9)) hx hb hfX0 (fun _ h9 => h9) hown hk hW hM.1 rfl 9 (by decide) (hts (.fieldLink RX0 42 "JugsAndGlasses$Glasses" "early" "[I") (by decide +kernel)) rfl rfl dX0_answer_96 ?_
                  refine lv_iload hx hb dX0_answer_99 (lv_at hl 1 rfl) ?_
                  refine g_iald (n := L 9) (f := A 9) (i := A 5 k) hx hb hk hW (hM.ai 9 (by decide) rfl) (by omega) (by omega) (by omega) dX0_answer_101 ?_
                  refine lv_istore_n (lv' := [(2, .int (J (A 9 (A 5 k)))), (6, .int (J (Bh (sn % 13) (A 5 k)))), (5, .int (J (A 5 k))), (0, .ref o), (1, .int (J sn)), (3, .int (J su)), (4, .int (J k))]) hx hb dX0_answer_102 rfl hl (by decide) rfl (fun ls hl => ?_)
                  refine j_ldc (z := 1000000) hx hb (by decide) hown (hts (.constant RX0 79 (1000000)) (by decide +kernel)) dX0_answer_103 ?_
                  refine lv_istore_n (lv' := [(3, .int (J 1000000)), (2, .int (J (A 9 (A 5 k)))), (6, .int (J (Bh (sn % 13) (A 5 k)))), (5, .int (J (A 5 k))), (0, .ref o), (1, .int (J sn)), (4, .int (J k))]) hx hb dX0_answer_105 rfl hl (by decide) rfl (fun ls hl => ?_)
                  refine lv_iload_n hx hb dX0_answer_106 rfl (lv_at hl 0 rfl) ?_
                  refine lv_aload_n hx hb dX0_answer_107 rfl (lv_at hl 4 rfl) ?_
                  refine g_get (ci := 0) (C := RX0) (T := TX0) (N := 12) (v := .ref (R 10)) hx hb hfX0 (fun _ h9 => h9) hown hk hW hM.1 rfl 10 (by decide) (hts (.fieldLink RX0 45 "JugsAndGlasses$Glasses" "turned" "[I") (by decide +kernel)) rfl rfl dX0_answer_108 ?_
                  refine lv_iload hx hb dX0_answer_111 (lv_at hl 3 rfl) ?_
                  refine g_iald (n := L 10) (f := A 10) (i := A 5 k) hx hb hk hW (hM.ai 10 (by decide) rfl) (by omega) (by omega) (by omega) dX0_answer_113 ?_
                  refine lv_iload hx hb dX0_answer_114 (lv_at hl 2 rfl) ?_
                  refine j_iadd hx hb dX0_answer_116 ?_
                  refine j_mmin (x := 1000000) (y := (A 10 (A 5 k)) + (Bh (sn % 13) (A 5 k))) hx hb (by rw [hml]; exact hl.1.symm) hown (hts (.methodLink RX0 111 Lib.Math.min.name) (by decide +kernel)) (hts (.static Lib.Math.min.name) (by decide +kernel)) (hts (.initialized "java/lang/Math") (by decide +kernel)) (hts (.code Lib.Math.min.name Lib.Math.min.code 2 (some .int)) (by decide +kernel)) (Nat.le_of_ble_eq_true rfl) (Nat.le_of_ble_eq_true rfl) (Nat.le_of_ble_eq_true rfl) (Nat.le_of_ble_eq_true rfl) ⟨by decide, by decide⟩ ⟨by omega, by omega⟩ dX0_answer_117 ?_
                  refine lv_istore_n (lv' := [(3, .int (J (min 1000000 ((A 10 (A 5 k)) + (Bh (sn % 13) (A 5 k)))))), (2, .int (J (A 9 (A 5 k)))), (6, .int (J (Bh (sn % 13) (A 5 k)))), (5, .int (J (A 5 k))), (0, .ref o), (1, .int (J sn)), (4, .int (J k))]) hx hb dX0_answer_120 rfl hl (by decide) rfl (fun ls hl => ?_)
                  refine lv_iinc (v := J (k + 1)) (lv' := [(4, .int (J (k + 1))), (3, .int (J (min 1000000 ((A 10 (A 5 k)) + (Bh (sn % 13) (A 5 k)))))), (2, .int (J (A 9 (A 5 k)))), (6, .int (J (Bh (sn % 13) (A 5 k)))), (5, .int (J (A 5 k))), (0, .ref o), (1, .int (J sn))]) hx hb dX0_answer_121 hl (k := 6) rfl (J_inc (by omega)) (by decide) rfl (fun ls hl => ?_)
                  refine lv_goto (tgt := 9) hx hb dX0_answer_124 (by decide) ?_
                  exact ih_9 (A 9 (A 5 k)) (min 1000000 ((A 10 (A 5 k)) + (Bh (sn % 13) (A 5 k)))) (k + 1) h H locs ls (by omega) (by omega) (AN_new hAN hk9.1 (by omega) (by omega) (by omega) (by omega) (by omega)) eh hM hF hAh hW hS (lv_sub hl [5, 6, 2, 1, 0] rfl)
              · refine lv_goto (tgt := 121) hx hb dX0_answer_81 (by decide) ?_
                refine lv_iinc (v := J (k + 1)) (lv' := [(4, .int (J (k + 1))), (6, .int (J (Bh (sn % 13) (A 5 k)))), (5, .int (J (A 5 k))), (0, .ref o), (1, .int (J sn)), (2, .int (J le)), (3, .int (J su))]) hx hb dX0_answer_121 hl (k := 6) rfl (J_inc (by omega)) (by decide) rfl (fun ls hl => ?_)
                refine lv_goto (tgt := 9) hx hb dX0_answer_124 (by decide) ?_
                exact ih_9 le su (k + 1) h H locs ls (by omega) (by omega) (AN_no hAN hk9.1 (by omega)) eh hM hF hAh hW hS (lv_sub hl [3, 4, 5, 6, 0] rfl)
  exact loop_9 ((I 7).toNat + 1) 1000000 1000000 0 h0 s.heap [] ls (by omega) (by omega) (AN_0 _ _ _ _) rfl hM hF hAh hW hS (lv_sub hl [3, 4, 2, 1, 0] rfl)
