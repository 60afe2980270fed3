set_option maxHeartbeats 4000000 in
set_option maxRecDepth 100000 in
theorem g_fewest (l : Launch) (g : GX) (base : Nat) (sa : Nat → Nat) (h0 : Hp) (o : Nat) (R : Nat → Nat) (I : Nat → Int) (L : Nat → Int) (A : Nat → Int → Int) (k sn : Int) (hM : OB g 0 12 kd0 h0 o R I L A) (hL1 : L 1 = 3) (hsk : Sok (I 0) (A 1)) (hL6 : k_states (I 0) ≤ L 6 ∧ L 6 ≤ 1728 ∧ L 5 = L 6 ∧ L 8 = 8 * L 6 ∧ L 9 = L 6 ∧ L 10 = L 6) (hL11 : L 11 = 13 * L 6) (hLE : LE (k_states (I 0)) (L 6) (lp (I 0) (A 1)) (2 ^ (I 0).toNat) (A 5) (A 6) (A 8) (I 7) (8 * I 7)) (hk9 : 0 ≤ k ∧ k < I 7) (hs9 : 1 ≤ sn ∧ sn ≤ 40) (hRG : RG (lp (I 0) (A 1)) (2 ^ (I 0).toNat) (A 5) (I 7) (Bf (A 11)) sn k) : MC l g base sa yX0_fewestTurned wsX0_fewestTurned ({ frames := 2, cells := 0, slots := 0, locals := 60 }) ([.ref o, .int (J (A 5 k)), .int (J sn)]) h0 (fun r9 h' => (∃ v, r9 = some (.int (J v)) ∧ BQ 1000000 (lp (I 0) (A 1)) (2 ^ (I 0).toNat) (A 5 k) sn v) ∧ h' = h0) := by
  refine Met.ofW (cc := cX0_fewestTurned) (maxL := 7) (ret := (some .int)) (by decide) rfl ?_
  intro p e s m args below meth c s₁ B hml hv
  obtain ⟨rfl, hk, hW⟩ := hv
  have hx := B.exec
  have hb := B.bytes
  have hr := B.returns
  have hts := atoms_spec (ws := wsX0_fewestTurned) B.pre
  have hown : s.vm.findClass RX0 = some m.cls := findClass_of_methodNamed B.named
  have hlocks := B.notSynchronized
  have hfX0 : ∀ w ∈ wsX00, w.before ([.ref o, .int (J (A 5 k)), .int (J sn)]).toArray s = true := fun w h => hts w (List.mem_cons_of_mem _ (List.mem_append_right _ h))
  have hS : va_S (Ab base) s.heap s.heap [] := va_S.rf
  have hl := lv_entry ([.ref o, .int (J (A 5 k)), .int (J sn)]) (n := 7) (Nat.le_of_ble_eq_true rfl)
  rw [lg_entry_eq]
  generalize (lg_sl ([.ref o, .int (J (A 5 k)), .int (J sn)]) ++ List.replicate (7 - (lg_sl ([.ref o, .int (J (A 5 k)), .int (J sn)])).length) Slot.unset).toArray = ls at hl ⊢
  have hl : lv_has ls 7 [(0, .ref o), (1, .int (J (A 5 k))), (2, .int (J sn))] := hl
  have hn1 := hsk.1
  have hn2 := hsk.2.1
  have hsr := st_r hn1 hn2
  have hp2n := p2n hn1 hn2
  have hNM := hL6.1
  have hr1 := hLE.1
  have hrN := hLE.2.1
  have hek := hLE.2.2.2.1 k hk9.1 hk9.2
  refine j_ldc (z := 1000000) hx hb (by decide) hown (hts (.constant RX0 77 (1000000)) (by decide +kernel)) dX0_fewestTurned_0 ?_
  refine lv_istore_n (lv' := [(3, .int (J 1000000)), (0, .ref o), (1, .int (J (A 5 k))), (2, .int (J sn))]) hx hb dX0_fewestTurned_2 rfl hl (by decide) rfl (fun ls hl => ?_)
  refine lv_iconst (v := J (0)) hx hb dX0_fewestTurned_3 rfl ?_
  refine lv_istore (lv' := [(4, .int (J 0)), (3, .int (J 1000000)), (0, .ref o), (1, .int (J (A 5 k))), (2, .int (J sn))]) hx hb dX0_fewestTurned_4 hl (by decide) rfl (fun ls hl => ?_)
  have loop_6 : ∀ (n9 : Nat) (ch : Int) (u : Int) (h : Hp) (H : Heap) (locs : List Loc) (ls : Array Slot), 2 ^ (I 0).toNat - ch < (n9 : Int) → (0 ≤ ch ∧ ch ≤ 2 ^ (I 0).toNat) → (FT 1000000 (lp (I 0) (A 1)) (2 ^ (I 0).toNat) (A 5 k) sn ch u) → (h = h0) → (OB g 0 12 kd0 h o R I L A) → (Wd g base h H) → (va_S (Ab base) s.heap H locs) → (lv_has ls 7 [(0, .ref o), (1, .int (J (A 5 k))), (2, .int (J sn)), (3, .int (J u)), (4, .int (J ch))]) → W p l e (headSpec wsX0_fewestTurned ({ frames := 2, cells := 0, slots := 0, locals := 60 })).room s m ([.ref o, .int (J (A 5 k)), .int (J sn)]).toArray below meth c H locs 0 0 (MQ below (QcM g base (fun r9 h' => (∃ v, r9 = some (.int (J v)) ∧ BQ 1000000 (lp (I 0) (A 1)) (2 ^ (I 0).toNat) (A 5 k) sn v) ∧ h' = h0)) ([.ref o, .int (J (A 5 k)), .int (J sn)]).toArray s (0) (0) (Ab base)) (F0 m 6 ls []) := by
    intro n9
    induction n9 with
    | zero =>
      intro ch u h H locs ls hmu ha9 hFT eh hM hW hS hl
      exact absurd hmu (by omega)
    | succ n9 ih =>
      intro ch u h H locs ls hmu ha9 hFT eh hM hW hS hl
      have hur := FT_r hFT
      have ih_6 := ih
      refine lv_iload hx hb dX0_fewestTurned_6 (lv_at hl 4 rfl) ?_
      refine lv_iconst (v := J (1)) hx hb dX0_fewestTurned_8 rfl ?_
      refine lv_aload_n hx hb dX0_fewestTurned_9 rfl (lv_at hl 0 rfl) ?_
      refine g_get (ci := 0) (C := RX0) (T := TX0) (N := 12) (v := .int (J (I 0))) hx hb hfX0 (fun _ h9 => h9) hown hk hW hM.1 rfl 0 (by decide) (hts (.fieldLink RX0 9 "JugsAndGlasses$Glasses" "number" "I") (by decide +kernel)) rfl rfl dX0_fewestTurned_10 ?_
      refine j_shl1 (y := I 0) hx hb (by omega) (by omega) dX0_fewestTurned_13 ?_
      refine j_icmp_ge (x := ch) (y := 2 ^ (I 0).toNat) (tgt := 88) hx hb ⟨by omega, by omega⟩ ⟨by omega, by omega⟩ dX0_fewestTurned_14 (by decide) (fun c_14 => ?_) (fun c_14 => ?_)
      · refine lv_iload_n hx hb dX0_fewestTurned_88 rfl (lv_at hl 3 rfl) ?_
        exact g_iret hx hb hr hW hS dX0_fewestTurned_89 hlocks (⟨⟨u, rfl, FT_end (by have e9 : ch = 2 ^ (I 0).toNat := (by omega); rw [e9] at hFT; exact hFT) (by omega)⟩, eh⟩)
      · refine lv_aload_n hx hb dX0_fewestTurned_17 rfl (lv_at hl 0 rfl) ?_
        refine lv_iload_n hx hb dX0_fewestTurned_18 rfl (lv_at hl 1 rfl) ?_
        refine lv_iload hx hb dX0_fewestTurned_19 (lv_at hl 4 rfl) ?_
        have hlr := lp_r hsk (A 5 k) ch
        have hlq := hLE.2.2.2.2.2.2 k ch hk9.1 hk9.2 ha9.1 (by omega) (by omega)
        refine g_callV (As := [.int (J (A 5 k)), .int (J ch)]) (rest := []) (b := o) (ci := 0) (C := RX0) (T := TX0) (N := 12) ⟨hx, hb, hml, hown, hts⟩ (g_leapBy l g base sa h o R I L A (A 5 k) ch hM ⟨by omega, by omega⟩ ⟨by omega, by omega⟩ ⟨by omega, by omega⟩) (cwV 2 hts gX0_fewestTurned_X0_leapBy rfl rfl rfl (by decide +kernel) ⟨Nat.le_of_ble_eq_true rfl, Nat.le_of_ble_eq_true rfl⟩) hk hW hS hM.1 rfl rfl hl.1 (Nat.le_of_ble_eq_true rfl) dX0_fewestTurned_21 ⟨Nat.le_of_ble_eq_true rfl, Nat.le_of_ble_eq_true rfl⟩ (fun r9 h9 H locs hp hW hS => ?_)
        have hp : r9 = some (.int (J (A 8 (A 5 k * 8 + ch)))) ∧ h9 = h := hp
        obtain ⟨rfl, e9⟩ := hp
        rw [e9] at hW
        refine W.eq (g2 := F0 m 24 ls [.int (J (A 8 (A 5 k * 8 + ch)))]) rfl ?_
        rw [hlq.1]
        obtain ⟨v, ev9⟩ : ∃ v, v = lp (I 0) (A 1) (A 5 k) ch := ⟨_, rfl⟩
        rw [← ev9] at hlr hlq ⊢
        refine lv_istore (lv' := [(5, .int (J v)), (0, .ref o), (1, .int (J (A 5 k))), (2, .int (J sn)), (3, .int (J u)), (4, .int (J ch))]) hx hb dX0_fewestTurned_24 hl (by decide) rfl (fun ls hl => ?_)
        refine lv_iload hx hb dX0_fewestTurned_26 (lv_at hl 0 rfl) ?_
        refine lv_iconst (v := J (-1)) hx hb dX0_fewestTurned_28 rfl ?_
        refine j_icmp_eq (x := v) (y := (-1)) (tgt := 82) hx hb ⟨by omega, by omega⟩ ⟨by omega, by omega⟩ dX0_fewestTurned_29 (by decide) (fun c_29 => ?_) (fun c_29 => ?_)
        · refine lv_iinc (v := J (ch + 1)) (lv' := [(4, .int (J (ch + 1))), (5, .int (J v)), (0, .ref o), (1, .int (J (A 5 k))), (2, .int (J sn)), (3, .int (J u))]) hx hb dX0_fewestTurned_82 hl (k := 5) rfl (J_inc (by omega)) (by decide) rfl (fun ls hl => ?_)
          refine lv_goto (tgt := 6) hx hb dX0_fewestTurned_85 (by decide) ?_
          exact ih_6 (ch + 1) u h H locs ls (by omega) (by omega) (by first | exact FT_no hFT (Or.inl (by rw [← ev9]; exact c_29)) | exact FT_no hFT (Or.inr (Or.inl (by rw [← ev9]; omega))) | exact FT_no hFT (Or.inr (Or.inr ⟨by rw [← ev9]; exact c_29, by rw [← ev9]; have e8 : w = 1000000 := (by omega); rw [e8] at hBw; exact hBw, by omega⟩))) eh hM hW hS (lv_sub hl [2, 3, 4, 5, 0] rfl)
        · refine lv_iload hx hb dX0_fewestTurned_32 (lv_at hl 0 rfl) ?_
          refine lv_bipush (v := J (16)) hx hb dX0_fewestTurned_34 (by decide) ?_
          refine j_irem hx hb (by omega) (by omega) (by omega) (by omega) dX0_fewestTurned_36 ?_
          refine lv_iload_n hx hb dX0_fewestTurned_37 rfl (lv_at hl 3 rfl) ?_
          refine j_icmp_le (x := v % 16) (y := sn) (tgt := 44) hx hb ⟨by omega, by omega⟩ ⟨by omega, by omega⟩ dX0_fewestTurned_38 (by decide) (fun c_38 => ?_) (fun c_38 => ?_)
          · refine lv_aload_n hx hb dX0_fewestTurned_44 rfl (lv_at hl 1 rfl) ?_
            refine lv_iload_n hx hb dX0_fewestTurned_45 rfl (lv_at hl 3 rfl) ?_
            refine lv_iload hx hb dX0_fewestTurned_46 (lv_at hl 0 rfl) ?_
            refine lv_bipush (v := J (16)) hx hb dX0_fewestTurned_48 (by decide) ?_
            refine j_irem hx hb (by omega) (by omega) (by omega) (by omega) dX0_fewestTurned_50 ?_
            refine j_isub hx hb dX0_fewestTurned_51 ?_
            refine lv_iload hx hb dX0_fewestTurned_52 (lv_at hl 0 rfl) ?_
            refine lv_bipush (v := J (16)) hx hb dX0_fewestTurned_54 (by decide) ?_
            refine j_idiv hx hb (by omega) (by omega) (by omega) (by omega) dX0_fewestTurned_56 ?_
            refine g_callV (As := [.int (J (sn - (v % 16))), .int (J (v / 16))]) (rest := []) (b := o) (ci := 0) (C := RX0) (T := TX0) (N := 12) ⟨hx, hb, hml, hown, hts⟩ (g_aheadAt l g base sa h o R I L A (sn - v % 16) (v / 16) hM ⟨by omega, by omega⟩ ⟨by omega, by omega⟩ ⟨by omega, by omega⟩) (cwV 2 hts gX0_fewestTurned_X0_aheadAt rfl rfl rfl (by decide +kernel) ⟨Nat.le_of_ble_eq_true rfl, Nat.le_of_ble_eq_true rfl⟩) hk hW hS hM.1 rfl rfl hl.1 (Nat.le_of_ble_eq_true rfl) dX0_fewestTurned_57 ⟨Nat.le_of_ble_eq_true rfl, Nat.le_of_ble_eq_true rfl⟩ (fun r9 h9 H locs hp hW hS => ?_)
            have hp : r9 = some (.int (J (Bf (A 11) ((sn - v % 16) % 13) (v / 16)))) ∧ h9 = h := hp
            obtain ⟨rfl, e9⟩ := hp
            rw [e9] at hW
            refine W.eq (g2 := F0 m 60 ls [.int (J (Bf (A 11) ((sn - v % 16) % 13) (v / 16)))]) rfl ?_
            obtain ⟨j9, j0, j1, j2⟩ := hlq.2 (by omega)
            have hBw := hRG.1 (sn - v % 16) j9 (by omega) (by omega) (by omega) j0 j1
            rw [j2] at hBw
            obtain ⟨w, ew⟩ : ∃ w, w = Bf (A 11) ((sn - v % 16) % 13) (v / 16) := ⟨_, rfl⟩
            rw [← ew] at hBw ⊢
            have hwr := BQ_r hBw
            refine lv_istore (lv' := [(6, .int (J w)), (5, .int (J v)), (0, .ref o), (1, .int (J (A 5 k))), (2, .int (J sn)), (3, .int (J u)), (4, .int (J ch))]) hx hb dX0_fewestTurned_60 hl (by decide) rfl (fun ls hl => ?_)
            refine lv_iload hx hb dX0_fewestTurned_62 (lv_at hl 0 rfl) ?_
            refine j_ldc (z := 1000000) hx hb (by decide) hown (hts (.constant RX0 77 (1000000)) (by decide +kernel)) dX0_fewestTurned_64 ?_
            refine j_icmp_ge (x := w) (y := 1000000) (tgt := 82) hx hb ⟨by omega, by omega⟩ ⟨by decide, by decide⟩ dX0_fewestTurned_66 (by decide) (fun c_66 => ?_) (fun c_66 => ?_)
            · refine lv_iinc (v := J (ch + 1)) (lv' := [(4, .int (J (ch + 1))), (6, .int (J w)), (5, .int (J v)), (0, .ref o), (1, .int (J (A 5 k))), (2, .int (J sn)), (3, .int (J u))]) hx hb dX0_fewestTurned_82 hl (k := 6) rfl (J_inc (by omega)) (by decide) rfl (fun ls hl => ?_)
              refine lv_goto (tgt := 6) hx hb dX0_fewestTurned_85 (by decide) ?_
              exact ih_6 (ch + 1) u h H locs ls (by omega) (by omega) (by first | exact FT_no hFT (Or.inl (by rw [← ev9]; exact c_29)) | exact FT_no hFT (Or.inr (Or.inl (by rw [← ev9]; omega))) | exact FT_no hFT (Or.inr (Or.inr ⟨by rw [← ev9]; exact c_29, by rw [← ev9]; have e8 : w = 1000000 := (by omega); rw [e8] at hBw; exact hBw, by omega⟩))) eh hM hW hS (lv_sub hl [3, 4, 5, 6, 0] rfl)
            · refine lv_iload_n hx hb dX0_fewestTurned_69 rfl (lv_at hl 5 rfl) ?_
              refine lv_iload hx hb dX0_fewestTurned_70 (lv_at hl 0 rfl) ?_
              refine lv_iload hx hb dX0_fewestTurned_72 (lv_at hl 6 rfl) ?_
              refine g_callS (As := [.int (J ch)]) (rest := [.int (J w), .int (J u)]) ⟨hx, hb, hml, hown, hts⟩ (k_bits l g base sa h ch ⟨by omega, by omega⟩) (va_cwS 1 hts gX0_fewestTurned_J6_bitCount_0f7a4 rfl rfl rfl (by decide +kernel) ⟨Nat.le_of_ble_eq_true rfl, Nat.le_of_ble_eq_true rfl⟩) hk hW hS rfl hl.1 (Nat.le_of_ble_eq_true rfl) dX0_fewestTurned_74 ⟨Nat.le_of_ble_eq_true rfl, Nat.le_of_ble_eq_true rfl⟩ (fun r9 h9 H locs hp hW hS => ?_)
              obtain ⟨rfl, e9⟩ := hp
              rw [e9] at hW
              refine W.eq (g2 := F0 m 77 ls [.int (J (bc ch)), .int (J w), .int (J u)]) rfl ?_
              have hbc := bc_r ch
              refine j_iadd hx hb dX0_fewestTurned_77 ?_
              refine j_mmin (x := u) (y := w + (bc ch)) hx hb (by rw [hml]; exact hl.1.symm) hown (hts (.methodLink RX0 128 Lib.Math.min.name) (by decide +kernel)) (hts (.static Lib.Math.min.name) (by decide +kernel)) (hts (.initialized "java/lang/Math") (by decide +kernel)) (hts (.code Lib.Math.min.name Lib.Math.min.code 2 (some .int)) (by decide +kernel)) (Nat.le_of_ble_eq_true rfl) (Nat.le_of_ble_eq_true rfl) (Nat.le_of_ble_eq_true rfl) (Nat.le_of_ble_eq_true rfl) ⟨by omega, by omega⟩ ⟨by omega, by omega⟩ dX0_fewestTurned_78 ?_
              refine lv_istore_n (lv' := [(3, .int (J (min u (w + (bc ch))))), (6, .int (J w)), (5, .int (J v)), (0, .ref o), (1, .int (J (A 5 k))), (2, .int (J sn)), (4, .int (J ch))]) hx hb dX0_fewestTurned_81 rfl hl (by decide) rfl (fun ls hl => ?_)
              refine lv_iinc (v := J (ch + 1)) (lv' := [(4, .int (J (ch + 1))), (3, .int (J (min u (w + (bc ch))))), (6, .int (J w)), (5, .int (J v)), (0, .ref o), (1, .int (J (A 5 k))), (2, .int (J sn))]) hx hb dX0_fewestTurned_82 hl (k := 6) rfl (J_inc (by omega)) (by decide) rfl (fun ls hl => ?_)
              refine lv_goto (tgt := 6) hx hb dX0_fewestTurned_85 (by decide) ?_
              exact ih_6 (ch + 1) (min u (w + (bc ch))) h H locs ls (by omega) (by omega) (by rw [ev9] at hBw; exact FT_min hFT ha9.1 (by omega) (by rw [← ev9]; exact c_29) (by rw [← ev9]; omega) (by omega) hBw (by omega)) eh hM hW hS (lv_sub hl [4, 5, 6, 1, 0] rfl)
          · refine lv_goto (tgt := 82) hx hb dX0_fewestTurned_41 (by decide) ?_
            refine lv_iinc (v := J (ch + 1)) (lv' := [(4, .int (J (ch + 1))), (5, .int (J v)), (0, .ref o), (1, .int (J (A 5 k))), (2, .int (J sn)), (3, .int (J u))]) hx hb dX0_fewestTurned_82 hl (k := 5) rfl (J_inc (by omega)) (by decide) rfl (fun ls hl => ?_)
            refine lv_goto (tgt := 6) hx hb dX0_fewestTurned_85 (by decide) ?_
            exact ih_6 (ch + 1) u h H locs ls (by omega) (by omega) (by first | exact FT_no hFT (Or.inl (by rw [← ev9]; exact c_29)) | exact FT_no hFT (Or.inr (Or.inl (by rw [← ev9]; omega))) | exact FT_no hFT (Or.inr (Or.inr ⟨by rw [← ev9]; exact c_29, by rw [← ev9]; have e8 : w = 1000000 := (by omega); rw [e8] at hBw; exact hBw, by omega⟩))) eh hM hW hS (lv_sub hl [2, 3, 4, 5, 0] rfl)
  exact loop_6 9 0 1000000 h0 s.heap [] ls (by omega) (by omega) (FT_0 _ _ _ _ _) rfl hM hW hS (lv_sub hl [2, 3, 4, 1, 0] rfl)

set_option maxHeartbeats 4000000 in
set_option maxRecDepth 100000 in
theorem g_lookAhead (l : Launch) (g : GX) (base : Nat) (sa : Nat → Nat) (h0 : Hp) (o : Nat) (R : Nat → Nat) (I : Nat → Int) (L : Nat → Int) (A : Nat → Int → Int) (sn : Int) (hM : OB g 0 12 kd0 h0 o R I L A) (hL1 : L 1 = 3) (hsk : Sok (I 0) (A 1)) (hL6 : k_states (I 0) ≤ L 6 ∧ L 6 ≤ 1728 ∧ L 5 = L 6 ∧ L 8 = 8 * L 6 ∧ L 9 = L 6 ∧ L 10 = L 6) (hL11 : L 11 = 13 * L 6) (hLE : LE (k_states (I 0)) (L 6) (lp (I 0) (A 1)) (2 ^ (I 0).toNat) (A 5) (A 6) (A 8) (I 7) (8 * I 7)) (hs9 : 0 ≤ sn ∧ sn ≤ 40) (hRG0 : RG (lp (I 0) (A 1)) (2 ^ (I 0).toNat) (A 5) (I 7) (Bf (A 11)) sn 0) : MC l g base sa yX0_lookAhead wsX0_lookAhead ({ frames := 3, cells := 0, slots := 0, locals := 86 }) ([.ref o, .int (J sn)]) h0 (fun r9 h' => r9 = none ∧ Fr (FP 12 kd0 o R) h0 h' ∧ ∃ f, OB g 0 12 kd0 h' o R I L (va_up A 11 f) ∧ RG (lp (I 0) (A 1)) (2 ^ (I 0).toNat) (A 5) (I 7) (Bf f) sn (I 7)) := by
  refine Met.ofW (cc := cX0_lookAhead) (maxL := 4) (ret := none) (by decide) rfl ?_
  intro p e s m args below meth c s₁ B hml hv
  obtain ⟨rfl, hk, hW⟩ := hv
  have hx := B.exec
  have hb := B.bytes
  have hr := B.returns
  have hts := atoms_spec (ws := wsX0_lookAhead) B.pre
  have hown : s.vm.findClass RX0 = some m.cls := findClass_of_methodNamed B.named
  have hlocks := B.notSynchronized
  have hfX0 : ∀ w ∈ wsX00, w.before ([.ref o, .int (J sn)]).toArray s = true := fun w h => hts w (List.mem_cons_of_mem _ (List.mem_append_right _ h))
  have hS : va_S (Ab base) s.heap s.heap [] := va_S.rf
  have hl := lv_entry ([.ref o, .int (J sn)]) (n := 4) (Nat.le_of_ble_eq_true rfl)
  rw [lg_entry_eq]
  generalize (lg_sl ([.ref o, .int (J sn)]) ++ List.replicate (4 - (lg_sl ([.ref o, .int (J sn)])).length) Slot.unset).toArray = ls at hl ⊢
  have hl : lv_has ls 4 [(0, .ref o), (1, .int (J sn))] := hl
  have hF : Fr (FP 12 kd0 o R) h0 h0 := Fr.rf
  have hn1 := hsk.1
  have hn2 := hsk.2.1
  have hsr := st_r hn1 hn2
  have hp2n := p2n hn1 hn2
  have hNM := hL6.1
  have hr1 := hLE.1
  have hrN := hLE.2.1
  refine lv_iconst (v := J (0)) hx hb dX0_lookAhead_0 rfl ?_
  refine lv_istore_n (lv' := [(2, .int (J 0)), (0, .ref o), (1, .int (J sn))]) hx hb dX0_lookAhead_1 rfl hl (by decide) rfl (fun ls hl => ?_)
  have loop_2 : ∀ (n9 : Nat) (k : Int) (f : Int → Int) (h : Hp) (H : Heap) (locs : List Loc) (ls : Array Slot), I 7 - k < (n9 : Int) → (0 ≤ k ∧ k ≤ I 7) → (RG (lp (I 0) (A 1)) (2 ^ (I 0).toNat) (A 5) (I 7) (Bf f) sn k) → (OB g 0 12 kd0 h o R I L (va_up A 11 (f))) → (Fr (FP 12 kd0 o R) h0 h) → (Wd g base h H) → (va_S (Ab base) s.heap H locs) → (lv_has ls 4 [(0, .ref o), (1, .int (J sn)), (2, .int (J k))]) → W p l e (headSpec wsX0_lookAhead ({ frames := 3, cells := 0, slots := 0, locals := 86 })).room s m ([.ref o, .int (J sn)]).toArray below meth c H locs 0 0 (MQ below (QcM g base (fun r9 h' => r9 = none ∧ Fr (FP 12 kd0 o R) h0 h' ∧ ∃ f, OB g 0 12 kd0 h' o R I L (va_up A 11 f) ∧ RG (lp (I 0) (A 1)) (2 ^ (I 0).toNat) (A 5) (I 7) (Bf f) sn (I 7))) ([.ref o, .int (J sn)]).toArray s (0) (0) (Ab base)) (F0 m 2 ls []) := by
    intro n9
    induction n9 with
    | zero =>
      intro k f h H locs ls hmu hk9 hRG hM hF hW hS hl
      exact absurd hmu (by omega)
    | succ n9 ih =>
      intro k f h H locs ls hmu hk9 hRG hM hF hW hS hl
      have ih_2 := ih
      refine lv_iload_n hx hb dX0_lookAhead_2 rfl (lv_at hl 2 rfl) ?_
      refine lv_aload_n hx hb dX0_lookAhead_3 rfl (lv_at hl 0 rfl) ?_
      refine g_get (ci := 0) (C := RX0) (T := TX0) (N := 12) (v := .int (J (I 7))) hx hb hfX0 (fun _ h9 => h9) hown hk hW hM.1 rfl 7 (by decide) (hts (.fieldLink RX0 36 "JugsAndGlasses$Glasses" "listedEvents" "I") (by decide +kernel)) rfl rfl dX0_lookAhead_4 ?_
      refine j_icmp_ge (x := k) (y := I 7) (tgt := 75) hx hb ⟨by omega, by omega⟩ ⟨by omega, by omega⟩ dX0_lookAhead_7 (by decide) (fun c_7 => ?_) (fun c_7 => ?_)
      · exact g_vret hx hb hr hW hS dX0_lookAhead_75 hlocks (⟨rfl, hF, f, hM, by have e9 : k = I 7 := (by omega); rw [e9] at hRG; exact hRG⟩)
      · refine lv_iload_n hx hb dX0_lookAhead_10 rfl (lv_at hl 2 rfl) ?_
        refine lv_aload_n hx hb dX0_lookAhead_11 rfl (lv_at hl 0 rfl) ?_
        refine g_get (ci := 0) (C := RX0) (T := TX0) (N := 12) (v := .ref (R 5)) hx hb hfX0 (fun _ h9 => h9) hown hk hW hM.1 rfl 5 (by decide) (hts (.fieldLink RX0 29 "JugsAndGlasses$Glasses" "events" "[I") (by decide +kernel)) rfl rfl dX0_lookAhead_12 ?_
        refine g_alen (n := L 5) hx hb hk hW (hM.ai 5 (by decide) rfl) (by omega) dX0_lookAhead_15 ?_
        refine j_icmp_ge (x := k) (y := L 5) (tgt := 75) hx hb ⟨by omega, by omega⟩ ⟨by omega, by omega⟩ dX0_lookAhead_16 (by decide) (fun c_16 => ?_) (fun c_16 => ?_)
        · exfalso
          omega
        · have hek := hLE.2.2.2.1 k hk9.1 (by omega)
          refine lv_aload_n hx hb dX0_lookAhead_19 rfl (lv_at hl 0 rfl) ?_
          refine lv_iload_n hx hb dX0_lookAhead_20 rfl (lv_at hl 1 rfl) ?_
          refine lv_aload_n hx hb dX0_lookAhead_21 rfl (lv_at hl 0 rfl) ?_
          refine g_get (ci := 0) (C := RX0) (T := TX0) (N := 12) (v := .ref (R 5)) hx hb hfX0 (fun _ h9 => h9) hown hk hW hM.1 rfl 5 (by decide) (hts (.fieldLink RX0 29 "JugsAndGlasses$Glasses" "events" "[I") (by decide +kernel)) rfl rfl dX0_lookAhead_22 ?_
          refine lv_iload_n hx hb dX0_lookAhead_25 rfl (lv_at hl 2 rfl) ?_
          refine g_iald (n := L 5) (f := A 5) (i := k) hx hb hk hW (hM.ai 5 (by decide) rfl) (by omega) (by omega) (by omega) dX0_lookAhead_26 ?_
          refine g_callV (As := [.int (J sn), .int (J (A 5 k))]) (rest := []) (b := o) (ci := 0) (C := RX0) (T := TX0) (N := 12) ⟨hx, hb, hml, hown, hts⟩ (g_placeAhead l g base sa h o sn (A 5 k) ⟨by omega, by omega⟩ ⟨by omega, by omega⟩) (cwV 2 hts gX0_lookAhead_X0_placeAhead rfl rfl rfl (by decide +kernel) ⟨Nat.le_of_ble_eq_true rfl, Nat.le_of_ble_eq_true rfl⟩) hk hW hS hM.1 rfl rfl hl.1 (Nat.le_of_ble_eq_true rfl) dX0_lookAhead_27 ⟨Nat.le_of_ble_eq_true rfl, Nat.le_of_ble_eq_true rfl⟩ (fun r9 h9 H locs hp hW hS => ?_)
          obtain ⟨rfl, e9⟩ := hp
          rw [e9] at hW
          refine W.eq (g2 := F0 m 30 ls [.int (J (A 5 k * 13 + sn % 13))]) rfl ?_
          refine lv_istore_n (lv' := [(3, .int (J (A 5 k * 13 + sn % 13))), (0, .ref o), (1, .int (J sn)), (2, .int (J k))]) hx hb dX0_lookAhead_30 rfl hl (by decide) rfl (fun ls hl => ?_)
          refine lv_iload_n hx hb dX0_lookAhead_31 rfl (lv_at hl 0 rfl) ?_
          refine j_if_lt (x := A 5 k * 13 + sn % 13) (tgt := 69) hx hb ⟨by omega, by omega⟩ dX0_lookAhead_32 (by decide) (fun c_32 => ?_) (fun c_32 => ?_)
          · exfalso
            omega
          · refine lv_iload_n hx hb dX0_lookAhead_35 rfl (lv_at hl 0 rfl) ?_
            refine lv_aload_n hx hb dX0_lookAhead_36 rfl (lv_at hl 1 rfl) ?_
            refine g_get (ci := 0) (C := RX0) (T := TX0) (N := 12) (v := .ref (R 11)) hx hb hfX0 (fun _ h9 => h9) hown hk hW hM.1 rfl 11 (by decide) (hts (.fieldLink RX0 48 "JugsAndGlasses$Glasses" "ahead" "[I") (by decide +kernel)) rfl rfl dX0_lookAhead_37 ?_
            refine g_alen (n := L 11) hx hb hk hW (hM.ai 11 (by decide) rfl) (by omega) dX0_lookAhead_40 ?_
            refine j_icmp_ge (x := A 5 k * 13 + sn % 13) (y := L 11) (tgt := 69) hx hb ⟨by omega, by omega⟩ ⟨by omega, by omega⟩ dX0_lookAhead_41 (by decide) (fun c_41 => ?_) (fun c_41 => ?_)
            · exfalso
              omega
            · refine lv_aload_n hx hb dX0_lookAhead_44 rfl (lv_at hl 1 rfl) ?_
              refine g_get (ci := 0) (C := RX0) (T := TX0) (N := 12) (v := .ref (R 11)) hx hb hfX0 (fun _ h9 => h9) hown hk hW hM.1 rfl 11 (by decide) (hts (.fieldLink RX0 48 "JugsAndGlasses$Glasses" "ahead" "[I") (by decide +kernel)) rfl rfl dX0_lookAhead_45 ?_
              refine lv_iload_n hx hb dX0_lookAhead_48 rfl (lv_at hl 0 rfl) ?_
              refine lv_iload_n hx hb dX0_lookAhead_49 rfl (lv_at hl 2 rfl) ?_
              refine j_if_ne (x := sn) (tgt := 57) hx hb ⟨by omega, by omega⟩ dX0_lookAhead_50 (by decide) (fun c_50 => ?_) (fun c_50 => ?_)
              · refine lv_aload_n hx hb dX0_lookAhead_57 rfl (lv_at hl 1 rfl) ?_
                refine lv_aload_n hx hb dX0_lookAhead_58 rfl (lv_at hl 1 rfl) ?_
                refine g_get (ci := 0) (C := RX0) (T := TX0) (N := 12) (v := .ref (R 5)) hx hb hfX0 (fun _ h9 => h9) hown hk hW hM.1 rfl 5 (by decide) (hts (.fieldLink RX0 29 "JugsAndGlasses$Glasses" "events" "[I") (by decide +kernel)) rfl rfl dX0_lookAhead_59 ?_
                refine lv_iload_n hx hb dX0_lookAhead_62 rfl (lv_at hl 3 rfl) ?_
                refine g_iald (n := L 5) (f := A 5) (i := k) hx hb hk hW (hM.ai 5 (by decide) rfl) (by omega) (by omega) (by omega) dX0_lookAhead_63 ?_
                refine lv_iload_n hx hb dX0_lookAhead_64 rfl (lv_at hl 2 rfl) ?_
                refine g_callV (As := [.int (J (A 5 k)), .int (J sn)]) (rest := [.int (J (A 5 k * 13 + sn % 13)), .ref (R 11)]) (b := o) (ci := 0) (C := RX0) (T := TX0) (N := 12) ⟨hx, hb, hml, hown, hts⟩ (g_fewest l g base sa h o R I L (va_up A 11 (f)) k sn hM hL1 hsk hL6 hL11 hLE ⟨by omega, by omega⟩ ⟨by omega, by omega⟩ hRG) (cwV 2 hts gX0_lookAhead_X0_fewestTurned rfl rfl rfl (by decide +kernel) ⟨Nat.le_of_ble_eq_true rfl, Nat.le_of_ble_eq_true rfl⟩) hk hW hS hM.1 rfl rfl hl.1 (Nat.le_of_ble_eq_true rfl) dX0_lookAhead_65 ⟨Nat.le_of_ble_eq_true rfl, Nat.le_of_ble_eq_true rfl⟩ (fun r9 h9 H locs hp hW hS => ?_)
                have hp : (∃ v, r9 = some (.int (J v)) ∧ BQ 1000000 (lp (I 0) (A 1)) (2 ^ (I 0).toNat) (A 5 k) sn v) ∧ h9 = h := hp
                obtain ⟨⟨v, rfl, hBv⟩, e9⟩ := hp
                rw [e9] at hW
                refine W.eq (g2 := F0 m 68 ls [.int (J v), .int (J (A 5 k * 13 + sn % 13)), .ref (R 11)]) rfl ?_
                refine o_iast (A' := (va_up A 11 (uf f (A 5 k * 13 + sn % 13) v))) (i := A 5 k * 13 + sn % 13) (x := v) hx hb hk hW hS hM hF 11 (by decide) rfl (FP.a 11 (by decide) ⟨by decide, by decide⟩) (by omega) (show A 5 k * 13 + sn % 13 < L 11 from by omega) (show L 11 < 2147483648 from by omega) (bx_uu _ _ _ _) dX0_lookAhead_68 (fun h H locs hM hF hst hW hS => ?_)
                refine lv_iinc (v := J (k + 1)) (lv' := [(2, .int (J (k + 1))), (3, .int (J (A 5 k * 13 + sn % 13))), (0, .ref o), (1, .int (J sn))]) hx hb dX0_lookAhead_69 hl (k := 3) rfl (J_inc (by omega)) (by decide) rfl (fun ls hl => ?_)
                refine lv_goto (tgt := 2) hx hb dX0_lookAhead_72 (by decide) ?_
                exact ih_2 (k + 1) (uf f (A 5 k * 13 + sn % 13) v) h H locs ls (by omega) (by omega) (RG_st hLE.2.2.2.2.2.1 hRG hs9.1 hk9.1 (by omega) hBv) hM hF hW hS (lv_sub hl [2, 3, 0] rfl)
              · have hBv : BQ 1000000 (lp (I 0) (A 1)) (2 ^ (I 0).toNat) (A 5 k) sn 0 := by rw [c_50]; exact BQ_0 _ _ _ _
                refine lv_iconst (v := J (0)) hx hb dX0_lookAhead_53 rfl ?_
                refine lv_goto (tgt := 68) hx hb dX0_lookAhead_54 (by decide) ?_
                refine o_iast (A' := (va_up A 11 (uf f (A 5 k * 13 + sn % 13) 0))) (i := A 5 k * 13 + sn % 13) (x := 0) hx hb hk hW hS hM hF 11 (by decide) rfl (FP.a 11 (by decide) ⟨by decide, by decide⟩) (by omega) (show A 5 k * 13 + sn % 13 < L 11 from by omega) (show L 11 < 2147483648 from by omega) (bx_uu _ _ _ _) dX0_lookAhead_68 (fun h H locs hM hF hst hW hS => ?_)
                refine lv_iinc (v := J (k + 1)) (lv' := [(2, .int (J (k + 1))), (3, .int (J (A 5 k * 13 + sn % 13))), (0, .ref o), (1, .int (J sn))]) hx hb dX0_lookAhead_69 hl (k := 3) rfl (J_inc (by omega)) (by decide) rfl (fun ls hl => ?_)
                refine lv_goto (tgt := 2) hx hb dX0_lookAhead_72 (by decide) ?_
                exact ih_2 (k + 1) (uf f (A 5 k * 13 + sn % 13) 0) h H locs ls (by omega) (by omega) (RG_st hLE.2.2.2.2.2.1 hRG hs9.1 hk9.1 (by omega) hBv) hM hF hW hS (lv_sub hl [2, 3, 0] rfl)
  exact loop_2 ((I 7).toNat + 1) 0 (A 11) h0 s.heap [] ls (by omega) (by omega) hRG0 (by rw [va_up_id]; exact hM) hF hW hS (lv_sub hl [1, 2, 0] rfl)

set_option maxHeartbeats 4000000 in
set_option maxRecDepth 100000 in
theorem g_answer (l : Launch) (g : GX) (base : Nat) (sa : Nat → Nat) (h0 : Hp) (o : Nat) (R : Nat → Nat) (I : Nat → Int) (L : Nat → Int) (A : Nat → Int → Int) (sn : Int) (hM : OB g 0 12 kd0 h0 o R I L A) (hL1 : L 1 = 3) (hsk : Sok (I 0) (A 1)) (hL6 : k_states (I 0) ≤ L 6 ∧ L 6 ≤ 1728 ∧ L 5 = L 6 ∧ L 8 = 8 * L 6 ∧ L 9 = L 6 ∧ L 10 = L 6) (hL11 : L 11 = 13 * L 6) (hLE : LE (k_states (I 0)) (L 6) (lp (I 0) (A 1)) (2 ^ (I 0).toNat) (A 5) (A 6) (A 8) (I 7) (8 * I 7)) (hL23 : L 2 = 41 ∧ L 3 = 41) (hs9 : 0 ≤ sn ∧ sn ≤ 40) (hEF : EF (lp (I 0) (A 1)) (2 ^ (I 0).toNat) (A 5) (I 7) (A 9) (A 10) 61 0 0) (hBq : ∀ i, 0 ≤ i → i < I 7 → BQ 1000000 (lp (I 0) (A 1)) (2 ^ (I 0).toNat) (A 5 i) sn (Bf (A 11) (sn % 13) (A 5 i))) : MC l g base sa yX0_answer wsX0_answer ({ frames := 2, cells := 0, slots := 0, locals := 60 }) ([.ref o, .int (J sn)]) h0 (fun r9 h' => r9 = none ∧ Fr (FP 12 kd0 o R) h0 h' ∧ ∃ w t, OB g 0 12 kd0 h' o R I L (va_up (va_up A 2 (uf (A 2) sn w)) 3 (uf (A 3) sn t)) ∧ WT (lp (I 0) (A 1)) (2 ^ (I 0).toNat) sn w t) := by
  refine Met.ofW (cc := cX0_answer) (maxL := 7) (ret := none) (by decide) rfl ?_
  intro p e s m args below meth c s₁ B hml hv
  obtain ⟨rfl, hk, hW⟩ := hv
  have hx := B.exec
  have hb := B.bytes
  have hr := B.returns
  have hts := atoms_spec (ws := wsX0_answer) B.pre
  have hown : s.vm.findClass RX0 = some m.cls := findClass_of_methodNamed B.named
  have hlocks := B.notSynchronized
  have hfX0 : ∀ w ∈ wsX00, w.before ([.ref o, .int (J sn)]).toArray s = true := fun w h => hts w (List.mem_cons_of_mem _ (List.mem_append_right _ h))
  have hS : va_S (Ab base) s.heap s.heap [] := va_S.rf
  have hl := lv_entry ([.ref o, .int (J sn)]) (n := 7) (Nat.le_of_ble_eq_true rfl)
  rw [lg_entry_eq]
  generalize (lg_sl ([.ref o, .int (J sn)]) ++ List.replicate (7 - (lg_sl ([.ref o, .int (J sn)])).length) Slot.unset).toArray = ls at hl ⊢
  have hl : lv_has ls 7 [(0, .ref o), (1, .int (J sn))] := hl
  have hF : Fr (FP 12 kd0 o R) h0 h0 := Fr.rf
  have hn1 := hsk.1
  have hn2 := hsk.2.1
  have hsr := st_r hn1 hn2
  have hp2n := p2n hn1 hn2
  have hNM := hL6.1
  have hr1 := hLE.1
  have hrN := hLE.2.1
  refine j_ldc (z := 1000000) hx hb (by decide) hown (hts (.constant RX0 77 (1000000)) (by decide +kernel)) dX0_answer_0 ?_
  refine lv_istore_n (lv' := [(2, .int (J 1000000)), (0, .ref o), (1, .int (J sn))]) hx hb dX0_answer_2 rfl hl (by decide) rfl (fun ls hl => ?_)
  refine j_ldc (z := 1000000) hx hb (by decide) hown (hts (.constant RX0 77 (1000000)) (by decide +kernel)) dX0_answer_3 ?_
  refine lv_istore_n (lv' := [(3, .int (J 1000000)), (2, .int (J 1000000)), (0, .ref o), (1, .int (J sn))]) hx hb dX0_answer_5 rfl hl (by decide) rfl (fun ls hl => ?_)
  refine lv_iconst (v := J (0)) hx hb dX0_answer_6 rfl ?_
  refine lv_istore (lv' := [(4, .int (J 0)), (3, .int (J 1000000)), (2, .int (J 1000000)), (0, .ref o), (1, .int (J sn))]) hx hb dX0_answer_7 hl (by decide) rfl (fun ls hl => ?_)
  have loop_9 : ∀ (n9 : Nat) (le : Int) (su : Int) (k : Int) (h : Hp) (H : Heap) (locs : List Loc) (ls : Array Slot), I 7 - k < (n9 : Int) → (0 ≤ k ∧ k ≤ I 7) → (AN (A 5) (A 9) (A 10) (Bf (A 11) (sn % 13)) k le su) → (h = h0) → (OB g 0 12 kd0 h o R I L A) → (Fr (FP 12 kd0 o R) h0 h) → (Wd g base h H) → (va_S (Ab base) s.heap H locs) → (lv_has ls 7 [(0, .ref o), (1, .int (J sn)), (2, .int (J le)), (3, .int (J su)), (4, .int (J k))]) → W p l e (headSpec wsX0_answer ({ frames := 2, cells := 0, slots := 0, locals := 60 })).room s m ([.ref o, .int (J sn)]).toArray below meth c H locs 0 0 (MQ below (QcM g base (fun r9 h' => r9 = none ∧ Fr (FP 12 kd0 o R) h0 h' ∧ ∃ w t, OB g 0 12 kd0 h' o R I L (va_up (va_up A 2 (uf (A 2) sn w)) 3 (uf (A 3) sn t)) ∧ WT (lp (I 0) (A 1)) (2 ^ (I 0).toNat) sn w t)) ([.ref o, .int (J sn)]).toArray s (0) (0) (Ab base)) (F0 m 9 ls []) := by
    intro n9
    induction n9 with
    | zero =>
      intro le su k h H locs ls hmu hk9 hAN eh hM hF hW hS hl
      exact absurd hmu (by omega)
    | succ n9 ih =>
      intro le su k h H locs ls hmu hk9 hAN eh hM hF hW hS hl
      have har := AN_r hAN
      have ih_9 := ih
      refine lv_iload hx hb dX0_answer_9 (lv_at hl 4 rfl) ?_
      refine lv_aload_n hx hb dX0_answer_11 rfl (lv_at hl 0 rfl) ?_
      refine g_get (ci := 0) (C := RX0) (T := TX0) (N := 12) (v := .int (J (I 7))) hx hb hfX0 (fun _ h9 => h9) hown hk hW hM.1 rfl 7 (by decide) (hts (.fieldLink RX0 36 "JugsAndGlasses$Glasses" "listedEvents" "I") (by decide +kernel)) rfl rfl dX0_answer_12 ?_
      refine j_icmp_ge (x := k) (y := I 7) (tgt := 115) hx hb ⟨by omega, by omega⟩ ⟨by omega, by omega⟩ dX0_answer_15 (by decide) (fun c_15 => ?_) (fun c_15 => ?_)
      · have e9 : k = I 7 := (by omega)
        rw [e9] at hAN
        refine lv_iload_n hx hb dX0_answer_115 rfl (lv_at hl 1 rfl) ?_
        refine j_if_lt (x := sn) (tgt := 159) hx hb ⟨by omega, by omega⟩ dX0_answer_116 (by decide) (fun c_116 => ?_) (fun c_116 => ?_)
        · exfalso
          omega
        · refine lv_iload_n hx hb dX0_answer_119 rfl (lv_at hl 1 rfl) ?_
          refine lv_bipush (v := J (40)) hx hb dX0_answer_120 (by decide) ?_
          refine j_icmp_gt (x := sn) (y := 40) (tgt := 159) hx hb ⟨by omega, by omega⟩ ⟨by decide, by decide⟩ dX0_answer_122 (by decide) (fun c_122 => ?_) (fun c_122 => ?_)
          · exfalso
            omega
          · refine lv_aload_n hx hb dX0_answer_125 rfl (lv_at hl 0 rfl) ?_
            refine g_get (ci := 0) (C := RX0) (T := TX0) (N := 12) (v := .ref (R 2)) hx hb hfX0 (fun _ h9 => h9) hown hk hW hM.1 rfl 2 (by decide) (hts (.fieldLink RX0 19 "JugsAndGlasses$Glasses" "waitOf" "[I") (by decide +kernel)) rfl rfl dX0_answer_126 ?_
            refine lv_iload_n hx hb dX0_answer_129 rfl (lv_at hl 1 rfl) ?_
            refine lv_iload_n hx hb dX0_answer_130 rfl (lv_at hl 2 rfl) ?_
            refine j_ldc (z := 1000000) hx hb (by decide) hown (hts (.constant RX0 77 (1000000)) (by decide +kernel)) dX0_answer_131 ?_
            refine j_icmp_ne (x := le) (y := 1000000) (tgt := 140) hx hb ⟨by omega, by omega⟩ ⟨by decide, by decide⟩ dX0_answer_133 (by decide) (fun c_133 => ?_) (fun c_133 => ?_)
            · refine lv_iload_n hx hb dX0_answer_140 rfl (lv_at hl 2 rfl) ?_
              refine o_iast (A' := (va_up A 2 (uf (A 2) sn le))) (i := sn) (x := le) hx hb hk hW hS hM hF 2 (by decide) rfl (FP.a 2 (by decide) ⟨by decide, by decide⟩) (by omega) (show sn < L 2 from by omega) (show L 2 < 2147483648 from by omega) rfl dX0_answer_141 (fun h H locs hM hF hst hW hS => ?_)
              refine lv_aload_n hx hb dX0_answer_142 rfl (lv_at hl 0 rfl) ?_
              refine g_get (ci := 0) (C := RX0) (T := TX0) (N := 12) (v := .ref (R 3)) hx hb hfX0 (fun _ h9 => h9) hown hk hW hM.1 rfl 3 (by decide) (hts (.fieldLink RX0 22 "JugsAndGlasses$Glasses" "turnsOf" "[I") (by decide +kernel)) rfl rfl dX0_answer_143 ?_
              refine lv_iload_n hx hb dX0_answer_146 rfl (lv_at hl 1 rfl) ?_
              refine lv_iload_n hx hb dX0_answer_147 rfl (lv_at hl 2 rfl) ?_
              refine j_ldc (z := 1000000) hx hb (by decide) hown (hts (.constant RX0 77 (1000000)) (by decide +kernel)) dX0_answer_148 ?_
              refine j_icmp_ne (x := le) (y := 1000000) (tgt := 157) hx hb ⟨by omega, by omega⟩ ⟨by decide, by decide⟩ dX0_answer_150 (by decide) (fun c_150 => ?_) (fun c_150 => ?_)
              · refine lv_iload_n hx hb dX0_answer_157 rfl (lv_at hl 3 rfl) ?_
                refine o_iast (A' := (va_up (va_up A 2 (uf (A 2) sn le)) 3 (uf (A 3) sn su))) (i := sn) (x := su) hx hb hk hW hS hM hF 3 (by decide) rfl (FP.a 3 (by decide) ⟨by decide, by decide⟩) (by omega) (show sn < L 3 from by omega) (show L 3 < 2147483648 from by omega) rfl dX0_answer_158 (fun h H locs hM hF hst hW hS => ?_)
                exact g_vret hx hb hr hW hS dX0_answer_159 hlocks (⟨rfl, hF, _, _, hM, by
                    have h8 := AN_WT (z := 8 * I 7) hLE (by omega) hp2n.2 hEF hBq (by omega) hAN
                    first | (rw [if_pos (by omega), if_pos (by omega)] at h8; exact h8) | (rw [if_neg (by omega), if_neg (by omega)] at h8; exact h8) | (exfalso; omega)⟩)
              · refine lv_iconst (v := J (-1)) hx hb dX0_answer_153 rfl ?_
                refine lv_goto (tgt := 158) hx hb dX0_answer_154 (by decide) ?_
                refine o_iast (A' := (va_up (va_up A 2 (uf (A 2) sn le)) 3 (uf (A 3) sn ((-1))))) (i := sn) (x := (-1)) hx hb hk hW hS hM hF 3 (by decide) rfl (FP.a 3 (by decide) ⟨by decide, by decide⟩) (by omega) (show sn < L 3 from by omega) (show L 3 < 2147483648 from by omega) rfl dX0_answer_158 (fun h H locs hM hF hst hW hS => ?_)
                exact g_vret hx hb hr hW hS dX0_answer_159 hlocks (⟨rfl, hF, _, _, hM, by
                    have h8 := AN_WT (z := 8 * I 7) hLE (by omega) hp2n.2 hEF hBq (by omega) hAN
                    first | (rw [if_pos (by omega), if_pos (by omega)] at h8; exact h8) | (rw [if_neg (by omega), if_neg (by omega)] at h8; exact h8) | (exfalso; omega)⟩)
            · refine lv_iconst (v := J (-1)) hx hb dX0_answer_136 rfl ?_
              refine lv_goto (tgt := 141) hx hb dX0_answer_137 (by decide) ?_
              refine o_iast (A' := (va_up A 2 (uf (A 2) sn ((-1))))) (i := sn) (x := (-1)) hx hb hk hW hS hM hF 2 (by decide) rfl (FP.a 2 (by decide) ⟨by decide, by decide⟩) (by omega) (show sn < L 2 from by omega) (show L 2 < 2147483648 from by omega) rfl dX0_answer_141 (fun h H locs hM hF hst hW hS => ?_)
              refine lv_aload_n hx hb dX0_answer_142 rfl (lv_at hl 0 rfl) ?_
              refine g_get (ci := 0) (C := RX0) (T := TX0) (N := 12) (v := .ref (R 3)) hx hb hfX0 (fun _ h9 => h9) hown hk hW hM.1 rfl 3 (by decide) (hts (.fieldLink RX0 22 "JugsAndGlasses$Glasses" "turnsOf" "[I") (by decide +kernel)) rfl rfl dX0_answer_143 ?_
              refine lv_iload_n hx hb dX0_answer_146 rfl (lv_at hl 1 rfl) ?_
              refine lv_iload_n hx hb dX0_answer_147 rfl (lv_at hl 2 rfl) ?_
              refine j_ldc (z := 1000000) hx hb (by decide) hown (hts (.constant RX0 77 (1000000)) (by decide +kernel)) dX0_answer_148 ?_
              refine j_icmp_ne (x := le) (y := 1000000) (tgt := 157) hx hb ⟨by omega, by omega⟩ ⟨by decide, by decide⟩ dX0_answer_150 (by decide) (fun c_150 => ?_) (fun c_150 => ?_)
              · refine lv_iload_n hx hb dX0_answer_157 rfl (lv_at hl 3 rfl) ?_
                refine o_iast (A' := (va_up (va_up A 2 (uf (A 2) sn ((-1)))) 3 (uf (A 3) sn su))) (i := sn) (x := su) hx hb hk hW hS hM hF 3 (by decide) rfl (FP.a 3 (by decide) ⟨by decide, by decide⟩) (by omega) (show sn < L 3 from by omega) (show L 3 < 2147483648 from by omega) rfl dX0_answer_158 (fun h H locs hM hF hst hW hS => ?_)
                exact g_vret hx hb hr hW hS dX0_answer_159 hlocks (⟨rfl, hF, _, _, hM, by
                    have h8 := AN_WT (z := 8 * I 7) hLE (by omega) hp2n.2 hEF hBq (by omega) hAN
                    first | (rw [if_pos (by omega), if_pos (by omega)] at h8; exact h8) | (rw [if_neg (by omega), if_neg (by omega)] at h8; exact h8) | (exfalso; omega)⟩)
              · refine lv_iconst (v := J (-1)) hx hb dX0_answer_153 rfl ?_
                refine lv_goto (tgt := 158) hx hb dX0_answer_154 (by decide) ?_
                refine o_iast (A' := (va_up (va_up A 2 (uf (A 2) sn ((-1)))) 3 (uf (A 3) sn ((-1))))) (i := sn) (x := (-1)) hx hb hk hW hS hM hF 3 (by decide) rfl (FP.a 3 (by decide) ⟨by decide, by decide⟩) (by omega) (show sn < L 3 from by omega) (show L 3 < 2147483648 from by omega) rfl dX0_answer_158 (fun h H locs hM hF hst hW hS => ?_)
                exact g_vret hx hb hr hW hS dX0_answer_159 hlocks (⟨rfl, hF, _, _, hM, by
                    have h8 := AN_WT (z := 8 * I 7) hLE (by omega) hp2n.2 hEF hBq (by omega) hAN
                    first | (rw [if_pos (by omega), if_pos (by omega)] at h8; exact h8) | (rw [if_neg (by omega), if_neg (by omega)] at h8; exact h8) | (exfalso; omega)⟩)
      · refine lv_iload hx hb dX0_answer_18 (lv_at hl 4 rfl) ?_
        refine lv_aload_n hx hb dX0_answer_20 rfl (lv_at hl 0 rfl) ?_
        refine g_get (ci := 0) (C := RX0) (T := TX0) (N := 12) (v := .ref (R 5)) hx hb hfX0 (fun _ h9 => h9) hown hk hW hM.1 rfl 5 (by decide) (hts (.fieldLink RX0 29 "JugsAndGlasses$Glasses" "events" "[I") (by decide +kernel)) rfl rfl dX0_answer_21 ?_
        refine g_alen (n := L 5) hx hb hk hW (hM.ai 5 (by decide) rfl) (by omega) dX0_answer_24 ?_
        refine j_icmp_ge (x := k) (y := L 5) (tgt := 115) hx hb ⟨by omega, by omega⟩ ⟨by omega, by omega⟩ dX0_answer_25 (by decide) (fun c_25 => ?_) (fun c_25 => ?_)
        · exfalso
          omega
        · have hek := hLE.2.2.2.1 k hk9.1 (by omega)
          have hbr := BQ_r (hBq k hk9.1 (by omega))
          have her : (A 9 (A 5 k) = 1000000 ∧ A 10 (A 5 k) = 1000000) ∨ (0 ≤ A 9 (A 5 k) ∧ A 9 (A 5 k) ≤ 73 ∧ 0 ≤ A 10 (A 5 k) ∧ A 10 (A 5 k) ≤ 3 * A 9 (A 5 k)) := by
            rcases hEF.1 k hk9.1 (by omega) with w | w
            · exact Or.inl w
            · exact Or.inr ⟨w.1, by omega, w.2.2.1, w.2.2.2.1⟩
          refine lv_aload_n hx hb dX0_answer_28 rfl (lv_at hl 0 rfl) ?_
          refine lv_iload_n hx hb dX0_answer_29 rfl (lv_at hl 1 rfl) ?_
          refine lv_aload_n hx hb dX0_answer_30 rfl (lv_at hl 0 rfl) ?_
          refine g_get (ci := 0) (C := RX0) (T := TX0) (N := 12) (v := .ref (R 5)) hx hb hfX0 (fun _ h9 => h9) hown hk hW hM.1 rfl 5 (by decide) (hts (.fieldLink RX0 29 "JugsAndGlasses$Glasses" "events" "[I") (by decide +kernel)) rfl rfl dX0_answer_31 ?_
          refine lv_iload hx hb dX0_answer_34 (lv_at hl 4 rfl) ?_
          refine g_iald (n := L 5) (f := A 5) (i := k) hx hb hk hW (hM.ai 5 (by decide) rfl) (by omega) (by omega) (by omega) dX0_answer_36 ?_
          refine g_callV (As := [.int (J sn), .int (J (A 5 k))]) (rest := []) (b := o) (ci := 0) (C := RX0) (T := TX0) (N := 12) ⟨hx, hb, hml, hown, hts⟩ (g_aheadAt l g base sa h o R I L A (sn) (A 5 k) hM ⟨by omega, by omega⟩ ⟨by omega, by omega⟩ ⟨by omega, by omega⟩) (cwV 2 hts gX0_answer_X0_aheadAt rfl rfl rfl (by decide +kernel) ⟨Nat.le_of_ble_eq_true rfl, Nat.le_of_ble_eq_true rfl⟩) hk hW hS hM.1 rfl rfl hl.1 (Nat.le_of_ble_eq_true rfl) dX0_answer_37 ⟨Nat.le_of_ble_eq_true rfl, Nat.le_of_ble_eq_true rfl⟩ (fun r9 h9 H locs hp hW hS => ?_)
          have hp : r9 = some (.int (J (Bf (A 11) (sn % 13) (A 5 k)))) ∧ h9 = h := hp
          obtain ⟨rfl, e9⟩ := hp
          rw [e9] at hW
          refine W.eq (g2 := F0 m 40 ls [.int (J (Bf (A 11) (sn % 13) (A 5 k)))]) rfl ?_
          refine lv_istore (lv' := [(5, .int (J (Bf (A 11) (sn % 13) (A 5 k)))), (0, .ref o), (1, .int (J sn)), (2, .int (J le)), (3, .int (J su)), (4, .int (J k))]) hx hb dX0_answer_40 hl (by decide) rfl (fun ls hl => ?_)
          refine lv_aload_n hx hb dX0_answer_42 rfl (lv_at hl 1 rfl) ?_
          refine lv_aload_n hx hb dX0_answer_43 rfl (lv_at hl 1 rfl) ?_
          refine g_get (ci := 0) (C := RX0) (T := TX0) (N := 12) (v := .ref (R 5)) hx hb hfX0 (fun _ h9 => h9) hown hk hW hM.1 rfl 5 (by decide) (hts (.fieldLink RX0 29 "JugsAndGlasses$Glasses" "events" "[I") (by decide +kernel)) rfl rfl dX0_answer_44 ?_
          refine lv_iload hx hb dX0_answer_47 (lv_at hl 5 rfl) ?_
          refine g_iald (n := L 5) (f := A 5) (i := k) hx hb hk hW (hM.ai 5 (by decide) rfl) (by omega) (by omega) (by omega) dX0_answer_49 ?_
          refine g_callV (As := [.int (J (A 5 k))]) (rest := []) (b := o) (ci := 0) (C := RX0) (T := TX0) (N := 12) ⟨hx, hb, hml, hown, hts⟩ (g_earlyAt l g base sa h o R I L A (A 5 k) hM ⟨by omega, by omega, by omega⟩) (cwV 1 hts gX0_answer_X0_earlyAt rfl rfl rfl (by decide +kernel) ⟨Nat.le_of_ble_eq_true rfl, Nat.le_of_ble_eq_true rfl⟩) hk hW hS hM.1 rfl rfl hl.1 (Nat.le_of_ble_eq_true rfl) dX0_answer_50 ⟨Nat.le_of_ble_eq_true rfl, Nat.le_of_ble_eq_true rfl⟩ (fun r9 h9 H locs hp hW hS => ?_)
          obtain ⟨rfl, e9⟩ := hp
          rw [e9] at hW
          refine W.eq (g2 := F0 m 53 ls [.int (J (A 9 (A 5 k)))]) rfl ?_
          refine lv_istore (lv' := [(6, .int (J (A 9 (A 5 k)))), (5, .int (J (Bf (A 11) (sn % 13) (A 5 k)))), (0, .ref o), (1, .int (J sn)), (2, .int (J le)), (3, .int (J su)), (4, .int (J k))]) hx hb dX0_answer_53 hl (by decide) rfl (fun ls hl => ?_)
          refine lv_iload hx hb dX0_answer_55 (lv_at hl 1 rfl) ?_
          refine j_ldc (z := 1000000) hx hb (by decide) hown (hts (.constant RX0 77 (1000000)) (by decide +kernel)) dX0_answer_57 ?_
          refine j_icmp_eq (x := Bf (A 11) (sn % 13) (A 5 k)) (y := 1000000) (tgt := 109) hx hb ⟨by omega, by omega⟩ ⟨by decide, by decide⟩ dX0_answer_59 (by decide) (fun c_59 => ?_) (fun c_59 => ?_)
          · refine lv_iinc (v := J (k + 1)) (lv' := [(4, .int (J (k + 1))), (6, .int (J (A 9 (A 5 k)))), (5, .int (J (Bf (A 11) (sn % 13) (A 5 k)))), (0, .ref o), (1, .int (J sn)), (2, .int (J le)), (3, .int (J su))]) hx hb dX0_answer_109 hl (k := 6) rfl (J_inc (by omega)) (by decide) rfl (fun ls hl => ?_)
            refine lv_goto (tgt := 9) hx hb dX0_answer_112 (by decide) ?_
            exact ih_9 le su (k + 1) h H locs ls (by omega) (by omega) (AN_no hAN hk9.1 (by omega)) eh hM hF hW hS (lv_sub hl [3, 4, 5, 6, 0] rfl)
          · refine lv_iload hx hb dX0_answer_62 (lv_at hl 0 rfl) ?_
            refine lv_bipush (v := J (60)) hx hb dX0_answer_64 (by decide) ?_
            refine j_icmp_gt (x := A 9 (A 5 k)) (y := 60) (tgt := 109) hx hb ⟨by omega, by omega⟩ ⟨by decide, by decide⟩ dX0_answer_66 (by decide) (fun c_66 => ?_) (fun c_66 => ?_)
            · refine lv_iinc (v := J (k + 1)) (lv' := [(4, .int (J (k + 1))), (6, .int (J (A 9 (A 5 k)))), (5, .int (J (Bf (A 11) (sn % 13) (A 5 k)))), (0, .ref o), (1, .int (J sn)), (2, .int (J le)), (3, .int (J su))]) hx hb dX0_answer_109 hl (k := 6) rfl (J_inc (by omega)) (by decide) rfl (fun ls hl => ?_)
              refine lv_goto (tgt := 9) hx hb dX0_answer_112 (by decide) ?_
              exact ih_9 le su (k + 1) h H locs ls (by omega) (by omega) (AN_no hAN hk9.1 (by omega)) eh hM hF hW hS (lv_sub hl [3, 4, 5, 6, 0] rfl)
            · refine lv_iload hx hb dX0_answer_69 (lv_at hl 0 rfl) ?_
              refine lv_iload_n hx hb dX0_answer_71 rfl (lv_at hl 4 rfl) ?_
              refine j_icmp_le (x := A 9 (A 5 k)) (y := le) (tgt := 78) hx hb ⟨by omega, by omega⟩ ⟨by omega, by omega⟩ dX0_answer_72 (by decide) (fun c_72 => ?_) (fun c_72 => ?_)
              · refine lv_iload hx hb dX0_answer_78 (lv_at hl 0 rfl) ?_
                refine lv_iload_n hx hb dX0_answer_80 rfl (lv_at hl 4 rfl) ?_
                refine j_icmp_ge (x := A 9 (A 5 k)) (y := le) (tgt := 90) hx hb ⟨by omega, by omega⟩ ⟨by omega, by omega⟩ dX0_answer_81 (by decide) (fun c_81 => ?_) (fun c_81 => ?_)
                · refine lv_iload_n hx hb dX0_answer_90 rfl (lv_at hl 5 rfl) ?_
                  refine lv_aload_n hx hb dX0_answer_91 rfl (lv_at hl 2 rfl) ?_
                  refine lv_aload_n hx hb dX0_answer_92 rfl (lv_at hl 2 rfl) ?_
                  refine g_get (ci := 0) (C := RX0) (T := TX0) (N := 12) (v := .ref (R 5)) hx hb hfX0 (fun _ h9 => h9) hown hk hW hM.1 rfl 5 (by decide) (hts (.fieldLink RX0 29 "JugsAndGlasses$Glasses" "events" "[I") (by decide +kernel)) rfl rfl dX0_answer_93 ?_
                  refine lv_iload hx hb dX0_answer_96 (lv_at hl 6 rfl) ?_
                  refine g_iald (n := L 5) (f := A 5) (i := k) hx hb hk hW (hM.ai 5 (by decide) rfl) (by omega) (by omega) (by omega) dX0_answer_98 ?_
                  refine g_callV (As := [.int (J (A 5 k))]) (rest := [.int (J su)]) (b := o) (ci := 0) (C := RX0) (T := TX0) (N := 12) ⟨hx, hb, hml, hown, hts⟩ (g_turnedAt l g base sa h o R I L A (A 5 k) hM ⟨by omega, by omega, by omega⟩) (cwV 1 hts gX0_answer_X0_turnedAt rfl rfl rfl (by decide +kernel) ⟨Nat.le_of_ble_eq_true rfl, Nat.le_of_ble_eq_true rfl⟩) hk hW hS hM.1 rfl rfl hl.1 (Nat.le_of_ble_eq_true rfl) dX0_answer_99 ⟨Nat.le_of_ble_eq_true rfl, Nat.le_of_ble_eq_true rfl⟩ (fun r9 h9 H locs hp hW hS => ?_)
                  obtain ⟨rfl, e9⟩ := hp
                  rw [e9] at hW
                  refine W.eq (g2 := F0 m 102 ls [.int (J (A 10 (A 5 k))), .int (J su)]) rfl ?_
                  refine lv_iload hx hb dX0_answer_102 (lv_at hl 1 rfl) ?_
                  refine j_iadd hx hb dX0_answer_104 ?_
                  refine j_mmin (x := su) (y := (A 10 (A 5 k)) + (Bf (A 11) (sn % 13) (A 5 k))) hx hb (by rw [hml]; exact hl.1.symm) hown (hts (.methodLink RX0 128 Lib.Math.min.name) (by decide +kernel)) (hts (.static Lib.Math.min.name) (by decide +kernel)) (hts (.initialized "java/lang/Math") (by decide +kernel)) (hts (.code Lib.Math.min.name Lib.Math.min.code 2 (some .int)) (by decide +kernel)) (Nat.le_of_ble_eq_true rfl) (Nat.le_of_ble_eq_true rfl) (Nat.le_of_ble_eq_true rfl) (Nat.le_of_ble_eq_true rfl) ⟨by omega, by omega⟩ ⟨by omega, by omega⟩ dX0_answer_105 ?_
                  refine lv_istore_n (lv' := [(3, .int (J (min su ((A 10 (A 5 k)) + (Bf (A 11) (sn % 13) (A 5 k)))))), (6, .int (J (A 9 (A 5 k)))), (5, .int (J (Bf (A 11) (sn % 13) (A 5 k)))), (0, .ref o), (1, .int (J sn)), (2, .int (J le)), (4, .int (J k))]) hx hb dX0_answer_108 rfl hl (by decide) rfl (fun ls hl => ?_)
                  refine lv_iinc (v := J (k + 1)) (lv' := [(4, .int (J (k + 1))), (3, .int (J (min su ((A 10 (A 5 k)) + (Bf (A 11) (sn % 13) (A 5 k)))))), (6, .int (J (A 9 (A 5 k)))), (5, .int (J (Bf (A 11) (sn % 13) (A 5 k)))), (0, .ref o), (1, .int (J sn)), (2, .int (J le))]) hx hb dX0_answer_109 hl (k := 6) rfl (J_inc (by omega)) (by decide) rfl (fun ls hl => ?_)
                  refine lv_goto (tgt := 9) hx hb dX0_answer_112 (by decide) ?_
                  exact ih_9 le (min su ((A 10 (A 5 k)) + (Bf (A 11) (sn % 13) (A 5 k)))) (k + 1) h H locs ls (by omega) (by omega) (AN_more hAN hk9.1 (by omega) (by omega) (by omega) (by omega)) eh hM hF hW hS (lv_sub hl [4, 5, 6, 1, 0] rfl)
                · refine lv_iload hx hb dX0_answer_84 (lv_at hl 0 rfl) ?_
                  refine lv_istore_n (lv' := [(2, .int (J (A 9 (A 5 k)))), (6, .int (J (A 9 (A 5 k)))), (5, .int (J (Bf (A 11) (sn % 13) (A 5 k)))), (0, .ref o), (1, .int (J sn)), (3, .int (J su)), (4, .int (J k))]) hx hb dX0_answer_86 rfl hl (by decide) rfl (fun ls hl => ?_)
                  refine j_ldc (z := 1000000) hx hb (by decide) hown (hts (.constant RX0 77 (1000000)) (by decide +kernel)) dX0_answer_87 ?_
                  refine lv_istore_n (lv' := [(3, .int (J 1000000)), (2, .int (J (A 9 (A 5 k)))), (6, .int (J (A 9 (A 5 k)))), (5, .int (J (Bf (A 11) (sn % 13) (A 5 k)))), (0, .ref o), (1, .int (J sn)), (4, .int (J k))]) hx hb dX0_answer_89 rfl hl (by decide) rfl (fun ls hl => ?_)
                  refine lv_iload_n hx hb dX0_answer_90 rfl (lv_at hl 0 rfl) ?_
                  refine lv_aload_n hx hb dX0_answer_91 rfl (lv_at hl 4 rfl) ?_
                  refine lv_aload_n hx hb dX0_answer_92 rfl (lv_at hl 4 rfl) ?_
                  refine g_get (ci := 0) (C := RX0) (T := TX0) (N := 12) (v := .ref (R 5)) hx hb hfX0 (fun _ h9 => h9) hown hk hW hM.1 rfl 5 (by decide) (hts (.fieldLink RX0 29 "JugsAndGlasses$Glasses" "events" "[I") (by decide +kernel)) rfl rfl dX0_answer_93 ?_
                  refine lv_iload hx hb dX0_answer_96 (lv_at hl 6 rfl) ?_
                  refine g_iald (n := L 5) (f := A 5) (i := k) hx hb hk hW (hM.ai 5 (by decide) rfl) (by omega) (by omega) (by omega) dX0_answer_98 ?_
                  refine g_callV (As := [.int (J (A 5 k))]) (rest := [.int (J 1000000)]) (b := o) (ci := 0) (C := RX0) (T := TX0) (N := 12) ⟨hx, hb, hml, hown, hts⟩ (g_turnedAt l g base sa h o R I L A (A 5 k) hM ⟨by omega, by omega, by omega⟩) (cwV 1 hts gX0_answer_X0_turnedAt rfl rfl rfl (by decide +kernel) ⟨Nat.le_of_ble_eq_true rfl, Nat.le_of_ble_eq_true rfl⟩) hk hW hS hM.1 rfl rfl hl.1 (Nat.le_of_ble_eq_true rfl) dX0_answer_99 ⟨Nat.le_of_ble_eq_true rfl, Nat.le_of_ble_eq_true rfl⟩ (fun r9 h9 H locs hp hW hS => ?_)
                  obtain ⟨rfl, e9⟩ := hp
                  rw [e9] at hW
                  refine W.eq (g2 := F0 m 102 ls [.int (J (A 10 (A 5 k))), .int (J 1000000)]) rfl ?_
                  refine lv_iload hx hb dX0_answer_102 (lv_at hl 3 rfl) ?_
                  refine j_iadd hx hb dX0_answer_104 ?_
                  refine j_mmin (x := 1000000) (y := (A 10 (A 5 k)) + (Bf (A 11) (sn % 13) (A 5 k))) hx hb (by rw [hml]; exact hl.1.symm) hown (hts (.methodLink RX0 128 Lib.Math.min.name) (by decide +kernel)) (hts (.static Lib.Math.min.name) (by decide +kernel)) (hts (.initialized "java/lang/Math") (by decide +kernel)) (hts (.code Lib.Math.min.name Lib.Math.min.code 2 (some .int)) (by decide +kernel)) (Nat.le_of_ble_eq_true rfl) (Nat.le_of_ble_eq_true rfl) (Nat.le_of_ble_eq_true rfl) (Nat.le_of_ble_eq_true rfl) ⟨by decide, by decide⟩ ⟨by omega, by omega⟩ dX0_answer_105 ?_
                  refine lv_istore_n (lv' := [(3, .int (J (min 1000000 ((A 10 (A 5 k)) + (Bf (A 11) (sn % 13) (A 5 k)))))), (2, .int (J (A 9 (A 5 k)))), (6, .int (J (A 9 (A 5 k)))), (5, .int (J (Bf (A 11) (sn % 13) (A 5 k)))), (0, .ref o), (1, .int (J sn)), (4, .int (J k))]) hx hb dX0_answer_108 rfl hl (by decide) rfl (fun ls hl => ?_)
                  refine lv_iinc (v := J (k + 1)) (lv' := [(4, .int (J (k + 1))), (3, .int (J (min 1000000 ((A 10 (A 5 k)) + (Bf (A 11) (sn % 13) (A 5 k)))))), (2, .int (J (A 9 (A 5 k)))), (6, .int (J (A 9 (A 5 k)))), (5, .int (J (Bf (A 11) (sn % 13) (A 5 k)))), (0, .ref o), (1, .int (J sn))]) hx hb dX0_answer_109 hl (k := 6) rfl (J_inc (by omega)) (by decide) rfl (fun ls hl => ?_)
                  refine lv_goto (tgt := 9) hx hb dX0_answer_112 (by decide) ?_
                  exact ih_9 (A 9 (A 5 k)) (min 1000000 ((A 10 (A 5 k)) + (Bf (A 11) (sn % 13) (A 5 k)))) (k + 1) h H locs ls (by omega) (by omega) (AN_new hAN hk9.1 (by omega) (by omega) (by omega) (by omega) (by omega)) eh hM hF hW hS (lv_sub hl [5, 6, 2, 1, 0] rfl)
              · refine lv_goto (tgt := 109) hx hb dX0_answer_75 (by decide) ?_
                refine lv_iinc (v := J (k + 1)) (lv' := [(4, .int (J (k + 1))), (6, .int (J (A 9 (A 5 k)))), (5, .int (J (Bf (A 11) (sn % 13) (A 5 k)))), (0, .ref o), (1, .int (J sn)), (2, .int (J le)), (3, .int (J su))]) hx hb dX0_answer_109 hl (k := 6) rfl (J_inc (by omega)) (by decide) rfl (fun ls hl => ?_)
                refine lv_goto (tgt := 9) hx hb dX0_answer_112 (by decide) ?_
                exact ih_9 le su (k + 1) h H locs ls (by omega) (by omega) (AN_no hAN hk9.1 (by omega)) eh hM hF hW hS (lv_sub hl [3, 4, 5, 6, 0] rfl)
  exact loop_9 ((I 7).toNat + 1) 1000000 1000000 0 h0 s.heap [] ls (by omega) (by omega) (AN_0 _ _ _ _) rfl hM hF hW hS (lv_sub hl [3, 4, 2, 1, 0] rfl)
