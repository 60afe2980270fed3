set_option maxHeartbeats 4000000 in
set_option maxRecDepth 100000 in
theorem e_thriftiest (l : Launch) (g : GX) (base : Nat) (sa : Nat → Nat) (h0 : Hp) (o : Nat) (R : Nat → Nat) (I : Nat → Int) (L : Nat → Int) (A : Nat → Int → Int) (Rt : Nat → Nat) (It : Nat → Int) (Lt : Nat → Int) (At : Nat → Int → Int) (Rj : Nat → Nat) (Ij : Nat → Int) (Aj : Nat → Int → Int) (Rs : Nat → Nat) (Is : Nat → Int) (Ls : Nat → Int) (As9 : Nat → Int → Int) (i v : Int) (hM : OB g 2 9 kd2 h0 o R I L A) (hT : OB g 4 4 kd4 h0 (R 3) Rt It Lt At) (hJ : OB g 1 7 kd1 h0 (R 1) Rj Ij L4 Aj) (hw9 : Wok Ij Aj) (hSJ : ∀ q, FP 9 kd2 o R q → ¬ FP 7 kd1 (R 1) Rj q) (hTJ : ∀ q, FP 4 kd4 (R 3) Rt q → ¬ FP 7 kd1 (R 1) Rj q) (hLt : 0 ≤ Lt 0 ∧ Lt 0 ≤ 14641) (hrt : 0 ≤ It 3 ∧ It 3 ≤ Lt 0) (hfo : ∀ k, 0 ≤ k → k < It 3 → 0 ≤ At 0 k ∧ At 0 k < 14641) (hSp : OB g 3 2 kd3 h0 (R 4) Rs Is Ls As9) (hPJ : ∀ q, FP 2 kd3 (R 4) Rs q → ¬ FP 7 kd1 (R 1) Rj q) (hLs : 0 ≤ Ls 0 ∧ Ls 0 ≤ 14641) (hi9 : i32 i) (hv9 : i32 v) (hls9 : ∀ k, 0 ≤ k → k < It 3 → At 0 k < Ls 0) (hle9 : ∀ j, 0 ≤ j → j < Ls 0 → i32 (As9 0 j)) : MC l g base sa yX2_thriftiest wsX2_thriftiest ({ frames := 2, cells := 0, slots := 0, locals := 44 }) ([.ref o, .int (J i), .int (J v)]) h0 (fun r h' => r = some (.int (J (thF (At 0) (goC (Ij 0) (Aj 4) i v) (As9 0) (It 3).toNat))) ∧ Fr (FP 7 kd1 (R 1) Rj) h0 h' ∧ ∃ f, OB g 1 7 kd1 h' (R 1) Rj Ij L4 (va_up Aj 5 f) ∧ ∀ i, 0 ≤ i → i < 4 → 0 ≤ f i ∧ f i ≤ 10) := by
  refine Met.ofW (cc := cX2_thriftiest) (maxL := 6) (ret := (some .int)) (by decide) rfl ?_
  intro p e s m args below meth c s₁ B hml hv
  obtain ⟨rfl, hk, hW⟩ := hv
  have hx := B.exec
  have hb := B.bytes
  have hr := B.returns
  have hts := atoms_spec (ws := wsX2_thriftiest) B.pre
  have hown : s.vm.findClass RX2 = some m.cls := findClass_of_methodNamed B.named
  have hlocks := B.notSynchronized
  have hfX1 : ∀ w ∈ wsX10, w.before ([.ref o, .int (J i), .int (J v)]).toArray s = true := fun w h => hts w (List.mem_cons_of_mem _ (List.mem_append_left _ (List.mem_append_right _ h)))
  have hfX2 : ∀ w ∈ wsX20, w.before ([.ref o, .int (J i), .int (J v)]).toArray s = true := fun w h => hts w (List.mem_cons_of_mem _ (List.mem_append_left _ (List.mem_append_left _ (List.mem_append_left _ (List.mem_append_right _ h)))))
  have hfX3 : ∀ w ∈ wsX30, w.before ([.ref o, .int (J i), .int (J v)]).toArray s = true := fun w h => hts w (List.mem_cons_of_mem _ (List.mem_append_right _ h))
  have hfX4 : ∀ w ∈ wsX40, w.before ([.ref o, .int (J i), .int (J v)]).toArray s = true := fun w h => hts w (List.mem_cons_of_mem _ (List.mem_append_left _ (List.mem_append_left _ (List.mem_append_right _ h))))
  have hS : va_S (Ab base) s.heap s.heap [] := va_S.rf
  have hl := lv_entry ([.ref o, .int (J i), .int (J v)]) (n := 6) (Nat.le_of_ble_eq_true rfl)
  rw [lg_entry_eq]
  generalize (lg_sl ([.ref o, .int (J i), .int (J v)]) ++ List.replicate (6 - (lg_sl ([.ref o, .int (J i), .int (J v)])).length) Slot.unset).toArray = ls at hl ⊢
  have hl : lv_has ls 6 [(0, .ref o), (1, .int (J i)), (2, .int (J v))] := hl
  have hF : Fr (FP 7 kd1 (R 1) Rj) h0 h0 := Fr.rf
  obtain ⟨hw1, hw2, hw3, hw4, hw5, hw6⟩ := id hw9
  refine lv_iconst (v := J (-1)) hx hb dX2_thriftiest_0 rfl ?_
  refine lv_istore_n (lv' := [(3, .int (J ((-1)))), (0, .ref o), (1, .int (J i)), (2, .int (J v))]) hx hb dX2_thriftiest_1 rfl hl (by decide) rfl (fun ls hl => ?_)
  refine lv_iconst (v := J (0)) hx hb dX2_thriftiest_2 rfl ?_
  refine lv_istore (lv' := [(4, .int (J 0)), (3, .int (J ((-1)))), (0, .ref o), (1, .int (J i)), (2, .int (J v))]) hx hb dX2_thriftiest_3 hl (by decide) rfl (fun ls hl => ?_)
  have loop_5 : ∀ (n9 : Nat) (k : Int) (b : Int) (f : Int → Int) (h : Hp) (H : Heap) (locs : List Loc) (ls : Array Slot), It 3 - k < (n9 : Int) → (0 ≤ k ∧ k ≤ It 3) → (∀ i, 0 ≤ i → i < 4 → 0 ≤ f i ∧ f i ≤ 10) → (b = thF (At 0) (goC (Ij 0) (Aj 4) i v) (As9 0) k.toNat) → (b = -1 ∨ (0 ≤ b ∧ b < Ls 0)) → (OB g 2 9 kd2 h o R I L A) → (OB g 4 4 kd4 h (R 3) Rt It Lt At) → (OB g 1 7 kd1 h (R 1) Rj Ij L4 (va_up Aj 5 (f))) → (OB g 3 2 kd3 h (R 4) Rs Is Ls As9) → (Fr (FP 7 kd1 (R 1) Rj) h0 h) → (Wd g base h H) → (va_S (Ab base) s.heap H locs) → (lv_has ls 6 [(0, .ref o), (1, .int (J i)), (2, .int (J v)), (3, .int (J b)), (4, .int (J k))]) → W p l e (headSpec wsX2_thriftiest ({ frames := 2, cells := 0, slots := 0, locals := 44 })).room s m ([.ref o, .int (J i), .int (J v)]).toArray below meth c H locs 0 0 (MQ below (QcM g base (fun r h' => r = some (.int (J (thF (At 0) (goC (Ij 0) (Aj 4) i v) (As9 0) (It 3).toNat))) ∧ Fr (FP 7 kd1 (R 1) Rj) h0 h' ∧ ∃ f, OB g 1 7 kd1 h' (R 1) Rj Ij L4 (va_up Aj 5 f) ∧ ∀ i, 0 ≤ i → i < 4 → 0 ≤ f i ∧ f i ≤ 10)) ([.ref o, .int (J i), .int (J v)]).toArray s (0) (0) (Ab base)) (F0 m 5 ls []) := by
    intro n9
    induction n9 with
    | zero =>
      intro k b f h H locs ls hmu hk9 hfr eb hbr hM hT hJ hSp hF hW hS hl
      exact absurd hmu (by omega)
    | succ n9 ih =>
      intro k b f h H locs ls hmu hk9 hfr eb hbr hM hT hJ hSp hF hW hS hl
      have ih_5 := ih
      refine lv_iload hx hb dX2_thriftiest_5 (lv_at hl 4 rfl) ?_
      refine lv_aload_n hx hb dX2_thriftiest_7 rfl (lv_at hl 0 rfl) ?_
      refine g_get (ci := 2) (C := RX2) (T := TX2) (N := 9) (v := .ref (R 3)) hx hb hfX2 (fun _ h9 => h9) hown hk hW hM.1 rfl 3 (by decide) (hts (.fieldLink RX2 28 "JugsAndGlasses$Search" "thrifty" "LJugsAndGlasses$Tour;") (by decide +kernel)) rfl rfl dX2_thriftiest_8 ?_
      refine g_get (ci := 4) (C := RX4) (T := TX4) (N := 4) (v := .int (J (It 3))) hx hb hfX4 (fun _ h9 => h9) hown hk hW hT.1 rfl 3 (by decide) (hts (.fieldLink RX2 78 "JugsAndGlasses$Tour" "reached" "I") (by decide +kernel)) rfl rfl dX2_thriftiest_11 ?_
      refine j_icmp_ge (x := k) (y := It 3) (tgt := 97) hx hb ⟨by omega, by omega⟩ ⟨by omega, by omega⟩ dX2_thriftiest_14 (by decide) (fun c_14 => ?_) (fun c_14 => ?_)
      · refine lv_iload_n hx hb dX2_thriftiest_97 rfl (lv_at hl 3 rfl) ?_
        exact g_iret hx hb hr hW hS dX2_thriftiest_98 hlocks (⟨congrArg (fun q : Int => some (Value.int (J q))) (show b = thF (At 0) (goC (Ij 0) (Aj 4) i v) (As9 0) (It 3).toNat from by rw [eb, show k = It 3 by omega]), hF, f, hJ, hfr⟩)
      · have hfk := hfo k hk9.1 (by omega)
        have hfl := hls9 k hk9.1 (by omega)
        refine lv_iload hx hb dX2_thriftiest_17 (lv_at hl 4 rfl) ?_
        refine lv_aload_n hx hb dX2_thriftiest_19 rfl (lv_at hl 0 rfl) ?_
        refine g_get (ci := 2) (C := RX2) (T := TX2) (N := 9) (v := .ref (R 3)) hx hb hfX2 (fun _ h9 => h9) hown hk hW hM.1 rfl 3 (by decide) (hts (.fieldLink RX2 28 "JugsAndGlasses$Search" "thrifty" "LJugsAndGlasses$Tour;") (by decide +kernel)) rfl rfl dX2_thriftiest_20 ?_
        refine g_get (ci := 4) (C := RX4) (T := TX4) (N := 4) (v := .ref (Rt 0)) hx hb hfX4 (fun _ h9 => h9) hown hk hW hT.1 rfl 0 (by decide) (hts (.fieldLink RX2 82 "JugsAndGlasses$Tour" "found" "[I") (by decide +kernel)) rfl rfl dX2_thriftiest_23 ?_
        refine g_alen (n := Lt 0) hx hb hk hW (hT.ai 0 (by decide) rfl) (by omega) dX2_thriftiest_26 ?_
        refine j_icmp_ge (x := k) (y := Lt 0) (tgt := 97) hx hb ⟨by omega, by omega⟩ ⟨by omega, by omega⟩ dX2_thriftiest_27 (by decide) (fun c_27 => ?_) (fun c_27 => ?_)
        · exfalso
          omega
        · refine lv_aload_n hx hb dX2_thriftiest_30 rfl (lv_at hl 0 rfl) ?_
          refine g_get (ci := 2) (C := RX2) (T := TX2) (N := 9) (v := .ref (R 3)) hx hb hfX2 (fun _ h9 => h9) hown hk hW hM.1 rfl 3 (by decide) (hts (.fieldLink RX2 28 "JugsAndGlasses$Search" "thrifty" "LJugsAndGlasses$Tour;") (by decide +kernel)) rfl rfl dX2_thriftiest_31 ?_
          refine g_get (ci := 4) (C := RX4) (T := TX4) (N := 4) (v := .ref (Rt 0)) hx hb hfX4 (fun _ h9 => h9) hown hk hW hT.1 rfl 0 (by decide) (hts (.fieldLink RX2 82 "JugsAndGlasses$Tour" "found" "[I") (by decide +kernel)) rfl rfl dX2_thriftiest_34 ?_
          refine lv_iload hx hb dX2_thriftiest_37 (lv_at hl 4 rfl) ?_
          refine g_iald (n := Lt 0) (f := At 0) (i := k) hx hb hk hW (hT.ai 0 (by decide) rfl) (by omega) (by omega) (by omega) dX2_thriftiest_39 ?_
          refine lv_istore (lv' := [(5, .int (J (At 0 k))), (0, .ref o), (1, .int (J i)), (2, .int (J v)), (3, .int (J b)), (4, .int (J k))]) hx hb dX2_thriftiest_40 hl (by decide) rfl (fun ls hl => ?_)
          refine lv_aload_n hx hb dX2_thriftiest_42 rfl (lv_at hl 1 rfl) ?_
          refine g_get (ci := 2) (C := RX2) (T := TX2) (N := 9) (v := .ref (R 1)) hx hb hfX2 (fun _ h9 => h9) hown hk hW hM.1 rfl 1 (by decide) (hts (.fieldLink RX2 18 "JugsAndGlasses$Search" "trial" "LJugsAndGlasses$Jugs;") (by decide +kernel)) rfl rfl dX2_thriftiest_43 ?_
          refine lv_iload hx hb dX2_thriftiest_46 (lv_at hl 0 rfl) ?_
          refine g_callV (As := [.int (J (At 0 k))]) (rest := []) (b := R 1) (ci := 1) (C := RX1) (T := TX1) (N := 7) ⟨hx, hb, hml, hown, hts⟩ (k_stand l g base sa h (R 1) Rj Ij (va_up Aj 5 f) (At 0 k) hJ ⟨by omega, by omega⟩ ⟨hw1.1, hw1.2.1⟩ hw1.2.2) (cwV 1 hts gX2_thriftiest_X1_stand rfl rfl rfl (by decide +kernel) ⟨Nat.le_of_ble_eq_true rfl, Nat.le_of_ble_eq_true rfl⟩) hk hW hS hJ.1 rfl rfl hl.1 (Nat.le_of_ble_eq_true rfl) dX2_thriftiest_48 ⟨Nat.le_of_ble_eq_true rfl, Nat.le_of_ble_eq_true rfl⟩ (fun r9 h9 H locs hp hW hS => ?_)
          have hp : r9 = none ∧ OB g 1 7 kd1 h9 (R 1) Rj Ij L4 (va_up (va_up Aj 5 f) 5 (p_stand (Ij 0) (Aj 4) f (At 0 k))) ∧ Fr (FP 7 kd1 (R 1) Rj) h h9 := hp
          obtain ⟨rfl, hJ, hF9⟩ := hp
          refine W.eq (g2 := F0 m 51 ls []) rfl ?_
          have hM := hM.fr hF9 hSJ
          have hT := hT.fr hF9 hTJ
          have hSp := hSp.fr hF9 hPJ
          have hF := hF.tr hF9 (fun q w _ => w)
          rw [bx_uu] at hJ
          generalize h9 = h at hM hT hJ hSp hF hW
          refine lv_aload_n hx hb dX2_thriftiest_51 rfl (lv_at hl 1 rfl) ?_
          refine g_get (ci := 2) (C := RX2) (T := TX2) (N := 9) (v := .ref (R 1)) hx hb hfX2 (fun _ h9 => h9) hown hk hW hM.1 rfl 1 (by decide) (hts (.fieldLink RX2 18 "JugsAndGlasses$Search" "trial" "LJugsAndGlasses$Jugs;") (by decide +kernel)) rfl rfl dX2_thriftiest_52 ?_
          refine lv_iload_n hx hb dX2_thriftiest_55 rfl (lv_at hl 2 rfl) ?_
          refine lv_iload_n hx hb dX2_thriftiest_56 rfl (lv_at hl 3 rfl) ?_
          refine g_callV (As := [.int (J i), .int (J v)]) (rest := []) (b := R 1) (ci := 1) (C := RX1) (T := TX1) (N := 7) ⟨hx, hb, hml, hown, hts⟩ (k_meet l g base sa h (R 1) Rj Ij (va_up Aj 5 (p_stand (Ij 0) (Aj 4) f (At 0 k))) i v hJ hi9 hv9 ⟨hw1.1, hw1.2.1⟩ (fun j a b => stand_r hw1 hfr (At 0 k) j a (by have := hw1.2.1; omega))) (cwV 2 hts gX2_thriftiest_X1_meet rfl rfl rfl (by decide +kernel) ⟨Nat.le_of_ble_eq_true rfl, Nat.le_of_ble_eq_true rfl⟩) hk hW hS hJ.1 rfl rfl hl.1 (Nat.le_of_ble_eq_true rfl) dX2_thriftiest_57 ⟨Nat.le_of_ble_eq_true rfl, Nat.le_of_ble_eq_true rfl⟩ (fun r9 h9 H locs hp hW hS => ?_)
          have hp : r9 = some (.int (J (p_meet (Ij 0) (p_stand (Ij 0) (Aj 4) f (At 0 k)) i v))) ∧ h9 = h := hp
          rw [meet_stand] at hp
          obtain ⟨rfl, e9⟩ := hp
          rw [e9] at hW
          refine W.eq (g2 := F0 m 60 ls [.int (J (p_meet (Ij 0) (DC (Aj 4) (At 0 k)) i v))]) rfl ?_
          have hpm := p_meet_r (Ij 0) (DC (Aj 4) (At 0 k)) i v
          refine j_if_eq (x := p_meet (Ij 0) (DC (Aj 4) (At 0 k)) i v) (tgt := 91) hx hb ⟨by omega, by omega⟩ dX2_thriftiest_60 (by decide) (fun c_60 => ?_) (fun c_60 => ?_)
          · refine lv_iinc (v := J (k + 1)) (lv' := [(4, .int (J (k + 1))), (5, .int (J (At 0 k))), (0, .ref o), (1, .int (J i)), (2, .int (J v)), (3, .int (J b))]) hx hb dX2_thriftiest_91 hl (k := 5) rfl (J_inc (by omega)) (by decide) rfl (fun ls hl => ?_)
            refine lv_goto (tgt := 5) hx hb dX2_thriftiest_94 (by decide) ?_
            exact ih_5 (k + 1) b (p_stand (Ij 0) (Aj 4) f (At 0 k)) h H locs ls (by omega) (by omega) (stand_r hw1 hfr _) (by rw [thF_s _ _ _ hk9.1, ← eb, if_neg (fun w => by first | (have w1 := w.1; unfold goC at w1; simp at w1; omega) | (have w2 := w.2; omega))]) hbr hM hT hJ hSp hF hW hS (lv_sub hl [2, 3, 4, 5, 0] rfl)
          · refine lv_iload_n hx hb dX2_thriftiest_63 rfl (lv_at hl 4 rfl) ?_
            refine lv_iconst (v := J (-1)) hx hb dX2_thriftiest_64 rfl ?_
            refine j_icmp_eq (x := b) (y := (-1)) (tgt := 88) hx hb ⟨by omega, by omega⟩ ⟨by omega, by omega⟩ dX2_thriftiest_65 (by decide) (fun c_65 => ?_) (fun c_65 => ?_)
            · refine lv_iload hx hb dX2_thriftiest_88 (lv_at hl 0 rfl) ?_
              refine lv_istore_n (lv' := [(3, .int (J (At 0 k))), (5, .int (J (At 0 k))), (0, .ref o), (1, .int (J i)), (2, .int (J v)), (4, .int (J k))]) hx hb dX2_thriftiest_90 rfl hl (by decide) rfl (fun ls hl => ?_)
              refine lv_iinc (v := J (k + 1)) (lv' := [(4, .int (J (k + 1))), (3, .int (J (At 0 k))), (5, .int (J (At 0 k))), (0, .ref o), (1, .int (J i)), (2, .int (J v))]) hx hb dX2_thriftiest_91 hl (k := 5) rfl (J_inc (by omega)) (by decide) rfl (fun ls hl => ?_)
              refine lv_goto (tgt := 5) hx hb dX2_thriftiest_94 (by decide) ?_
              exact ih_5 (k + 1) (At 0 k) (p_stand (Ij 0) (Aj 4) f (At 0 k)) h H locs ls (by omega) (by omega) (stand_r hw1 hfr _) (by rw [thF_s _ _ _ hk9.1, ← eb, if_pos ⟨by unfold goC; simp; omega, by omega⟩]) (Or.inr ⟨by omega, by omega⟩) hM hT hJ hSp hF hW hS (lv_sub hl [3, 4, 5, 1, 0] rfl)
            · refine lv_aload_n hx hb dX2_thriftiest_68 rfl (lv_at hl 1 rfl) ?_
              refine g_get (ci := 2) (C := RX2) (T := TX2) (N := 9) (v := .ref (R 4)) hx hb hfX2 (fun _ h9 => h9) hown hk hW hM.1 rfl 4 (by decide) (hts (.fieldLink RX2 34 "JugsAndGlasses$Search" "spilling" "LJugsAndGlasses$Spilling;") (by decide +kernel)) rfl rfl dX2_thriftiest_69 ?_
              refine lv_iload hx hb dX2_thriftiest_72 (lv_at hl 0 rfl) ?_
              refine g_callV (As := [.int (J (At 0 k))]) (rest := []) (b := R 4) (ci := 3) (C := RX3) (T := TX3) (N := 2) ⟨hx, hb, hml, hown, hts⟩ (s_leastFor l g base sa h (R 4) Rs Is Ls As9 (At 0 k) hSp hLs ⟨by omega, by omega⟩) (cwV 1 hts gX2_thriftiest_X3_leastFor rfl rfl rfl (by decide +kernel) ⟨Nat.le_of_ble_eq_true rfl, Nat.le_of_ble_eq_true rfl⟩) hk hW hS hSp.1 rfl rfl hl.1 (Nat.le_of_ble_eq_true rfl) dX2_thriftiest_74 ⟨Nat.le_of_ble_eq_true rfl, Nat.le_of_ble_eq_true rfl⟩ (fun r9 h9 H locs hp hW hS => ?_)
              rw [if_pos (by omega)] at hp
              obtain ⟨rfl, e9⟩ := hp
              rw [e9] at hW
              refine W.eq (g2 := F0 m 77 ls [.int (J (As9 0 (At 0 k)))]) rfl ?_
              refine lv_aload_n hx hb dX2_thriftiest_77 rfl (lv_at hl 1 rfl) ?_
              refine g_get (ci := 2) (C := RX2) (T := TX2) (N := 9) (v := .ref (R 4)) hx hb hfX2 (fun _ h9 => h9) hown hk hW hM.1 rfl 4 (by decide) (hts (.fieldLink RX2 34 "JugsAndGlasses$Search" "spilling" "LJugsAndGlasses$Spilling;") (by decide +kernel)) rfl rfl dX2_thriftiest_78 ?_
              refine lv_iload_n hx hb dX2_thriftiest_81 rfl (lv_at hl 4 rfl) ?_
              refine g_callV (As := [.int (J b)]) (rest := [.int (J (As9 0 (At 0 k)))]) (b := R 4) (ci := 3) (C := RX3) (T := TX3) (N := 2) ⟨hx, hb, hml, hown, hts⟩ (s_leastFor l g base sa h (R 4) Rs Is Ls As9 b hSp hLs ⟨by omega, by omega⟩) (cwV 1 hts gX2_thriftiest_X3_leastFor rfl rfl rfl (by decide +kernel) ⟨Nat.le_of_ble_eq_true rfl, Nat.le_of_ble_eq_true rfl⟩) hk hW hS hSp.1 rfl rfl hl.1 (Nat.le_of_ble_eq_true rfl) dX2_thriftiest_82 ⟨Nat.le_of_ble_eq_true rfl, Nat.le_of_ble_eq_true rfl⟩ (fun r9 h9 H locs hp hW hS => ?_)
              rw [if_pos (by omega)] at hp
              obtain ⟨rfl, e9⟩ := hp
              rw [e9] at hW
              refine W.eq (g2 := F0 m 85 ls [.int (J (As9 0 b)), .int (J (As9 0 (At 0 k)))]) rfl ?_
              refine j_icmp_ge (x := As9 0 (At 0 k)) (y := As9 0 b) (tgt := 91) hx hb (hle9 _ (by omega) (by omega)) (hle9 _ (by omega) (by omega)) dX2_thriftiest_85 (by decide) (fun c_85 => ?_) (fun c_85 => ?_)
              · refine lv_iinc (v := J (k + 1)) (lv' := [(4, .int (J (k + 1))), (5, .int (J (At 0 k))), (0, .ref o), (1, .int (J i)), (2, .int (J v)), (3, .int (J b))]) hx hb dX2_thriftiest_91 hl (k := 5) rfl (J_inc (by omega)) (by decide) rfl (fun ls hl => ?_)
                refine lv_goto (tgt := 5) hx hb dX2_thriftiest_94 (by decide) ?_
                exact ih_5 (k + 1) b (p_stand (Ij 0) (Aj 4) f (At 0 k)) h H locs ls (by omega) (by omega) (stand_r hw1 hfr _) (by rw [thF_s _ _ _ hk9.1, ← eb, if_neg (fun w => by first | (have w1 := w.1; unfold goC at w1; simp at w1; omega) | (have w2 := w.2; omega))]) hbr hM hT hJ hSp hF hW hS (lv_sub hl [2, 3, 4, 5, 0] rfl)
              · refine lv_iload hx hb dX2_thriftiest_88 (lv_at hl 0 rfl) ?_
                refine lv_istore_n (lv' := [(3, .int (J (At 0 k))), (5, .int (J (At 0 k))), (0, .ref o), (1, .int (J i)), (2, .int (J v)), (4, .int (J k))]) hx hb dX2_thriftiest_90 rfl hl (by decide) rfl (fun ls hl => ?_)
                refine lv_iinc (v := J (k + 1)) (lv' := [(4, .int (J (k + 1))), (3, .int (J (At 0 k))), (5, .int (J (At 0 k))), (0, .ref o), (1, .int (J i)), (2, .int (J v))]) hx hb dX2_thriftiest_91 hl (k := 5) rfl (J_inc (by omega)) (by decide) rfl (fun ls hl => ?_)
                refine lv_goto (tgt := 5) hx hb dX2_thriftiest_94 (by decide) ?_
                exact ih_5 (k + 1) (At 0 k) (p_stand (Ij 0) (Aj 4) f (At 0 k)) h H locs ls (by omega) (by omega) (stand_r hw1 hfr _) (by rw [thF_s _ _ _ hk9.1, ← eb, if_pos ⟨by unfold goC; simp; omega, by omega⟩]) (Or.inr ⟨by omega, by omega⟩) hM hT hJ hSp hF hW hS (lv_sub hl [3, 4, 5, 1, 0] rfl)
  exact loop_5 ((It 3).toNat + 1) 0 (-1) (Aj 5) h0 s.heap [] ls (by omega) (by omega) hw6 rfl (Or.inl rfl) hM hT (by rw [va_up_id]; exact hJ) hSp hF hW hS (lv_sub hl [2, 3, 4, 1, 0] rfl)

set_option maxHeartbeats 4000000 in
set_option maxRecDepth 100000 in
theorem e_waysFor (l : Launch) (g : GX) (base : Nat) (sa : Nat → Nat) (h0 : Hp) (o : Nat) (R : Nat → Nat) (I : Nat → Int) (L : Nat → Int) (A : Nat → Int → Int) (x : Int) (hM : OB g 2 9 kd2 h0 o R I L A) (hL : 0 ≤ L 5 ∧ L 5 < 2147483648) (hx9 : i32 x) : MC l g base sa yX2_waysFor wsX2_waysFor ({ frames := 0, cells := 0, slots := 0, locals := 0 }) ([.ref o, .int (J x)]) h0 (fun r h' => r = some (.long (JL (if 0 ≤ x ∧ x < L 5 then A 5 x else 0))) ∧ h' = h0) := by
  refine Met.ofW (cc := cX2_waysFor) (maxL := 2) (ret := (some .long)) (by decide) rfl ?_
  intro p e s m args below meth c s₁ B hml hv
  obtain ⟨rfl, hk, hW⟩ := hv
  have hx := B.exec
  have hb := B.bytes
  have hr := B.returns
  have hts := atoms_spec (ws := wsX2_waysFor) B.pre
  have hown : s.vm.findClass RX2 = some m.cls := findClass_of_methodNamed B.named
  have hlocks := B.notSynchronized
  have hfX2 : ∀ w ∈ wsX20, w.before ([.ref o, .int (J x)]).toArray s = true := fun w h => hts w (List.mem_cons_of_mem _ (List.mem_append_right _ h))
  have hS : va_S (Ab base) s.heap s.heap [] := va_S.rf
  have hl := lv_entry ([.ref o, .int (J x)]) (n := 2) (Nat.le_of_ble_eq_true rfl)
  rw [lg_entry_eq]
  generalize (lg_sl ([.ref o, .int (J x)]) ++ List.replicate (2 - (lg_sl ([.ref o, .int (J x)])).length) Slot.unset).toArray = ls at hl ⊢
  have hl : lv_has ls 2 [(0, .ref o), (1, .int (J x))] := hl
  obtain ⟨hx1, hx2⟩ := id hx9
  refine lv_iload_n hx hb dX2_waysFor_0 rfl (lv_at hl 1 rfl) ?_
  refine j_if_lt (x := x) (tgt := 22) hx hb ⟨by omega, by omega⟩ dX2_waysFor_1 (by decide) (fun c_1 => ?_) (fun c_1 => ?_)
  · refine lv_lconst (v := JL (0)) hx hb dX2_waysFor_22 (by decide) ?_
    exact g_lret hx hb hr hW hS dX2_waysFor_23 hlocks (⟨congrArg (fun z : Int => some (Value.long (JL z))) (show 0 = (if 0 ≤ x ∧ x < L 5 then A 5 x else 0) from by first | rw [if_pos (by omega)] | rw [if_neg (by omega)]), rfl⟩)
  · refine lv_iload_n hx hb dX2_waysFor_4 rfl (lv_at hl 1 rfl) ?_
    refine lv_aload_n hx hb dX2_waysFor_5 rfl (lv_at hl 0 rfl) ?_
    refine g_get (ci := 2) (C := RX2) (T := TX2) (N := 9) (v := .ref (R 5)) hx hb hfX2 (fun _ h9 => h9) hown hk hW hM.1 rfl 5 (by decide) (hts (.fieldLink RX2 38 "JugsAndGlasses$Search" "ways" "[J") (by decide +kernel)) rfl rfl dX2_waysFor_6 ?_
    refine g_lalen (n := L 5) hx hb hk hW (hM.al 5 (by decide) rfl) (by omega) dX2_waysFor_9 ?_
    refine j_icmp_ge (x := x) (y := L 5) (tgt := 22) hx hb ⟨by omega, by omega⟩ ⟨by omega, by omega⟩ dX2_waysFor_10 (by decide) (fun c_10 => ?_) (fun c_10 => ?_)
    · refine lv_lconst (v := JL (0)) hx hb dX2_waysFor_22 (by decide) ?_
      exact g_lret hx hb hr hW hS dX2_waysFor_23 hlocks (⟨congrArg (fun z : Int => some (Value.long (JL z))) (show 0 = (if 0 ≤ x ∧ x < L 5 then A 5 x else 0) from by first | rw [if_pos (by omega)] | rw [if_neg (by omega)]), rfl⟩)
    · refine lv_aload_n hx hb dX2_waysFor_13 rfl (lv_at hl 0 rfl) ?_
      refine g_get (ci := 2) (C := RX2) (T := TX2) (N := 9) (v := .ref (R 5)) hx hb hfX2 (fun _ h9 => h9) hown hk hW hM.1 rfl 5 (by decide) (hts (.fieldLink RX2 38 "JugsAndGlasses$Search" "ways" "[J") (by decide +kernel)) rfl rfl dX2_waysFor_14 ?_
      refine lv_iload_n hx hb dX2_waysFor_17 rfl (lv_at hl 1 rfl) ?_
      refine g_lald (n := L 5) (f := A 5) (i := x) hx hb hk hW (hM.al 5 (by decide) rfl) (by omega) (by omega) (by omega) dX2_waysFor_18 ?_
      refine lv_goto (tgt := 23) hx hb dX2_waysFor_19 (by decide) ?_
      exact g_lret hx hb hr hW hS dX2_waysFor_23 hlocks (⟨congrArg (fun z : Int => some (Value.long (JL z))) (show A 5 x = (if 0 ≤ x ∧ x < L 5 then A 5 x else 0) from by first | rw [if_pos (by omega)] | rw [if_neg (by omega)]), rfl⟩)

set_option maxHeartbeats 4000000 in
set_option maxRecDepth 100000 in
theorem e_waysTo (l : Launch) (g : GX) (base : Nat) (sa : Nat → Nat) (h0 : Hp) (o : Nat) (R : Nat → Nat) (I : Nat → Int) (L : Nat → Int) (A : Nat → Int → Int) (Rt : Nat → Nat) (It : Nat → Int) (Lt : Nat → Int) (At : Nat → Int → Int) (Rj : Nat → Nat) (Ij : Nat → Int) (Aj : Nat → Int → Int) (i v : Int) (hM : OB g 2 9 kd2 h0 o R I L A) (hT : OB g 4 4 kd4 h0 (R 2) Rt It Lt At) (hJ : OB g 1 7 kd1 h0 (R 1) Rj Ij L4 Aj) (hw9 : Wok Ij Aj) (hSJ : ∀ q, FP 9 kd2 o R q → ¬ FP 7 kd1 (R 1) Rj q) (hTJ : ∀ q, FP 4 kd4 (R 2) Rt q → ¬ FP 7 kd1 (R 1) Rj q) (hLt : 0 ≤ Lt 0 ∧ Lt 0 ≤ 14641) (hrt : 0 ≤ It 3 ∧ It 3 ≤ Lt 0) (hfo : ∀ k, 0 ≤ k → k < It 3 → 0 ≤ At 0 k ∧ At 0 k < 14641) (hi9 : i32 i) (hv9 : i32 v) (hL1 : 0 ≤ Lt 1 ∧ Lt 1 ≤ 14641) (hlv9 : ∀ j, 0 ≤ j → j < Lt 1 → i32 (At 1 j)) (hfl : ∀ k, 0 ≤ k → k < It 3 → At 0 k < Lt 1 ∧ At 0 k < L 5 ∧ 0 ≤ At 1 (At 0 k)) (hL5 : L 5 < 2147483648) (hwy : ∀ j, 0 ≤ j → j < L 5 → 0 ≤ A 5 j ∧ A 5 j ≤ mM) : MC l g base sa yX2_waysTo wsX2_waysTo ({ frames := 3, cells := 0, slots := 0, locals := 67 }) ([.ref o, .int (J i), .int (J v)]) h0 (fun r h' => ∃ d, d = (if 0 ≤ fnd (At 0) (goC (Ij 0) (Aj 4) i v) (It 3).toNat 0 ∧ fnd (At 0) (goC (Ij 0) (Aj 4) i v) (It 3).toNat 0 < Lt 1 ∧ 0 ≤ At 1 (fnd (At 0) (goC (Ij 0) (Aj 4) i v) (It 3).toNat 0) then At 1 (fnd (At 0) (goC (Ij 0) (Aj 4) i v) (It 3).toNat 0) else -1) ∧ r = some (.long (JL (wyF (At 0) (At 1) (goC (Ij 0) (Aj 4) i v) (A 5) d (It 3).toNat))) ∧ Fr (FP 7 kd1 (R 1) Rj) h0 h' ∧ ∃ f, OB g 1 7 kd1 h' (R 1) Rj Ij L4 (va_up Aj 5 f) ∧ ∀ i, 0 ≤ i → i < 4 → 0 ≤ f i ∧ f i ≤ 10) := by
  refine Met.ofW (cc := cX2_waysTo) (maxL := 8) (ret := (some .long)) (by decide) rfl ?_
  intro p e s m args below meth c s₁ B hml hv
  obtain ⟨rfl, hk, hW⟩ := hv
  have hx := B.exec
  have hb := B.bytes
  have hr := B.returns
  have hts := atoms_spec (ws := wsX2_waysTo) B.pre
  have hown : s.vm.findClass RX2 = some m.cls := findClass_of_methodNamed B.named
  have hlocks := B.notSynchronized
  have hfX1 : ∀ w ∈ wsX10, w.before ([.ref o, .int (J i), .int (J v)]).toArray s = true := fun w h => hts w (List.mem_cons_of_mem _ (List.mem_append_right _ h))
  have hfX2 : ∀ w ∈ wsX20, w.before ([.ref o, .int (J i), .int (J v)]).toArray s = true := fun w h => hts w (List.mem_cons_of_mem _ (List.mem_append_left _ (List.mem_append_left _ (List.mem_append_right _ h))))
  have hfX4 : ∀ w ∈ wsX40, w.before ([.ref o, .int (J i), .int (J v)]).toArray s = true := fun w h => hts w (List.mem_cons_of_mem _ (List.mem_append_left _ (List.mem_append_right _ h)))
  have hS : va_S (Ab base) s.heap s.heap [] := va_S.rf
  have hl := lv_entry ([.ref o, .int (J i), .int (J v)]) (n := 8) (Nat.le_of_ble_eq_true rfl)
  rw [lg_entry_eq]
  generalize (lg_sl ([.ref o, .int (J i), .int (J v)]) ++ List.replicate (8 - (lg_sl ([.ref o, .int (J i), .int (J v)])).length) Slot.unset).toArray = ls at hl ⊢
  have hl : lv_has ls 8 [(0, .ref o), (1, .int (J i)), (2, .int (J v))] := hl
  have hF : Fr (FP 7 kd1 (R 1) Rj) h0 h0 := Fr.rf
  obtain ⟨hw1, hw2, hw3, hw4, hw5, hw6⟩ := id hw9
  refine lv_aload_n hx hb dX2_waysTo_0 rfl (lv_at hl 0 rfl) ?_
  refine g_get (ci := 2) (C := RX2) (T := TX2) (N := 9) (v := .ref (R 2)) hx hb hfX2 (fun _ h9 => h9) hown hk hW hM.1 rfl 2 (by decide) (hts (.fieldLink RX2 24 "JugsAndGlasses$Search" "all" "LJugsAndGlasses$Tour;") (by decide +kernel)) rfl rfl dX2_waysTo_1 ?_
  refine lv_aload_n hx hb dX2_waysTo_4 rfl (lv_at hl 0 rfl) ?_
  refine lv_iload_n hx hb dX2_waysTo_5 rfl (lv_at hl 1 rfl) ?_
  refine lv_iload_n hx hb dX2_waysTo_6 rfl (lv_at hl 2 rfl) ?_
  refine g_callV (As := [.int (J i), .int (J v)]) (rest := [.ref (R 2)]) (b := o) (ci := 2) (C := RX2) (T := TX2) (N := 9) ⟨hx, hb, hml, hown, hts⟩ (e_nearest l g base sa h0 o R I L A Rt It Lt At Rj Ij Aj i v hM hT hJ hw9 hSJ hTJ hLt hrt hfo hi9 hv9) (cwV 2 hts gX2_waysTo_X2_nearest rfl rfl rfl (by decide +kernel) ⟨Nat.le_of_ble_eq_true rfl, Nat.le_of_ble_eq_true rfl⟩) hk hW hS hM.1 rfl rfl hl.1 (Nat.le_of_ble_eq_true rfl) dX2_waysTo_7 ⟨Nat.le_of_ble_eq_true rfl, Nat.le_of_ble_eq_true rfl⟩ (fun r9 h9 H locs hp hW hS => ?_)
  obtain ⟨rfl, hF9, f, hJ, hfr⟩ := hp
  refine W.eq (g2 := F0 m 10 ls [.int (J (fnd (At 0) (goC (Ij 0) (Aj 4) i v) (It 3).toNat 0)), .ref (R 2)]) rfl ?_
  have hM := hM.fr hF9 hSJ
  have hT := hT.fr hF9 hTJ
  have hF := hF.tr hF9 (fun q w _ => w)
  generalize h9 = h at hM hT hJ hF hW
  refine g_callV (As := [.int (J (fnd (At 0) (goC (Ij 0) (Aj 4) i v) (It 3).toNat 0))]) (rest := []) (b := R 2) (ci := 4) (C := RX4) (T := TX4) (N := 4) ⟨hx, hb, hml, hown, hts⟩ (t_acts l g base sa h (R 2) Rt It Lt At (fnd (At 0) (goC (Ij 0) (Aj 4) i v) (It 3).toNat 0) hT (fnd_r hfo _ 0 (by omega) (by omega)) hL1 hlv9) (cwV 1 hts gX2_waysTo_X4_acts rfl rfl rfl (by decide +kernel) ⟨Nat.le_of_ble_eq_true rfl, Nat.le_of_ble_eq_true rfl⟩) hk hW hS hT.1 rfl rfl hl.1 (Nat.le_of_ble_eq_true rfl) dX2_waysTo_10 ⟨Nat.le_of_ble_eq_true rfl, Nat.le_of_ble_eq_true rfl⟩ (fun r9 h9 H locs hp hW hS => ?_)
  obtain ⟨rfl, e9⟩ := hp
  rw [e9] at hW
  refine W.eq (g2 := F0 m 13 ls [.int (J (if 0 ≤ fnd (At 0) (goC (Ij 0) (Aj 4) i v) (It 3).toNat 0 ∧ fnd (At 0) (goC (Ij 0) (Aj 4) i v) (It 3).toNat 0 < Lt 1 ∧ 0 ≤ At 1 (fnd (At 0) (goC (Ij 0) (Aj 4) i v) (It 3).toNat 0) then At 1 (fnd (At 0) (goC (Ij 0) (Aj 4) i v) (It 3).toNat 0) else -1))]) rfl ?_
  obtain ⟨d, ed⟩ : ∃ d, d = (if 0 ≤ fnd (At 0) (goC (Ij 0) (Aj 4) i v) (It 3).toNat 0 ∧ fnd (At 0) (goC (Ij 0) (Aj 4) i v) (It 3).toNat 0 < Lt 1 ∧ 0 ≤ At 1 (fnd (At 0) (goC (Ij 0) (Aj 4) i v) (It 3).toNat 0) then At 1 (fnd (At 0) (goC (Ij 0) (Aj 4) i v) (It 3).toNat 0) else -1) := ⟨_, rfl⟩
  refine W.eq (g2 := F0 m 13 ls [.int (J d)]) (by rw [ed]) ?_
  have hdr : i32 d := by rw [ed]; split; (next w => exact hlv9 _ w.1 w.2.1); exact ⟨by decide, by decide⟩
  refine lv_istore_n (lv' := [(3, .int (J d)), (0, .ref o), (1, .int (J i)), (2, .int (J v))]) hx hb dX2_waysTo_13 rfl hl (by decide) rfl (fun ls hl => ?_)
  refine lv_lconst (v := JL (0)) hx hb dX2_waysTo_14 (by decide) ?_
  refine lv_lstore (lv' := [(4, .long (JL 0)), (3, .int (J d)), (0, .ref o), (1, .int (J i)), (2, .int (J v))]) hx hb dX2_waysTo_15 hl (by decide) rfl (fun ls hl => ?_)
  refine lv_iconst (v := J (0)) hx hb dX2_waysTo_17 rfl ?_
  refine lv_istore (lv' := [(6, .int (J 0)), (4, .long (JL 0)), (3, .int (J d)), (0, .ref o), (1, .int (J i)), (2, .int (J v))]) hx hb dX2_waysTo_18 hl (by decide) rfl (fun ls hl => ?_)
  have loop_20 : ∀ (n9 : Nat) (k : Int) (w : Int) (f : Int → Int) (h : Hp) (H : Heap) (locs : List Loc) (ls : Array Slot), It 3 - k < (n9 : Int) → (0 ≤ k ∧ k ≤ It 3) → (∀ i, 0 ≤ i → i < 4 → 0 ≤ f i ∧ f i ≤ 10) → (w = wyF (At 0) (At 1) (goC (Ij 0) (Aj 4) i v) (A 5) d k.toNat) → (0 ≤ w ∧ w ≤ mM) → (OB g 2 9 kd2 h o R I L A) → (OB g 4 4 kd4 h (R 2) Rt It Lt At) → (OB g 1 7 kd1 h (R 1) Rj Ij L4 (va_up Aj 5 (f))) → (Fr (FP 7 kd1 (R 1) Rj) h0 h) → (Wd g base h H) → (va_S (Ab base) s.heap H locs) → (lv_has ls 8 [(0, .ref o), (1, .int (J i)), (2, .int (J v)), (3, .int (J d)), (4, .long (JL w)), (6, .int (J k))]) → W p l e (headSpec wsX2_waysTo ({ frames := 3, cells := 0, slots := 0, locals := 67 })).room s m ([.ref o, .int (J i), .int (J v)]).toArray below meth c H locs 0 0 (MQ below (QcM g base (fun r h' => ∃ d, d = (if 0 ≤ fnd (At 0) (goC (Ij 0) (Aj 4) i v) (It 3).toNat 0 ∧ fnd (At 0) (goC (Ij 0) (Aj 4) i v) (It 3).toNat 0 < Lt 1 ∧ 0 ≤ At 1 (fnd (At 0) (goC (Ij 0) (Aj 4) i v) (It 3).toNat 0) then At 1 (fnd (At 0) (goC (Ij 0) (Aj 4) i v) (It 3).toNat 0) else -1) ∧ r = some (.long (JL (wyF (At 0) (At 1) (goC (Ij 0) (Aj 4) i v) (A 5) d (It 3).toNat))) ∧ Fr (FP 7 kd1 (R 1) Rj) h0 h' ∧ ∃ f, OB g 1 7 kd1 h' (R 1) Rj Ij L4 (va_up Aj 5 f) ∧ ∀ i, 0 ≤ i → i < 4 → 0 ≤ f i ∧ f i ≤ 10)) ([.ref o, .int (J i), .int (J v)]).toArray s (0) (0) (Ab base)) (F0 m 20 ls []) := by
    intro n9
    induction n9 with
    | zero =>
      intro k w f h H locs ls hmu hk9 hfr ew hwr hM hT hJ hF hW hS hl
      exact absurd hmu (by omega)
    | succ n9 ih =>
      intro k w f h H locs ls hmu hk9 hfr ew hwr hM hT hJ hF hW hS hl
      have ih_20 := ih
      refine lv_iload hx hb dX2_waysTo_20 (lv_at hl 5 rfl) ?_
      refine lv_aload_n hx hb dX2_waysTo_22 rfl (lv_at hl 0 rfl) ?_
      refine g_get (ci := 2) (C := RX2) (T := TX2) (N := 9) (v := .ref (R 2)) hx hb hfX2 (fun _ h9 => h9) hown hk hW hM.1 rfl 2 (by decide) (hts (.fieldLink RX2 24 "JugsAndGlasses$Search" "all" "LJugsAndGlasses$Tour;") (by decide +kernel)) rfl rfl dX2_waysTo_23 ?_
      refine g_get (ci := 4) (C := RX4) (T := TX4) (N := 4) (v := .int (J (It 3))) hx hb hfX4 (fun _ h9 => h9) hown hk hW hT.1 rfl 3 (by decide) (hts (.fieldLink RX2 78 "JugsAndGlasses$Tour" "reached" "I") (by decide +kernel)) rfl rfl dX2_waysTo_26 ?_
      refine j_icmp_ge (x := k) (y := It 3) (tgt := 114) hx hb ⟨by omega, by omega⟩ ⟨by omega, by omega⟩ dX2_waysTo_29 (by decide) (fun c_29 => ?_) (fun c_29 => ?_)
      · refine lv_lload hx hb dX2_waysTo_114 (lv_at hl 4 rfl) ?_
        exact g_lret hx hb hr hW hS dX2_waysTo_116 hlocks (⟨d, ed, congrArg (fun q : Int => some (Value.long (JL q))) (show w = wyF (At 0) (At 1) (goC (Ij 0) (Aj 4) i v) (A 5) d (It 3).toNat from by rw [ew, show k = It 3 by omega]), hF, f, hJ, hfr⟩)
      · have hfk := hfo k hk9.1 (by omega)
        have hfk2 := hfl k hk9.1 (by omega)
        refine lv_iload hx hb dX2_waysTo_32 (lv_at hl 5 rfl) ?_
        refine lv_aload_n hx hb dX2_waysTo_34 rfl (lv_at hl 0 rfl) ?_
        refine g_get (ci := 2) (C := RX2) (T := TX2) (N := 9) (v := .ref (R 2)) hx hb hfX2 (fun _ h9 => h9) hown hk hW hM.1 rfl 2 (by decide) (hts (.fieldLink RX2 24 "JugsAndGlasses$Search" "all" "LJugsAndGlasses$Tour;") (by decide +kernel)) rfl rfl dX2_waysTo_35 ?_
        refine g_get (ci := 4) (C := RX4) (T := TX4) (N := 4) (v := .ref (Rt 0)) hx hb hfX4 (fun _ h9 => h9) hown hk hW hT.1 rfl 0 (by decide) (hts (.fieldLink RX2 82 "JugsAndGlasses$Tour" "found" "[I") (by decide +kernel)) rfl rfl dX2_waysTo_38 ?_
        refine g_alen (n := Lt 0) hx hb hk hW (hT.ai 0 (by decide) rfl) (by omega) dX2_waysTo_41 ?_
        refine j_icmp_ge (x := k) (y := Lt 0) (tgt := 114) hx hb ⟨by omega, by omega⟩ ⟨by omega, by omega⟩ dX2_waysTo_42 (by decide) (fun c_42 => ?_) (fun c_42 => ?_)
        · exfalso
          omega
        · refine lv_aload_n hx hb dX2_waysTo_45 rfl (lv_at hl 0 rfl) ?_
          refine g_get (ci := 2) (C := RX2) (T := TX2) (N := 9) (v := .ref (R 2)) hx hb hfX2 (fun _ h9 => h9) hown hk hW hM.1 rfl 2 (by decide) (hts (.fieldLink RX2 24 "JugsAndGlasses$Search" "all" "LJugsAndGlasses$Tour;") (by decide +kernel)) rfl rfl dX2_waysTo_46 ?_
          refine g_get (ci := 4) (C := RX4) (T := TX4) (N := 4) (v := .ref (Rt 0)) hx hb hfX4 (fun _ h9 => h9) hown hk hW hT.1 rfl 0 (by decide) (hts (.fieldLink RX2 82 "JugsAndGlasses$Tour" "found" "[I") (by decide +kernel)) rfl rfl dX2_waysTo_49 ?_
          refine lv_iload hx hb dX2_waysTo_52 (lv_at hl 5 rfl) ?_
          refine g_iald (n := Lt 0) (f := At 0) (i := k) hx hb hk hW (hT.ai 0 (by decide) rfl) (by omega) (by omega) (by omega) dX2_waysTo_54 ?_
          refine lv_istore (lv' := [(7, .int (J (At 0 k))), (0, .ref o), (1, .int (J i)), (2, .int (J v)), (3, .int (J d)), (4, .long (JL w)), (6, .int (J k))]) hx hb dX2_waysTo_55 hl (by decide) rfl (fun ls hl => ?_)
          refine lv_aload_n hx hb dX2_waysTo_57 rfl (lv_at hl 1 rfl) ?_
          refine g_get (ci := 2) (C := RX2) (T := TX2) (N := 9) (v := .ref (R 1)) hx hb hfX2 (fun _ h9 => h9) hown hk hW hM.1 rfl 1 (by decide) (hts (.fieldLink RX2 18 "JugsAndGlasses$Search" "trial" "LJugsAndGlasses$Jugs;") (by decide +kernel)) rfl rfl dX2_waysTo_58 ?_
          refine lv_iload hx hb dX2_waysTo_61 (lv_at hl 0 rfl) ?_
          refine g_callV (As := [.int (J (At 0 k))]) (rest := []) (b := R 1) (ci := 1) (C := RX1) (T := TX1) (N := 7) ⟨hx, hb, hml, hown, hts⟩ (k_stand l g base sa h (R 1) Rj Ij (va_up Aj 5 f) (At 0 k) hJ ⟨by omega, by omega⟩ ⟨hw1.1, hw1.2.1⟩ hw1.2.2) (cwV 1 hts gX2_waysTo_X1_stand rfl rfl rfl (by decide +kernel) ⟨Nat.le_of_ble_eq_true rfl, Nat.le_of_ble_eq_true rfl⟩) hk hW hS hJ.1 rfl rfl hl.1 (Nat.le_of_ble_eq_true rfl) dX2_waysTo_63 ⟨Nat.le_of_ble_eq_true rfl, Nat.le_of_ble_eq_true rfl⟩ (fun r9 h9 H locs hp hW hS => ?_)
          have hp : r9 = none ∧ OB g 1 7 kd1 h9 (R 1) Rj Ij L4 (va_up (va_up Aj 5 f) 5 (p_stand (Ij 0) (Aj 4) f (At 0 k))) ∧ Fr (FP 7 kd1 (R 1) Rj) h h9 := hp
          obtain ⟨rfl, hJ, hF9⟩ := hp
          refine W.eq (g2 := F0 m 66 ls []) rfl ?_
          have hM := hM.fr hF9 hSJ
          have hT := hT.fr hF9 hTJ
          have hF := hF.tr hF9 (fun q w _ => w)
          rw [bx_uu] at hJ
          generalize h9 = h at hM hT hJ hF hW
          refine lv_aload_n hx hb dX2_waysTo_66 rfl (lv_at hl 1 rfl) ?_
          refine g_get (ci := 2) (C := RX2) (T := TX2) (N := 9) (v := .ref (R 2)) hx hb hfX2 (fun _ h9 => h9) hown hk hW hM.1 rfl 2 (by decide) (hts (.fieldLink RX2 24 "JugsAndGlasses$Search" "all" "LJugsAndGlasses$Tour;") (by decide +kernel)) rfl rfl dX2_waysTo_67 ?_
          refine lv_iload hx hb dX2_waysTo_70 (lv_at hl 0 rfl) ?_
          refine g_callV (As := [.int (J (At 0 k))]) (rest := []) (b := R 2) (ci := 4) (C := RX4) (T := TX4) (N := 4) ⟨hx, hb, hml, hown, hts⟩ (t_acts l g base sa h (R 2) Rt It Lt At (At 0 k) hT ⟨by omega, by omega⟩ hL1 hlv9) (cwV 1 hts gX2_waysTo_X4_acts rfl rfl rfl (by decide +kernel) ⟨Nat.le_of_ble_eq_true rfl, Nat.le_of_ble_eq_true rfl⟩) hk hW hS hT.1 rfl rfl hl.1 (Nat.le_of_ble_eq_true rfl) dX2_waysTo_72 ⟨Nat.le_of_ble_eq_true rfl, Nat.le_of_ble_eq_true rfl⟩ (fun r9 h9 H locs hp hW hS => ?_)
          rw [if_pos ⟨hfk.1, hfk2.1, hfk2.2.2⟩] at hp
          obtain ⟨rfl, e9⟩ := hp
          rw [e9] at hW
          refine W.eq (g2 := F0 m 75 ls [.int (J (At 1 (At 0 k)))]) rfl ?_
          refine lv_iload_n hx hb dX2_waysTo_75 rfl (lv_at hl 4 rfl) ?_
          refine j_icmp_ne (x := At 1 (At 0 k)) (y := d) (tgt := 108) hx hb (by first | exact hdr | exact hlv9 _ (by omega) (by omega)) (by first | exact hdr | exact hlv9 _ (by omega) (by omega)) dX2_waysTo_76 (by decide) (fun c_76 => ?_) (fun c_76 => ?_)
          · refine lv_iinc (v := J (k + 1)) (lv' := [(6, .int (J (k + 1))), (7, .int (J (At 0 k))), (0, .ref o), (1, .int (J i)), (2, .int (J v)), (3, .int (J d)), (4, .long (JL w))]) hx hb dX2_waysTo_108 hl (k := 6) rfl (J_inc (by omega)) (by decide) rfl (fun ls hl => ?_)
            refine lv_goto (tgt := 20) hx hb dX2_waysTo_111 (by decide) ?_
            exact ih_20 (k + 1) w (p_stand (Ij 0) (Aj 4) f (At 0 k)) h H locs ls (by omega) (by omega) (stand_r hw1 hfr _) (by rw [wyF_s _ _ _ _ _ hk9.1, ← ew, if_neg (fun q => by first | exact c_76 q.1 | (have q2 := q.2; unfold goC at q2; simp at q2; omega))]) hwr hM hT hJ hF hW hS (lv_sub hl [2, 3, 4, 5, 6, 0] rfl)
          · refine lv_aload_n hx hb dX2_waysTo_79 rfl (lv_at hl 1 rfl) ?_
            refine g_get (ci := 2) (C := RX2) (T := TX2) (N := 9) (v := .ref (R 1)) hx hb hfX2 (fun _ h9 => h9) hown hk hW hM.1 rfl 1 (by decide) (hts (.fieldLink RX2 18 "JugsAndGlasses$Search" "trial" "LJugsAndGlasses$Jugs;") (by decide +kernel)) rfl rfl dX2_waysTo_80 ?_
            refine lv_iload_n hx hb dX2_waysTo_83 rfl (lv_at hl 2 rfl) ?_
            refine lv_iload_n hx hb dX2_waysTo_84 rfl (lv_at hl 3 rfl) ?_
            refine g_callV (As := [.int (J i), .int (J v)]) (rest := []) (b := R 1) (ci := 1) (C := RX1) (T := TX1) (N := 7) ⟨hx, hb, hml, hown, hts⟩ (k_meet l g base sa h (R 1) Rj Ij (va_up Aj 5 (p_stand (Ij 0) (Aj 4) f (At 0 k))) i v hJ hi9 hv9 ⟨hw1.1, hw1.2.1⟩ (fun j a b => stand_r hw1 hfr (At 0 k) j a (by have := hw1.2.1; omega))) (cwV 2 hts gX2_waysTo_X1_meet rfl rfl rfl (by decide +kernel) ⟨Nat.le_of_ble_eq_true rfl, Nat.le_of_ble_eq_true rfl⟩) hk hW hS hJ.1 rfl rfl hl.1 (Nat.le_of_ble_eq_true rfl) dX2_waysTo_85 ⟨Nat.le_of_ble_eq_true rfl, Nat.le_of_ble_eq_true rfl⟩ (fun r9 h9 H locs hp hW hS => ?_)
            have hp : r9 = some (.int (J (p_meet (Ij 0) (p_stand (Ij 0) (Aj 4) f (At 0 k)) i v))) ∧ h9 = h := hp
            rw [meet_stand] at hp
            obtain ⟨rfl, e9⟩ := hp
            rw [e9] at hW
            refine W.eq (g2 := F0 m 88 ls [.int (J (p_meet (Ij 0) (DC (Aj 4) (At 0 k)) i v))]) rfl ?_
            have hpm := p_meet_r (Ij 0) (DC (Aj 4) (At 0 k)) i v
            refine j_if_eq (x := p_meet (Ij 0) (DC (Aj 4) (At 0 k)) i v) (tgt := 108) hx hb ⟨by omega, by omega⟩ dX2_waysTo_88 (by decide) (fun c_88 => ?_) (fun c_88 => ?_)
            · refine lv_iinc (v := J (k + 1)) (lv' := [(6, .int (J (k + 1))), (7, .int (J (At 0 k))), (0, .ref o), (1, .int (J i)), (2, .int (J v)), (3, .int (J d)), (4, .long (JL w))]) hx hb dX2_waysTo_108 hl (k := 6) rfl (J_inc (by omega)) (by decide) rfl (fun ls hl => ?_)
              refine lv_goto (tgt := 20) hx hb dX2_waysTo_111 (by decide) ?_
              exact ih_20 (k + 1) w (p_stand (Ij 0) (Aj 4) f (At 0 k)) h H locs ls (by omega) (by omega) (stand_r hw1 hfr _) (by rw [wyF_s _ _ _ _ _ hk9.1, ← ew, if_neg (fun q => by first | exact c_76 q.1 | (have q2 := q.2; unfold goC at q2; simp at q2; omega))]) hwr hM hT hJ hF hW hS (lv_sub hl [2, 3, 4, 5, 6, 0] rfl)
            · have hwk := hwy (At 0 k) hfk.1 hfk2.2.1
              refine j_ldc2 (z := 1000000000000000000) hx hb (by decide) hown (hts (.constantLong RX2 96 (1000000000000000000)) (by decide +kernel)) dX2_waysTo_91 ?_
              refine lv_lload hx hb dX2_waysTo_94 (lv_at hl 5 rfl) ?_
              refine lv_aload_n hx hb dX2_waysTo_96 rfl (lv_at hl 1 rfl) ?_
              refine lv_iload hx hb dX2_waysTo_97 (lv_at hl 0 rfl) ?_
              refine g_callV (As := [.int (J (At 0 k))]) (rest := [.long (JL w), .long (JL 1000000000000000000)]) (b := o) (ci := 2) (C := RX2) (T := TX2) (N := 9) ⟨hx, hb, hml, hown, hts⟩ (e_waysFor l g base sa h o R I L A (At 0 k) hM ⟨by omega, hL5⟩ ⟨by omega, by omega⟩) (cwV 1 hts gX2_waysTo_X2_waysFor rfl rfl rfl (by decide +kernel) ⟨Nat.le_of_ble_eq_true rfl, Nat.le_of_ble_eq_true rfl⟩) hk hW hS hM.1 rfl rfl hl.1 (Nat.le_of_ble_eq_true rfl) dX2_waysTo_99 ⟨Nat.le_of_ble_eq_true rfl, Nat.le_of_ble_eq_true rfl⟩ (fun r9 h9 H locs hp hW hS => ?_)
              rw [if_pos ⟨hfk.1, hfk2.2.1⟩] at hp
              obtain ⟨rfl, e9⟩ := hp
              rw [e9] at hW
              refine W.eq (g2 := F0 m 102 ls [.long (JL (A 5 (At 0 k))), .long (JL w), .long (JL 1000000000000000000)]) rfl ?_
              refine j_ladd hx hb dX2_waysTo_102 ?_
              refine j_mminl (x := 1000000000000000000) (y := w + (A 5 (At 0 k))) hx hb (by rw [hml]; exact hl.1.symm) hown (hts (.methodLink RX2 102 Lib.MathLoose.min_long.x) (by decide +kernel)) (hts (.static Lib.MathLoose.min_long.x) (by decide +kernel)) (hts (.initialized "java/lang/Math") (by decide +kernel)) (hts (.code Lib.MathLoose.min_long.x Lib.MathLoose.min_long.code 4 (some .long)) (by decide +kernel)) (Nat.le_of_ble_eq_true rfl) (Nat.le_of_ble_eq_true rfl) (Nat.le_of_ble_eq_true rfl) (Nat.le_of_ble_eq_true rfl) ⟨by decide, by decide⟩ ⟨by unfold mM at *; omega, by unfold mM at *; omega⟩ dX2_waysTo_103 ?_
              refine lv_lstore (lv' := [(4, .long (JL (min 1000000000000000000 (w + (A 5 (At 0 k)))))), (7, .int (J (At 0 k))), (0, .ref o), (1, .int (J i)), (2, .int (J v)), (3, .int (J d)), (6, .int (J k))]) hx hb dX2_waysTo_106 hl (by decide) rfl (fun ls hl => ?_)
              refine lv_iinc (v := J (k + 1)) (lv' := [(6, .int (J (k + 1))), (4, .long (JL (min 1000000000000000000 (w + (A 5 (At 0 k)))))), (7, .int (J (At 0 k))), (0, .ref o), (1, .int (J i)), (2, .int (J v)), (3, .int (J d))]) hx hb dX2_waysTo_108 hl (k := 6) rfl (J_inc (by omega)) (by decide) rfl (fun ls hl => ?_)
              refine lv_goto (tgt := 20) hx hb dX2_waysTo_111 (by decide) ?_
              exact ih_20 (k + 1) (min 1000000000000000000 (w + (A 5 (At 0 k)))) (p_stand (Ij 0) (Aj 4) f (At 0 k)) h H locs ls (by omega) (by omega) (stand_r hw1 hfr _) (by rw [wyF_s _ _ _ _ _ hk9.1, ← ew, if_pos ⟨c_76, by unfold goC; simp; omega⟩]; rfl) (by unfold mM at *; omega) hM hT hJ hF hW hS (lv_sub hl [3, 4, 5, 6, 1, 0] rfl)
  exact loop_20 ((It 3).toNat + 1) 0 0 f h H locs ls (by omega) (by omega) hfr rfl (by unfold mM; omega) hM hT hJ hF hW hS (lv_sub hl [3, 4, 5, 2, 1, 0] rfl)
