set_option maxHeartbeats 4000000 in
set_option maxRecDepth 100000 in
theorem m_actOf (l : Launch) (g : GX) (base : Nat) (sa : Nat → Nat) (h0 : Hp) (o : Nat) (R : Nat → Nat) (I : Nat → Int) (A : Nat → Int → Int) (n tp dr k ea : Int) (go : Int → Bool) (hM : OB g 6 28 kd6 h0 o R I mL A) (hk9 : 0 ≤ k ∧ k < 14641) (hrm : Rm n (A 8)) (hLA : LA n tp dr (A 8) (A 14) (A 15) (24 * mT (A 8) n)) (hFC : FC (mT (A 8) n) (nxM n tp dr (A 8)) (spM n tp dr (A 8)) ea go (A 16)) (he : ea = 0 ∨ ea = 20000) (hst : 0 ≤ I 17 ∧ I 17 < mT (A 8) n) : MC l g base sa yX6_actOf wsX6_actOf ({ frames := 1, cells := 0, slots := 0, locals := 24 }) ([.ref o, .int (J k), .int (J ea)]) h0 (fun r h' => r = some (.int (J (gr (nxM n tp dr (A 8)) (spM n tp dr (A 8)) ea (A 16) k.toNat (I 17)))) ∧ h' = h0) := by
  refine Met.ofW (cc := cX6_actOf) (maxL := 6) (ret := (some .int)) (by decide) rfl ?_
  intro p e s m args below meth c s₁ B hml hv
  obtain ⟨rfl, hk, hW⟩ := hv
  have hx := B.exec
  have hb := B.bytes
  have hr := B.returns
  have hts := atoms_spec (ws := wsX6_actOf) B.pre
  have hown : s.vm.findClass RX6 = some m.cls := findClass_of_methodNamed B.named
  have hlocks := B.notSynchronized
  have hfX6 : ∀ w ∈ wsX60, w.before ([.ref o, .int (J k), .int (J ea)]).toArray s = true := fun w h => hts w (List.mem_cons_of_mem _ (List.mem_append_right _ h))
  have hS : va_S (Ab base) s.heap s.heap [] := va_S.rf
  have hl := lv_entry ([.ref o, .int (J k), .int (J ea)]) (n := 6) (Nat.le_of_ble_eq_true rfl)
  rw [lg_entry_eq]
  generalize (lg_sl ([.ref o, .int (J k), .int (J ea)]) ++ List.replicate (6 - (lg_sl ([.ref o, .int (J k), .int (J ea)])).length) Slot.unset).toArray = ls at hl ⊢
  have hl : lv_has ls 6 [(0, .ref o), (1, .int (J k)), (2, .int (J ea))] := hl
  have hmr := mT_r hrm
  have hNX := LA_NX (tp := tp) (dr := dr) hrm
  have hea : 0 ≤ ea := by omega
  refine lv_aload_n hx hb dX6_actOf_0 rfl (lv_at hl 0 rfl) ?_
  refine g_get (ci := 6) (C := RX6) (T := TX6) (N := 28) (v := .int (J (I 17))) hx hb hfX6 (fun _ h9 => h9) hown hk hW hM.1 rfl 17 (by decide) (hts (.fieldLink RX6 112 "JugsAndGlassesModel" "start" "I") (by decide +kernel)) rfl rfl dX6_actOf_1 ?_
  refine lv_istore_n (lv' := [(3, .int (J (I 17))), (0, .ref o), (1, .int (J k)), (2, .int (J ea))]) hx hb dX6_actOf_4 rfl hl (by decide) rfl (fun ls hl => ?_)
  refine lv_iconst (v := J (-1)) hx hb dX6_actOf_5 rfl ?_
  refine lv_istore (lv' := [(4, .int (J ((-1)))), (3, .int (J (I 17))), (0, .ref o), (1, .int (J k)), (2, .int (J ea))]) hx hb dX6_actOf_6 hl (by decide) rfl (fun ls hl => ?_)
  refine lv_iconst (v := J (0)) hx hb dX6_actOf_8 rfl ?_
  refine lv_istore (lv' := [(5, .int (J 0)), (4, .int (J ((-1)))), (3, .int (J (I 17))), (0, .ref o), (1, .int (J k)), (2, .int (J ea))]) hx hb dX6_actOf_9 hl (by decide) rfl (fun ls hl => ?_)
  have loop_11 : ∀ (n9 : Nat) (x : Int) (b : Int) (j : Int) (h : Hp) (H : Heap) (locs : List Loc) (ls : Array Slot), k + 1 - j < (n9 : Int) → (0 ≤ x ∧ x < mT (A 8) n) → (0 ≤ j ∧ j ≤ k + 1) → (j ≤ k → gr (nxM n tp dr (A 8)) (spM n tp dr (A 8)) ea (A 16) k.toNat (I 17) = gr (nxM n tp dr (A 8)) (spM n tp dr (A 8)) ea (A 16) (k - j).toNat x) → (j = k + 1 → b = gr (nxM n tp dr (A 8)) (spM n tp dr (A 8)) ea (A 16) k.toNat (I 17)) → (h = h0) → (OB g 6 28 kd6 h o R I mL A) → (Wd g base h H) → (va_S (Ab base) s.heap H locs) → (lv_has ls 6 [(0, .ref o), (1, .int (J k)), (2, .int (J ea)), (3, .int (J x)), (4, .int (J b)), (5, .int (J j))]) → W p l e (headSpec wsX6_actOf ({ frames := 1, cells := 0, slots := 0, locals := 24 })).room s m ([.ref o, .int (J k), .int (J ea)]).toArray below meth c H locs 0 0 (MQ below (QcM g base (fun r h' => r = some (.int (J (gr (nxM n tp dr (A 8)) (spM n tp dr (A 8)) ea (A 16) k.toNat (I 17)))) ∧ h' = h0)) ([.ref o, .int (J k), .int (J ea)]).toArray s (0) (0) (Ab base)) (F0 m 11 ls []) := by
    intro n9
    induction n9 with
    | zero =>
      intro x b j h H locs ls hmu hs9 hj9 hg1 hg2 eh hM hW hS hl
      exact absurd hmu (by omega)
    | succ n9 ih =>
      intro x b j h H locs ls hmu hs9 hj9 hg1 hg2 eh hM hW hS hl
      have hfs := hFC.1 x hs9.1 hs9.2
      unfold fFAR at hfs
      have ih_11 := ih
      refine lv_iload hx hb dX6_actOf_11 (lv_at hl 5 rfl) ?_
      refine lv_iload_n hx hb dX6_actOf_13 rfl (lv_at hl 1 rfl) ?_
      refine j_icmp_gt (x := j) (y := k) (tgt := 84) hx hb ⟨by omega, by omega⟩ ⟨by omega, by omega⟩ dX6_actOf_14 (by decide) (fun c_14 => ?_) (fun c_14 => ?_)
      · refine lv_iload hx hb dX6_actOf_84 (lv_at hl 4 rfl) ?_
        exact g_iret hx hb hr hW hS dX6_actOf_86 hlocks (⟨congrArg (fun z : Int => some (Value.int (J z))) (show b = gr (nxM n tp dr (A 8)) (spM n tp dr (A 8)) ea (A 16) k.toNat (I 17) from hg2 (by omega)), eh⟩)
      · refine lv_aload_n hx hb dX6_actOf_17 rfl (lv_at hl 0 rfl) ?_
        refine g_get (ci := 6) (C := RX6) (T := TX6) (N := 28) (v := .ref (R 16)) hx hb hfX6 (fun _ h9 => h9) hown hk hW hM.1 rfl 16 (by decide) (hts (.fieldLink RX6 39 "JugsAndGlassesModel" "costs" "[I") (by decide +kernel)) rfl rfl dX6_actOf_18 ?_
        refine lv_iload_n hx hb dX6_actOf_21 rfl (lv_at hl 3 rfl) ?_
        refine g_iald (n := 14641) (f := A 16) (i := x) hx hb hk hW (hM.ai 16 (by decide) rfl) (by omega) (by omega) (by omega) dX6_actOf_22 ?_
        refine j_if_eq (x := A 16 x) (tgt := 37) hx hb ⟨by omega, by omega⟩ dX6_actOf_23 (by decide) (fun c_23 => ?_) (fun c_23 => ?_)
        · refine lv_iconst (v := J (-1)) hx hb dX6_actOf_37 rfl ?_
          exact g_iret hx hb hr hW hS dX6_actOf_38 hlocks (⟨congrArg (fun z : Int => some (Value.int (J z))) (show -1 = gr (nxM n tp dr (A 8)) (spM n tp dr (A 8)) ea (A 16) k.toNat (I 17) from by rw [hg1 (by omega), gr_stop (by unfold fFAR; omega)]), eh⟩)
        · refine lv_aload_n hx hb dX6_actOf_26 rfl (lv_at hl 0 rfl) ?_
          refine g_get (ci := 6) (C := RX6) (T := TX6) (N := 28) (v := .ref (R 16)) hx hb hfX6 (fun _ h9 => h9) hown hk hW hM.1 rfl 16 (by decide) (hts (.fieldLink RX6 39 "JugsAndGlassesModel" "costs" "[I") (by decide +kernel)) rfl rfl dX6_actOf_27 ?_
          refine lv_iload_n hx hb dX6_actOf_30 rfl (lv_at hl 3 rfl) ?_
          refine g_iald (n := 14641) (f := A 16) (i := x) hx hb hk hW (hM.ai 16 (by decide) rfl) (by omega) (by omega) (by omega) dX6_actOf_31 ?_
          refine j_ldc (z := 1000000000) hx hb (by decide) hown (hts (.constant RX6 111 (1000000000)) (by decide +kernel)) dX6_actOf_32 ?_
          refine j_icmp_ne (x := A 16 x) (y := 1000000000) (tgt := 39) hx hb ⟨by omega, by omega⟩ ⟨by decide, by decide⟩ dX6_actOf_34 (by decide) (fun c_34 => ?_) (fun c_34 => ?_)
          · have hns : ¬ (A 16 x = 0 ∨ A 16 x = fFAR) := by unfold fFAR; omega
            have hfA := fA_spec hNX hea hFC hs9.1 hs9.2 hns
            refine lv_iconst (v := J (0)) hx hb dX6_actOf_39 rfl ?_
            refine lv_istore (lv' := [(4, .int (J 0)), (0, .ref o), (1, .int (J k)), (2, .int (J ea)), (3, .int (J x)), (5, .int (J j))]) hx hb dX6_actOf_40 hl (by decide) rfl (fun ls hl => ?_)
            have loop_42 : ∀ (n9 : Nat) (a : Int) (h : Hp) (H : Heap) (locs : List Loc) (ls : Array Slot), 24 - a < (n9 : Int) → (0 ≤ a ∧ a ≤ fA (nxM n tp dr (A 8)) (spM n tp dr (A 8)) ea (A 16) x) → (h = h0) → (OB g 6 28 kd6 h o R I mL A) → (Wd g base h H) → (va_S (Ab base) s.heap H locs) → (lv_has ls 6 [(0, .ref o), (1, .int (J k)), (2, .int (J ea)), (3, .int (J x)), (4, .int (J a)), (5, .int (J j))]) → W p l e (headSpec wsX6_actOf ({ frames := 1, cells := 0, slots := 0, locals := 24 })).room s m ([.ref o, .int (J k), .int (J ea)]).toArray below meth c H locs 0 0 (MQ below (QcM g base (fun r h' => r = some (.int (J (gr (nxM n tp dr (A 8)) (spM n tp dr (A 8)) ea (A 16) k.toNat (I 17)))) ∧ h' = h0)) ([.ref o, .int (J k), .int (J ea)]).toArray s (0) (0) (Ab base)) (F0 m 42 ls []) := by
              intro n9
              induction n9 with
              | zero =>
                intro a h H locs ls hmu ha9 eh hM hW hS hl
                exact absurd hmu (by omega)
              | succ n9 ih =>
                intro a h H locs ls hmu ha9 eh hM hW hS hl
                have ih_42 := ih
                refine lv_aload_n hx hb dX6_actOf_42 rfl (lv_at hl 0 rfl) ?_
                refine lv_iload_n hx hb dX6_actOf_43 rfl (lv_at hl 3 rfl) ?_
                refine lv_iload hx hb dX6_actOf_44 (lv_at hl 4 rfl) ?_
                refine lv_iload_n hx hb dX6_actOf_46 rfl (lv_at hl 2 rfl) ?_
                refine g_callV (As := [.int (J x), .int (J a), .int (J ea)]) (rest := []) (b := o) (ci := 6) (C := RX6) (T := TX6) (N := 28) ⟨hx, hb, hml, hown, hts⟩ (m_costBy l g base sa h o R I A x a ea hM ⟨by omega, by omega⟩ ⟨by omega, by omega⟩ (cb_to hLA hNX hFC.1 (by omega) (by omega) (by omega) (by omega) (by omega) hmr.2)) (cwV 3 hts gX6_actOf_X6_costBy rfl rfl rfl (by decide +kernel) ⟨Nat.le_of_ble_eq_true rfl, Nat.le_of_ble_eq_true rfl⟩) hk hW hS hM.1 rfl rfl hl.1 (Nat.le_of_ble_eq_true rfl) dX6_actOf_47 ⟨Nat.le_of_ble_eq_true rfl, Nat.le_of_ble_eq_true rfl⟩ (fun r9 h9 H locs hp hW hS => ?_)
                rw [CB_LA hLA ea (A 16) (by omega) (by omega) (by omega) (by omega)] at hp
                obtain ⟨rfl, e9⟩ := hp
                rw [e9] at hW
                refine W.eq (g2 := F0 m 50 ls [.int (J (CB (nxM n tp dr (A 8)) (spM n tp dr (A 8)) ea (A 16) x a))]) rfl ?_
                have hcb := CB_r hNX he hFC.1 (s := x) (a := a) (by omega) (by omega) (by omega) (by omega)
                refine lv_aload_n hx hb dX6_actOf_50 rfl (lv_at hl 0 rfl) ?_
                refine g_get (ci := 6) (C := RX6) (T := TX6) (N := 28) (v := .ref (R 16)) hx hb hfX6 (fun _ h9 => h9) hown hk hW hM.1 rfl 16 (by decide) (hts (.fieldLink RX6 39 "JugsAndGlassesModel" "costs" "[I") (by decide +kernel)) rfl rfl dX6_actOf_51 ?_
                refine lv_iload_n hx hb dX6_actOf_54 rfl (lv_at hl 3 rfl) ?_
                refine g_iald (n := 14641) (f := A 16) (i := x) hx hb hk hW (hM.ai 16 (by decide) rfl) (by omega) (by omega) (by omega) dX6_actOf_55 ?_
                refine j_icmp_eq (x := CB (nxM n tp dr (A 8)) (spM n tp dr (A 8)) ea (A 16) x a) (y := A 16 x) (tgt := 65) hx hb ⟨by omega, by omega⟩ ⟨by omega, by omega⟩ dX6_actOf_56 (by decide) (fun c_56 => ?_) (fun c_56 => ?_)
                · have hfa : fA (nxM n tp dr (A 8)) (spM n tp dr (A 8)) ea (A 16) x = a := fA_is (by omega) (by omega) (fun b b0 b1 => hfA.2.2.2 b b0 (by omega)) c_56
                  have hnx := (hLA x a hs9.1 (by omega) (by omega) (by omega)).1
                  have hcn := CB_nx c_56 hns
                  refine lv_aload_n hx hb dX6_actOf_65 rfl (lv_at hl 0 rfl) ?_
                  refine g_get (ci := 6) (C := RX6) (T := TX6) (N := 28) (v := .ref (R 14)) hx hb hfX6 (fun _ h9 => h9) hown hk hW hM.1 rfl 14 (by decide) (hts (.fieldLink RX6 33 "JugsAndGlassesModel" "next" "[I") (by decide +kernel)) rfl rfl dX6_actOf_66 ?_
                  refine lv_bipush (v := J (24)) hx hb dX6_actOf_69 (by decide) ?_
                  refine lv_iload_n hx hb dX6_actOf_71 rfl (lv_at hl 3 rfl) ?_
                  refine j_imul hx hb dX6_actOf_72 ?_
                  refine lv_iload hx hb dX6_actOf_73 (lv_at hl 4 rfl) ?_
                  refine j_iadd hx hb dX6_actOf_75 ?_
                  refine g_iald (n := 351384) (f := A 14) (i := (24 * x) + a) hx hb hk hW (hM.ai 14 (by decide) rfl) (by omega) (by omega) (by omega) dX6_actOf_76 ?_
                  refine lv_istore_n (lv' := [(3, .int (J (A 14 ((24 * x) + a)))), (0, .ref o), (1, .int (J k)), (2, .int (J ea)), (4, .int (J a)), (5, .int (J j))]) hx hb dX6_actOf_77 rfl hl (by decide) rfl (fun ls hl => ?_)
                  refine lv_iinc (v := J (j + 1)) (lv' := [(5, .int (J (j + 1))), (3, .int (J (A 14 ((24 * x) + a)))), (0, .ref o), (1, .int (J k)), (2, .int (J ea)), (4, .int (J a))]) hx hb dX6_actOf_78 hl (k := 5) rfl (J_inc (by omega)) (by decide) rfl (fun ls hl => ?_)
                  refine lv_goto (tgt := 11) hx hb dX6_actOf_81 (by decide) ?_
                  exact ih_11 (A 14 (24 * x + a)) a (j + 1) h H locs ls (by omega) (by rw [hnx]; rcases (hNX x a hs9.1 hs9.2 (by omega) (by omega)).1 with e | e; exact absurd e hcn.1; exact e) (by omega) (fun q => by rw [hg1 (by omega), gr_s hns (by omega), hfa, hnx, show k - (j + 1) = k - j - 1 by omega]) (fun q => by rw [hg1 (by omega), gr_z hns (by omega), hfa]) eh hM hW hS (lv_sub hl [2, 3, 4, 1, 5, 0] rfl)
                · refine lv_iinc (v := J (a + 1)) (lv' := [(4, .int (J (a + 1))), (0, .ref o), (1, .int (J k)), (2, .int (J ea)), (3, .int (J x)), (5, .int (J j))]) hx hb dX6_actOf_59 hl (k := 4) rfl (J_inc (by omega)) (by decide) rfl (fun ls hl => ?_)
                  refine lv_goto (tgt := 42) hx hb dX6_actOf_62 (by decide) ?_
                  exact ih_42 (a + 1) h H locs ls (by omega) (by have : a ≠ fA (nxM n tp dr (A 8)) (spM n tp dr (A 8)) ea (A 16) x := fun e => c_56 (by rw [e]; exact hfA.2.2.1); omega) eh hM hW hS (lv_sub hl [1, 2, 3, 4, 0, 5] rfl)
            exact loop_42 25 0 h H locs ls (by omega) (by omega) eh hM hW hS (lv_sub hl [1, 2, 3, 4, 0, 5] rfl)
          · refine lv_iconst (v := J (-1)) hx hb dX6_actOf_37 rfl ?_
            exact g_iret hx hb hr hW hS dX6_actOf_38 hlocks (⟨congrArg (fun z : Int => some (Value.int (J z))) (show -1 = gr (nxM n tp dr (A 8)) (spM n tp dr (A 8)) ea (A 16) k.toNat (I 17) from by rw [hg1 (by omega), gr_stop (by unfold fFAR; omega)]), eh⟩)
  exact loop_11 ((k + 1).toNat + 1) (I 17) (-1) 0 h0 s.heap [] ls (by omega) hst (by omega) (fun _ => by rw [Int.sub_zero]) (fun q => absurd q (by omega)) rfl hM hW hS (lv_sub hl [3, 4, 5, 2, 1, 0] rfl)
