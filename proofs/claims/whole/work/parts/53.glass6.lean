set_option maxHeartbeats 4000000 in
set_option maxRecDepth 100000 in
theorem g_makeRoom (l : Launch) (g : GX) (base : Nat) (sa : Nat → Nat) (h0 : Hp) (o : Nat) (R : Nat → Nat) (I : Nat → Int) (L : Nat → Int) (A : Nat → Int → Int) (ns : Int) (rc rs : Nat) (hM : OB g 0 12 kd0 h0 o R I L A) (hLG : LG L) (hns : 1 ≤ ns ∧ ns ≤ 1728) (hrm : L 5 < ns → 6 ≤ rc ∧ 25 * ns.toNat ≤ rs) : MC l g base sa yX0_makeRoom wsX0_makeRoom ({ frames := 0, cells := rc, slots := rs, locals := 0 }) ([.ref o, .int (J ns)]) h0 (fun r9 h' => r9 = none ∧ Fr (FP 12 kd0 o R) h0 h' ∧ ∃ R1 L1 A1 li, OB g 0 12 kd0 h' o R1 (va_up I 7 0) L1 (va_up A1 6 li) ∧ (LG L1) ∧ (L1 5 = max (L 5) ns) ∧ (A1 1 = A 1 ∧ A1 2 = A 2 ∧ A1 3 = A 3) ∧ (∀ q, FP 12 kd0 o R1 q → FP 12 kd0 o R q ∨ h0 q = none) ∧ ∀ y, 0 ≤ y → y < L1 6 → li y = 0) := by
  refine Met.ofW (cc := cX0_makeRoom) (maxL := 3) (ret := none) (by decide) rfl ?_
  intro p e s m args below meth c s₁ B hml hv
  obtain ⟨rfl, hk, hW⟩ := hv
  have hx := B.exec
  have hb := B.bytes
  have hr := B.returns
  have hts := atoms_spec (ws := wsX0_makeRoom) B.pre
  have hown : s.vm.findClass RX0 = some m.cls := findClass_of_methodNamed B.named
  have hlocks := B.notSynchronized
  have hfX0 : ∀ w ∈ wsX00, w.before ([.ref o, .int (J ns)]).toArray s = true := fun w h => hts w (List.mem_cons_of_mem _ (List.mem_append_right _ h))
  have hS : va_S (Ab base) s.heap s.heap [] := va_S.rf
  have hl := lv_entry ([.ref o, .int (J ns)]) (n := 3) (Nat.le_of_ble_eq_true rfl)
  rw [lg_entry_eq]
  generalize (lg_sl ([.ref o, .int (J ns)]) ++ List.replicate (3 - (lg_sl ([.ref o, .int (J ns)])).length) Slot.unset).toArray = ls at hl ⊢
  have hl : lv_has ls 3 [(0, .ref o), (1, .int (J ns))] := hl
  have hF : Fr (fun q => FP 12 kd0 o R q ∨ h0 q = none) h0 h0 := Fr.rf
  obtain ⟨g1, g2, g3, g4, g5, g6, g7, g8, g9, g10⟩ := id hLG
  have cut_57 : ∀ (R1 : Nat → Nat) (L1 : Nat → Int) (A1 : Nat → Int → Int) (h : Hp) (H : Heap) (locs : List Loc) (ls : Array Slot), (LG L1) → (L1 5 = max (L 5) ns) → (A1 1 = A 1 ∧ A1 2 = A 2 ∧ A1 3 = A 3) → (∀ q, FP 12 kd0 o R1 q → FP 12 kd0 o R q ∨ h0 q = none) → (OB g 0 12 kd0 h o R1 I L1 A1) → (Fr (fun q => FP 12 kd0 o R q ∨ h0 q = none) h0 h) → (Wd g base h H) → (va_S (Ab base) s.heap H locs) → (lv_has ls 3 [(0, .ref o), (1, .int (J ns))]) → W p l e (headSpec wsX0_makeRoom ({ frames := 0, cells := rc, slots := rs, locals := 0 })).room s m ([.ref o, .int (J ns)]).toArray below meth c H locs rc rs (MQ below (QcM g base (fun r9 h' => r9 = none ∧ Fr (FP 12 kd0 o R) h0 h' ∧ ∃ R1 L1 A1 li, OB g 0 12 kd0 h' o R1 (va_up I 7 0) L1 (va_up A1 6 li) ∧ (LG L1) ∧ (L1 5 = max (L 5) ns) ∧ (A1 1 = A 1 ∧ A1 2 = A 2 ∧ A1 3 = A 3) ∧ (∀ q, FP 12 kd0 o R1 q → FP 12 kd0 o R q ∨ h0 q = none) ∧ ∀ y, 0 ≤ y → y < L1 6 → li y = 0)) ([.ref o, .int (J ns)]).toArray s (rc) (rs) (Ab base)) (F0 m 57 ls []) := by
    intro R1 L1 A1 h H locs ls hLG1 hl5 hA1 hfp hM hF hW hS hl
    obtain ⟨k1, k2, k3, k4, k5, k6, k7, k8, k9, k10⟩ := id hLG1
    have hPa : ∀ k, k < 12 → isA kd0 k → (FP 12 kd0 o R (R1 k) ∨ h0 (R1 k) = none) := fun k w1 w2 => hfp _ (FP.a k w1 w2)
    refine lv_iconst (v := J (0)) hx hb dX0_makeRoom_57 rfl ?_
    refine lv_istore_n (lv' := [(2, .int (J 0)), (0, .ref o), (1, .int (J ns))]) hx hb dX0_makeRoom_58 rfl hl (by decide) rfl (fun ls hl => ?_)
    have loop_59 : ∀ (n9 : Nat) (kq : Int) (li : Int → Int) (h : Hp) (H : Heap) (locs : List Loc) (ls : Array Slot), L1 6 - kq < (n9 : Int) → (0 ≤ kq ∧ kq ≤ L1 6) → (∀ y, 0 ≤ y → y < kq → li y = 0) → (OB g 0 12 kd0 h o R1 I L1 (va_up A1 6 (li))) → (Fr (fun q => FP 12 kd0 o R q ∨ h0 q = none) h0 h) → (Wd g base h H) → (va_S (Ab base) s.heap H locs) → (lv_has ls 3 [(0, .ref o), (1, .int (J ns)), (2, .int (J kq))]) → W p l e (headSpec wsX0_makeRoom ({ frames := 0, cells := rc, slots := rs, locals := 0 })).room s m ([.ref o, .int (J ns)]).toArray below meth c H locs rc rs (MQ below (QcM g base (fun r9 h' => r9 = none ∧ Fr (FP 12 kd0 o R) h0 h' ∧ ∃ R1 L1 A1 li, OB g 0 12 kd0 h' o R1 (va_up I 7 0) L1 (va_up A1 6 li) ∧ (LG L1) ∧ (L1 5 = max (L 5) ns) ∧ (A1 1 = A 1 ∧ A1 2 = A 2 ∧ A1 3 = A 3) ∧ (∀ q, FP 12 kd0 o R1 q → FP 12 kd0 o R q ∨ h0 q = none) ∧ ∀ y, 0 ≤ y → y < L1 6 → li y = 0)) ([.ref o, .int (J ns)]).toArray s (rc) (rs) (Ab base)) (F0 m 59 ls []) := by
      intro n9
      induction n9 with
      | zero =>
        intro kq li h H locs ls hmu hk9 hli hM hF hW hS hl
        exact absurd hmu (by omega)
      | succ n9 ih =>
        intro kq li h H locs ls hmu hk9 hli hM hF hW hS hl
        have ih_59 := ih
        refine lv_iload_n hx hb dX0_makeRoom_59 rfl (lv_at hl 2 rfl) ?_
        refine lv_aload_n hx hb dX0_makeRoom_60 rfl (lv_at hl 0 rfl) ?_
        refine g_get (ci := 0) (C := RX0) (T := TX0) (N := 12) (v := .ref (R1 6)) hx hb hfX0 (fun _ h9 => h9) hown hk hW hM.1 rfl 6 (by decide) (hts (.fieldLink RX0 32 "JugsAndGlasses$Glasses" "listed" "[Z") (by decide +kernel)) rfl rfl dX0_makeRoom_61 ?_
        refine g_zalen (n := L1 6) hx hb hk hW (hM.az 6 (by decide) rfl) (by omega) dX0_makeRoom_64 ?_
        refine j_icmp_ge (x := kq) (y := L1 6) (tgt := 81) hx hb ⟨by omega, by omega⟩ ⟨by omega, by omega⟩ dX0_makeRoom_65 (by decide) (fun c_65 => ?_) (fun c_65 => ?_)
        · refine lv_aload_n hx hb dX0_makeRoom_81 rfl (lv_at hl 0 rfl) ?_
          refine lv_iconst (v := J (0)) hx hb dX0_makeRoom_82 rfl ?_
          refine o_put (I' := (va_up I 7 (0))) (ci := 0) (C := RX0) (T := TX0) (N := 12) (ty := .int) hx hb hfX0 (fun _ h9 => h9) tyX0 tyX0_ok nmX0 hown hk hW hS hM hF (Or.inl FP.o) rfl 7 (by decide) rfl (hts (.fieldLink RX0 36 "JugsAndGlasses$Glasses" "listedEvents" "I") (by decide +kernel)) rfl rfl (by decide +kernel) rfl rfl rfl dX0_makeRoom_83 (fun h H locs hM hF hst hW hS => ?_)
          refine W.widen (k := rc) (n := rs) (Nat.le_refl _) (Nat.le_refl _) ?_
          exact g_vret hx hb hr hW hS dX0_makeRoom_86 hlocks (⟨rfl, hF.weak, R1, L1, A1, li, hM, hLG1, hl5, hA1, hfp, fun y y0 y1 => hli y y0 (by omega)⟩)
        · refine lv_aload_n hx hb dX0_makeRoom_68 rfl (lv_at hl 0 rfl) ?_
          refine g_get (ci := 0) (C := RX0) (T := TX0) (N := 12) (v := .ref (R1 6)) hx hb hfX0 (fun _ h9 => h9) hown hk hW hM.1 rfl 6 (by decide) (hts (.fieldLink RX0 32 "JugsAndGlasses$Glasses" "listed" "[Z") (by decide +kernel)) rfl rfl dX0_makeRoom_69 ?_
          refine lv_iload_n hx hb dX0_makeRoom_72 rfl (lv_at hl 2 rfl) ?_
          refine lv_iconst (v := J (0)) hx hb dX0_makeRoom_73 rfl ?_
          refine o_zast (A' := (va_up A1 6 (uf li kq 0))) (i := kq) (x := 0) hx hb hk hW hS hM hF 6 (by decide) rfl (hPa 6 (by decide) ⟨by decide, by decide⟩) (by omega) (show kq < L1 6 from by omega) (show L1 6 < 2147483648 from by omega) (Or.inl rfl) (bx_uu _ _ _ _) dX0_makeRoom_74 (fun h H locs hM hF hst hW hS => ?_)
          refine lv_iinc (v := J (kq + 1)) (lv' := [(2, .int (J (kq + 1))), (0, .ref o), (1, .int (J ns))]) hx hb dX0_makeRoom_75 hl (k := 2) rfl (J_inc (by omega)) (by decide) rfl (fun ls hl => ?_)
          refine lv_goto (tgt := 59) hx hb dX0_makeRoom_78 (by decide) ?_
          exact ih_59 (kq + 1) (uf li kq 0) h H locs ls (by omega) (by omega) (fun y y0 y1 => by unfold uf; split; rfl; exact hli y y0 (by omega)) hM hF hW hS (lv_sub hl [1, 2, 0] rfl)
    exact loop_59 ((L1 6).toNat + 1) 0 (A1 6) h H locs ls (by omega) (by omega) (fun y y0 y1 => absurd y1 (by omega)) (by rw [va_up_id]; exact hM) hF hW hS (lv_sub hl [1, 2, 0] rfl)
  refine lv_aload_n hx hb dX0_makeRoom_0 rfl (lv_at hl 0 rfl) ?_
  refine g_get (ci := 0) (C := RX0) (T := TX0) (N := 12) (v := .ref (R 5)) hx hb hfX0 (fun _ h9 => h9) hown hk hW hM.1 rfl 5 (by decide) (hts (.fieldLink RX0 29 "JugsAndGlasses$Glasses" "events" "[I") (by decide +kernel)) rfl rfl dX0_makeRoom_1 ?_
  refine g_alen (n := L 5) hx hb hk hW (hM.ai 5 (by decide) rfl) (by omega) dX0_makeRoom_4 ?_
  refine lv_iload_n hx hb dX0_makeRoom_5 rfl (lv_at hl 1 rfl) ?_
  refine j_icmp_ge (x := L 5) (y := ns) (tgt := 57) hx hb ⟨by omega, by omega⟩ ⟨by omega, by omega⟩ dX0_makeRoom_6 (by decide) (fun c_6 => ?_) (fun c_6 => ?_)
  · refine W.widen (k := rc) (n := rs) (by omega) (by omega) ?_
    exact cut_57 R L A h0 s.heap [] ls hLG (by omega) (⟨rfl, rfl, rfl⟩) (fun q w => Or.inl w) hM hF hW hS (lv_sub hl [0, 1] rfl)
  · have hrm9 := hrm (by omega)
    refine lv_aload_n hx hb dX0_makeRoom_9 rfl (lv_at hl 0 rfl) ?_
    refine lv_iload_n hx hb dX0_makeRoom_10 rfl (lv_at hl 1 rfl) ?_
    refine g_newi (n := ns) hx hb (hts (.arrayClass .int) (by decide +kernel)) hk hW hS (by omega) (by omega) (by show 0 + 1 ≤ rc; omega) (by show 0 + (ns).toNat ≤ rs; omega) dX0_makeRoom_11 (fun q11 H hq11 hW hS => ?_)
    have f_q11 : h0 q11 = none := hF.none hq11
    have nq11_hM : ∀ j, j < 12 → isA kd0 j → R j ≠ q11 := fun j a b e => by have w := hM.2.1 j a b; rw [e, hq11] at w; cases w
    have hM := hM.new (e := ai g ns (fun _ => 0)) hq11
    have hF := Fr.new (e := ai g ns (fun _ => 0)) hF hq11
    have cq11 : uh h0 q11 (ai g ns (fun _ => 0)) q11 = some (ai g ns (fun _ => 0)) := uh_same _ _ _
    generalize uh h0 q11 (ai g ns (fun _ => 0)) = h at hM hF hW cq11 
    refine g_put (ci := 0) (C := RX0) (T := TX0) (N := 12) (ty := .array .int) hx hb hfX0 (fun _ h9 => h9) tyX0 tyX0_ok nmX0 hown hk hW hS hM.1 rfl 5 (by decide) (hts (.fieldLink RX0 29 "JugsAndGlasses$Glasses" "events" "[I") (by decide +kernel)) rfl rfl (by decide +kernel) rfl rfl (by rw [fls_len]; decide) dX0_makeRoom_13 (fun H locs hW hS => ?_)
    have hM := hM.putr (k := 5) (n := ns) (f := fun _ => 0) ⟨by decide, by decide⟩ cq11 (fun j a b _ => nq11_hM j a b) rfl rfl rfl
    have hF := Fr.set (e := .inr (0, (fls 12 kd0 R I).set 5 (.ref q11))) hF (Or.inl FP.o)
    generalize uh h o (.inr (0, (fls 12 kd0 R I).set 5 (.ref q11))) = h at hM hF hW
    refine lv_aload_n hx hb dX0_makeRoom_16 rfl (lv_at hl 0 rfl) ?_
    refine lv_iload_n hx hb dX0_makeRoom_17 rfl (lv_at hl 1 rfl) ?_
    refine g_newz (n := ns) hx hb (hts (.arrayClass .boolean) (by decide +kernel)) hk hW hS (by omega) (by omega) (by show 1 + 1 ≤ rc; omega) (by show 0 + (ns).toNat + (ns).toNat ≤ rs; omega) dX0_makeRoom_18 (fun q18 H hq18 hW hS => ?_)
    have f_q18 : h0 q18 = none := hF.none hq18
    have nq18_hM : ∀ j, j < 12 → isA kd0 j → (va_up R 5 (q11)) j ≠ q18 := fun j a b e => by have w := hM.2.1 j a b; rw [e, hq18] at w; cases w
    have hM := hM.new (e := az g ns (fun _ => 0)) hq18
    have hF := Fr.new (e := az g ns (fun _ => 0)) hF hq18
    have cq18 : uh h q18 (az g ns (fun _ => 0)) q18 = some (az g ns (fun _ => 0)) := uh_same _ _ _
    generalize uh h q18 (az g ns (fun _ => 0)) = h at hM hF hW cq18 
    refine g_put (ci := 0) (C := RX0) (T := TX0) (N := 12) (ty := .array .boolean) hx hb hfX0 (fun _ h9 => h9) tyX0 tyX0_ok nmX0 hown hk hW hS hM.1 rfl 6 (by decide) (hts (.fieldLink RX0 32 "JugsAndGlasses$Glasses" "listed" "[Z") (by decide +kernel)) rfl rfl (by decide +kernel) rfl rfl (by rw [fls_len]; decide) dX0_makeRoom_20 (fun H locs hW hS => ?_)
    have hM := hM.putr (k := 6) (n := ns) (f := fun _ => 0) ⟨by decide, by decide⟩ cq18 (fun j a b _ => nq18_hM j a b) rfl rfl rfl
    have hF := Fr.set (e := .inr (0, (fls 12 kd0 (va_up R 5 (q11)) I).set 6 (.ref q18))) hF (Or.inl FP.o)
    generalize uh h o (.inr (0, (fls 12 kd0 (va_up R 5 (q11)) I).set 6 (.ref q18))) = h at hM hF hW
    refine lv_aload_n hx hb dX0_makeRoom_23 rfl (lv_at hl 0 rfl) ?_
    refine lv_iload_n hx hb dX0_makeRoom_24 rfl (lv_at hl 1 rfl) ?_
    refine lv_bipush (v := J (8)) hx hb dX0_makeRoom_25 (by decide) ?_
    refine j_imul hx hb dX0_makeRoom_27 ?_
    refine g_newi (n := ns * 8) hx hb (hts (.arrayClass .int) (by decide +kernel)) hk hW hS (by omega) (by omega) (by show 2 + 1 ≤ rc; omega) (by show 0 + (ns).toNat + (ns).toNat + (ns * 8).toNat ≤ rs; omega) dX0_makeRoom_28 (fun q28 H hq28 hW hS => ?_)
    have f_q28 : h0 q28 = none := hF.none hq28
    have nq28_hM : ∀ j, j < 12 → isA kd0 j → (va_up (va_up R 5 (q11)) 6 (q18)) j ≠ q28 := fun j a b e => by have w := hM.2.1 j a b; rw [e, hq28] at w; cases w
    have hM := hM.new (e := ai g (ns * 8) (fun _ => 0)) hq28
    have hF := Fr.new (e := ai g (ns * 8) (fun _ => 0)) hF hq28
    have cq28 : uh h q28 (ai g (ns * 8) (fun _ => 0)) q28 = some (ai g (ns * 8) (fun _ => 0)) := uh_same _ _ _
    generalize uh h q28 (ai g (ns * 8) (fun _ => 0)) = h at hM hF hW cq28 
    refine g_put (ci := 0) (C := RX0) (T := TX0) (N := 12) (ty := .array .int) hx hb hfX0 (fun _ h9 => h9) tyX0 tyX0_ok nmX0 hown hk hW hS hM.1 rfl 8 (by decide) (hts (.fieldLink RX0 39 "JugsAndGlasses$Glasses" "leap" "[I") (by decide +kernel)) rfl rfl (by decide +kernel) rfl rfl (by rw [fls_len]; decide) dX0_makeRoom_30 (fun H locs hW hS => ?_)
    have hM := hM.putr (k := 8) (n := ns * 8) (f := fun _ => 0) ⟨by decide, by decide⟩ cq28 (fun j a b _ => nq28_hM j a b) rfl rfl rfl
    have hF := Fr.set (e := .inr (0, (fls 12 kd0 (va_up (va_up R 5 (q11)) 6 (q18)) I).set 8 (.ref q28))) hF (Or.inl FP.o)
    generalize uh h o (.inr (0, (fls 12 kd0 (va_up (va_up R 5 (q11)) 6 (q18)) I).set 8 (.ref q28))) = h at hM hF hW
    refine lv_aload_n hx hb dX0_makeRoom_33 rfl (lv_at hl 0 rfl) ?_
    refine lv_iload_n hx hb dX0_makeRoom_34 rfl (lv_at hl 1 rfl) ?_
    refine g_newi (n := ns) hx hb (hts (.arrayClass .int) (by decide +kernel)) hk hW hS (by omega) (by omega) (by show 3 + 1 ≤ rc; omega) (by show 0 + (ns).toNat + (ns).toNat + (ns * 8).toNat + (ns).toNat ≤ rs; omega) dX0_makeRoom_35 (fun q35 H hq35 hW hS => ?_)
    have f_q35 : h0 q35 = none := hF.none hq35
    have nq35_hM : ∀ j, j < 12 → isA kd0 j → (va_up (va_up (va_up R 5 (q11)) 6 (q18)) 8 (q28)) j ≠ q35 := fun j a b e => by have w := hM.2.1 j a b; rw [e, hq35] at w; cases w
    have hM := hM.new (e := ai g ns (fun _ => 0)) hq35
    have hF := Fr.new (e := ai g ns (fun _ => 0)) hF hq35
    have cq35 : uh h q35 (ai g ns (fun _ => 0)) q35 = some (ai g ns (fun _ => 0)) := uh_same _ _ _
    generalize uh h q35 (ai g ns (fun _ => 0)) = h at hM hF hW cq35 
    refine g_put (ci := 0) (C := RX0) (T := TX0) (N := 12) (ty := .array .int) hx hb hfX0 (fun _ h9 => h9) tyX0 tyX0_ok nmX0 hown hk hW hS hM.1 rfl 9 (by decide) (hts (.fieldLink RX0 42 "JugsAndGlasses$Glasses" "early" "[I") (by decide +kernel)) rfl rfl (by decide +kernel) rfl rfl (by rw [fls_len]; decide) dX0_makeRoom_37 (fun H locs hW hS => ?_)
    have hM := hM.putr (k := 9) (n := ns) (f := fun _ => 0) ⟨by decide, by decide⟩ cq35 (fun j a b _ => nq35_hM j a b) rfl rfl rfl
    have hF := Fr.set (e := .inr (0, (fls 12 kd0 (va_up (va_up (va_up R 5 (q11)) 6 (q18)) 8 (q28)) I).set 9 (.ref q35))) hF (Or.inl FP.o)
    generalize uh h o (.inr (0, (fls 12 kd0 (va_up (va_up (va_up R 5 (q11)) 6 (q18)) 8 (q28)) I).set 9 (.ref q35))) = h at hM hF hW
    refine lv_aload_n hx hb dX0_makeRoom_40 rfl (lv_at hl 0 rfl) ?_
    refine lv_iload_n hx hb dX0_makeRoom_41 rfl (lv_at hl 1 rfl) ?_
    refine g_newi (n := ns) hx hb (hts (.arrayClass .int) (by decide +kernel)) hk hW hS (by omega) (by omega) (by show 4 + 1 ≤ rc; omega) (by show 0 + (ns).toNat + (ns).toNat + (ns * 8).toNat + (ns).toNat + (ns).toNat ≤ rs; omega) dX0_makeRoom_42 (fun q42 H hq42 hW hS => ?_)
    have f_q42 : h0 q42 = none := hF.none hq42
    have nq42_hM : ∀ j, j < 12 → isA kd0 j → (va_up (va_up (va_up (va_up R 5 (q11)) 6 (q18)) 8 (q28)) 9 (q35)) j ≠ q42 := fun j a b e => by have w := hM.2.1 j a b; rw [e, hq42] at w; cases w
    have hM := hM.new (e := ai g ns (fun _ => 0)) hq42
    have hF := Fr.new (e := ai g ns (fun _ => 0)) hF hq42
    have cq42 : uh h q42 (ai g ns (fun _ => 0)) q42 = some (ai g ns (fun _ => 0)) := uh_same _ _ _
    generalize uh h q42 (ai g ns (fun _ => 0)) = h at hM hF hW cq42 
    refine g_put (ci := 0) (C := RX0) (T := TX0) (N := 12) (ty := .array .int) hx hb hfX0 (fun _ h9 => h9) tyX0 tyX0_ok nmX0 hown hk hW hS hM.1 rfl 10 (by decide) (hts (.fieldLink RX0 45 "JugsAndGlasses$Glasses" "turned" "[I") (by decide +kernel)) rfl rfl (by decide +kernel) rfl rfl (by rw [fls_len]; decide) dX0_makeRoom_44 (fun H locs hW hS => ?_)
    have hM := hM.putr (k := 10) (n := ns) (f := fun _ => 0) ⟨by decide, by decide⟩ cq42 (fun j a b _ => nq42_hM j a b) rfl rfl rfl
    have hF := Fr.set (e := .inr (0, (fls 12 kd0 (va_up (va_up (va_up (va_up R 5 (q11)) 6 (q18)) 8 (q28)) 9 (q35)) I).set 10 (.ref q42))) hF (Or.inl FP.o)
    generalize uh h o (.inr (0, (fls 12 kd0 (va_up (va_up (va_up (va_up R 5 (q11)) 6 (q18)) 8 (q28)) 9 (q35)) I).set 10 (.ref q42))) = h at hM hF hW
    refine lv_aload_n hx hb dX0_makeRoom_47 rfl (lv_at hl 0 rfl) ?_
    refine lv_iload_n hx hb dX0_makeRoom_48 rfl (lv_at hl 1 rfl) ?_
    refine lv_bipush (v := J (13)) hx hb dX0_makeRoom_49 (by decide) ?_
    refine j_imul hx hb dX0_makeRoom_51 ?_
    refine g_newi (n := ns * 13) hx hb (hts (.arrayClass .int) (by decide +kernel)) hk hW hS (by omega) (by omega) (by show 5 + 1 ≤ rc; omega) (by show 0 + (ns).toNat + (ns).toNat + (ns * 8).toNat + (ns).toNat + (ns).toNat + (ns * 13).toNat ≤ rs; omega) dX0_makeRoom_52 (fun q52 H hq52 hW hS => ?_)
    have f_q52 : h0 q52 = none := hF.none hq52
    have nq52_hM : ∀ j, j < 12 → isA kd0 j → (va_up (va_up (va_up (va_up (va_up R 5 (q11)) 6 (q18)) 8 (q28)) 9 (q35)) 10 (q42)) j ≠ q52 := fun j a b e => by have w := hM.2.1 j a b; rw [e, hq52] at w; cases w
    have hM := hM.new (e := ai g (ns * 13) (fun _ => 0)) hq52
    have hF := Fr.new (e := ai g (ns * 13) (fun _ => 0)) hF hq52
    have cq52 : uh h q52 (ai g (ns * 13) (fun _ => 0)) q52 = some (ai g (ns * 13) (fun _ => 0)) := uh_same _ _ _
    generalize uh h q52 (ai g (ns * 13) (fun _ => 0)) = h at hM hF hW cq52 
    refine g_put (ci := 0) (C := RX0) (T := TX0) (N := 12) (ty := .array .int) hx hb hfX0 (fun _ h9 => h9) tyX0 tyX0_ok nmX0 hown hk hW hS hM.1 rfl 11 (by decide) (hts (.fieldLink RX0 48 "JugsAndGlasses$Glasses" "ahead" "[I") (by decide +kernel)) rfl rfl (by decide +kernel) rfl rfl (by rw [fls_len]; decide) dX0_makeRoom_54 (fun H locs hW hS => ?_)
    have hM := hM.putr (k := 11) (n := ns * 13) (f := fun _ => 0) ⟨by decide, by decide⟩ cq52 (fun j a b _ => nq52_hM j a b) rfl rfl rfl
    have hF := Fr.set (e := .inr (0, (fls 12 kd0 (va_up (va_up (va_up (va_up (va_up R 5 (q11)) 6 (q18)) 8 (q28)) 9 (q35)) 10 (q42)) I).set 11 (.ref q52))) hF (Or.inl FP.o)
    generalize uh h o (.inr (0, (fls 12 kd0 (va_up (va_up (va_up (va_up (va_up R 5 (q11)) 6 (q18)) 8 (q28)) 9 (q35)) 10 (q42)) I).set 11 (.ref q52))) = h at hM hF hW
    have hfp9 : ∀ q, FP 12 kd0 o (va_up (va_up (va_up (va_up (va_up (va_up R 5 (q11)) 6 (q18)) 8 (q28)) 9 (q35)) 10 (q42)) 11 (q52)) q → FP 12 kd0 o R q ∨ h0 q = none := fun q w => by
      rcases w with w | ⟨k, hk9, ha9, w⟩
      · exact Or.inl (Or.inl w)
      · by_cases w5 : k = 5
        · subst w5; rw [w]; exact Or.inr f_q11
        by_cases w6 : k = 6
        · subst w6; rw [w]; exact Or.inr f_q18
        by_cases w8 : k = 8
        · subst w8; rw [w]; exact Or.inr f_q28
        by_cases w9 : k = 9
        · subst w9; rw [w]; exact Or.inr f_q35
        by_cases w10 : k = 10
        · subst w10; rw [w]; exact Or.inr f_q42
        by_cases w11 : k = 11
        · subst w11; rw [w]; exact Or.inr f_q52
        refine Or.inl (Or.inr ⟨k, hk9, ha9, ?_⟩)
        rw [w]
        simp [va_up, w5, w6, w8, w9, w10, w11]
    refine W.widen (k := rc) (n := rs) (by omega) (by omega) ?_
    exact cut_57 ((va_up (va_up (va_up (va_up (va_up (va_up R 5 (q11)) 6 (q18)) 8 (q28)) 9 (q35)) 10 (q42)) 11 (q52))) ((va_up (va_up (va_up (va_up (va_up (va_up L 5 (ns)) 6 (ns)) 8 (ns * 8)) 9 (ns)) 10 (ns)) 11 (ns * 13))) ((va_up (va_up (va_up (va_up (va_up (va_up A 5 (fun _ => 0)) 6 (fun _ => 0)) 8 (fun _ => 0)) 9 (fun _ => 0)) 10 (fun _ => 0)) 11 (fun _ => 0))) h H locs ls (by obtain ⟨e1, e2, e3, e4, e5, e6, e7, e8, e9, e10⟩ := hLG; exact ⟨e1, e2, e3, show 0 ≤ ns by omega, show ns ≤ 1728 by omega, rfl, show ns * 8 = 8 * ns by omega, rfl, rfl, show ns * 13 = 13 * ns by omega⟩) (show ns = max (L 5) ns by omega) (⟨rfl, rfl, rfl⟩) hfp9 hM hF hW hS (lv_sub hl [0, 1] rfl)

set_option maxHeartbeats 4000000 in
set_option maxRecDepth 100000 in
theorem g_workOut (l : Launch) (g : GX) (base : Nat) (sa : Nat → Nat) (h0 : Hp) (o : Nat) (R : Nat → Nat) (I : Nat → Int) (L : Nat → Int) (A : Nat → Int → Int) (rc rs : Nat) (hM : OB g 0 12 kd0 h0 o R I L A) (hLG : LG L) (hsk : Sok (I 0) (A 1)) (h4 : I 4 = 0 ∨ I 4 = 1) (hkn : I 4 = 1 → ∀ sn, 0 ≤ sn → sn ≤ 40 → WT (lp (I 0) (A 1)) (2 ^ (I 0).toNat) sn (A 2 sn) (A 3 sn)) (hrm : I 4 = 0 → L 5 < k_states (I 0) → 6 ≤ rc ∧ 25 * (k_states (I 0)).toNat ≤ rs) : MC l g base sa yX0_workOut wsX0_workOut ({ frames := 4, cells := rc, slots := rs, locals := 130 }) ([.ref o]) h0 (fun r9 h' => r9 = none ∧ Fr (FG o R) h0 h' ∧ ∃ R1 I1 L1 A1, GB g h' o R1 I1 L1 A1 ∧ I1 0 = I 0 ∧ I1 4 = 1 ∧ A1 1 = A 1 ∧ (∀ sn, 0 ≤ sn → sn ≤ 40 → WT (lp (I 0) (A 1)) (2 ^ (I 0).toNat) sn (A1 2 sn) (A1 3 sn)) ∧ (∀ q, FG o R1 q → FG o R q ∨ h0 q = none) ∧ ((I 4 = 1 ∧ L1 5 = L 5) ∨ (I 4 = 0 ∧ L1 5 = max (L 5) (k_states (I 0))))) := by
  refine Met.ofW (cc := cX0_workOut) (maxL := 2) (ret := none) (by decide) rfl ?_
  intro p e s m args below meth c s₁ B hml hv
  obtain ⟨rfl, hk, hW⟩ := hv
  have hx := B.exec
  have hb := B.bytes
  have hr := B.returns
  have hts := atoms_spec (ws := wsX0_workOut) B.pre
  have hown : s.vm.findClass RX0 = some m.cls := findClass_of_methodNamed B.named
  have hlocks := B.notSynchronized
  have hfX0 : ∀ w ∈ wsX00, w.before ([.ref o]).toArray s = true := fun w h => hts w (List.mem_cons_of_mem _ (List.mem_append_right _ h))
  have hS : va_S (Ab base) s.heap s.heap [] := va_S.rf
  have hl := lv_entry ([.ref o]) (n := 2) (Nat.le_of_ble_eq_true rfl)
  rw [lg_entry_eq]
  generalize (lg_sl ([.ref o]) ++ List.replicate (2 - (lg_sl ([.ref o])).length) Slot.unset).toArray = ls at hl ⊢
  have hl : lv_has ls 2 [(0, .ref o)] := hl
  have hF : Fr (fun q => FG o R q ∨ h0 q = none) h0 h0 := Fr.rf
  have hn1 := hsk.1
  have hn2 := hsk.2.1
  have hsr := st_r hn1 hn2
  refine lv_aload_n hx hb dX0_workOut_0 rfl (lv_at hl 0 rfl) ?_
  refine g_get (ci := 0) (C := RX0) (T := TX0) (N := 12) (v := .int (J (I 4))) hx hb hfX0 (fun _ h9 => h9) hown hk hW hM.1 rfl 4 (by decide) (hts (.fieldLink RX0 25 "JugsAndGlasses$Glasses" "known" "Z") (by decide +kernel)) rfl rfl dX0_workOut_1 ?_
  refine j_if_eq (x := I 4) (tgt := 8) hx hb ⟨by omega, by omega⟩ dX0_workOut_4 (by decide) (fun c_4 => ?_) (fun c_4 => ?_)
  · refine lv_aload_n hx hb dX0_workOut_8 rfl (lv_at hl 0 rfl) ?_
    refine g_get (ci := 0) (C := RX0) (T := TX0) (N := 12) (v := .int (J (I 0))) hx hb hfX0 (fun _ h9 => h9) hown hk hW hM.1 rfl 0 (by decide) (hts (.fieldLink RX0 9 "JugsAndGlasses$Glasses" "number" "I") (by decide +kernel)) rfl rfl dX0_workOut_9 ?_
    refine j_if_lt (x := I 0) (tgt := 26) hx hb ⟨by omega, by omega⟩ dX0_workOut_12 (by decide) (fun c_12 => ?_) (fun c_12 => ?_)
    · exfalso
      omega
    · refine lv_aload_n hx hb dX0_workOut_15 rfl (lv_at hl 0 rfl) ?_
      refine g_get (ci := 0) (C := RX0) (T := TX0) (N := 12) (v := .int (J (I 0))) hx hb hfX0 (fun _ h9 => h9) hown hk hW hM.1 rfl 0 (by decide) (hts (.fieldLink RX0 9 "JugsAndGlasses$Glasses" "number" "I") (by decide +kernel)) rfl rfl dX0_workOut_16 ?_
      refine g_stat hx hb hk.2.2.2.2.1 hS hown (hts (.fieldLink RX0 51 "JugsAndGlasses$Glasses" "STATES" "[I") (by decide +kernel)) dX0_workOut_19 ?_
      refine g_slen (z := 4) hx hb hk.2.2.2.2.1 hS (by decide) dX0_workOut_22 ?_
      refine j_icmp_lt (x := I 0) (y := 4) (tgt := 27) hx hb ⟨by omega, by omega⟩ ⟨by decide, by decide⟩ dX0_workOut_23 (by decide) (fun c_23 => ?_) (fun c_23 => ?_)
      · refine lv_aload_n hx hb dX0_workOut_27 rfl (lv_at hl 0 rfl) ?_
        refine g_stat hx hb hk.2.2.2.2.1 hS hown (hts (.fieldLink RX0 51 "JugsAndGlasses$Glasses" "STATES" "[I") (by decide +kernel)) dX0_workOut_28 ?_
        refine lv_aload_n hx hb dX0_workOut_31 rfl (lv_at hl 0 rfl) ?_
        refine g_get (ci := 0) (C := RX0) (T := TX0) (N := 12) (v := .int (J (I 0))) hx hb hfX0 (fun _ h9 => h9) hown hk hW hM.1 rfl 0 (by decide) (hts (.fieldLink RX0 9 "JugsAndGlasses$Glasses" "number" "I") (by decide +kernel)) rfl rfl dX0_workOut_32 ?_
        refine g_sald hx hb hk.2.2.2.2.1 hS (by omega) (by show I 0 < 4; omega) (by decide) dX0_workOut_35 ?_
        refine g_callV (As := [.int (J (k_states (I 0)))]) (rest := []) (b := o) (ci := 0) (C := RX0) (T := TX0) (N := 12) ⟨hx, hb, hml, hown, hts⟩ (g_makeRoom l g base sa h0 o R I L A (k_states (I 0)) rc rs hM hLG ⟨by omega, by omega⟩ (fun w => hrm c_4 w)) (cwV 1 hts gX0_workOut_X0_makeRoom rfl rfl rfl (by decide +kernel) ⟨Nat.le_of_ble_eq_true rfl, Nat.le_of_ble_eq_true rfl⟩) hk hW hS hM.1 rfl rfl hl.1 (Nat.le_of_ble_eq_true rfl) dX0_workOut_36 ⟨Nat.le_of_eq (Nat.zero_add _), Nat.le_of_eq (Nat.zero_add _)⟩ (fun r9 h9 H locs hp hW hS => ?_)
        obtain ⟨rfl, hF9, R1, L1, A1, li, hM, hLG1, hl5, hA1, hfp, hli⟩ := hp
        refine W.widen (k := rc) (n := rs) (Nat.le_of_eq (Nat.zero_add _)) (Nat.le_of_eq (Nat.zero_add _)) ?_
        refine W.eq (g2 := F0 m 39 ls []) rfl ?_
        have hF := hF.tr hF9 (fun q w _ => Or.inl w)
        generalize h9 = h at hM hF hW
        obtain ⟨k1, k2, k3, k4, k5, k6, k7, k8, k9, k10⟩ := id hLG1
        have hsk1 : Sok (I 0) (A1 1) := by rw [hA1.1]; exact hsk
        refine lv_aload_n hx hb dX0_workOut_39 rfl (lv_at hl 0 rfl) ?_
        refine g_callV (As := []) (rest := []) (b := o) (ci := 0) (C := RX0) (T := TX0) (N := 12) ⟨hx, hb, hml, hown, hts⟩ (g_listEvents l g base sa h o R1 (va_up I 7 (0)) L1 (va_up A1 6 (li)) hM k1 hsk1 rfl ⟨by rw [k6, hl5]; show k_states (I 0) ≤ _; omega, by omega, by omega, by omega⟩ hli) (cwV 0 hts gX0_workOut_X0_listEvents rfl rfl rfl (by decide +kernel) ⟨Nat.le_of_ble_eq_true rfl, Nat.le_of_ble_eq_true rfl⟩) hk hW hS hM.1 rfl rfl hl.1 (Nat.le_of_ble_eq_true rfl) dX0_workOut_40 ⟨Nat.le_refl _, Nat.le_refl _⟩ (fun r9 h9 H locs hp hW hS => ?_)
        have hp : r9 = none ∧ Fr (FP 12 kd0 o R1) h h9 ∧ ∃ ev li2 lq r, OB g 0 12 kd0 h9 o R1 (va_up (va_up I 7 0) 7 r) L1 (va_up (va_up (va_up (va_up A1 6 li) 5 ev) 6 li2) 8 lq) ∧ LE (k_states (I 0)) (L1 6) (lp (I 0) (A1 1)) (2 ^ (I 0).toNat) ev li2 lq r (8 * r) := hp
        obtain ⟨rfl, hF9, ev, li2, lq, r, hM, hLE⟩ := hp
        refine W.widen (k := rc) (n := rs) (Nat.le_refl _) (Nat.le_refl _) ?_
        refine W.eq (g2 := F0 m 43 ls []) rfl ?_
        have hF := hF.tr hF9 (fun q w _ => hfp q w)
        generalize h9 = h at hM hF hW
        have hM : OB g 0 12 kd0 h o R1 (va_up I 7 (r)) L1 (va_up (va_up (va_up (va_up A1 6 (li)) 5 (ev)) 6 (li2)) 8 (lq)) := by
          have e9 : (va_up (va_up I 7 (0)) 7 (r)) = (va_up I 7 (r)) := by funext q9; by_cases w7 : q9 = 7 <;> simp [va_up, w7]
          rw [← e9]
          exact hM
        have hM : OB g 0 12 kd0 h o R1 (va_up I 7 (r)) L1 (va_up (va_up (va_up A1 5 (ev)) 6 (li2)) 8 (lq)) := by
          have e9 : (va_up (va_up (va_up (va_up A1 6 (li)) 5 (ev)) 6 (li2)) 8 (lq)) = (va_up (va_up (va_up A1 5 (ev)) 6 (li2)) 8 (lq)) := by funext q9; by_cases w5 : q9 = 5 <;> by_cases w6 : q9 = 6 <;> by_cases w8 : q9 = 8 <;> simp [va_up, w5, w6, w8]
          rw [← e9]
          exact hM
        refine lv_aload_n hx hb dX0_workOut_43 rfl (lv_at hl 0 rfl) ?_
        refine g_callV (As := []) (rest := []) (b := o) (ci := 0) (C := RX0) (T := TX0) (N := 12) ⟨hx, hb, hml, hown, hts⟩ (g_goForth l g base sa h o R1 (va_up I 7 (r)) L1 (va_up (va_up (va_up A1 5 (ev)) 6 (li2)) 8 (lq)) hM k1 hsk1 ⟨by rw [k6, hl5]; show k_states (I 0) ≤ _; omega, by omega, by omega, by omega, by omega, by omega⟩ hLE) (cwV 0 hts gX0_workOut_X0_goForth rfl rfl rfl (by decide +kernel) ⟨Nat.le_of_ble_eq_true rfl, Nat.le_of_ble_eq_true rfl⟩) hk hW hS hM.1 rfl rfl hl.1 (Nat.le_of_ble_eq_true rfl) dX0_workOut_44 ⟨Nat.le_refl _, Nat.le_refl _⟩ (fun r9 h9 H locs hp hW hS => ?_)
        have hp : r9 = none ∧ Fr (FP 12 kd0 o R1) h h9 ∧ ∃ ea tu, OB g 0 12 kd0 h9 o R1 (va_up I 7 (r)) L1 (va_up (va_up (va_up (va_up (va_up A1 5 (ev)) 6 (li2)) 8 (lq)) 9 ea) 10 tu) ∧ EF (lp (I 0) (A1 1)) (2 ^ (I 0).toNat) ev r ea tu 61 0 0 := hp
        obtain ⟨rfl, hF9, ea, tu, hM, hEF⟩ := hp
        refine W.widen (k := rc) (n := rs) (Nat.le_refl _) (Nat.le_refl _) ?_
        refine W.eq (g2 := F0 m 47 ls []) rfl ?_
        have hF := hF.tr hF9 (fun q w _ => hfp q w)
        generalize h9 = h at hM hF hW
        obtain ⟨A2, eA⟩ : ∃ A2, A2 = (va_up (va_up (va_up (va_up (va_up A1 5 (ev)) 6 (li2)) 8 (lq)) 9 (ea)) 10 (tu)) := ⟨_, rfl⟩
        obtain ⟨I2, eI⟩ : ∃ I2, I2 = (va_up I 7 (r)) := ⟨_, rfl⟩
        have hI20 : I2 0 = I 0 := by rw [eI]; rfl
        have hA21 : A2 1 = A 1 := by rw [eA]; exact hA1.1
        have hsk2 : Sok (I2 0) (A2 1) := by rw [hI20, hA21]; exact hsk
        have hLE : LE (k_states (I2 0)) (L1 6) (lp (I2 0) (A2 1)) (2 ^ (I2 0).toNat) (A2 5) (A2 6) (A2 8) (I2 7) (8 * I2 7) := by rw [eA, eI]; exact hLE
        have hEF : EF (lp (I2 0) (A2 1)) (2 ^ (I2 0).toNat) (A2 5) (I2 7) (A2 9) (A2 10) 61 0 0 := by rw [eA, eI]; exact hEF
        rw [← eA, ← eI] at hM
        have hL62 : k_states (I2 0) ≤ L1 6 ∧ L1 6 ≤ 1728 ∧ L1 5 = L1 6 ∧ L1 8 = 8 * L1 6 ∧ L1 9 = L1 6 ∧ L1 10 = L1 6 := ⟨by rw [hI20, k6, hl5]; omega, by omega, by omega, by omega, by omega, by omega⟩
        have hL112 : L1 11 = 13 * L1 6 := by omega
        clear eA eI
        refine lv_iconst (v := J (0)) hx hb dX0_workOut_47 rfl ?_
        refine lv_istore_n (lv' := [(1, .int (J 0)), (0, .ref o)]) hx hb dX0_workOut_48 rfl hl (by decide) rfl (fun ls hl => ?_)
        have loop_49 : ∀ (n9 : Nat) (sn : Int) (f2 : Int → Int) (f3 : Int → Int) (f11 : Int → Int) (h : Hp) (H : Heap) (locs : List Loc) (ls : Array Slot), 41 - sn < (n9 : Int) → (0 ≤ sn ∧ sn ≤ 41) → (RG (lp (I2 0) (A2 1)) (2 ^ (I2 0).toNat) (A2 5) (I2 7) (Bf f11) sn 0) → (∀ z, 0 ≤ z → z < sn → WT (lp (I2 0) (A2 1)) (2 ^ (I2 0).toNat) z (f2 z) (f3 z)) → (OB g 0 12 kd0 h o R1 I2 L1 (va_up (va_up (va_up A2 2 (f2)) 3 (f3)) 11 (f11))) → (Fr (fun q => FG o R q ∨ h0 q = none) h0 h) → (Wd g base h H) → (va_S (Ab base) s.heap H locs) → (lv_has ls 2 [(0, .ref o), (1, .int (J sn))]) → W p l e (headSpec wsX0_workOut ({ frames := 4, cells := rc, slots := rs, locals := 130 })).room s m ([.ref o]).toArray below meth c H locs rc rs (MQ below (QcM g base (fun r9 h' => r9 = none ∧ Fr (FG o R) h0 h' ∧ ∃ R1 I1 L1 A1, GB g h' o R1 I1 L1 A1 ∧ I1 0 = I 0 ∧ I1 4 = 1 ∧ A1 1 = A 1 ∧ (∀ sn, 0 ≤ sn → sn ≤ 40 → WT (lp (I 0) (A 1)) (2 ^ (I 0).toNat) sn (A1 2 sn) (A1 3 sn)) ∧ (∀ q, FG o R1 q → FG o R q ∨ h0 q = none) ∧ ((I 4 = 1 ∧ L1 5 = L 5) ∨ (I 4 = 0 ∧ L1 5 = max (L 5) (k_states (I 0)))))) ([.ref o]).toArray s (rc) (rs) (Ab base)) (F0 m 49 ls []) := by
          intro n9
          induction n9 with
          | zero =>
            intro sn f2 f3 f11 h H locs ls hmu hs9 hRG hWT hM hF hW hS hl
            exact absurd hmu (by omega)
          | succ n9 ih =>
            intro sn f2 f3 f11 h H locs ls hmu hs9 hRG hWT hM hF hW hS hl
            have ih_49 := ih
            refine lv_iload_n hx hb dX0_workOut_49 rfl (lv_at hl 1 rfl) ?_
            refine lv_bipush (v := J (40)) hx hb dX0_workOut_50 (by decide) ?_
            refine j_icmp_gt (x := sn) (y := 40) (tgt := 71) hx hb ⟨by omega, by omega⟩ ⟨by decide, by decide⟩ dX0_workOut_52 (by decide) (fun c_52 => ?_) (fun c_52 => ?_)
            · refine lv_aload_n hx hb dX0_workOut_71 rfl (lv_at hl 0 rfl) ?_
              refine lv_iconst (v := J (1)) hx hb dX0_workOut_72 rfl ?_
              refine o_put (I' := (va_up I2 4 (1))) (ci := 0) (C := RX0) (T := TX0) (N := 12) (ty := .boolean) hx hb hfX0 (fun _ h9 => h9) tyX0 tyX0_ok nmX0 hown hk hW hS hM hF (Or.inl FP.o) rfl 4 (by decide) rfl (hts (.fieldLink RX0 25 "JugsAndGlasses$Glasses" "known" "Z") (by decide +kernel)) rfl rfl (by decide +kernel) (nb_n (Or.inr rfl)) (nb_f (Or.inr rfl)) rfl dX0_workOut_73 (fun h H locs hM hF hst hW hS => ?_)
              refine W.widen (k := rc) (n := rs) (by omega) (by omega) ?_
              exact g_vret hx hb hr hW hS dX0_workOut_76 hlocks (⟨rfl, hF.weak, R1, _, L1, _, ⟨hM, hLG1⟩, hI20, rfl, hA21, fun z z0 z1 => by rw [← hI20, ← hA21]; exact hWT z z0 (by omega), hfp, Or.inr ⟨c_4, hl5⟩⟩)
            · refine lv_aload_n hx hb dX0_workOut_55 rfl (lv_at hl 0 rfl) ?_
              refine lv_iload_n hx hb dX0_workOut_56 rfl (lv_at hl 1 rfl) ?_
              refine g_callV (As := [.int (J sn)]) (rest := []) (b := o) (ci := 0) (C := RX0) (T := TX0) (N := 12) ⟨hx, hb, hml, hown, hts⟩ (g_lookAhead l g base sa h o R1 I2 L1 (va_up (va_up (va_up A2 2 (f2)) 3 (f3)) 11 (f11)) sn hM k1 hsk2 hL62 hL112 hLE ⟨by omega, by omega⟩ hRG) (cwV 1 hts gX0_workOut_X0_lookAhead rfl rfl rfl (by decide +kernel) ⟨Nat.le_of_ble_eq_true rfl, Nat.le_of_ble_eq_true rfl⟩) hk hW hS hM.1 rfl rfl hl.1 (Nat.le_of_ble_eq_true rfl) dX0_workOut_57 ⟨Nat.le_refl _, Nat.le_refl _⟩ (fun r9 h9 H locs hp hW hS => ?_)
              have hp : r9 = none ∧ Fr (FP 12 kd0 o R1) h h9 ∧ ∃ f12, OB g 0 12 kd0 h9 o R1 I2 L1 (va_up (va_up (va_up (va_up A2 2 (f2)) 3 (f3)) 11 (f11)) 11 f12) ∧ RG (lp (I2 0) (A2 1)) (2 ^ (I2 0).toNat) (A2 5) (I2 7) (Bf f12) sn (I2 7) := hp
              obtain ⟨rfl, hF9, f12, hM, hRG3⟩ := hp
              refine W.widen (k := rc) (n := rs) (Nat.le_refl _) (Nat.le_refl _) ?_
              refine W.eq (g2 := F0 m 60 ls []) rfl ?_
              have hF := hF.tr hF9 (fun q w _ => hfp q w)
              generalize h9 = h at hM hF hW
              have hM : OB g 0 12 kd0 h o R1 I2 L1 (va_up (va_up (va_up A2 2 (f2)) 3 (f3)) 11 (f12)) := by
                have e9 : (va_up (va_up (va_up (va_up A2 2 (f2)) 3 (f3)) 11 (f11)) 11 (f12)) = (va_up (va_up (va_up A2 2 (f2)) 3 (f3)) 11 (f12)) := by funext q9; by_cases w2 : q9 = 2 <;> by_cases w3 : q9 = 3 <;> by_cases w11 : q9 = 11 <;> simp [va_up, w2, w3, w11]
                rw [← e9]
                exact hM
              refine lv_aload_n hx hb dX0_workOut_60 rfl (lv_at hl 0 rfl) ?_
              refine lv_iload_n hx hb dX0_workOut_61 rfl (lv_at hl 1 rfl) ?_
              refine g_callV (As := [.int (J sn)]) (rest := []) (b := o) (ci := 0) (C := RX0) (T := TX0) (N := 12) ⟨hx, hb, hml, hown, hts⟩ (g_answer l g base sa h o R1 I2 L1 (va_up (va_up (va_up A2 2 (f2)) 3 (f3)) 11 (f12)) sn hM k1 hsk2 hL62 hL112 hLE ⟨k2, k3⟩ ⟨by omega, by omega⟩ hEF hRG3.2) (cwV 1 hts gX0_workOut_X0_answer rfl rfl rfl (by decide +kernel) ⟨Nat.le_of_ble_eq_true rfl, Nat.le_of_ble_eq_true rfl⟩) hk hW hS hM.1 rfl rfl hl.1 (Nat.le_of_ble_eq_true rfl) dX0_workOut_62 ⟨Nat.le_refl _, Nat.le_refl _⟩ (fun r9 h9 H locs hp hW hS => ?_)
              have hp : r9 = none ∧ Fr (FP 12 kd0 o R1) h h9 ∧ ∃ w t, OB g 0 12 kd0 h9 o R1 I2 L1 (va_up (va_up (va_up (va_up (va_up A2 2 (f2)) 3 (f3)) 11 (f12)) 2 (uf f2 sn w)) 3 (uf f3 sn t)) ∧ WT (lp (I2 0) (A2 1)) (2 ^ (I2 0).toNat) sn w t := hp
              obtain ⟨rfl, hF9, w, t, hM, hWTn⟩ := hp
              refine W.widen (k := rc) (n := rs) (Nat.le_refl _) (Nat.le_refl _) ?_
              refine W.eq (g2 := F0 m 65 ls []) rfl ?_
              have hF := hF.tr hF9 (fun q w _ => hfp q w)
              generalize h9 = h at hM hF hW
              have hM : OB g 0 12 kd0 h o R1 I2 L1 (va_up (va_up (va_up A2 2 (uf f2 sn w)) 3 (uf f3 sn t)) 11 (f12)) := by
                have e9 : (va_up (va_up (va_up (va_up (va_up A2 2 (f2)) 3 (f3)) 11 (f12)) 2 (uf f2 sn w)) 3 (uf f3 sn t)) = (va_up (va_up (va_up A2 2 (uf f2 sn w)) 3 (uf f3 sn t)) 11 (f12)) := by funext q9; by_cases w2 : q9 = 2 <;> by_cases w3 : q9 = 3 <;> by_cases w11 : q9 = 11 <;> simp [va_up, w2, w3, w11]
                rw [← e9]
                exact hM
              refine lv_iinc (v := J (sn + 1)) (lv' := [(1, .int (J (sn + 1))), (0, .ref o)]) hx hb dX0_workOut_65 hl (k := 1) rfl (J_inc (by omega)) (by decide) rfl (fun ls hl => ?_)
              refine lv_goto (tgt := 49) hx hb dX0_workOut_68 (by decide) ?_
              exact ih_49 (sn + 1) (uf f2 sn w) (uf f3 sn t) f12 h H locs ls (by omega) (by omega) (RG_next hRG3) (fun z z0 z1 => by by_cases e : z = sn; (subst e; rw [uf_same, uf_same]; exact hWTn); (rw [uf_ne _ _ e, uf_ne _ _ e]; exact hWT z z0 (by omega))) hM hF hW hS (lv_sub hl [1, 0] rfl)
        exact loop_49 42 0 (A2 2) (A2 3) (A2 11) h H locs ls (by omega) (by omega) (⟨fun j i j0 _ j2 => absurd j2 (by omega), fun i i0 i1 => absurd i1 (by omega)⟩) (fun z z0 z1 => absurd z1 (by omega)) (by rw [va_up_id, va_up_id, va_up_id]; exact hM) hF hW hS (lv_sub hl [1, 0] rfl)
      · exfalso
        omega
  · refine W.widen (k := rc) (n := rs) (by omega) (by omega) ?_
    exact g_vret hx hb hr hW hS dX0_workOut_7 hlocks (⟨rfl, Fr.rf, R, I, L, A, ⟨hM, hLG⟩, rfl, by omega, rfl, hkn (by omega), fun q w => Or.inl w, Or.inl ⟨by omega, rfl⟩⟩)
