theorem fill_ob {g : GX} {ci N : Nat} {kd : Nat → Nat} {h : Hp} {o : Nat} {R : Nat → Nat} {I : Nat → Int} {L : Nat → Int} {A : Nat → Int → Int} (hM : OB g ci N kd h o R I L A) (k : Nat) (hk : k < N) (h1 : kd k = 1) {v : Int} : OB g ci N kd (uh h (R k) (ai g (L k) (cpN (L k) (fun _ => v) (A k)))) o R I L (va_up A k (cpN (L k) (fun _ => v) (A k))) := by
  have h9 := hM.ast (f := cpN (L k) (fun _ => v) (A k)) hk ⟨by omega, by omega⟩ rfl
  rwa [acell, if_pos h1] at h9

set_option maxHeartbeats 4000000 in
set_option maxRecDepth 100000 in
theorem t_start (l : Launch) (g : GX) (base : Nat) (sa : Nat → Nat) (h0 : Hp) (o : Nat) (R : Nat → Nat) (I : Nat → Int) (L : Nat → Int) (A : Nat → Int → Int) (cd x : Int) (hM : OB g 4 4 kd4 h0 o R I L A) (hL : 0 ≤ L 1 ∧ L 1 ≤ 14641 ∧ L 0 = L 1 ∧ L 2 = L 1) (hcd : 1 ≤ cd ∧ cd ≤ 14641) (hx9 : 0 ≤ x ∧ x < cd) : MC l g base sa yX4_start wsX4_start ({ frames := 2, cells := tCel (L 1) cd, slots := tSlo (L 1) cd, locals := 51 }) ([.ref o, .int (J cd), .int (J x)]) h0 (fun r h' => r = none ∧ Fr (fun q => FP 4 kd4 o R q) h0 h' ∧ ∃ R' L' A', OB g 4 4 kd4 h' o R' (va_up I 3 1) L' A' ∧ (L' 0 = tLen (L 1) cd ∧ L' 1 = tLen (L 1) cd ∧ L' 2 = tLen (L 1) cd) ∧ (∀ k, k < 3 → R' k = R k ∨ h0 (R' k) = none) ∧ A' 0 0 = x ∧ (∀ j, 0 ≤ j → j < tLen (L 1) cd → A' 1 j = if j = x then 0 else -1)) := by
  refine Met.ofW (cc := cX4_start) (maxL := 4) (ret := none) (by decide) rfl ?_
  intro p e s m args below meth c s₁ B hml hv
  obtain ⟨rfl, hk, hW⟩ := hv
  have hx := B.exec
  have hb := B.bytes
  have hr := B.returns
  have hts := atoms_spec (ws := wsX4_start) B.pre
  have hown : s.vm.findClass RX4 = some m.cls := findClass_of_methodNamed B.named
  have hlocks := B.notSynchronized
  have hfX4 : ∀ w ∈ wsX40, w.before ([.ref o, .int (J cd), .int (J x)]).toArray s = true := fun w h => hts w (List.mem_cons_of_mem _ (List.mem_append_right _ h))
  have hS : va_S (Ab base) s.heap s.heap [] := va_S.rf
  have hl := lv_entry ([.ref o, .int (J cd), .int (J x)]) (n := 4) (Nat.le_of_ble_eq_true rfl)
  rw [lg_entry_eq]
  generalize (lg_sl ([.ref o, .int (J cd), .int (J x)]) ++ List.replicate (4 - (lg_sl ([.ref o, .int (J cd), .int (J x)])).length) Slot.unset).toArray = ls at hl ⊢
  have hl : lv_has ls 4 [(0, .ref o), (1, .int (J cd)), (2, .int (J x))] := hl
  have hF : Fr (fun q => FP 4 kd4 o R q ∨ h0 q = none) h0 h0 := Fr.rf
  have hlr := tLen_r ⟨hL.1, hL.2.1⟩ hcd
  have hsv := hM
  have cut_40 : ∀ (R1 : Nat → Nat) (L1 : Nat → Int) (A1 : Nat → Int → Int) (h : Hp) (H : Heap) (locs : List Loc) (ls : Array Slot), (L1 0 = tLen (L 1) cd ∧ L1 1 = tLen (L 1) cd ∧ L1 2 = tLen (L 1) cd) → (∀ k, k < 3 → R1 k = R k ∨ h0 (R1 k) = none) → (OB g 4 4 kd4 h o R1 I L1 A1) → (Fr (fun q => FP 4 kd4 o R q ∨ h0 q = none) h0 h) → (Wd g base h H) → (va_S (Ab base) s.heap H locs) → (lv_has ls 4 [(0, .ref o), (1, .int (J cd)), (2, .int (J x))]) → W p l e (headSpec wsX4_start ({ frames := 2, cells := tCel (L 1) cd, slots := tSlo (L 1) cd, locals := 51 })).room s m ([.ref o, .int (J cd), .int (J x)]).toArray below meth c H locs (tCel (L 1) cd) (tSlo (L 1) cd) (MQ below (QcM g base (fun r h' => r = none ∧ Fr (fun q => FP 4 kd4 o R q) h0 h' ∧ ∃ R' L' A', OB g 4 4 kd4 h' o R' (va_up I 3 1) L' A' ∧ (L' 0 = tLen (L 1) cd ∧ L' 1 = tLen (L 1) cd ∧ L' 2 = tLen (L 1) cd) ∧ (∀ k, k < 3 → R' k = R k ∨ h0 (R' k) = none) ∧ A' 0 0 = x ∧ (∀ j, 0 ≤ j → j < tLen (L 1) cd → A' 1 j = if j = x then 0 else -1))) ([.ref o, .int (J cd), .int (J x)]).toArray s (tCel (L 1) cd) (tSlo (L 1) cd) (Ab base)) (F0 m 40 ls []) := by
    intro R1 L1 A1 h H locs ls hL1 hR1 hM hF hW hS hl
    obtain ⟨hl0, hl1, hl2⟩ := hL1
    have hPa : ∀ k, k < 3 → (FP 4 kd4 o R (R1 k) ∨ h0 (R1 k) = none) := fun k hk9 => by
      rcases hR1 k hk9 with w | w
      · rw [w]; exact Or.inl (FP.a k (by omega) (by match k, hk9 with | 0, _ => exact ⟨by decide, by decide⟩ | 1, _ => exact ⟨by decide, by decide⟩ | 2, _ => exact ⟨by decide, by decide⟩))
      · exact Or.inr w
    refine lv_aload_n hx hb dX4_start_40 rfl (lv_at hl 0 rfl) ?_
    refine g_get (ci := 4) (C := RX4) (T := TX4) (N := 4) (v := .ref (R1 1)) hx hb hfX4 (fun _ h9 => h9) hown hk hW hM.1 rfl 1 (by decide) (hts (.fieldLink RX4 15 "JugsAndGlasses$Tour" "level" "[I") (by decide +kernel)) rfl rfl dX4_start_41 ?_
    refine lv_iconst (v := J (-1)) hx hb dX4_start_44 rfl ?_
    refine g_callS (As := [.ref (R1 1), .int (J ((-1)))]) (rest := []) ⟨hx, hb, hml, hown, hts⟩ (k_fill l g base sa h (R1 1) (L1 1) (-1) (A1 1) (hM.ai 1 (by decide) rfl) ⟨by omega, by omega⟩) (va_cwS 2 hts gX4_start_J7_fill_53178 rfl rfl rfl (by decide +kernel) ⟨Nat.le_of_ble_eq_true rfl, Nat.le_of_ble_eq_true rfl⟩) hk hW hS rfl hl.1 (Nat.le_of_ble_eq_true rfl) dX4_start_45 ⟨Nat.le_refl _, Nat.le_refl _⟩ (fun r9 h9 H locs hp hW hS => ?_)
    obtain ⟨rfl, e9⟩ := hp
    refine W.widen (k := tCel (L 1) cd) (n := tSlo (L 1) cd) (Nat.le_refl _) (Nat.le_refl _) ?_
    refine W.eq (g2 := F0 m 48 ls []) rfl ?_
    rw [e9] at hW
    have hM := fill_ob hM 1 (by decide) rfl (v := -1)
    have hF := Fr.set (e := ai g (L1 1) (cpN (L1 1) (fun _ => -1) (A1 1))) hF (hPa 1 (by decide))
    have hW : Wd g base (uh h (R1 1) (ai g (L1 1) (cpN (L1 1) (fun _ => -1) (A1 1)))) H := hW
    generalize uh h (R1 1) (ai g (L1 1) (cpN (L1 1) (fun _ => -1) (A1 1))) = h at hM hF hW
    have hM : OB g 4 4 kd4 h o R1 I L1 (va_up A1 1 (cpN (L1 1) (fun _ => -1) (A1 1))) := hM
    refine lv_aload_n hx hb dX4_start_48 rfl (lv_at hl 0 rfl) ?_
    refine lv_iconst (v := J (0)) hx hb dX4_start_49 rfl ?_
    refine o_put (I' := (va_up I 3 (0))) (ci := 4) (C := RX4) (T := TX4) (N := 4) (ty := .int) hx hb hfX4 (fun _ h9 => h9) tyX4 tyX4_ok nmX4 hown hk hW hS hM hF (Or.inl FP.o) rfl 3 (by decide) rfl (hts (.fieldLink RX4 21 "JugsAndGlasses$Tour" "reached" "I") (by decide +kernel)) rfl rfl (by decide +kernel) rfl rfl rfl dX4_start_50 (fun h H locs hM hF hst hW hS => ?_)
    refine lv_iload_n hx hb dX4_start_53 rfl (lv_at hl 2 rfl) ?_
    refine j_if_lt (x := x) (tgt := 85) hx hb ⟨by omega, by omega⟩ dX4_start_54 (by decide) (fun c_54 => ?_) (fun c_54 => ?_)
    · exfalso
      omega
    · refine lv_iload_n hx hb dX4_start_57 rfl (lv_at hl 2 rfl) ?_
      refine lv_aload_n hx hb dX4_start_58 rfl (lv_at hl 0 rfl) ?_
      refine g_get (ci := 4) (C := RX4) (T := TX4) (N := 4) (v := .ref (R1 1)) hx hb hfX4 (fun _ h9 => h9) hown hk hW hM.1 rfl 1 (by decide) (hts (.fieldLink RX4 15 "JugsAndGlasses$Tour" "level" "[I") (by decide +kernel)) rfl rfl dX4_start_59 ?_
      refine g_alen (n := L1 1) hx hb hk hW (hM.ai 1 (by decide) rfl) (by omega) dX4_start_62 ?_
      refine j_icmp_ge (x := x) (y := L1 1) (tgt := 85) hx hb ⟨by omega, by omega⟩ ⟨by omega, by omega⟩ dX4_start_63 (by decide) (fun c_63 => ?_) (fun c_63 => ?_)
      · exfalso
        omega
      · refine lv_aload_n hx hb dX4_start_66 rfl (lv_at hl 0 rfl) ?_
        refine g_get (ci := 4) (C := RX4) (T := TX4) (N := 4) (v := .ref (R1 0)) hx hb hfX4 (fun _ h9 => h9) hown hk hW hM.1 rfl 0 (by decide) (hts (.fieldLink RX4 9 "JugsAndGlasses$Tour" "found" "[I") (by decide +kernel)) rfl rfl dX4_start_67 ?_
        refine lv_iconst (v := J (0)) hx hb dX4_start_70 rfl ?_
        refine lv_iload_n hx hb dX4_start_71 rfl (lv_at hl 2 rfl) ?_
        refine o_iast (A' := (va_up (va_up A1 1 (cpN (L1 1) (fun _ => -1) (A1 1))) 0 (uf (A1 0) 0 x))) (i := 0) (x := x) hx hb hk hW hS hM hF 0 (by decide) rfl (hPa 0 (by decide)) (by omega) (show 0 < L1 0 from by omega) (show L1 0 < 2147483648 from by omega) rfl dX4_start_72 (fun h H locs hM hF hst hW hS => ?_)
        refine lv_aload_n hx hb dX4_start_73 rfl (lv_at hl 0 rfl) ?_
        refine g_get (ci := 4) (C := RX4) (T := TX4) (N := 4) (v := .ref (R1 1)) hx hb hfX4 (fun _ h9 => h9) hown hk hW hM.1 rfl 1 (by decide) (hts (.fieldLink RX4 15 "JugsAndGlasses$Tour" "level" "[I") (by decide +kernel)) rfl rfl dX4_start_74 ?_
        refine lv_iload_n hx hb dX4_start_77 rfl (lv_at hl 2 rfl) ?_
        refine lv_iconst (v := J (0)) hx hb dX4_start_78 rfl ?_
        refine o_iast (A' := (va_up (va_up A1 0 (uf (A1 0) 0 x)) 1 (uf (cpN (L1 1) (fun _ => -1) (A1 1)) x 0))) (i := x) (x := 0) hx hb hk hW hS hM hF 1 (by decide) rfl (hPa 1 (by decide)) (by omega) (show x < L1 1 from by omega) (show L1 1 < 2147483648 from by omega) (by funext j9; by_cases q9 : j9 = 1 <;> simp [q9, va_up]) dX4_start_79 (fun h H locs hM hF hst hW hS => ?_)
        refine lv_aload_n hx hb dX4_start_80 rfl (lv_at hl 0 rfl) ?_
        refine lv_iconst (v := J (1)) hx hb dX4_start_81 rfl ?_
        refine o_put (I' := (va_up I 3 (1))) (ci := 4) (C := RX4) (T := TX4) (N := 4) (ty := .int) hx hb hfX4 (fun _ h9 => h9) tyX4 tyX4_ok nmX4 hown hk hW hS hM hF (Or.inl FP.o) rfl 3 (by decide) rfl (hts (.fieldLink RX4 21 "JugsAndGlasses$Tour" "reached" "I") (by decide +kernel)) rfl rfl (by decide +kernel) rfl rfl (bx_uu _ _ _ _) dX4_start_82 (fun h H locs hM hF hst hW hS => ?_)
        refine W.widen (k := tCel (L 1) cd) (n := tSlo (L 1) cd) (Nat.le_refl _) (Nat.le_refl _) ?_
        exact g_vret hx hb hr hW hS dX4_start_85 hlocks (⟨rfl, hF.weak, R1, L1, _, hM, ⟨hl0, hl1, hl2⟩, hR1, rfl, fun j j0 j1 => by show uf (cpN (L1 1) (fun _ => -1) (A1 1)) x 0 j = _; unfold uf; split; rfl; exact cpN_in j0 (by omega)⟩)
  refine lv_aload_n hx hb dX4_start_0 rfl (lv_at hl 0 rfl) ?_
  refine g_get (ci := 4) (C := RX4) (T := TX4) (N := 4) (v := .ref (R 1)) hx hb hfX4 (fun _ h9 => h9) hown hk hW hM.1 rfl 1 (by decide) (hts (.fieldLink RX4 15 "JugsAndGlasses$Tour" "level" "[I") (by decide +kernel)) rfl rfl dX4_start_1 ?_
  refine g_alen (n := L 1) hx hb hk hW (hM.ai 1 (by decide) rfl) (by omega) dX4_start_4 ?_
  refine lv_iload_n hx hb dX4_start_5 rfl (lv_at hl 1 rfl) ?_
  refine j_icmp_ge (x := L 1) (y := cd) (tgt := 40) hx hb ⟨by omega, by omega⟩ ⟨by omega, by omega⟩ dX4_start_6 (by decide) (fun c_6 => ?_) (fun c_6 => ?_)
  · refine W.widen (k := tCel (L 1) cd) (n := tSlo (L 1) cd) (by unfold tCel; split <;> omega) (by unfold tSlo; split <;> omega) ?_
    exact cut_40 R L A h0 s.heap [] ls (by refine ⟨?_, ?_, ?_⟩ <;> (unfold tLen; rw [if_neg (by omega)]) <;> omega) (fun _ _ => Or.inl rfl) hM hF hW hS (lv_sub hl [0, 1, 2] rfl)
  · refine lv_iload_n hx hb dX4_start_9 rfl (lv_at hl 1 rfl) ?_
    refine lv_aload_n hx hb dX4_start_10 rfl (lv_at hl 0 rfl) ?_
    refine g_get (ci := 4) (C := RX4) (T := TX4) (N := 4) (v := .ref (R 1)) hx hb hfX4 (fun _ h9 => h9) hown hk hW hM.1 rfl 1 (by decide) (hts (.fieldLink RX4 15 "JugsAndGlasses$Tour" "level" "[I") (by decide +kernel)) rfl rfl dX4_start_11 ?_
    refine g_alen (n := L 1) hx hb hk hW (hM.ai 1 (by decide) rfl) (by omega) dX4_start_14 ?_
    refine g_callSN (As := [.int (J cd), .int (J (L 1))]) (rest := []) ⟨hx, hb, hml, hown, hts⟩ (k_lengthFor l g base sa h0 cd (L 1) ⟨by omega, by omega⟩ ⟨by omega, by omega⟩) ⟨va_cnB (host := "JugsAndGlasses") 2 hts gX4_start_X5_lengthFor_n25 rfl rfl rfl (hk.2.2.2.2.2.2.2.2.2.2.2.1) (hts (.initialized RX5) (by decide +kernel)) (by decide +kernel) ⟨Nat.le_of_ble_eq_true rfl, Nat.le_of_ble_eq_true rfl⟩, hts (.static yX5_lengthFor) (by decide +kernel), trivial⟩ hk hW hS rfl hl.1 (Nat.le_of_ble_eq_true rfl) dX4_start_15 ⟨Nat.le_of_ble_eq_true rfl, Nat.le_of_ble_eq_true rfl⟩ (fun r9 h9 H locs hp hW hS => ?_)
    have e8 : min 14641 (max cd (2 * L 1)) = tLen (L 1) cd := by unfold tLen; rw [if_pos (by omega)]
    rw [e8] at hp
    obtain ⟨rfl, e9⟩ := hp
    rw [e9] at hW
    refine W.widen (k := 0) (n := 0) (Nat.le_refl _) (Nat.le_refl _) ?_
    refine W.eq (g2 := F0 m 18 ls [.int (J (tLen (L 1) cd))]) rfl ?_
    refine lv_istore_n (lv' := [(3, .int (J (tLen (L 1) cd))), (0, .ref o), (1, .int (J cd)), (2, .int (J x))]) hx hb dX4_start_18 rfl hl (by decide) rfl (fun ls hl => ?_)
    refine lv_aload_n hx hb dX4_start_19 rfl (lv_at hl 1 rfl) ?_
    refine lv_iload_n hx hb dX4_start_20 rfl (lv_at hl 0 rfl) ?_
    refine g_newi (n := tLen (L 1) cd) hx hb (hts (.arrayClass .int) (by decide +kernel)) hk hW hS (by omega) (by omega) (by show 0 + 1 ≤ tCel (L 1) cd; unfold tCel; rw [if_pos (by omega)]; omega) (by show 0 + (tLen (L 1) cd).toNat ≤ tSlo (L 1) cd; unfold tSlo; rw [if_pos (by omega)]; omega) dX4_start_21 (fun q21 H hq21 hW hS => ?_)
    have f_q21 : h0 q21 = none := hF.none hq21
    have nq21_hM : ∀ j, j < 4 → isA kd4 j → R j ≠ q21 := fun j a b e => by have w := hM.2.1 j a b; rw [e, hq21] at w; cases w
    have hM := hM.new (e := ai g (tLen (L 1) cd) (fun _ => 0)) hq21
    have hF := Fr.new (e := ai g (tLen (L 1) cd) (fun _ => 0)) hF hq21
    have cq21 : uh h0 q21 (ai g (tLen (L 1) cd) (fun _ => 0)) q21 = some (ai g (tLen (L 1) cd) (fun _ => 0)) := uh_same _ _ _
    generalize uh h0 q21 (ai g (tLen (L 1) cd) (fun _ => 0)) = h at hM hF hW cq21 
    refine g_put (ci := 4) (C := RX4) (T := TX4) (N := 4) (ty := .array .int) hx hb hfX4 (fun _ h9 => h9) tyX4 tyX4_ok nmX4 hown hk hW hS hM.1 rfl 0 (by decide) (hts (.fieldLink RX4 9 "JugsAndGlasses$Tour" "found" "[I") (by decide +kernel)) rfl rfl (by decide +kernel) rfl rfl (by rw [fls_len]; decide) dX4_start_23 (fun H locs hW hS => ?_)
    have hM := hM.putr (k := 0) (n := tLen (L 1) cd) (f := fun _ => 0) ⟨by decide, by decide⟩ cq21 (fun j a b _ => nq21_hM j a b) rfl rfl rfl
    have hF := Fr.set (e := .inr (4, (fls 4 kd4 R I).set 0 (.ref q21))) hF (Or.inl FP.o)
    generalize uh h o (.inr (4, (fls 4 kd4 R I).set 0 (.ref q21))) = h at hM hF hW
    refine lv_aload_n hx hb dX4_start_26 rfl (lv_at hl 1 rfl) ?_
    refine lv_iload_n hx hb dX4_start_27 rfl (lv_at hl 0 rfl) ?_
    refine g_newi (n := tLen (L 1) cd) hx hb (hts (.arrayClass .int) (by decide +kernel)) hk hW hS (by omega) (by omega) (by show 1 + 1 ≤ tCel (L 1) cd; unfold tCel; rw [if_pos (by omega)]; omega) (by show 0 + (tLen (L 1) cd).toNat + (tLen (L 1) cd).toNat ≤ tSlo (L 1) cd; unfold tSlo; rw [if_pos (by omega)]; omega) dX4_start_28 (fun q28 H hq28 hW hS => ?_)
    have f_q28 : h0 q28 = none := hF.none hq28
    have nq28_hM : ∀ j, j < 4 → isA kd4 j → (va_up R 0 (q21)) j ≠ q28 := fun j a b e => by have w := hM.2.1 j a b; rw [e, hq28] at w; cases w
    have hM := hM.new (e := ai g (tLen (L 1) cd) (fun _ => 0)) hq28
    have hF := Fr.new (e := ai g (tLen (L 1) cd) (fun _ => 0)) hF hq28
    have cq28 : uh h q28 (ai g (tLen (L 1) cd) (fun _ => 0)) q28 = some (ai g (tLen (L 1) cd) (fun _ => 0)) := uh_same _ _ _
    generalize uh h q28 (ai g (tLen (L 1) cd) (fun _ => 0)) = h at hM hF hW cq28 
    refine g_put (ci := 4) (C := RX4) (T := TX4) (N := 4) (ty := .array .int) hx hb hfX4 (fun _ h9 => h9) tyX4 tyX4_ok nmX4 hown hk hW hS hM.1 rfl 1 (by decide) (hts (.fieldLink RX4 15 "JugsAndGlasses$Tour" "level" "[I") (by decide +kernel)) rfl rfl (by decide +kernel) rfl rfl (by rw [fls_len]; decide) dX4_start_30 (fun H locs hW hS => ?_)
    have hM := hM.putr (k := 1) (n := tLen (L 1) cd) (f := fun _ => 0) ⟨by decide, by decide⟩ cq28 (fun j a b _ => nq28_hM j a b) rfl rfl rfl
    have hF := Fr.set (e := .inr (4, (fls 4 kd4 (va_up R 0 (q21)) I).set 1 (.ref q28))) hF (Or.inl FP.o)
    generalize uh h o (.inr (4, (fls 4 kd4 (va_up R 0 (q21)) I).set 1 (.ref q28))) = h at hM hF hW
    refine lv_aload_n hx hb dX4_start_33 rfl (lv_at hl 1 rfl) ?_
    refine lv_iload_n hx hb dX4_start_34 rfl (lv_at hl 0 rfl) ?_
    refine g_newi (n := tLen (L 1) cd) hx hb (hts (.arrayClass .int) (by decide +kernel)) hk hW hS (by omega) (by omega) (by show 2 + 1 ≤ tCel (L 1) cd; unfold tCel; rw [if_pos (by omega)]; omega) (by show 0 + (tLen (L 1) cd).toNat + (tLen (L 1) cd).toNat + (tLen (L 1) cd).toNat ≤ tSlo (L 1) cd; unfold tSlo; rw [if_pos (by omega)]; omega) dX4_start_35 (fun q35 H hq35 hW hS => ?_)
    have f_q35 : h0 q35 = none := hF.none hq35
    have nq35_hM : ∀ j, j < 4 → isA kd4 j → (va_up (va_up R 0 (q21)) 1 (q28)) j ≠ q35 := fun j a b e => by have w := hM.2.1 j a b; rw [e, hq35] at w; cases w
    have hM := hM.new (e := ai g (tLen (L 1) cd) (fun _ => 0)) hq35
    have hF := Fr.new (e := ai g (tLen (L 1) cd) (fun _ => 0)) hF hq35
    have cq35 : uh h q35 (ai g (tLen (L 1) cd) (fun _ => 0)) q35 = some (ai g (tLen (L 1) cd) (fun _ => 0)) := uh_same _ _ _
    generalize uh h q35 (ai g (tLen (L 1) cd) (fun _ => 0)) = h at hM hF hW cq35 
    refine g_put (ci := 4) (C := RX4) (T := TX4) (N := 4) (ty := .array .int) hx hb hfX4 (fun _ h9 => h9) tyX4 tyX4_ok nmX4 hown hk hW hS hM.1 rfl 2 (by decide) (hts (.fieldLink RX4 18 "JugsAndGlasses$Tour" "cause" "[I") (by decide +kernel)) rfl rfl (by decide +kernel) rfl rfl (by rw [fls_len]; decide) dX4_start_37 (fun H locs hW hS => ?_)
    have hM := hM.putr (k := 2) (n := tLen (L 1) cd) (f := fun _ => 0) ⟨by decide, by decide⟩ cq35 (fun j a b _ => nq35_hM j a b) rfl rfl rfl
    have hF := Fr.set (e := .inr (4, (fls 4 kd4 (va_up (va_up R 0 (q21)) 1 (q28)) I).set 2 (.ref q35))) hF (Or.inl FP.o)
    generalize uh h o (.inr (4, (fls 4 kd4 (va_up (va_up R 0 (q21)) 1 (q28)) I).set 2 (.ref q35))) = h at hM hF hW
    refine W.widen (k := tCel (L 1) cd) (n := tSlo (L 1) cd) (by unfold tCel; split <;> omega) (by unfold tSlo; split <;> omega) ?_
    exact cut_40 ((va_up (va_up (va_up R 0 (q21)) 1 (q28)) 2 (q35))) ((va_up (va_up (va_up L 0 (tLen (L 1) cd)) 1 (tLen (L 1) cd)) 2 (tLen (L 1) cd))) ((va_up (va_up (va_up A 0 (fun _ => 0)) 1 (fun _ => 0)) 2 (fun _ => 0))) h H locs ls (⟨rfl, rfl, rfl⟩) (fun k hk9 => Or.inr (by match k, hk9 with | 0, _ => exact f_q21 | 1, _ => exact f_q28 | 2, _ => exact f_q35)) hM hF hW hS (lv_sub hl [1, 2, 3] rfl)

set_option maxHeartbeats 4000000 in
set_option maxRecDepth 100000 in
theorem s_isLeast (l : Launch) (g : GX) (base : Nat) (sa : Nat → Nat) (h0 : Hp) (o : Nat) (R : Nat → Nat) (I : Nat → Int) (L : Nat → Int) (A : Nat → Int → Int) (x y u : Int) (hM : OB g 3 2 kd3 h0 o R I L A) (hL : 0 ≤ L 0 ∧ L 0 ≤ 14641) (hx9 : i32 x) (hy9 : i32 y) (hu9 : 0 ≤ u ∧ u ≤ 10) (hlr : ∀ j, 0 ≤ j → j < L 0 → 0 ≤ A 0 j ∧ A 0 j ≤ 1000000) : MC l g base sa yX3_isLeast wsX3_isLeast ({ frames := 0, cells := 0, slots := 0, locals := 0 }) ([.ref o, .int (J x), .int (J y), .int (J u)]) h0 (fun r h' => r = some (.int (J (if 0 ≤ x ∧ x < L 0 ∧ 0 ≤ y ∧ y < L 0 ∧ A 0 y = A 0 x + u then 1 else 0))) ∧ h' = h0) := by
  refine Met.ofW (cc := cX3_isLeast) (maxL := 4) (ret := (some .boolean)) (by decide) rfl ?_
  intro p e s m args below meth c s₁ B hml hv
  obtain ⟨rfl, hk, hW⟩ := hv
  have hx := B.exec
  have hb := B.bytes
  have hr := B.returns
  have hts := atoms_spec (ws := wsX3_isLeast) B.pre
  have hown : s.vm.findClass RX3 = some m.cls := findClass_of_methodNamed B.named
  have hlocks := B.notSynchronized
  have hfX3 : ∀ w ∈ wsX30, w.before ([.ref o, .int (J x), .int (J y), .int (J u)]).toArray s = true := fun w h => hts w (List.mem_cons_of_mem _ (List.mem_append_right _ h))
  have hS : va_S (Ab base) s.heap s.heap [] := va_S.rf
  have hl := lv_entry ([.ref o, .int (J x), .int (J y), .int (J u)]) (n := 4) (Nat.le_of_ble_eq_true rfl)
  rw [lg_entry_eq]
  generalize (lg_sl ([.ref o, .int (J x), .int (J y), .int (J u)]) ++ List.replicate (4 - (lg_sl ([.ref o, .int (J x), .int (J y), .int (J u)])).length) Slot.unset).toArray = ls at hl ⊢
  have hl : lv_has ls 4 [(0, .ref o), (1, .int (J x)), (2, .int (J y)), (3, .int (J u))] := hl
  obtain ⟨hx1, hx2⟩ := id hx9
  obtain ⟨hy1, hy2⟩ := id hy9
  refine lv_iload_n hx hb dX3_isLeast_0 rfl (lv_at hl 1 rfl) ?_
  refine j_if_lt (x := x) (tgt := 47) hx hb ⟨by omega, by omega⟩ dX3_isLeast_1 (by decide) (fun c_1 => ?_) (fun c_1 => ?_)
  · refine lv_iconst (v := J (0)) hx hb dX3_isLeast_47 rfl ?_
    exact g_zret hx hb hr (by omega) hW hS dX3_isLeast_48 hlocks (⟨congrArg (fun z : Int => some (Value.int (J z))) (show 0 = (if 0 ≤ x ∧ x < L 0 ∧ 0 ≤ y ∧ y < L 0 ∧ A 0 y = A 0 x + u then 1 else 0) from by first | rw [if_pos (by omega)] | rw [if_neg (by omega)]), rfl⟩)
  · refine lv_iload_n hx hb dX3_isLeast_4 rfl (lv_at hl 1 rfl) ?_
    refine lv_aload_n hx hb dX3_isLeast_5 rfl (lv_at hl 0 rfl) ?_
    refine g_get (ci := 3) (C := RX3) (T := TX3) (N := 2) (v := .ref (R 0)) hx hb hfX3 (fun _ h9 => h9) hown hk hW hM.1 rfl 0 (by decide) (hts (.fieldLink RX3 9 "JugsAndGlasses$Spilling" "least" "[I") (by decide +kernel)) rfl rfl dX3_isLeast_6 ?_
    refine g_alen (n := L 0) hx hb hk hW (hM.ai 0 (by decide) rfl) (by omega) dX3_isLeast_9 ?_
    refine j_icmp_ge (x := x) (y := L 0) (tgt := 47) hx hb ⟨by omega, by omega⟩ ⟨by omega, by omega⟩ dX3_isLeast_10 (by decide) (fun c_10 => ?_) (fun c_10 => ?_)
    · refine lv_iconst (v := J (0)) hx hb dX3_isLeast_47 rfl ?_
      exact g_zret hx hb hr (by omega) hW hS dX3_isLeast_48 hlocks (⟨congrArg (fun z : Int => some (Value.int (J z))) (show 0 = (if 0 ≤ x ∧ x < L 0 ∧ 0 ≤ y ∧ y < L 0 ∧ A 0 y = A 0 x + u then 1 else 0) from by first | rw [if_pos (by omega)] | rw [if_neg (by omega)]), rfl⟩)
    · refine lv_iload_n hx hb dX3_isLeast_13 rfl (lv_at hl 2 rfl) ?_
      refine j_if_lt (x := y) (tgt := 47) hx hb ⟨by omega, by omega⟩ dX3_isLeast_14 (by decide) (fun c_14 => ?_) (fun c_14 => ?_)
      · refine lv_iconst (v := J (0)) hx hb dX3_isLeast_47 rfl ?_
        exact g_zret hx hb hr (by omega) hW hS dX3_isLeast_48 hlocks (⟨congrArg (fun z : Int => some (Value.int (J z))) (show 0 = (if 0 ≤ x ∧ x < L 0 ∧ 0 ≤ y ∧ y < L 0 ∧ A 0 y = A 0 x + u then 1 else 0) from by first | rw [if_pos (by omega)] | rw [if_neg (by omega)]), rfl⟩)
      · refine lv_iload_n hx hb dX3_isLeast_17 rfl (lv_at hl 2 rfl) ?_
        refine lv_aload_n hx hb dX3_isLeast_18 rfl (lv_at hl 0 rfl) ?_
        refine g_get (ci := 3) (C := RX3) (T := TX3) (N := 2) (v := .ref (R 0)) hx hb hfX3 (fun _ h9 => h9) hown hk hW hM.1 rfl 0 (by decide) (hts (.fieldLink RX3 9 "JugsAndGlasses$Spilling" "least" "[I") (by decide +kernel)) rfl rfl dX3_isLeast_19 ?_
        refine g_alen (n := L 0) hx hb hk hW (hM.ai 0 (by decide) rfl) (by omega) dX3_isLeast_22 ?_
        refine j_icmp_ge (x := y) (y := L 0) (tgt := 47) hx hb ⟨by omega, by omega⟩ ⟨by omega, by omega⟩ dX3_isLeast_23 (by decide) (fun c_23 => ?_) (fun c_23 => ?_)
        · refine lv_iconst (v := J (0)) hx hb dX3_isLeast_47 rfl ?_
          exact g_zret hx hb hr (by omega) hW hS dX3_isLeast_48 hlocks (⟨congrArg (fun z : Int => some (Value.int (J z))) (show 0 = (if 0 ≤ x ∧ x < L 0 ∧ 0 ≤ y ∧ y < L 0 ∧ A 0 y = A 0 x + u then 1 else 0) from by first | rw [if_pos (by omega)] | rw [if_neg (by omega)]), rfl⟩)
        · have hl1 := hlr x (by omega) (by omega)
          have hl2 := hlr y (by omega) (by omega)
          refine lv_aload_n hx hb dX3_isLeast_26 rfl (lv_at hl 0 rfl) ?_
          refine g_get (ci := 3) (C := RX3) (T := TX3) (N := 2) (v := .ref (R 0)) hx hb hfX3 (fun _ h9 => h9) hown hk hW hM.1 rfl 0 (by decide) (hts (.fieldLink RX3 9 "JugsAndGlasses$Spilling" "least" "[I") (by decide +kernel)) rfl rfl dX3_isLeast_27 ?_
          refine lv_iload_n hx hb dX3_isLeast_30 rfl (lv_at hl 2 rfl) ?_
          refine g_iald (n := L 0) (f := A 0) (i := y) hx hb hk hW (hM.ai 0 (by decide) rfl) (by omega) (by omega) (by omega) dX3_isLeast_31 ?_
          refine lv_aload_n hx hb dX3_isLeast_32 rfl (lv_at hl 0 rfl) ?_
          refine g_get (ci := 3) (C := RX3) (T := TX3) (N := 2) (v := .ref (R 0)) hx hb hfX3 (fun _ h9 => h9) hown hk hW hM.1 rfl 0 (by decide) (hts (.fieldLink RX3 9 "JugsAndGlasses$Spilling" "least" "[I") (by decide +kernel)) rfl rfl dX3_isLeast_33 ?_
          refine lv_iload_n hx hb dX3_isLeast_36 rfl (lv_at hl 1 rfl) ?_
          refine g_iald (n := L 0) (f := A 0) (i := x) hx hb hk hW (hM.ai 0 (by decide) rfl) (by omega) (by omega) (by omega) dX3_isLeast_37 ?_
          refine lv_iload_n hx hb dX3_isLeast_38 rfl (lv_at hl 3 rfl) ?_
          refine j_iadd hx hb dX3_isLeast_39 ?_
          refine j_icmp_ne (x := A 0 y) (y := (A 0 x) + u) (tgt := 47) hx hb ⟨by omega, by omega⟩ ⟨by omega, by omega⟩ dX3_isLeast_40 (by decide) (fun c_40 => ?_) (fun c_40 => ?_)
          · refine lv_iconst (v := J (0)) hx hb dX3_isLeast_47 rfl ?_
            exact g_zret hx hb hr (by omega) hW hS dX3_isLeast_48 hlocks (⟨congrArg (fun z : Int => some (Value.int (J z))) (show 0 = (if 0 ≤ x ∧ x < L 0 ∧ 0 ≤ y ∧ y < L 0 ∧ A 0 y = A 0 x + u then 1 else 0) from by first | rw [if_pos (by omega)] | rw [if_neg (by omega)]), rfl⟩)
          · refine lv_iconst (v := J (1)) hx hb dX3_isLeast_43 rfl ?_
            refine lv_goto (tgt := 48) hx hb dX3_isLeast_44 (by decide) ?_
            exact g_zret hx hb hr (by omega) hW hS dX3_isLeast_48 hlocks (⟨congrArg (fun z : Int => some (Value.int (J z))) (show 1 = (if 0 ≤ x ∧ x < L 0 ∧ 0 ≤ y ∧ y < L 0 ∧ A 0 y = A 0 x + u then 1 else 0) from by first | rw [if_pos (by omega)] | rw [if_neg (by omega)]), rfl⟩)

set_option maxHeartbeats 4000000 in
set_option maxRecDepth 100000 in
theorem s_leastFor (l : Launch) (g : GX) (base : Nat) (sa : Nat → Nat) (h0 : Hp) (o : Nat) (R : Nat → Nat) (I : Nat → Int) (L : Nat → Int) (A : Nat → Int → Int) (x : Int) (hM : OB g 3 2 kd3 h0 o R I L A) (hL : 0 ≤ L 0 ∧ L 0 ≤ 14641) (hx9 : i32 x) : MC l g base sa yX3_leastFor wsX3_leastFor ({ frames := 0, cells := 0, slots := 0, locals := 0 }) ([.ref o, .int (J x)]) h0 (fun r h' => r = some (.int (J (if 0 ≤ x ∧ x < L 0 then A 0 x else -1))) ∧ h' = h0) := by
  refine Met.ofW (cc := cX3_leastFor) (maxL := 2) (ret := (some .int)) (by decide) rfl ?_
  intro p e s m args below meth c s₁ B hml hv
  obtain ⟨rfl, hk, hW⟩ := hv
  have hx := B.exec
  have hb := B.bytes
  have hr := B.returns
  have hts := atoms_spec (ws := wsX3_leastFor) B.pre
  have hown : s.vm.findClass RX3 = some m.cls := findClass_of_methodNamed B.named
  have hlocks := B.notSynchronized
  have hfX3 : ∀ w ∈ wsX30, w.before ([.ref o, .int (J x)]).toArray s = true := fun w h => hts w (List.mem_cons_of_mem _ (List.mem_append_right _ h))
  have hS : va_S (Ab base) s.heap s.heap [] := va_S.rf
  have hl := lv_entry ([.ref o, .int (J x)]) (n := 2) (Nat.le_of_ble_eq_true rfl)
  rw [lg_entry_eq]
  generalize (lg_sl ([.ref o, .int (J x)]) ++ List.replicate (2 - (lg_sl ([.ref o, .int (J x)])).length) Slot.unset).toArray = ls at hl ⊢
  have hl : lv_has ls 2 [(0, .ref o), (1, .int (J x))] := hl
  obtain ⟨hx1, hx2⟩ := id hx9
  refine lv_iload_n hx hb dX3_leastFor_0 rfl (lv_at hl 1 rfl) ?_
  refine j_if_lt (x := x) (tgt := 22) hx hb ⟨by omega, by omega⟩ dX3_leastFor_1 (by decide) (fun c_1 => ?_) (fun c_1 => ?_)
  · refine lv_iconst (v := J (-1)) hx hb dX3_leastFor_22 rfl ?_
    exact g_iret hx hb hr hW hS dX3_leastFor_23 hlocks (⟨congrArg (fun z : Int => some (Value.int (J z))) (show (-1) = (if 0 ≤ x ∧ x < L 0 then A 0 x else -1) from by first | rw [if_pos (by omega)] | rw [if_neg (by omega)]), rfl⟩)
  · refine lv_iload_n hx hb dX3_leastFor_4 rfl (lv_at hl 1 rfl) ?_
    refine lv_aload_n hx hb dX3_leastFor_5 rfl (lv_at hl 0 rfl) ?_
    refine g_get (ci := 3) (C := RX3) (T := TX3) (N := 2) (v := .ref (R 0)) hx hb hfX3 (fun _ h9 => h9) hown hk hW hM.1 rfl 0 (by decide) (hts (.fieldLink RX3 9 "JugsAndGlasses$Spilling" "least" "[I") (by decide +kernel)) rfl rfl dX3_leastFor_6 ?_
    refine g_alen (n := L 0) hx hb hk hW (hM.ai 0 (by decide) rfl) (by omega) dX3_leastFor_9 ?_
    refine j_icmp_ge (x := x) (y := L 0) (tgt := 22) hx hb ⟨by omega, by omega⟩ ⟨by omega, by omega⟩ dX3_leastFor_10 (by decide) (fun c_10 => ?_) (fun c_10 => ?_)
    · refine lv_iconst (v := J (-1)) hx hb dX3_leastFor_22 rfl ?_
      exact g_iret hx hb hr hW hS dX3_leastFor_23 hlocks (⟨congrArg (fun z : Int => some (Value.int (J z))) (show (-1) = (if 0 ≤ x ∧ x < L 0 then A 0 x else -1) from by first | rw [if_pos (by omega)] | rw [if_neg (by omega)]), rfl⟩)
    · refine lv_aload_n hx hb dX3_leastFor_13 rfl (lv_at hl 0 rfl) ?_
      refine g_get (ci := 3) (C := RX3) (T := TX3) (N := 2) (v := .ref (R 0)) hx hb hfX3 (fun _ h9 => h9) hown hk hW hM.1 rfl 0 (by decide) (hts (.fieldLink RX3 9 "JugsAndGlasses$Spilling" "least" "[I") (by decide +kernel)) rfl rfl dX3_leastFor_14 ?_
      refine lv_iload_n hx hb dX3_leastFor_17 rfl (lv_at hl 1 rfl) ?_
      refine g_iald (n := L 0) (f := A 0) (i := x) hx hb hk hW (hM.ai 0 (by decide) rfl) (by omega) (by omega) (by omega) dX3_leastFor_18 ?_
      refine lv_goto (tgt := 23) hx hb dX3_leastFor_19 (by decide) ?_
      exact g_iret hx hb hr hW hS dX3_leastFor_23 hlocks (⟨congrArg (fun z : Int => some (Value.int (J z))) (show A 0 x = (if 0 ≤ x ∧ x < L 0 then A 0 x else -1) from by first | rw [if_pos (by omega)] | rw [if_neg (by omega)]), rfl⟩)
