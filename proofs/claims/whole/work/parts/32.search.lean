set_option maxHeartbeats 4000000 in
set_option maxRecDepth 100000 in
theorem k_liken (l : Launch) (g : GX) (base : Nat) (sa : Nat → Nat) (h0 : Hp) (o : Nat) (R : Nat → Nat) (I : Nat → Int) (A : Nat → Int → Int) (o2 : Nat) (R2 : Nat → Nat) (I2 : Nat → Int) (A2 : Nat → Int → Int) (hM : OB g 1 7 kd1 h0 o R I L4 A) (hN : OB g 1 7 kd1 h0 o2 R2 I2 L4 A2) (hap : ∀ q, FP 7 kd1 o R q → ¬ FP 7 kd1 o2 R2 q) (ht2 : I2 2 = 0 ∨ I2 2 = 1) (ht3 : I2 3 = 0 ∨ I2 3 = 1) : MC l g base sa yX1_liken wsX1_liken ({ frames := 0, cells := 0, slots := 0, locals := 0 }) ([.ref o, .ref o2]) h0 (fun r h' => r = none ∧ OB g 1 7 kd1 h' o R (va_up (va_up (va_up (va_up I 0 (I2 0)) 1 (I2 1)) 2 (I2 2)) 3 (I2 3)) L4 (va_up (va_up (va_up A 4 (cpN 4 (A2 4) (A 4))) 5 (cpN 4 (A2 5) (A 5))) 6 (cpN 4 (A2 6) (A 6))) ∧ Fr (FP 7 kd1 o R) h0 h') := by
  refine Met.ofW (cc := cX1_liken) (maxL := 3) (ret := none) (by decide) rfl ?_
  intro p e s m args below meth c s₁ B hml hv
  obtain ⟨rfl, hk, hW⟩ := hv
  have hx := B.exec
  have hb := B.bytes
  have hr := B.returns
  have hts := atoms_spec (ws := wsX1_liken) B.pre
  have hown : s.vm.findClass RX1 = some m.cls := findClass_of_methodNamed B.named
  have hlocks := B.notSynchronized
  have hfX1 : ∀ w ∈ wsX10, w.before ([.ref o, .ref o2]).toArray s = true := fun w h => hts w (List.mem_cons_of_mem _ (List.mem_append_right _ h))
  have hS : va_S (Ab base) s.heap s.heap [] := va_S.rf
  have hl := lv_entry ([.ref o, .ref o2]) (n := 3) (Nat.le_of_ble_eq_true rfl)
  rw [lg_entry_eq]
  generalize (lg_sl ([.ref o, .ref o2]) ++ List.replicate (3 - (lg_sl ([.ref o, .ref o2])).length) Slot.unset).toArray = ls at hl ⊢
  have hl : lv_has ls 3 [(0, .ref o), (1, .ref o2)] := hl
  have hF : Fr (FP 7 kd1 o R) h0 h0 := Fr.rf
  refine lv_aload_n hx hb dX1_liken_0 rfl (lv_at hl 0 rfl) ?_
  refine lv_aload_n hx hb dX1_liken_1 rfl (lv_at hl 1 rfl) ?_
  refine g_get (ci := 1) (C := RX1) (T := TX1) (N := 7) (v := .int (J (I2 0))) hx hb hfX1 (fun _ h9 => h9) hown hk hW hN.1 rfl 0 (by decide) (hts (.fieldLink RX1 9 "JugsAndGlasses$Jugs" "number" "I") (by decide +kernel)) rfl rfl dX1_liken_2 ?_
  refine o_put (I' := (va_up I 0 (I2 0))) (ci := 1) (C := RX1) (T := TX1) (N := 7) (ty := .int) hx hb hfX1 (fun _ h9 => h9) tyX1 tyX1_ok nmX1 hown hk hW hS hM hF FP.o rfl 0 (by decide) rfl (hts (.fieldLink RX1 9 "JugsAndGlasses$Jugs" "number" "I") (by decide +kernel)) rfl rfl (by decide +kernel) rfl rfl rfl dX1_liken_5 (fun h H locs hM hF hst hW hS => ?_)
  have hN := hN.fr hst (fun q h1 h2 => (fun q a b => hap q b a) q h1 (by rw [h2]; exact FP.o))
  refine lv_aload_n hx hb dX1_liken_8 rfl (lv_at hl 0 rfl) ?_
  refine lv_aload_n hx hb dX1_liken_9 rfl (lv_at hl 1 rfl) ?_
  refine g_get (ci := 1) (C := RX1) (T := TX1) (N := 7) (v := .int (J (I2 1))) hx hb hfX1 (fun _ h9 => h9) hown hk hW hN.1 rfl 1 (by decide) (hts (.fieldLink RX1 15 "JugsAndGlasses$Jugs" "codes" "I") (by decide +kernel)) rfl rfl dX1_liken_10 ?_
  refine o_put (I' := (va_up (va_up I 0 (I2 0)) 1 (I2 1))) (ci := 1) (C := RX1) (T := TX1) (N := 7) (ty := .int) hx hb hfX1 (fun _ h9 => h9) tyX1 tyX1_ok nmX1 hown hk hW hS hM hF FP.o rfl 1 (by decide) rfl (hts (.fieldLink RX1 15 "JugsAndGlasses$Jugs" "codes" "I") (by decide +kernel)) rfl rfl (by decide +kernel) rfl rfl rfl dX1_liken_13 (fun h H locs hM hF hst hW hS => ?_)
  have hN := hN.fr hst (fun q h1 h2 => (fun q a b => hap q b a) q h1 (by rw [h2]; exact FP.o))
  refine lv_aload_n hx hb dX1_liken_16 rfl (lv_at hl 0 rfl) ?_
  refine lv_aload_n hx hb dX1_liken_17 rfl (lv_at hl 1 rfl) ?_
  refine g_get (ci := 1) (C := RX1) (T := TX1) (N := 7) (v := .int (J (I2 2))) hx hb hfX1 (fun _ h9 => h9) hown hk hW hN.1 rfl 2 (by decide) (hts (.fieldLink RX1 18 "JugsAndGlasses$Jugs" "tap" "Z") (by decide +kernel)) rfl rfl dX1_liken_18 ?_
  refine o_put (I' := (va_up (va_up (va_up I 0 (I2 0)) 1 (I2 1)) 2 (I2 2))) (ci := 1) (C := RX1) (T := TX1) (N := 7) (ty := .boolean) hx hb hfX1 (fun _ h9 => h9) tyX1 tyX1_ok nmX1 hown hk hW hS hM hF FP.o rfl 2 (by decide) rfl (hts (.fieldLink RX1 18 "JugsAndGlasses$Jugs" "tap" "Z") (by decide +kernel)) rfl rfl (by decide +kernel) (nb_n (ht2)) (nb_f (ht2)) rfl dX1_liken_21 (fun h H locs hM hF hst hW hS => ?_)
  have hN := hN.fr hst (fun q h1 h2 => (fun q a b => hap q b a) q h1 (by rw [h2]; exact FP.o))
  refine lv_aload_n hx hb dX1_liken_24 rfl (lv_at hl 0 rfl) ?_
  refine lv_aload_n hx hb dX1_liken_25 rfl (lv_at hl 1 rfl) ?_
  refine g_get (ci := 1) (C := RX1) (T := TX1) (N := 7) (v := .int (J (I2 3))) hx hb hfX1 (fun _ h9 => h9) hown hk hW hN.1 rfl 3 (by decide) (hts (.fieldLink RX1 22 "JugsAndGlasses$Jugs" "drain" "Z") (by decide +kernel)) rfl rfl dX1_liken_26 ?_
  refine o_put (I' := (va_up (va_up (va_up (va_up I 0 (I2 0)) 1 (I2 1)) 2 (I2 2)) 3 (I2 3))) (ci := 1) (C := RX1) (T := TX1) (N := 7) (ty := .boolean) hx hb hfX1 (fun _ h9 => h9) tyX1 tyX1_ok nmX1 hown hk hW hS hM hF FP.o rfl 3 (by decide) rfl (hts (.fieldLink RX1 22 "JugsAndGlasses$Jugs" "drain" "Z") (by decide +kernel)) rfl rfl (by decide +kernel) (nb_n (ht3)) (nb_f (ht3)) rfl dX1_liken_29 (fun h H locs hM hF hst hW hS => ?_)
  have hN := hN.fr hst (fun q h1 h2 => (fun q a b => hap q b a) q h1 (by rw [h2]; exact FP.o))
  refine lv_iconst (v := J (0)) hx hb dX1_liken_32 rfl ?_
  refine lv_istore_n (lv' := [(2, .int (J 0)), (0, .ref o), (1, .ref o2)]) hx hb dX1_liken_33 rfl hl (by decide) rfl (fun ls hl => ?_)
  have loop_34 : ∀ (n9 : Nat) (i : Int) (f4 : Int → Int) (f5 : Int → Int) (f6 : Int → Int) (h : Hp) (H : Heap) (locs : List Loc) (ls : Array Slot), 4 - i < (n9 : Int) → (0 ≤ i ∧ i ≤ 4) → (f4 = cpN i (A2 4) (A 4)) → (f5 = cpN i (A2 5) (A 5)) → (f6 = cpN i (A2 6) (A 6)) → (OB g 1 7 kd1 h o R (va_up (va_up (va_up (va_up I 0 (I2 0)) 1 (I2 1)) 2 (I2 2)) 3 (I2 3)) L4 (va_up (va_up (va_up A 4 (f4)) 5 (f5)) 6 (f6))) → (OB g 1 7 kd1 h o2 R2 I2 L4 A2) → (Fr (FP 7 kd1 o R) h0 h) → (Wd g base h H) → (va_S (Ab base) s.heap H locs) → (lv_has ls 3 [(0, .ref o), (1, .ref o2), (2, .int (J i))]) → W p l e (headSpec wsX1_liken ({ frames := 0, cells := 0, slots := 0, locals := 0 })).room s m ([.ref o, .ref o2]).toArray below meth c H locs 0 0 (MQ below (QcM g base (fun r h' => r = none ∧ OB g 1 7 kd1 h' o R (va_up (va_up (va_up (va_up I 0 (I2 0)) 1 (I2 1)) 2 (I2 2)) 3 (I2 3)) L4 (va_up (va_up (va_up A 4 (cpN 4 (A2 4) (A 4))) 5 (cpN 4 (A2 5) (A 5))) 6 (cpN 4 (A2 6) (A 6))) ∧ Fr (FP 7 kd1 o R) h0 h')) ([.ref o, .ref o2]).toArray s (0) (0) (Ab base)) (F0 m 34 ls []) := by
    intro n9
    induction n9 with
    | zero =>
      intro i f4 f5 f6 h H locs ls hmu hi e4 e5 e6 hM hN hF hW hS hl
      exact absurd hmu (by omega)
    | succ n9 ih =>
      intro i f4 f5 f6 h H locs ls hmu hi e4 e5 e6 hM hN hF hW hS hl
      have ih_34 := ih
      refine lv_iload_n hx hb dX1_liken_34 rfl (lv_at hl 2 rfl) ?_
      refine lv_iconst (v := J (4)) hx hb dX1_liken_35 rfl ?_
      refine j_icmp_ge (x := i) (y := 4) (tgt := 81) hx hb ⟨by omega, by omega⟩ ⟨by decide, by decide⟩ dX1_liken_36 (by decide) (fun c_36 => ?_) (fun c_36 => ?_)
      · exact g_vret hx hb hr hW hS dX1_liken_81 hlocks (⟨rfl, by have e9 : i = 4 := (by omega); rw [e9] at e4 e5 e6; rw [← e4, ← e5, ← e6]; exact hM, hF⟩)
      · refine lv_aload_n hx hb dX1_liken_39 rfl (lv_at hl 0 rfl) ?_
        refine g_get (ci := 1) (C := RX1) (T := TX1) (N := 7) (v := .ref (R 4)) hx hb hfX1 (fun _ h9 => h9) hown hk hW hM.1 rfl 4 (by decide) (hts (.fieldLink RX1 25 "JugsAndGlasses$Jugs" "size" "[I") (by decide +kernel)) rfl rfl dX1_liken_40 ?_
        refine lv_iload_n hx hb dX1_liken_43 rfl (lv_at hl 2 rfl) ?_
        refine lv_aload_n hx hb dX1_liken_44 rfl (lv_at hl 1 rfl) ?_
        refine g_get (ci := 1) (C := RX1) (T := TX1) (N := 7) (v := .ref (R2 4)) hx hb hfX1 (fun _ h9 => h9) hown hk hW hN.1 rfl 4 (by decide) (hts (.fieldLink RX1 25 "JugsAndGlasses$Jugs" "size" "[I") (by decide +kernel)) rfl rfl dX1_liken_45 ?_
        refine lv_iload_n hx hb dX1_liken_48 rfl (lv_at hl 2 rfl) ?_
        refine g_iald (n := 4) (f := A2 4) (i := i) hx hb hk hW (hN.ai 4 (by decide) rfl) (by omega) (by omega) (by omega) dX1_liken_49 ?_
        refine o_iast (A' := (va_up (va_up (va_up A 5 (f5)) 6 (f6)) 4 (uf f4 i (A2 4 i)))) (i := i) (x := A2 4 i) hx hb hk hW hS hM hF 4 (by decide) rfl (FP.a 4 (by decide) ⟨by decide, by decide⟩) (by omega) (show i < 4 from by omega) (show 4 < 2147483648 from by omega) (by funext j9; by_cases q9 : j9 = 4 <;> simp [q9, va_up]) dX1_liken_50 (fun h H locs hM hF hst hW hS => ?_)
        have hN := hN.fr hst (fun q h1 h2 => (fun q a b => hap q b a) q h1 (by rw [h2]; exact FP.a 4 (by decide) ⟨by decide, by decide⟩))
        refine lv_aload_n hx hb dX1_liken_51 rfl (lv_at hl 0 rfl) ?_
        refine g_get (ci := 1) (C := RX1) (T := TX1) (N := 7) (v := .ref (R 5)) hx hb hfX1 (fun _ h9 => h9) hown hk hW hM.1 rfl 5 (by decide) (hts (.fieldLink RX1 29 "JugsAndGlasses$Jugs" "held" "[I") (by decide +kernel)) rfl rfl dX1_liken_52 ?_
        refine lv_iload_n hx hb dX1_liken_55 rfl (lv_at hl 2 rfl) ?_
        refine lv_aload_n hx hb dX1_liken_56 rfl (lv_at hl 1 rfl) ?_
        refine g_get (ci := 1) (C := RX1) (T := TX1) (N := 7) (v := .ref (R2 5)) hx hb hfX1 (fun _ h9 => h9) hown hk hW hN.1 rfl 5 (by decide) (hts (.fieldLink RX1 29 "JugsAndGlasses$Jugs" "held" "[I") (by decide +kernel)) rfl rfl dX1_liken_57 ?_
        refine lv_iload_n hx hb dX1_liken_60 rfl (lv_at hl 2 rfl) ?_
        refine g_iald (n := 4) (f := A2 5) (i := i) hx hb hk hW (hN.ai 5 (by decide) rfl) (by omega) (by omega) (by omega) dX1_liken_61 ?_
        refine o_iast (A' := (va_up (va_up (va_up A 6 (f6)) 4 (uf f4 i (A2 4 i))) 5 (uf f5 i (A2 5 i)))) (i := i) (x := A2 5 i) hx hb hk hW hS hM hF 5 (by decide) rfl (FP.a 5 (by decide) ⟨by decide, by decide⟩) (by omega) (show i < 4 from by omega) (show 4 < 2147483648 from by omega) (by funext j9; by_cases q9 : j9 = 5 <;> simp [q9, va_up]) dX1_liken_62 (fun h H locs hM hF hst hW hS => ?_)
        have hN := hN.fr hst (fun q h1 h2 => (fun q a b => hap q b a) q h1 (by rw [h2]; exact FP.a 5 (by decide) ⟨by decide, by decide⟩))
        refine lv_aload_n hx hb dX1_liken_63 rfl (lv_at hl 0 rfl) ?_
        refine g_get (ci := 1) (C := RX1) (T := TX1) (N := 7) (v := .ref (R 6)) hx hb hfX1 (fun _ h9 => h9) hown hk hW hM.1 rfl 6 (by decide) (hts (.fieldLink RX1 32 "JugsAndGlasses$Jugs" "weight" "[I") (by decide +kernel)) rfl rfl dX1_liken_64 ?_
        refine lv_iload_n hx hb dX1_liken_67 rfl (lv_at hl 2 rfl) ?_
        refine lv_aload_n hx hb dX1_liken_68 rfl (lv_at hl 1 rfl) ?_
        refine g_get (ci := 1) (C := RX1) (T := TX1) (N := 7) (v := .ref (R2 6)) hx hb hfX1 (fun _ h9 => h9) hown hk hW hN.1 rfl 6 (by decide) (hts (.fieldLink RX1 32 "JugsAndGlasses$Jugs" "weight" "[I") (by decide +kernel)) rfl rfl dX1_liken_69 ?_
        refine lv_iload_n hx hb dX1_liken_72 rfl (lv_at hl 2 rfl) ?_
        refine g_iald (n := 4) (f := A2 6) (i := i) hx hb hk hW (hN.ai 6 (by decide) rfl) (by omega) (by omega) (by omega) dX1_liken_73 ?_
        refine o_iast (A' := (va_up (va_up (va_up A 4 (uf f4 i (A2 4 i))) 5 (uf f5 i (A2 5 i))) 6 (uf f6 i (A2 6 i)))) (i := i) (x := A2 6 i) hx hb hk hW hS hM hF 6 (by decide) rfl (FP.a 6 (by decide) ⟨by decide, by decide⟩) (by omega) (show i < 4 from by omega) (show 4 < 2147483648 from by omega) (by funext j9; by_cases q9 : j9 = 6 <;> simp [q9, va_up]) dX1_liken_74 (fun h H locs hM hF hst hW hS => ?_)
        have hN := hN.fr hst (fun q h1 h2 => (fun q a b => hap q b a) q h1 (by rw [h2]; exact FP.a 6 (by decide) ⟨by decide, by decide⟩))
        refine lv_iinc (v := J (i + 1)) (lv' := [(2, .int (J (i + 1))), (0, .ref o), (1, .ref o2)]) hx hb dX1_liken_75 hl (k := 2) rfl (J_inc (by omega)) (by decide) rfl (fun ls hl => ?_)
        refine lv_goto (tgt := 34) hx hb dX1_liken_78 (by decide) ?_
        exact ih_34 (i + 1) (uf f4 i (A2 4 i)) (uf f5 i (A2 5 i)) (uf f6 i (A2 6 i)) h H locs ls (by omega) (by omega) (by rw [e4, cpN_s _ _ hi.1]) (by rw [e5, cpN_s _ _ hi.1]) (by rw [e6, cpN_s _ _ hi.1]) hM hN hF hW hS (lv_sub hl [1, 2, 0] rfl)
  exact loop_34 5 0 (A 4) (A 5) (A 6) h H locs ls (by omega) (by omega) ((cpN_0 _ _).symm) ((cpN_0 _ _).symm) ((cpN_0 _ _).symm) (by rw [va_up_id, va_up_id, va_up_id]; exact hM) hN hF hW hS (lv_sub hl [1, 2, 0] rfl)

set_option maxHeartbeats 4000000 in
set_option maxRecDepth 100000 in
theorem e_forget (l : Launch) (g : GX) (base : Nat) (sa : Nat → Nat) (h0 : Hp) (o : Nat) (R : Nat → Nat) (I : Nat → Int) (L : Nat → Int) (A : Nat → Int → Int) (hM : OB g 2 9 kd2 h0 o R I L A) : MC l g base sa yX2_forget wsX2_forget ({ frames := 0, cells := 0, slots := 0, locals := 0 }) ([.ref o]) h0 (fun r h' => r = none ∧ OB g 2 9 kd2 h' o R (va_up (va_up (va_up I 6 0) 7 0) 8 0) L A ∧ Fr (FP 9 kd2 o R) h0 h') := by
  refine Met.ofW (cc := cX2_forget) (maxL := 1) (ret := none) (by decide) rfl ?_
  intro p e s m args below meth c s₁ B hml hv
  obtain ⟨rfl, hk, hW⟩ := hv
  have hx := B.exec
  have hb := B.bytes
  have hr := B.returns
  have hts := atoms_spec (ws := wsX2_forget) B.pre
  have hown : s.vm.findClass RX2 = some m.cls := findClass_of_methodNamed B.named
  have hlocks := B.notSynchronized
  have hfX2 : ∀ w ∈ wsX20, w.before ([.ref o]).toArray s = true := fun w h => hts w (List.mem_cons_of_mem _ (List.mem_append_right _ h))
  have hS : va_S (Ab base) s.heap s.heap [] := va_S.rf
  have hl := lv_entry ([.ref o]) (n := 1) (Nat.le_of_ble_eq_true rfl)
  rw [lg_entry_eq]
  generalize (lg_sl ([.ref o]) ++ List.replicate (1 - (lg_sl ([.ref o])).length) Slot.unset).toArray = ls at hl ⊢
  have hl : lv_has ls 1 [(0, .ref o)] := hl
  have hF : Fr (FP 9 kd2 o R) h0 h0 := Fr.rf
  refine lv_aload_n hx hb dX2_forget_0 rfl (lv_at hl 0 rfl) ?_
  refine lv_iconst (v := J (0)) hx hb dX2_forget_1 rfl ?_
  refine o_put (I' := (va_up I 6 (0))) (ci := 2) (C := RX2) (T := TX2) (N := 9) (ty := .boolean) hx hb hfX2 (fun _ h9 => h9) tyX2 tyX2_ok nmX2 hown hk hW hS hM hF FP.o rfl 6 (by decide) rfl (hts (.fieldLink RX2 42 "JugsAndGlasses$Search" "explored" "Z") (by decide +kernel)) rfl rfl (by decide +kernel) (nb_n (Or.inl rfl)) (nb_f (Or.inl rfl)) rfl dX2_forget_2 (fun h H locs hM hF hst hW hS => ?_)
  refine lv_aload_n hx hb dX2_forget_5 rfl (lv_at hl 0 rfl) ?_
  refine lv_iconst (v := J (0)) hx hb dX2_forget_6 rfl ?_
  refine o_put (I' := (va_up (va_up I 6 (0)) 7 (0))) (ci := 2) (C := RX2) (T := TX2) (N := 9) (ty := .boolean) hx hb hfX2 (fun _ h9 => h9) tyX2 tyX2_ok nmX2 hown hk hW hS hM hF FP.o rfl 7 (by decide) rfl (hts (.fieldLink RX2 46 "JugsAndGlasses$Search" "counted" "Z") (by decide +kernel)) rfl rfl (by decide +kernel) (nb_n (Or.inl rfl)) (nb_f (Or.inl rfl)) rfl dX2_forget_7 (fun h H locs hM hF hst hW hS => ?_)
  refine lv_aload_n hx hb dX2_forget_10 rfl (lv_at hl 0 rfl) ?_
  refine lv_iconst (v := J (0)) hx hb dX2_forget_11 rfl ?_
  refine o_put (I' := (va_up (va_up (va_up I 6 (0)) 7 (0)) 8 (0))) (ci := 2) (C := RX2) (T := TX2) (N := 9) (ty := .boolean) hx hb hfX2 (fun _ h9 => h9) tyX2 tyX2_ok nmX2 hown hk hW hS hM hF FP.o rfl 8 (by decide) rfl (hts (.fieldLink RX2 49 "JugsAndGlasses$Search" "exploredSparing" "Z") (by decide +kernel)) rfl rfl (by decide +kernel) (nb_n (Or.inl rfl)) (nb_f (Or.inl rfl)) rfl dX2_forget_12 (fun h H locs hM hF hst hW hS => ?_)
  exact g_vret hx hb hr hW hS dX2_forget_15 hlocks (⟨rfl, hM, hF⟩)

set_option maxHeartbeats 4000000 in
set_option maxRecDepth 100000 in
theorem e_nearest (l : Launch) (g : GX) (base : Nat) (sa : Nat → Nat) (h0 : Hp) (o : Nat) (R : Nat → Nat) (I : Nat → Int) (L : Nat → Int) (A : Nat → Int → Int) (Rt : Nat → Nat) (It : Nat → Int) (Lt : Nat → Int) (At : Nat → Int → Int) (Rj : Nat → Nat) (Ij : Nat → Int) (Aj : Nat → Int → Int) (i v : Int) (hM : OB g 2 9 kd2 h0 o R I L A) (hT : OB g 4 4 kd4 h0 (R 2) Rt It Lt At) (hJ : OB g 1 7 kd1 h0 (R 1) Rj Ij L4 Aj) (hw9 : Wok Ij Aj) (hSJ : ∀ q, FP 9 kd2 o R q → ¬ FP 7 kd1 (R 1) Rj q) (hTJ : ∀ q, FP 4 kd4 (R 2) Rt q → ¬ FP 7 kd1 (R 1) Rj q) (hLt : 0 ≤ Lt 0 ∧ Lt 0 ≤ 14641) (hrt : 0 ≤ It 3 ∧ It 3 ≤ Lt 0) (hfo : ∀ k, 0 ≤ k → k < It 3 → 0 ≤ At 0 k ∧ At 0 k < 14641) (hi9 : i32 i) (hv9 : i32 v) : MC l g base sa yX2_nearest wsX2_nearest ({ frames := 2, cells := 0, slots := 0, locals := 44 }) ([.ref o, .int (J i), .int (J v)]) h0 (fun r h' => r = some (.int (J (fnd (At 0) (goC (Ij 0) (Aj 4) i v) (It 3).toNat 0))) ∧ Fr (FP 7 kd1 (R 1) Rj) h0 h' ∧ ∃ f, OB g 1 7 kd1 h' (R 1) Rj Ij L4 (va_up Aj 5 f) ∧ ∀ i, 0 ≤ i → i < 4 → 0 ≤ f i ∧ f i ≤ 10) := by
  refine Met.ofW (cc := cX2_nearest) (maxL := 4) (ret := (some .int)) (by decide) rfl ?_
  intro p e s m args below meth c s₁ B hml hv
  obtain ⟨rfl, hk, hW⟩ := hv
  have hx := B.exec
  have hb := B.bytes
  have hr := B.returns
  have hts := atoms_spec (ws := wsX2_nearest) B.pre
  have hown : s.vm.findClass RX2 = some m.cls := findClass_of_methodNamed B.named
  have hlocks := B.notSynchronized
  have hfX1 : ∀ w ∈ wsX10, w.before ([.ref o, .int (J i), .int (J v)]).toArray s = true := fun w h => hts w (List.mem_cons_of_mem _ (List.mem_append_right _ h))
  have hfX2 : ∀ w ∈ wsX20, w.before ([.ref o, .int (J i), .int (J v)]).toArray s = true := fun w h => hts w (List.mem_cons_of_mem _ (List.mem_append_left _ (List.mem_append_left _ (List.mem_append_right _ h))))
  have hfX4 : ∀ w ∈ wsX40, w.before ([.ref o, .int (J i), .int (J v)]).toArray s = true := fun w h => hts w (List.mem_cons_of_mem _ (List.mem_append_left _ (List.mem_append_right _ h)))
  have hS : va_S (Ab base) s.heap s.heap [] := va_S.rf
  have hl := lv_entry ([.ref o, .int (J i), .int (J v)]) (n := 4) (Nat.le_of_ble_eq_true rfl)
  rw [lg_entry_eq]
  generalize (lg_sl ([.ref o, .int (J i), .int (J v)]) ++ List.replicate (4 - (lg_sl ([.ref o, .int (J i), .int (J v)])).length) Slot.unset).toArray = ls at hl ⊢
  have hl : lv_has ls 4 [(0, .ref o), (1, .int (J i)), (2, .int (J v))] := hl
  have hF : Fr (FP 7 kd1 (R 1) Rj) h0 h0 := Fr.rf
  obtain ⟨hw1, hw2, hw3, hw4, hw5, hw6⟩ := id hw9
  refine lv_iconst (v := J (0)) hx hb dX2_nearest_0 rfl ?_
  refine lv_istore_n (lv' := [(3, .int (J 0)), (0, .ref o), (1, .int (J i)), (2, .int (J v))]) hx hb dX2_nearest_1 rfl hl (by decide) rfl (fun ls hl => ?_)
  have loop_2 : ∀ (n9 : Nat) (k : Int) (f : Int → Int) (h : Hp) (H : Heap) (locs : List Loc) (ls : Array Slot), It 3 - k < (n9 : Int) → (0 ≤ k ∧ k ≤ It 3) → (∀ i, 0 ≤ i → i < 4 → 0 ≤ f i ∧ f i ≤ 10) → (fnd (At 0) (goC (Ij 0) (Aj 4) i v) (It 3).toNat 0 = fnd (At 0) (goC (Ij 0) (Aj 4) i v) (It 3 - k).toNat k) → (OB g 2 9 kd2 h o R I L A) → (OB g 4 4 kd4 h (R 2) Rt It Lt At) → (OB g 1 7 kd1 h (R 1) Rj Ij L4 (va_up Aj 5 (f))) → (Fr (FP 7 kd1 (R 1) Rj) h0 h) → (Wd g base h H) → (va_S (Ab base) s.heap H locs) → (lv_has ls 4 [(0, .ref o), (1, .int (J i)), (2, .int (J v)), (3, .int (J k))]) → W p l e (headSpec wsX2_nearest ({ frames := 2, cells := 0, slots := 0, locals := 44 })).room s m ([.ref o, .int (J i), .int (J v)]).toArray below meth c H locs 0 0 (MQ below (QcM g base (fun r h' => r = some (.int (J (fnd (At 0) (goC (Ij 0) (Aj 4) i v) (It 3).toNat 0))) ∧ Fr (FP 7 kd1 (R 1) Rj) h0 h' ∧ ∃ f, OB g 1 7 kd1 h' (R 1) Rj Ij L4 (va_up Aj 5 f) ∧ ∀ i, 0 ≤ i → i < 4 → 0 ≤ f i ∧ f i ≤ 10)) ([.ref o, .int (J i), .int (J v)]).toArray s (0) (0) (Ab base)) (F0 m 2 ls []) := by
    intro n9
    induction n9 with
    | zero =>
      intro k f h H locs ls hmu hk9 hfr hfd hM hT hJ hF hW hS hl
      exact absurd hmu (by omega)
    | succ n9 ih =>
      intro k f h H locs ls hmu hk9 hfr hfd hM hT hJ hF hW hS hl
      have ih_2 := ih
      refine lv_iload_n hx hb dX2_nearest_2 rfl (lv_at hl 3 rfl) ?_
      refine lv_aload_n hx hb dX2_nearest_3 rfl (lv_at hl 0 rfl) ?_
      refine g_get (ci := 2) (C := RX2) (T := TX2) (N := 9) (v := .ref (R 2)) hx hb hfX2 (fun _ h9 => h9) hown hk hW hM.1 rfl 2 (by decide) (hts (.fieldLink RX2 24 "JugsAndGlasses$Search" "all" "LJugsAndGlasses$Tour;") (by decide +kernel)) rfl rfl dX2_nearest_4 ?_
      refine g_get (ci := 4) (C := RX4) (T := TX4) (N := 4) (v := .int (J (It 3))) hx hb hfX4 (fun _ h9 => h9) hown hk hW hT.1 rfl 3 (by decide) (hts (.fieldLink RX2 78 "JugsAndGlasses$Tour" "reached" "I") (by decide +kernel)) rfl rfl dX2_nearest_7 ?_
      refine j_icmp_ge (x := k) (y := It 3) (tgt := 69) hx hb ⟨by omega, by omega⟩ ⟨by omega, by omega⟩ dX2_nearest_10 (by decide) (fun c_10 => ?_) (fun c_10 => ?_)
      · refine lv_iconst (v := J (-1)) hx hb dX2_nearest_69 rfl ?_
        exact g_iret hx hb hr hW hS dX2_nearest_70 hlocks (⟨congrArg (fun z : Int => some (Value.int (J z))) (show -1 = fnd (At 0) (goC (Ij 0) (Aj 4) i v) (It 3).toNat 0 from by rw [hfd, show (It 3 - k).toNat = 0 by omega]; rfl), hF, f, hJ, hfr⟩)
      · have hfk : k < It 3 → 0 ≤ At 0 k ∧ At 0 k < 14641 := fun q => hfo k hk9.1 q
        replace hfk := hfk (by omega)
        refine lv_iload_n hx hb dX2_nearest_13 rfl (lv_at hl 3 rfl) ?_
        refine lv_aload_n hx hb dX2_nearest_14 rfl (lv_at hl 0 rfl) ?_
        refine g_get (ci := 2) (C := RX2) (T := TX2) (N := 9) (v := .ref (R 2)) hx hb hfX2 (fun _ h9 => h9) hown hk hW hM.1 rfl 2 (by decide) (hts (.fieldLink RX2 24 "JugsAndGlasses$Search" "all" "LJugsAndGlasses$Tour;") (by decide +kernel)) rfl rfl dX2_nearest_15 ?_
        refine g_get (ci := 4) (C := RX4) (T := TX4) (N := 4) (v := .ref (Rt 0)) hx hb hfX4 (fun _ h9 => h9) hown hk hW hT.1 rfl 0 (by decide) (hts (.fieldLink RX2 82 "JugsAndGlasses$Tour" "found" "[I") (by decide +kernel)) rfl rfl dX2_nearest_18 ?_
        refine g_alen (n := Lt 0) hx hb hk hW (hT.ai 0 (by decide) rfl) (by omega) dX2_nearest_21 ?_
        refine j_icmp_ge (x := k) (y := Lt 0) (tgt := 69) hx hb ⟨by omega, by omega⟩ ⟨by omega, by omega⟩ dX2_nearest_22 (by decide) (fun c_22 => ?_) (fun c_22 => ?_)
        · exfalso
          omega
        · refine lv_aload_n hx hb dX2_nearest_25 rfl (lv_at hl 0 rfl) ?_
          refine g_get (ci := 2) (C := RX2) (T := TX2) (N := 9) (v := .ref (R 1)) hx hb hfX2 (fun _ h9 => h9) hown hk hW hM.1 rfl 1 (by decide) (hts (.fieldLink RX2 18 "JugsAndGlasses$Search" "trial" "LJugsAndGlasses$Jugs;") (by decide +kernel)) rfl rfl dX2_nearest_26 ?_
          refine lv_aload_n hx hb dX2_nearest_29 rfl (lv_at hl 0 rfl) ?_
          refine g_get (ci := 2) (C := RX2) (T := TX2) (N := 9) (v := .ref (R 2)) hx hb hfX2 (fun _ h9 => h9) hown hk hW hM.1 rfl 2 (by decide) (hts (.fieldLink RX2 24 "JugsAndGlasses$Search" "all" "LJugsAndGlasses$Tour;") (by decide +kernel)) rfl rfl dX2_nearest_30 ?_
          refine g_get (ci := 4) (C := RX4) (T := TX4) (N := 4) (v := .ref (Rt 0)) hx hb hfX4 (fun _ h9 => h9) hown hk hW hT.1 rfl 0 (by decide) (hts (.fieldLink RX2 82 "JugsAndGlasses$Tour" "found" "[I") (by decide +kernel)) rfl rfl dX2_nearest_33 ?_
          refine lv_iload_n hx hb dX2_nearest_36 rfl (lv_at hl 3 rfl) ?_
          refine g_iald (n := Lt 0) (f := At 0) (i := k) hx hb hk hW (hT.ai 0 (by decide) rfl) (by omega) (by omega) (by omega) dX2_nearest_37 ?_
          refine g_callV (As := [.int (J (At 0 k))]) (rest := []) (b := R 1) (ci := 1) (C := RX1) (T := TX1) (N := 7) ⟨hx, hb, hml, hown, hts⟩ (k_stand l g base sa h (R 1) Rj Ij (va_up Aj 5 f) (At 0 k) hJ ⟨by omega, by omega⟩ ⟨hw1.1, hw1.2.1⟩ hw1.2.2) (cwV 1 hts gX2_nearest_X1_stand rfl rfl rfl (by decide +kernel) ⟨Nat.le_of_ble_eq_true rfl, Nat.le_of_ble_eq_true rfl⟩) hk hW hS hJ.1 rfl rfl hl.1 (Nat.le_of_ble_eq_true rfl) dX2_nearest_38 ⟨Nat.le_of_ble_eq_true rfl, Nat.le_of_ble_eq_true rfl⟩ (fun r9 h9 H locs hp hW hS => ?_)
          have hp : r9 = none ∧ OB g 1 7 kd1 h9 (R 1) Rj Ij L4 (va_up (va_up Aj 5 f) 5 (p_stand (Ij 0) (Aj 4) f (At 0 k))) ∧ Fr (FP 7 kd1 (R 1) Rj) h h9 := hp
          obtain ⟨rfl, hJ, hF9⟩ := hp
          refine W.eq (g2 := F0 m 41 ls []) rfl ?_
          have hM := hM.fr hF9 hSJ
          have hT := hT.fr hF9 hTJ
          have hF := hF.tr hF9 (fun q w _ => w)
          rw [bx_uu] at hJ
          generalize h9 = h at hM hT hJ hF hW
          refine lv_aload_n hx hb dX2_nearest_41 rfl (lv_at hl 0 rfl) ?_
          refine g_get (ci := 2) (C := RX2) (T := TX2) (N := 9) (v := .ref (R 1)) hx hb hfX2 (fun _ h9 => h9) hown hk hW hM.1 rfl 1 (by decide) (hts (.fieldLink RX2 18 "JugsAndGlasses$Search" "trial" "LJugsAndGlasses$Jugs;") (by decide +kernel)) rfl rfl dX2_nearest_42 ?_
          refine lv_iload_n hx hb dX2_nearest_45 rfl (lv_at hl 1 rfl) ?_
          refine lv_iload_n hx hb dX2_nearest_46 rfl (lv_at hl 2 rfl) ?_
          refine g_callV (As := [.int (J i), .int (J v)]) (rest := []) (b := R 1) (ci := 1) (C := RX1) (T := TX1) (N := 7) ⟨hx, hb, hml, hown, hts⟩ (k_meet l g base sa h (R 1) Rj Ij (va_up Aj 5 (p_stand (Ij 0) (Aj 4) f (At 0 k))) i v hJ hi9 hv9 ⟨hw1.1, hw1.2.1⟩ (fun j a b => stand_r hw1 hfr (At 0 k) j a (by have := hw1.2.1; omega))) (cwV 2 hts gX2_nearest_X1_meet rfl rfl rfl (by decide +kernel) ⟨Nat.le_of_ble_eq_true rfl, Nat.le_of_ble_eq_true rfl⟩) hk hW hS hJ.1 rfl rfl hl.1 (Nat.le_of_ble_eq_true rfl) dX2_nearest_47 ⟨Nat.le_of_ble_eq_true rfl, Nat.le_of_ble_eq_true rfl⟩ (fun r9 h9 H locs hp hW hS => ?_)
          have hp : r9 = some (.int (J (p_meet (Ij 0) (p_stand (Ij 0) (Aj 4) f (At 0 k)) i v))) ∧ h9 = h := hp
          rw [meet_stand] at hp
          obtain ⟨rfl, e9⟩ := hp
          rw [e9] at hW
          refine W.eq (g2 := F0 m 50 ls [.int (J (p_meet (Ij 0) (DC (Aj 4) (At 0 k)) i v))]) rfl ?_
          have hpm := p_meet_r (Ij 0) (DC (Aj 4) (At 0 k)) i v
          refine j_if_eq (x := p_meet (Ij 0) (DC (Aj 4) (At 0 k)) i v) (tgt := 63) hx hb ⟨by omega, by omega⟩ dX2_nearest_50 (by decide) (fun c_50 => ?_) (fun c_50 => ?_)
          · refine lv_iinc (v := J (k + 1)) (lv' := [(3, .int (J (k + 1))), (0, .ref o), (1, .int (J i)), (2, .int (J v))]) hx hb dX2_nearest_63 hl (k := 3) rfl (J_inc (by omega)) (by decide) rfl (fun ls hl => ?_)
            refine lv_goto (tgt := 2) hx hb dX2_nearest_66 (by decide) ?_
            exact ih_2 (k + 1) (p_stand (Ij 0) (Aj 4) f (At 0 k)) h H locs ls (by omega) (by omega) (stand_r hw1 hfr _) (by rw [hfd, fnd_s _ _ (by omega), if_neg (by unfold goC; simp; omega)]) hM hT hJ hF hW hS (lv_sub hl [1, 2, 3, 0] rfl)
          · refine lv_aload_n hx hb dX2_nearest_53 rfl (lv_at hl 0 rfl) ?_
            refine g_get (ci := 2) (C := RX2) (T := TX2) (N := 9) (v := .ref (R 2)) hx hb hfX2 (fun _ h9 => h9) hown hk hW hM.1 rfl 2 (by decide) (hts (.fieldLink RX2 24 "JugsAndGlasses$Search" "all" "LJugsAndGlasses$Tour;") (by decide +kernel)) rfl rfl dX2_nearest_54 ?_
            refine g_get (ci := 4) (C := RX4) (T := TX4) (N := 4) (v := .ref (Rt 0)) hx hb hfX4 (fun _ h9 => h9) hown hk hW hT.1 rfl 0 (by decide) (hts (.fieldLink RX2 82 "JugsAndGlasses$Tour" "found" "[I") (by decide +kernel)) rfl rfl dX2_nearest_57 ?_
            refine lv_iload_n hx hb dX2_nearest_60 rfl (lv_at hl 3 rfl) ?_
            refine g_iald (n := Lt 0) (f := At 0) (i := k) hx hb hk hW (hT.ai 0 (by decide) rfl) (by omega) (by omega) (by omega) dX2_nearest_61 ?_
            exact g_iret hx hb hr hW hS dX2_nearest_62 hlocks (⟨congrArg (fun z : Int => some (Value.int (J z))) (show At 0 k = fnd (At 0) (goC (Ij 0) (Aj 4) i v) (It 3).toNat 0 from by rw [hfd, fnd_s _ _ (by omega), if_pos (by unfold goC; simp; omega)]), hF, _, hJ, stand_r hw1 hfr _⟩)
  exact loop_2 ((It 3).toNat + 1) 0 (Aj 5) h0 s.heap [] ls (by omega) (by omega) hw6 (by rw [Int.sub_zero]) hM hT (by rw [va_up_id]; exact hJ) hF hW hS (lv_sub hl [1, 2, 3, 0] rfl)

set_option maxHeartbeats 4000000 in
set_option maxRecDepth 100000 in
theorem e_allHeld (l : Launch) (g : GX) (base : Nat) (sa : Nat → Nat) (h0 : Hp) (o : Nat) (R : Nat → Nat) (I : Nat → Int) (L : Nat → Int) (A : Nat → Int → Int) (Rt : Nat → Nat) (It : Nat → Int) (Lt : Nat → Int) (At : Nat → Int → Int) (Rj : Nat → Nat) (Ij : Nat → Int) (Aj : Nat → Int → Int) (hM : OB g 2 9 kd2 h0 o R I L A) (hT : OB g 4 4 kd4 h0 (R 2) Rt It Lt At) (hJ : OB g 1 7 kd1 h0 (R 1) Rj Ij L4 Aj) (hw9 : Wok Ij Aj) (hSJ : ∀ q, FP 9 kd2 o R q → ¬ FP 7 kd1 (R 1) Rj q) (hTJ : ∀ q, FP 4 kd4 (R 2) Rt q → ¬ FP 7 kd1 (R 1) Rj q) (hLt : 0 ≤ Lt 0 ∧ Lt 0 ≤ 14641) (hrt : 0 ≤ It 3 ∧ It 3 ≤ Lt 0) (hfo : ∀ k, 0 ≤ k → k < It 3 → 0 ≤ At 0 k ∧ At 0 k < 14641) : MC l g base sa yX2_allHeld wsX2_allHeld ({ frames := 1, cells := 0, slots := 0, locals := 24 }) ([.ref o]) h0 (fun r h' => r = some (.int (J (mqC (Ij 0) (Aj 4) (At 0) (It 3).toNat))) ∧ Fr (FP 7 kd1 (R 1) Rj) h0 h' ∧ ∃ f, OB g 1 7 kd1 h' (R 1) Rj Ij L4 (va_up Aj 5 f) ∧ ∀ i, 0 ≤ i → i < 4 → 0 ≤ f i ∧ f i ≤ 10) := by
  refine Met.ofW (cc := cX2_allHeld) (maxL := 4) (ret := (some .int)) (by decide) rfl ?_
  intro p e s m args below meth c s₁ B hml hv
  obtain ⟨rfl, hk, hW⟩ := hv
  have hx := B.exec
  have hb := B.bytes
  have hr := B.returns
  have hts := atoms_spec (ws := wsX2_allHeld) B.pre
  have hown : s.vm.findClass RX2 = some m.cls := findClass_of_methodNamed B.named
  have hlocks := B.notSynchronized
  have hfX1 : ∀ w ∈ wsX10, w.before ([.ref o]).toArray s = true := fun w h => hts w (List.mem_cons_of_mem _ (List.mem_append_right _ h))
  have hfX2 : ∀ w ∈ wsX20, w.before ([.ref o]).toArray s = true := fun w h => hts w (List.mem_cons_of_mem _ (List.mem_append_left _ (List.mem_append_left _ (List.mem_append_right _ h))))
  have hfX4 : ∀ w ∈ wsX40, w.before ([.ref o]).toArray s = true := fun w h => hts w (List.mem_cons_of_mem _ (List.mem_append_left _ (List.mem_append_right _ h)))
  have hS : va_S (Ab base) s.heap s.heap [] := va_S.rf
  have hl := lv_entry ([.ref o]) (n := 4) (Nat.le_of_ble_eq_true rfl)
  rw [lg_entry_eq]
  generalize (lg_sl ([.ref o]) ++ List.replicate (4 - (lg_sl ([.ref o])).length) Slot.unset).toArray = ls at hl ⊢
  have hl : lv_has ls 4 [(0, .ref o)] := hl
  have hF : Fr (FP 7 kd1 (R 1) Rj) h0 h0 := Fr.rf
  obtain ⟨hw1, hw2, hw3, hw4, hw5, hw6⟩ := id hw9
  have hw11 := hw1.1
  have hw12 := hw1.2.1
  refine lv_iconst (v := J (0)) hx hb dX2_allHeld_0 rfl ?_
  refine lv_istore_n (lv' := [(1, .int (J 0)), (0, .ref o)]) hx hb dX2_allHeld_1 rfl hl (by decide) rfl (fun ls hl => ?_)
  refine lv_iconst (v := J (0)) hx hb dX2_allHeld_2 rfl ?_
  refine lv_istore_n (lv' := [(2, .int (J 0)), (1, .int (J 0)), (0, .ref o)]) hx hb dX2_allHeld_3 rfl hl (by decide) rfl (fun ls hl => ?_)
  have loop_4 : ∀ (n9 : Nat) (k : Int) (z : Int) (f : Int → Int) (h : Hp) (H : Heap) (locs : List Loc) (ls : Array Slot), It 3 - k < (n9 : Int) → (0 ≤ k ∧ k ≤ It 3) → (∀ i, 0 ≤ i → i < 4 → 0 ≤ f i ∧ f i ≤ 10) → (z = mqC (Ij 0) (Aj 4) (At 0) k.toNat) → (0 ≤ z ∧ z < 2 ^ 11) → (OB g 2 9 kd2 h o R I L A) → (OB g 4 4 kd4 h (R 2) Rt It Lt At) → (OB g 1 7 kd1 h (R 1) Rj Ij L4 (va_up Aj 5 (f))) → (Fr (FP 7 kd1 (R 1) Rj) h0 h) → (Wd g base h H) → (va_S (Ab base) s.heap H locs) → (lv_has ls 4 [(0, .ref o), (1, .int (J z)), (2, .int (J k))]) → W p l e (headSpec wsX2_allHeld ({ frames := 1, cells := 0, slots := 0, locals := 24 })).room s m ([.ref o]).toArray below meth c H locs 0 0 (MQ below (QcM g base (fun r h' => r = some (.int (J (mqC (Ij 0) (Aj 4) (At 0) (It 3).toNat))) ∧ Fr (FP 7 kd1 (R 1) Rj) h0 h' ∧ ∃ f, OB g 1 7 kd1 h' (R 1) Rj Ij L4 (va_up Aj 5 f) ∧ ∀ i, 0 ≤ i → i < 4 → 0 ≤ f i ∧ f i ≤ 10)) ([.ref o]).toArray s (0) (0) (Ab base)) (F0 m 4 ls []) := by
    intro n9
    induction n9 with
    | zero =>
      intro k z f h H locs ls hmu hk9 hfr ez zr hM hT hJ hF hW hS hl
      exact absurd hmu (by omega)
    | succ n9 ih =>
      intro k z f h H locs ls hmu hk9 hfr ez zr hM hT hJ hF hW hS hl
      have ih_4 := ih
      refine lv_iload_n hx hb dX2_allHeld_4 rfl (lv_at hl 2 rfl) ?_
      refine lv_aload_n hx hb dX2_allHeld_5 rfl (lv_at hl 0 rfl) ?_
      refine g_get (ci := 2) (C := RX2) (T := TX2) (N := 9) (v := .ref (R 2)) hx hb hfX2 (fun _ h9 => h9) hown hk hW hM.1 rfl 2 (by decide) (hts (.fieldLink RX2 24 "JugsAndGlasses$Search" "all" "LJugsAndGlasses$Tour;") (by decide +kernel)) rfl rfl dX2_allHeld_6 ?_
      refine g_get (ci := 4) (C := RX4) (T := TX4) (N := 4) (v := .int (J (It 3))) hx hb hfX4 (fun _ h9 => h9) hown hk hW hT.1 rfl 3 (by decide) (hts (.fieldLink RX2 78 "JugsAndGlasses$Tour" "reached" "I") (by decide +kernel)) rfl rfl dX2_allHeld_9 ?_
      refine j_icmp_ge (x := k) (y := It 3) (tgt := 87) hx hb ⟨by omega, by omega⟩ ⟨by omega, by omega⟩ dX2_allHeld_12 (by decide) (fun c_12 => ?_) (fun c_12 => ?_)
      · refine lv_iload_n hx hb dX2_allHeld_87 rfl (lv_at hl 1 rfl) ?_
        exact g_iret hx hb hr hW hS dX2_allHeld_88 hlocks (⟨congrArg (fun q : Int => some (Value.int (J q))) (show z = mqC (Ij 0) (Aj 4) (At 0) (It 3).toNat from by rw [ez, show k = It 3 by omega]), hF, f, hJ, hfr⟩)
      · have hfk := hfo k hk9.1 (by omega)
        refine lv_iload_n hx hb dX2_allHeld_15 rfl (lv_at hl 2 rfl) ?_
        refine lv_aload_n hx hb dX2_allHeld_16 rfl (lv_at hl 0 rfl) ?_
        refine g_get (ci := 2) (C := RX2) (T := TX2) (N := 9) (v := .ref (R 2)) hx hb hfX2 (fun _ h9 => h9) hown hk hW hM.1 rfl 2 (by decide) (hts (.fieldLink RX2 24 "JugsAndGlasses$Search" "all" "LJugsAndGlasses$Tour;") (by decide +kernel)) rfl rfl dX2_allHeld_17 ?_
        refine g_get (ci := 4) (C := RX4) (T := TX4) (N := 4) (v := .ref (Rt 0)) hx hb hfX4 (fun _ h9 => h9) hown hk hW hT.1 rfl 0 (by decide) (hts (.fieldLink RX2 82 "JugsAndGlasses$Tour" "found" "[I") (by decide +kernel)) rfl rfl dX2_allHeld_20 ?_
        refine g_alen (n := Lt 0) hx hb hk hW (hT.ai 0 (by decide) rfl) (by omega) dX2_allHeld_23 ?_
        refine j_icmp_ge (x := k) (y := Lt 0) (tgt := 87) hx hb ⟨by omega, by omega⟩ ⟨by omega, by omega⟩ dX2_allHeld_24 (by decide) (fun c_24 => ?_) (fun c_24 => ?_)
        · exfalso
          omega
        · refine lv_aload_n hx hb dX2_allHeld_27 rfl (lv_at hl 0 rfl) ?_
          refine g_get (ci := 2) (C := RX2) (T := TX2) (N := 9) (v := .ref (R 1)) hx hb hfX2 (fun _ h9 => h9) hown hk hW hM.1 rfl 1 (by decide) (hts (.fieldLink RX2 18 "JugsAndGlasses$Search" "trial" "LJugsAndGlasses$Jugs;") (by decide +kernel)) rfl rfl dX2_allHeld_28 ?_
          refine lv_aload_n hx hb dX2_allHeld_31 rfl (lv_at hl 0 rfl) ?_
          refine g_get (ci := 2) (C := RX2) (T := TX2) (N := 9) (v := .ref (R 2)) hx hb hfX2 (fun _ h9 => h9) hown hk hW hM.1 rfl 2 (by decide) (hts (.fieldLink RX2 24 "JugsAndGlasses$Search" "all" "LJugsAndGlasses$Tour;") (by decide +kernel)) rfl rfl dX2_allHeld_32 ?_
          refine g_get (ci := 4) (C := RX4) (T := TX4) (N := 4) (v := .ref (Rt 0)) hx hb hfX4 (fun _ h9 => h9) hown hk hW hT.1 rfl 0 (by decide) (hts (.fieldLink RX2 82 "JugsAndGlasses$Tour" "found" "[I") (by decide +kernel)) rfl rfl dX2_allHeld_35 ?_
          refine lv_iload_n hx hb dX2_allHeld_38 rfl (lv_at hl 2 rfl) ?_
          refine g_iald (n := Lt 0) (f := At 0) (i := k) hx hb hk hW (hT.ai 0 (by decide) rfl) (by omega) (by omega) (by omega) dX2_allHeld_39 ?_
          refine g_callV (As := [.int (J (At 0 k))]) (rest := []) (b := R 1) (ci := 1) (C := RX1) (T := TX1) (N := 7) ⟨hx, hb, hml, hown, hts⟩ (k_stand l g base sa h (R 1) Rj Ij (va_up Aj 5 f) (At 0 k) hJ ⟨by omega, by omega⟩ ⟨hw1.1, hw1.2.1⟩ hw1.2.2) (cwV 1 hts gX2_allHeld_X1_stand rfl rfl rfl (by decide +kernel) ⟨Nat.le_of_ble_eq_true rfl, Nat.le_of_ble_eq_true rfl⟩) hk hW hS hJ.1 rfl rfl hl.1 (Nat.le_of_ble_eq_true rfl) dX2_allHeld_40 ⟨Nat.le_of_ble_eq_true rfl, Nat.le_of_ble_eq_true rfl⟩ (fun r9 h9 H locs hp hW hS => ?_)
          have hp : r9 = none ∧ OB g 1 7 kd1 h9 (R 1) Rj Ij L4 (va_up (va_up Aj 5 f) 5 (p_stand (Ij 0) (Aj 4) f (At 0 k))) ∧ Fr (FP 7 kd1 (R 1) Rj) h h9 := hp
          obtain ⟨rfl, hJ, hF9⟩ := hp
          refine W.eq (g2 := F0 m 43 ls []) rfl ?_
          have hM := hM.fr hF9 hSJ
          have hT := hT.fr hF9 hTJ
          have hF := hF.tr hF9 (fun q w _ => w)
          rw [bx_uu] at hJ
          generalize h9 = h at hM hT hJ hF hW
          refine lv_iconst (v := J (0)) hx hb dX2_allHeld_43 rfl ?_
          refine lv_istore_n (lv' := [(3, .int (J 0)), (0, .ref o), (1, .int (J z)), (2, .int (J k))]) hx hb dX2_allHeld_44 rfl hl (by decide) rfl (fun ls hl => ?_)
          have loop_45 : ∀ (n9 : Nat) (i : Int) (y : Int) (h : Hp) (H : Heap) (locs : List Loc) (ls : Array Slot), Ij 0 - i < (n9 : Int) → (0 ≤ i ∧ i ≤ Ij 0) → (y = mb (DC (Aj 4) (At 0 k)) z i.toNat) → (0 ≤ y ∧ y < 2 ^ 11) → (OB g 2 9 kd2 h o R I L A) → (OB g 4 4 kd4 h (R 2) Rt It Lt At) → (OB g 1 7 kd1 h (R 1) Rj Ij L4 (va_up Aj 5 (p_stand (Ij 0) (Aj 4) f (At 0 k)))) → (Fr (FP 7 kd1 (R 1) Rj) h0 h) → (Wd g base h H) → (va_S (Ab base) s.heap H locs) → (lv_has ls 4 [(0, .ref o), (1, .int (J y)), (2, .int (J k)), (3, .int (J i))]) → W p l e (headSpec wsX2_allHeld ({ frames := 1, cells := 0, slots := 0, locals := 24 })).room s m ([.ref o]).toArray below meth c H locs 0 0 (MQ below (QcM g base (fun r h' => r = some (.int (J (mqC (Ij 0) (Aj 4) (At 0) (It 3).toNat))) ∧ Fr (FP 7 kd1 (R 1) Rj) h0 h' ∧ ∃ f, OB g 1 7 kd1 h' (R 1) Rj Ij L4 (va_up Aj 5 f) ∧ ∀ i, 0 ≤ i → i < 4 → 0 ≤ f i ∧ f i ≤ 10)) ([.ref o]).toArray s (0) (0) (Ab base)) (F0 m 45 ls []) := by
            intro n9
            induction n9 with
            | zero =>
              intro i y h H locs ls hmu hi9 ey yr hM hT hJ hF hW hS hl
              exact absurd hmu (by omega)
            | succ n9 ih =>
              intro i y h H locs ls hmu hi9 ey yr hM hT hJ hF hW hS hl
              have ih_45 := ih
              refine lv_iload_n hx hb dX2_allHeld_45 rfl (lv_at hl 3 rfl) ?_
              refine lv_aload_n hx hb dX2_allHeld_46 rfl (lv_at hl 0 rfl) ?_
              refine g_get (ci := 2) (C := RX2) (T := TX2) (N := 9) (v := .ref (R 1)) hx hb hfX2 (fun _ h9 => h9) hown hk hW hM.1 rfl 1 (by decide) (hts (.fieldLink RX2 18 "JugsAndGlasses$Search" "trial" "LJugsAndGlasses$Jugs;") (by decide +kernel)) rfl rfl dX2_allHeld_47 ?_
              refine g_get (ci := 1) (C := RX1) (T := TX1) (N := 7) (v := .int (J (Ij 0))) hx hb hfX1 (fun _ h9 => h9) hown hk hW hJ.1 rfl 0 (by decide) (hts (.fieldLink RX2 119 "JugsAndGlasses$Jugs" "number" "I") (by decide +kernel)) rfl rfl dX2_allHeld_50 ?_
              refine j_icmp_ge (x := i) (y := Ij 0) (tgt := 81) hx hb ⟨by omega, by omega⟩ ⟨by omega, by omega⟩ dX2_allHeld_53 (by decide) (fun c_53 => ?_) (fun c_53 => ?_)
              · refine lv_iinc (v := J (k + 1)) (lv' := [(2, .int (J (k + 1))), (0, .ref o), (1, .int (J y)), (3, .int (J i))]) hx hb dX2_allHeld_81 hl (k := 2) rfl (J_inc (by omega)) (by decide) rfl (fun ls hl => ?_)
                refine lv_goto (tgt := 4) hx hb dX2_allHeld_84 (by decide) ?_
                exact ih_4 (k + 1) y (p_stand (Ij 0) (Aj 4) f (At 0 k)) h H locs ls (by omega) (by omega) (stand_r hw1 hfr _) (by rw [ey, show i = Ij 0 by omega, ez, ← mqC_s _ _ _ hk9.1]) yr hM hT hJ hF hW hS (lv_sub hl [1, 2, 0] rfl)
              · refine lv_iload_n hx hb dX2_allHeld_56 rfl (lv_at hl 3 rfl) ?_
                refine lv_iconst (v := J (4)) hx hb dX2_allHeld_57 rfl ?_
                refine j_icmp_ge (x := i) (y := 4) (tgt := 81) hx hb ⟨by omega, by omega⟩ ⟨by decide, by decide⟩ dX2_allHeld_58 (by decide) (fun c_58 => ?_) (fun c_58 => ?_)
                · exfalso
                  omega
                · have hlv := stand_r hw1 hfr (At 0 k) i hi9.1 (by omega)
                  have hpw := pw_r (x := p_stand (Ij 0) (Aj 4) f (At 0 k) i) (by omega) (by omega)
                  refine lv_iload_n hx hb dX2_allHeld_61 rfl (lv_at hl 1 rfl) ?_
                  refine lv_iconst (v := J (1)) hx hb dX2_allHeld_62 rfl ?_
                  refine lv_aload_n hx hb dX2_allHeld_63 rfl (lv_at hl 0 rfl) ?_
                  refine g_get (ci := 2) (C := RX2) (T := TX2) (N := 9) (v := .ref (R 1)) hx hb hfX2 (fun _ h9 => h9) hown hk hW hM.1 rfl 1 (by decide) (hts (.fieldLink RX2 18 "JugsAndGlasses$Search" "trial" "LJugsAndGlasses$Jugs;") (by decide +kernel)) rfl rfl dX2_allHeld_64 ?_
                  refine g_get (ci := 1) (C := RX1) (T := TX1) (N := 7) (v := .ref (Rj 5)) hx hb hfX1 (fun _ h9 => h9) hown hk hW hJ.1 rfl 5 (by decide) (hts (.fieldLink RX2 122 "JugsAndGlasses$Jugs" "held" "[I") (by decide +kernel)) rfl rfl dX2_allHeld_67 ?_
                  refine lv_iload_n hx hb dX2_allHeld_70 rfl (lv_at hl 3 rfl) ?_
                  refine g_iald (n := 4) (f := p_stand (Ij 0) (Aj 4) f (At 0 k)) (i := i) hx hb hk hW (hJ.ai 5 (by decide) rfl) (by omega) (by omega) (by omega) dX2_allHeld_71 ?_
                  refine j_shl1 (y := (p_stand (Ij 0) (Aj 4) f (At 0 k)) i) hx hb (by omega) (by omega) dX2_allHeld_72 ?_
                  refine j_ior (x := y) (y := 2 ^ ((p_stand (Ij 0) (Aj 4) f (At 0 k)) i).toNat) hx hb (by omega) (by omega) (by omega) (by omega) dX2_allHeld_73 ?_
                  refine lv_istore_n (lv' := [(1, .int (J (orI y (2 ^ ((p_stand (Ij 0) (Aj 4) f (At 0 k)) i).toNat)))), (0, .ref o), (2, .int (J k)), (3, .int (J i))]) hx hb dX2_allHeld_74 rfl hl (by decide) rfl (fun ls hl => ?_)
                  refine lv_iinc (v := J (i + 1)) (lv' := [(3, .int (J (i + 1))), (1, .int (J (orI y (2 ^ ((p_stand (Ij 0) (Aj 4) f (At 0 k)) i).toNat)))), (0, .ref o), (2, .int (J k))]) hx hb dX2_allHeld_75 hl (k := 3) rfl (J_inc (by omega)) (by decide) rfl (fun ls hl => ?_)
                  refine lv_goto (tgt := 45) hx hb dX2_allHeld_78 (by decide) ?_
                  exact ih_45 (i + 1) (orI y (2 ^ ((p_stand (Ij 0) (Aj 4) f (At 0 k)) i).toNat)) h H locs ls (by omega) (by omega) (by rw [mb_s _ _ hi9.1, ey, p_stand_DC hi9.1 (by omega)]) (orI_r (by omega) (by omega) yr.2 hpw.2) hM hT hJ hF hW hS (lv_sub hl [2, 1, 3, 0] rfl)
          exact loop_45 ((Ij 0).toNat + 1) 0 z h H locs ls (by omega) (by omega) rfl zr hM hT hJ hF hW hS (lv_sub hl [1, 2, 3, 0] rfl)
  exact loop_4 ((It 3).toNat + 1) 0 0 (Aj 5) h0 s.heap [] ls (by omega) (by omega) hw6 rfl (by omega) hM hT (by rw [va_up_id]; exact hJ) hF hW hS (lv_sub hl [2, 1, 0] rfl)
