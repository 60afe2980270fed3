set_option maxHeartbeats 4000000 in
set_option maxRecDepth 100000 in
theorem m_isMade (l : Launch) (g : GX) (base : Nat) (sa : Nat → Nat) (h0 : Hp) (o : Nat) (R : Nat → Nat) (I : Nat → Int) (A : Nat → Int → Int) (x i v : Int) (hM : OB g 6 28 kd6 h0 o R I mL A) (ha : 0 ≤ x ∧ x < 2147483648) (hi9 : i32 i) (hv9 : i32 v) (hrm : Rm (I 7) (A 8)) : MC l g base sa yX6_isMade wsX6_isMade ({ frames := 1, cells := 0, slots := 0, locals := 23 }) ([.ref o, .int (J x), .int (J i), .int (J v)]) h0 (fun r h' => r = some (.int (J (b2i (goM (I 7) (A 8) i v x)))) ∧ Fr (FP 28 kd6 o R) h0 h' ∧ OB g 6 28 kd6 h' o R I mL (va_up A 9 (p_lay (I 7) (A 8) (A 9) x))) := by
  refine Met.ofW (cc := cX6_isMade) (maxL := 6) (ret := (some .boolean)) (by decide) rfl ?_
  intro p e s m args below meth c s₁ B hml hv
  obtain ⟨rfl, hk, hW⟩ := hv
  have hx := B.exec
  have hb := B.bytes
  have hr := B.returns
  have hts := atoms_spec (ws := wsX6_isMade) B.pre
  have hown : s.vm.findClass RX6 = some m.cls := findClass_of_methodNamed B.named
  have hlocks := B.notSynchronized
  have hfX6 : ∀ w ∈ wsX60, w.before ([.ref o, .int (J x), .int (J i), .int (J v)]).toArray s = true := fun w h => hts w (List.mem_cons_of_mem _ (List.mem_append_right _ h))
  have hS : va_S (Ab base) s.heap s.heap [] := va_S.rf
  have hl := lv_entry ([.ref o, .int (J x), .int (J i), .int (J v)]) (n := 6) (Nat.le_of_ble_eq_true rfl)
  rw [lg_entry_eq]
  generalize (lg_sl ([.ref o, .int (J x), .int (J i), .int (J v)]) ++ List.replicate (6 - (lg_sl ([.ref o, .int (J x), .int (J i), .int (J v)])).length) Slot.unset).toArray = ls at hl ⊢
  have hl : lv_has ls 6 [(0, .ref o), (1, .int (J x)), (2, .int (J i)), (3, .int (J v))] := hl
  have hF : Fr (FP 28 kd6 o R) h0 h0 := Fr.rf
  obtain ⟨hi1, hi2⟩ := id hi9
  obtain ⟨hv1, hv2⟩ := id hv9
  have hrm1 := hrm.1
  have hrm2 := hrm.2.1
  refine lv_aload_n hx hb dX6_isMade_0 rfl (lv_at hl 0 rfl) ?_
  refine lv_iload_n hx hb dX6_isMade_1 rfl (lv_at hl 1 rfl) ?_
  refine g_callV (As := [.int (J x)]) (rest := []) (b := o) (ci := 6) (C := RX6) (T := TX6) (N := 28) ⟨hx, hb, hml, hown, hts⟩ (m_layState l g base sa h0 o R I A x hM ha ⟨hrm1, hrm2⟩ hrm.2.2) (cwV 1 hts gX6_isMade_X6_layState rfl rfl rfl (by decide +kernel) ⟨Nat.le_of_ble_eq_true rfl, Nat.le_of_ble_eq_true rfl⟩) hk hW hS hM.1 rfl rfl hl.1 (Nat.le_of_ble_eq_true rfl) dX6_isMade_2 ⟨Nat.le_of_ble_eq_true rfl, Nat.le_of_ble_eq_true rfl⟩ (fun r9 h9 H locs hp hW hS => ?_)
  obtain ⟨rfl, hF9, hM⟩ := hp
  refine W.eq (g2 := F0 m 5 ls []) rfl ?_
  have hF := hF.tr hF9 (fun q h1 _ => h1)
  generalize h9 = h at hM hF hW
  refine lv_iconst (v := J (0)) hx hb dX6_isMade_5 rfl ?_
  refine lv_istore (lv' := [(4, .int (J 0)), (0, .ref o), (1, .int (J x)), (2, .int (J i)), (3, .int (J v))]) hx hb dX6_isMade_6 hl (by decide) rfl (fun ls hl => ?_)
  refine lv_iconst (v := J (0)) hx hb dX6_isMade_8 rfl ?_
  refine lv_istore (lv' := [(5, .int (J 0)), (4, .int (J 0)), (0, .ref o), (1, .int (J x)), (2, .int (J i)), (3, .int (J v))]) hx hb dX6_isMade_9 hl (by decide) rfl (fun ls hl => ?_)
  have loop_11 : ∀ (n : Nat) (k : Int) (b : Bool) (h : Hp) (H : Heap) (locs : List Loc) (ls : Array Slot), I 7 - k < (n : Int) → (0 ≤ k ∧ k ≤ I 7) → (b = md (p_lay (I 7) (A 8) (A 9) x) i v k.toNat) → (OB g 6 28 kd6 h o R I mL (va_up A 9 (p_lay (I 7) (A 8) (A 9) x))) → (Fr (FP 28 kd6 o R) h0 h) → (Wd g base h H) → (va_S (Ab base) s.heap H locs) → (lv_has ls 6 [(0, .ref o), (1, .int (J x)), (2, .int (J i)), (3, .int (J v)), (4, .int (J (b2i b))), (5, .int (J k))]) → W p l e (headSpec wsX6_isMade ({ frames := 1, cells := 0, slots := 0, locals := 23 })).room s m ([.ref o, .int (J x), .int (J i), .int (J v)]).toArray below meth c H locs 0 0 (MQ below (QcM g base (fun r h' => r = some (.int (J (b2i (goM (I 7) (A 8) i v x)))) ∧ Fr (FP 28 kd6 o R) h0 h' ∧ OB g 6 28 kd6 h' o R I mL (va_up A 9 (p_lay (I 7) (A 8) (A 9) x)))) ([.ref o, .int (J x), .int (J i), .int (J v)]).toArray s (0) (0) (Ab base)) (F0 m 11 ls []) := by
    intro n
    induction n with
    | zero =>
      intro k b h H locs ls hmu hk9 eb hM hF hW hS hl
      exact absurd hmu (by omega)
    | succ n ih =>
      intro k b h H locs ls hmu hk9 eb hM hF hW hS hl
      have hbr := b2i_r b
      have ih_11 := ih
      refine lv_iload hx hb dX6_isMade_11 (lv_at hl 5 rfl) ?_
      refine lv_aload_n hx hb dX6_isMade_13 rfl (lv_at hl 0 rfl) ?_
      refine g_get (ci := 6) (C := RX6) (T := TX6) (N := 28) (v := .int (J (I 7))) hx hb hfX6 (fun _ h9 => h9) hown hk hW hM.1 rfl 7 (by decide) (hts (.fieldLink RX6 79 "JugsAndGlassesModel" "tried" "I") (by decide +kernel)) rfl rfl dX6_isMade_14 ?_
      refine j_icmp_ge (x := k) (y := I 7) (tgt := 60) hx hb ⟨by omega, by omega⟩ ⟨by omega, by omega⟩ dX6_isMade_17 (by decide) (fun c_17 => ?_) (fun c_17 => ?_)
      · refine lv_iload hx hb dX6_isMade_60 (lv_at hl 4 rfl) ?_
        exact g_zret hx hb hr (hbr) hW hS dX6_isMade_62 hlocks (⟨congrArg (fun z : Int => some (Value.int (J z))) (show b2i b = b2i (goM (I 7) (A 8) i v x) from by rw [eb, show k = I 7 by omega, goM_lay]), hF, hM⟩)
      · have hlv := lay_v hrm (A 9) x k hk9.1 (by omega)
        have hrk := hrm.2.2 k hk9.1 (by omega)
        have cut_52 : ∀ (t : Int) (ls : Array Slot), (t = b2i (md (p_lay (I 7) (A 8) (A 9) x) i v (k + 1).toNat)) → (lv_has ls 6 [(0, .ref o), (1, .int (J x)), (2, .int (J i)), (3, .int (J v)), (4, .int (J (b2i b))), (5, .int (J k))]) → W p l e (headSpec wsX6_isMade ({ frames := 1, cells := 0, slots := 0, locals := 23 })).room s m ([.ref o, .int (J x), .int (J i), .int (J v)]).toArray below meth c H locs 0 0 (MQ below (QcM g base (fun r h' => r = some (.int (J (b2i (goM (I 7) (A 8) i v x)))) ∧ Fr (FP 28 kd6 o R) h0 h' ∧ OB g 6 28 kd6 h' o R I mL (va_up A 9 (p_lay (I 7) (A 8) (A 9) x)))) ([.ref o, .int (J x), .int (J i), .int (J v)]).toArray s (0) (0) (Ab base)) (F0 m 52 ls [.int (J t)]) := by
          intro t  ls et hl
          subst et
          refine lv_istore (lv' := [(4, .int (J (b2i (md (p_lay (I 7) (A 8) (A 9) x) i v (k + 1).toNat)))), (0, .ref o), (1, .int (J x)), (2, .int (J i)), (3, .int (J v)), (5, .int (J k))]) hx hb dX6_isMade_52 hl (by decide) rfl (fun ls hl => ?_)
          refine lv_iinc (v := J (k + 1)) (lv' := [(5, .int (J (k + 1))), (4, .int (J (b2i (md (p_lay (I 7) (A 8) (A 9) x) i v (k + 1).toNat)))), (0, .ref o), (1, .int (J x)), (2, .int (J i)), (3, .int (J v))]) hx hb dX6_isMade_54 hl (k := 5) rfl (J_inc (by omega)) (by decide) rfl (fun ls hl => ?_)
          refine lv_goto (tgt := 11) hx hb dX6_isMade_57 (by decide) ?_
          exact ih_11 (k + 1) (md (p_lay (I 7) (A 8) (A 9) x) i v (k + 1).toNat) h H locs ls (by omega) (by omega) rfl hM hF hW hS (lv_sub hl [2, 3, 4, 5, 1, 0] rfl)
        refine lv_iload hx hb dX6_isMade_20 (lv_at hl 4 rfl) ?_
        refine j_if_ne (x := b2i b) (tgt := 47) hx hb ⟨by omega, by omega⟩ dX6_isMade_22 (by decide) (fun c_22 => ?_) (fun c_22 => ?_)
        · refine lv_iconst (v := J (1)) hx hb dX6_isMade_47 rfl ?_
          refine lv_goto (tgt := 52) hx hb dX6_isMade_48 (by decide) ?_
          exact cut_52 _  ls (by rw [md_s _ _ _ hk9.1, ← eb]; cases b <;> simp_all [b2i] <;> omega) (lv_sub hl [0, 1, 2, 3, 4, 5] rfl)
        · refine lv_iload_n hx hb dX6_isMade_25 rfl (lv_at hl 2 rfl) ?_
          refine lv_iconst (v := J (-1)) hx hb dX6_isMade_26 rfl ?_
          refine j_icmp_eq (x := i) (y := (-1)) (tgt := 36) hx hb ⟨by omega, by omega⟩ ⟨by omega, by omega⟩ dX6_isMade_27 (by decide) (fun c_27 => ?_) (fun c_27 => ?_)
          · refine lv_aload_n hx hb dX6_isMade_36 rfl (lv_at hl 0 rfl) ?_
            refine g_get (ci := 6) (C := RX6) (T := TX6) (N := 28) (v := .ref (R 9)) hx hb hfX6 (fun _ h9 => h9) hown hk hW hM.1 rfl 9 (by decide) (hts (.fieldLink RX6 29 "JugsAndGlassesModel" "has" "[I") (by decide +kernel)) rfl rfl dX6_isMade_37 ?_
            refine lv_iload hx hb dX6_isMade_40 (lv_at hl 5 rfl) ?_
            refine g_iald (n := 4) (f := p_lay (I 7) (A 8) (A 9) x) (i := k) hx hb hk hW (hM.ai 9 (by decide) rfl) (by omega) (by omega) (by omega) dX6_isMade_42 ?_
            refine lv_iload_n hx hb dX6_isMade_43 rfl (lv_at hl 3 rfl) ?_
            refine j_icmp_ne (x := (p_lay (I 7) (A 8) (A 9) x) k) (y := v) (tgt := 51) hx hb ⟨by omega, by omega⟩ ⟨by omega, by omega⟩ dX6_isMade_44 (by decide) (fun c_44 => ?_) (fun c_44 => ?_)
            · refine lv_iconst (v := J (0)) hx hb dX6_isMade_51 rfl ?_
              exact cut_52 _  ls (by rw [md_s _ _ _ hk9.1, ← eb]; cases b <;> simp_all [b2i] <;> omega) (lv_sub hl [0, 1, 2, 3, 4, 5] rfl)
            · refine lv_iconst (v := J (1)) hx hb dX6_isMade_47 rfl ?_
              refine lv_goto (tgt := 52) hx hb dX6_isMade_48 (by decide) ?_
              exact cut_52 _  ls (by rw [md_s _ _ _ hk9.1, ← eb]; cases b <;> simp_all [b2i] <;> omega) (lv_sub hl [0, 1, 2, 3, 4, 5] rfl)
          · refine lv_iload_n hx hb dX6_isMade_30 rfl (lv_at hl 2 rfl) ?_
            refine lv_iload hx hb dX6_isMade_31 (lv_at hl 5 rfl) ?_
            refine j_icmp_ne (x := i) (y := k) (tgt := 51) hx hb ⟨by omega, by omega⟩ ⟨by omega, by omega⟩ dX6_isMade_33 (by decide) (fun c_33 => ?_) (fun c_33 => ?_)
            · refine lv_iconst (v := J (0)) hx hb dX6_isMade_51 rfl ?_
              exact cut_52 _  ls (by rw [md_s _ _ _ hk9.1, ← eb]; cases b <;> simp_all [b2i] <;> omega) (lv_sub hl [0, 1, 2, 3, 4, 5] rfl)
            · refine lv_aload_n hx hb dX6_isMade_36 rfl (lv_at hl 0 rfl) ?_
              refine g_get (ci := 6) (C := RX6) (T := TX6) (N := 28) (v := .ref (R 9)) hx hb hfX6 (fun _ h9 => h9) hown hk hW hM.1 rfl 9 (by decide) (hts (.fieldLink RX6 29 "JugsAndGlassesModel" "has" "[I") (by decide +kernel)) rfl rfl dX6_isMade_37 ?_
              refine lv_iload hx hb dX6_isMade_40 (lv_at hl 5 rfl) ?_
              refine g_iald (n := 4) (f := p_lay (I 7) (A 8) (A 9) x) (i := k) hx hb hk hW (hM.ai 9 (by decide) rfl) (by omega) (by omega) (by omega) dX6_isMade_42 ?_
              refine lv_iload_n hx hb dX6_isMade_43 rfl (lv_at hl 3 rfl) ?_
              refine j_icmp_ne (x := (p_lay (I 7) (A 8) (A 9) x) k) (y := v) (tgt := 51) hx hb ⟨by omega, by omega⟩ ⟨by omega, by omega⟩ dX6_isMade_44 (by decide) (fun c_44 => ?_) (fun c_44 => ?_)
              · refine lv_iconst (v := J (0)) hx hb dX6_isMade_51 rfl ?_
                exact cut_52 _  ls (by rw [md_s _ _ _ hk9.1, ← eb]; cases b <;> simp_all [b2i] <;> omega) (lv_sub hl [0, 1, 2, 3, 4, 5] rfl)
              · refine lv_iconst (v := J (1)) hx hb dX6_isMade_47 rfl ?_
                refine lv_goto (tgt := 52) hx hb dX6_isMade_48 (by decide) ?_
                exact cut_52 _  ls (by rw [md_s _ _ _ hk9.1, ← eb]; cases b <;> simp_all [b2i] <;> omega) (lv_sub hl [0, 1, 2, 3, 4, 5] rfl)
  exact loop_11 ((I 7).toNat + 1) 0 false h H locs ls (by omega) (by omega) rfl hM hF hW hS (lv_sub hl [2, 3, 4, 5, 1, 0] rfl)

set_option maxHeartbeats 4000000 in
set_option maxRecDepth 100000 in
theorem m_costBy (l : Launch) (g : GX) (base : Nat) (sa : Nat → Nat) (h0 : Hp) (o : Nat) (R : Nat → Nat) (I : Nat → Int) (A : Nat → Int → Int) (x a ea : Int) (hM : OB g 6 28 kd6 h0 o R I mL A) (hx9 : 0 ≤ x ∧ x < 14641) (ha : 0 ≤ a ∧ a < 24) (hto : A 14 (24 * x + a) = -1 ∨ (0 ≤ A 14 (24 * x + a) ∧ A 14 (24 * x + a) < 14641 ∧ 0 ≤ A 16 (A 14 (24 * x + a)) ∧ A 16 (A 14 (24 * x + a)) ≤ 1000000000)) : MC l g base sa yX6_costBy wsX6_costBy ({ frames := 0, cells := 0, slots := 0, locals := 0 }) ([.ref o, .int (J x), .int (J a), .int (J ea)]) h0 (fun r h' => r = some (.int (J (CB (fun s a => A 14 (24 * s + a)) (fun s a => A 15 (24 * s + a)) ea (A 16) x a))) ∧ h' = h0) := by
  refine Met.ofW (cc := cX6_costBy) (maxL := 5) (ret := (some .int)) (by decide) rfl ?_
  intro p e s m args below meth c s₁ B hml hv
  obtain ⟨rfl, hk, hW⟩ := hv
  have hx := B.exec
  have hb := B.bytes
  have hr := B.returns
  have hts := atoms_spec (ws := wsX6_costBy) B.pre
  have hown : s.vm.findClass RX6 = some m.cls := findClass_of_methodNamed B.named
  have hlocks := B.notSynchronized
  have hfX6 : ∀ w ∈ wsX60, w.before ([.ref o, .int (J x), .int (J a), .int (J ea)]).toArray s = true := fun w h => hts w (List.mem_cons_of_mem _ (List.mem_append_right _ h))
  have hS : va_S (Ab base) s.heap s.heap [] := va_S.rf
  have hl := lv_entry ([.ref o, .int (J x), .int (J a), .int (J ea)]) (n := 5) (Nat.le_of_ble_eq_true rfl)
  rw [lg_entry_eq]
  generalize (lg_sl ([.ref o, .int (J x), .int (J a), .int (J ea)]) ++ List.replicate (5 - (lg_sl ([.ref o, .int (J x), .int (J a), .int (J ea)])).length) Slot.unset).toArray = ls at hl ⊢
  have hl : lv_has ls 5 [(0, .ref o), (1, .int (J x)), (2, .int (J a)), (3, .int (J ea))] := hl
  refine lv_aload_n hx hb dX6_costBy_0 rfl (lv_at hl 0 rfl) ?_
  refine g_get (ci := 6) (C := RX6) (T := TX6) (N := 28) (v := .ref (R 14)) hx hb hfX6 (fun _ h9 => h9) hown hk hW hM.1 rfl 14 (by decide) (hts (.fieldLink RX6 33 "JugsAndGlassesModel" "next" "[I") (by decide +kernel)) rfl rfl dX6_costBy_1 ?_
  refine lv_bipush (v := J (24)) hx hb dX6_costBy_4 (by decide) ?_
  refine lv_iload_n hx hb dX6_costBy_6 rfl (lv_at hl 1 rfl) ?_
  refine j_imul hx hb dX6_costBy_7 ?_
  refine lv_iload_n hx hb dX6_costBy_8 rfl (lv_at hl 2 rfl) ?_
  refine j_iadd hx hb dX6_costBy_9 ?_
  refine g_iald (n := 351384) (f := A 14) (i := (24 * x) + a) hx hb hk hW (hM.ai 14 (by decide) rfl) (by omega) (by omega) (by omega) dX6_costBy_10 ?_
  refine lv_istore (lv' := [(4, .int (J (A 14 ((24 * x) + a)))), (0, .ref o), (1, .int (J x)), (2, .int (J a)), (3, .int (J ea))]) hx hb dX6_costBy_11 hl (by decide) rfl (fun ls hl => ?_)
  refine lv_iload hx hb dX6_costBy_13 (lv_at hl 0 rfl) ?_
  refine lv_iconst (v := J (-1)) hx hb dX6_costBy_15 rfl ?_
  refine j_icmp_eq (x := A 14 ((24 * x) + a)) (y := (-1)) (tgt := 31) hx hb ⟨by omega, by omega⟩ ⟨by omega, by omega⟩ dX6_costBy_16 (by decide) (fun c_16 => ?_) (fun c_16 => ?_)
  · refine j_ldc (z := 1000000000) hx hb (by decide) hown (hts (.constant RX6 111 (1000000000)) (by decide +kernel)) dX6_costBy_31 ?_
    refine lv_goto (tgt := 59) hx hb dX6_costBy_33 (by decide) ?_
    exact g_iret hx hb hr hW hS dX6_costBy_59 hlocks (⟨congrArg (fun z : Int => some (Value.int (J z))) (show 1000000000 = CB (fun s a => A 14 (24 * s + a)) (fun s a => A 15 (24 * s + a)) ea (A 16) x a from by unfold CB fFAR; dsimp only; first | (rw [if_pos (by omega)]) | (rw [if_neg (by omega)])), rfl⟩)
  · refine lv_aload_n hx hb dX6_costBy_19 rfl (lv_at hl 1 rfl) ?_
    refine g_get (ci := 6) (C := RX6) (T := TX6) (N := 28) (v := .ref (R 16)) hx hb hfX6 (fun _ h9 => h9) hown hk hW hM.1 rfl 16 (by decide) (hts (.fieldLink RX6 39 "JugsAndGlassesModel" "costs" "[I") (by decide +kernel)) rfl rfl dX6_costBy_20 ?_
    refine lv_iload hx hb dX6_costBy_23 (lv_at hl 0 rfl) ?_
    refine g_iald (n := 14641) (f := A 16) (i := A 14 ((24 * x) + a)) hx hb hk hW (hM.ai 16 (by decide) rfl) (by omega) (by omega) (by omega) dX6_costBy_25 ?_
    refine j_ldc (z := 1000000000) hx hb (by decide) hown (hts (.constant RX6 111 (1000000000)) (by decide +kernel)) dX6_costBy_26 ?_
    refine j_icmp_ne (x := A 16 (A 14 ((24 * x) + a))) (y := 1000000000) (tgt := 36) hx hb ⟨by omega, by omega⟩ ⟨by decide, by decide⟩ dX6_costBy_28 (by decide) (fun c_28 => ?_) (fun c_28 => ?_)
    · refine lv_aload_n hx hb dX6_costBy_36 rfl (lv_at hl 1 rfl) ?_
      refine g_get (ci := 6) (C := RX6) (T := TX6) (N := 28) (v := .ref (R 16)) hx hb hfX6 (fun _ h9 => h9) hown hk hW hM.1 rfl 16 (by decide) (hts (.fieldLink RX6 39 "JugsAndGlassesModel" "costs" "[I") (by decide +kernel)) rfl rfl dX6_costBy_37 ?_
      refine lv_iload hx hb dX6_costBy_40 (lv_at hl 0 rfl) ?_
      refine g_iald (n := 14641) (f := A 16) (i := A 14 ((24 * x) + a)) hx hb hk hW (hM.ai 16 (by decide) rfl) (by omega) (by omega) (by omega) dX6_costBy_42 ?_
      refine lv_iconst (v := J (1)) hx hb dX6_costBy_43 rfl ?_
      refine j_iadd hx hb dX6_costBy_44 ?_
      refine lv_iload_n hx hb dX6_costBy_45 rfl (lv_at hl 4 rfl) ?_
      refine lv_aload_n hx hb dX6_costBy_46 rfl (lv_at hl 1 rfl) ?_
      refine g_get (ci := 6) (C := RX6) (T := TX6) (N := 28) (v := .ref (R 15)) hx hb hfX6 (fun _ h9 => h9) hown hk hW hM.1 rfl 15 (by decide) (hts (.fieldLink RX6 36 "JugsAndGlassesModel" "spills" "[I") (by decide +kernel)) rfl rfl dX6_costBy_47 ?_
      refine lv_bipush (v := J (24)) hx hb dX6_costBy_50 (by decide) ?_
      refine lv_iload_n hx hb dX6_costBy_52 rfl (lv_at hl 2 rfl) ?_
      refine j_imul hx hb dX6_costBy_53 ?_
      refine lv_iload_n hx hb dX6_costBy_54 rfl (lv_at hl 3 rfl) ?_
      refine j_iadd hx hb dX6_costBy_55 ?_
      refine g_iald (n := 351384) (f := A 15) (i := (24 * x) + a) hx hb hk hW (hM.ai 15 (by decide) rfl) (by omega) (by omega) (by omega) dX6_costBy_56 ?_
      refine j_imul hx hb dX6_costBy_57 ?_
      refine j_iadd hx hb dX6_costBy_58 ?_
      exact g_iret hx hb hr hW hS dX6_costBy_59 hlocks (⟨congrArg (fun z : Int => some (Value.int (J z))) (show ((A 16 (A 14 ((24 * x) + a))) + 1) + (ea * (A 15 ((24 * x) + a))) = CB (fun s a => A 14 (24 * s + a)) (fun s a => A 15 (24 * s + a)) ea (A 16) x a from by unfold CB fFAR; dsimp only; first | (rw [if_pos (by omega)]) | (rw [if_neg (by omega)])), rfl⟩)
    · refine j_ldc (z := 1000000000) hx hb (by decide) hown (hts (.constant RX6 111 (1000000000)) (by decide +kernel)) dX6_costBy_31 ?_
      refine lv_goto (tgt := 59) hx hb dX6_costBy_33 (by decide) ?_
      exact g_iret hx hb hr hW hS dX6_costBy_59 hlocks (⟨congrArg (fun z : Int => some (Value.int (J z))) (show 1000000000 = CB (fun s a => A 14 (24 * s + a)) (fun s a => A 15 (24 * s + a)) ea (A 16) x a from by unfold CB fFAR; dsimp only; first | (rw [if_pos (by omega)]) | (rw [if_neg (by omega)])), rfl⟩)
