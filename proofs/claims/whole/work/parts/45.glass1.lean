set_option maxHeartbeats 4000000 in
set_option maxRecDepth 100000 in
theorem g_sand (l : Launch) (g : GX) (base : Nat) (sa : Nat → Nat) (h0 : Hp) (o : Nat) (R : Nat → Nat) (I : Nat → Int) (L : Nat → Int) (A : Nat → Int → Int) (x ch i : Int) (hM : OB g 0 12 kd0 h0 o R I L A) (hL1 : L 1 = 3) (hx9 : 0 ≤ x ∧ x < 2147483648) (hc9 : 0 ≤ ch ∧ ch < 8) (hi9 : 0 ≤ i ∧ i < 3) : MC l g base sa yX0_sandAbove wsX0_sandAbove ({ frames := 0, cells := 0, slots := 0, locals := 0 }) ([.ref o, .int (J x), .int (J ch), .int (J i)]) h0 (fun r h' => r = some (.int (J (tv (A 1) (Dg 12 x) ch i))) ∧ h' = h0) := by
  refine Met.ofW (cc := cX0_sandAbove) (maxL := 6) (ret := (some .int)) (by decide) rfl ?_
  intro p e s m args below meth c s₁ B hml hv
  obtain ⟨rfl, hk, hW⟩ := hv
  have hx := B.exec
  have hb := B.bytes
  have hr := B.returns
  have hts := atoms_spec (ws := wsX0_sandAbove) B.pre
  have hown : s.vm.findClass RX0 = some m.cls := findClass_of_methodNamed B.named
  have hlocks := B.notSynchronized
  have hfX0 : ∀ w ∈ wsX00, w.before ([.ref o, .int (J x), .int (J ch), .int (J i)]).toArray s = true := fun w h => hts w (List.mem_cons_of_mem _ (List.mem_append_right _ h))
  have hS : va_S (Ab base) s.heap s.heap [] := va_S.rf
  have hl := lv_entry ([.ref o, .int (J x), .int (J ch), .int (J i)]) (n := 6) (Nat.le_of_ble_eq_true rfl)
  rw [lg_entry_eq]
  generalize (lg_sl ([.ref o, .int (J x), .int (J ch), .int (J i)]) ++ List.replicate (6 - (lg_sl ([.ref o, .int (J x), .int (J ch), .int (J i)])).length) Slot.unset).toArray = ls at hl ⊢
  have hl : lv_has ls 6 [(0, .ref o), (1, .int (J x)), (2, .int (J ch)), (3, .int (J i))] := hl
  refine lv_iload_n hx hb dX0_sandAbove_0 rfl (lv_at hl 1 rfl) ?_
  refine lv_istore (lv' := [(4, .int (J x)), (0, .ref o), (1, .int (J x)), (2, .int (J ch)), (3, .int (J i))]) hx hb dX0_sandAbove_1 hl (by decide) rfl (fun ls hl => ?_)
  refine lv_iconst (v := J (0)) hx hb dX0_sandAbove_3 rfl ?_
  refine lv_istore (lv' := [(5, .int (J 0)), (4, .int (J x)), (0, .ref o), (1, .int (J x)), (2, .int (J ch)), (3, .int (J i))]) hx hb dX0_sandAbove_4 hl (by decide) rfl (fun ls hl => ?_)
  have loop_6 : ∀ (n9 : Nat) (y : Int) (k : Int) (h : Hp) (H : Heap) (locs : List Loc) (ls : Array Slot), i - k < (n9 : Int) → (0 ≤ k ∧ k ≤ i) → (y = dq 12 x k.toNat) → (h = h0) → (OB g 0 12 kd0 h o R I L A) → (Wd g base h H) → (va_S (Ab base) s.heap H locs) → (lv_has ls 6 [(0, .ref o), (1, .int (J x)), (2, .int (J ch)), (3, .int (J i)), (4, .int (J y)), (5, .int (J k))]) → W p l e (headSpec wsX0_sandAbove ({ frames := 0, cells := 0, slots := 0, locals := 0 })).room s m ([.ref o, .int (J x), .int (J ch), .int (J i)]).toArray below meth c H locs 0 0 (MQ below (QcM g base (fun r h' => r = some (.int (J (tv (A 1) (Dg 12 x) ch i))) ∧ h' = h0)) ([.ref o, .int (J x), .int (J ch), .int (J i)]).toArray s (0) (0) (Ab base)) (F0 m 6 ls []) := by
    intro n9
    induction n9 with
    | zero =>
      intro y k h H locs ls hmu hk9 ey eh hM hW hS hl
      exact absurd hmu (by omega)
    | succ n9 ih =>
      intro y k h H locs ls hmu hk9 ey eh hM hW hS hl
      have hyr := dq_r (b := 12) (by omega) hx9.1 k.toNat
      rw [← ey] at hyr
      have ih_6 := ih
      refine lv_iload hx hb dX0_sandAbove_6 (lv_at hl 5 rfl) ?_
      refine lv_iload_n hx hb dX0_sandAbove_8 rfl (lv_at hl 3 rfl) ?_
      refine j_icmp_ge (x := k) (y := i) (tgt := 25) hx hb ⟨by omega, by omega⟩ ⟨by omega, by omega⟩ dX0_sandAbove_9 (by decide) (fun c_9 => ?_) (fun c_9 => ?_)
      · refine lv_iload hx hb dX0_sandAbove_25 (lv_at hl 4 rfl) ?_
        refine lv_bipush (v := J (12)) hx hb dX0_sandAbove_27 (by decide) ?_
        refine j_irem hx hb (by omega) (by omega) (by omega) (by omega) dX0_sandAbove_29 ?_
        refine lv_istore (lv' := [(5, .int (J (y % 12))), (0, .ref o), (1, .int (J x)), (2, .int (J ch)), (3, .int (J i)), (4, .int (J y))]) hx hb dX0_sandAbove_30 hl (by decide) rfl (fun ls hl => ?_)
        refine lv_iload_n hx hb dX0_sandAbove_32 rfl (lv_at hl 3 rfl) ?_
        refine lv_iload_n hx hb dX0_sandAbove_33 rfl (lv_at hl 4 rfl) ?_
        have hpn : 0 ≤ ch / 2 ^ i.toNat ∧ ch / 2 ^ i.toNat ≤ ch := ⟨Int.ediv_nonneg hc9.1 (Int.le_of_lt (Int.pow_pos (by decide))), Int.ediv_le_self _ hc9.1⟩
        refine j_ishr (x := ch) (y := i) hx hb (by omega) (by omega) (by omega) (by omega) dX0_sandAbove_34 ?_
        refine lv_iconst (v := J (1)) hx hb dX0_sandAbove_35 rfl ?_
        refine j_and1 (x := ch / 2 ^ (i).toNat) hx hb (hpn.1) dX0_sandAbove_36 ?_
        refine lv_iconst (v := J (1)) hx hb dX0_sandAbove_37 rfl ?_
        refine j_icmp_ne (x := (ch / 2 ^ (i).toNat) % 2) (y := 1) (tgt := 53) hx hb ⟨by omega, by omega⟩ ⟨by decide, by decide⟩ dX0_sandAbove_38 (by decide) (fun c_38 => ?_) (fun c_38 => ?_)
        · refine lv_iload hx hb dX0_sandAbove_53 (lv_at hl 0 rfl) ?_
          exact g_iret hx hb hr hW hS dX0_sandAbove_55 hlocks (⟨congrArg (fun q : Int => some (Value.int (J q))) (show y % 12 = tv (A 1) (Dg 12 x) ch i from by unfold tv Dg; rw [show k = i by omega] at ey; first | (rw [if_pos (by omega), ← ey]) | (rw [if_neg (by omega), ← ey])), eh⟩)
        · refine lv_aload_n hx hb dX0_sandAbove_41 rfl (lv_at hl 1 rfl) ?_
          refine g_get (ci := 0) (C := RX0) (T := TX0) (N := 12) (v := .ref (R 1)) hx hb hfX0 (fun _ h9 => h9) hown hk hW hM.1 rfl 1 (by decide) (hts (.fieldLink RX0 15 "JugsAndGlasses$Glasses" "span" "[I") (by decide +kernel)) rfl rfl dX0_sandAbove_42 ?_
          refine lv_iload_n hx hb dX0_sandAbove_45 rfl (lv_at hl 4 rfl) ?_
          refine g_iald (n := L 1) (f := A 1) (i := i) hx hb hk hW (hM.ai 1 (by decide) rfl) (by omega) (by omega) (by omega) dX0_sandAbove_46 ?_
          refine lv_iload hx hb dX0_sandAbove_47 (lv_at hl 0 rfl) ?_
          refine j_isub hx hb dX0_sandAbove_49 ?_
          refine lv_goto (tgt := 55) hx hb dX0_sandAbove_50 (by decide) ?_
          exact g_iret hx hb hr hW hS dX0_sandAbove_55 hlocks (⟨congrArg (fun q : Int => some (Value.int (J q))) (show (A 1 i) - (y % 12) = tv (A 1) (Dg 12 x) ch i from by unfold tv Dg; rw [show k = i by omega] at ey; first | (rw [if_pos (by omega), ← ey]) | (rw [if_neg (by omega), ← ey])), eh⟩)
      · refine lv_iload hx hb dX0_sandAbove_12 (lv_at hl 4 rfl) ?_
        refine lv_bipush (v := J (12)) hx hb dX0_sandAbove_14 (by decide) ?_
        refine j_idiv hx hb (by omega) (by omega) (by omega) (by omega) dX0_sandAbove_16 ?_
        refine lv_istore (lv' := [(4, .int (J (y / 12))), (0, .ref o), (1, .int (J x)), (2, .int (J ch)), (3, .int (J i)), (5, .int (J k))]) hx hb dX0_sandAbove_17 hl (by decide) rfl (fun ls hl => ?_)
        refine lv_iinc (v := J (k + 1)) (lv' := [(5, .int (J (k + 1))), (4, .int (J (y / 12))), (0, .ref o), (1, .int (J x)), (2, .int (J ch)), (3, .int (J i))]) hx hb dX0_sandAbove_19 hl (k := 5) rfl (J_inc (by omega)) (by decide) rfl (fun ls hl => ?_)
        refine lv_goto (tgt := 6) hx hb dX0_sandAbove_22 (by decide) ?_
        exact ih_6 (y / 12) (k + 1) h H locs ls (by omega) (by omega) (by rw [dq_s _ _ hk9.1, ey]) eh hM hW hS (lv_sub hl [2, 3, 4, 5, 1, 0] rfl)
  exact loop_6 4 x 0 h0 s.heap [] ls (by omega) (by omega) rfl rfl hM hW hS (lv_sub hl [2, 3, 4, 5, 1, 0] rfl)

theorem pl12 {i : Int} (h0 : 0 ≤ i) (h1 : i < 3) : k_place i = 12 ^ i.toNat := by
  have : i = 0 ∨ i = 1 ∨ i = 2 := by omega
  rcases this with rfl | rfl | rfl <;> decide

set_option maxHeartbeats 4000000 in
set_option maxRecDepth 100000 in
theorem g_leap (l : Launch) (g : GX) (base : Nat) (sa : Nat → Nat) (h0 : Hp) (o : Nat) (R : Nat → Nat) (I : Nat → Int) (L : Nat → Int) (A : Nat → Int → Int) (x ch : Int) (hM : OB g 0 12 kd0 h0 o R I L A) (hL1 : L 1 = 3) (hsk : Sok (I 0) (A 1)) (hx9 : 0 ≤ x ∧ x < 1728) (hc9 : 0 ≤ ch ∧ ch < 8) : MC l g base sa yX0_leapFrom wsX0_leapFrom ({ frames := 2, cells := 0, slots := 0, locals := 80 }) ([.ref o, .int (J x), .int (J ch)]) h0 (fun r h' => r = some (.int (J (lp (I 0) (A 1) x ch))) ∧ h' = h0) := by
  refine Met.ofW (cc := cX0_leapFrom) (maxL := 6) (ret := (some .int)) (by decide) rfl ?_
  intro p e s m args below meth c s₁ B hml hv
  obtain ⟨rfl, hk, hW⟩ := hv
  have hx := B.exec
  have hb := B.bytes
  have hr := B.returns
  have hts := atoms_spec (ws := wsX0_leapFrom) B.pre
  have hown : s.vm.findClass RX0 = some m.cls := findClass_of_methodNamed B.named
  have hlocks := B.notSynchronized
  have hfX0 : ∀ w ∈ wsX00, w.before ([.ref o, .int (J x), .int (J ch)]).toArray s = true := fun w h => hts w (List.mem_cons_of_mem _ (List.mem_append_right _ h))
  have hS : va_S (Ab base) s.heap s.heap [] := va_S.rf
  have hl := lv_entry ([.ref o, .int (J x), .int (J ch)]) (n := 6) (Nat.le_of_ble_eq_true rfl)
  rw [lg_entry_eq]
  generalize (lg_sl ([.ref o, .int (J x), .int (J ch)]) ++ List.replicate (6 - (lg_sl ([.ref o, .int (J x), .int (J ch)])).length) Slot.unset).toArray = ls at hl ⊢
  have hl : lv_has ls 6 [(0, .ref o), (1, .int (J x)), (2, .int (J ch))] := hl
  have hn1 := hsk.1
  have hn2 := hsk.2.1
  refine j_ldc (z := 1000000) hx hb (by decide) hown (hts (.constant RX0 77 (1000000)) (by decide +kernel)) dX0_leapFrom_0 ?_
  refine lv_istore_n (lv' := [(3, .int (J 1000000)), (0, .ref o), (1, .int (J x)), (2, .int (J ch))]) hx hb dX0_leapFrom_2 rfl hl (by decide) rfl (fun ls hl => ?_)
  refine lv_iconst (v := J (0)) hx hb dX0_leapFrom_3 rfl ?_
  refine lv_istore (lv' := [(4, .int (J 0)), (3, .int (J 1000000)), (0, .ref o), (1, .int (J x)), (2, .int (J ch))]) hx hb dX0_leapFrom_4 hl (by decide) rfl (fun ls hl => ?_)
  have loop_6 : ∀ (n9 : Nat) (f : Int) (i : Int) (h : Hp) (H : Heap) (locs : List Loc) (ls : Array Slot), I 0 - i < (n9 : Int) → (0 ≤ i ∧ i ≤ I 0) → (f = ff (lv9 (I 0) (A 1) x ch) 1000000 i.toNat) → (f = 1000000 ∨ (1 ≤ f ∧ f ≤ 12)) → (h = h0) → (OB g 0 12 kd0 h o R I L A) → (Wd g base h H) → (va_S (Ab base) s.heap H locs) → (lv_has ls 6 [(0, .ref o), (1, .int (J x)), (2, .int (J ch)), (3, .int (J f)), (4, .int (J i))]) → W p l e (headSpec wsX0_leapFrom ({ frames := 2, cells := 0, slots := 0, locals := 80 })).room s m ([.ref o, .int (J x), .int (J ch)]).toArray below meth c H locs 0 0 (MQ below (QcM g base (fun r h' => r = some (.int (J (lp (I 0) (A 1) x ch))) ∧ h' = h0)) ([.ref o, .int (J x), .int (J ch)]).toArray s (0) (0) (Ab base)) (F0 m 6 ls []) := by
    intro n9
    induction n9 with
    | zero =>
      intro f i h H locs ls hmu hi9 ef hfr eh hM hW hS hl
      exact absurd hmu (by omega)
    | succ n9 ih =>
      intro f i h H locs ls hmu hi9 ef hfr eh hM hW hS hl
      have ih_6 := ih
      refine lv_iload hx hb dX0_leapFrom_6 (lv_at hl 4 rfl) ?_
      refine lv_aload_n hx hb dX0_leapFrom_8 rfl (lv_at hl 0 rfl) ?_
      refine g_get (ci := 0) (C := RX0) (T := TX0) (N := 12) (v := .int (J (I 0))) hx hb hfX0 (fun _ h9 => h9) hown hk hW hM.1 rfl 0 (by decide) (hts (.fieldLink RX0 9 "JugsAndGlasses$Glasses" "number" "I") (by decide +kernel)) rfl rfl dX0_leapFrom_9 ?_
      refine j_icmp_ge (x := i) (y := I 0) (tgt := 51) hx hb ⟨by omega, by omega⟩ ⟨by omega, by omega⟩ dX0_leapFrom_12 (by decide) (fun c_12 => ?_) (fun c_12 => ?_)
      · have elf : f = lf (I 0) (A 1) x ch := by unfold lf; rw [ef, show i = I 0 by omega]
        refine lv_iload_n hx hb dX0_leapFrom_51 rfl (lv_at hl 3 rfl) ?_
        refine j_ldc (z := 1000000) hx hb (by decide) hown (hts (.constant RX0 77 (1000000)) (by decide +kernel)) dX0_leapFrom_52 ?_
        refine j_icmp_ne (x := f) (y := 1000000) (tgt := 59) hx hb ⟨by omega, by omega⟩ ⟨by decide, by decide⟩ dX0_leapFrom_54 (by decide) (fun c_54 => ?_) (fun c_54 => ?_)
        · refine lv_iconst (v := J (0)) hx hb dX0_leapFrom_59 rfl ?_
          refine lv_istore (lv' := [(4, .int (J 0)), (0, .ref o), (1, .int (J x)), (2, .int (J ch)), (3, .int (J f))]) hx hb dX0_leapFrom_60 hl (by decide) rfl (fun ls hl => ?_)
          refine lv_iconst (v := J (0)) hx hb dX0_leapFrom_62 rfl ?_
          refine lv_istore (lv' := [(5, .int (J 0)), (4, .int (J 0)), (0, .ref o), (1, .int (J x)), (2, .int (J ch)), (3, .int (J f))]) hx hb dX0_leapFrom_63 hl (by decide) rfl (fun ls hl => ?_)
          have loop_65 : ∀ (n9 : Nat) (z : Int) (i : Int) (h : Hp) (H : Heap) (locs : List Loc) (ls : Array Slot), I 0 - i < (n9 : Int) → (0 ≤ i ∧ i ≤ I 0) → (z = ec 12 (fun k => max 0 (lv9 (I 0) (A 1) x ch k - lf (I 0) (A 1) x ch)) i.toNat) → (h = h0) → (OB g 0 12 kd0 h o R I L A) → (Wd g base h H) → (va_S (Ab base) s.heap H locs) → (lv_has ls 6 [(0, .ref o), (1, .int (J x)), (2, .int (J ch)), (3, .int (J f)), (4, .int (J z)), (5, .int (J i))]) → W p l e (headSpec wsX0_leapFrom ({ frames := 2, cells := 0, slots := 0, locals := 80 })).room s m ([.ref o, .int (J x), .int (J ch)]).toArray below meth c H locs 0 0 (MQ below (QcM g base (fun r h' => r = some (.int (J (lp (I 0) (A 1) x ch))) ∧ h' = h0)) ([.ref o, .int (J x), .int (J ch)]).toArray s (0) (0) (Ab base)) (F0 m 65 ls []) := by
            intro n9
            induction n9 with
            | zero =>
              intro z i h H locs ls hmu hi9 ez eh hM hW hS hl
              exact absurd hmu (by omega)
            | succ n9 ih =>
              intro z i h H locs ls hmu hi9 ez eh hM hW hS hl
              have ih_65 := ih
              refine lv_iload hx hb dX0_leapFrom_65 (lv_at hl 5 rfl) ?_
              refine lv_aload_n hx hb dX0_leapFrom_67 rfl (lv_at hl 0 rfl) ?_
              refine g_get (ci := 0) (C := RX0) (T := TX0) (N := 12) (v := .int (J (I 0))) hx hb hfX0 (fun _ h9 => h9) hown hk hW hM.1 rfl 0 (by decide) (hts (.fieldLink RX0 9 "JugsAndGlasses$Glasses" "number" "I") (by decide +kernel)) rfl rfl dX0_leapFrom_68 ?_
              refine j_icmp_ge (x := i) (y := I 0) (tgt := 112) hx hb ⟨by omega, by omega⟩ ⟨by omega, by omega⟩ dX0_leapFrom_71 (by decide) (fun c_71 => ?_) (fun c_71 => ?_)
              · refine lv_iload hx hb dX0_leapFrom_112 (lv_at hl 4 rfl) ?_
                refine lv_bipush (v := J (16)) hx hb dX0_leapFrom_114 (by decide) ?_
                refine j_imul hx hb dX0_leapFrom_116 ?_
                refine lv_iload_n hx hb dX0_leapFrom_117 rfl (lv_at hl 3 rfl) ?_
                refine j_iadd hx hb dX0_leapFrom_118 ?_
                exact g_iret hx hb hr hW hS dX0_leapFrom_119 hlocks (⟨congrArg (fun q : Int => some (Value.int (J q))) (show (z * 16) + f = lp (I 0) (A 1) x ch from by unfold lp lt9; rw [if_neg (by omega), ez, show i = I 0 by omega, elf]), eh⟩)
              · refine lv_iload hx hb dX0_leapFrom_74 (lv_at hl 5 rfl) ?_
                refine lv_iconst (v := J (3)) hx hb dX0_leapFrom_76 rfl ?_
                refine j_icmp_ge (x := i) (y := 3) (tgt := 112) hx hb ⟨by omega, by omega⟩ ⟨by decide, by decide⟩ dX0_leapFrom_77 (by decide) (fun c_77 => ?_) (fun c_77 => ?_)
                · exfalso
                  omega
                · refine lv_iload hx hb dX0_leapFrom_80 (lv_at hl 4 rfl) ?_
                  refine lv_iconst (v := J (0)) hx hb dX0_leapFrom_82 rfl ?_
                  refine lv_aload_n hx hb dX0_leapFrom_83 rfl (lv_at hl 0 rfl) ?_
                  refine lv_iload_n hx hb dX0_leapFrom_84 rfl (lv_at hl 1 rfl) ?_
                  refine lv_iload_n hx hb dX0_leapFrom_85 rfl (lv_at hl 2 rfl) ?_
                  refine lv_iload hx hb dX0_leapFrom_86 (lv_at hl 5 rfl) ?_
                  refine g_callV (As := [.int (J x), .int (J ch), .int (J i)]) (rest := [.int (J 0), .int (J z)]) (b := o) (ci := 0) (C := RX0) (T := TX0) (N := 12) ⟨hx, hb, hml, hown, hts⟩ (g_sand l g base sa h o R I L A x ch i hM hL1 ⟨by omega, by omega⟩ hc9 ⟨by omega, by omega⟩) (cwV 3 hts gX0_leapFrom_X0_sandAbove rfl rfl rfl (by decide +kernel) ⟨Nat.le_of_ble_eq_true rfl, Nat.le_of_ble_eq_true rfl⟩) hk hW hS hM.1 rfl rfl hl.1 (Nat.le_of_ble_eq_true rfl) dX0_leapFrom_88 ⟨Nat.le_of_ble_eq_true rfl, Nat.le_of_ble_eq_true rfl⟩ (fun r9 h9 H locs hp hW hS => ?_)
                  have hp : r9 = some (.int (J (lv9 (I 0) (A 1) x ch i))) ∧ h9 = h := hp
                  obtain ⟨rfl, e9⟩ := hp
                  rw [e9] at hW
                  refine W.eq (g2 := F0 m 91 ls [.int (J (lv9 (I 0) (A 1) x ch i)), .int (J 0), .int (J z)]) rfl ?_
                  have hvr := lv9_r hsk (x := x) (ch := ch) hi9.1 (show i < I 0 by omega)
                  refine lv_iload_n hx hb dX0_leapFrom_91 rfl (lv_at hl 3 rfl) ?_
                  refine j_isub hx hb dX0_leapFrom_92 ?_
                  refine j_mmax (x := 0) (y := (lv9 (I 0) (A 1) x ch i) - f) hx hb (by rw [hml]; exact hl.1.symm) hown (hts (.methodLink RX0 82 Lib.Math.max.name) (by decide +kernel)) (hts (.static Lib.Math.max.name) (by decide +kernel)) (hts (.initialized "java/lang/Math") (by decide +kernel)) (hts (.code Lib.Math.max.name Lib.Math.max.code 2 (some .int)) (by decide +kernel)) (Nat.le_of_ble_eq_true rfl) (Nat.le_of_ble_eq_true rfl) (Nat.le_of_ble_eq_true rfl) (Nat.le_of_ble_eq_true rfl) ⟨by decide, by decide⟩ ⟨by omega, by omega⟩ dX0_leapFrom_93 ?_
                  refine g_stat hx hb hk.2.2.2.2.2.1 hS hown (hts (.fieldLink RX0 87 "JugsAndGlasses$Glasses" "PLACE" "[I") (by decide +kernel)) dX0_leapFrom_96 ?_
                  refine lv_iload hx hb dX0_leapFrom_99 (lv_at hl 5 rfl) ?_
                  refine g_sald hx hb hk.2.2.2.2.2.1 hS (by omega) (by omega) (by decide) dX0_leapFrom_101 ?_
                  refine j_imul hx hb dX0_leapFrom_102 ?_
                  refine j_iadd hx hb dX0_leapFrom_103 ?_
                  refine lv_istore (lv' := [(4, .int (J (z + ((max 0 ((lv9 (I 0) (A 1) x ch i) - f)) * (k_place i))))), (0, .ref o), (1, .int (J x)), (2, .int (J ch)), (3, .int (J f)), (5, .int (J i))]) hx hb dX0_leapFrom_104 hl (by decide) rfl (fun ls hl => ?_)
                  refine lv_iinc (v := J (i + 1)) (lv' := [(5, .int (J (i + 1))), (4, .int (J (z + ((max 0 ((lv9 (I 0) (A 1) x ch i) - f)) * (k_place i))))), (0, .ref o), (1, .int (J x)), (2, .int (J ch)), (3, .int (J f))]) hx hb dX0_leapFrom_106 hl (k := 5) rfl (J_inc (by omega)) (by decide) rfl (fun ls hl => ?_)
                  refine lv_goto (tgt := 65) hx hb dX0_leapFrom_109 (by decide) ?_
                  exact ih_65 (z + ((max 0 ((lv9 (I 0) (A 1) x ch i) - f)) * (k_place i))) (i + 1) h H locs ls (by omega) (by omega) (by rw [ec_s _ _ hi9.1, ← ez, ← elf, ← pl12 hi9.1 (by omega)]) eh hM hW hS (lv_sub hl [2, 3, 4, 5, 1, 0] rfl)
          exact loop_65 4 0 0 h H locs ls (by omega) (by omega) rfl eh hM hW hS (lv_sub hl [2, 3, 4, 5, 1, 0] rfl)
        · refine lv_iconst (v := J (-1)) hx hb dX0_leapFrom_57 rfl ?_
          exact g_iret hx hb hr hW hS dX0_leapFrom_58 hlocks (⟨congrArg (fun q : Int => some (Value.int (J q))) (show -1 = lp (I 0) (A 1) x ch from by unfold lp; rw [if_pos (by omega)]), eh⟩)
      · refine lv_iload hx hb dX0_leapFrom_15 (lv_at hl 4 rfl) ?_
        refine lv_iconst (v := J (3)) hx hb dX0_leapFrom_17 rfl ?_
        refine j_icmp_ge (x := i) (y := 3) (tgt := 51) hx hb ⟨by omega, by omega⟩ ⟨by decide, by decide⟩ dX0_leapFrom_18 (by decide) (fun c_18 => ?_) (fun c_18 => ?_)
        · exfalso
          omega
        · refine lv_aload_n hx hb dX0_leapFrom_21 rfl (lv_at hl 0 rfl) ?_
          refine lv_iload_n hx hb dX0_leapFrom_22 rfl (lv_at hl 1 rfl) ?_
          refine lv_iload_n hx hb dX0_leapFrom_23 rfl (lv_at hl 2 rfl) ?_
          refine lv_iload hx hb dX0_leapFrom_24 (lv_at hl 4 rfl) ?_
          refine g_callV (As := [.int (J x), .int (J ch), .int (J i)]) (rest := []) (b := o) (ci := 0) (C := RX0) (T := TX0) (N := 12) ⟨hx, hb, hml, hown, hts⟩ (g_sand l g base sa h o R I L A x ch i hM hL1 ⟨by omega, by omega⟩ hc9 ⟨by omega, by omega⟩) (cwV 3 hts gX0_leapFrom_X0_sandAbove rfl rfl rfl (by decide +kernel) ⟨Nat.le_of_ble_eq_true rfl, Nat.le_of_ble_eq_true rfl⟩) hk hW hS hM.1 rfl rfl hl.1 (Nat.le_of_ble_eq_true rfl) dX0_leapFrom_26 ⟨Nat.le_of_ble_eq_true rfl, Nat.le_of_ble_eq_true rfl⟩ (fun r9 h9 H locs hp hW hS => ?_)
          have hp : r9 = some (.int (J (lv9 (I 0) (A 1) x ch i))) ∧ h9 = h := hp
          obtain ⟨rfl, e9⟩ := hp
          rw [e9] at hW
          refine W.eq (g2 := F0 m 29 ls [.int (J (lv9 (I 0) (A 1) x ch i))]) rfl ?_
          have hvr := lv9_r hsk (x := x) (ch := ch) hi9.1 (show i < I 0 by omega)
          refine lv_istore (lv' := [(5, .int (J (lv9 (I 0) (A 1) x ch i))), (0, .ref o), (1, .int (J x)), (2, .int (J ch)), (3, .int (J f)), (4, .int (J i))]) hx hb dX0_leapFrom_29 hl (by decide) rfl (fun ls hl => ?_)
          refine lv_iload hx hb dX0_leapFrom_31 (lv_at hl 0 rfl) ?_
          refine j_if_le (x := lv9 (I 0) (A 1) x ch i) (tgt := 45) hx hb ⟨by omega, by omega⟩ dX0_leapFrom_33 (by decide) (fun c_33 => ?_) (fun c_33 => ?_)
          · refine lv_iinc (v := J (i + 1)) (lv' := [(4, .int (J (i + 1))), (5, .int (J (lv9 (I 0) (A 1) x ch i))), (0, .ref o), (1, .int (J x)), (2, .int (J ch)), (3, .int (J f))]) hx hb dX0_leapFrom_45 hl (k := 5) rfl (J_inc (by omega)) (by decide) rfl (fun ls hl => ?_)
            refine lv_goto (tgt := 6) hx hb dX0_leapFrom_48 (by decide) ?_
            exact ih_6 f (i + 1) h H locs ls (by omega) (by omega) (by rw [ff_s _ _ hi9.1, ← ef, if_neg (by omega)]) hfr eh hM hW hS (lv_sub hl [2, 3, 4, 5, 0] rfl)
          · refine lv_iload hx hb dX0_leapFrom_36 (lv_at hl 0 rfl) ?_
            refine lv_iload_n hx hb dX0_leapFrom_38 rfl (lv_at hl 4 rfl) ?_
            refine j_icmp_ge (x := lv9 (I 0) (A 1) x ch i) (y := f) (tgt := 45) hx hb ⟨by omega, by omega⟩ ⟨by omega, by omega⟩ dX0_leapFrom_39 (by decide) (fun c_39 => ?_) (fun c_39 => ?_)
            · refine lv_iinc (v := J (i + 1)) (lv' := [(4, .int (J (i + 1))), (5, .int (J (lv9 (I 0) (A 1) x ch i))), (0, .ref o), (1, .int (J x)), (2, .int (J ch)), (3, .int (J f))]) hx hb dX0_leapFrom_45 hl (k := 5) rfl (J_inc (by omega)) (by decide) rfl (fun ls hl => ?_)
              refine lv_goto (tgt := 6) hx hb dX0_leapFrom_48 (by decide) ?_
              exact ih_6 f (i + 1) h H locs ls (by omega) (by omega) (by rw [ff_s _ _ hi9.1, ← ef, if_neg (by omega)]) hfr eh hM hW hS (lv_sub hl [2, 3, 4, 5, 0] rfl)
            · refine lv_iload hx hb dX0_leapFrom_42 (lv_at hl 0 rfl) ?_
              refine lv_istore_n (lv' := [(3, .int (J (lv9 (I 0) (A 1) x ch i))), (5, .int (J (lv9 (I 0) (A 1) x ch i))), (0, .ref o), (1, .int (J x)), (2, .int (J ch)), (4, .int (J i))]) hx hb dX0_leapFrom_44 rfl hl (by decide) rfl (fun ls hl => ?_)
              refine lv_iinc (v := J (i + 1)) (lv' := [(4, .int (J (i + 1))), (3, .int (J (lv9 (I 0) (A 1) x ch i))), (5, .int (J (lv9 (I 0) (A 1) x ch i))), (0, .ref o), (1, .int (J x)), (2, .int (J ch))]) hx hb dX0_leapFrom_45 hl (k := 5) rfl (J_inc (by omega)) (by decide) rfl (fun ls hl => ?_)
              refine lv_goto (tgt := 6) hx hb dX0_leapFrom_48 (by decide) ?_
              exact ih_6 (lv9 (I 0) (A 1) x ch i) (i + 1) h H locs ls (by omega) (by omega) (by rw [ff_s _ _ hi9.1, ← ef, if_pos (by omega)]) (by omega) eh hM hW hS (lv_sub hl [3, 4, 5, 1, 0] rfl)
  exact loop_6 4 1000000 0 h0 s.heap [] ls (by omega) (by omega) rfl (Or.inl rfl) rfl hM hW hS (lv_sub hl [2, 3, 4, 1, 0] rfl)
