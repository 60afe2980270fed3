theorem m_try2 (l : Launch) (g : GX) (base : Nat) (sa : Nat → Nat) (h0 : Hp) (o : Nat) (R : Nat → Nat) (I : Nat → Int) (A : Nat → Int → Int) (hM : OB g 6 28 kd6 h0 o R I mL A) (hm : Mok I A) : MC l g base sa yX6_tryOwn wsX6_tryOwn ({ frames := 0, cells := 0, slots := 0, locals := 0 }) ([.ref o]) h0 (fun r h' => r = none ∧ Fr (FP 28 kd6 o R) h0 h' ∧ ∃ I' A', OB g 6 28 kd6 h' o R I' mL A' ∧ RS I I' A A' ∧ Tok I' A' ∧ ∀ a, p_mv (I' 7) (I' 10) (I' 11) (A' 8) (A' 9) a = p_mv (I 0) (I 3) (I 4) (A 1) (A 2) a) :=
  MC.imp (m_tryOwn l g base sa h0 o R I A hM ⟨hm.1, hm.2.1⟩ hm.2.2.1 hm.2.2.2.1) (fun r h' hp => ⟨hp.1, hp.2.1, _, _, hp.2.2, ⟨rfl, rfl, rfl, rfl, rfl, rfl, rfl⟩, Tok_own hm, fun a => p_mv_cp _ _ _ _ _ _ _ a⟩)
theorem m_does2 (l : Launch) (g : GX) (base : Nat) (sa : Nat → Nat) (h0 : Hp) (o : Nat) (R : Nat → Nat) (I : Nat → Int) (A : Nat → Int → Int) (a : Int) (hM : OB g 6 28 kd6 h0 o R I mL A) (ha : 0 ≤ a ∧ a < 24) (ht : Tok I A) : MC l g base sa yX6_does wsX6_does ({ frames := 0, cells := 0, slots := 0, locals := 0 }) ([.ref o, .int (J a)]) h0 (fun r h' => ∃ I' A', r = some (.int (J (if 0 < p_mv (I 7) (I 10) (I 11) (A 8) (A 9) a then 1 else 0))) ∧ Fr (FP 28 kd6 o R) h0 h' ∧ OB g 6 28 kd6 h' o R I' mL A' ∧ RS I I' A A') :=
  MC.imp (m_does l g base sa h0 o R I A a hM ha ht) (fun r h' hp => by
    obtain ⟨I', h1, h2, h3, h4, -⟩ := hp
    exact ⟨I', _, h1, h2, h3, h4 0 (by decide) (by decide), h4 3 (by decide) (by decide), h4 4 (by decide) (by decide), h4 5 (by decide) (by decide), rfl, rfl, rfl⟩)

set_option maxHeartbeats 4000000 in
set_option maxRecDepth 100000 in
theorem m_count (l : Launch) (g : GX) (base : Nat) (sa : Nat → Nat) (h0 : Hp) (o : Nat) (R : Nat → Nat) (I : Nat → Int) (A : Nat → Int → Int) (a : Int) (hM : OB g 6 28 kd6 h0 o R I mL A) (ha9 : i32 a) (hm : Mok I A) : MC l g base sa yX6_count wsX6_count ({ frames := 1, cells := 0, slots := 0, locals := 23 }) ([.ref o, .int (J a)]) h0 (fun r h' => Fr (FP 28 kd6 o R) h0 h' ∧ ∃ I' A', OB g 6 28 kd6 h' o R I' mL A' ∧ RS I I' A A' ∧ r = some (.int (J (if a = 0 then I 0 else if a = 1 then I 5 else if a = 2 then sT (A 2) (I 0) else if a = 3 then sT (fun b => if 0 < p_mv (I 0) (I 3) (I 4) (A 1) (A 2) b then 1 else 0) 24 else -2)))) := by
  refine Met.ofW (cc := cX6_count) (maxL := 4) (ret := (some .int)) (by decide) rfl ?_
  intro p e s m args below meth c s₁ B hml hv
  obtain ⟨rfl, hk, hW⟩ := hv
  have hx := B.exec
  have hb := B.bytes
  have hr := B.returns
  have hts := atoms_spec (ws := wsX6_count) B.pre
  have hown : s.vm.findClass RX6 = some m.cls := findClass_of_methodNamed B.named
  have hlocks := B.notSynchronized
  have hfX6 : ∀ w ∈ wsX60, w.before ([.ref o, .int (J a)]).toArray s = true := fun w h => hts w (List.mem_cons_of_mem _ (List.mem_append_right _ h))
  have hS : va_S (Ab base) s.heap s.heap [] := va_S.rf
  have hl := lv_entry ([.ref o, .int (J a)]) (n := 4) (Nat.le_of_ble_eq_true rfl)
  rw [lg_entry_eq]
  generalize (lg_sl ([.ref o, .int (J a)]) ++ List.replicate (4 - (lg_sl ([.ref o, .int (J a)])).length) Slot.unset).toArray = ls at hl ⊢
  have hl : lv_has ls 4 [(0, .ref o), (1, .int (J a))] := hl
  have hF : Fr (FP 28 kd6 o R) h0 h0 := Fr.rf
  have hn : 0 ≤ I 0 ∧ I 0 ≤ 4 := ⟨hm.1, hm.2.1⟩
  have hrf : RS I I A A := ⟨rfl, rfl, rfl, rfl, rfl, rfl, rfl⟩
  refine lv_iconst (v := J (0)) hx hb dX6_count_0 rfl ?_
  refine lv_istore_n (lv' := [(2, .int (J 0)), (0, .ref o), (1, .int (J a))]) hx hb dX6_count_1 rfl hl (by decide) rfl (fun ls hl => ?_)
  refine lv_iload_n hx hb dX6_count_2 rfl (lv_at hl 2 rfl) ?_
  by_cases c_3 : 0 ≤ a ∧ a ≤ 3
  · rcases (show a = 0 ∨ a = 1 ∨ a = 2 ∨ a = 3 by omega) with e_3 | e_3 | e_3 | e_3
    · refine lv_tableIn (off := 29) (tgt := 32) hx hb dX6_count_3 (by rw [J_toInt ha9]; omega) (by rw [J_toInt ha9]; omega) (by rw [J_toInt ha9, e_3]; rfl) (by decide) ?_
      refine lv_aload_n hx hb dX6_count_32 rfl (lv_at hl 1 rfl) ?_
      refine g_get (ci := 6) (C := RX6) (T := TX6) (N := 28) (v := .int (J (I 0))) hx hb hfX6 (fun _ h9 => h9) hown hk hW hM.1 rfl 0 (by decide) (hts (.fieldLink RX6 67 "JugsAndGlassesModel" "jugs" "I") (by decide +kernel)) rfl rfl dX6_count_33 ?_
      exact g_iret hx hb hr hW hS dX6_count_36 hlocks (⟨hF, _, _, hM, hrf, by rw [e_3]; rfl⟩)
    · refine lv_tableIn (off := 34) (tgt := 37) hx hb dX6_count_3 (by rw [J_toInt ha9]; omega) (by rw [J_toInt ha9]; omega) (by rw [J_toInt ha9, e_3]; rfl) (by decide) ?_
      refine lv_aload_n hx hb dX6_count_37 rfl (lv_at hl 1 rfl) ?_
      refine g_get (ci := 6) (C := RX6) (T := TX6) (N := 28) (v := .int (J (I 5))) hx hb hfX6 (fun _ h9 => h9) hown hk hW hM.1 rfl 5 (by decide) (hts (.fieldLink RX6 155 "JugsAndGlassesModel" "glasses" "I") (by decide +kernel)) rfl rfl dX6_count_38 ?_
      exact g_iret hx hb hr hW hS dX6_count_41 hlocks (⟨hF, _, _, hM, hrf, by rw [e_3]; rfl⟩)
    · refine lv_tableIn (off := 39) (tgt := 42) hx hb dX6_count_3 (by rw [J_toInt ha9]; omega) (by rw [J_toInt ha9]; omega) (by rw [J_toInt ha9, e_3]; rfl) (by decide) ?_
      refine lv_iconst (v := J (0)) hx hb dX6_count_42 rfl ?_
      refine lv_istore_n (lv' := [(3, .int (J 0)), (2, .int (J 0)), (0, .ref o), (1, .int (J a))]) hx hb dX6_count_43 rfl hl (by decide) rfl (fun ls hl => ?_)
      have loop_44 : ∀ (n9 : Nat) (z : Int) (i : Int) (h : Hp) (H : Heap) (locs : List Loc) (ls : Array Slot), I 0 - i < (n9 : Int) → (0 ≤ i ∧ i ≤ I 0) → (z = sT (A 2) i) → (OB g 6 28 kd6 h o R I mL A) → (Fr (FP 28 kd6 o R) h0 h) → (Wd g base h H) → (va_S (Ab base) s.heap H locs) → (lv_has ls 4 [(0, .ref o), (1, .int (J a)), (2, .int (J z)), (3, .int (J i))]) → W p l e (headSpec wsX6_count ({ frames := 1, cells := 0, slots := 0, locals := 23 })).room s m ([.ref o, .int (J a)]).toArray below meth c H locs 0 0 (MQ below (QcM g base (fun r h' => Fr (FP 28 kd6 o R) h0 h' ∧ ∃ I' A', OB g 6 28 kd6 h' o R I' mL A' ∧ RS I I' A A' ∧ r = some (.int (J (if a = 0 then I 0 else if a = 1 then I 5 else if a = 2 then sT (A 2) (I 0) else if a = 3 then sT (fun b => if 0 < p_mv (I 0) (I 3) (I 4) (A 1) (A 2) b then 1 else 0) 24 else -2))))) ([.ref o, .int (J a)]).toArray s (0) (0) (Ab base)) (F0 m 44 ls []) := by
        intro n9
        induction n9 with
        | zero =>
          intro z i h H locs ls hmu hi9 ez hM hF hW hS hl
          exact absurd hmu (by omega)
        | succ n9 ih =>
          intro z i h H locs ls hmu hi9 ez hM hF hW hS hl
          have ih_44 := ih
          refine lv_iload_n hx hb dX6_count_44 rfl (lv_at hl 3 rfl) ?_
          refine lv_aload_n hx hb dX6_count_45 rfl (lv_at hl 0 rfl) ?_
          refine g_get (ci := 6) (C := RX6) (T := TX6) (N := 28) (v := .int (J (I 0))) hx hb hfX6 (fun _ h9 => h9) hown hk hW hM.1 rfl 0 (by decide) (hts (.fieldLink RX6 67 "JugsAndGlassesModel" "jugs" "I") (by decide +kernel)) rfl rfl dX6_count_46 ?_
          refine j_icmp_ge (x := i) (y := I 0) (tgt := 67) hx hb ⟨by omega, by omega⟩ ⟨by omega, by omega⟩ dX6_count_49 (by decide) (fun c_49 => ?_) (fun c_49 => ?_)
          · refine lv_iload_n hx hb dX6_count_67 rfl (lv_at hl 2 rfl) ?_
            exact g_iret hx hb hr hW hS dX6_count_68 hlocks (⟨hF, _, _, hM, hrf, by rw [e_3, ez, show i = I 0 by omega]; rfl⟩)
          · refine lv_iload_n hx hb dX6_count_52 rfl (lv_at hl 2 rfl) ?_
            refine lv_aload_n hx hb dX6_count_53 rfl (lv_at hl 0 rfl) ?_
            refine g_get (ci := 6) (C := RX6) (T := TX6) (N := 28) (v := .ref (R 2)) hx hb hfX6 (fun _ h9 => h9) hown hk hW hM.1 rfl 2 (by decide) (hts (.fieldLink RX6 13 "JugsAndGlassesModel" "held" "[I") (by decide +kernel)) rfl rfl dX6_count_54 ?_
            refine lv_iload_n hx hb dX6_count_57 rfl (lv_at hl 3 rfl) ?_
            refine g_iald (n := 4) (f := A 2) (i := i) hx hb hk hW (hM.ai 2 (by decide) rfl) (by omega) (by omega) (by omega) dX6_count_58 ?_
            refine j_iadd hx hb dX6_count_59 ?_
            refine lv_istore_n (lv' := [(2, .int (J (z + (A 2 i)))), (0, .ref o), (1, .int (J a)), (3, .int (J i))]) hx hb dX6_count_60 rfl hl (by decide) rfl (fun ls hl => ?_)
            refine lv_iinc (v := J (i + 1)) (lv' := [(3, .int (J (i + 1))), (2, .int (J (z + (A 2 i)))), (0, .ref o), (1, .int (J a))]) hx hb dX6_count_61 hl (k := 3) rfl (J_inc (by omega)) (by decide) rfl (fun ls hl => ?_)
            refine lv_goto (tgt := 44) hx hb dX6_count_64 (by decide) ?_
            exact ih_44 (z + (A 2 i)) (i + 1) h H locs ls (by omega) (by omega) (by rw [sT_s _ hi9.1, ← ez]) hM hF hW hS (lv_sub hl [2, 3, 1, 0] rfl)
      exact loop_44 5 0 0 h0 s.heap [] ls (by omega) (by omega) rfl hM hF hW hS (lv_sub hl [2, 3, 1, 0] rfl)
    · refine lv_tableIn (off := 66) (tgt := 69) hx hb dX6_count_3 (by rw [J_toInt ha9]; omega) (by rw [J_toInt ha9]; omega) (by rw [J_toInt ha9, e_3]; rfl) (by decide) ?_
      refine lv_iconst (v := J (0)) hx hb dX6_count_69 rfl ?_
      refine lv_istore_n (lv' := [(3, .int (J 0)), (2, .int (J 0)), (0, .ref o), (1, .int (J a))]) hx hb dX6_count_70 rfl hl (by decide) rfl (fun ls hl => ?_)
      have loop_71 : ∀ (n9 : Nat) (z : Int) (i : Int) (J1 : Nat → Int) (A1 : Nat → Int → Int) (h : Hp) (H : Heap) (locs : List Loc) (ls : Array Slot), 24 - i < (n9 : Int) → (0 ≤ i ∧ i ≤ 24) → (z = sT (fun b => if 0 < p_mv (I 0) (I 3) (I 4) (A 1) (A 2) b then 1 else 0) i) → (RS I J1 A A1) → (OB g 6 28 kd6 h o R J1 mL A1) → (Fr (FP 28 kd6 o R) h0 h) → (Wd g base h H) → (va_S (Ab base) s.heap H locs) → (lv_has ls 4 [(0, .ref o), (1, .int (J a)), (2, .int (J z)), (3, .int (J i))]) → W p l e (headSpec wsX6_count ({ frames := 1, cells := 0, slots := 0, locals := 23 })).room s m ([.ref o, .int (J a)]).toArray below meth c H locs 0 0 (MQ below (QcM g base (fun r h' => Fr (FP 28 kd6 o R) h0 h' ∧ ∃ I' A', OB g 6 28 kd6 h' o R I' mL A' ∧ RS I I' A A' ∧ r = some (.int (J (if a = 0 then I 0 else if a = 1 then I 5 else if a = 2 then sT (A 2) (I 0) else if a = 3 then sT (fun b => if 0 < p_mv (I 0) (I 3) (I 4) (A 1) (A 2) b then 1 else 0) 24 else -2))))) ([.ref o, .int (J a)]).toArray s (0) (0) (Ab base)) (F0 m 71 ls []) := by
        intro n9
        induction n9 with
        | zero =>
          intro z i J1 A1 h H locs ls hmu hi9 ez hRS hM hF hW hS hl
          exact absurd hmu (by omega)
        | succ n9 ih =>
          intro z i J1 A1 h H locs ls hmu hi9 ez hRS hM hF hW hS hl
          have ih_71 := ih
          refine lv_iload_n hx hb dX6_count_71 rfl (lv_at hl 3 rfl) ?_
          refine lv_bipush (v := J (24)) hx hb dX6_count_72 (by decide) ?_
          refine j_icmp_ge (x := i) (y := 24) (tgt := 103) hx hb ⟨by omega, by omega⟩ ⟨by decide, by decide⟩ dX6_count_74 (by decide) (fun c_74 => ?_) (fun c_74 => ?_)
          · refine lv_iload_n hx hb dX6_count_103 rfl (lv_at hl 2 rfl) ?_
            exact g_iret hx hb hr hW hS dX6_count_104 hlocks (⟨hF, J1, A1, hM, hRS, by rw [e_3, ez, show i = 24 by omega]; rfl⟩)
          · refine lv_aload_n hx hb dX6_count_77 rfl (lv_at hl 0 rfl) ?_
            refine g_callV (As := []) (rest := []) (b := o) (ci := 6) (C := RX6) (T := TX6) (N := 28) ⟨hx, hb, hml, hown, hts⟩ (m_try2 l g base sa h o R J1 A1 hM (hRS.mok hm)) (cwV 0 hts gX6_count_X6_tryOwn rfl rfl rfl (by decide +kernel) ⟨Nat.le_of_ble_eq_true rfl, Nat.le_of_ble_eq_true rfl⟩) hk hW hS hM.1 rfl rfl hl.1 (Nat.le_of_ble_eq_true rfl) dX6_count_78 ⟨Nat.le_of_ble_eq_true rfl, Nat.le_of_ble_eq_true rfl⟩ (fun r9 h9 H locs hp hW hS => ?_)
            obtain ⟨rfl, hF9, J2, A2, hM, hRS1, hTok, hpv⟩ := hp
            refine W.eq (g2 := F0 m 81 ls []) rfl ?_
            have hF := hF.tr hF9 (fun q w _ => w)
            generalize h9 = h at hM hF hW
            have hRS2 := hRS.tr hRS1
            refine lv_iload_n hx hb dX6_count_81 rfl (lv_at hl 2 rfl) ?_
            refine lv_aload_n hx hb dX6_count_82 rfl (lv_at hl 0 rfl) ?_
            refine lv_iload_n hx hb dX6_count_83 rfl (lv_at hl 3 rfl) ?_
            refine g_callV (As := [.int (J i)]) (rest := [.int (J z)]) (b := o) (ci := 6) (C := RX6) (T := TX6) (N := 28) ⟨hx, hb, hml, hown, hts⟩ (m_does2 l g base sa h o R J2 A2 i hM ⟨by omega, by omega⟩ hTok) (cwV 1 hts gX6_count_X6_does rfl rfl rfl (by decide +kernel) ⟨Nat.le_of_ble_eq_true rfl, Nat.le_of_ble_eq_true rfl⟩) hk hW hS hM.1 rfl rfl hl.1 (Nat.le_of_ble_eq_true rfl) dX6_count_84 ⟨Nat.le_of_ble_eq_true rfl, Nat.le_of_ble_eq_true rfl⟩ (fun r9 h9 H locs hp hW hS => ?_)
            obtain ⟨J3, A3, rfl, hF9, hM, hRS3⟩ := hp
            refine W.eq (g2 := F0 m 87 ls [.int (J (if 0 < p_mv (J2 7) (J2 10) (J2 11) (A2 8) (A2 9) i then 1 else 0)), .int (J z)]) rfl ?_
            have hF := hF.tr hF9 (fun q w _ => w)
            generalize h9 = h at hM hF hW
            have hRS4 := hRS2.tr hRS3
            have hpe : p_mv (J2 7) (J2 10) (J2 11) (A2 8) (A2 9) i = p_mv (I 0) (I 3) (I 4) (A 1) (A 2) i := by rw [hpv i, hRS.1, hRS.2.1, hRS.2.2.1, hRS.2.2.2.2.1, hRS.2.2.2.2.2.1]
            rw [hpe]
            refine j_if_eq (x := if 0 < p_mv (I 0) (I 3) (I 4) (A 1) (A 2) i then 1 else 0) (tgt := 94) hx hb (if01_r _) dX6_count_87 (by decide) (fun c_87 => ?_) (fun c_87 => ?_)
            · refine lv_iconst (v := J (0)) hx hb dX6_count_94 rfl ?_
              refine j_iadd hx hb dX6_count_95 ?_
              refine lv_istore_n (lv' := [(2, .int (J (z + 0))), (0, .ref o), (1, .int (J a)), (3, .int (J i))]) hx hb dX6_count_96 rfl hl (by decide) rfl (fun ls hl => ?_)
              refine lv_iinc (v := J (i + 1)) (lv' := [(3, .int (J (i + 1))), (2, .int (J (z + 0))), (0, .ref o), (1, .int (J a))]) hx hb dX6_count_97 hl (k := 3) rfl (J_inc (by omega)) (by decide) rfl (fun ls hl => ?_)
              refine lv_goto (tgt := 71) hx hb dX6_count_100 (by decide) ?_
              exact ih_71 (z + 0) (i + 1) J3 A3 h H locs ls (by omega) (by omega) (by rw [sT_s _ hi9.1, ← ez]; first | (rw [if_pos (if01_p c_87)]) | (rw [if_neg (if01_n c_87)])) hRS4 hM hF hW hS (lv_sub hl [2, 3, 1, 0] rfl)
            · refine lv_iconst (v := J (1)) hx hb dX6_count_90 rfl ?_
              refine lv_goto (tgt := 95) hx hb dX6_count_91 (by decide) ?_
              refine j_iadd hx hb dX6_count_95 ?_
              refine lv_istore_n (lv' := [(2, .int (J (z + 1))), (0, .ref o), (1, .int (J a)), (3, .int (J i))]) hx hb dX6_count_96 rfl hl (by decide) rfl (fun ls hl => ?_)
              refine lv_iinc (v := J (i + 1)) (lv' := [(3, .int (J (i + 1))), (2, .int (J (z + 1))), (0, .ref o), (1, .int (J a))]) hx hb dX6_count_97 hl (k := 3) rfl (J_inc (by omega)) (by decide) rfl (fun ls hl => ?_)
              refine lv_goto (tgt := 71) hx hb dX6_count_100 (by decide) ?_
              exact ih_71 (z + 1) (i + 1) J3 A3 h H locs ls (by omega) (by omega) (by rw [sT_s _ hi9.1, ← ez]; first | (rw [if_pos (if01_p c_87)]) | (rw [if_neg (if01_n c_87)])) hRS4 hM hF hW hS (lv_sub hl [2, 3, 1, 0] rfl)
      exact loop_71 25 0 0 I A h0 s.heap [] ls (by omega) (by omega) rfl hrf hM hF hW hS (lv_sub hl [2, 3, 1, 0] rfl)
  · refine lv_tableOut (tgt := 105) hx hb dX6_count_3 (by rw [J_toInt ha9]; omega) (by decide) ?_
    refine lv_bipush (v := J (-2)) hx hb dX6_count_105 (by decide) ?_
    exact g_iret hx hb hr hW hS dX6_count_107 hlocks (⟨hF, _, _, hM, hrf, by rw [if_neg (by omega), if_neg (by omega), if_neg (by omega), if_neg (by omega)]⟩)

set_option maxHeartbeats 4000000 in
set_option maxRecDepth 100000 in
theorem m_doRise (l : Launch) (g : GX) (base : Nat) (sa : Nat → Nat) (h0 : Hp) (o : Nat) (R : Nat → Nat) (I : Nat → Int) (A : Nat → Int → Int) (hM : OB g 6 28 kd6 h0 o R I mL A) (hrm : Rm (I 7) (A 8)) (hk1 : 1 ≤ I 7) : MC l g base sa yX6_doRise wsX6_doRise ({ frames := 0, cells := 0, slots := 0, locals := 0 }) ([.ref o]) h0 (fun r h' => (∃ z, r = some (.int (J z)) ∧ (z = 0 ∨ z = 1) ∧ (z = 1 ↔ Ris (I 7) (A 8))) ∧ h' = h0) := by
  refine Met.ofW (cc := cX6_doRise) (maxL := 3) (ret := (some .boolean)) (by decide) rfl ?_
  intro p e s m args below meth c s₁ B hml hv
  obtain ⟨rfl, hk, hW⟩ := hv
  have hx := B.exec
  have hb := B.bytes
  have hr := B.returns
  have hts := atoms_spec (ws := wsX6_doRise) B.pre
  have hown : s.vm.findClass RX6 = some m.cls := findClass_of_methodNamed B.named
  have hlocks := B.notSynchronized
  have hfX6 : ∀ w ∈ wsX60, w.before ([.ref o]).toArray s = true := fun w h => hts w (List.mem_cons_of_mem _ (List.mem_append_right _ h))
  have hS : va_S (Ab base) s.heap s.heap [] := va_S.rf
  have hl := lv_entry ([.ref o]) (n := 3) (Nat.le_of_ble_eq_true rfl)
  rw [lg_entry_eq]
  generalize (lg_sl ([.ref o]) ++ List.replicate (3 - (lg_sl ([.ref o])).length) Slot.unset).toArray = ls at hl ⊢
  have hl : lv_has ls 3 [(0, .ref o)] := hl
  have hr2 := hrm.2.1
  refine lv_iconst (v := J (1)) hx hb dX6_doRise_0 rfl ?_
  refine lv_istore_n (lv' := [(1, .int (J 1)), (0, .ref o)]) hx hb dX6_doRise_1 rfl hl (by decide) rfl (fun ls hl => ?_)
  refine lv_iconst (v := J (1)) hx hb dX6_doRise_2 rfl ?_
  refine lv_istore_n (lv' := [(2, .int (J 1)), (1, .int (J 1)), (0, .ref o)]) hx hb dX6_doRise_3 rfl hl (by decide) rfl (fun ls hl => ?_)
  have loop_4 : ∀ (n9 : Nat) (b : Int) (i : Int) (h : Hp) (H : Heap) (locs : List Loc) (ls : Array Slot), I 7 - i < (n9 : Int) → (1 ≤ i ∧ i ≤ I 7) → (b = 0 ∨ b = 1) → (b = 1 ↔ ∀ j, 1 ≤ j → j < i → A 8 (j - 1) ≤ A 8 j) → (h = h0) → (OB g 6 28 kd6 h o R I mL A) → (Wd g base h H) → (va_S (Ab base) s.heap H locs) → (lv_has ls 3 [(0, .ref o), (1, .int (J b)), (2, .int (J i))]) → W p l e (headSpec wsX6_doRise ({ frames := 0, cells := 0, slots := 0, locals := 0 })).room s m ([.ref o]).toArray below meth c H locs 0 0 (MQ below (QcM g base (fun r h' => (∃ z, r = some (.int (J z)) ∧ (z = 0 ∨ z = 1) ∧ (z = 1 ↔ Ris (I 7) (A 8))) ∧ h' = h0)) ([.ref o]).toArray s (0) (0) (Ab base)) (F0 m 4 ls []) := by
    intro n9
    induction n9 with
    | zero =>
      intro b i h H locs ls hmu hi9 hb9 hbi eh hM hW hS hl
      exact absurd hmu (by omega)
    | succ n9 ih =>
      intro b i h H locs ls hmu hi9 hb9 hbi eh hM hW hS hl
      have ih_4 := ih
      refine lv_iload_n hx hb dX6_doRise_4 rfl (lv_at hl 2 rfl) ?_
      refine lv_aload_n hx hb dX6_doRise_5 rfl (lv_at hl 0 rfl) ?_
      refine g_get (ci := 6) (C := RX6) (T := TX6) (N := 28) (v := .int (J (I 7))) hx hb hfX6 (fun _ h9 => h9) hown hk hW hM.1 rfl 7 (by decide) (hts (.fieldLink RX6 79 "JugsAndGlassesModel" "tried" "I") (by decide +kernel)) rfl rfl dX6_doRise_6 ?_
      refine j_icmp_ge (x := i) (y := I 7) (tgt := 45) hx hb ⟨by omega, by omega⟩ ⟨by omega, by omega⟩ dX6_doRise_9 (by decide) (fun c_9 => ?_) (fun c_9 => ?_)
      · refine lv_iload_n hx hb dX6_doRise_45 rfl (lv_at hl 1 rfl) ?_
        exact g_zret hx hb hr (hb9) hW hS dX6_doRise_46 hlocks (⟨⟨b, rfl, hb9, by have e9 : i = I 7 := (by omega); rw [e9] at hbi; exact hbi⟩, eh⟩)
      · refine lv_iload_n hx hb dX6_doRise_12 rfl (lv_at hl 1 rfl) ?_
        refine j_if_eq (x := b) (tgt := 37) hx hb ⟨by omega, by omega⟩ dX6_doRise_13 (by decide) (fun c_13 => ?_) (fun c_13 => ?_)
        · refine lv_iconst (v := J (0)) hx hb dX6_doRise_37 rfl ?_
          refine lv_istore_n (lv' := [(1, .int (J 0)), (0, .ref o), (2, .int (J i))]) hx hb dX6_doRise_38 rfl hl (by decide) rfl (fun ls hl => ?_)
          refine lv_iinc (v := J (i + 1)) (lv' := [(2, .int (J (i + 1))), (1, .int (J 0)), (0, .ref o)]) hx hb dX6_doRise_39 hl (k := 2) rfl (J_inc (by omega)) (by decide) rfl (fun ls hl => ?_)
          refine lv_goto (tgt := 4) hx hb dX6_doRise_42 (by decide) ?_
          exact ih_4 0 (i + 1) h H locs ls (by omega) (by omega) (by omega) (⟨fun w => absurd w (by decide), fun w => by first | (have := w i (by omega) (by omega); omega) | (have := hbi.mpr (fun j j0 j1 => w j j0 (by omega)); omega)⟩) eh hM hW hS (lv_sub hl [2, 1, 0] rfl)
        · have hv1 := hrm.2.2 i (by omega) (by omega)
          have hv2 := hrm.2.2 (i - 1) (by omega) (by omega)
          refine lv_aload_n hx hb dX6_doRise_16 rfl (lv_at hl 0 rfl) ?_
          refine g_get (ci := 6) (C := RX6) (T := TX6) (N := 28) (v := .ref (R 8)) hx hb hfX6 (fun _ h9 => h9) hown hk hW hM.1 rfl 8 (by decide) (hts (.fieldLink RX6 26 "JugsAndGlassesModel" "room" "[I") (by decide +kernel)) rfl rfl dX6_doRise_17 ?_
          refine lv_iload_n hx hb dX6_doRise_20 rfl (lv_at hl 2 rfl) ?_
          refine g_iald (n := 4) (f := A 8) (i := i) hx hb hk hW (hM.ai 8 (by decide) rfl) (by omega) (by omega) (by omega) dX6_doRise_21 ?_
          refine lv_aload_n hx hb dX6_doRise_22 rfl (lv_at hl 0 rfl) ?_
          refine g_get (ci := 6) (C := RX6) (T := TX6) (N := 28) (v := .ref (R 8)) hx hb hfX6 (fun _ h9 => h9) hown hk hW hM.1 rfl 8 (by decide) (hts (.fieldLink RX6 26 "JugsAndGlassesModel" "room" "[I") (by decide +kernel)) rfl rfl dX6_doRise_23 ?_
          refine lv_iload_n hx hb dX6_doRise_26 rfl (lv_at hl 2 rfl) ?_
          refine lv_iconst (v := J (1)) hx hb dX6_doRise_27 rfl ?_
          refine j_isub hx hb dX6_doRise_28 ?_
          refine g_iald (n := 4) (f := A 8) (i := i - 1) hx hb hk hW (hM.ai 8 (by decide) rfl) (by omega) (by omega) (by omega) dX6_doRise_29 ?_
          refine j_icmp_lt (x := A 8 i) (y := A 8 (i - 1)) (tgt := 37) hx hb ⟨by omega, by omega⟩ ⟨by omega, by omega⟩ dX6_doRise_30 (by decide) (fun c_30 => ?_) (fun c_30 => ?_)
          · refine lv_iconst (v := J (0)) hx hb dX6_doRise_37 rfl ?_
            refine lv_istore_n (lv' := [(1, .int (J 0)), (0, .ref o), (2, .int (J i))]) hx hb dX6_doRise_38 rfl hl (by decide) rfl (fun ls hl => ?_)
            refine lv_iinc (v := J (i + 1)) (lv' := [(2, .int (J (i + 1))), (1, .int (J 0)), (0, .ref o)]) hx hb dX6_doRise_39 hl (k := 2) rfl (J_inc (by omega)) (by decide) rfl (fun ls hl => ?_)
            refine lv_goto (tgt := 4) hx hb dX6_doRise_42 (by decide) ?_
            exact ih_4 0 (i + 1) h H locs ls (by omega) (by omega) (by omega) (⟨fun w => absurd w (by decide), fun w => by first | (have := w i (by omega) (by omega); omega) | (have := hbi.mpr (fun j j0 j1 => w j j0 (by omega)); omega)⟩) eh hM hW hS (lv_sub hl [2, 1, 0] rfl)
          · refine lv_iconst (v := J (1)) hx hb dX6_doRise_33 rfl ?_
            refine lv_goto (tgt := 38) hx hb dX6_doRise_34 (by decide) ?_
            refine lv_istore_n (lv' := [(1, .int (J 1)), (0, .ref o), (2, .int (J i))]) hx hb dX6_doRise_38 rfl hl (by decide) rfl (fun ls hl => ?_)
            refine lv_iinc (v := J (i + 1)) (lv' := [(2, .int (J (i + 1))), (1, .int (J 1)), (0, .ref o)]) hx hb dX6_doRise_39 hl (k := 2) rfl (J_inc (by omega)) (by decide) rfl (fun ls hl => ?_)
            refine lv_goto (tgt := 4) hx hb dX6_doRise_42 (by decide) ?_
            exact ih_4 1 (i + 1) h H locs ls (by omega) (by omega) (by omega) (⟨fun _ j j0 j1 => by by_cases e : j = i; (subst e; omega); exact hbi.mp (by omega) j j0 (by omega), fun _ => rfl⟩) eh hM hW hS (lv_sub hl [2, 1, 0] rfl)
  exact loop_4 5 1 1 h0 s.heap [] ls (by omega) (by omega) (Or.inr rfl) (⟨fun _ j j0 j1 => absurd j1 (by omega), fun _ => rfl⟩) rfl hM hW hS (lv_sub hl [2, 1, 0] rfl)

set_option maxHeartbeats 4000000 in
set_option maxRecDepth 100000 in
theorem m_makesAll (l : Launch) (g : GX) (base : Nat) (sa : Nat → Nat) (h0 : Hp) (o : Nat) (R : Nat → Nat) (I : Nat → Int) (A : Nat → Int → Int) (b : Int) (hM : OB g 6 28 kd6 h0 o R I mL A) (hrm : Rm (I 7) (A 8)) (h10 : I 10 = 1) (h11 : I 11 = 1) (hb9 : 1 ≤ b ∧ b ≤ 10) : MC l g base sa yX6_makesAll wsX6_makesAll ({ frames := 2, cells := 0, slots := 0, locals := 49 }) ([.ref o, .int (J b)]) h0 (fun r h' => ∃ z I' A', r = some (.int (J z)) ∧ (z = 0 ∨ z = 1) ∧ (z = 1 ↔ MA (I 7) (A 8) b) ∧ Fr (FP 28 kd6 o R) h0 h' ∧ OB g 6 28 kd6 h' o R I' mL A' ∧ (∀ k, k ≠ 12 → k ≠ 13 → I' k = I k) ∧ ∀ k, k ≠ 9 → k ≠ 19 → k ≠ 20 → A' k = A k) := by
  refine Met.ofW (cc := cX6_makesAll) (maxL := 4) (ret := (some .boolean)) (by decide) rfl ?_
  intro p e s m args below meth c s₁ B hml hv
  obtain ⟨rfl, hk, hW⟩ := hv
  have hx := B.exec
  have hb := B.bytes
  have hr := B.returns
  have hts := atoms_spec (ws := wsX6_makesAll) B.pre
  have hown : s.vm.findClass RX6 = some m.cls := findClass_of_methodNamed B.named
  have hlocks := B.notSynchronized
  have hfX6 : ∀ w ∈ wsX60, w.before ([.ref o, .int (J b)]).toArray s = true := fun w h => hts w (List.mem_cons_of_mem _ (List.mem_append_right _ h))
  have hS : va_S (Ab base) s.heap s.heap [] := va_S.rf
  have hl := lv_entry ([.ref o, .int (J b)]) (n := 4) (Nat.le_of_ble_eq_true rfl)
  rw [lg_entry_eq]
  generalize (lg_sl ([.ref o, .int (J b)]) ++ List.replicate (4 - (lg_sl ([.ref o, .int (J b)])).length) Slot.unset).toArray = ls at hl ⊢
  have hl : lv_has ls 4 [(0, .ref o), (1, .int (J b))] := hl
  have hF : Fr (FP 28 kd6 o R) h0 h0 := Fr.rf
  have hrm1 := hrm.1
  have hrm2 := hrm.2.1
  have hpw := pw11 hb9
  refine lv_iconst (v := J (0)) hx hb dX6_makesAll_0 rfl ?_
  refine lv_istore_n (lv' := [(2, .int (J 0)), (0, .ref o), (1, .int (J b))]) hx hb dX6_makesAll_1 rfl hl (by decide) rfl (fun ls hl => ?_)
  have loop_2 : ∀ (n9 : Nat) (i : Int) (f : Int → Int) (h : Hp) (H : Heap) (locs : List Loc) (ls : Array Slot), I 7 - i < (n9 : Int) → (0 ≤ i ∧ i ≤ I 7) → (∀ j, 0 ≤ j → j < i → f j = 0) → (OB g 6 28 kd6 h o R I mL (va_up A 9 (f))) → (Fr (FP 28 kd6 o R) h0 h) → (Wd g base h H) → (va_S (Ab base) s.heap H locs) → (lv_has ls 4 [(0, .ref o), (1, .int (J b)), (2, .int (J i))]) → W p l e (headSpec wsX6_makesAll ({ frames := 2, cells := 0, slots := 0, locals := 49 })).room s m ([.ref o, .int (J b)]).toArray below meth c H locs 0 0 (MQ below (QcM g base (fun r h' => ∃ z I' A', r = some (.int (J z)) ∧ (z = 0 ∨ z = 1) ∧ (z = 1 ↔ MA (I 7) (A 8) b) ∧ Fr (FP 28 kd6 o R) h0 h' ∧ OB g 6 28 kd6 h' o R I' mL A' ∧ (∀ k, k ≠ 12 → k ≠ 13 → I' k = I k) ∧ ∀ k, k ≠ 9 → k ≠ 19 → k ≠ 20 → A' k = A k)) ([.ref o, .int (J b)]).toArray s (0) (0) (Ab base)) (F0 m 2 ls []) := by
    intro n9
    induction n9 with
    | zero =>
      intro i f h H locs ls hmu hi9 hf0 hM hF hW hS hl
      exact absurd hmu (by omega)
    | succ n9 ih =>
      intro i f h H locs ls hmu hi9 hf0 hM hF hW hS hl
      have ih_2 := ih
      refine lv_iload_n hx hb dX6_makesAll_2 rfl (lv_at hl 2 rfl) ?_
      refine lv_aload_n hx hb dX6_makesAll_3 rfl (lv_at hl 0 rfl) ?_
      refine g_get (ci := 6) (C := RX6) (T := TX6) (N := 28) (v := .int (J (I 7))) hx hb hfX6 (fun _ h9 => h9) hown hk hW hM.1 rfl 7 (by decide) (hts (.fieldLink RX6 79 "JugsAndGlassesModel" "tried" "I") (by decide +kernel)) rfl rfl dX6_makesAll_4 ?_
      refine j_icmp_ge (x := i) (y := I 7) (tgt := 23) hx hb ⟨by omega, by omega⟩ ⟨by omega, by omega⟩ dX6_makesAll_7 (by decide) (fun c_7 => ?_) (fun c_7 => ?_)
      · have hf0 : ∀ j, 0 ≤ j → j < I 7 → f j = 0 := fun j j0 j1 => hf0 j j0 (by omega)
        refine lv_aload_n hx hb dX6_makesAll_23 rfl (lv_at hl 0 rfl) ?_
        refine lv_aload_n hx hb dX6_makesAll_24 rfl (lv_at hl 0 rfl) ?_
        refine lv_aload_n hx hb dX6_makesAll_25 rfl (lv_at hl 0 rfl) ?_
        refine g_callV (As := []) (rest := [.ref o, .ref o]) (b := o) (ci := 6) (C := RX6) (T := TX6) (N := 28) ⟨hx, hb, hml, hown, hts⟩ (m_numberOf l g base sa h o R I (va_up A 9 (f)) hM ⟨hrm1, hrm2⟩) (cwV 0 hts gX6_makesAll_X6_numberOf rfl rfl rfl (by decide +kernel) ⟨Nat.le_of_ble_eq_true rfl, Nat.le_of_ble_eq_true rfl⟩) hk hW hS hM.1 rfl rfl hl.1 (Nat.le_of_ble_eq_true rfl) dX6_makesAll_26 ⟨Nat.le_of_ble_eq_true rfl, Nat.le_of_ble_eq_true rfl⟩ (fun r9 h9 H locs hp hW hS => ?_)
        have hp : r9 = some (.int (J (nT (A 8) f (I 7)))) ∧ h9 = h := hp
        rw [show nT (A 8) f (I 7) = nT (A 8) (fun _ => 0) (I 7) from nT_congr (fun j j0 j1 => hf0 j j0 (by omega))] at hp
        obtain ⟨rfl, e9⟩ := hp
        rw [e9] at hW
        refine W.eq (g2 := F0 m 29 ls [.int (J (nT (A 8) (fun _ => 0) (I 7))), .ref o, .ref o]) rfl ?_
        refine g_callV (As := [.int (J (nT (A 8) (fun _ => 0) (I 7)))]) (rest := [.ref o]) (b := o) (ci := 6) (C := RX6) (T := TX6) (N := 28) ⟨hx, hb, hml, hown, hts⟩ (m_reach l g base sa h o R I (va_up A 9 (f)) (nT (A 8) (fun _ => 0) (I 7)) hM hrm (Or.inr h10) (Or.inr h11) (nT_r hrm1 (fun i i0 i1 => ⟨show (0 : Int) ≤ 0 by omega, by have := hrm.2.2 i i0 i1; show (0 : Int) ≤ A 8 i; omega⟩))) (cwV 1 hts gX6_makesAll_X6_reach rfl rfl rfl (by decide +kernel) ⟨Nat.le_of_ble_eq_true rfl, Nat.le_of_ble_eq_true rfl⟩) hk hW hS hM.1 rfl rfl hl.1 (Nat.le_of_ble_eq_true rfl) dX6_makesAll_29 ⟨Nat.le_of_ble_eq_true rfl, Nat.le_of_ble_eq_true rfl⟩ (fun r9 h9 H locs hp hW hS => ?_)
        have hp : ∃ k, r9 = some (.int (J k)) ∧ Fr (FP 28 kd6 o R) h h9 ∧ ∃ I' f2 rch q, OB g 6 28 kd6 h9 o R I' mL (va_up (va_up (va_up (va_up A 9 (f)) 9 f2) 19 rch) 20 q) ∧ (∀ k, k ≠ 12 → k ≠ 13 → I' k = I k) ∧ RE (mT (A 8) (I 7)) (nxM (I 7) (I 10) (I 11) (A 8)) (nT (A 8) (fun _ => 0) (I 7)) q k := hp
        rw [h10, h11] at hp
        obtain ⟨k, rfl, hF9, J1, f2, rch, q, hM, hJ, hRE⟩ := hp
        refine W.eq (g2 := F0 m 32 ls [.int (J k), .ref o]) rfl ?_
        have hF := hF.tr hF9 (fun q w _ => w)
        generalize h9 = h at hM hF hW
        have hre1 := hRE.1
        have hre2 := hRE.2.1
        have hNl := (mT_r hrm).2
        have j7 : J1 7 = I 7 := hJ 7 (by decide) (by decide)
        have hM : OB g 6 28 kd6 h o R J1 mL (va_up (va_up (va_up A 9 (f2)) 19 (rch)) 20 (q)) := by
          have e9 : (va_up (va_up (va_up (va_up A 9 (f)) 9 (f2)) 19 (rch)) 20 (q)) = (va_up (va_up (va_up A 9 (f2)) 19 (rch)) 20 (q)) := by funext q9; by_cases w9 : q9 = 9 <;> by_cases w19 : q9 = 19 <;> by_cases w20 : q9 = 20 <;> simp [va_up, w9, w19, w20]
          rw [← e9]
          exact hM
        refine g_callV (As := [.int (J k)]) (rest := []) (b := o) (ci := 6) (C := RX6) (T := TX6) (N := 28) ⟨hx, hb, hml, hown, hts⟩ (m_madeBy l g base sa h o R J1 (va_up (va_up (va_up A 9 (f2)) 19 (rch)) 20 (q)) k hM (by rw [j7]; exact hrm) ⟨by omega, by omega⟩ (fun j h1 h2 => ⟨(hRE.2.2.1 j h1 h2).1, show q j < 14641 from by have := (hRE.2.2.1 j h1 h2).2.1; omega⟩)) (cwV 1 hts gX6_makesAll_X6_madeBy rfl rfl rfl (by decide +kernel) ⟨Nat.le_of_ble_eq_true rfl, Nat.le_of_ble_eq_true rfl⟩) hk hW hS hM.1 rfl rfl hl.1 (Nat.le_of_ble_eq_true rfl) dX6_makesAll_32 ⟨Nat.le_of_ble_eq_true rfl, Nat.le_of_ble_eq_true rfl⟩ (fun r9 h9 H locs hp hW hS => ?_)
        have hp : r9 = some (.int (J (mq (J1 7) (A 8) q k.toNat))) ∧ Fr (FP 28 kd6 o R) h h9 ∧ ∃ f3, OB g 6 28 kd6 h9 o R J1 mL (va_up (va_up (va_up (va_up A 9 (f2)) 19 (rch)) 20 (q)) 9 f3) := hp
        rw [j7] at hp
        obtain ⟨rfl, hF9, f3, hM⟩ := hp
        refine W.eq (g2 := F0 m 35 ls [.int (J (mq (I 7) (A 8) q k.toNat))]) rfl ?_
        have hF := hF.tr hF9 (fun q w _ => w)
        generalize h9 = h at hM hF hW
        have hml2 := mq_lt (q := q) hrm k.toNat
        have hM : OB g 6 28 kd6 h o R J1 mL (va_up (va_up (va_up A 9 (f3)) 19 (rch)) 20 (q)) := by
          have e9 : (va_up (va_up (va_up (va_up A 9 (f2)) 19 (rch)) 20 (q)) 9 (f3)) = (va_up (va_up (va_up A 9 (f3)) 19 (rch)) 20 (q)) := by funext q9; by_cases w9 : q9 = 9 <;> by_cases w19 : q9 = 19 <;> by_cases w20 : q9 = 20 <;> simp [va_up, w9, w19, w20]
          rw [← e9]
          exact hM
        refine lv_istore_n (lv' := [(2, .int (J (mq (I 7) (A 8) q k.toNat))), (0, .ref o), (1, .int (J b))]) hx hb dX6_makesAll_35 rfl hl (by decide) rfl (fun ls hl => ?_)
        refine lv_iconst (v := J (1)) hx hb dX6_makesAll_36 rfl ?_
        refine lv_iload_n hx hb dX6_makesAll_37 rfl (lv_at hl 2 rfl) ?_
        refine lv_iconst (v := J (1)) hx hb dX6_makesAll_38 rfl ?_
        refine j_iadd hx hb dX6_makesAll_39 ?_
        refine j_shl1 (y := b + 1) hx hb (by omega) (by omega) dX6_makesAll_40 ?_
        refine lv_iconst (v := J (2)) hx hb dX6_makesAll_41 rfl ?_
        refine j_isub hx hb dX6_makesAll_42 ?_
        refine lv_istore_n (lv' := [(3, .int (J ((2 ^ (b + 1).toNat) - 2))), (2, .int (J (mq (I 7) (A 8) q k.toNat))), (0, .ref o), (1, .int (J b))]) hx hb dX6_makesAll_43 rfl hl (by decide) rfl (fun ls hl => ?_)
        have hma := MA_iff (b := b) hrm hb9 hRE
        have hand := andI_r (x := mq (I 7) (A 8) q k.toNat) (y := 2 ^ (b + 1).toNat - 2) (by omega)
        refine lv_iload_n hx hb dX6_makesAll_44 rfl (lv_at hl 1 rfl) ?_
        refine lv_iload_n hx hb dX6_makesAll_45 rfl (lv_at hl 0 rfl) ?_
        refine j_iand (x := mq (I 7) (A 8) q k.toNat) (y := (2 ^ (b + 1).toNat) - 2) hx hb (hml2.1) (by omega) (by omega) (by omega) dX6_makesAll_46 ?_
        refine lv_iload_n hx hb dX6_makesAll_47 rfl (lv_at hl 0 rfl) ?_
        refine j_icmp_ne (x := andI (mq (I 7) (A 8) q k.toNat) ((2 ^ (b + 1).toNat) - 2)) (y := (2 ^ (b + 1).toNat) - 2) (tgt := 55) hx hb ⟨by omega, by omega⟩ ⟨by omega, by omega⟩ dX6_makesAll_48 (by decide) (fun c_48 => ?_) (fun c_48 => ?_)
        · refine lv_iconst (v := J (0)) hx hb dX6_makesAll_55 rfl ?_
          exact g_zret hx hb hr (by first | exact Or.inl rfl | exact Or.inr rfl) hW hS dX6_makesAll_56 hlocks (⟨0, J1, _, rfl, by omega, ⟨fun w => absurd w (by decide), fun w => absurd (hma.mpr w) (by omega)⟩, hF, hM, hJ, fun k k1 k2 k3 => by simp [va_up, k1, k2, k3]⟩)
        · refine lv_iconst (v := J (1)) hx hb dX6_makesAll_51 rfl ?_
          refine lv_goto (tgt := 56) hx hb dX6_makesAll_52 (by decide) ?_
          exact g_zret hx hb hr (by first | exact Or.inl rfl | exact Or.inr rfl) hW hS dX6_makesAll_56 hlocks (⟨1, J1, _, rfl, by omega, ⟨fun _ => hma.mp (by omega), fun _ => rfl⟩, hF, hM, hJ, fun k k1 k2 k3 => by simp [va_up, k1, k2, k3]⟩)
      · refine lv_aload_n hx hb dX6_makesAll_10 rfl (lv_at hl 0 rfl) ?_
        refine g_get (ci := 6) (C := RX6) (T := TX6) (N := 28) (v := .ref (R 9)) hx hb hfX6 (fun _ h9 => h9) hown hk hW hM.1 rfl 9 (by decide) (hts (.fieldLink RX6 29 "JugsAndGlassesModel" "has" "[I") (by decide +kernel)) rfl rfl dX6_makesAll_11 ?_
        refine lv_iload_n hx hb dX6_makesAll_14 rfl (lv_at hl 2 rfl) ?_
        refine lv_iconst (v := J (0)) hx hb dX6_makesAll_15 rfl ?_
        refine o_iast (A' := (va_up A 9 (uf f i 0))) (i := i) (x := 0) hx hb hk hW hS hM hF 9 (by decide) rfl (FP.a 9 (by decide) ⟨by decide, by decide⟩) (by omega) (show i < 4 from by omega) (show 4 < 2147483648 from by omega) (bx_uu _ _ _ _) dX6_makesAll_16 (fun h H locs hM hF hst hW hS => ?_)
        refine lv_iinc (v := J (i + 1)) (lv' := [(2, .int (J (i + 1))), (0, .ref o), (1, .int (J b))]) hx hb dX6_makesAll_17 hl (k := 2) rfl (J_inc (by omega)) (by decide) rfl (fun ls hl => ?_)
        refine lv_goto (tgt := 2) hx hb dX6_makesAll_20 (by decide) ?_
        exact ih_2 (i + 1) (uf f i 0) h H locs ls (by omega) (by omega) (fun j j0 j1 => by unfold uf; split; rfl; exact hf0 j j0 (by omega)) hM hF hW hS (lv_sub hl [1, 2, 0] rfl)
  exact loop_2 5 0 (A 9) h0 s.heap [] ls (by omega) (by omega) (fun j j0 j1 => absurd j1 (by omega)) (by rw [va_up_id]; exact hM) hF hW hS (lv_sub hl [1, 2, 0] rfl)

set_option maxHeartbeats 4000000 in
set_option maxRecDepth 100000 in
theorem m_sizes (l : Launch) (g : GX) (base : Nat) (sa : Nat → Nat) (h0 : Hp) (o : Nat) (R : Nat → Nat) (I : Nat → Int) (A : Nat → Int → Int) (k b i : Int) (hM : OB g 6 28 kd6 h0 o R I mL A) (hk9 : i32 k) (hb9 : i32 b) (hi9 : i32 i) : MC l g base sa yX6_sizes wsX6_sizes ({ frames := 3, cells := 0, slots := 0, locals := 72 }) ([.ref o, .int (J k), .int (J b), .int (J i)]) h0 (fun r h' => Fr (FP 28 kd6 o R) h0 h' ∧ ∃ I' A', OB g 6 28 kd6 h' o R I' mL A' ∧ RS I I' A A' ∧ r = some (.int (J (if 1 ≤ k ∧ k ≤ 3 ∧ 1 ≤ b ∧ b ≤ 10 ∧ 0 ≤ i ∧ i < k then (if k = 1 ∧ 1 < b then -1 else if i = k - 1 then b else 1) else -2)))) := by
  refine Met.ofW (cc := cX6_sizes) (maxL := 10) (ret := (some .int)) (by decide) rfl ?_
  intro p e s m args below meth c s₁ B hml hv
  obtain ⟨rfl, hk, hW⟩ := hv
  have hx := B.exec
  have hb := B.bytes
  have hr := B.returns
  have hts := atoms_spec (ws := wsX6_sizes) B.pre
  have hown : s.vm.findClass RX6 = some m.cls := findClass_of_methodNamed B.named
  have hlocks := B.notSynchronized
  have hfX6 : ∀ w ∈ wsX60, w.before ([.ref o, .int (J k), .int (J b), .int (J i)]).toArray s = true := fun w h => hts w (List.mem_cons_of_mem _ (List.mem_append_right _ h))
  have hS : va_S (Ab base) s.heap s.heap [] := va_S.rf
  have hl := lv_entry ([.ref o, .int (J k), .int (J b), .int (J i)]) (n := 10) (Nat.le_of_ble_eq_true rfl)
  rw [lg_entry_eq]
  generalize (lg_sl ([.ref o, .int (J k), .int (J b), .int (J i)]) ++ List.replicate (10 - (lg_sl ([.ref o, .int (J k), .int (J b), .int (J i)])).length) Slot.unset).toArray = ls at hl ⊢
  have hl : lv_has ls 10 [(0, .ref o), (1, .int (J k)), (2, .int (J b)), (3, .int (J i))] := hl
  have hF : Fr (FP 28 kd6 o R) h0 h0 := Fr.rf
  obtain ⟨hk1, hk2⟩ := id hk9
  obtain ⟨hb1, hb2⟩ := id hb9
  obtain ⟨hi1, hi2⟩ := id hi9
  have hrf : RS I I A A := ⟨rfl, rfl, rfl, rfl, rfl, rfl, rfl⟩
  refine lv_iload_n hx hb dX6_sizes_0 rfl (lv_at hl 1 rfl) ?_
  refine lv_iconst (v := J (1)) hx hb dX6_sizes_1 rfl ?_
  refine lv_iconst (v := J (3)) hx hb dX6_sizes_2 rfl ?_
  refine g_callS (As := [.int (J k), .int (J 1), .int (J 3)]) (rest := []) ⟨hx, hb, hml, hown, hts⟩ (m_in l g base sa h0 k 1 3 hk9 ⟨by decide, by decide⟩ ⟨by decide, by decide⟩) (va_cwS 3 hts gX6_sizes_X6_in rfl rfl rfl (by decide +kernel) ⟨Nat.le_of_ble_eq_true rfl, Nat.le_of_ble_eq_true rfl⟩) hk hW hS rfl hl.1 (Nat.le_of_ble_eq_true rfl) dX6_sizes_3 ⟨Nat.le_of_ble_eq_true rfl, Nat.le_of_ble_eq_true rfl⟩ (fun r9 h9 H locs hp hW hS => ?_)
  obtain ⟨rfl, e9⟩ := hp
  rw [e9] at hW
  refine W.eq (g2 := F0 m 6 ls [.int (J (p_in k 1 3))]) rfl ?_
  have hpr_6 := p_in_r k 1 3
  refine j_if_eq (x := p_in k 1 3) (tgt := 30) hx hb ⟨by omega, by omega⟩ dX6_sizes_6 (by decide) (fun c_6 => ?_) (fun c_6 => ?_)
  · refine lv_bipush (v := J (-2)) hx hb dX6_sizes_30 (by decide) ?_
    exact g_iret hx hb hr hW hS dX6_sizes_32 hlocks (⟨hF, _, _, hM, hrf, congrArg (fun q : Int => some (Value.int (J q))) (show -2 = (if 1 ≤ k ∧ k ≤ 3 ∧ 1 ≤ b ∧ b ≤ 10 ∧ 0 ≤ i ∧ i < k then (if k = 1 ∧ 1 < b then -1 else if i = k - 1 then b else 1) else -2) from by rw [if_neg (by first | (have := p_in_0 c_27; omega) | (have := p_in_0 c_16; omega) | (have := p_in_0 c_6; omega))])⟩)
  · refine lv_iload_n hx hb dX6_sizes_9 rfl (lv_at hl 2 rfl) ?_
    refine lv_iconst (v := J (1)) hx hb dX6_sizes_10 rfl ?_
    refine lv_bipush (v := J (10)) hx hb dX6_sizes_11 (by decide) ?_
    refine g_callS (As := [.int (J b), .int (J 1), .int (J 10)]) (rest := []) ⟨hx, hb, hml, hown, hts⟩ (m_in l g base sa h0 b 1 10 hb9 ⟨by decide, by decide⟩ ⟨by decide, by decide⟩) (va_cwS 3 hts gX6_sizes_X6_in rfl rfl rfl (by decide +kernel) ⟨Nat.le_of_ble_eq_true rfl, Nat.le_of_ble_eq_true rfl⟩) hk hW hS rfl hl.1 (Nat.le_of_ble_eq_true rfl) dX6_sizes_13 ⟨Nat.le_of_ble_eq_true rfl, Nat.le_of_ble_eq_true rfl⟩ (fun r9 h9 H locs hp hW hS => ?_)
    obtain ⟨rfl, e9⟩ := hp
    rw [e9] at hW
    refine W.eq (g2 := F0 m 16 ls [.int (J (p_in b 1 10))]) rfl ?_
    have hpr_16 := p_in_r b 1 10
    refine j_if_eq (x := p_in b 1 10) (tgt := 30) hx hb ⟨by omega, by omega⟩ dX6_sizes_16 (by decide) (fun c_16 => ?_) (fun c_16 => ?_)
    · refine lv_bipush (v := J (-2)) hx hb dX6_sizes_30 (by decide) ?_
      exact g_iret hx hb hr hW hS dX6_sizes_32 hlocks (⟨hF, _, _, hM, hrf, congrArg (fun q : Int => some (Value.int (J q))) (show -2 = (if 1 ≤ k ∧ k ≤ 3 ∧ 1 ≤ b ∧ b ≤ 10 ∧ 0 ≤ i ∧ i < k then (if k = 1 ∧ 1 < b then -1 else if i = k - 1 then b else 1) else -2) from by rw [if_neg (by first | (have := p_in_0 c_27; omega) | (have := p_in_0 c_16; omega) | (have := p_in_0 c_6; omega))])⟩)
    · refine lv_iload_n hx hb dX6_sizes_19 rfl (lv_at hl 3 rfl) ?_
      refine lv_iconst (v := J (0)) hx hb dX6_sizes_20 rfl ?_
      refine lv_iload_n hx hb dX6_sizes_21 rfl (lv_at hl 1 rfl) ?_
      refine lv_iconst (v := J (1)) hx hb dX6_sizes_22 rfl ?_
      refine j_isub hx hb dX6_sizes_23 ?_
      refine g_callS (As := [.int (J i), .int (J 0), .int (J (k - 1))]) (rest := []) ⟨hx, hb, hml, hown, hts⟩ (m_in l g base sa h0 i 0 (k - 1) hi9 ⟨by decide, by decide⟩ ⟨by have := p_in_1 c_6; omega, by have := p_in_1 c_6; omega⟩) (va_cwS 3 hts gX6_sizes_X6_in rfl rfl rfl (by decide +kernel) ⟨Nat.le_of_ble_eq_true rfl, Nat.le_of_ble_eq_true rfl⟩) hk hW hS rfl hl.1 (Nat.le_of_ble_eq_true rfl) dX6_sizes_24 ⟨Nat.le_of_ble_eq_true rfl, Nat.le_of_ble_eq_true rfl⟩ (fun r9 h9 H locs hp hW hS => ?_)
      obtain ⟨rfl, e9⟩ := hp
      rw [e9] at hW
      refine W.eq (g2 := F0 m 27 ls [.int (J (p_in i 0 (k - 1)))]) rfl ?_
      have hpr_27 := p_in_r i 0 (k - 1)
      refine j_if_ne (x := p_in i 0 (k - 1)) (tgt := 33) hx hb ⟨by omega, by omega⟩ dX6_sizes_27 (by decide) (fun c_27 => ?_) (fun c_27 => ?_)
      · have hq1 := p_in_1 c_6
        have hq2 := p_in_1 c_16
        have hq3 := p_in_1 c_27
        refine lv_aload_n hx hb dX6_sizes_33 rfl (lv_at hl 0 rfl) ?_
        refine lv_iload_n hx hb dX6_sizes_34 rfl (lv_at hl 1 rfl) ?_
        refine o_put (I' := (va_up I 7 (k))) (ci := 6) (C := RX6) (T := TX6) (N := 28) (ty := .int) hx hb hfX6 (fun _ h9 => h9) tyX6 tyX6_ok nmX6 hown hk hW hS hM hF FP.o rfl 7 (by decide) rfl (hts (.fieldLink RX6 79 "JugsAndGlassesModel" "tried" "I") (by decide +kernel)) rfl rfl (by decide +kernel) rfl rfl rfl dX6_sizes_35 (fun h H locs hM hF hst hW hS => ?_)
        refine lv_aload_n hx hb dX6_sizes_38 rfl (lv_at hl 0 rfl) ?_
        refine lv_iconst (v := J (1)) hx hb dX6_sizes_39 rfl ?_
        refine o_put (I' := (va_up (va_up I 7 (k)) 10 (1))) (ci := 6) (C := RX6) (T := TX6) (N := 28) (ty := .boolean) hx hb hfX6 (fun _ h9 => h9) tyX6 tyX6_ok nmX6 hown hk hW hS hM hF FP.o rfl 10 (by decide) rfl (hts (.fieldLink RX6 82 "JugsAndGlassesModel" "tap" "Z") (by decide +kernel)) rfl rfl (by decide +kernel) (nb_n (Or.inr rfl)) (nb_f (Or.inr rfl)) rfl dX6_sizes_40 (fun h H locs hM hF hst hW hS => ?_)
        refine lv_aload_n hx hb dX6_sizes_43 rfl (lv_at hl 0 rfl) ?_
        refine lv_iconst (v := J (1)) hx hb dX6_sizes_44 rfl ?_
        refine o_put (I' := (va_up (va_up (va_up I 7 (k)) 10 (1)) 11 (1))) (ci := 6) (C := RX6) (T := TX6) (N := 28) (ty := .boolean) hx hb hfX6 (fun _ h9 => h9) tyX6 tyX6_ok nmX6 hown hk hW hS hM hF FP.o rfl 11 (by decide) rfl (hts (.fieldLink RX6 85 "JugsAndGlassesModel" "drain" "Z") (by decide +kernel)) rfl rfl (by decide +kernel) (nb_n (Or.inr rfl)) (nb_f (Or.inr rfl)) rfl dX6_sizes_45 (fun h H locs hM hF hst hW hS => ?_)
        have cut_71 : ∀ (mn : Int) (ls : Array Slot), ((k = 1 ∧ mn = 10) ∨ (k = 2 ∧ mn = 100) ∨ (k = 3 ∧ mn = 1000)) → (lv_has ls 10 [(0, .ref o), (1, .int (J k)), (2, .int (J b)), (3, .int (J i))]) → W p l e (headSpec wsX6_sizes ({ frames := 3, cells := 0, slots := 0, locals := 72 })).room s m ([.ref o, .int (J k), .int (J b), .int (J i)]).toArray below meth c H locs 0 0 (MQ below (QcM g base (fun r h' => Fr (FP 28 kd6 o R) h0 h' ∧ ∃ I' A', OB g 6 28 kd6 h' o R I' mL A' ∧ RS I I' A A' ∧ r = some (.int (J (if 1 ≤ k ∧ k ≤ 3 ∧ 1 ≤ b ∧ b ≤ 10 ∧ 0 ≤ i ∧ i < k then (if k = 1 ∧ 1 < b then -1 else if i = k - 1 then b else 1) else -2))))) ([.ref o, .int (J k), .int (J b), .int (J i)]).toArray s (0) (0) (Ab base)) (F0 m 71 ls [.int (J mn)]) := by
          intro mn  ls hmn hl
          refine lv_istore (lv' := [(4, .int (J mn)), (0, .ref o), (1, .int (J k)), (2, .int (J b)), (3, .int (J i))]) hx hb dX6_sizes_71 hl (by decide) rfl (fun ls hl => ?_)
          refine lv_iload_n hx hb dX6_sizes_73 rfl (lv_at hl 2 rfl) ?_
          refine lv_istore (lv' := [(5, .int (J k)), (4, .int (J mn)), (0, .ref o), (1, .int (J k)), (2, .int (J b)), (3, .int (J i))]) hx hb dX6_sizes_74 hl (by decide) rfl (fun ls hl => ?_)
          have loop_76 : ∀ (n9 : Nat) (sm : Int) (J1 : Nat → Int) (A1 : Nat → Int → Int) (h : Hp) (H : Heap) (locs : List Loc) (ls : Array Slot), 10 * k + 1 - sm < (n9 : Int) → (k ≤ sm ∧ sm ≤ 10 * k + 1) → (RS I J1 A A1 ∧ J1 7 = k ∧ J1 10 = 1 ∧ J1 11 = 1) → (∀ s9 t9, k ≤ s9 → s9 < sm → 0 ≤ t9 → t9 < mn → ¬ SuZ k b t9 s9) → (OB g 6 28 kd6 h o R J1 mL A1) → (Fr (FP 28 kd6 o R) h0 h) → (Wd g base h H) → (va_S (Ab base) s.heap H locs) → (lv_has ls 10 [(0, .ref o), (1, .int (J k)), (2, .int (J b)), (3, .int (J i)), (4, .int (J mn)), (5, .int (J sm))]) → W p l e (headSpec wsX6_sizes ({ frames := 3, cells := 0, slots := 0, locals := 72 })).room s m ([.ref o, .int (J k), .int (J b), .int (J i)]).toArray below meth c H locs 0 0 (MQ below (QcM g base (fun r h' => Fr (FP 28 kd6 o R) h0 h' ∧ ∃ I' A', OB g 6 28 kd6 h' o R I' mL A' ∧ RS I I' A A' ∧ r = some (.int (J (if 1 ≤ k ∧ k ≤ 3 ∧ 1 ≤ b ∧ b ≤ 10 ∧ 0 ≤ i ∧ i < k then (if k = 1 ∧ 1 < b then -1 else if i = k - 1 then b else 1) else -2))))) ([.ref o, .int (J k), .int (J b), .int (J i)]).toArray s (0) (0) (Ab base)) (F0 m 76 ls []) := by
            intro n9
            induction n9 with
            | zero =>
              intro sm J1 A1 h H locs ls hmu hsm hRSK hno hM hF hW hS hl
              exact absurd hmu (by omega)
            | succ n9 ih =>
              intro sm J1 A1 h H locs ls hmu hsm hRSK hno hM hF hW hS hl
              have ih_76 := ih
              refine lv_iload hx hb dX6_sizes_76 (lv_at hl 5 rfl) ?_
              refine lv_bipush (v := J (10)) hx hb dX6_sizes_78 (by decide) ?_
              refine lv_iload_n hx hb dX6_sizes_80 rfl (lv_at hl 1 rfl) ?_
              refine j_imul hx hb dX6_sizes_81 ?_
              refine j_icmp_gt (x := sm) (y := 10 * k) (tgt := 192) hx hb ⟨by omega, by omega⟩ ⟨by omega, by omega⟩ dX6_sizes_82 (by decide) (fun c_82 => ?_) (fun c_82 => ?_)
              · refine lv_iconst (v := J (-1)) hx hb dX6_sizes_192 rfl ?_
                exact g_iret hx hb hr hW hS dX6_sizes_193 hlocks (⟨hF, J1, A1, hM, hRSK.1, congrArg (fun q : Int => some (Value.int (J q))) (show -1 = (if 1 ≤ k ∧ k ≤ 3 ∧ 1 ≤ b ∧ b ≤ 10 ∧ 0 ≤ i ∧ i < k then (if k = 1 ∧ 1 < b then -1 else if i = k - 1 then b else 1) else -2) from by rw [if_pos (by omega), if_pos (by by_cases w : k = 1 → b = 1; (exact absurd (SuZ_yes (k := k) (b := b) ⟨by omega, by omega⟩ ⟨by omega, by omega⟩ w) (hno _ _ (by omega) (by omega) (by omega) (by omega))); omega)])⟩)
              · refine lv_iconst (v := J (0)) hx hb dX6_sizes_85 rfl ?_
                refine lv_istore (lv' := [(6, .int (J 0)), (0, .ref o), (1, .int (J k)), (2, .int (J b)), (3, .int (J i)), (4, .int (J mn)), (5, .int (J sm))]) hx hb dX6_sizes_86 hl (by decide) rfl (fun ls hl => ?_)
                have loop_88 : ∀ (n9 : Nat) (t : Int) (J1 : Nat → Int) (A1 : Nat → Int → Int) (h : Hp) (H : Heap) (locs : List Loc) (ls : Array Slot), mn - t < (n9 : Int) → (0 ≤ t ∧ t ≤ mn) → (RS I J1 A A1 ∧ J1 7 = k ∧ J1 10 = 1 ∧ J1 11 = 1) → (∀ t9, 0 ≤ t9 → t9 < t → ¬ SuZ k b t9 sm) → (OB g 6 28 kd6 h o R J1 mL A1) → (Fr (FP 28 kd6 o R) h0 h) → (Wd g base h H) → (va_S (Ab base) s.heap H locs) → (lv_has ls 10 [(0, .ref o), (1, .int (J k)), (2, .int (J b)), (3, .int (J i)), (4, .int (J mn)), (5, .int (J sm)), (6, .int (J t))]) → W p l e (headSpec wsX6_sizes ({ frames := 3, cells := 0, slots := 0, locals := 72 })).room s m ([.ref o, .int (J k), .int (J b), .int (J i)]).toArray below meth c H locs 0 0 (MQ below (QcM g base (fun r h' => Fr (FP 28 kd6 o R) h0 h' ∧ ∃ I' A', OB g 6 28 kd6 h' o R I' mL A' ∧ RS I I' A A' ∧ r = some (.int (J (if 1 ≤ k ∧ k ≤ 3 ∧ 1 ≤ b ∧ b ≤ 10 ∧ 0 ≤ i ∧ i < k then (if k = 1 ∧ 1 < b then -1 else if i = k - 1 then b else 1) else -2))))) ([.ref o, .int (J k), .int (J b), .int (J i)]).toArray s (0) (0) (Ab base)) (F0 m 88 ls []) := by
                  intro n9
                  induction n9 with
                  | zero =>
                    intro t J1 A1 h H locs ls hmu ht9 hRSK hnt hM hF hW hS hl
                    exact absurd hmu (by omega)
                  | succ n9 ih =>
                    intro t J1 A1 h H locs ls hmu ht9 hRSK hnt hM hF hW hS hl
                    have ih_88 := ih
                    refine lv_iload hx hb dX6_sizes_88 (lv_at hl 6 rfl) ?_
                    refine lv_iload hx hb dX6_sizes_90 (lv_at hl 4 rfl) ?_
                    refine j_icmp_ge (x := t) (y := mn) (tgt := 186) hx hb ⟨by omega, by omega⟩ ⟨by omega, by omega⟩ dX6_sizes_92 (by decide) (fun c_92 => ?_) (fun c_92 => ?_)
                    · refine lv_iinc (v := J (sm + 1)) (lv' := [(5, .int (J (sm + 1))), (0, .ref o), (1, .int (J k)), (2, .int (J b)), (3, .int (J i)), (4, .int (J mn)), (6, .int (J t))]) hx hb dX6_sizes_186 hl (k := 5) rfl (J_inc (by omega)) (by decide) rfl (fun ls hl => ?_)
                      refine lv_goto (tgt := 76) hx hb dX6_sizes_189 (by decide) ?_
                      exact ih_76 (sm + 1) J1 A1 h H locs ls (by omega) (by omega) hRSK (fun s9 t9 s0 s1 t0 t1 => by by_cases e : s9 = sm; (subst e; exact hnt t9 t0 (by omega)); exact hno s9 t9 s0 (by omega) t0 t1) hM hF hW hS (lv_sub hl [1, 2, 3, 4, 5, 0] rfl)
                    · refine lv_iload hx hb dX6_sizes_95 (lv_at hl 6 rfl) ?_
                      refine lv_istore (lv' := [(7, .int (J t)), (0, .ref o), (1, .int (J k)), (2, .int (J b)), (3, .int (J i)), (4, .int (J mn)), (5, .int (J sm)), (6, .int (J t))]) hx hb dX6_sizes_97 hl (by decide) rfl (fun ls hl => ?_)
                      refine lv_iconst (v := J (0)) hx hb dX6_sizes_99 rfl ?_
                      refine lv_istore (lv' := [(8, .int (J 0)), (7, .int (J t)), (0, .ref o), (1, .int (J k)), (2, .int (J b)), (3, .int (J i)), (4, .int (J mn)), (5, .int (J sm)), (6, .int (J t))]) hx hb dX6_sizes_100 hl (by decide) rfl (fun ls hl => ?_)
                      refine lv_iload_n hx hb dX6_sizes_102 rfl (lv_at hl 3 rfl) ?_
                      refine lv_iconst (v := J (1)) hx hb dX6_sizes_103 rfl ?_
                      refine j_isub hx hb dX6_sizes_104 ?_
                      refine lv_istore (lv' := [(9, .int (J (k - 1))), (8, .int (J 0)), (7, .int (J t)), (0, .ref o), (1, .int (J k)), (2, .int (J b)), (3, .int (J i)), (4, .int (J mn)), (5, .int (J sm)), (6, .int (J t))]) hx hb dX6_sizes_105 hl (by decide) rfl (fun ls hl => ?_)
                      have loop_107 : ∀ (n9 : Nat) (y : Int) (al : Int) (p9 : Int) (f : Int → Int) (h : Hp) (H : Heap) (locs : List Loc) (ls : Array Slot), p9 + 1 < (n9 : Int) → (-1 ≤ p9 ∧ p9 ≤ k - 1) → (y = t / 10 ^ (k - 1 - p9).toNat) → (0 ≤ y ∧ y ≤ 1000) → (al = sT (dT k t) k - sT (dT k t) (p9 + 1)) → (∀ j, p9 < j → j < k → f j = dT k t j) → (OB g 6 28 kd6 h o R J1 mL (va_up A1 8 (f))) → (Fr (FP 28 kd6 o R) h0 h) → (Wd g base h H) → (va_S (Ab base) s.heap H locs) → (lv_has ls 10 [(0, .ref o), (1, .int (J k)), (2, .int (J b)), (3, .int (J i)), (4, .int (J mn)), (5, .int (J sm)), (6, .int (J t)), (7, .int (J y)), (8, .int (J al)), (9, .int (J p9))]) → W p l e (headSpec wsX6_sizes ({ frames := 3, cells := 0, slots := 0, locals := 72 })).room s m ([.ref o, .int (J k), .int (J b), .int (J i)]).toArray below meth c H locs 0 0 (MQ below (QcM g base (fun r h' => Fr (FP 28 kd6 o R) h0 h' ∧ ∃ I' A', OB g 6 28 kd6 h' o R I' mL A' ∧ RS I I' A A' ∧ r = some (.int (J (if 1 ≤ k ∧ k ≤ 3 ∧ 1 ≤ b ∧ b ≤ 10 ∧ 0 ≤ i ∧ i < k then (if k = 1 ∧ 1 < b then -1 else if i = k - 1 then b else 1) else -2))))) ([.ref o, .int (J k), .int (J b), .int (J i)]).toArray s (0) (0) (Ab base)) (F0 m 107 ls []) := by
                        intro n9
                        induction n9 with
                        | zero =>
                          intro y al p9 f h H locs ls hmu hp9 ey hy0 ela hfp hM hF hW hS hl
                          exact absurd hmu (by omega)
                        | succ n9 ih =>
                          intro y al p9 f h H locs ls hmu hp9 ey hy0 ela hfp hM hF hW hS hl
                          have ih_107 := ih
                          refine lv_iload hx hb dX6_sizes_107 (lv_at hl 9 rfl) ?_
                          refine j_if_lt (x := p9) (tgt := 151) hx hb ⟨by omega, by omega⟩ dX6_sizes_109 (by decide) (fun c_109 => ?_) (fun c_109 => ?_)
                          · obtain ⟨hRS, hk7, hk10, hk11⟩ := hRSK
                            have ep : p9 = -1 := (by omega)
                            have hfd : ∀ j, 0 ≤ j → j < k → f j = dT k t j := fun j j0 j1 => hfp j (by omega) j1
                            have hal : sT (dT k t) k = al := by rw [ela, ep]; show _ = _ - sT (dT k t) 0; rw [sT_0]; omega
                            have hrmf : Rm (J1 7) f := by rw [hk7]; exact ⟨by omega, by omega, fun j j0 j1 => by rw [hfd j j0 j1]; exact dT_r k t j⟩
                            have hRSf : RS I J1 A (va_up A1 8 f) := ⟨hRS.1, hRS.2.1, hRS.2.2.1, hRS.2.2.2.1, hRS.2.2.2.2.1, hRS.2.2.2.2.2.1, hRS.2.2.2.2.2.2⟩
                            have hsr : 0 ≤ al ∧ al ≤ 30 := by have h3 := sum_3 (k := k) ⟨by omega, by omega⟩ (dT k t); rw [hal] at h3; have r0 := dT_r k t 0; have r1 := dT_r k t 1; have r2 := dT_r k t 2; (repeat' split at h3) <;> omega
                            have hsz : SuZ k b t sm ↔ (al = sm ∧ Ris k f ∧ MA k f b) := by
                              unfold SuZ
                              rw [Ris_cg hfd, hal]
                              exact ⟨fun w => ⟨w.1, w.2.1, MA_cg (fun j j0 j1 => (hfd j j0 j1).symm) w.2.2⟩, fun w => ⟨w.1, w.2.1, MA_cg (fun j j0 j1 => hfd j j0 j1) w.2.2⟩⟩
                            refine lv_iload hx hb dX6_sizes_151 (lv_at hl 8 rfl) ?_
                            refine lv_iload hx hb dX6_sizes_153 (lv_at hl 5 rfl) ?_
                            refine j_icmp_ne (x := al) (y := sm) (tgt := 180) hx hb ⟨by omega, by omega⟩ ⟨by omega, by omega⟩ dX6_sizes_155 (by decide) (fun c_155 => ?_) (fun c_155 => ?_)
                            · refine lv_iinc (v := J (t + 1)) (lv' := [(6, .int (J (t + 1))), (0, .ref o), (1, .int (J k)), (2, .int (J b)), (3, .int (J i)), (4, .int (J mn)), (5, .int (J sm)), (7, .int (J y)), (8, .int (J al)), (9, .int (J p9))]) hx hb dX6_sizes_180 hl (k := 6) rfl (J_inc (by omega)) (by decide) rfl (fun ls hl => ?_)
                              refine lv_goto (tgt := 88) hx hb dX6_sizes_183 (by decide) ?_
                              exact ih_88 (t + 1) J1 (va_up A1 8 f) h H locs ls (by omega) (by omega) (⟨hRSf, hk7, hk10, hk11⟩) (fun t9 t0 t1 w => by by_cases e : t9 = t; (subst e; have w2 := hsz.mp w; first | omega | (have := hris.mpr w2.2.1; omega) | (have := hmak.mpr w2.2.2; omega)); exact hnt t9 t0 (by omega) w) hM hF hW hS (lv_sub hl [1, 2, 3, 4, 5, 6, 0] rfl)
                            · refine lv_aload_n hx hb dX6_sizes_158 rfl (lv_at hl 0 rfl) ?_
                              refine g_callV (As := []) (rest := []) (b := o) (ci := 6) (C := RX6) (T := TX6) (N := 28) ⟨hx, hb, hml, hown, hts⟩ (m_doRise l g base sa h o R J1 (va_up A1 8 (f)) hM hrmf (by omega)) (cwV 0 hts gX6_sizes_X6_doRise rfl rfl rfl (by decide +kernel) ⟨Nat.le_of_ble_eq_true rfl, Nat.le_of_ble_eq_true rfl⟩) hk hW hS hM.1 rfl rfl hl.1 (Nat.le_of_ble_eq_true rfl) dX6_sizes_159 ⟨Nat.le_of_ble_eq_true rfl, Nat.le_of_ble_eq_true rfl⟩ (fun r9 h9 H locs hp hW hS => ?_)
                              have hp : (∃ z, r9 = some (.int (J z)) ∧ (z = 0 ∨ z = 1) ∧ (z = 1 ↔ Ris (J1 7) f)) ∧ h9 = h := hp
                              rw [hk7] at hp
                              obtain ⟨⟨z1, rfl, hz1, hris⟩, e9⟩ := hp
                              rw [e9] at hW
                              refine W.eq (g2 := F0 m 162 ls [.int (J z1)]) rfl ?_
                              refine j_if_eq (x := z1) (tgt := 180) hx hb ⟨by omega, by omega⟩ dX6_sizes_162 (by decide) (fun c_162 => ?_) (fun c_162 => ?_)
                              · refine lv_iinc (v := J (t + 1)) (lv' := [(6, .int (J (t + 1))), (0, .ref o), (1, .int (J k)), (2, .int (J b)), (3, .int (J i)), (4, .int (J mn)), (5, .int (J sm)), (7, .int (J y)), (8, .int (J al)), (9, .int (J p9))]) hx hb dX6_sizes_180 hl (k := 6) rfl (J_inc (by omega)) (by decide) rfl (fun ls hl => ?_)
                                refine lv_goto (tgt := 88) hx hb dX6_sizes_183 (by decide) ?_
                                exact ih_88 (t + 1) J1 (va_up A1 8 f) h H locs ls (by omega) (by omega) (⟨hRSf, hk7, hk10, hk11⟩) (fun t9 t0 t1 w => by by_cases e : t9 = t; (subst e; have w2 := hsz.mp w; first | omega | (have := hris.mpr w2.2.1; omega) | (have := hmak.mpr w2.2.2; omega)); exact hnt t9 t0 (by omega) w) hM hF hW hS (lv_sub hl [1, 2, 3, 4, 5, 6, 0] rfl)
                              · refine lv_aload_n hx hb dX6_sizes_165 rfl (lv_at hl 0 rfl) ?_
                                refine lv_iload_n hx hb dX6_sizes_166 rfl (lv_at hl 2 rfl) ?_
                                refine g_callV (As := [.int (J b)]) (rest := []) (b := o) (ci := 6) (C := RX6) (T := TX6) (N := 28) ⟨hx, hb, hml, hown, hts⟩ (m_makesAll l g base sa h o R J1 (va_up A1 8 (f)) b hM hrmf hk10 hk11 (by omega)) (cwV 1 hts gX6_sizes_X6_makesAll rfl rfl rfl (by decide +kernel) ⟨Nat.le_of_ble_eq_true rfl, Nat.le_of_ble_eq_true rfl⟩) hk hW hS hM.1 rfl rfl hl.1 (Nat.le_of_ble_eq_true rfl) dX6_sizes_167 ⟨Nat.le_of_ble_eq_true rfl, Nat.le_of_ble_eq_true rfl⟩ (fun r9 h9 H locs hp hW hS => ?_)
                                have hp : ∃ z I' A', r9 = some (.int (J z)) ∧ (z = 0 ∨ z = 1) ∧ (z = 1 ↔ MA (J1 7) f b) ∧ Fr (FP 28 kd6 o R) h h9 ∧ OB g 6 28 kd6 h9 o R I' mL A' ∧ (∀ k, k ≠ 12 → k ≠ 13 → I' k = J1 k) ∧ ∀ k, k ≠ 9 → k ≠ 19 → k ≠ 20 → A' k = (va_up A1 8 (f)) k := hp
                                rw [hk7] at hp
                                obtain ⟨z2, J2, A3, rfl, hz2, hmak, hF9, hM, hJ2, hA3⟩ := hp
                                refine W.eq (g2 := F0 m 170 ls [.int (J z2)]) rfl ?_
                                have hF := hF.tr hF9 (fun q w _ => w)
                                generalize h9 = h at hM hF hW
                                have hRS2 : RS I J2 A A3 := ⟨(hJ2 0 (by decide) (by decide)).trans hRS.1, (hJ2 3 (by decide) (by decide)).trans hRS.2.1, (hJ2 4 (by decide) (by decide)).trans hRS.2.2.1, (hJ2 5 (by decide) (by decide)).trans hRS.2.2.2.1, (hA3 1 (by decide) (by decide) (by decide)).trans hRS.2.2.2.2.1, (hA3 2 (by decide) (by decide) (by decide)).trans hRS.2.2.2.2.2.1, (hA3 6 (by decide) (by decide) (by decide)).trans hRS.2.2.2.2.2.2⟩
                                have hj7 : J2 7 = k := (hJ2 7 (by decide) (by decide)).trans hk7
                                have hj10 : J2 10 = 1 := (hJ2 10 (by decide) (by decide)).trans hk10
                                have hj11 : J2 11 = 1 := (hJ2 11 (by decide) (by decide)).trans hk11
                                have ha8 : A3 8 = f := hA3 8 (by decide) (by decide) (by decide)
                                refine j_if_eq (x := z2) (tgt := 180) hx hb ⟨by omega, by omega⟩ dX6_sizes_170 (by decide) (fun c_170 => ?_) (fun c_170 => ?_)
                                · refine lv_iinc (v := J (t + 1)) (lv' := [(6, .int (J (t + 1))), (0, .ref o), (1, .int (J k)), (2, .int (J b)), (3, .int (J i)), (4, .int (J mn)), (5, .int (J sm)), (7, .int (J y)), (8, .int (J al)), (9, .int (J p9))]) hx hb dX6_sizes_180 hl (k := 6) rfl (J_inc (by omega)) (by decide) rfl (fun ls hl => ?_)
                                  refine lv_goto (tgt := 88) hx hb dX6_sizes_183 (by decide) ?_
                                  exact ih_88 (t + 1) J2 A3 h H locs ls (by omega) (by omega) (⟨hRS2, hj7, hj10, hj11⟩) (fun t9 t0 t1 w => by by_cases e : t9 = t; (subst e; have w2 := hsz.mp w; first | omega | (have := hris.mpr w2.2.1; omega) | (have := hmak.mpr w2.2.2; omega)); exact hnt t9 t0 (by omega) w) hM hF hW hS (lv_sub hl [1, 2, 3, 4, 5, 6, 0] rfl)
                                · refine lv_aload_n hx hb dX6_sizes_173 rfl (lv_at hl 0 rfl) ?_
                                  refine g_get (ci := 6) (C := RX6) (T := TX6) (N := 28) (v := .ref (R 8)) hx hb hfX6 (fun _ h9 => h9) hown hk hW hM.1 rfl 8 (by decide) (hts (.fieldLink RX6 26 "JugsAndGlassesModel" "room" "[I") (by decide +kernel)) rfl rfl dX6_sizes_174 ?_
                                  refine lv_iload_n hx hb dX6_sizes_177 rfl (lv_at hl 3 rfl) ?_
                                  refine g_iald (n := 4) (f := A3 8) (i := i) hx hb hk hW (hM.ai 8 (by decide) rfl) (by omega) (by omega) (by omega) dX6_sizes_178 ?_
                                  exact g_iret hx hb hr hW hS dX6_sizes_179 hlocks (by
                                      have hS : SuZ k b t sm := hsz.mpr ⟨by omega, hris.mp (by omega), hmak.mp (by omega)⟩
                                      obtain ⟨l1, l2, l3⟩ := SuZ_low ⟨by omega, by omega⟩ ⟨by omega, by omega⟩ hS
                                      have hy := SuZ_yes (k := k) (b := b) ⟨by omega, by omega⟩ ⟨by omega, by omega⟩ l3
                                      have hsm : sm = b + k - 1 := by
                                        rcases Int.lt_or_le (b + k - 1) sm with w | w
                                        · exact absurd hy (hno _ _ (by omega) w (by omega) (by omega))
                                        · omega
                                      have hv := l2 hsm i (by omega) (by omega)
                                      refine ⟨hF, J2, A3, hM, hRS2, congrArg (fun q : Int => some (Value.int (J q))) (show A3 8 i = (if 1 ≤ k ∧ k ≤ 3 ∧ 1 ≤ b ∧ b ≤ 10 ∧ 0 ≤ i ∧ i < k then (if k = 1 ∧ 1 < b then -1 else if i = k - 1 then b else 1) else -2) from ?_)⟩
                                      rw [ha8, hfd i (by omega) (by omega), hv, if_pos (by omega), if_neg (by omega)]
                                      unfold szR
                                      rfl)
                          · have hdd := dT_div (k := k) (t := t) (p := p9) (y := y) (by omega) (by omega) ey
                            refine lv_aload_n hx hb dX6_sizes_112 rfl (lv_at hl 0 rfl) ?_
                            refine g_get (ci := 6) (C := RX6) (T := TX6) (N := 28) (v := .ref (R 8)) hx hb hfX6 (fun _ h9 => h9) hown hk hW hM.1 rfl 8 (by decide) (hts (.fieldLink RX6 26 "JugsAndGlassesModel" "room" "[I") (by decide +kernel)) rfl rfl dX6_sizes_113 ?_
                            refine lv_iload hx hb dX6_sizes_116 (lv_at hl 9 rfl) ?_
                            refine lv_iconst (v := J (1)) hx hb dX6_sizes_118 rfl ?_
                            refine lv_iload hx hb dX6_sizes_119 (lv_at hl 7 rfl) ?_
                            refine lv_bipush (v := J (10)) hx hb dX6_sizes_121 (by decide) ?_
                            refine j_irem hx hb (by omega) (by omega) (by omega) (by omega) dX6_sizes_123 ?_
                            refine j_iadd hx hb dX6_sizes_124 ?_
                            refine o_iast (A' := (va_up A1 8 (uf f p9 (1 + (y % 10))))) (i := p9) (x := 1 + (y % 10)) hx hb hk hW hS hM hF 8 (by decide) rfl (FP.a 8 (by decide) ⟨by decide, by decide⟩) (by omega) (show p9 < 4 from by omega) (show 4 < 2147483648 from by omega) (bx_uu _ _ _ _) dX6_sizes_125 (fun h H locs hM hF hst hW hS => ?_)
                            refine lv_iload hx hb dX6_sizes_126 (lv_at hl 7 rfl) ?_
                            refine lv_bipush (v := J (10)) hx hb dX6_sizes_128 (by decide) ?_
                            refine j_idiv hx hb (by omega) (by omega) (by omega) (by omega) dX6_sizes_130 ?_
                            refine lv_istore (lv' := [(7, .int (J (y / 10))), (0, .ref o), (1, .int (J k)), (2, .int (J b)), (3, .int (J i)), (4, .int (J mn)), (5, .int (J sm)), (6, .int (J t)), (8, .int (J al)), (9, .int (J p9))]) hx hb dX6_sizes_131 hl (by decide) rfl (fun ls hl => ?_)
                            refine lv_iload hx hb dX6_sizes_133 (lv_at hl 8 rfl) ?_
                            refine lv_aload_n hx hb dX6_sizes_135 rfl (lv_at hl 1 rfl) ?_
                            refine g_get (ci := 6) (C := RX6) (T := TX6) (N := 28) (v := .ref (R 8)) hx hb hfX6 (fun _ h9 => h9) hown hk hW hM.1 rfl 8 (by decide) (hts (.fieldLink RX6 26 "JugsAndGlassesModel" "room" "[I") (by decide +kernel)) rfl rfl dX6_sizes_136 ?_
                            refine lv_iload hx hb dX6_sizes_139 (lv_at hl 9 rfl) ?_
                            refine g_iald (n := 4) (f := uf f p9 (1 + y % 10)) (i := p9) hx hb hk hW (hM.ai 8 (by decide) rfl) (by omega) (by omega) (by decide) dX6_sizes_141 ?_
                            rw [uf_same]
                            refine j_iadd hx hb dX6_sizes_142 ?_
                            refine lv_istore (lv' := [(8, .int (J (al + (1 + y % 10)))), (7, .int (J (y / 10))), (0, .ref o), (1, .int (J k)), (2, .int (J b)), (3, .int (J i)), (4, .int (J mn)), (5, .int (J sm)), (6, .int (J t)), (9, .int (J p9))]) hx hb dX6_sizes_143 hl (by decide) rfl (fun ls hl => ?_)
                            refine lv_iinc (v := J (p9 - 1)) (lv' := [(9, .int (J (p9 - 1))), (8, .int (J (al + (1 + y % 10)))), (7, .int (J (y / 10))), (0, .ref o), (1, .int (J k)), (2, .int (J b)), (3, .int (J i)), (4, .int (J mn)), (5, .int (J sm)), (6, .int (J t))]) hx hb dX6_sizes_145 hl (k := 9) rfl (J_inc (by omega)) (by decide) rfl (fun ls hl => ?_)
                            refine lv_goto (tgt := 107) hx hb dX6_sizes_148 (by decide) ?_
                            exact ih_107 (y / 10) (al + (1 + y % 10)) (p9 - 1) (uf f p9 (1 + (y % 10))) h H locs ls (by omega) (by omega) hdd.2 (by omega) (by rw [ela, show p9 - 1 + 1 = p9 by omega, sT_s _ (by omega), hdd.1]; omega) (fun j j0 j1 => by by_cases e : j = p9; (rw [e, uf_same, hdd.1]); (rw [uf_ne _ _ e]; exact hfp j (by omega) j1)) hM hF hW hS (lv_sub hl [3, 4, 5, 6, 7, 8, 9, 2, 1, 0] rfl)
                      exact loop_107 4 t 0 (k - 1) (A1 8) h H locs ls (by omega) (by omega) (by rw [show k - 1 - (k - 1) = 0 by omega]; exact (Int.ediv_one t).symm) (by omega) (by rw [show k - 1 + 1 = k by omega]; omega) (fun j j0 j1 => absurd j1 (by omega)) (by rw [va_up_id]; exact hM) hF hW hS (lv_sub hl [3, 4, 5, 6, 7, 8, 9, 2, 1, 0] rfl)
                exact loop_88 1001 0 J1 A1 h H locs ls (by omega) (by omega) hRSK (fun t9 t0 t1 => absurd t1 (by omega)) hM hF hW hS (lv_sub hl [1, 2, 3, 4, 5, 6, 0] rfl)
          exact loop_76 32 k (va_up (va_up (va_up I 7 k) 10 1) 11 1) A h H locs ls (by omega) (by omega) (⟨⟨rfl, rfl, rfl, rfl, rfl, rfl, rfl⟩, rfl, rfl, rfl⟩) (fun s9 t9 s0 s1 => absurd s1 (by omega)) hM hF hW hS (lv_sub hl [2, 3, 4, 5, 1, 0] rfl)
        refine lv_iload_n hx hb dX6_sizes_48 rfl (lv_at hl 1 rfl) ?_
        refine lv_iconst (v := J (1)) hx hb dX6_sizes_49 rfl ?_
        refine j_icmp_ne (x := k) (y := 1) (tgt := 58) hx hb ⟨by omega, by omega⟩ ⟨by decide, by decide⟩ dX6_sizes_50 (by decide) (fun c_50 => ?_) (fun c_50 => ?_)
        · refine lv_iload_n hx hb dX6_sizes_58 rfl (lv_at hl 1 rfl) ?_
          refine lv_iconst (v := J (2)) hx hb dX6_sizes_59 rfl ?_
          refine j_icmp_ne (x := k) (y := 2) (tgt := 68) hx hb ⟨by omega, by omega⟩ ⟨by decide, by decide⟩ dX6_sizes_60 (by decide) (fun c_60 => ?_) (fun c_60 => ?_)
          · refine lv_sipush (v := J (1000)) hx hb dX6_sizes_68 (by decide) ?_
            exact cut_71 1000  ls (by omega) (lv_sub hl [0, 1, 2, 3] rfl)
          · refine lv_bipush (v := J (100)) hx hb dX6_sizes_63 (by decide) ?_
            refine lv_goto (tgt := 71) hx hb dX6_sizes_65 (by decide) ?_
            exact cut_71 100  ls (by omega) (lv_sub hl [0, 1, 2, 3] rfl)
        · refine lv_bipush (v := J (10)) hx hb dX6_sizes_53 (by decide) ?_
          refine lv_goto (tgt := 71) hx hb dX6_sizes_55 (by decide) ?_
          exact cut_71 10  ls (by omega) (lv_sub hl [0, 1, 2, 3] rfl)
      · refine lv_bipush (v := J (-2)) hx hb dX6_sizes_30 (by decide) ?_
        exact g_iret hx hb hr hW hS dX6_sizes_32 hlocks (⟨hF, _, _, hM, hrf, congrArg (fun q : Int => some (Value.int (J q))) (show -2 = (if 1 ≤ k ∧ k ≤ 3 ∧ 1 ≤ b ∧ b ≤ 10 ∧ 0 ≤ i ∧ i < k then (if k = 1 ∧ 1 < b then -1 else if i = k - 1 then b else 1) else -2) from by rw [if_neg (by first | (have := p_in_0 c_27; omega) | (have := p_in_0 c_16; omega) | (have := p_in_0 c_6; omega))])⟩)
