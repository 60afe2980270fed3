set_option maxHeartbeats 4000000 in
set_option maxRecDepth 100000 in
theorem s_settle (l : Launch) (g : GX) (base : Nat) (sa : Nat → Nat) (h0 : Hp) (o : Nat) (R : Nat → Nat) (I : Nat → Int) (L : Nat → Int) (A : Nat → Int → Int) (oj : Nat) (Rj : Nat → Nat) (Ij : Nat → Int) (Aj : Nat → Int → Int) (ot : Nat) (Rt : Nat → Nat) (It : Nat → Int) (Lt : Nat → Int) (At : Nat → Int → Int) (x0 sg : Int) (hM : OB g 3 2 kd3 h0 o R I L A) (hJ : OB g 1 7 kd1 h0 oj Rj Ij L4 Aj) (hT : OB g 4 4 kd4 h0 ot Rt It Lt At) (hw9 : Wok Ij Aj) (hSJ : ∀ q, FP 2 kd3 o R q → ¬ FP 7 kd1 oj Rj q) (hTS : ∀ q, FP 4 kd4 ot Rt q → ¬ FP 2 kd3 o R q) (hTJ : ∀ q, FP 4 kd4 ot Rt q → ¬ FP 7 kd1 oj Rj q) (hL : mT (Aj 4) (Ij 0) ≤ L 0 ∧ L 0 ≤ 14641 ∧ L 1 = L 0) (hLt : Lt 0 ≤ 14641) (hr9 : 0 ≤ It 3 ∧ It 3 ≤ mT (Aj 4) (Ij 0) ∧ It 3 ≤ Lt 0) (hfo : ∀ k, 0 ≤ k → k < It 3 → 0 ≤ At 0 k ∧ At 0 k < mT (Aj 4) (Ij 0)) (hinj : ∀ i j, 0 ≤ i → i < j → j < It 3 → At 0 i ≠ At 0 j) (hsg : 0 ≤ sg ∧ sg + 10 < 1000000) (hrg : ∀ y, 0 ≤ y → y < L 0 → 0 ≤ A 0 y ∧ A 0 y ≤ 1000000) (hat : ∀ y, 0 ≤ y → y < mT (Aj 4) (Ij 0) → A 0 y < 1000000 → ∃ l, PS (nxC (Ij 0) (Ij 2) (Ij 3) (Aj 4)) (spC (Aj 4)) l x0 y (A 0 y)) (hfd : ∀ y, 0 ≤ y → y < mT (Aj 4) (Ij 0) → A 0 y < 1000000 → ∃ k, 0 ≤ k ∧ k < It 3 ∧ At 0 k = y) : MC l g base sa yX3_settle wsX3_settle ({ frames := 2, cells := 0, slots := 0, locals := 49 }) ([.ref o, .ref oj, .ref ot, .int (J sg)]) h0 (fun r h' => ∃ w le wk f, r = some (.int (J w)) ∧ Fr (fun q => FP 2 kd3 o R q ∨ FP 7 kd1 oj Rj q) h0 h' ∧ OB g 3 2 kd3 h' o R I L (va_up (va_up A 0 le) 1 wk) ∧ OB g 1 7 kd1 h' oj Rj Ij L4 (va_up Aj 5 f) ∧ (∀ i, 0 ≤ i → i < 4 → 0 ≤ f i ∧ f i ≤ 10) ∧ SQ (mT (Aj 4) (Ij 0)) (L 0) (nxC (Ij 0) (Ij 2) (Ij 3) (Aj 4)) (spC (Aj 4)) x0 sg (A 0) le wk w (24 * w)) := by
  refine Met.ofW (cc := cX3_settle) (maxL := 10) (ret := (some .int)) (by decide) rfl ?_
  intro p e s m args below meth c s₁ B hml hv
  obtain ⟨rfl, hk, hW⟩ := hv
  have hx := B.exec
  have hb := B.bytes
  have hr := B.returns
  have hts := atoms_spec (ws := wsX3_settle) B.pre
  have hown : s.vm.findClass RX3 = some m.cls := findClass_of_methodNamed B.named
  have hlocks := B.notSynchronized
  have hfX1 : ∀ w ∈ wsX10, w.before ([.ref o, .ref oj, .ref ot, .int (J sg)]).toArray s = true := fun w h => hts w (List.mem_cons_of_mem _ (List.mem_append_right _ h))
  have hfX3 : ∀ w ∈ wsX30, w.before ([.ref o, .ref oj, .ref ot, .int (J sg)]).toArray s = true := fun w h => hts w (List.mem_cons_of_mem _ (List.mem_append_left _ (List.mem_append_right _ h)))
  have hfX4 : ∀ w ∈ wsX40, w.before ([.ref o, .ref oj, .ref ot, .int (J sg)]).toArray s = true := fun w h => hts w (List.mem_cons_of_mem _ (List.mem_append_left _ (List.mem_append_left _ (List.mem_append_right _ h))))
  have hS : va_S (Ab base) s.heap s.heap [] := va_S.rf
  have hl := lv_entry ([.ref o, .ref oj, .ref ot, .int (J sg)]) (n := 10) (Nat.le_of_ble_eq_true rfl)
  rw [lg_entry_eq]
  generalize (lg_sl ([.ref o, .ref oj, .ref ot, .int (J sg)]) ++ List.replicate (10 - (lg_sl ([.ref o, .ref oj, .ref ot, .int (J sg)])).length) Slot.unset).toArray = ls at hl ⊢
  have hl : lv_has ls 10 [(0, .ref o), (1, .ref oj), (2, .ref ot), (3, .int (J sg))] := hl
  have hF : Fr (fun q => FP 2 kd3 o R q ∨ FP 7 kd1 oj Rj q) h0 h0 := Fr.rf
  obtain ⟨hw1, hw2, hw3, hw4, hw5, hw6⟩ := id hw9
  have hmr := mT_r hw1
  refine lv_iconst (v := J (0)) hx hb dX3_settle_0 rfl ?_
  refine lv_istore (lv' := [(4, .int (J 0)), (0, .ref o), (1, .ref oj), (2, .ref ot), (3, .int (J sg))]) hx hb dX3_settle_1 hl (by decide) rfl (fun ls hl => ?_)
  refine lv_iconst (v := J (0)) hx hb dX3_settle_3 rfl ?_
  refine lv_istore (lv' := [(5, .int (J 0)), (4, .int (J 0)), (0, .ref o), (1, .ref oj), (2, .ref ot), (3, .int (J sg))]) hx hb dX3_settle_4 hl (by decide) rfl (fun ls hl => ?_)
  have loop_6 : ∀ (n9 : Nat) (k : Int) (w : Int) (wk : Int → Int) (h : Hp) (H : Heap) (locs : List Loc) (ls : Array Slot), It 3 - k < (n9 : Int) → (0 ≤ k ∧ k ≤ It 3) → (SF (mT (Aj 4) (Ij 0)) sg (At 0) (A 0) wk w k) → (OB g 3 2 kd3 h o R I L (va_up A 1 (wk))) → (OB g 1 7 kd1 h oj Rj Ij L4 Aj) → (OB g 4 4 kd4 h ot Rt It Lt At) → (Fr (fun q => FP 2 kd3 o R q ∨ FP 7 kd1 oj Rj q) h0 h) → (Wd g base h H) → (va_S (Ab base) s.heap H locs) → (lv_has ls 10 [(0, .ref o), (1, .ref oj), (2, .ref ot), (3, .int (J sg)), (4, .int (J w)), (5, .int (J k))]) → W p l e (headSpec wsX3_settle ({ frames := 2, cells := 0, slots := 0, locals := 49 })).room s m ([.ref o, .ref oj, .ref ot, .int (J sg)]).toArray below meth c H locs 0 0 (MQ below (QcM g base (fun r h' => ∃ w le wk f, r = some (.int (J w)) ∧ Fr (fun q => FP 2 kd3 o R q ∨ FP 7 kd1 oj Rj q) h0 h' ∧ OB g 3 2 kd3 h' o R I L (va_up (va_up A 0 le) 1 wk) ∧ OB g 1 7 kd1 h' oj Rj Ij L4 (va_up Aj 5 f) ∧ (∀ i, 0 ≤ i → i < 4 → 0 ≤ f i ∧ f i ≤ 10) ∧ SQ (mT (Aj 4) (Ij 0)) (L 0) (nxC (Ij 0) (Ij 2) (Ij 3) (Aj 4)) (spC (Aj 4)) x0 sg (A 0) le wk w (24 * w))) ([.ref o, .ref oj, .ref ot, .int (J sg)]).toArray s (0) (0) (Ab base)) (F0 m 6 ls []) := by
    intro n9
    induction n9 with
    | zero =>
      intro k w wk h H locs ls hmu hk9 hSF hM hJ hT hF hW hS hl
      exact absurd hmu (by omega)
    | succ n9 ih =>
      intro k w wk h H locs ls hmu hk9 hSF hM hJ hT hF hW hS hl
      have hw0 := hSF.1
      have hwk9 := hSF.2.1
      have ih_6 := ih
      refine lv_iload hx hb dX3_settle_6 (lv_at hl 5 rfl) ?_
      refine lv_aload_n hx hb dX3_settle_8 rfl (lv_at hl 2 rfl) ?_
      refine g_get (ci := 4) (C := RX4) (T := TX4) (N := 4) (v := .int (J (It 3))) hx hb hfX4 (fun _ h9 => h9) hown hk hW hT.1 rfl 3 (by decide) (hts (.fieldLink RX3 36 "JugsAndGlasses$Tour" "reached" "I") (by decide +kernel)) rfl rfl dX3_settle_9 ?_
      refine j_icmp_ge (x := k) (y := It 3) (tgt := 62) hx hb ⟨by omega, by omega⟩ ⟨by omega, by omega⟩ dX3_settle_12 (by decide) (fun c_12 => ?_) (fun c_12 => ?_)
      · refine lv_iconst (v := J (0)) hx hb dX3_settle_62 rfl ?_
        refine lv_istore (lv' := [(5, .int (J 0)), (0, .ref o), (1, .ref oj), (2, .ref ot), (3, .int (J sg)), (4, .int (J w))]) hx hb dX3_settle_63 hl (by decide) rfl (fun ls hl => ?_)
        have loop_65 : ∀ (n9 : Nat) (k : Int) (w : Int) (le : Int → Int) (wk : Int → Int) (f : Int → Int) (h : Hp) (H : Heap) (locs : List Loc) (ls : Array Slot), mT (Aj 4) (Ij 0) - k < (n9 : Int) → (0 ≤ k ∧ k ≤ w) → (∀ i, 0 ≤ i → i < 4 → 0 ≤ f i ∧ f i ≤ 10) → (SQ (mT (Aj 4) (Ij 0)) (L 0) (nxC (Ij 0) (Ij 2) (Ij 3) (Aj 4)) (spC (Aj 4)) x0 sg (A 0) le wk w (24 * k)) → (OB g 3 2 kd3 h o R I L (va_up (va_up A 0 (le)) 1 (wk))) → (OB g 1 7 kd1 h oj Rj Ij L4 (va_up Aj 5 (f))) → (OB g 4 4 kd4 h ot Rt It Lt At) → (Fr (fun q => FP 2 kd3 o R q ∨ FP 7 kd1 oj Rj q) h0 h) → (Wd g base h H) → (va_S (Ab base) s.heap H locs) → (lv_has ls 10 [(0, .ref o), (1, .ref oj), (2, .ref ot), (3, .int (J sg)), (4, .int (J w)), (5, .int (J k))]) → W p l e (headSpec wsX3_settle ({ frames := 2, cells := 0, slots := 0, locals := 49 })).room s m ([.ref o, .ref oj, .ref ot, .int (J sg)]).toArray below meth c H locs 0 0 (MQ below (QcM g base (fun r h' => ∃ w le wk f, r = some (.int (J w)) ∧ Fr (fun q => FP 2 kd3 o R q ∨ FP 7 kd1 oj Rj q) h0 h' ∧ OB g 3 2 kd3 h' o R I L (va_up (va_up A 0 le) 1 wk) ∧ OB g 1 7 kd1 h' oj Rj Ij L4 (va_up Aj 5 f) ∧ (∀ i, 0 ≤ i → i < 4 → 0 ≤ f i ∧ f i ≤ 10) ∧ SQ (mT (Aj 4) (Ij 0)) (L 0) (nxC (Ij 0) (Ij 2) (Ij 3) (Aj 4)) (spC (Aj 4)) x0 sg (A 0) le wk w (24 * w))) ([.ref o, .ref oj, .ref ot, .int (J sg)]).toArray s (0) (0) (Ab base)) (F0 m 65 ls []) := by
          intro n9
          induction n9 with
          | zero =>
            intro k w le wk f h H locs ls hmu hk9 hfr hSQ hM hJ hT hF hW hS hl
            exact absurd hmu (by have := hSQ.2.1; omega)
          | succ n9 ih =>
            intro k w le wk f h H locs ls hmu hk9 hfr hSQ hM hJ hT hF hW hS hl
            have hwN := hSQ.2.1
            have hw0 := hSQ.1
            have ih_65 := ih
            refine lv_iload hx hb dX3_settle_65 (lv_at hl 5 rfl) ?_
            refine lv_iload hx hb dX3_settle_67 (lv_at hl 4 rfl) ?_
            refine j_icmp_ge (x := k) (y := w) (tgt := 207) hx hb ⟨by omega, by omega⟩ ⟨by omega, by omega⟩ dX3_settle_69 (by decide) (fun c_69 => ?_) (fun c_69 => ?_)
            · refine lv_iload hx hb dX3_settle_207 (lv_at hl 4 rfl) ?_
              exact g_iret hx hb hr hW hS dX3_settle_209 hlocks (⟨w, le, wk, f, rfl, hF, hM, hJ, hfr, by have e9 : k = w := (by omega); rw [e9] at hSQ; exact hSQ⟩)
            · refine lv_iload hx hb dX3_settle_72 (lv_at hl 5 rfl) ?_
              refine lv_aload_n hx hb dX3_settle_74 rfl (lv_at hl 0 rfl) ?_
              refine g_get (ci := 3) (C := RX3) (T := TX3) (N := 2) (v := .ref (R 1)) hx hb hfX3 (fun _ h9 => h9) hown hk hW hM.1 rfl 1 (by decide) (hts (.fieldLink RX3 15 "JugsAndGlasses$Spilling" "work" "[I") (by decide +kernel)) rfl rfl dX3_settle_75 ?_
              refine g_alen (n := L 1) hx hb hk hW (hM.ai 1 (by decide) rfl) (by omega) dX3_settle_78 ?_
              refine j_icmp_ge (x := k) (y := L 1) (tgt := 207) hx hb ⟨by omega, by omega⟩ ⟨by omega, by omega⟩ dX3_settle_79 (by decide) (fun c_79 => ?_) (fun c_79 => ?_)
              · exfalso
                omega
              · refine lv_aload_n hx hb dX3_settle_82 rfl (lv_at hl 0 rfl) ?_
                refine g_get (ci := 3) (C := RX3) (T := TX3) (N := 2) (v := .ref (R 1)) hx hb hfX3 (fun _ h9 => h9) hown hk hW hM.1 rfl 1 (by decide) (hts (.fieldLink RX3 15 "JugsAndGlasses$Spilling" "work" "[I") (by decide +kernel)) rfl rfl dX3_settle_83 ?_
                refine lv_iload hx hb dX3_settle_86 (lv_at hl 5 rfl) ?_
                refine g_iald (n := L 1) (f := wk) (i := k) hx hb hk hW (hM.ai 1 (by decide) rfl) (by omega) (by omega) (by omega) dX3_settle_88 ?_
                refine lv_istore (lv' := [(6, .int (J (wk k))), (0, .ref o), (1, .ref oj), (2, .ref ot), (3, .int (J sg)), (4, .int (J w)), (5, .int (J k))]) hx hb dX3_settle_89 hl (by decide) rfl (fun ls hl => ?_)
                have hyr := hSQ.2.2.2.2.2.1 k hk9.1 (by omega)
                obtain ⟨y, ey⟩ : ∃ y, y = wk k := ⟨_, rfl⟩
                rw [← ey] at hyr hl
                refine lv_aload_n hx hb dX3_settle_91 rfl (lv_at hl 2 rfl) ?_
                refine lv_iload hx hb dX3_settle_92 (lv_at hl 0 rfl) ?_
                refine g_callV (As := [.int (J y)]) (rest := []) (b := oj) (ci := 1) (C := RX1) (T := TX1) (N := 7) ⟨hx, hb, hml, hown, hts⟩ (k_stand l g base sa h oj Rj Ij (va_up Aj 5 f) y hJ ⟨by omega, by omega⟩ ⟨hw1.1, hw1.2.1⟩ hw1.2.2) (cwV 1 hts gX3_settle_X1_stand rfl rfl rfl (by decide +kernel) ⟨Nat.le_of_ble_eq_true rfl, Nat.le_of_ble_eq_true rfl⟩) hk hW hS hJ.1 rfl rfl hl.1 (Nat.le_of_ble_eq_true rfl) dX3_settle_94 ⟨Nat.le_of_ble_eq_true rfl, Nat.le_of_ble_eq_true rfl⟩ (fun r9 h9 H locs hp hW hS => ?_)
                have hp : r9 = none ∧ OB g 1 7 kd1 h9 oj Rj Ij L4 (va_up (va_up Aj 5 f) 5 (p_stand (Ij 0) (Aj 4) f y)) ∧ Fr (FP 7 kd1 oj Rj) h h9 := hp
                obtain ⟨rfl, hJ, hF9⟩ := hp
                refine W.eq (g2 := F0 m 97 ls []) rfl ?_
                have hM := hM.fr hF9 hSJ
                have hT := hT.fr hF9 hTJ
                have hF := hF.tr hF9 (fun q w _ => Or.inr w)
                rw [bx_uu] at hJ
                generalize h9 = h at hM hT hJ hF hW
                refine lv_iconst (v := J (0)) hx hb dX3_settle_97 rfl ?_
                refine lv_istore (lv' := [(7, .int (J 0)), (6, .int (J y)), (0, .ref o), (1, .ref oj), (2, .ref ot), (3, .int (J sg)), (4, .int (J w)), (5, .int (J k))]) hx hb dX3_settle_98 hl (by decide) rfl (fun ls hl => ?_)
                have loop_100 : ∀ (n9 : Nat) (a : Int) (w : Int) (le : Int → Int) (wk : Int → Int) (h : Hp) (H : Heap) (locs : List Loc) (ls : Array Slot), 24 - a < (n9 : Int) → (0 ≤ a ∧ a ≤ 24) → (k < w) → (y = wk k) → (SQ (mT (Aj 4) (Ij 0)) (L 0) (nxC (Ij 0) (Ij 2) (Ij 3) (Aj 4)) (spC (Aj 4)) x0 sg (A 0) le wk w (24 * k + a)) → (OB g 3 2 kd3 h o R I L (va_up (va_up A 0 (le)) 1 (wk))) → (OB g 1 7 kd1 h oj Rj Ij L4 (va_up Aj 5 (p_stand (Ij 0) (Aj 4) f y))) → (OB g 4 4 kd4 h ot Rt It Lt At) → (Fr (fun q => FP 2 kd3 o R q ∨ FP 7 kd1 oj Rj q) h0 h) → (Wd g base h H) → (va_S (Ab base) s.heap H locs) → (lv_has ls 10 [(0, .ref o), (1, .ref oj), (2, .ref ot), (3, .int (J sg)), (4, .int (J w)), (5, .int (J k)), (6, .int (J y)), (7, .int (J a))]) → W p l e (headSpec wsX3_settle ({ frames := 2, cells := 0, slots := 0, locals := 49 })).room s m ([.ref o, .ref oj, .ref ot, .int (J sg)]).toArray below meth c H locs 0 0 (MQ below (QcM g base (fun r h' => ∃ w le wk f, r = some (.int (J w)) ∧ Fr (fun q => FP 2 kd3 o R q ∨ FP 7 kd1 oj Rj q) h0 h' ∧ OB g 3 2 kd3 h' o R I L (va_up (va_up A 0 le) 1 wk) ∧ OB g 1 7 kd1 h' oj Rj Ij L4 (va_up Aj 5 f) ∧ (∀ i, 0 ≤ i → i < 4 → 0 ≤ f i ∧ f i ≤ 10) ∧ SQ (mT (Aj 4) (Ij 0)) (L 0) (nxC (Ij 0) (Ij 2) (Ij 3) (Aj 4)) (spC (Aj 4)) x0 sg (A 0) le wk w (24 * w))) ([.ref o, .ref oj, .ref ot, .int (J sg)]).toArray s (0) (0) (Ab base)) (F0 m 100 ls []) := by
                  intro n9
                  induction n9 with
                  | zero =>
                    intro a w le wk h H locs ls hmu ha9 hkw ey hSQ hM hJ hT hF hW hS hl
                    exact absurd hmu (by omega)
                  | succ n9 ih =>
                    intro a w le wk h H locs ls hmu ha9 hkw ey hSQ hM hJ hT hF hW hS hl
                    have hwN := hSQ.2.1
                    have hyr := hSQ.2.2.2.2.2.1 k hk9.1 hkw
                    rw [← ey] at hyr
                    have ih_100 := ih
                    refine lv_iload hx hb dX3_settle_100 (lv_at hl 7 rfl) ?_
                    refine lv_bipush (v := J (24)) hx hb dX3_settle_102 (by decide) ?_
                    refine j_icmp_ge (x := a) (y := 24) (tgt := 201) hx hb ⟨by omega, by omega⟩ ⟨by decide, by decide⟩ dX3_settle_104 (by decide) (fun c_104 => ?_) (fun c_104 => ?_)
                    · refine lv_iinc (v := J (k + 1)) (lv' := [(5, .int (J (k + 1))), (0, .ref o), (1, .ref oj), (2, .ref ot), (3, .int (J sg)), (4, .int (J w)), (6, .int (J y)), (7, .int (J a))]) hx hb dX3_settle_201 hl (k := 5) rfl (J_inc (by omega)) (by decide) rfl (fun ls hl => ?_)
                      refine lv_goto (tgt := 65) hx hb dX3_settle_204 (by decide) ?_
                      exact ih_65 (k + 1) w le wk (p_stand (Ij 0) (Aj 4) f y) h H locs ls (by omega) (by omega) (stand_r hw1 hfr y) (by have e9 : 24 * (k + 1) = 24 * k + a := (by omega); rw [e9]; exact hSQ) hM hJ hT hF hW hS (lv_sub hl [1, 2, 3, 4, 5, 0] rfl)
                    · refine lv_iload hx hb dX3_settle_107 (lv_at hl 6 rfl) ?_
                      refine lv_aload_n hx hb dX3_settle_109 rfl (lv_at hl 1 rfl) ?_
                      refine lv_iload hx hb dX3_settle_110 (lv_at hl 7 rfl) ?_
                      refine g_callV (As := [.int (J a)]) (rest := [.int (J y)]) (b := oj) (ci := 1) (C := RX1) (T := TX1) (N := 7) ⟨hx, hb, hml, hown, hts⟩ (k_shiftBy l g base sa h oj Rj Ij (va_up Aj 5 (p_stand (Ij 0) (Aj 4) f y)) a hJ ⟨by omega, by omega⟩ (Jok_of hw9 (stand_v hw1 y))) (cwV 1 hts gX3_settle_X1_shiftBy rfl rfl rfl (by decide +kernel) ⟨Nat.le_of_ble_eq_true rfl, Nat.le_of_ble_eq_true rfl⟩) hk hW hS hJ.1 rfl rfl hl.1 (Nat.le_of_ble_eq_true rfl) dX3_settle_112 ⟨Nat.le_of_ble_eq_true rfl, Nat.le_of_ble_eq_true rfl⟩ (fun r9 h9 H locs hp hW hS => ?_)
                      have hp : r9 = some (.int (J (p_shift (Ij 0) (Ij 2) (Ij 3) (Aj 4) (p_stand (Ij 0) (Aj 4) f y) (Aj 6) a))) ∧ h9 = h := hp
                      obtain ⟨rfl, e9⟩ := hp
                      rw [e9] at hW
                      refine W.eq (g2 := F0 m 115 ls [.int (J (p_shift (Ij 0) (Ij 2) (Ij 3) (Aj 4) (p_stand (Ij 0) (Aj 4) f y) (Aj 6) a)), .int (J y)]) rfl ?_
                      refine j_iadd hx hb dX3_settle_115 ?_
                      have et : y + (p_shift (Ij 0) (Ij 2) (Ij 3) (Aj 4) (p_stand (Ij 0) (Aj 4) f y) (Aj 6) a) = nxC (Ij 0) (Ij 2) (Ij 3) (Aj 4) y a := shift_eq hw1 hw5 hyr.1 hyr.2.1 a
                      have hnr := nxC_r (tp := Ij 2) (dr := Ij 3) hw1 hyr.1 hyr.2.1 a
                      rw [et]
                      obtain ⟨t, et2⟩ : ∃ t, t = nxC (Ij 0) (Ij 2) (Ij 3) (Aj 4) y a := ⟨_, rfl⟩
                      rw [← et2] at hnr ⊢
                      refine lv_istore (lv' := [(8, .int (J t)), (0, .ref o), (1, .ref oj), (2, .ref ot), (3, .int (J sg)), (4, .int (J w)), (5, .int (J k)), (6, .int (J y)), (7, .int (J a))]) hx hb dX3_settle_116 hl (by decide) rfl (fun ls hl => ?_)
                      refine lv_iload_n hx hb dX3_settle_118 rfl (lv_at hl 4 rfl) ?_
                      refine lv_aload_n hx hb dX3_settle_119 rfl (lv_at hl 2 rfl) ?_
                      refine lv_iload hx hb dX3_settle_120 (lv_at hl 8 rfl) ?_
                      refine g_callV (As := [.int (J a)]) (rest := [.int (J sg)]) (b := oj) (ci := 1) (C := RX1) (T := TX1) (N := 7) ⟨hx, hb, hml, hown, hts⟩ (k_spiltBy l g base sa h oj Rj Ij (va_up Aj 5 (p_stand (Ij 0) (Aj 4) f y)) a hJ ⟨by omega, by omega⟩) (cwV 1 hts gX3_settle_X1_spiltBy rfl rfl rfl (by decide +kernel) ⟨Nat.le_of_ble_eq_true rfl, Nat.le_of_ble_eq_true rfl⟩) hk hW hS hJ.1 rfl rfl hl.1 (Nat.le_of_ble_eq_true rfl) dX3_settle_122 ⟨Nat.le_of_ble_eq_true rfl, Nat.le_of_ble_eq_true rfl⟩ (fun r9 h9 H locs hp hW hS => ?_)
                      have hp : r9 = some (.int (J (p_spilt (p_stand (Ij 0) (Aj 4) f y) a))) ∧ h9 = h := hp
                      obtain ⟨rfl, e9⟩ := hp
                      rw [e9] at hW
                      refine W.eq (g2 := F0 m 125 ls [.int (J (p_spilt (p_stand (Ij 0) (Aj 4) f y) a)), .int (J sg)]) rfl ?_
                      have hspr := spilt_r (stand_r hw1 hfr y) a
                      refine j_iadd hx hb dX3_settle_125 ?_
                      obtain ⟨u, eu⟩ : ∃ u, u = p_spilt (p_stand (Ij 0) (Aj 4) f y) a := ⟨_, rfl⟩
                      rw [← eu] at hspr
                      refine W.eq (g2 := F0 m 126 ls [.int (J (sg + u))]) (by rw [eu]) ?_
                      refine lv_istore (lv' := [(9, .int (J (sg + u))), (8, .int (J t)), (0, .ref o), (1, .ref oj), (2, .ref ot), (3, .int (J sg)), (4, .int (J w)), (5, .int (J k)), (6, .int (J y)), (7, .int (J a))]) hx hb dX3_settle_126 hl (by decide) rfl (fun ls hl => ?_)
                      refine lv_iload hx hb dX3_settle_128 (lv_at hl 1 rfl) ?_
                      refine j_if_lt (x := t) (tgt := 195) hx hb ⟨by omega, by omega⟩ dX3_settle_130 (by decide) (fun c_130 => ?_) (fun c_130 => ?_)
                      · exfalso
                        omega
                      · refine lv_iload hx hb dX3_settle_133 (lv_at hl 1 rfl) ?_
                        refine lv_aload_n hx hb dX3_settle_135 rfl (lv_at hl 2 rfl) ?_
                        refine g_get (ci := 3) (C := RX3) (T := TX3) (N := 2) (v := .ref (R 0)) hx hb hfX3 (fun _ h9 => h9) hown hk hW hM.1 rfl 0 (by decide) (hts (.fieldLink RX3 9 "JugsAndGlasses$Spilling" "least" "[I") (by decide +kernel)) rfl rfl dX3_settle_136 ?_
                        refine g_alen (n := L 0) hx hb hk hW (hM.ai 0 (by decide) rfl) (by omega) dX3_settle_139 ?_
                        refine j_icmp_ge (x := t) (y := L 0) (tgt := 195) hx hb ⟨by omega, by omega⟩ ⟨by omega, by omega⟩ dX3_settle_140 (by decide) (fun c_140 => ?_) (fun c_140 => ?_)
                        · exfalso
                          omega
                        · have htr := hSQ.2.2.1 t hnr.1 (by omega)
                          refine lv_aload_n hx hb dX3_settle_143 rfl (lv_at hl 2 rfl) ?_
                          refine g_get (ci := 3) (C := RX3) (T := TX3) (N := 2) (v := .ref (R 0)) hx hb hfX3 (fun _ h9 => h9) hown hk hW hM.1 rfl 0 (by decide) (hts (.fieldLink RX3 9 "JugsAndGlasses$Spilling" "least" "[I") (by decide +kernel)) rfl rfl dX3_settle_144 ?_
                          refine lv_iload hx hb dX3_settle_147 (lv_at hl 1 rfl) ?_
                          refine g_iald (n := L 0) (f := le) (i := t) hx hb hk hW (hM.ai 0 (by decide) rfl) (by omega) (by omega) (by omega) dX3_settle_149 ?_
                          refine lv_iload hx hb dX3_settle_150 (lv_at hl 0 rfl) ?_
                          refine j_icmp_gt (x := le t) (y := sg + u) (tgt := 158) hx hb ⟨by omega, by omega⟩ ⟨by omega, by omega⟩ dX3_settle_152 (by decide) (fun c_152 => ?_) (fun c_152 => ?_)
                          · have hty : t ≠ y := fun e9 => by rw [e9, hyr.2.2] at c_152; omega
                            have hspe : spC (Aj 4) y a = u := by rw [eu, spC_eq (nxC_act (tp := Ij 2) (dr := Ij 3) (sz := Aj 4) (by rw [← et2]; exact hty))]
                            have hput := SQ_put hSQ (by omega) hsg.1 hsg.2 hk9.1 hkw ha9.1 (by omega) (by rw [← ey, ← et2]; omega) (by rw [← ey, ← et2]; omega) (by rw [← ey, ← et2]; exact hty) (by rw [← ey, hspe]; exact hspr) (by rw [← ey, ← et2, hspe]; omega)
                            rw [← ey, ← et2, hspe] at hput
                            have hwl := SQ_lt hSQ hnr.1 hnr.2 (by omega)
                            refine lv_aload_n hx hb dX3_settle_158 rfl (lv_at hl 2 rfl) ?_
                            refine g_get (ci := 3) (C := RX3) (T := TX3) (N := 2) (v := .ref (R 0)) hx hb hfX3 (fun _ h9 => h9) hown hk hW hM.1 rfl 0 (by decide) (hts (.fieldLink RX3 9 "JugsAndGlasses$Spilling" "least" "[I") (by decide +kernel)) rfl rfl dX3_settle_159 ?_
                            refine lv_iload hx hb dX3_settle_162 (lv_at hl 1 rfl) ?_
                            refine lv_iload hx hb dX3_settle_164 (lv_at hl 0 rfl) ?_
                            refine o_iast (A' := (va_up (va_up A 1 (wk)) 0 (uf le t (sg + u)))) (i := t) (x := sg + u) hx hb hk hW hS hM hF 0 (by decide) rfl (Or.inl (FP.a 0 (by decide) ⟨by decide, by decide⟩)) (by omega) (show t < L 0 from by omega) (show L 0 < 2147483648 from by omega) (by funext j9; by_cases q9 : j9 = 0 <;> simp [q9, va_up]) dX3_settle_166 (fun h H locs hM hF hst hW hS => ?_)
                            have hJ := hJ.fr hst (fun q h1 h2 => (fun q a b => hSJ q b a) q h1 (by rw [h2]; exact FP.a 0 (by decide) ⟨by decide, by decide⟩))
                            have hT := hT.fr hst (fun q h1 h2 => (fun q a b => hTS q a b) q h1 (by rw [h2]; exact FP.a 0 (by decide) ⟨by decide, by decide⟩))
                            refine lv_iload hx hb dX3_settle_167 (lv_at hl 0 rfl) ?_
                            refine lv_iload_n hx hb dX3_settle_169 rfl (lv_at hl 5 rfl) ?_
                            refine j_icmp_ne (x := sg + u) (y := sg) (tgt := 195) hx hb ⟨by omega, by omega⟩ ⟨by omega, by omega⟩ dX3_settle_170 (by decide) (fun c_170 => ?_) (fun c_170 => ?_)
                            · have hM : OB g 3 2 kd3 h o R I L (va_up (va_up A 0 (uf le t (sg + u))) 1 (wk)) := by
                                have e9 : (va_up (va_up A 1 (wk)) 0 (uf le t (sg + u))) = (va_up (va_up A 0 (uf le t (sg + u))) 1 (wk)) := by funext q9; by_cases w0 : q9 = 0 <;> by_cases w1 : q9 = 1 <;> simp [va_up, w0, w1]
                                rw [← e9]
                                exact hM
                              refine lv_iinc (v := J (a + 1)) (lv' := [(7, .int (J (a + 1))), (9, .int (J (sg + u))), (8, .int (J t)), (0, .ref o), (1, .ref oj), (2, .ref ot), (3, .int (J sg)), (4, .int (J w)), (5, .int (J k)), (6, .int (J y))]) hx hb dX3_settle_195 hl (k := 9) rfl (J_inc (by omega)) (by decide) rfl (fun ls hl => ?_)
                              refine lv_goto (tgt := 100) hx hb dX3_settle_198 (by decide) ?_
                              exact ih_100 (a + 1) w (uf le t (sg + u)) wk h H locs ls (by omega) (by omega) (by omega) ey (hput.1 (by omega)) hM hJ hT hF hW hS (lv_sub hl [3, 4, 5, 6, 7, 8, 9, 0] rfl)
                            · refine lv_iload hx hb dX3_settle_173 (lv_at hl 6 rfl) ?_
                              refine lv_aload_n hx hb dX3_settle_175 rfl (lv_at hl 2 rfl) ?_
                              refine g_get (ci := 3) (C := RX3) (T := TX3) (N := 2) (v := .ref (R 1)) hx hb hfX3 (fun _ h9 => h9) hown hk hW hM.1 rfl 1 (by decide) (hts (.fieldLink RX3 15 "JugsAndGlasses$Spilling" "work" "[I") (by decide +kernel)) rfl rfl dX3_settle_176 ?_
                              refine g_alen (n := L 1) hx hb hk hW (hM.ai 1 (by decide) rfl) (by omega) dX3_settle_179 ?_
                              refine j_icmp_ge (x := w) (y := L 1) (tgt := 195) hx hb ⟨by omega, by omega⟩ ⟨by omega, by omega⟩ dX3_settle_180 (by decide) (fun c_180 => ?_) (fun c_180 => ?_)
                              · exfalso
                                omega
                              · refine lv_aload_n hx hb dX3_settle_183 rfl (lv_at hl 2 rfl) ?_
                                refine g_get (ci := 3) (C := RX3) (T := TX3) (N := 2) (v := .ref (R 1)) hx hb hfX3 (fun _ h9 => h9) hown hk hW hM.1 rfl 1 (by decide) (hts (.fieldLink RX3 15 "JugsAndGlasses$Spilling" "work" "[I") (by decide +kernel)) rfl rfl dX3_settle_184 ?_
                                refine lv_iload hx hb dX3_settle_187 (lv_at hl 6 rfl) ?_
                                refine lv_iload hx hb dX3_settle_189 (lv_at hl 1 rfl) ?_
                                refine o_iast (A' := (va_up (va_up A 0 (uf le t (sg + u))) 1 (uf wk w t))) (i := w) (x := t) hx hb hk hW hS hM hF 1 (by decide) rfl (Or.inl (FP.a 1 (by decide) ⟨by decide, by decide⟩)) (by omega) (show w < L 1 from by omega) (show L 1 < 2147483648 from by omega) (by funext j9; by_cases q9 : j9 = 1 <;> simp [q9, va_up]) dX3_settle_191 (fun h H locs hM hF hst hW hS => ?_)
                                have hJ := hJ.fr hst (fun q h1 h2 => (fun q a b => hSJ q b a) q h1 (by rw [h2]; exact FP.a 1 (by decide) ⟨by decide, by decide⟩))
                                have hT := hT.fr hst (fun q h1 h2 => (fun q a b => hTS q a b) q h1 (by rw [h2]; exact FP.a 1 (by decide) ⟨by decide, by decide⟩))
                                refine lv_iinc (v := J (w + 1)) (lv' := [(4, .int (J (w + 1))), (9, .int (J (sg + u))), (8, .int (J t)), (0, .ref o), (1, .ref oj), (2, .ref ot), (3, .int (J sg)), (5, .int (J k)), (6, .int (J y)), (7, .int (J a))]) hx hb dX3_settle_192 hl (k := 6) rfl (J_inc (by omega)) (by decide) rfl (fun ls hl => ?_)
                                refine lv_iinc (v := J (a + 1)) (lv' := [(7, .int (J (a + 1))), (4, .int (J (w + 1))), (9, .int (J (sg + u))), (8, .int (J t)), (0, .ref o), (1, .ref oj), (2, .ref ot), (3, .int (J sg)), (5, .int (J k)), (6, .int (J y))]) hx hb dX3_settle_195 hl (k := 9) rfl (J_inc (by omega)) (by decide) rfl (fun ls hl => ?_)
                                refine lv_goto (tgt := 100) hx hb dX3_settle_198 (by decide) ?_
                                exact ih_100 (a + 1) (w + 1) (uf le t (sg + u)) (uf wk w t) h H locs ls (by omega) (by omega) (by omega) (by rw [uf_ne _ _ (by omega)]; exact ey) (by have h8 := (hput.2 (by omega)); rw [show sg + u = sg by omega]; exact h8) hM hJ hT hF hW hS (lv_sub hl [4, 5, 6, 7, 1, 8, 9, 0] rfl)
                          · refine lv_goto (tgt := 195) hx hb dX3_settle_155 (by decide) ?_
                            refine lv_iinc (v := J (a + 1)) (lv' := [(7, .int (J (a + 1))), (9, .int (J (sg + u))), (8, .int (J t)), (0, .ref o), (1, .ref oj), (2, .ref ot), (3, .int (J sg)), (4, .int (J w)), (5, .int (J k)), (6, .int (J y))]) hx hb dX3_settle_195 hl (k := 9) rfl (J_inc (by omega)) (by decide) rfl (fun ls hl => ?_)
                            refine lv_goto (tgt := 100) hx hb dX3_settle_198 (by decide) ?_
                            exact ih_100 (a + 1) w le wk h H locs ls (by omega) (by omega) (by omega) ey (SQ_no hSQ ha9.1 (by omega) (fun q => by rw [← ey, ← et2] at q ⊢; first | (rw [← spC_eq (hd := f) (nxC_act (tp := Ij 2) (dr := Ij 3) (by rw [← et2]; exact q)), ← eu]; omega) | omega)) hM hJ hT hF hW hS (lv_sub hl [3, 4, 5, 6, 7, 8, 9, 0] rfl)
                exact loop_100 25 0 w le wk h H locs ls (by omega) (by omega) (by omega) ey (by rw [Int.add_zero]; exact hSQ) hM hJ hT hF hW hS (lv_sub hl [2, 3, 4, 5, 6, 7, 1, 0] rfl)
        exact loop_65 ((mT (Aj 4) (Ij 0)).toNat + 1) 0 w (A 0) wk (Aj 5) h H locs ls (by omega) (by omega) hw6 (SQ_0 (by have e9 : k = It 3 := (by omega); rw [e9] at hSF; exact hSF) hr9.2.1 hfo hrg hat hfd (by omega)) (by have e8 : va_up (va_up A 0 (A 0)) 1 wk = va_up A 1 wk := (by rw [va_up_id]); rw [e8]; exact hM) (by rw [va_up_id]; exact hJ) hT hF hW hS (lv_sub hl [1, 2, 3, 4, 5, 0] rfl)
      · have hfk := hfo k hk9.1 (by omega)
        have hrk := hrg (At 0 k) hfk.1 (by omega)
        refine lv_iload hx hb dX3_settle_15 (lv_at hl 5 rfl) ?_
        refine lv_aload_n hx hb dX3_settle_17 rfl (lv_at hl 0 rfl) ?_
        refine g_get (ci := 3) (C := RX3) (T := TX3) (N := 2) (v := .ref (R 1)) hx hb hfX3 (fun _ h9 => h9) hown hk hW hM.1 rfl 1 (by decide) (hts (.fieldLink RX3 15 "JugsAndGlasses$Spilling" "work" "[I") (by decide +kernel)) rfl rfl dX3_settle_18 ?_
        refine g_alen (n := L 1) hx hb hk hW (hM.ai 1 (by decide) rfl) (by omega) dX3_settle_21 ?_
        refine j_icmp_ge (x := k) (y := L 1) (tgt := 62) hx hb ⟨by omega, by omega⟩ ⟨by omega, by omega⟩ dX3_settle_22 (by decide) (fun c_22 => ?_) (fun c_22 => ?_)
        · exfalso
          omega
        · refine lv_aload_n hx hb dX3_settle_25 rfl (lv_at hl 2 rfl) ?_
          refine g_get (ci := 4) (C := RX4) (T := TX4) (N := 4) (v := .ref (Rt 0)) hx hb hfX4 (fun _ h9 => h9) hown hk hW hT.1 rfl 0 (by decide) (hts (.fieldLink RX3 44 "JugsAndGlasses$Tour" "found" "[I") (by decide +kernel)) rfl rfl dX3_settle_26 ?_
          refine lv_iload hx hb dX3_settle_29 (lv_at hl 5 rfl) ?_
          refine g_iald (n := Lt 0) (f := At 0) (i := k) hx hb hk hW (hT.ai 0 (by decide) rfl) (by omega) (by omega) (by omega) dX3_settle_31 ?_
          refine lv_istore (lv' := [(6, .int (J (At 0 k))), (0, .ref o), (1, .ref oj), (2, .ref ot), (3, .int (J sg)), (4, .int (J w)), (5, .int (J k))]) hx hb dX3_settle_32 hl (by decide) rfl (fun ls hl => ?_)
          refine lv_aload_n hx hb dX3_settle_34 rfl (lv_at hl 1 rfl) ?_
          refine lv_iload hx hb dX3_settle_35 (lv_at hl 0 rfl) ?_
          refine g_callV (As := [.int (J (At 0 k))]) (rest := []) (b := o) (ci := 3) (C := RX3) (T := TX3) (N := 2) ⟨hx, hb, hml, hown, hts⟩ (s_leastFor l g base sa h o R I L (va_up A 1 (wk)) (At 0 k) hM ⟨by omega, by omega⟩ ⟨by omega, by omega⟩) (cwV 1 hts gX3_settle_X3_leastFor rfl rfl rfl (by decide +kernel) ⟨Nat.le_of_ble_eq_true rfl, Nat.le_of_ble_eq_true rfl⟩) hk hW hS hM.1 rfl rfl hl.1 (Nat.le_of_ble_eq_true rfl) dX3_settle_37 ⟨Nat.le_of_ble_eq_true rfl, Nat.le_of_ble_eq_true rfl⟩ (fun r9 h9 H locs hp hW hS => ?_)
          have hp : r9 = some (.int (J (if 0 ≤ At 0 k ∧ At 0 k < L 0 then A 0 (At 0 k) else -1))) ∧ h9 = h := hp
          rw [if_pos ⟨hfk.1, by omega⟩] at hp
          obtain ⟨rfl, e9⟩ := hp
          rw [e9] at hW
          refine W.eq (g2 := F0 m 40 ls [.int (J (A 0 (At 0 k)))]) rfl ?_
          refine lv_iload_n hx hb dX3_settle_40 rfl (lv_at hl 4 rfl) ?_
          refine j_icmp_ne (x := A 0 (At 0 k)) (y := sg) (tgt := 56) hx hb ⟨by omega, by omega⟩ ⟨by omega, by omega⟩ dX3_settle_41 (by decide) (fun c_41 => ?_) (fun c_41 => ?_)
          · refine lv_iinc (v := J (k + 1)) (lv' := [(5, .int (J (k + 1))), (6, .int (J (At 0 k))), (0, .ref o), (1, .ref oj), (2, .ref ot), (3, .int (J sg)), (4, .int (J w))]) hx hb dX3_settle_56 hl (k := 6) rfl (J_inc (by omega)) (by decide) rfl (fun ls hl => ?_)
            refine lv_goto (tgt := 6) hx hb dX3_settle_59 (by decide) ?_
            exact ih_6 (k + 1) w wk h H locs ls (by omega) (by omega) (SF_no hSF c_41) hM hJ hT hF hW hS (lv_sub hl [2, 3, 4, 5, 6, 0] rfl)
          · refine lv_aload_n hx hb dX3_settle_44 rfl (lv_at hl 1 rfl) ?_
            refine g_get (ci := 3) (C := RX3) (T := TX3) (N := 2) (v := .ref (R 1)) hx hb hfX3 (fun _ h9 => h9) hown hk hW hM.1 rfl 1 (by decide) (hts (.fieldLink RX3 15 "JugsAndGlasses$Spilling" "work" "[I") (by decide +kernel)) rfl rfl dX3_settle_45 ?_
            refine lv_iload hx hb dX3_settle_48 (lv_at hl 5 rfl) ?_
            refine lv_iload hx hb dX3_settle_50 (lv_at hl 0 rfl) ?_
            refine o_iast (A' := (va_up A 1 (uf wk w (At 0 k)))) (i := w) (x := At 0 k) hx hb hk hW hS hM hF 1 (by decide) rfl (Or.inl (FP.a 1 (by decide) ⟨by decide, by decide⟩)) (by omega) (show w < L 1 from by omega) (show L 1 < 2147483648 from by omega) (bx_uu _ _ _ _) dX3_settle_52 (fun h H locs hM hF hst hW hS => ?_)
            have hJ := hJ.fr hst (fun q h1 h2 => (fun q a b => hSJ q b a) q h1 (by rw [h2]; exact FP.a 1 (by decide) ⟨by decide, by decide⟩))
            have hT := hT.fr hst (fun q h1 h2 => (fun q a b => hTS q a b) q h1 (by rw [h2]; exact FP.a 1 (by decide) ⟨by decide, by decide⟩))
            refine lv_iinc (v := J (w + 1)) (lv' := [(4, .int (J (w + 1))), (6, .int (J (At 0 k))), (0, .ref o), (1, .ref oj), (2, .ref ot), (3, .int (J sg)), (5, .int (J k))]) hx hb dX3_settle_53 hl (k := 5) rfl (J_inc (by omega)) (by decide) rfl (fun ls hl => ?_)
            refine lv_iinc (v := J (k + 1)) (lv' := [(5, .int (J (k + 1))), (4, .int (J (w + 1))), (6, .int (J (At 0 k))), (0, .ref o), (1, .ref oj), (2, .ref ot), (3, .int (J sg))]) hx hb dX3_settle_56 hl (k := 6) rfl (J_inc (by omega)) (by decide) rfl (fun ls hl => ?_)
            refine lv_goto (tgt := 6) hx hb dX3_settle_59 (by decide) ?_
            exact ih_6 (k + 1) (w + 1) (uf wk w (At 0 k)) h H locs ls (by omega) (by omega) (SF_yes hSF hk9.1 (by omega) hinj c_41) hM hJ hT hF hW hS (lv_sub hl [3, 4, 5, 6, 1, 0] rfl)
  exact loop_6 ((It 3).toNat + 1) 0 0 (A 1) h0 s.heap [] ls (by omega) (by omega) (⟨by omega, by omega, fun j a b => absurd b (by omega), fun i j a b c => absurd c (by omega), fun i a b => absurd b (by omega)⟩) (by rw [va_up_id]; exact hM) hJ hT hF hW hS (lv_sub hl [2, 3, 4, 5, 1, 0] rfl)
