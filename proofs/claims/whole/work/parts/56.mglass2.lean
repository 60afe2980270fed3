set_option maxHeartbeats 4000000 in
set_option maxRecDepth 100000 in
theorem m_layGlasses (l : Launch) (g : GX) (base : Nat) (sa : Nat → Nat) (h0 : Hp) (o : Nat) (R : Nat → Nat) (I : Nat → Int) (A : Nat → Int → Int) (hM : OB g 6 28 kd6 h0 o R I mL A) (hsk : Sok (I 5) (A 6)) : MC l g base sa yX6_layGlasses wsX6_layGlasses ({ frames := 1, cells := 0, slots := 0, locals := 28 }) ([.ref o]) h0 (fun r h' => r = none ∧ Fr (FP 28 kd6 o R) h0 h' ∧ ∃ I' cm tk ah be, OB g 6 28 kd6 h' o R I' mL (va_up (va_up (va_up (va_up A 23 cm) 24 tk) 25 ah) 26 be) ∧ (∀ k, k ≠ 21 → k ≠ 22 → I' k = I k) ∧ AQ (mp (I 5) (A 6)) ah 61 0 0 ∧ BT (mp (I 5) (A 6)) be 41 0) := by
  refine Met.ofW (cc := cX6_layGlasses) (maxL := 8) (ret := none) (by decide) rfl ?_
  intro p e s m args below meth c s₁ B hml hv
  obtain ⟨rfl, hk, hW⟩ := hv
  have hx := B.exec
  have hb := B.bytes
  have hr := B.returns
  have hts := atoms_spec (ws := wsX6_layGlasses) B.pre
  have hown : s.vm.findClass RX6 = some m.cls := findClass_of_methodNamed B.named
  have hlocks := B.notSynchronized
  have hfX6 : ∀ w ∈ wsX60, w.before ([.ref o]).toArray s = true := fun w h => hts w (List.mem_cons_of_mem _ (List.mem_append_right _ h))
  have hS : va_S (Ab base) s.heap s.heap [] := va_S.rf
  have hl := lv_entry ([.ref o]) (n := 8) (Nat.le_of_ble_eq_true rfl)
  rw [lg_entry_eq]
  generalize (lg_sl ([.ref o]) ++ List.replicate (8 - (lg_sl ([.ref o])).length) Slot.unset).toArray = ls at hl ⊢
  have hl : lv_has ls 8 [(0, .ref o)] := hl
  have hF : Fr (FP 28 kd6 o R) h0 h0 := Fr.rf
  have hn1 := hsk.1
  have hn2 := hsk.2.1
  have hp2n := p2n hn1 hn2
  refine lv_iconst (v := J (0)) hx hb dX6_layGlasses_0 rfl ?_
  refine lv_istore_n (lv' := [(1, .int (J 0)), (0, .ref o)]) hx hb dX6_layGlasses_1 rfl hl (by decide) rfl (fun ls hl => ?_)
  have loop_2 : ∀ (n9 : Nat) (xs : Int) (cm : Int → Int) (tk : Int → Int) (J1 : Nat → Int) (h : Hp) (H : Heap) (locs : List Loc) (ls : Array Slot), 2197 - xs < (n9 : Int) → (0 ≤ xs ∧ xs ≤ 2197) → (∀ k, k ≠ 21 → k ≠ 22 → J1 k = I k) → (CT (mp (I 5) (A 6)) cm tk (8 * xs)) → (OB g 6 28 kd6 h o R J1 mL (va_up (va_up A 23 (cm)) 24 (tk))) → (Fr (FP 28 kd6 o R) h0 h) → (Wd g base h H) → (va_S (Ab base) s.heap H locs) → (lv_has ls 8 [(0, .ref o), (1, .int (J xs))]) → W p l e (headSpec wsX6_layGlasses ({ frames := 1, cells := 0, slots := 0, locals := 28 })).room s m ([.ref o]).toArray below meth c H locs 0 0 (MQ below (QcM g base (fun r h' => r = none ∧ Fr (FP 28 kd6 o R) h0 h' ∧ ∃ I' cm tk ah be, OB g 6 28 kd6 h' o R I' mL (va_up (va_up (va_up (va_up A 23 cm) 24 tk) 25 ah) 26 be) ∧ (∀ k, k ≠ 21 → k ≠ 22 → I' k = I k) ∧ AQ (mp (I 5) (A 6)) ah 61 0 0 ∧ BT (mp (I 5) (A 6)) be 41 0)) ([.ref o]).toArray s (0) (0) (Ab base)) (F0 m 2 ls []) := by
    intro n9
    induction n9 with
    | zero =>
      intro xs cm tk J1 h H locs ls hmu hx9 hJ hCT hM hF hW hS hl
      exact absurd hmu (by omega)
    | succ n9 ih =>
      intro xs cm tk J1 h H locs ls hmu hx9 hJ hCT hM hF hW hS hl
      have j5 : J1 5 = I 5 := hJ 5 (by decide) (by decide)
      have ih_2 := ih
      refine lv_iload_n hx hb dX6_layGlasses_2 rfl (lv_at hl 1 rfl) ?_
      refine lv_sipush (v := J (2197)) hx hb dX6_layGlasses_3 (by decide) ?_
      refine j_icmp_ge (x := xs) (y := 2197) (tgt := 116) hx hb ⟨by omega, by omega⟩ ⟨by decide, by decide⟩ dX6_layGlasses_6 (by decide) (fun c_6 => ?_) (fun c_6 => ?_)
      · have hCT : CT (mp (I 5) (A 6)) cm tk 17576 := (by have e9 : xs = 2197 := (by omega); rw [e9] at hCT; exact hCT)
        refine lv_iconst (v := J (0)) hx hb dX6_layGlasses_116 rfl ?_
        refine lv_istore_n (lv' := [(1, .int (J 0)), (0, .ref o)]) hx hb dX6_layGlasses_117 rfl hl (by decide) rfl (fun ls hl => ?_)
        have loop_118 : ∀ (n9 : Nat) (k : Int) (ah : Int → Int) (h : Hp) (H : Heap) (locs : List Loc) (ls : Array Slot), 134017 - k < (n9 : Int) → (0 ≤ k ∧ k ≤ 134017) → (∀ j, 0 ≤ j → j < k → ah j = 1000000000) → (OB g 6 28 kd6 h o R J1 mL (va_up (va_up (va_up A 23 (cm)) 24 (tk)) 25 (ah))) → (Fr (FP 28 kd6 o R) h0 h) → (Wd g base h H) → (va_S (Ab base) s.heap H locs) → (lv_has ls 8 [(0, .ref o), (1, .int (J k))]) → W p l e (headSpec wsX6_layGlasses ({ frames := 1, cells := 0, slots := 0, locals := 28 })).room s m ([.ref o]).toArray below meth c H locs 0 0 (MQ below (QcM g base (fun r h' => r = none ∧ Fr (FP 28 kd6 o R) h0 h' ∧ ∃ I' cm tk ah be, OB g 6 28 kd6 h' o R I' mL (va_up (va_up (va_up (va_up A 23 cm) 24 tk) 25 ah) 26 be) ∧ (∀ k, k ≠ 21 → k ≠ 22 → I' k = I k) ∧ AQ (mp (I 5) (A 6)) ah 61 0 0 ∧ BT (mp (I 5) (A 6)) be 41 0)) ([.ref o]).toArray s (0) (0) (Ab base)) (F0 m 118 ls []) := by
          intro n9
          induction n9 with
          | zero =>
            intro k ah h H locs ls hmu hk9 hah hM hF hW hS hl
            exact absurd hmu (by omega)
          | succ n9 ih =>
            intro k ah h H locs ls hmu hk9 hah hM hF hW hS hl
            have ih_118 := ih
            refine lv_iload_n hx hb dX6_layGlasses_118 rfl (lv_at hl 1 rfl) ?_
            refine j_ldc (z := 134017) hx hb (by decide) hown (hts (.constant RX6 59 (134017)) (by decide +kernel)) dX6_layGlasses_119 ?_
            refine j_icmp_ge (x := k) (y := 134017) (tgt := 138) hx hb ⟨by omega, by omega⟩ ⟨by decide, by decide⟩ dX6_layGlasses_121 (by decide) (fun c_121 => ?_) (fun c_121 => ?_)
            · refine lv_aload_n hx hb dX6_layGlasses_138 rfl (lv_at hl 0 rfl) ?_
              refine g_get (ci := 6) (C := RX6) (T := TX6) (N := 28) (v := .ref (R 25)) hx hb hfX6 (fun _ h9 => h9) hown hk hW hM.1 rfl 25 (by decide) (hts (.fieldLink RX6 60 "JugsAndGlassesModel" "ahead" "[I") (by decide +kernel)) rfl rfl dX6_layGlasses_139 ?_
              refine lv_iconst (v := J (0)) hx hb dX6_layGlasses_142 rfl ?_
              refine lv_iconst (v := J (0)) hx hb dX6_layGlasses_143 rfl ?_
              refine o_iast (A' := (va_up (va_up (va_up A 23 (cm)) 24 (tk)) 25 (uf ah 0 0))) (i := 0) (x := 0) hx hb hk hW hS hM hF 25 (by decide) rfl (FP.a 25 (by decide) ⟨by decide, by decide⟩) (by omega) (show 0 < 134017 from by omega) (show 134017 < 2147483648 from by omega) (bx_uu _ _ _ _) dX6_layGlasses_144 (fun h H locs hM hF hst hW hS => ?_)
              refine lv_iconst (v := J (0)) hx hb dX6_layGlasses_145 rfl ?_
              refine lv_istore_n (lv' := [(1, .int (J 0)), (0, .ref o)]) hx hb dX6_layGlasses_146 rfl hl (by decide) rfl (fun ls hl => ?_)
              have loop_147 : ∀ (n9 : Nat) (T : Int) (ah : Int → Int) (h : Hp) (H : Heap) (locs : List Loc) (ls : Array Slot), 61 - T < (n9 : Int) → (0 ≤ T ∧ T ≤ 61) → (AQ (mp (I 5) (A 6)) ah T 0 0) → (OB g 6 28 kd6 h o R J1 mL (va_up (va_up (va_up A 23 (cm)) 24 (tk)) 25 (ah))) → (Fr (FP 28 kd6 o R) h0 h) → (Wd g base h H) → (va_S (Ab base) s.heap H locs) → (lv_has ls 8 [(0, .ref o), (1, .int (J T))]) → W p l e (headSpec wsX6_layGlasses ({ frames := 1, cells := 0, slots := 0, locals := 28 })).room s m ([.ref o]).toArray below meth c H locs 0 0 (MQ below (QcM g base (fun r h' => r = none ∧ Fr (FP 28 kd6 o R) h0 h' ∧ ∃ I' cm tk ah be, OB g 6 28 kd6 h' o R I' mL (va_up (va_up (va_up (va_up A 23 cm) 24 tk) 25 ah) 26 be) ∧ (∀ k, k ≠ 21 → k ≠ 22 → I' k = I k) ∧ AQ (mp (I 5) (A 6)) ah 61 0 0 ∧ BT (mp (I 5) (A 6)) be 41 0)) ([.ref o]).toArray s (0) (0) (Ab base)) (F0 m 147 ls []) := by
                intro n9
                induction n9 with
                | zero =>
                  intro T ah h H locs ls hmu hT9 hAQ hM hF hW hS hl
                  exact absurd hmu (by omega)
                | succ n9 ih =>
                  intro T ah h H locs ls hmu hT9 hAQ hM hF hW hS hl
                  have ih_147 := ih
                  refine lv_iload_n hx hb dX6_layGlasses_147 rfl (lv_at hl 1 rfl) ?_
                  refine lv_bipush (v := J (60)) hx hb dX6_layGlasses_148 (by decide) ?_
                  refine j_icmp_gt (x := T) (y := 60) (tgt := 304) hx hb ⟨by omega, by omega⟩ ⟨by decide, by decide⟩ dX6_layGlasses_150 (by decide) (fun c_150 => ?_) (fun c_150 => ?_)
                  · have hAQ : AQ (mp (I 5) (A 6)) ah 61 0 0 := (by have e9 : T = 61 := (by omega); rw [e9] at hAQ; exact hAQ)
                    refine lv_iconst (v := J (0)) hx hb dX6_layGlasses_304 rfl ?_
                    refine lv_istore_n (lv' := [(1, .int (J 0)), (0, .ref o)]) hx hb dX6_layGlasses_305 rfl hl (by decide) rfl (fun ls hl => ?_)
                    have loop_306 : ∀ (n9 : Nat) (T : Int) (be : Int → Int) (h : Hp) (H : Heap) (locs : List Loc) (ls : Array Slot), 41 - T < (n9 : Int) → (0 ≤ T ∧ T ≤ 41) → (BT (mp (I 5) (A 6)) be T 0) → (OB g 6 28 kd6 h o R J1 mL (va_up (va_up (va_up (va_up A 23 (cm)) 24 (tk)) 25 (ah)) 26 (be))) → (Fr (FP 28 kd6 o R) h0 h) → (Wd g base h H) → (va_S (Ab base) s.heap H locs) → (lv_has ls 8 [(0, .ref o), (1, .int (J T))]) → W p l e (headSpec wsX6_layGlasses ({ frames := 1, cells := 0, slots := 0, locals := 28 })).room s m ([.ref o]).toArray below meth c H locs 0 0 (MQ below (QcM g base (fun r h' => r = none ∧ Fr (FP 28 kd6 o R) h0 h' ∧ ∃ I' cm tk ah be, OB g 6 28 kd6 h' o R I' mL (va_up (va_up (va_up (va_up A 23 cm) 24 tk) 25 ah) 26 be) ∧ (∀ k, k ≠ 21 → k ≠ 22 → I' k = I k) ∧ AQ (mp (I 5) (A 6)) ah 61 0 0 ∧ BT (mp (I 5) (A 6)) be 41 0)) ([.ref o]).toArray s (0) (0) (Ab base)) (F0 m 306 ls []) := by
                      intro n9
                      induction n9 with
                      | zero =>
                        intro T be h H locs ls hmu hT8 hBT hM hF hW hS hl
                        exact absurd hmu (by omega)
                      | succ n9 ih =>
                        intro T be h H locs ls hmu hT8 hBT hM hF hW hS hl
                        have ih_306 := ih
                        refine lv_iload_n hx hb dX6_layGlasses_306 rfl (lv_at hl 1 rfl) ?_
                        refine lv_bipush (v := J (40)) hx hb dX6_layGlasses_307 (by decide) ?_
                        refine j_icmp_gt (x := T) (y := 40) (tgt := 472) hx hb ⟨by omega, by omega⟩ ⟨by decide, by decide⟩ dX6_layGlasses_309 (by decide) (fun c_309 => ?_) (fun c_309 => ?_)
                        · exact g_vret hx hb hr hW hS dX6_layGlasses_472 hlocks (⟨rfl, hF, J1, cm, tk, ah, be, hM, hJ, hAQ, by have e9 : T = 41 := (by omega); rw [e9] at hBT; exact hBT⟩)
                        · refine lv_iconst (v := J (0)) hx hb dX6_layGlasses_312 rfl ?_
                          refine lv_istore_n (lv' := [(2, .int (J 0)), (0, .ref o), (1, .int (J T))]) hx hb dX6_layGlasses_313 rfl hl (by decide) rfl (fun ls hl => ?_)
                          have loop_314 : ∀ (n9 : Nat) (xs : Int) (be : Int → Int) (h : Hp) (H : Heap) (locs : List Loc) (ls : Array Slot), 2197 - xs < (n9 : Int) → (0 ≤ xs ∧ xs ≤ 2197) → (BT (mp (I 5) (A 6)) be T xs) → (OB g 6 28 kd6 h o R J1 mL (va_up (va_up (va_up (va_up A 23 (cm)) 24 (tk)) 25 (ah)) 26 (be))) → (Fr (FP 28 kd6 o R) h0 h) → (Wd g base h H) → (va_S (Ab base) s.heap H locs) → (lv_has ls 8 [(0, .ref o), (1, .int (J T)), (2, .int (J xs))]) → W p l e (headSpec wsX6_layGlasses ({ frames := 1, cells := 0, slots := 0, locals := 28 })).room s m ([.ref o]).toArray below meth c H locs 0 0 (MQ below (QcM g base (fun r h' => r = none ∧ Fr (FP 28 kd6 o R) h0 h' ∧ ∃ I' cm tk ah be, OB g 6 28 kd6 h' o R I' mL (va_up (va_up (va_up (va_up A 23 cm) 24 tk) 25 ah) 26 be) ∧ (∀ k, k ≠ 21 → k ≠ 22 → I' k = I k) ∧ AQ (mp (I 5) (A 6)) ah 61 0 0 ∧ BT (mp (I 5) (A 6)) be 41 0)) ([.ref o]).toArray s (0) (0) (Ab base)) (F0 m 314 ls []) := by
                            intro n9
                            induction n9 with
                            | zero =>
                              intro xs be h H locs ls hmu hx9 hBT hM hF hW hS hl
                              exact absurd hmu (by omega)
                            | succ n9 ih =>
                              intro xs be h H locs ls hmu hx9 hBT hM hF hW hS hl
                              have ih_314 := ih
                              refine lv_iload_n hx hb dX6_layGlasses_314 rfl (lv_at hl 2 rfl) ?_
                              refine lv_sipush (v := J (2197)) hx hb dX6_layGlasses_315 (by decide) ?_
                              refine j_icmp_ge (x := xs) (y := 2197) (tgt := 466) hx hb ⟨by omega, by omega⟩ ⟨by decide, by decide⟩ dX6_layGlasses_318 (by decide) (fun c_318 => ?_) (fun c_318 => ?_)
                              · refine lv_iinc (v := J (T + 1)) (lv' := [(1, .int (J (T + 1))), (0, .ref o), (2, .int (J xs))]) hx hb dX6_layGlasses_466 hl (k := 1) rfl (J_inc (by omega)) (by decide) rfl (fun ls hl => ?_)
                                refine lv_goto (tgt := 306) hx hb dX6_layGlasses_469 (by decide) ?_
                                exact ih_306 (T + 1) be h H locs ls (by omega) (by omega) (BT_T (by have e9 : xs = 2197 := (by omega); rw [e9] at hBT; exact hBT)) hM hF hW hS (lv_sub hl [1, 0] rfl)
                              · have cut_331 : ∀ (u0 : Int) (ls : Array Slot), ((T = 0 ∧ u0 = 0) ∨ (0 < T ∧ u0 = 1000000000)) → (lv_has ls 8 [(0, .ref o), (1, .int (J T)), (2, .int (J xs))]) → W p l e (headSpec wsX6_layGlasses ({ frames := 1, cells := 0, slots := 0, locals := 28 })).room s m ([.ref o]).toArray below meth c H locs 0 0 (MQ below (QcM g base (fun r h' => r = none ∧ Fr (FP 28 kd6 o R) h0 h' ∧ ∃ I' cm tk ah be, OB g 6 28 kd6 h' o R I' mL (va_up (va_up (va_up (va_up A 23 cm) 24 tk) 25 ah) 26 be) ∧ (∀ k, k ≠ 21 → k ≠ 22 → I' k = I k) ∧ AQ (mp (I 5) (A 6)) ah 61 0 0 ∧ BT (mp (I 5) (A 6)) be 41 0)) ([.ref o]).toArray s (0) (0) (Ab base)) (F0 m 331 ls [.int (J u0)]) := by
                                  intro u0  ls hu0 hl
                                  refine lv_istore_n (lv' := [(3, .int (J u0)), (0, .ref o), (1, .int (J T)), (2, .int (J xs))]) hx hb dX6_layGlasses_331 rfl hl (by decide) rfl (fun ls hl => ?_)
                                  refine lv_iconst (v := J (0)) hx hb dX6_layGlasses_332 rfl ?_
                                  refine lv_istore (lv' := [(4, .int (J 0)), (3, .int (J u0)), (0, .ref o), (1, .int (J T)), (2, .int (J xs))]) hx hb dX6_layGlasses_333 hl (by decide) rfl (fun ls hl => ?_)
                                  have loop_335 : ∀ (n9 : Nat) (a : Int) (u : Int) (h : Hp) (H : Heap) (locs : List Loc) (ls : Array Slot), 8 - a < (n9 : Int) → (0 ≤ a ∧ a ≤ 8) → ((T = 0 ∧ u = 0) ∨ (0 < T ∧ FT 1000000000 (mp (I 5) (A 6)) 8 xs T a u)) → (OB g 6 28 kd6 h o R J1 mL (va_up (va_up (va_up (va_up A 23 (cm)) 24 (tk)) 25 (ah)) 26 (be))) → (Fr (FP 28 kd6 o R) h0 h) → (Wd g base h H) → (va_S (Ab base) s.heap H locs) → (lv_has ls 8 [(0, .ref o), (1, .int (J T)), (2, .int (J xs)), (3, .int (J u)), (4, .int (J a))]) → W p l e (headSpec wsX6_layGlasses ({ frames := 1, cells := 0, slots := 0, locals := 28 })).room s m ([.ref o]).toArray below meth c H locs 0 0 (MQ below (QcM g base (fun r h' => r = none ∧ Fr (FP 28 kd6 o R) h0 h' ∧ ∃ I' cm tk ah be, OB g 6 28 kd6 h' o R I' mL (va_up (va_up (va_up (va_up A 23 cm) 24 tk) 25 ah) 26 be) ∧ (∀ k, k ≠ 21 → k ≠ 22 → I' k = I k) ∧ AQ (mp (I 5) (A 6)) ah 61 0 0 ∧ BT (mp (I 5) (A 6)) be 41 0)) ([.ref o]).toArray s (0) (0) (Ab base)) (F0 m 335 ls []) := by
                                    intro n9
                                    induction n9 with
                                    | zero =>
                                      intro a u h H locs ls hmu ha9 hFQ hM hF hW hS hl
                                      exact absurd hmu (by omega)
                                    | succ n9 ih =>
                                      intro a u h H locs ls hmu ha9 hFQ hM hF hW hS hl
                                      have hur : u = 1000000000 ∨ (0 ≤ u ∧ u ≤ 3 * T) := by
                                        rcases hFQ with w | w
                                        · omega
                                        · exact FT_r w.2
                                      have ih_335 := ih
                                      refine lv_iload hx hb dX6_layGlasses_335 (lv_at hl 4 rfl) ?_
                                      refine lv_bipush (v := J (8)) hx hb dX6_layGlasses_337 (by decide) ?_
                                      refine j_icmp_ge (x := a) (y := 8) (tgt := 447) hx hb ⟨by omega, by omega⟩ ⟨by decide, by decide⟩ dX6_layGlasses_339 (by decide) (fun c_339 => ?_) (fun c_339 => ?_)
                                      · have hBQ : BQ 1000000000 (mp (I 5) (A 6)) 8 xs T u := by
                                          rcases hFQ with ⟨w1, w2⟩ | ⟨w1, w2⟩
                                          · rw [w1, w2]; exact BQ_0 _ _ _ _
                                          · exact FT_end (by have e9 : a = 8 := (by omega); rw [e9] at w2; exact w2) w1
                                        refine lv_aload_n hx hb dX6_layGlasses_447 rfl (lv_at hl 0 rfl) ?_
                                        refine g_get (ci := 6) (C := RX6) (T := TX6) (N := 28) (v := .ref (R 26)) hx hb hfX6 (fun _ h9 => h9) hown hk hW hM.1 rfl 26 (by decide) (hts (.fieldLink RX6 64 "JugsAndGlassesModel" "behind" "[I") (by decide +kernel)) rfl rfl dX6_layGlasses_448 ?_
                                        refine lv_sipush (v := J (2197)) hx hb dX6_layGlasses_451 (by decide) ?_
                                        refine lv_iload_n hx hb dX6_layGlasses_454 rfl (lv_at hl 1 rfl) ?_
                                        refine j_imul hx hb dX6_layGlasses_455 ?_
                                        refine lv_iload_n hx hb dX6_layGlasses_456 rfl (lv_at hl 2 rfl) ?_
                                        refine j_iadd hx hb dX6_layGlasses_457 ?_
                                        refine lv_iload_n hx hb dX6_layGlasses_458 rfl (lv_at hl 3 rfl) ?_
                                        refine o_iast (A' := (va_up (va_up (va_up (va_up A 23 (cm)) 24 (tk)) 25 (ah)) 26 (uf be ((2197 * T) + xs) u))) (i := (2197 * T) + xs) (x := u) hx hb hk hW hS hM hF 26 (by decide) rfl (FP.a 26 (by decide) ⟨by decide, by decide⟩) (by omega) (show (2197 * T) + xs < 90077 from by omega) (show 90077 < 2147483648 from by omega) (bx_uu _ _ _ _) dX6_layGlasses_459 (fun h H locs hM hF hst hW hS => ?_)
                                        refine lv_iinc (v := J (xs + 1)) (lv' := [(2, .int (J (xs + 1))), (0, .ref o), (1, .int (J T)), (3, .int (J u)), (4, .int (J a))]) hx hb dX6_layGlasses_460 hl (k := 2) rfl (J_inc (by omega)) (by decide) rfl (fun ls hl => ?_)
                                        refine lv_goto (tgt := 314) hx hb dX6_layGlasses_463 (by decide) ?_
                                        exact ih_314 (xs + 1) (uf be ((2197 * T) + xs) u) h H locs ls (by omega) (by omega) (BT_st hBT hT8.1 hx9.1 (by omega) hBQ) hM hF hW hS (lv_sub hl [1, 2, 0] rfl)
                                      · refine lv_iload_n hx hb dX6_layGlasses_342 rfl (lv_at hl 1 rfl) ?_
                                        refine j_if_le (x := T) (tgt := 447) hx hb ⟨by omega, by omega⟩ dX6_layGlasses_343 (by decide) (fun c_343 => ?_) (fun c_343 => ?_)
                                        · have hBQ : BQ 1000000000 (mp (I 5) (A 6)) 8 xs T u := by
                                            rcases hFQ with ⟨w1, w2⟩ | ⟨w1, w2⟩
                                            · rw [w1, w2]; exact BQ_0 _ _ _ _
                                            · exact FT_end (by have e9 : a = 8 := (by omega); rw [e9] at w2; exact w2) w1
                                          refine lv_aload_n hx hb dX6_layGlasses_447 rfl (lv_at hl 0 rfl) ?_
                                          refine g_get (ci := 6) (C := RX6) (T := TX6) (N := 28) (v := .ref (R 26)) hx hb hfX6 (fun _ h9 => h9) hown hk hW hM.1 rfl 26 (by decide) (hts (.fieldLink RX6 64 "JugsAndGlassesModel" "behind" "[I") (by decide +kernel)) rfl rfl dX6_layGlasses_448 ?_
                                          refine lv_sipush (v := J (2197)) hx hb dX6_layGlasses_451 (by decide) ?_
                                          refine lv_iload_n hx hb dX6_layGlasses_454 rfl (lv_at hl 1 rfl) ?_
                                          refine j_imul hx hb dX6_layGlasses_455 ?_
                                          refine lv_iload_n hx hb dX6_layGlasses_456 rfl (lv_at hl 2 rfl) ?_
                                          refine j_iadd hx hb dX6_layGlasses_457 ?_
                                          refine lv_iload_n hx hb dX6_layGlasses_458 rfl (lv_at hl 3 rfl) ?_
                                          refine o_iast (A' := (va_up (va_up (va_up (va_up A 23 (cm)) 24 (tk)) 25 (ah)) 26 (uf be ((2197 * T) + xs) u))) (i := (2197 * T) + xs) (x := u) hx hb hk hW hS hM hF 26 (by decide) rfl (FP.a 26 (by decide) ⟨by decide, by decide⟩) (by omega) (show (2197 * T) + xs < 90077 from by omega) (show 90077 < 2147483648 from by omega) (bx_uu _ _ _ _) dX6_layGlasses_459 (fun h H locs hM hF hst hW hS => ?_)
                                          refine lv_iinc (v := J (xs + 1)) (lv' := [(2, .int (J (xs + 1))), (0, .ref o), (1, .int (J T)), (3, .int (J u)), (4, .int (J a))]) hx hb dX6_layGlasses_460 hl (k := 2) rfl (J_inc (by omega)) (by decide) rfl (fun ls hl => ?_)
                                          refine lv_goto (tgt := 314) hx hb dX6_layGlasses_463 (by decide) ?_
                                          exact ih_314 (xs + 1) (uf be ((2197 * T) + xs) u) h H locs ls (by omega) (by omega) (BT_st hBT hT8.1 hx9.1 (by omega) hBQ) hM hF hW hS (lv_sub hl [1, 2, 0] rfl)
                                        · have hFT : FT 1000000000 (mp (I 5) (A 6)) 8 xs T a u := by
                                            rcases hFQ with w | w
                                            · omega
                                            · exact w.2
                                          refine lv_aload_n hx hb dX6_layGlasses_346 rfl (lv_at hl 0 rfl) ?_
                                          refine g_get (ci := 6) (C := RX6) (T := TX6) (N := 28) (v := .ref (R 23)) hx hb hfX6 (fun _ h9 => h9) hown hk hW hM.1 rfl 23 (by decide) (hts (.fieldLink RX6 53 "JugsAndGlassesModel" "comes" "[I") (by decide +kernel)) rfl rfl dX6_layGlasses_347 ?_
                                          refine lv_bipush (v := J (8)) hx hb dX6_layGlasses_350 (by decide) ?_
                                          refine lv_iload_n hx hb dX6_layGlasses_352 rfl (lv_at hl 2 rfl) ?_
                                          refine j_imul hx hb dX6_layGlasses_353 ?_
                                          refine lv_iload hx hb dX6_layGlasses_354 (lv_at hl 4 rfl) ?_
                                          refine j_iadd hx hb dX6_layGlasses_356 ?_
                                          refine g_iald (n := 17576) (f := cm) (i := 8 * xs + a) hx hb hk hW (hM.ai 23 (by decide) rfl) (by omega) (by omega) (by decide) dX6_layGlasses_357 ?_
                                          have hct := hCT xs a (by omega) (by omega) (by omega) (by omega) (by omega)
                                          have hmr := mp_r hsk xs a
                                          obtain ⟨to, eto⟩ : ∃ to, to = cm (8 * xs + a) := ⟨_, rfl⟩
                                          obtain ⟨d, ed⟩ : ∃ d, d = tk (8 * xs + a) := ⟨_, rfl⟩
                                          rw [← eto, ← ed] at hct
                                          rw [← eto]
                                          refine lv_istore (lv' := [(5, .int (J to)), (0, .ref o), (1, .int (J T)), (2, .int (J xs)), (3, .int (J u)), (4, .int (J a))]) hx hb dX6_layGlasses_358 hl (by decide) rfl (fun ls hl => ?_)
                                          refine lv_iload_n hx hb dX6_layGlasses_360 rfl (lv_at hl 2 rfl) ?_
                                          refine lv_aload_n hx hb dX6_layGlasses_361 rfl (lv_at hl 1 rfl) ?_
                                          refine g_get (ci := 6) (C := RX6) (T := TX6) (N := 28) (v := .ref (R 24)) hx hb hfX6 (fun _ h9 => h9) hown hk hW hM.1 rfl 24 (by decide) (hts (.fieldLink RX6 56 "JugsAndGlassesModel" "takes" "[I") (by decide +kernel)) rfl rfl dX6_layGlasses_362 ?_
                                          refine lv_bipush (v := J (8)) hx hb dX6_layGlasses_365 (by decide) ?_
                                          refine lv_iload_n hx hb dX6_layGlasses_367 rfl (lv_at hl 3 rfl) ?_
                                          refine j_imul hx hb dX6_layGlasses_368 ?_
                                          refine lv_iload hx hb dX6_layGlasses_369 (lv_at hl 5 rfl) ?_
                                          refine j_iadd hx hb dX6_layGlasses_371 ?_
                                          refine g_iald (n := 17576) (f := tk) (i := 8 * xs + a) hx hb hk hW (hM.ai 24 (by decide) rfl) (by omega) (by omega) (by decide) dX6_layGlasses_372 ?_
                                          rw [← ed]
                                          refine j_isub hx hb dX6_layGlasses_373 ?_
                                          refine lv_istore (lv' := [(6, .int (J (T - d))), (5, .int (J to)), (0, .ref o), (1, .int (J T)), (2, .int (J xs)), (3, .int (J u)), (4, .int (J a))]) hx hb dX6_layGlasses_374 hl (by decide) rfl (fun ls hl => ?_)
                                          refine lv_iload hx hb dX6_layGlasses_376 (lv_at hl 1 rfl) ?_
                                          refine lv_iconst (v := J (-1)) hx hb dX6_layGlasses_378 rfl ?_
                                          refine j_icmp_eq (x := to) (y := (-1)) (tgt := 441) hx hb ⟨by omega, by omega⟩ ⟨by omega, by omega⟩ dX6_layGlasses_379 (by decide) (fun c_379 => ?_) (fun c_379 => ?_)
                                          · refine lv_iinc (v := J (a + 1)) (lv' := [(4, .int (J (a + 1))), (6, .int (J (T - d))), (5, .int (J to)), (0, .ref o), (1, .int (J T)), (2, .int (J xs)), (3, .int (J u))]) hx hb dX6_layGlasses_441 hl (k := 6) rfl (J_inc (by omega)) (by decide) rfl (fun ls hl => ?_)
                                            refine lv_goto (tgt := 335) hx hb dX6_layGlasses_444 (by decide) ?_
                                            exact ih_335 (a + 1) u h H locs ls (by omega) (by omega) (Or.inr ⟨by omega, by first | exact FT_no hFT (Or.inl (by omega)) | exact FT_no hFT (Or.inr (Or.inl (by omega))) | exact FT_no hFT (Or.inr (Or.inr ⟨by omega, by rw [show mp (I 5) (A 6) xs a % 16 = d by omega, show mp (I 5) (A 6) xs a / 16 = to by omega]; have e8 : w = 1000000000 := (by omega); rw [e8] at hBw; exact hBw, by omega⟩)) | (have h8 := FT_min hFT ha9.1 (by omega) (by omega) (by omega) (by omega) (by rw [show mp (I 5) (A 6) xs a % 16 = d by omega, show mp (I 5) (A 6) xs a / 16 = to by omega]; exact hBw) (by omega); rw [show min u (w + bc a) = u by omega] at h8; exact h8)⟩) hM hF hW hS (lv_sub hl [3, 4, 5, 6, 0] rfl)
                                          · refine lv_iload hx hb dX6_layGlasses_382 (lv_at hl 0 rfl) ?_
                                            refine j_if_lt (x := T - d) (tgt := 441) hx hb ⟨by omega, by omega⟩ dX6_layGlasses_384 (by decide) (fun c_384 => ?_) (fun c_384 => ?_)
                                            · refine lv_iinc (v := J (a + 1)) (lv' := [(4, .int (J (a + 1))), (6, .int (J (T - d))), (5, .int (J to)), (0, .ref o), (1, .int (J T)), (2, .int (J xs)), (3, .int (J u))]) hx hb dX6_layGlasses_441 hl (k := 6) rfl (J_inc (by omega)) (by decide) rfl (fun ls hl => ?_)
                                              refine lv_goto (tgt := 335) hx hb dX6_layGlasses_444 (by decide) ?_
                                              exact ih_335 (a + 1) u h H locs ls (by omega) (by omega) (Or.inr ⟨by omega, by first | exact FT_no hFT (Or.inl (by omega)) | exact FT_no hFT (Or.inr (Or.inl (by omega))) | exact FT_no hFT (Or.inr (Or.inr ⟨by omega, by rw [show mp (I 5) (A 6) xs a % 16 = d by omega, show mp (I 5) (A 6) xs a / 16 = to by omega]; have e8 : w = 1000000000 := (by omega); rw [e8] at hBw; exact hBw, by omega⟩)) | (have h8 := FT_min hFT ha9.1 (by omega) (by omega) (by omega) (by omega) (by rw [show mp (I 5) (A 6) xs a % 16 = d by omega, show mp (I 5) (A 6) xs a / 16 = to by omega]; exact hBw) (by omega); rw [show min u (w + bc a) = u by omega] at h8; exact h8)⟩) hM hF hW hS (lv_sub hl [3, 4, 5, 6, 0] rfl)
                                            · refine lv_aload_n hx hb dX6_layGlasses_387 rfl (lv_at hl 2 rfl) ?_
                                              refine g_get (ci := 6) (C := RX6) (T := TX6) (N := 28) (v := .ref (R 26)) hx hb hfX6 (fun _ h9 => h9) hown hk hW hM.1 rfl 26 (by decide) (hts (.fieldLink RX6 64 "JugsAndGlassesModel" "behind" "[I") (by decide +kernel)) rfl rfl dX6_layGlasses_388 ?_
                                              refine lv_sipush (v := J (2197)) hx hb dX6_layGlasses_391 (by decide) ?_
                                              refine lv_iload hx hb dX6_layGlasses_394 (lv_at hl 0 rfl) ?_
                                              refine j_imul hx hb dX6_layGlasses_396 ?_
                                              refine lv_iload hx hb dX6_layGlasses_397 (lv_at hl 1 rfl) ?_
                                              refine j_iadd hx hb dX6_layGlasses_399 ?_
                                              have hBw := hBT (T - d) to (by omega) (by omega) (by omega) (by omega) (Or.inl (by omega))
                                              obtain ⟨w, ew⟩ : ∃ w, w = be (2197 * (T - d) + to) := ⟨_, rfl⟩
                                              rw [← ew] at hBw
                                              have hwr := BQ_r hBw
                                              refine g_iald (n := 90077) (f := be) (i := (2197 * (T - d)) + to) hx hb hk hW (hM.ai 26 (by decide) rfl) (by omega) (by omega) (by decide) dX6_layGlasses_400 ?_
                                              rw [← ew]
                                              refine j_ldc (z := 1000000000) hx hb (by decide) hown (hts (.constant RX6 111 (1000000000)) (by decide +kernel)) dX6_layGlasses_401 ?_
                                              refine j_icmp_ge (x := w) (y := 1000000000) (tgt := 441) hx hb ⟨by omega, by omega⟩ ⟨by decide, by decide⟩ dX6_layGlasses_403 (by decide) (fun c_403 => ?_) (fun c_403 => ?_)
                                              · refine lv_iinc (v := J (a + 1)) (lv' := [(4, .int (J (a + 1))), (6, .int (J (T - d))), (5, .int (J to)), (0, .ref o), (1, .int (J T)), (2, .int (J xs)), (3, .int (J u))]) hx hb dX6_layGlasses_441 hl (k := 6) rfl (J_inc (by omega)) (by decide) rfl (fun ls hl => ?_)
                                                refine lv_goto (tgt := 335) hx hb dX6_layGlasses_444 (by decide) ?_
                                                exact ih_335 (a + 1) u h H locs ls (by omega) (by omega) (Or.inr ⟨by omega, by first | exact FT_no hFT (Or.inl (by omega)) | exact FT_no hFT (Or.inr (Or.inl (by omega))) | exact FT_no hFT (Or.inr (Or.inr ⟨by omega, by rw [show mp (I 5) (A 6) xs a % 16 = d by omega, show mp (I 5) (A 6) xs a / 16 = to by omega]; have e8 : w = 1000000000 := (by omega); rw [e8] at hBw; exact hBw, by omega⟩)) | (have h8 := FT_min hFT ha9.1 (by omega) (by omega) (by omega) (by omega) (by rw [show mp (I 5) (A 6) xs a % 16 = d by omega, show mp (I 5) (A 6) xs a / 16 = to by omega]; exact hBw) (by omega); rw [show min u (w + bc a) = u by omega] at h8; exact h8)⟩) hM hF hW hS (lv_sub hl [3, 4, 5, 6, 0] rfl)
                                              · refine lv_iload hx hb dX6_layGlasses_406 (lv_at hl 6 rfl) ?_
                                                refine g_callS (As := [.int (J a)]) (rest := []) ⟨hx, hb, hml, hown, hts⟩ (m_ones l g base sa h a ⟨by omega, by omega⟩) (va_cwS 1 hts gX6_layGlasses_X6_ones rfl rfl rfl (by decide +kernel) ⟨Nat.le_of_ble_eq_true rfl, Nat.le_of_ble_eq_true rfl⟩) hk hW hS rfl hl.1 (Nat.le_of_ble_eq_true rfl) dX6_layGlasses_408 ⟨Nat.le_of_ble_eq_true rfl, Nat.le_of_ble_eq_true rfl⟩ (fun r9 h9 H locs hp hW hS => ?_)
                                                obtain ⟨rfl, e9⟩ := hp
                                                rw [e9] at hW
                                                refine W.eq (g2 := F0 m 411 ls [.int (J (bc a))]) rfl ?_
                                                have hbc := bc_r a
                                                refine lv_aload_n hx hb dX6_layGlasses_411 rfl (lv_at hl 2 rfl) ?_
                                                refine g_get (ci := 6) (C := RX6) (T := TX6) (N := 28) (v := .ref (R 26)) hx hb hfX6 (fun _ h9 => h9) hown hk hW hM.1 rfl 26 (by decide) (hts (.fieldLink RX6 64 "JugsAndGlassesModel" "behind" "[I") (by decide +kernel)) rfl rfl dX6_layGlasses_412 ?_
                                                refine lv_sipush (v := J (2197)) hx hb dX6_layGlasses_415 (by decide) ?_
                                                refine lv_iload hx hb dX6_layGlasses_418 (lv_at hl 0 rfl) ?_
                                                refine j_imul hx hb dX6_layGlasses_420 ?_
                                                refine lv_iload hx hb dX6_layGlasses_421 (lv_at hl 1 rfl) ?_
                                                refine j_iadd hx hb dX6_layGlasses_423 ?_
                                                refine g_iald (n := 90077) (f := be) (i := (2197 * (T - d)) + to) hx hb hk hW (hM.ai 26 (by decide) rfl) (by omega) (by omega) (by decide) dX6_layGlasses_424 ?_
                                                rw [← ew]
                                                refine j_iadd hx hb dX6_layGlasses_425 ?_
                                                refine lv_istore (lv' := [(7, .int (J ((bc a) + w))), (6, .int (J (T - d))), (5, .int (J to)), (0, .ref o), (1, .int (J T)), (2, .int (J xs)), (3, .int (J u)), (4, .int (J a))]) hx hb dX6_layGlasses_426 hl (by decide) rfl (fun ls hl => ?_)
                                                refine lv_iload hx hb dX6_layGlasses_428 (lv_at hl 0 rfl) ?_
                                                refine lv_iload_n hx hb dX6_layGlasses_430 rfl (lv_at hl 6 rfl) ?_
                                                refine j_icmp_ge (x := (bc a) + w) (y := u) (tgt := 439) hx hb ⟨by omega, by omega⟩ ⟨by omega, by omega⟩ dX6_layGlasses_431 (by decide) (fun c_431 => ?_) (fun c_431 => ?_)
                                                · refine lv_iload_n hx hb dX6_layGlasses_439 rfl (lv_at hl 6 rfl) ?_
                                                  refine lv_istore_n (lv' := [(3, .int (J u)), (7, .int (J ((bc a) + w))), (6, .int (J (T - d))), (5, .int (J to)), (0, .ref o), (1, .int (J T)), (2, .int (J xs)), (4, .int (J a))]) hx hb dX6_layGlasses_440 rfl hl (by decide) rfl (fun ls hl => ?_)
                                                  refine lv_iinc (v := J (a + 1)) (lv' := [(4, .int (J (a + 1))), (3, .int (J u)), (7, .int (J ((bc a) + w))), (6, .int (J (T - d))), (5, .int (J to)), (0, .ref o), (1, .int (J T)), (2, .int (J xs))]) hx hb dX6_layGlasses_441 hl (k := 7) rfl (J_inc (by omega)) (by decide) rfl (fun ls hl => ?_)
                                                  refine lv_goto (tgt := 335) hx hb dX6_layGlasses_444 (by decide) ?_
                                                  exact ih_335 (a + 1) u h H locs ls (by omega) (by omega) (Or.inr ⟨by omega, by first | exact FT_no hFT (Or.inl (by omega)) | exact FT_no hFT (Or.inr (Or.inl (by omega))) | exact FT_no hFT (Or.inr (Or.inr ⟨by omega, by rw [show mp (I 5) (A 6) xs a % 16 = d by omega, show mp (I 5) (A 6) xs a / 16 = to by omega]; have e8 : w = 1000000000 := (by omega); rw [e8] at hBw; exact hBw, by omega⟩)) | (have h8 := FT_min hFT ha9.1 (by omega) (by omega) (by omega) (by omega) (by rw [show mp (I 5) (A 6) xs a % 16 = d by omega, show mp (I 5) (A 6) xs a / 16 = to by omega]; exact hBw) (by omega); rw [show min u (w + bc a) = u by omega] at h8; exact h8)⟩) hM hF hW hS (lv_sub hl [5, 6, 7, 1, 0] rfl)
                                                · refine lv_iload hx hb dX6_layGlasses_434 (lv_at hl 0 rfl) ?_
                                                  refine lv_goto (tgt := 440) hx hb dX6_layGlasses_436 (by decide) ?_
                                                  refine lv_istore_n (lv' := [(3, .int (J ((bc a) + w))), (7, .int (J ((bc a) + w))), (6, .int (J (T - d))), (5, .int (J to)), (0, .ref o), (1, .int (J T)), (2, .int (J xs)), (4, .int (J a))]) hx hb dX6_layGlasses_440 rfl hl (by decide) rfl (fun ls hl => ?_)
                                                  refine lv_iinc (v := J (a + 1)) (lv' := [(4, .int (J (a + 1))), (3, .int (J ((bc a) + w))), (7, .int (J ((bc a) + w))), (6, .int (J (T - d))), (5, .int (J to)), (0, .ref o), (1, .int (J T)), (2, .int (J xs))]) hx hb dX6_layGlasses_441 hl (k := 7) rfl (J_inc (by omega)) (by decide) rfl (fun ls hl => ?_)
                                                  refine lv_goto (tgt := 335) hx hb dX6_layGlasses_444 (by decide) ?_
                                                  exact ih_335 (a + 1) ((bc a) + w) h H locs ls (by omega) (by omega) (Or.inr ⟨by omega, by have h8 := FT_min hFT ha9.1 (by omega) (by omega) (by omega) (by omega) (by rw [show mp (I 5) (A 6) xs a % 16 = d by omega, show mp (I 5) (A 6) xs a / 16 = to by omega]; exact hBw) (by omega); rw [show min u (w + bc a) = (bc a) + w by omega] at h8; exact h8⟩) hM hF hW hS (lv_sub hl [5, 6, 7, 1, 0] rfl)
                                  exact loop_335 9 0 u0 h H locs ls (by omega) (by omega) (hu0.imp (fun w => ⟨w.1, w.2⟩) (fun w => ⟨w.1, by rw [w.2]; exact FT_0 _ _ _ _ _⟩)) hM hF hW hS (lv_sub hl [2, 3, 4, 1, 0] rfl)
                                refine lv_iload_n hx hb dX6_layGlasses_321 rfl (lv_at hl 1 rfl) ?_
                                refine j_if_ne (x := T) (tgt := 329) hx hb ⟨by omega, by omega⟩ dX6_layGlasses_322 (by decide) (fun c_322 => ?_) (fun c_322 => ?_)
                                · refine j_ldc (z := 1000000000) hx hb (by decide) hown (hts (.constant RX6 111 (1000000000)) (by decide +kernel)) dX6_layGlasses_329 ?_
                                  exact cut_331 1000000000  ls (by omega) (lv_sub hl [0, 1, 2] rfl)
                                · refine lv_iconst (v := J (0)) hx hb dX6_layGlasses_325 rfl ?_
                                  refine lv_goto (tgt := 331) hx hb dX6_layGlasses_326 (by decide) ?_
                                  exact cut_331 0  ls (by omega) (lv_sub hl [0, 1, 2] rfl)
                          exact loop_314 2198 0 be h H locs ls (by omega) (by omega) hBT hM hF hW hS (lv_sub hl [1, 2, 0] rfl)
                    exact loop_306 42 0 (A 26) h H locs ls (by omega) (by omega) (BT_0 _ _) (hM.cg (fun _ _ _ => rfl) (fun _ _ _ => rfl) (fun q9 _ _ => by by_cases w3 : q9 = 23 <;> by_cases w4 : q9 = 24 <;> by_cases w5 : q9 = 25 <;> by_cases w6 : q9 = 26 <;> simp [va_up, w3, w4, w5, w6])) hF hW hS (lv_sub hl [1, 0] rfl)
                  · refine lv_iconst (v := J (0)) hx hb dX6_layGlasses_153 rfl ?_
                    refine lv_istore_n (lv' := [(2, .int (J 0)), (0, .ref o), (1, .int (J T))]) hx hb dX6_layGlasses_154 rfl hl (by decide) rfl (fun ls hl => ?_)
                    have loop_155 : ∀ (n9 : Nat) (xs : Int) (ah : Int → Int) (h : Hp) (H : Heap) (locs : List Loc) (ls : Array Slot), 2197 - xs < (n9 : Int) → (0 ≤ xs ∧ xs ≤ 2197) → (AQ (mp (I 5) (A 6)) ah T xs 0) → (OB g 6 28 kd6 h o R J1 mL (va_up (va_up (va_up A 23 (cm)) 24 (tk)) 25 (ah))) → (Fr (FP 28 kd6 o R) h0 h) → (Wd g base h H) → (va_S (Ab base) s.heap H locs) → (lv_has ls 8 [(0, .ref o), (1, .int (J T)), (2, .int (J xs))]) → W p l e (headSpec wsX6_layGlasses ({ frames := 1, cells := 0, slots := 0, locals := 28 })).room s m ([.ref o]).toArray below meth c H locs 0 0 (MQ below (QcM g base (fun r h' => r = none ∧ Fr (FP 28 kd6 o R) h0 h' ∧ ∃ I' cm tk ah be, OB g 6 28 kd6 h' o R I' mL (va_up (va_up (va_up (va_up A 23 cm) 24 tk) 25 ah) 26 be) ∧ (∀ k, k ≠ 21 → k ≠ 22 → I' k = I k) ∧ AQ (mp (I 5) (A 6)) ah 61 0 0 ∧ BT (mp (I 5) (A 6)) be 41 0)) ([.ref o]).toArray s (0) (0) (Ab base)) (F0 m 155 ls []) := by
                      intro n9
                      induction n9 with
                      | zero =>
                        intro xs ah h H locs ls hmu hx9 hAQ hM hF hW hS hl
                        exact absurd hmu (by omega)
                      | succ n9 ih =>
                        intro xs ah h H locs ls hmu hx9 hAQ hM hF hW hS hl
                        have ih_155 := ih
                        refine lv_iload_n hx hb dX6_layGlasses_155 rfl (lv_at hl 2 rfl) ?_
                        refine lv_sipush (v := J (2197)) hx hb dX6_layGlasses_156 (by decide) ?_
                        refine j_icmp_ge (x := xs) (y := 2197) (tgt := 298) hx hb ⟨by omega, by omega⟩ ⟨by decide, by decide⟩ dX6_layGlasses_159 (by decide) (fun c_159 => ?_) (fun c_159 => ?_)
                        · refine lv_iinc (v := J (T + 1)) (lv' := [(1, .int (J (T + 1))), (0, .ref o), (2, .int (J xs))]) hx hb dX6_layGlasses_298 hl (k := 1) rfl (J_inc (by omega)) (by decide) rfl (fun ls hl => ?_)
                          refine lv_goto (tgt := 147) hx hb dX6_layGlasses_301 (by decide) ?_
                          exact ih_147 (T + 1) ah h H locs ls (by omega) (by omega) (AQ_T (by have e9 : xs = 2197 := (by omega); rw [e9] at hAQ; exact hAQ)) hM hF hW hS (lv_sub hl [1, 0] rfl)
                        · refine lv_aload_n hx hb dX6_layGlasses_162 rfl (lv_at hl 0 rfl) ?_
                          refine g_get (ci := 6) (C := RX6) (T := TX6) (N := 28) (v := .ref (R 25)) hx hb hfX6 (fun _ h9 => h9) hown hk hW hM.1 rfl 25 (by decide) (hts (.fieldLink RX6 60 "JugsAndGlassesModel" "ahead" "[I") (by decide +kernel)) rfl rfl dX6_layGlasses_163 ?_
                          refine lv_sipush (v := J (2197)) hx hb dX6_layGlasses_166 (by decide) ?_
                          refine lv_iload_n hx hb dX6_layGlasses_169 rfl (lv_at hl 1 rfl) ?_
                          refine j_imul hx hb dX6_layGlasses_170 ?_
                          refine lv_iload_n hx hb dX6_layGlasses_171 rfl (lv_at hl 2 rfl) ?_
                          refine j_iadd hx hb dX6_layGlasses_172 ?_
                          refine g_iald (n := 134017) (f := ah) (i := (2197 * T) + xs) hx hb hk hW (hM.ai 25 (by decide) rfl) (by omega) (by omega) (by omega) dX6_layGlasses_173 ?_
                          have hahr0 := AQ_r hAQ hT9.1 (by omega) hx9.1 (by omega)
                          obtain ⟨u, hu⟩ : ∃ u, u = ah (2197 * T + xs) := ⟨_, rfl⟩
                          rw [← hu] at hahr0
                          rw [← hu]
                          refine lv_istore_n (lv' := [(3, .int (J u)), (0, .ref o), (1, .int (J T)), (2, .int (J xs))]) hx hb dX6_layGlasses_174 rfl hl (by decide) rfl (fun ls hl => ?_)
                          refine lv_iconst (v := J (0)) hx hb dX6_layGlasses_175 rfl ?_
                          refine lv_istore (lv' := [(4, .int (J 0)), (3, .int (J u)), (0, .ref o), (1, .int (J T)), (2, .int (J xs))]) hx hb dX6_layGlasses_176 hl (by decide) rfl (fun ls hl => ?_)
                          have loop_178 : ∀ (n9 : Nat) (a : Int) (ah : Int → Int) (h : Hp) (H : Heap) (locs : List Loc) (ls : Array Slot), 8 - a < (n9 : Int) → (0 ≤ a ∧ a ≤ 8) → (u = ah (2197 * T + xs)) → (AQ (mp (I 5) (A 6)) ah T xs a) → (OB g 6 28 kd6 h o R J1 mL (va_up (va_up (va_up A 23 (cm)) 24 (tk)) 25 (ah))) → (Fr (FP 28 kd6 o R) h0 h) → (Wd g base h H) → (va_S (Ab base) s.heap H locs) → (lv_has ls 8 [(0, .ref o), (1, .int (J T)), (2, .int (J xs)), (3, .int (J u)), (4, .int (J a))]) → W p l e (headSpec wsX6_layGlasses ({ frames := 1, cells := 0, slots := 0, locals := 28 })).room s m ([.ref o]).toArray below meth c H locs 0 0 (MQ below (QcM g base (fun r h' => r = none ∧ Fr (FP 28 kd6 o R) h0 h' ∧ ∃ I' cm tk ah be, OB g 6 28 kd6 h' o R I' mL (va_up (va_up (va_up (va_up A 23 cm) 24 tk) 25 ah) 26 be) ∧ (∀ k, k ≠ 21 → k ≠ 22 → I' k = I k) ∧ AQ (mp (I 5) (A 6)) ah 61 0 0 ∧ BT (mp (I 5) (A 6)) be 41 0)) ([.ref o]).toArray s (0) (0) (Ab base)) (F0 m 178 ls []) := by
                            intro n9
                            induction n9 with
                            | zero =>
                              intro a ah h H locs ls hmu ha9 hu hAQ hM hF hW hS hl
                              exact absurd hmu (by omega)
                            | succ n9 ih =>
                              intro a ah h H locs ls hmu ha9 hu hAQ hM hF hW hS hl
                              have ih_178 := ih
                              refine lv_iload hx hb dX6_layGlasses_178 (lv_at hl 4 rfl) ?_
                              refine lv_bipush (v := J (8)) hx hb dX6_layGlasses_180 (by decide) ?_
                              refine j_icmp_ge (x := a) (y := 8) (tgt := 292) hx hb ⟨by omega, by omega⟩ ⟨by decide, by decide⟩ dX6_layGlasses_182 (by decide) (fun c_182 => ?_) (fun c_182 => ?_)
                              · refine lv_iinc (v := J (xs + 1)) (lv' := [(2, .int (J (xs + 1))), (0, .ref o), (1, .int (J T)), (3, .int (J u)), (4, .int (J a))]) hx hb dX6_layGlasses_292 hl (k := 2) rfl (J_inc (by omega)) (by decide) rfl (fun ls hl => ?_)
                                refine lv_goto (tgt := 155) hx hb dX6_layGlasses_295 (by decide) ?_
                                exact ih_155 (xs + 1) ah h H locs ls (by omega) (by omega) (AQ_S hAQ (by rw [← hu]; omega)) hM hF hW hS (lv_sub hl [1, 2, 0] rfl)
                              · refine lv_iload_n hx hb dX6_layGlasses_185 rfl (lv_at hl 3 rfl) ?_
                                refine j_ldc (z := 1000000000) hx hb (by decide) hown (hts (.constant RX6 111 (1000000000)) (by decide +kernel)) dX6_layGlasses_186 ?_
                                refine j_icmp_ge (x := u) (y := 1000000000) (tgt := 292) hx hb ⟨by omega, by omega⟩ ⟨by decide, by decide⟩ dX6_layGlasses_188 (by decide) (fun c_188 => ?_) (fun c_188 => ?_)
                                · refine lv_iinc (v := J (xs + 1)) (lv' := [(2, .int (J (xs + 1))), (0, .ref o), (1, .int (J T)), (3, .int (J u)), (4, .int (J a))]) hx hb dX6_layGlasses_292 hl (k := 2) rfl (J_inc (by omega)) (by decide) rfl (fun ls hl => ?_)
                                  refine lv_goto (tgt := 155) hx hb dX6_layGlasses_295 (by decide) ?_
                                  exact ih_155 (xs + 1) ah h H locs ls (by omega) (by omega) (AQ_S hAQ (by rw [← hu]; omega)) hM hF hW hS (lv_sub hl [1, 2, 0] rfl)
                                · refine lv_aload_n hx hb dX6_layGlasses_191 rfl (lv_at hl 0 rfl) ?_
                                  refine g_get (ci := 6) (C := RX6) (T := TX6) (N := 28) (v := .ref (R 23)) hx hb hfX6 (fun _ h9 => h9) hown hk hW hM.1 rfl 23 (by decide) (hts (.fieldLink RX6 53 "JugsAndGlassesModel" "comes" "[I") (by decide +kernel)) rfl rfl dX6_layGlasses_192 ?_
                                  refine lv_bipush (v := J (8)) hx hb dX6_layGlasses_195 (by decide) ?_
                                  refine lv_iload_n hx hb dX6_layGlasses_197 rfl (lv_at hl 2 rfl) ?_
                                  refine j_imul hx hb dX6_layGlasses_198 ?_
                                  refine lv_iload hx hb dX6_layGlasses_199 (lv_at hl 4 rfl) ?_
                                  refine j_iadd hx hb dX6_layGlasses_201 ?_
                                  refine g_iald (n := 17576) (f := cm) (i := 8 * xs + a) hx hb hk hW (hM.ai 23 (by decide) rfl) (by omega) (by omega) (by decide) dX6_layGlasses_202 ?_
                                  have hct := hCT xs a (by omega) (by omega) (by omega) (by omega) (by omega)
                                  have hmr := mp_r hsk xs a
                                  obtain ⟨to, eto⟩ : ∃ to, to = cm (8 * xs + a) := ⟨_, rfl⟩
                                  obtain ⟨d, ed⟩ : ∃ d, d = tk (8 * xs + a) := ⟨_, rfl⟩
                                  rw [← eto, ← ed] at hct
                                  rw [← eto]
                                  refine lv_istore (lv' := [(5, .int (J to)), (0, .ref o), (1, .int (J T)), (2, .int (J xs)), (3, .int (J u)), (4, .int (J a))]) hx hb dX6_layGlasses_203 hl (by decide) rfl (fun ls hl => ?_)
                                  refine lv_iload_n hx hb dX6_layGlasses_205 rfl (lv_at hl 2 rfl) ?_
                                  refine lv_aload_n hx hb dX6_layGlasses_206 rfl (lv_at hl 1 rfl) ?_
                                  refine g_get (ci := 6) (C := RX6) (T := TX6) (N := 28) (v := .ref (R 24)) hx hb hfX6 (fun _ h9 => h9) hown hk hW hM.1 rfl 24 (by decide) (hts (.fieldLink RX6 56 "JugsAndGlassesModel" "takes" "[I") (by decide +kernel)) rfl rfl dX6_layGlasses_207 ?_
                                  refine lv_bipush (v := J (8)) hx hb dX6_layGlasses_210 (by decide) ?_
                                  refine lv_iload_n hx hb dX6_layGlasses_212 rfl (lv_at hl 3 rfl) ?_
                                  refine j_imul hx hb dX6_layGlasses_213 ?_
                                  refine lv_iload hx hb dX6_layGlasses_214 (lv_at hl 5 rfl) ?_
                                  refine j_iadd hx hb dX6_layGlasses_216 ?_
                                  refine g_iald (n := 17576) (f := tk) (i := 8 * xs + a) hx hb hk hW (hM.ai 24 (by decide) rfl) (by omega) (by omega) (by decide) dX6_layGlasses_217 ?_
                                  rw [← ed]
                                  refine j_iadd hx hb dX6_layGlasses_218 ?_
                                  refine lv_istore (lv' := [(6, .int (J (T + d))), (5, .int (J to)), (0, .ref o), (1, .int (J T)), (2, .int (J xs)), (3, .int (J u)), (4, .int (J a))]) hx hb dX6_layGlasses_219 hl (by decide) rfl (fun ls hl => ?_)
                                  refine lv_iload hx hb dX6_layGlasses_221 (lv_at hl 1 rfl) ?_
                                  refine lv_iconst (v := J (-1)) hx hb dX6_layGlasses_223 rfl ?_
                                  refine j_icmp_eq (x := to) (y := (-1)) (tgt := 286) hx hb ⟨by omega, by omega⟩ ⟨by omega, by omega⟩ dX6_layGlasses_224 (by decide) (fun c_224 => ?_) (fun c_224 => ?_)
                                  · refine lv_iinc (v := J (a + 1)) (lv' := [(4, .int (J (a + 1))), (6, .int (J (T + d))), (5, .int (J to)), (0, .ref o), (1, .int (J T)), (2, .int (J xs)), (3, .int (J u))]) hx hb dX6_layGlasses_286 hl (k := 6) rfl (J_inc (by omega)) (by decide) rfl (fun ls hl => ?_)
                                    refine lv_goto (tgt := 178) hx hb dX6_layGlasses_289 (by decide) ?_
                                    exact ih_178 (a + 1) ah h H locs ls (by omega) (by omega) hu (AQ_no hAQ (fun _ w1 w2 => absurd w2 (by omega))) hM hF hW hS (lv_sub hl [3, 4, 5, 6, 0] rfl)
                                  · refine lv_iload hx hb dX6_layGlasses_227 (lv_at hl 0 rfl) ?_
                                    refine lv_bipush (v := J (60)) hx hb dX6_layGlasses_229 (by decide) ?_
                                    refine j_icmp_gt (x := T + d) (y := 60) (tgt := 286) hx hb ⟨by omega, by omega⟩ ⟨by decide, by decide⟩ dX6_layGlasses_231 (by decide) (fun c_231 => ?_) (fun c_231 => ?_)
                                    · refine lv_iinc (v := J (a + 1)) (lv' := [(4, .int (J (a + 1))), (6, .int (J (T + d))), (5, .int (J to)), (0, .ref o), (1, .int (J T)), (2, .int (J xs)), (3, .int (J u))]) hx hb dX6_layGlasses_286 hl (k := 6) rfl (J_inc (by omega)) (by decide) rfl (fun ls hl => ?_)
                                      refine lv_goto (tgt := 178) hx hb dX6_layGlasses_289 (by decide) ?_
                                      exact ih_178 (a + 1) ah h H locs ls (by omega) (by omega) hu (AQ_no hAQ (fun _ w1 w2 => absurd w2 (by omega))) hM hF hW hS (lv_sub hl [3, 4, 5, 6, 0] rfl)
                                    · refine lv_sipush (v := J (2197)) hx hb dX6_layGlasses_234 (by decide) ?_
                                      refine lv_iload hx hb dX6_layGlasses_237 (lv_at hl 0 rfl) ?_
                                      refine j_imul hx hb dX6_layGlasses_239 ?_
                                      refine lv_iload hx hb dX6_layGlasses_240 (lv_at hl 1 rfl) ?_
                                      refine j_iadd hx hb dX6_layGlasses_242 ?_
                                      refine lv_istore (lv' := [(7, .int (J ((2197 * (T + d)) + to))), (6, .int (J (T + d))), (5, .int (J to)), (0, .ref o), (1, .int (J T)), (2, .int (J xs)), (3, .int (J u)), (4, .int (J a))]) hx hb dX6_layGlasses_243 hl (by decide) rfl (fun ls hl => ?_)
                                      refine lv_aload_n hx hb dX6_layGlasses_245 rfl (lv_at hl 3 rfl) ?_
                                      refine g_get (ci := 6) (C := RX6) (T := TX6) (N := 28) (v := .ref (R 25)) hx hb hfX6 (fun _ h9 => h9) hown hk hW hM.1 rfl 25 (by decide) (hts (.fieldLink RX6 60 "JugsAndGlassesModel" "ahead" "[I") (by decide +kernel)) rfl rfl dX6_layGlasses_246 ?_
                                      refine lv_iload hx hb dX6_layGlasses_249 (lv_at hl 0 rfl) ?_
                                      refine lv_iload_n hx hb dX6_layGlasses_251 rfl (lv_at hl 6 rfl) ?_
                                      refine lv_iload hx hb dX6_layGlasses_252 (lv_at hl 7 rfl) ?_
                                      refine g_callS (As := [.int (J a)]) (rest := [.int (J u), .int (J ((2197 * (T + d)) + to)), .ref (R 25)]) ⟨hx, hb, hml, hown, hts⟩ (m_ones l g base sa h a ⟨by omega, by omega⟩) (va_cwS 1 hts gX6_layGlasses_X6_ones rfl rfl rfl (by decide +kernel) ⟨Nat.le_of_ble_eq_true rfl, Nat.le_of_ble_eq_true rfl⟩) hk hW hS rfl hl.1 (Nat.le_of_ble_eq_true rfl) dX6_layGlasses_254 ⟨Nat.le_of_ble_eq_true rfl, Nat.le_of_ble_eq_true rfl⟩ (fun r9 h9 H locs hp hW hS => ?_)
                                      obtain ⟨rfl, e9⟩ := hp
                                      rw [e9] at hW
                                      refine W.eq (g2 := F0 m 257 ls [.int (J (bc a)), .int (J u), .int (J ((2197 * (T + d)) + to)), .ref (R 25)]) rfl ?_
                                      have hbc := bc_r a
                                      refine j_iadd hx hb dX6_layGlasses_257 ?_
                                      refine lv_aload_n hx hb dX6_layGlasses_258 rfl (lv_at hl 3 rfl) ?_
                                      refine g_get (ci := 6) (C := RX6) (T := TX6) (N := 28) (v := .ref (R 25)) hx hb hfX6 (fun _ h9 => h9) hown hk hW hM.1 rfl 25 (by decide) (hts (.fieldLink RX6 60 "JugsAndGlassesModel" "ahead" "[I") (by decide +kernel)) rfl rfl dX6_layGlasses_259 ?_
                                      refine lv_iload hx hb dX6_layGlasses_262 (lv_at hl 0 rfl) ?_
                                      have hahr := AQ_r hAQ (t := T + d) (x := to) (by omega) (by omega) (by omega) (by omega)
                                      refine g_iald (n := 134017) (f := ah) (i := (2197 * (T + d)) + to) hx hb hk hW (hM.ai 25 (by decide) rfl) (by omega) (by omega) (by decide) dX6_layGlasses_264 ?_
                                      refine j_icmp_ge (x := u + (bc a)) (y := ah ((2197 * (T + d)) + to)) (tgt := 278) hx hb ⟨by omega, by omega⟩ ⟨by omega, by omega⟩ dX6_layGlasses_265 (by decide) (fun c_265 => ?_) (fun c_265 => ?_)
                                      · refine lv_aload_n hx hb dX6_layGlasses_278 rfl (lv_at hl 3 rfl) ?_
                                        refine g_get (ci := 6) (C := RX6) (T := TX6) (N := 28) (v := .ref (R 25)) hx hb hfX6 (fun _ h9 => h9) hown hk hW hM.1 rfl 25 (by decide) (hts (.fieldLink RX6 60 "JugsAndGlassesModel" "ahead" "[I") (by decide +kernel)) rfl rfl dX6_layGlasses_279 ?_
                                        refine lv_iload hx hb dX6_layGlasses_282 (lv_at hl 0 rfl) ?_
                                        have hahr := AQ_r hAQ (t := T + d) (x := to) (by omega) (by omega) (by omega) (by omega)
                                        refine g_iald (n := 134017) (f := ah) (i := (2197 * (T + d)) + to) hx hb hk hW (hM.ai 25 (by decide) rfl) (by omega) (by omega) (by decide) dX6_layGlasses_284 ?_
                                        refine o_iast (A' := (va_up (va_up (va_up A 23 (cm)) 24 (tk)) 25 (uf ah ((2197 * (T + d)) + to) (ah ((2197 * (T + d)) + to))))) (i := (2197 * (T + d)) + to) (x := ah ((2197 * (T + d)) + to)) hx hb hk hW hS hM hF 25 (by decide) rfl (FP.a 25 (by decide) ⟨by decide, by decide⟩) (by omega) (show (2197 * (T + d)) + to < 134017 from by omega) (show 134017 < 2147483648 from by omega) (bx_uu _ _ _ _) dX6_layGlasses_285 (fun h H locs hM hF hst hW hS => ?_)
                                        refine lv_iinc (v := J (a + 1)) (lv' := [(4, .int (J (a + 1))), (7, .int (J ((2197 * (T + d)) + to))), (6, .int (J (T + d))), (5, .int (J to)), (0, .ref o), (1, .int (J T)), (2, .int (J xs)), (3, .int (J u))]) hx hb dX6_layGlasses_286 hl (k := 7) rfl (J_inc (by omega)) (by decide) rfl (fun ls hl => ?_)
                                        refine lv_goto (tgt := 178) hx hb dX6_layGlasses_289 (by decide) ?_
                                        exact ih_178 (a + 1) (uf ah ((2197 * (T + d)) + to) (ah ((2197 * (T + d)) + to))) h H locs ls (by omega) (by omega) (by rw [uf_ne _ _ (by omega)]; exact hu) (by have h8 := AQ_yes (mp_r hsk) hAQ hT9.1 hx9.1 (by omega) ha9.1 (by omega) (by omega) (by omega) (by omega) rfl; rw [show mp (I 5) (A 6) xs a % 16 = d by omega, show mp (I 5) (A 6) xs a / 16 = to by omega, ← hu] at h8; first | (rw [show min (u + bc a) (ah (2197 * (T + d) + to)) = u + bc a by omega] at h8; exact h8) | (rw [show min (u + bc a) (ah (2197 * (T + d) + to)) = ah (2197 * (T + d) + to) by omega] at h8; exact h8)) hM hF hW hS (lv_sub hl [4, 5, 6, 7, 0] rfl)
                                      · refine lv_iload_n hx hb dX6_layGlasses_268 rfl (lv_at hl 6 rfl) ?_
                                        refine lv_iload hx hb dX6_layGlasses_269 (lv_at hl 7 rfl) ?_
                                        refine g_callS (As := [.int (J a)]) (rest := [.int (J u), .int (J ((2197 * (T + d)) + to)), .ref (R 25)]) ⟨hx, hb, hml, hown, hts⟩ (m_ones l g base sa h a ⟨by omega, by omega⟩) (va_cwS 1 hts gX6_layGlasses_X6_ones rfl rfl rfl (by decide +kernel) ⟨Nat.le_of_ble_eq_true rfl, Nat.le_of_ble_eq_true rfl⟩) hk hW hS rfl hl.1 (Nat.le_of_ble_eq_true rfl) dX6_layGlasses_271 ⟨Nat.le_of_ble_eq_true rfl, Nat.le_of_ble_eq_true rfl⟩ (fun r9 h9 H locs hp hW hS => ?_)
                                        obtain ⟨rfl, e9⟩ := hp
                                        rw [e9] at hW
                                        refine W.eq (g2 := F0 m 274 ls [.int (J (bc a)), .int (J u), .int (J ((2197 * (T + d)) + to)), .ref (R 25)]) rfl ?_
                                        have hbc := bc_r a
                                        refine j_iadd hx hb dX6_layGlasses_274 ?_
                                        refine lv_goto (tgt := 285) hx hb dX6_layGlasses_275 (by decide) ?_
                                        refine o_iast (A' := (va_up (va_up (va_up A 23 (cm)) 24 (tk)) 25 (uf ah ((2197 * (T + d)) + to) (u + (bc a))))) (i := (2197 * (T + d)) + to) (x := u + (bc a)) hx hb hk hW hS hM hF 25 (by decide) rfl (FP.a 25 (by decide) ⟨by decide, by decide⟩) (by omega) (show (2197 * (T + d)) + to < 134017 from by omega) (show 134017 < 2147483648 from by omega) (bx_uu _ _ _ _) dX6_layGlasses_285 (fun h H locs hM hF hst hW hS => ?_)
                                        refine lv_iinc (v := J (a + 1)) (lv' := [(4, .int (J (a + 1))), (7, .int (J ((2197 * (T + d)) + to))), (6, .int (J (T + d))), (5, .int (J to)), (0, .ref o), (1, .int (J T)), (2, .int (J xs)), (3, .int (J u))]) hx hb dX6_layGlasses_286 hl (k := 7) rfl (J_inc (by omega)) (by decide) rfl (fun ls hl => ?_)
                                        refine lv_goto (tgt := 178) hx hb dX6_layGlasses_289 (by decide) ?_
                                        exact ih_178 (a + 1) (uf ah ((2197 * (T + d)) + to) (u + (bc a))) h H locs ls (by omega) (by omega) (by rw [uf_ne _ _ (by omega)]; exact hu) (by have h8 := AQ_yes (mp_r hsk) hAQ hT9.1 hx9.1 (by omega) ha9.1 (by omega) (by omega) (by omega) (by omega) rfl; rw [show mp (I 5) (A 6) xs a % 16 = d by omega, show mp (I 5) (A 6) xs a / 16 = to by omega, ← hu] at h8; first | (rw [show min (u + bc a) (ah (2197 * (T + d) + to)) = u + bc a by omega] at h8; exact h8) | (rw [show min (u + bc a) (ah (2197 * (T + d) + to)) = ah (2197 * (T + d) + to) by omega] at h8; exact h8)) hM hF hW hS (lv_sub hl [4, 5, 6, 7, 0] rfl)
                          exact loop_178 9 0 ah h H locs ls (by omega) (by omega) hu hAQ hM hF hW hS (lv_sub hl [2, 3, 4, 1, 0] rfl)
                    exact loop_155 2198 0 ah h H locs ls (by omega) (by omega) hAQ hM hF hW hS (lv_sub hl [1, 2, 0] rfl)
              exact loop_147 62 0 (uf ah 0 0) h H locs ls (by omega) (by omega) (AQ_0 (fun j j0 j1 => hah j j0 (by omega))) hM hF hW hS (lv_sub hl [1, 0] rfl)
            · refine lv_aload_n hx hb dX6_layGlasses_124 rfl (lv_at hl 0 rfl) ?_
              refine g_get (ci := 6) (C := RX6) (T := TX6) (N := 28) (v := .ref (R 25)) hx hb hfX6 (fun _ h9 => h9) hown hk hW hM.1 rfl 25 (by decide) (hts (.fieldLink RX6 60 "JugsAndGlassesModel" "ahead" "[I") (by decide +kernel)) rfl rfl dX6_layGlasses_125 ?_
              refine lv_iload_n hx hb dX6_layGlasses_128 rfl (lv_at hl 1 rfl) ?_
              refine j_ldc (z := 1000000000) hx hb (by decide) hown (hts (.constant RX6 111 (1000000000)) (by decide +kernel)) dX6_layGlasses_129 ?_
              refine o_iast (A' := (va_up (va_up (va_up A 23 (cm)) 24 (tk)) 25 (uf ah k 1000000000))) (i := k) (x := 1000000000) hx hb hk hW hS hM hF 25 (by decide) rfl (FP.a 25 (by decide) ⟨by decide, by decide⟩) (by omega) (show k < 134017 from by omega) (show 134017 < 2147483648 from by omega) (bx_uu _ _ _ _) dX6_layGlasses_131 (fun h H locs hM hF hst hW hS => ?_)
              refine lv_iinc (v := J (k + 1)) (lv' := [(1, .int (J (k + 1))), (0, .ref o)]) hx hb dX6_layGlasses_132 hl (k := 1) rfl (J_inc (by omega)) (by decide) rfl (fun ls hl => ?_)
              refine lv_goto (tgt := 118) hx hb dX6_layGlasses_135 (by decide) ?_
              exact ih_118 (k + 1) (uf ah k 1000000000) h H locs ls (by omega) (by omega) (fun j j0 j1 => by unfold uf; split; rfl; exact hah j j0 (by omega)) hM hF hW hS (lv_sub hl [1, 0] rfl)
        exact loop_118 134018 0 (A 25) h H locs ls (by omega) (by omega) (fun j j0 j1 => absurd j1 (by omega)) (hM.cg (fun _ _ _ => rfl) (fun _ _ _ => rfl) (fun q9 _ _ => by by_cases w3 : q9 = 23 <;> by_cases w4 : q9 = 24 <;> by_cases w5 : q9 = 25 <;> simp [va_up, w3, w4, w5])) hF hW hS (lv_sub hl [1, 0] rfl)
      · refine lv_iconst (v := J (0)) hx hb dX6_layGlasses_9 rfl ?_
        refine lv_istore_n (lv' := [(2, .int (J 0)), (0, .ref o), (1, .int (J xs))]) hx hb dX6_layGlasses_10 rfl hl (by decide) rfl (fun ls hl => ?_)
        have loop_11 : ∀ (n9 : Nat) (a : Int) (cm : Int → Int) (tk : Int → Int) (J1 : Nat → Int) (h : Hp) (H : Heap) (locs : List Loc) (ls : Array Slot), 8 - a < (n9 : Int) → (0 ≤ a ∧ a ≤ 8) → (xs < 2197) → (∀ k, k ≠ 21 → k ≠ 22 → J1 k = I k) → (CT (mp (I 5) (A 6)) cm tk (8 * xs + a)) → (OB g 6 28 kd6 h o R J1 mL (va_up (va_up A 23 (cm)) 24 (tk))) → (Fr (FP 28 kd6 o R) h0 h) → (Wd g base h H) → (va_S (Ab base) s.heap H locs) → (lv_has ls 8 [(0, .ref o), (1, .int (J xs)), (2, .int (J a))]) → W p l e (headSpec wsX6_layGlasses ({ frames := 1, cells := 0, slots := 0, locals := 28 })).room s m ([.ref o]).toArray below meth c H locs 0 0 (MQ below (QcM g base (fun r h' => r = none ∧ Fr (FP 28 kd6 o R) h0 h' ∧ ∃ I' cm tk ah be, OB g 6 28 kd6 h' o R I' mL (va_up (va_up (va_up (va_up A 23 cm) 24 tk) 25 ah) 26 be) ∧ (∀ k, k ≠ 21 → k ≠ 22 → I' k = I k) ∧ AQ (mp (I 5) (A 6)) ah 61 0 0 ∧ BT (mp (I 5) (A 6)) be 41 0)) ([.ref o]).toArray s (0) (0) (Ab base)) (F0 m 11 ls []) := by
          intro n9
          induction n9 with
          | zero =>
            intro a cm tk J1 h H locs ls hmu ha9 hx8 hJ hCT hM hF hW hS hl
            exact absurd hmu (by omega)
          | succ n9 ih =>
            intro a cm tk J1 h H locs ls hmu ha9 hx8 hJ hCT hM hF hW hS hl
            have j5 : J1 5 = I 5 := hJ 5 (by decide) (by decide)
            have ih_11 := ih
            refine lv_iload_n hx hb dX6_layGlasses_11 rfl (lv_at hl 2 rfl) ?_
            refine lv_bipush (v := J (8)) hx hb dX6_layGlasses_12 (by decide) ?_
            refine j_icmp_ge (x := a) (y := 8) (tgt := 110) hx hb ⟨by omega, by omega⟩ ⟨by decide, by decide⟩ dX6_layGlasses_14 (by decide) (fun c_14 => ?_) (fun c_14 => ?_)
            · refine lv_iinc (v := J (xs + 1)) (lv' := [(1, .int (J (xs + 1))), (0, .ref o), (2, .int (J a))]) hx hb dX6_layGlasses_110 hl (k := 1) rfl (J_inc (by omega)) (by decide) rfl (fun ls hl => ?_)
              refine lv_goto (tgt := 2) hx hb dX6_layGlasses_113 (by decide) ?_
              exact ih_2 (xs + 1) cm tk J1 h H locs ls (by omega) (by omega) hJ (by have e9 : 8 * (xs + 1) = 8 * xs + a := (by omega); rw [e9]; exact hCT) hM hF hW hS (lv_sub hl [1, 0] rfl)
            · refine lv_aload_n hx hb dX6_layGlasses_17 rfl (lv_at hl 0 rfl) ?_
              refine lv_iload_n hx hb dX6_layGlasses_18 rfl (lv_at hl 1 rfl) ?_
              refine g_callV (As := [.int (J xs)]) (rest := []) (b := o) (ci := 6) (C := RX6) (T := TX6) (N := 28) ⟨hx, hb, hml, hown, hts⟩ (m_isState l g base sa h o R J1 (va_up (va_up A 23 (cm)) 24 (tk)) xs hM (by rw [j5]; exact hsk) ⟨by omega, by omega⟩) (cwV 1 hts gX6_layGlasses_X6_isState rfl rfl rfl (by decide +kernel) ⟨Nat.le_of_ble_eq_true rfl, Nat.le_of_ble_eq_true rfl⟩) hk hW hS hM.1 rfl rfl hl.1 (Nat.le_of_ble_eq_true rfl) dX6_layGlasses_19 ⟨Nat.le_of_ble_eq_true rfl, Nat.le_of_ble_eq_true rfl⟩ (fun r9 h9 H locs hp hW hS => ?_)
              have hp : r9 = some (.int (J (iS (J1 5) (A 6) xs 3))) ∧ h9 = h := hp
              rw [j5] at hp
              obtain ⟨rfl, e9⟩ := hp
              rw [e9] at hW
              refine W.eq (g2 := F0 m 22 ls [.int (J (iS (I 5) (A 6) xs 3))]) rfl ?_
              have hbr := iS_r (I 5) (A 6) xs 3
              refine j_if_eq (x := iS (I 5) (A 6) xs 3) (tgt := 39) hx hb ⟨by omega, by omega⟩ dX6_layGlasses_22 (by decide) (fun c_22 => ?_) (fun c_22 => ?_)
              · refine lv_iconst (v := J (0)) hx hb dX6_layGlasses_39 rfl ?_
                refine lv_istore_n (lv' := [(3, .int (J 0)), (0, .ref o), (1, .int (J xs)), (2, .int (J a))]) hx hb dX6_layGlasses_40 rfl hl (by decide) rfl (fun ls hl => ?_)
                refine lv_aload_n hx hb dX6_layGlasses_41 rfl (lv_at hl 1 rfl) ?_
                refine g_get (ci := 6) (C := RX6) (T := TX6) (N := 28) (v := .ref (R 23)) hx hb hfX6 (fun _ h9 => h9) hown hk hW hM.1 rfl 23 (by decide) (hts (.fieldLink RX6 53 "JugsAndGlassesModel" "comes" "[I") (by decide +kernel)) rfl rfl dX6_layGlasses_42 ?_
                refine lv_bipush (v := J (8)) hx hb dX6_layGlasses_45 (by decide) ?_
                refine lv_iload_n hx hb dX6_layGlasses_47 rfl (lv_at hl 2 rfl) ?_
                refine j_imul hx hb dX6_layGlasses_48 ?_
                refine lv_iload_n hx hb dX6_layGlasses_49 rfl (lv_at hl 3 rfl) ?_
                refine j_iadd hx hb dX6_layGlasses_50 ?_
                refine lv_iload_n hx hb dX6_layGlasses_51 rfl (lv_at hl 0 rfl) ?_
                refine j_if_eq (x := 0) (tgt := 64) hx hb ⟨by decide, by decide⟩ dX6_layGlasses_52 (by decide) (fun c9 => ?_) (fun c9 => absurd c9 (by decide))
                refine lv_iconst (v := J (-1)) hx hb dX6_layGlasses_64 rfl ?_
                refine o_iast (A' := (va_up (va_up A 24 (tk)) 23 (uf cm ((8 * xs) + a) ((-1))))) (i := (8 * xs) + a) (x := (-1)) hx hb hk hW hS hM hF 23 (by decide) rfl (FP.a 23 (by decide) ⟨by decide, by decide⟩) (by omega) (show (8 * xs) + a < 17576 from by omega) (show 17576 < 2147483648 from by omega) (by funext j9; by_cases q9 : j9 = 23 <;> simp [q9, va_up]) dX6_layGlasses_65 (fun h H locs hM hF hst hW hS => ?_)
                refine lv_aload_n hx hb dX6_layGlasses_66 rfl (lv_at hl 1 rfl) ?_
                refine g_get (ci := 6) (C := RX6) (T := TX6) (N := 28) (v := .ref (R 24)) hx hb hfX6 (fun _ h9 => h9) hown hk hW hM.1 rfl 24 (by decide) (hts (.fieldLink RX6 56 "JugsAndGlassesModel" "takes" "[I") (by decide +kernel)) rfl rfl dX6_layGlasses_67 ?_
                refine lv_bipush (v := J (8)) hx hb dX6_layGlasses_70 (by decide) ?_
                refine lv_iload_n hx hb dX6_layGlasses_72 rfl (lv_at hl 2 rfl) ?_
                refine j_imul hx hb dX6_layGlasses_73 ?_
                refine lv_iload_n hx hb dX6_layGlasses_74 rfl (lv_at hl 3 rfl) ?_
                refine j_iadd hx hb dX6_layGlasses_75 ?_
                refine lv_iload_n hx hb dX6_layGlasses_76 rfl (lv_at hl 0 rfl) ?_
                refine j_if_eq (x := 0) (tgt := 102) hx hb ⟨by decide, by decide⟩ dX6_layGlasses_77 (by decide) (fun c9 => ?_) (fun c9 => absurd c9 (by decide))
                refine lv_iconst (v := J (0)) hx hb dX6_layGlasses_102 rfl ?_
                refine o_iast (A' := (va_up (va_up A 23 (uf cm ((8 * xs) + a) ((-1)))) 24 (uf tk ((8 * xs) + a) 0))) (i := (8 * xs) + a) (x := 0) hx hb hk hW hS hM hF 24 (by decide) rfl (FP.a 24 (by decide) ⟨by decide, by decide⟩) (by omega) (show (8 * xs) + a < 17576 from by omega) (show 17576 < 2147483648 from by omega) (by funext j9; by_cases q9 : j9 = 24 <;> simp [q9, va_up]) dX6_layGlasses_103 (fun h H locs hM hF hst hW hS => ?_)
                refine lv_iinc (v := J (a + 1)) (lv' := [(2, .int (J (a + 1))), (3, .int (J 0)), (0, .ref o), (1, .int (J xs))]) hx hb dX6_layGlasses_104 hl (k := 3) rfl (J_inc (by omega)) (by decide) rfl (fun ls hl => ?_)
                refine lv_goto (tgt := 11) hx hb dX6_layGlasses_107 (by decide) ?_
                exact ih_11 (a + 1) (uf cm ((8 * xs) + a) ((-1))) (uf tk ((8 * xs) + a) 0) J1 h H locs ls (by omega) (by omega) hx8 hJ (CT_st hCT ha9.1 (by omega) (Or.inl ⟨by unfold mp; rw [if_neg (by omega)], rfl, rfl⟩)) hM hF hW hS (lv_sub hl [2, 3, 0] rfl)
              · refine lv_iload_n hx hb dX6_layGlasses_25 rfl (lv_at hl 2 rfl) ?_
                refine lv_iconst (v := J (1)) hx hb dX6_layGlasses_26 rfl ?_
                refine lv_aload_n hx hb dX6_layGlasses_27 rfl (lv_at hl 0 rfl) ?_
                refine g_get (ci := 6) (C := RX6) (T := TX6) (N := 28) (v := .int (J (J1 5))) hx hb hfX6 (fun _ h9 => h9) hown hk hW hM.1 rfl 5 (by decide) (hts (.fieldLink RX6 155 "JugsAndGlassesModel" "glasses" "I") (by decide +kernel)) rfl rfl dX6_layGlasses_28 ?_
                rw [j5]
                refine j_shl1 (y := I 5) hx hb (by omega) (by omega) dX6_layGlasses_31 ?_
                refine j_icmp_ge (x := a) (y := 2 ^ (I 5).toNat) (tgt := 39) hx hb ⟨by omega, by omega⟩ ⟨by omega, by omega⟩ dX6_layGlasses_32 (by decide) (fun c_32 => ?_) (fun c_32 => ?_)
                · refine lv_iconst (v := J (0)) hx hb dX6_layGlasses_39 rfl ?_
                  refine lv_istore_n (lv' := [(3, .int (J 0)), (0, .ref o), (1, .int (J xs)), (2, .int (J a))]) hx hb dX6_layGlasses_40 rfl hl (by decide) rfl (fun ls hl => ?_)
                  refine lv_aload_n hx hb dX6_layGlasses_41 rfl (lv_at hl 1 rfl) ?_
                  refine g_get (ci := 6) (C := RX6) (T := TX6) (N := 28) (v := .ref (R 23)) hx hb hfX6 (fun _ h9 => h9) hown hk hW hM.1 rfl 23 (by decide) (hts (.fieldLink RX6 53 "JugsAndGlassesModel" "comes" "[I") (by decide +kernel)) rfl rfl dX6_layGlasses_42 ?_
                  refine lv_bipush (v := J (8)) hx hb dX6_layGlasses_45 (by decide) ?_
                  refine lv_iload_n hx hb dX6_layGlasses_47 rfl (lv_at hl 2 rfl) ?_
                  refine j_imul hx hb dX6_layGlasses_48 ?_
                  refine lv_iload_n hx hb dX6_layGlasses_49 rfl (lv_at hl 3 rfl) ?_
                  refine j_iadd hx hb dX6_layGlasses_50 ?_
                  refine lv_iload_n hx hb dX6_layGlasses_51 rfl (lv_at hl 0 rfl) ?_
                  refine j_if_eq (x := 0) (tgt := 64) hx hb ⟨by decide, by decide⟩ dX6_layGlasses_52 (by decide) (fun c9 => ?_) (fun c9 => absurd c9 (by decide))
                  refine lv_iconst (v := J (-1)) hx hb dX6_layGlasses_64 rfl ?_
                  refine o_iast (A' := (va_up (va_up A 24 (tk)) 23 (uf cm ((8 * xs) + a) ((-1))))) (i := (8 * xs) + a) (x := (-1)) hx hb hk hW hS hM hF 23 (by decide) rfl (FP.a 23 (by decide) ⟨by decide, by decide⟩) (by omega) (show (8 * xs) + a < 17576 from by omega) (show 17576 < 2147483648 from by omega) (by funext j9; by_cases q9 : j9 = 23 <;> simp [q9, va_up]) dX6_layGlasses_65 (fun h H locs hM hF hst hW hS => ?_)
                  refine lv_aload_n hx hb dX6_layGlasses_66 rfl (lv_at hl 1 rfl) ?_
                  refine g_get (ci := 6) (C := RX6) (T := TX6) (N := 28) (v := .ref (R 24)) hx hb hfX6 (fun _ h9 => h9) hown hk hW hM.1 rfl 24 (by decide) (hts (.fieldLink RX6 56 "JugsAndGlassesModel" "takes" "[I") (by decide +kernel)) rfl rfl dX6_layGlasses_67 ?_
                  refine lv_bipush (v := J (8)) hx hb dX6_layGlasses_70 (by decide) ?_
                  refine lv_iload_n hx hb dX6_layGlasses_72 rfl (lv_at hl 2 rfl) ?_
                  refine j_imul hx hb dX6_layGlasses_73 ?_
                  refine lv_iload_n hx hb dX6_layGlasses_74 rfl (lv_at hl 3 rfl) ?_
                  refine j_iadd hx hb dX6_layGlasses_75 ?_
                  refine lv_iload_n hx hb dX6_layGlasses_76 rfl (lv_at hl 0 rfl) ?_
                  refine j_if_eq (x := 0) (tgt := 102) hx hb ⟨by decide, by decide⟩ dX6_layGlasses_77 (by decide) (fun c9 => ?_) (fun c9 => absurd c9 (by decide))
                  refine lv_iconst (v := J (0)) hx hb dX6_layGlasses_102 rfl ?_
                  refine o_iast (A' := (va_up (va_up A 23 (uf cm ((8 * xs) + a) ((-1)))) 24 (uf tk ((8 * xs) + a) 0))) (i := (8 * xs) + a) (x := 0) hx hb hk hW hS hM hF 24 (by decide) rfl (FP.a 24 (by decide) ⟨by decide, by decide⟩) (by omega) (show (8 * xs) + a < 17576 from by omega) (show 17576 < 2147483648 from by omega) (by funext j9; by_cases q9 : j9 = 24 <;> simp [q9, va_up]) dX6_layGlasses_103 (fun h H locs hM hF hst hW hS => ?_)
                  refine lv_iinc (v := J (a + 1)) (lv' := [(2, .int (J (a + 1))), (3, .int (J 0)), (0, .ref o), (1, .int (J xs))]) hx hb dX6_layGlasses_104 hl (k := 3) rfl (J_inc (by omega)) (by decide) rfl (fun ls hl => ?_)
                  refine lv_goto (tgt := 11) hx hb dX6_layGlasses_107 (by decide) ?_
                  exact ih_11 (a + 1) (uf cm ((8 * xs) + a) ((-1))) (uf tk ((8 * xs) + a) 0) J1 h H locs ls (by omega) (by omega) hx8 hJ (CT_st hCT ha9.1 (by omega) (Or.inl ⟨by unfold mp; rw [if_neg (by omega)], rfl, rfl⟩)) hM hF hW hS (lv_sub hl [2, 3, 0] rfl)
                · refine lv_iconst (v := J (1)) hx hb dX6_layGlasses_35 rfl ?_
                  refine lv_goto (tgt := 40) hx hb dX6_layGlasses_36 (by decide) ?_
                  refine lv_istore_n (lv' := [(3, .int (J 1)), (0, .ref o), (1, .int (J xs)), (2, .int (J a))]) hx hb dX6_layGlasses_40 rfl hl (by decide) rfl (fun ls hl => ?_)
                  refine lv_aload_n hx hb dX6_layGlasses_41 rfl (lv_at hl 1 rfl) ?_
                  refine g_get (ci := 6) (C := RX6) (T := TX6) (N := 28) (v := .ref (R 23)) hx hb hfX6 (fun _ h9 => h9) hown hk hW hM.1 rfl 23 (by decide) (hts (.fieldLink RX6 53 "JugsAndGlassesModel" "comes" "[I") (by decide +kernel)) rfl rfl dX6_layGlasses_42 ?_
                  refine lv_bipush (v := J (8)) hx hb dX6_layGlasses_45 (by decide) ?_
                  refine lv_iload_n hx hb dX6_layGlasses_47 rfl (lv_at hl 2 rfl) ?_
                  refine j_imul hx hb dX6_layGlasses_48 ?_
                  refine lv_iload_n hx hb dX6_layGlasses_49 rfl (lv_at hl 3 rfl) ?_
                  refine j_iadd hx hb dX6_layGlasses_50 ?_
                  refine lv_iload_n hx hb dX6_layGlasses_51 rfl (lv_at hl 0 rfl) ?_
                  refine j_if_eq (x := 1) (tgt := 64) hx hb ⟨by decide, by decide⟩ dX6_layGlasses_52 (by decide) (fun c9 => absurd c9 (by decide)) (fun c9 => ?_)
                  refine lv_aload_n hx hb dX6_layGlasses_55 rfl (lv_at hl 1 rfl) ?_
                  refine lv_iload_n hx hb dX6_layGlasses_56 rfl (lv_at hl 2 rfl) ?_
                  refine lv_iload_n hx hb dX6_layGlasses_57 rfl (lv_at hl 3 rfl) ?_
                  refine g_callV (As := [.int (J xs), .int (J a)]) (rest := [.int (J ((8 * xs) + a)), .ref (R 23)]) (b := o) (ci := 6) (C := RX6) (T := TX6) (N := 28) ⟨hx, hb, hml, hown, hts⟩ (m_after l g base sa h o R J1 (va_up (va_up A 23 (cm)) 24 (tk)) xs a hM (by rw [j5]; exact hsk) ⟨by omega, by omega⟩ ⟨by omega, by omega⟩) (cwV 2 hts gX6_layGlasses_X6_after rfl rfl rfl (by decide +kernel) ⟨Nat.le_of_ble_eq_true rfl, Nat.le_of_ble_eq_true rfl⟩) hk hW hS hM.1 rfl rfl hl.1 (Nat.le_of_ble_eq_true rfl) dX6_layGlasses_58 ⟨Nat.le_of_ble_eq_true rfl, Nat.le_of_ble_eq_true rfl⟩ (fun r9 h9 H locs hp hW hS => ?_)
                  have hp : ∃ I', r9 = some (.int (J (if mf (J1 5) (A 6) xs a = 1000000000 then -1 else mz (J1 5) (A 6) xs a))) ∧ Fr (FP 28 kd6 o R) h h9 ∧ OB g 6 28 kd6 h9 o R I' mL (va_up (va_up A 23 (cm)) 24 (tk)) ∧ (∀ k, k ≠ 21 → k ≠ 22 → I' k = J1 k) ∧ (mf (J1 5) (A 6) xs a ≠ 1000000000 → I' 21 = mf (J1 5) (A 6) xs a) := hp
                  rw [j5] at hp
                  obtain ⟨J2, rfl, hF9, hM, hJ2, h21⟩ := hp
                  refine W.eq (g2 := F0 m 61 ls [.int (J (if mf (I 5) (A 6) xs a = 1000000000 then -1 else mz (I 5) (A 6) xs a)), .int (J ((8 * xs) + a)), .ref (R 23)]) rfl ?_
                  have hF := hF.tr hF9 (fun q w _ => w)
                  generalize h9 = h at hM hF hW
                  obtain ⟨w, ew⟩ : ∃ w, w = if mf (I 5) (A 6) xs a = 1000000000 then -1 else mz (I 5) (A 6) xs a := ⟨_, rfl⟩
                  rw [← ew]
                  have hmf := mf_r hsk xs a
                  have hmz := mz_r hsk xs a
                  have hwr : (mf (I 5) (A 6) xs a = 1000000000 ∧ w = -1) ∨ (mf (I 5) (A 6) xs a ≠ 1000000000 ∧ w = mz (I 5) (A 6) xs a ∧ 0 ≤ w ∧ w < 2197) := by
                    by_cases q : mf (I 5) (A 6) xs a = 1000000000
                    · rw [if_pos q] at ew; exact Or.inl ⟨q, ew⟩
                    · rw [if_neg q] at ew; have := hmz q; exact Or.inr ⟨q, ew, by omega, by omega⟩
                  refine lv_goto (tgt := 65) hx hb dX6_layGlasses_61 (by decide) ?_
                  refine o_iast (A' := (va_up (va_up A 24 (tk)) 23 (uf cm ((8 * xs) + a) w))) (i := (8 * xs) + a) (x := w) hx hb hk hW hS hM hF 23 (by decide) rfl (FP.a 23 (by decide) ⟨by decide, by decide⟩) (by omega) (show (8 * xs) + a < 17576 from by omega) (show 17576 < 2147483648 from by omega) (by funext j9; by_cases q9 : j9 = 23 <;> simp [q9, va_up]) dX6_layGlasses_65 (fun h H locs hM hF hst hW hS => ?_)
                  refine lv_aload_n hx hb dX6_layGlasses_66 rfl (lv_at hl 1 rfl) ?_
                  refine g_get (ci := 6) (C := RX6) (T := TX6) (N := 28) (v := .ref (R 24)) hx hb hfX6 (fun _ h9 => h9) hown hk hW hM.1 rfl 24 (by decide) (hts (.fieldLink RX6 56 "JugsAndGlassesModel" "takes" "[I") (by decide +kernel)) rfl rfl dX6_layGlasses_67 ?_
                  refine lv_bipush (v := J (8)) hx hb dX6_layGlasses_70 (by decide) ?_
                  refine lv_iload_n hx hb dX6_layGlasses_72 rfl (lv_at hl 2 rfl) ?_
                  refine j_imul hx hb dX6_layGlasses_73 ?_
                  refine lv_iload_n hx hb dX6_layGlasses_74 rfl (lv_at hl 3 rfl) ?_
                  refine j_iadd hx hb dX6_layGlasses_75 ?_
                  refine lv_iload_n hx hb dX6_layGlasses_76 rfl (lv_at hl 0 rfl) ?_
                  refine j_if_eq (x := 1) (tgt := 102) hx hb ⟨by decide, by decide⟩ dX6_layGlasses_77 (by decide) (fun c9 => absurd c9 (by decide)) (fun c9 => ?_)
                  refine lv_aload_n hx hb dX6_layGlasses_80 rfl (lv_at hl 1 rfl) ?_
                  refine g_get (ci := 6) (C := RX6) (T := TX6) (N := 28) (v := .ref (R 23)) hx hb hfX6 (fun _ h9 => h9) hown hk hW hM.1 rfl 23 (by decide) (hts (.fieldLink RX6 53 "JugsAndGlassesModel" "comes" "[I") (by decide +kernel)) rfl rfl dX6_layGlasses_81 ?_
                  refine lv_bipush (v := J (8)) hx hb dX6_layGlasses_84 (by decide) ?_
                  refine lv_iload_n hx hb dX6_layGlasses_86 rfl (lv_at hl 2 rfl) ?_
                  refine j_imul hx hb dX6_layGlasses_87 ?_
                  refine lv_iload_n hx hb dX6_layGlasses_88 rfl (lv_at hl 3 rfl) ?_
                  refine j_iadd hx hb dX6_layGlasses_89 ?_
                  refine g_iald (n := 17576) (f := uf cm (8 * xs + a) w) (i := 8 * xs + a) hx hb hk hW (hM.ai 23 (by decide) rfl) (by omega) (by omega) (by decide) dX6_layGlasses_90 ?_
                  rw [uf_same]
                  refine lv_iconst (v := J (-1)) hx hb dX6_layGlasses_91 rfl ?_
                  refine j_icmp_eq (x := w) (y := (-1)) (tgt := 102) hx hb ⟨by omega, by omega⟩ ⟨by omega, by omega⟩ dX6_layGlasses_92 (by decide) (fun c_92 => ?_) (fun c_92 => ?_)
                  · refine lv_iconst (v := J (0)) hx hb dX6_layGlasses_102 rfl ?_
                    refine o_iast (A' := (va_up (va_up A 23 (uf cm ((8 * xs) + a) w)) 24 (uf tk ((8 * xs) + a) 0))) (i := (8 * xs) + a) (x := 0) hx hb hk hW hS hM hF 24 (by decide) rfl (FP.a 24 (by decide) ⟨by decide, by decide⟩) (by omega) (show (8 * xs) + a < 17576 from by omega) (show 17576 < 2147483648 from by omega) (by funext j9; by_cases q9 : j9 = 24 <;> simp [q9, va_up]) dX6_layGlasses_103 (fun h H locs hM hF hst hW hS => ?_)
                    refine lv_iinc (v := J (a + 1)) (lv' := [(2, .int (J (a + 1))), (3, .int (J 1)), (0, .ref o), (1, .int (J xs))]) hx hb dX6_layGlasses_104 hl (k := 3) rfl (J_inc (by omega)) (by decide) rfl (fun ls hl => ?_)
                    refine lv_goto (tgt := 11) hx hb dX6_layGlasses_107 (by decide) ?_
                    exact ih_11 (a + 1) (uf cm ((8 * xs) + a) w) (uf tk ((8 * xs) + a) 0) J2 h H locs ls (by omega) (by omega) hx8 (fun k w1 w2 => (hJ2 k w1 w2).trans (hJ k w1 w2)) (CT_st hCT ha9.1 (by omega) (Or.inl ⟨by unfold mp; rw [if_neg (by omega)], by omega, rfl⟩)) hM hF hW hS (lv_sub hl [2, 3, 0] rfl)
                  · refine lv_aload_n hx hb dX6_layGlasses_95 rfl (lv_at hl 1 rfl) ?_
                    refine g_get (ci := 6) (C := RX6) (T := TX6) (N := 28) (v := .int (J (J2 21))) hx hb hfX6 (fun _ h9 => h9) hown hk hW hM.1 rfl 21 (by decide) (hts (.fieldLink RX6 161 "JugsAndGlassesModel" "gone" "I") (by decide +kernel)) rfl rfl dX6_layGlasses_96 ?_
                    have h21a := h21 (by omega)
                    rw [h21a]
                    refine lv_goto (tgt := 103) hx hb dX6_layGlasses_99 (by decide) ?_
                    refine o_iast (A' := (va_up (va_up A 23 (uf cm ((8 * xs) + a) w)) 24 (uf tk ((8 * xs) + a) (mf (I 5) (A 6) xs a)))) (i := (8 * xs) + a) (x := mf (I 5) (A 6) xs a) hx hb hk hW hS hM hF 24 (by decide) rfl (FP.a 24 (by decide) ⟨by decide, by decide⟩) (by omega) (show (8 * xs) + a < 17576 from by omega) (show 17576 < 2147483648 from by omega) (by funext j9; by_cases q9 : j9 = 24 <;> simp [q9, va_up]) dX6_layGlasses_103 (fun h H locs hM hF hst hW hS => ?_)
                    refine lv_iinc (v := J (a + 1)) (lv' := [(2, .int (J (a + 1))), (3, .int (J 1)), (0, .ref o), (1, .int (J xs))]) hx hb dX6_layGlasses_104 hl (k := 3) rfl (J_inc (by omega)) (by decide) rfl (fun ls hl => ?_)
                    refine lv_goto (tgt := 11) hx hb dX6_layGlasses_107 (by decide) ?_
                    exact ih_11 (a + 1) (uf cm ((8 * xs) + a) w) (uf tk ((8 * xs) + a) (mf (I 5) (A 6) xs a)) J2 h H locs ls (by omega) (by omega) hx8 (fun k w1 w2 => (hJ2 k w1 w2).trans (hJ k w1 w2)) (CT_st hCT ha9.1 (by omega) (Or.inr (by have hm9 : mp (I 5) (A 6) xs a = mz (I 5) (A 6) xs a * 16 + mf (I 5) (A 6) xs a := (by unfold mp; rw [if_pos (by omega)]); rw [hm9]; omega))) hM hF hW hS (lv_sub hl [2, 3, 0] rfl)
        exact loop_11 9 0 cm tk J1 h H locs ls (by omega) (by omega) (by omega) hJ (by rw [Int.add_zero]; exact hCT) hM hF hW hS (lv_sub hl [1, 2, 0] rfl)
  exact loop_2 2198 0 (A 23) (A 24) I h0 s.heap [] ls (by omega) (by omega) (fun _ _ _ => rfl) (fun x b x0 x1 b0 b1 hz => absurd hz (by omega)) (by rw [va_up_id, va_up_id]; exact hM) hF hW hS (lv_sub hl [1, 0] rfl)

set_option maxHeartbeats 4000000 in
set_option maxRecDepth 100000 in
theorem m_waitOf (l : Launch) (g : GX) (base : Nat) (sa : Nat → Nat) (h0 : Hp) (o : Nat) (R : Nat → Nat) (I : Nat → Int) (A : Nat → Int → Int) (sn : Int) (hM : OB g 6 28 kd6 h0 o R I mL A) (hsk : Sok (I 5) (A 6)) (hAQ : AQ (mp (I 5) (A 6)) (A 25) 61 0 0) (hBT : BT (mp (I 5) (A 6)) (A 26) 41 0) (hs9 : 0 ≤ sn ∧ sn ≤ 40) : MC l g base sa yX6_waitOf wsX6_waitOf ({ frames := 0, cells := 0, slots := 0, locals := 0 }) ([.ref o, .int (J sn)]) h0 (fun r h' => ∃ w fw, r = some (.int (J w)) ∧ Fr (FP 28 kd6 o R) h0 h' ∧ OB g 6 28 kd6 h' o R (va_up I 27 fw) mL A ∧ WT (mp (I 5) (A 6)) 8 sn w (if w = -1 then -1 else fw)) := by
  refine Met.ofW (cc := cX6_waitOf) (maxL := 6) (ret := (some .int)) (by decide) rfl ?_
  intro p e s m args below meth c s₁ B hml hv
  obtain ⟨rfl, hk, hW⟩ := hv
  have hx := B.exec
  have hb := B.bytes
  have hr := B.returns
  have hts := atoms_spec (ws := wsX6_waitOf) B.pre
  have hown : s.vm.findClass RX6 = some m.cls := findClass_of_methodNamed B.named
  have hlocks := B.notSynchronized
  have hfX6 : ∀ w ∈ wsX60, w.before ([.ref o, .int (J sn)]).toArray s = true := fun w h => hts w (List.mem_cons_of_mem _ (List.mem_append_right _ h))
  have hS : va_S (Ab base) s.heap s.heap [] := va_S.rf
  have hl := lv_entry ([.ref o, .int (J sn)]) (n := 6) (Nat.le_of_ble_eq_true rfl)
  rw [lg_entry_eq]
  generalize (lg_sl ([.ref o, .int (J sn)]) ++ List.replicate (6 - (lg_sl ([.ref o, .int (J sn)])).length) Slot.unset).toArray = ls at hl ⊢
  have hl : lv_has ls 6 [(0, .ref o), (1, .int (J sn))] := hl
  have hF : Fr (FP 28 kd6 o R) h0 h0 := Fr.rf
  refine lv_iconst (v := J (0)) hx hb dX6_waitOf_0 rfl ?_
  refine lv_istore_n (lv' := [(2, .int (J 0)), (0, .ref o), (1, .int (J sn))]) hx hb dX6_waitOf_1 rfl hl (by decide) rfl (fun ls hl => ?_)
  have loop_2 : ∀ (n9 : Nat) (T : Int) (fw : Int) (h : Hp) (H : Heap) (locs : List Loc) (ls : Array Slot), 61 - T < (n9 : Int) → (0 ≤ T ∧ T ≤ 61) → (ANo (A 25) (A 26) sn T) → (OB g 6 28 kd6 h o R (va_up I 27 (fw)) mL A) → (Fr (FP 28 kd6 o R) h0 h) → (Wd g base h H) → (va_S (Ab base) s.heap H locs) → (lv_has ls 6 [(0, .ref o), (1, .int (J sn)), (2, .int (J T))]) → W p l e (headSpec wsX6_waitOf ({ frames := 0, cells := 0, slots := 0, locals := 0 })).room s m ([.ref o, .int (J sn)]).toArray below meth c H locs 0 0 (MQ below (QcM g base (fun r h' => ∃ w fw, r = some (.int (J w)) ∧ Fr (FP 28 kd6 o R) h0 h' ∧ OB g 6 28 kd6 h' o R (va_up I 27 fw) mL A ∧ WT (mp (I 5) (A 6)) 8 sn w (if w = -1 then -1 else fw))) ([.ref o, .int (J sn)]).toArray s (0) (0) (Ab base)) (F0 m 2 ls []) := by
    intro n9
    induction n9 with
    | zero =>
      intro T fw h H locs ls hmu hT9 hAN hM hF hW hS hl
      exact absurd hmu (by omega)
    | succ n9 ih =>
      intro T fw h H locs ls hmu hT9 hAN hM hF hW hS hl
      have ih_2 := ih
      refine lv_iload_n hx hb dX6_waitOf_2 rfl (lv_at hl 2 rfl) ?_
      refine lv_bipush (v := J (60)) hx hb dX6_waitOf_3 (by decide) ?_
      refine j_icmp_gt (x := T) (y := 60) (tgt := 109) hx hb ⟨by omega, by omega⟩ ⟨by decide, by decide⟩ dX6_waitOf_5 (by decide) (fun c_5 => ?_) (fun c_5 => ?_)
      · refine lv_iconst (v := J (-1)) hx hb dX6_waitOf_109 rfl ?_
        exact g_iret hx hb hr hW hS dX6_waitOf_110 hlocks (⟨-1, fw, rfl, hF, hM, by rw [if_pos rfl]; exact ANo_WT (mp_r hsk) hAQ hBT hs9.1 hs9.2 (by have e9 : T = 61 := (by omega); rw [e9] at hAN; exact hAN)⟩)
      · refine lv_aload_n hx hb dX6_waitOf_8 rfl (lv_at hl 0 rfl) ?_
        refine j_ldc (z := 1000000000) hx hb (by decide) hown (hts (.constant RX6 111 (1000000000)) (by decide +kernel)) dX6_waitOf_9 ?_
        refine o_put (I' := (va_up I 27 (1000000000))) (ci := 6) (C := RX6) (T := TX6) (N := 28) (ty := .int) hx hb hfX6 (fun _ h9 => h9) tyX6 tyX6_ok nmX6 hown hk hW hS hM hF FP.o rfl 27 (by decide) rfl (hts (.fieldLink RX6 173 "JugsAndGlassesModel" "fewestTurns" "I") (by decide +kernel)) rfl rfl (by decide +kernel) rfl rfl (bx_uu _ _ _ _) dX6_waitOf_11 (fun h H locs hM hF hst hW hS => ?_)
        refine lv_iconst (v := J (0)) hx hb dX6_waitOf_14 rfl ?_
        refine lv_istore_n (lv' := [(3, .int (J 0)), (0, .ref o), (1, .int (J sn)), (2, .int (J T))]) hx hb dX6_waitOf_15 rfl hl (by decide) rfl (fun ls hl => ?_)
        have loop_16 : ∀ (n9 : Nat) (X : Int) (fw : Int) (h : Hp) (H : Heap) (locs : List Loc) (ls : Array Slot), 2197 - X < (n9 : Int) → (0 ≤ X ∧ X ≤ 2197) → (WF (fun x => A 25 (2197 * T + x)) (fun x => A 26 (2197 * sn + x)) X fw) → (OB g 6 28 kd6 h o R (va_up I 27 (fw)) mL A) → (Fr (FP 28 kd6 o R) h0 h) → (Wd g base h H) → (va_S (Ab base) s.heap H locs) → (lv_has ls 6 [(0, .ref o), (1, .int (J sn)), (2, .int (J T)), (3, .int (J X))]) → W p l e (headSpec wsX6_waitOf ({ frames := 0, cells := 0, slots := 0, locals := 0 })).room s m ([.ref o, .int (J sn)]).toArray below meth c H locs 0 0 (MQ below (QcM g base (fun r h' => ∃ w fw, r = some (.int (J w)) ∧ Fr (FP 28 kd6 o R) h0 h' ∧ OB g 6 28 kd6 h' o R (va_up I 27 fw) mL A ∧ WT (mp (I 5) (A 6)) 8 sn w (if w = -1 then -1 else fw))) ([.ref o, .int (J sn)]).toArray s (0) (0) (Ab base)) (F0 m 16 ls []) := by
          intro n9
          induction n9 with
          | zero =>
            intro X fw h H locs ls hmu hX9 hWF hM hF hW hS hl
            exact absurd hmu (by omega)
          | succ n9 ih =>
            intro X fw h H locs ls hmu hX9 hWF hM hF hW hS hl
            have hfr := WF_r hWF
            have ih_16 := ih
            refine lv_iload_n hx hb dX6_waitOf_16 rfl (lv_at hl 3 rfl) ?_
            refine lv_sipush (v := J (2197)) hx hb dX6_waitOf_17 (by decide) ?_
            refine j_icmp_ge (x := X) (y := 2197) (tgt := 92) hx hb ⟨by omega, by omega⟩ ⟨by decide, by decide⟩ dX6_waitOf_20 (by decide) (fun c_20 => ?_) (fun c_20 => ?_)
            · refine lv_aload_n hx hb dX6_waitOf_92 rfl (lv_at hl 0 rfl) ?_
              refine g_get (ci := 6) (C := RX6) (T := TX6) (N := 28) (v := .int (J fw)) hx hb hfX6 (fun _ h9 => h9) hown hk hW hM.1 rfl 27 (by decide) (hts (.fieldLink RX6 173 "JugsAndGlassesModel" "fewestTurns" "I") (by decide +kernel)) rfl rfl dX6_waitOf_93 ?_
              refine j_ldc (z := 1000000000) hx hb (by decide) hown (hts (.constant RX6 111 (1000000000)) (by decide +kernel)) dX6_waitOf_96 ?_
              refine j_icmp_ge (x := fw) (y := 1000000000) (tgt := 103) hx hb ⟨by omega, by omega⟩ ⟨by decide, by decide⟩ dX6_waitOf_98 (by decide) (fun c_98 => ?_) (fun c_98 => ?_)
              · refine lv_iinc (v := J (T + 1)) (lv' := [(2, .int (J (T + 1))), (0, .ref o), (1, .int (J sn)), (3, .int (J X))]) hx hb dX6_waitOf_103 hl (k := 2) rfl (J_inc (by omega)) (by decide) rfl (fun ls hl => ?_)
                refine lv_goto (tgt := 2) hx hb dX6_waitOf_106 (by decide) ?_
                exact ih_2 (T + 1) fw h H locs ls (by omega) (by omega) (ANo_s hAN (by have e9 : X = 2197 := (by omega); have e8 : fw = 1000000000 := (by omega); rw [e9, e8] at hWF; exact hWF)) hM hF hW hS (lv_sub hl [1, 2, 0] rfl)
              · refine lv_iload_n hx hb dX6_waitOf_101 rfl (lv_at hl 2 rfl) ?_
                exact g_iret hx hb hr hW hS dX6_waitOf_102 hlocks (⟨T, fw, rfl, hF, hM, by rw [if_neg (by omega)]; exact WF_WT (mp_r hsk) hAQ hBT hs9.1 hs9.2 hT9.1 (by omega) hAN (by have e9 : X = 2197 := (by omega); rw [e9] at hWF; exact hWF) (by omega)⟩)
            · have har := AQ_r hAQ (t := T) (x := X) (by omega) (by omega) (by omega) (by omega)
              have hbr := BQ_r (hBT sn X hs9.1 hs9.2 hX9.1 (by omega) (Or.inl (by omega)))
              refine lv_aload_n hx hb dX6_waitOf_23 rfl (lv_at hl 0 rfl) ?_
              refine g_get (ci := 6) (C := RX6) (T := TX6) (N := 28) (v := .ref (R 25)) hx hb hfX6 (fun _ h9 => h9) hown hk hW hM.1 rfl 25 (by decide) (hts (.fieldLink RX6 60 "JugsAndGlassesModel" "ahead" "[I") (by decide +kernel)) rfl rfl dX6_waitOf_24 ?_
              refine lv_sipush (v := J (2197)) hx hb dX6_waitOf_27 (by decide) ?_
              refine lv_iload_n hx hb dX6_waitOf_30 rfl (lv_at hl 2 rfl) ?_
              refine j_imul hx hb dX6_waitOf_31 ?_
              refine lv_iload_n hx hb dX6_waitOf_32 rfl (lv_at hl 3 rfl) ?_
              refine j_iadd hx hb dX6_waitOf_33 ?_
              refine g_iald (n := 134017) (f := A 25) (i := (2197 * T) + X) hx hb hk hW (hM.ai 25 (by decide) rfl) (by omega) (by omega) (by omega) dX6_waitOf_34 ?_
              refine lv_istore (lv' := [(4, .int (J (A 25 ((2197 * T) + X)))), (0, .ref o), (1, .int (J sn)), (2, .int (J T)), (3, .int (J X))]) hx hb dX6_waitOf_35 hl (by decide) rfl (fun ls hl => ?_)
              refine lv_aload_n hx hb dX6_waitOf_37 rfl (lv_at hl 1 rfl) ?_
              refine g_get (ci := 6) (C := RX6) (T := TX6) (N := 28) (v := .ref (R 26)) hx hb hfX6 (fun _ h9 => h9) hown hk hW hM.1 rfl 26 (by decide) (hts (.fieldLink RX6 64 "JugsAndGlassesModel" "behind" "[I") (by decide +kernel)) rfl rfl dX6_waitOf_38 ?_
              refine lv_sipush (v := J (2197)) hx hb dX6_waitOf_41 (by decide) ?_
              refine lv_iload_n hx hb dX6_waitOf_44 rfl (lv_at hl 2 rfl) ?_
              refine j_imul hx hb dX6_waitOf_45 ?_
              refine lv_iload_n hx hb dX6_waitOf_46 rfl (lv_at hl 4 rfl) ?_
              refine j_iadd hx hb dX6_waitOf_47 ?_
              refine g_iald (n := 90077) (f := A 26) (i := (2197 * sn) + X) hx hb hk hW (hM.ai 26 (by decide) rfl) (by omega) (by omega) (by omega) dX6_waitOf_48 ?_
              refine lv_istore (lv' := [(5, .int (J (A 26 ((2197 * sn) + X)))), (4, .int (J (A 25 ((2197 * T) + X)))), (0, .ref o), (1, .int (J sn)), (2, .int (J T)), (3, .int (J X))]) hx hb dX6_waitOf_49 hl (by decide) rfl (fun ls hl => ?_)
              refine lv_iload hx hb dX6_waitOf_51 (lv_at hl 1 rfl) ?_
              refine j_ldc (z := 1000000000) hx hb (by decide) hown (hts (.constant RX6 111 (1000000000)) (by decide +kernel)) dX6_waitOf_53 ?_
              refine j_icmp_ge (x := A 25 ((2197 * T) + X)) (y := 1000000000) (tgt := 86) hx hb ⟨by omega, by omega⟩ ⟨by decide, by decide⟩ dX6_waitOf_55 (by decide) (fun c_55 => ?_) (fun c_55 => ?_)
              · refine lv_iinc (v := J (X + 1)) (lv' := [(3, .int (J (X + 1))), (5, .int (J (A 26 ((2197 * sn) + X)))), (4, .int (J (A 25 ((2197 * T) + X)))), (0, .ref o), (1, .int (J sn)), (2, .int (J T))]) hx hb dX6_waitOf_86 hl (k := 5) rfl (J_inc (by omega)) (by decide) rfl (fun ls hl => ?_)
                refine lv_goto (tgt := 16) hx hb dX6_waitOf_89 (by decide) ?_
                exact ih_16 (X + 1) fw h H locs ls (by omega) (by omega) (WF_no hWF (fun w1 w2 => by have w1 : A 25 (2197 * T + X) ≠ 1000000000 := w1; have w2 : A 26 (2197 * sn + X) ≠ 1000000000 := w2; show fw ≤ A 25 (2197 * T + X) + A 26 (2197 * sn + X); omega) (fun w1 w2 => by have w1 : A 25 (2197 * T + X) ≠ 1000000000 := w1; have w2 : A 26 (2197 * sn + X) ≠ 1000000000 := w2; omega)) hM hF hW hS (lv_sub hl [3, 4, 5, 0] rfl)
              · refine lv_iload hx hb dX6_waitOf_58 (lv_at hl 0 rfl) ?_
                refine j_ldc (z := 1000000000) hx hb (by decide) hown (hts (.constant RX6 111 (1000000000)) (by decide +kernel)) dX6_waitOf_60 ?_
                refine j_icmp_ge (x := A 26 ((2197 * sn) + X)) (y := 1000000000) (tgt := 86) hx hb ⟨by omega, by omega⟩ ⟨by decide, by decide⟩ dX6_waitOf_62 (by decide) (fun c_62 => ?_) (fun c_62 => ?_)
                · refine lv_iinc (v := J (X + 1)) (lv' := [(3, .int (J (X + 1))), (5, .int (J (A 26 ((2197 * sn) + X)))), (4, .int (J (A 25 ((2197 * T) + X)))), (0, .ref o), (1, .int (J sn)), (2, .int (J T))]) hx hb dX6_waitOf_86 hl (k := 5) rfl (J_inc (by omega)) (by decide) rfl (fun ls hl => ?_)
                  refine lv_goto (tgt := 16) hx hb dX6_waitOf_89 (by decide) ?_
                  exact ih_16 (X + 1) fw h H locs ls (by omega) (by omega) (WF_no hWF (fun w1 w2 => by have w1 : A 25 (2197 * T + X) ≠ 1000000000 := w1; have w2 : A 26 (2197 * sn + X) ≠ 1000000000 := w2; show fw ≤ A 25 (2197 * T + X) + A 26 (2197 * sn + X); omega) (fun w1 w2 => by have w1 : A 25 (2197 * T + X) ≠ 1000000000 := w1; have w2 : A 26 (2197 * sn + X) ≠ 1000000000 := w2; omega)) hM hF hW hS (lv_sub hl [3, 4, 5, 0] rfl)
                · refine lv_iload hx hb dX6_waitOf_65 (lv_at hl 1 rfl) ?_
                  refine lv_iload hx hb dX6_waitOf_67 (lv_at hl 0 rfl) ?_
                  refine j_iadd hx hb dX6_waitOf_69 ?_
                  refine lv_aload_n hx hb dX6_waitOf_70 rfl (lv_at hl 2 rfl) ?_
                  refine g_get (ci := 6) (C := RX6) (T := TX6) (N := 28) (v := .int (J fw)) hx hb hfX6 (fun _ h9 => h9) hown hk hW hM.1 rfl 27 (by decide) (hts (.fieldLink RX6 173 "JugsAndGlassesModel" "fewestTurns" "I") (by decide +kernel)) rfl rfl dX6_waitOf_71 ?_
                  refine j_icmp_ge (x := (A 25 ((2197 * T) + X)) + (A 26 ((2197 * sn) + X))) (y := fw) (tgt := 86) hx hb ⟨by omega, by omega⟩ ⟨by omega, by omega⟩ dX6_waitOf_74 (by decide) (fun c_74 => ?_) (fun c_74 => ?_)
                  · refine lv_iinc (v := J (X + 1)) (lv' := [(3, .int (J (X + 1))), (5, .int (J (A 26 ((2197 * sn) + X)))), (4, .int (J (A 25 ((2197 * T) + X)))), (0, .ref o), (1, .int (J sn)), (2, .int (J T))]) hx hb dX6_waitOf_86 hl (k := 5) rfl (J_inc (by omega)) (by decide) rfl (fun ls hl => ?_)
                    refine lv_goto (tgt := 16) hx hb dX6_waitOf_89 (by decide) ?_
                    exact ih_16 (X + 1) fw h H locs ls (by omega) (by omega) (WF_no hWF (fun w1 w2 => by have w1 : A 25 (2197 * T + X) ≠ 1000000000 := w1; have w2 : A 26 (2197 * sn + X) ≠ 1000000000 := w2; show fw ≤ A 25 (2197 * T + X) + A 26 (2197 * sn + X); omega) (fun w1 w2 => by have w1 : A 25 (2197 * T + X) ≠ 1000000000 := w1; have w2 : A 26 (2197 * sn + X) ≠ 1000000000 := w2; omega)) hM hF hW hS (lv_sub hl [3, 4, 5, 0] rfl)
                  · refine lv_aload_n hx hb dX6_waitOf_77 rfl (lv_at hl 2 rfl) ?_
                    refine lv_iload hx hb dX6_waitOf_78 (lv_at hl 1 rfl) ?_
                    refine lv_iload hx hb dX6_waitOf_80 (lv_at hl 0 rfl) ?_
                    refine j_iadd hx hb dX6_waitOf_82 ?_
                    refine o_put (I' := (va_up I 27 ((A 25 ((2197 * T) + X)) + (A 26 ((2197 * sn) + X))))) (ci := 6) (C := RX6) (T := TX6) (N := 28) (ty := .int) hx hb hfX6 (fun _ h9 => h9) tyX6 tyX6_ok nmX6 hown hk hW hS hM hF FP.o rfl 27 (by decide) rfl (hts (.fieldLink RX6 173 "JugsAndGlassesModel" "fewestTurns" "I") (by decide +kernel)) rfl rfl (by decide +kernel) rfl rfl (bx_uu _ _ _ _) dX6_waitOf_83 (fun h H locs hM hF hst hW hS => ?_)
                    refine lv_iinc (v := J (X + 1)) (lv' := [(3, .int (J (X + 1))), (5, .int (J (A 26 ((2197 * sn) + X)))), (4, .int (J (A 25 ((2197 * T) + X)))), (0, .ref o), (1, .int (J sn)), (2, .int (J T))]) hx hb dX6_waitOf_86 hl (k := 5) rfl (J_inc (by omega)) (by decide) rfl (fun ls hl => ?_)
                    refine lv_goto (tgt := 16) hx hb dX6_waitOf_89 (by decide) ?_
                    exact ih_16 (X + 1) ((A 25 ((2197 * T) + X)) + (A 26 ((2197 * sn) + X))) h H locs ls (by omega) (by omega) (WF_yes hWF hX9.1 (show A 25 (2197 * T + X) ≠ 1000000000 by omega) (show A 26 (2197 * sn + X) ≠ 1000000000 by omega) (show 0 ≤ A 25 (2197 * T + X) + A 26 (2197 * sn + X) ∧ A 25 (2197 * T + X) + A 26 (2197 * sn + X) ≤ 1000 by omega) (show A 25 (2197 * T + X) + A 26 (2197 * sn + X) < fw by omega)) hM hF hW hS (lv_sub hl [3, 4, 5, 0] rfl)
        exact loop_16 2198 0 1000000000 h H locs ls (by omega) (by omega) (WF_0 _ _) hM hF hW hS (lv_sub hl [1, 2, 3, 0] rfl)
  exact loop_2 62 0 (I 27) h0 s.heap [] ls (by omega) (by omega) (fun t x t0 t1 => absurd t1 (by omega)) (by rw [va_up_id]; exact hM) hF hW hS (lv_sub hl [1, 2, 0] rfl)

set_option maxHeartbeats 4000000 in
set_option maxRecDepth 100000 in
theorem m_await (l : Launch) (g : GX) (base : Nat) (sa : Nat → Nat) (h0 : Hp) (o : Nat) (R : Nat → Nat) (I : Nat → Int) (A : Nat → Int → Int) (a : Int) (hM : OB g 6 28 kd6 h0 o R I mL A) (ha : i32 a) (hsk : Sok (I 5) (A 6)) : MC l g base sa yX6_await wsX6_await ({ frames := 2, cells := 0, slots := 0, locals := 55 }) ([.ref o, .int (J a)]) h0 (fun r h' => Fr (FP 28 kd6 o R) h0 h' ∧ ((¬ (1 ≤ a ∧ a ≤ 40) ∧ r = some (.int (J (-2))) ∧ OB g 6 28 kd6 h' o R I mL A) ∨ ((1 ≤ a ∧ a ≤ 40) ∧ ∃ I' A' w t, OB g 6 28 kd6 h' o R I' mL A' ∧ RS I I' A A' ∧ WT (mp (I 5) (A 6)) 8 a w t ∧ r = some (.int (J (w)))))) := by
  refine Met.ofW (cc := cX6_await) (maxL := 2) (ret := (some .int)) (by decide) rfl ?_
  intro p e s m args below meth c s₁ B hml hv
  obtain ⟨rfl, hk, hW⟩ := hv
  have hx := B.exec
  have hb := B.bytes
  have hr := B.returns
  have hts := atoms_spec (ws := wsX6_await) B.pre
  have hown : s.vm.findClass RX6 = some m.cls := findClass_of_methodNamed B.named
  have hlocks := B.notSynchronized
  have hfX6 : ∀ w ∈ wsX60, w.before ([.ref o, .int (J a)]).toArray s = true := fun w h => hts w (List.mem_cons_of_mem _ (List.mem_append_right _ h))
  have hS : va_S (Ab base) s.heap s.heap [] := va_S.rf
  have hl := lv_entry ([.ref o, .int (J a)]) (n := 2) (Nat.le_of_ble_eq_true rfl)
  rw [lg_entry_eq]
  generalize (lg_sl ([.ref o, .int (J a)]) ++ List.replicate (2 - (lg_sl ([.ref o, .int (J a)])).length) Slot.unset).toArray = ls at hl ⊢
  have hl : lv_has ls 2 [(0, .ref o), (1, .int (J a))] := hl
  have hF : Fr (FP 28 kd6 o R) h0 h0 := Fr.rf
  refine lv_iload_n hx hb dX6_await_0 rfl (lv_at hl 1 rfl) ?_
  refine lv_iconst (v := J (1)) hx hb dX6_await_1 rfl ?_
  refine lv_bipush (v := J (40)) hx hb dX6_await_2 (by decide) ?_
  refine g_callS (As := [.int (J a), .int (J 1), .int (J 40)]) (rest := []) ⟨hx, hb, hml, hown, hts⟩ (m_in l g base sa h0 a 1 40 ha ⟨by decide, by decide⟩ ⟨by decide, by decide⟩) (va_cwS 3 hts gX6_await_X6_in rfl rfl rfl (by decide +kernel) ⟨Nat.le_of_ble_eq_true rfl, Nat.le_of_ble_eq_true rfl⟩) hk hW hS rfl hl.1 (Nat.le_of_ble_eq_true rfl) dX6_await_4 ⟨Nat.le_of_ble_eq_true rfl, Nat.le_of_ble_eq_true rfl⟩ (fun r9 h9 H locs hp hW hS => ?_)
  obtain ⟨rfl, e9⟩ := hp
  rw [e9] at hW
  refine W.eq (g2 := F0 m 7 ls [.int (J (p_in a 1 40))]) rfl ?_
  have hpr_7 := p_in_r a 1 40
  refine j_if_ne (x := p_in a 1 40) (tgt := 13) hx hb ⟨by omega, by omega⟩ dX6_await_7 (by decide) (fun c_7 => ?_) (fun c_7 => ?_)
  · have hq1 := p_in_1 c_7
    refine lv_aload_n hx hb dX6_await_13 rfl (lv_at hl 0 rfl) ?_
    refine g_callV (As := []) (rest := []) (b := o) (ci := 6) (C := RX6) (T := TX6) (N := 28) ⟨hx, hb, hml, hown, hts⟩ (m_layGlasses l g base sa h0 o R I A hM hsk) (cwV 0 hts gX6_await_X6_layGlasses rfl rfl rfl (by decide +kernel) ⟨Nat.le_of_ble_eq_true rfl, Nat.le_of_ble_eq_true rfl⟩) hk hW hS hM.1 rfl rfl hl.1 (Nat.le_of_ble_eq_true rfl) dX6_await_14 ⟨Nat.le_of_ble_eq_true rfl, Nat.le_of_ble_eq_true rfl⟩ (fun r9 h9 H locs hp hW hS => ?_)
    obtain ⟨rfl, hF9, J1, cm, tk, ah, be, hM, hJ, hAQ, hBT⟩ := hp
    refine W.eq (g2 := F0 m 17 ls []) rfl ?_
    have hF := hF.tr hF9 (fun q w _ => w)
    generalize h9 = h at hM hF hW
    have j5 : J1 5 = I 5 := hJ 5 (by decide) (by decide)
    obtain ⟨A2, eA⟩ : ∃ A2, A2 = va_up (va_up (va_up (va_up A 23 cm) 24 tk) 25 ah) 26 be := ⟨_, rfl⟩
    have hsk2 : Sok (J1 5) (A2 6) := by rw [j5, eA]; exact hsk
    have hAQ : AQ (mp (J1 5) (A2 6)) (A2 25) 61 0 0 := by rw [j5, eA]; exact hAQ
    have hBT : BT (mp (J1 5) (A2 6)) (A2 26) 41 0 := by rw [j5, eA]; exact hBT
    have hRS : RS I J1 A A2 := by rw [eA]; exact ⟨hJ 0 (by decide) (by decide), hJ 3 (by decide) (by decide), hJ 4 (by decide) (by decide), j5, rfl, rfl, rfl⟩
    rw [← eA] at hM
    clear eA
    refine lv_aload_n hx hb dX6_await_17 rfl (lv_at hl 0 rfl) ?_
    refine lv_iload_n hx hb dX6_await_18 rfl (lv_at hl 1 rfl) ?_
    refine g_callV (As := [.int (J a)]) (rest := []) (b := o) (ci := 6) (C := RX6) (T := TX6) (N := 28) ⟨hx, hb, hml, hown, hts⟩ (m_waitOf l g base sa h o R J1 A2 a hM hsk2 hAQ hBT ⟨by omega, by omega⟩) (cwV 1 hts gX6_await_X6_waitOf rfl rfl rfl (by decide +kernel) ⟨Nat.le_of_ble_eq_true rfl, Nat.le_of_ble_eq_true rfl⟩) hk hW hS hM.1 rfl rfl hl.1 (Nat.le_of_ble_eq_true rfl) dX6_await_19 ⟨Nat.le_of_ble_eq_true rfl, Nat.le_of_ble_eq_true rfl⟩ (fun r9 h9 H locs hp hW hS => ?_)
    have hp : ∃ w fw, r9 = some (.int (J w)) ∧ Fr (FP 28 kd6 o R) h h9 ∧ OB g 6 28 kd6 h9 o R (va_up J1 27 fw) mL A2 ∧ WT (mp (J1 5) (A2 6)) 8 a w (if w = -1 then -1 else fw) := hp
    obtain ⟨w, fw, rfl, hF9, hM, hWT⟩ := hp
    refine W.eq (g2 := F0 m 22 ls [.int (J w)]) rfl ?_
    have hF := hF.tr hF9 (fun q w _ => w)
    generalize h9 = h at hM hF hW
    exact g_iret hx hb hr hW hS dX6_await_22 hlocks (⟨hF, Or.inr ⟨hq1, _, _, w, _, hM, (by obtain ⟨b1, b2, b3, b4, b5, b6, b7⟩ := hRS; exact ⟨b1, b2, b3, b4, b5, b6, b7⟩), (by have e1 := hRS.2.2.2.1; have e2 := hRS.2.2.2.2.2.2; rw [e1, e2] at hWT; exact hWT), rfl⟩⟩)
  · refine lv_bipush (v := J (-2)) hx hb dX6_await_10 (by decide) ?_
    exact g_iret hx hb hr hW hS dX6_await_12 hlocks (⟨hF, Or.inl ⟨by have := p_in_0 c_7; omega, rfl, hM⟩⟩)

set_option maxHeartbeats 4000000 in
set_option maxRecDepth 100000 in
theorem m_turns (l : Launch) (g : GX) (base : Nat) (sa : Nat → Nat) (h0 : Hp) (o : Nat) (R : Nat → Nat) (I : Nat → Int) (A : Nat → Int → Int) (a : Int) (hM : OB g 6 28 kd6 h0 o R I mL A) (ha : i32 a) (hsk : Sok (I 5) (A 6)) : MC l g base sa yX6_turns wsX6_turns ({ frames := 2, cells := 0, slots := 0, locals := 55 }) ([.ref o, .int (J a)]) h0 (fun r h' => Fr (FP 28 kd6 o R) h0 h' ∧ ((¬ (1 ≤ a ∧ a ≤ 40) ∧ r = some (.int (J (-2))) ∧ OB g 6 28 kd6 h' o R I mL A) ∨ ((1 ≤ a ∧ a ≤ 40) ∧ ∃ I' A' w t, OB g 6 28 kd6 h' o R I' mL A' ∧ RS I I' A A' ∧ WT (mp (I 5) (A 6)) 8 a w t ∧ r = some (.int (J (t)))))) := by
  refine Met.ofW (cc := cX6_turns) (maxL := 2) (ret := (some .int)) (by decide) rfl ?_
  intro p e s m args below meth c s₁ B hml hv
  obtain ⟨rfl, hk, hW⟩ := hv
  have hx := B.exec
  have hb := B.bytes
  have hr := B.returns
  have hts := atoms_spec (ws := wsX6_turns) B.pre
  have hown : s.vm.findClass RX6 = some m.cls := findClass_of_methodNamed B.named
  have hlocks := B.notSynchronized
  have hfX6 : ∀ w ∈ wsX60, w.before ([.ref o, .int (J a)]).toArray s = true := fun w h => hts w (List.mem_cons_of_mem _ (List.mem_append_right _ h))
  have hS : va_S (Ab base) s.heap s.heap [] := va_S.rf
  have hl := lv_entry ([.ref o, .int (J a)]) (n := 2) (Nat.le_of_ble_eq_true rfl)
  rw [lg_entry_eq]
  generalize (lg_sl ([.ref o, .int (J a)]) ++ List.replicate (2 - (lg_sl ([.ref o, .int (J a)])).length) Slot.unset).toArray = ls at hl ⊢
  have hl : lv_has ls 2 [(0, .ref o), (1, .int (J a))] := hl
  have hF : Fr (FP 28 kd6 o R) h0 h0 := Fr.rf
  refine lv_iload_n hx hb dX6_turns_0 rfl (lv_at hl 1 rfl) ?_
  refine lv_iconst (v := J (1)) hx hb dX6_turns_1 rfl ?_
  refine lv_bipush (v := J (40)) hx hb dX6_turns_2 (by decide) ?_
  refine g_callS (As := [.int (J a), .int (J 1), .int (J 40)]) (rest := []) ⟨hx, hb, hml, hown, hts⟩ (m_in l g base sa h0 a 1 40 ha ⟨by decide, by decide⟩ ⟨by decide, by decide⟩) (va_cwS 3 hts gX6_turns_X6_in rfl rfl rfl (by decide +kernel) ⟨Nat.le_of_ble_eq_true rfl, Nat.le_of_ble_eq_true rfl⟩) hk hW hS rfl hl.1 (Nat.le_of_ble_eq_true rfl) dX6_turns_4 ⟨Nat.le_of_ble_eq_true rfl, Nat.le_of_ble_eq_true rfl⟩ (fun r9 h9 H locs hp hW hS => ?_)
  obtain ⟨rfl, e9⟩ := hp
  rw [e9] at hW
  refine W.eq (g2 := F0 m 7 ls [.int (J (p_in a 1 40))]) rfl ?_
  have hpr_7 := p_in_r a 1 40
  refine j_if_ne (x := p_in a 1 40) (tgt := 13) hx hb ⟨by omega, by omega⟩ dX6_turns_7 (by decide) (fun c_7 => ?_) (fun c_7 => ?_)
  · have hq1 := p_in_1 c_7
    refine lv_aload_n hx hb dX6_turns_13 rfl (lv_at hl 0 rfl) ?_
    refine g_callV (As := []) (rest := []) (b := o) (ci := 6) (C := RX6) (T := TX6) (N := 28) ⟨hx, hb, hml, hown, hts⟩ (m_layGlasses l g base sa h0 o R I A hM hsk) (cwV 0 hts gX6_turns_X6_layGlasses rfl rfl rfl (by decide +kernel) ⟨Nat.le_of_ble_eq_true rfl, Nat.le_of_ble_eq_true rfl⟩) hk hW hS hM.1 rfl rfl hl.1 (Nat.le_of_ble_eq_true rfl) dX6_turns_14 ⟨Nat.le_of_ble_eq_true rfl, Nat.le_of_ble_eq_true rfl⟩ (fun r9 h9 H locs hp hW hS => ?_)
    obtain ⟨rfl, hF9, J1, cm, tk, ah, be, hM, hJ, hAQ, hBT⟩ := hp
    refine W.eq (g2 := F0 m 17 ls []) rfl ?_
    have hF := hF.tr hF9 (fun q w _ => w)
    generalize h9 = h at hM hF hW
    have j5 : J1 5 = I 5 := hJ 5 (by decide) (by decide)
    obtain ⟨A2, eA⟩ : ∃ A2, A2 = va_up (va_up (va_up (va_up A 23 cm) 24 tk) 25 ah) 26 be := ⟨_, rfl⟩
    have hsk2 : Sok (J1 5) (A2 6) := by rw [j5, eA]; exact hsk
    have hAQ : AQ (mp (J1 5) (A2 6)) (A2 25) 61 0 0 := by rw [j5, eA]; exact hAQ
    have hBT : BT (mp (J1 5) (A2 6)) (A2 26) 41 0 := by rw [j5, eA]; exact hBT
    have hRS : RS I J1 A A2 := by rw [eA]; exact ⟨hJ 0 (by decide) (by decide), hJ 3 (by decide) (by decide), hJ 4 (by decide) (by decide), j5, rfl, rfl, rfl⟩
    rw [← eA] at hM
    clear eA
    refine lv_aload_n hx hb dX6_turns_17 rfl (lv_at hl 0 rfl) ?_
    refine lv_iload_n hx hb dX6_turns_18 rfl (lv_at hl 1 rfl) ?_
    refine g_callV (As := [.int (J a)]) (rest := []) (b := o) (ci := 6) (C := RX6) (T := TX6) (N := 28) ⟨hx, hb, hml, hown, hts⟩ (m_waitOf l g base sa h o R J1 A2 a hM hsk2 hAQ hBT ⟨by omega, by omega⟩) (cwV 1 hts gX6_turns_X6_waitOf rfl rfl rfl (by decide +kernel) ⟨Nat.le_of_ble_eq_true rfl, Nat.le_of_ble_eq_true rfl⟩) hk hW hS hM.1 rfl rfl hl.1 (Nat.le_of_ble_eq_true rfl) dX6_turns_19 ⟨Nat.le_of_ble_eq_true rfl, Nat.le_of_ble_eq_true rfl⟩ (fun r9 h9 H locs hp hW hS => ?_)
    have hp : ∃ w fw, r9 = some (.int (J w)) ∧ Fr (FP 28 kd6 o R) h h9 ∧ OB g 6 28 kd6 h9 o R (va_up J1 27 fw) mL A2 ∧ WT (mp (J1 5) (A2 6)) 8 a w (if w = -1 then -1 else fw) := hp
    obtain ⟨w, fw, rfl, hF9, hM, hWT⟩ := hp
    refine W.eq (g2 := F0 m 22 ls [.int (J w)]) rfl ?_
    have hF := hF.tr hF9 (fun q w _ => w)
    generalize h9 = h at hM hF hW
    have hwr : -1 ≤ w ∧ w ≤ 60 := by
      rcases hWT with v9 | v9
      · omega
      · exact ⟨by omega, by omega⟩
    refine lv_iconst (v := J (-1)) hx hb dX6_turns_22 rfl ?_
    refine j_icmp_ne (x := w) (y := (-1)) (tgt := 30) hx hb ⟨by omega, by omega⟩ ⟨by omega, by omega⟩ dX6_turns_23 (by decide) (fun c_23 => ?_) (fun c_23 => ?_)
    · refine lv_aload_n hx hb dX6_turns_30 rfl (lv_at hl 0 rfl) ?_
      refine g_get (ci := 6) (C := RX6) (T := TX6) (N := 28) (v := .int (J fw)) hx hb hfX6 (fun _ h9 => h9) hown hk hW hM.1 rfl 27 (by decide) (hts (.fieldLink RX6 173 "JugsAndGlassesModel" "fewestTurns" "I") (by decide +kernel)) rfl rfl dX6_turns_31 ?_
      exact g_iret hx hb hr hW hS dX6_turns_34 hlocks (⟨hF, Or.inr ⟨hq1, _, _, w, fw, hM, (by obtain ⟨b1, b2, b3, b4, b5, b6, b7⟩ := hRS; exact ⟨b1, b2, b3, b4, b5, b6, b7⟩), (by have e1 := hRS.2.2.2.1; have e2 := hRS.2.2.2.2.2.2; rw [e1, e2] at hWT; first | (rw [if_pos (by omega)] at hWT; exact hWT) | (rw [if_neg (by omega)] at hWT; exact hWT)), rfl⟩⟩)
    · refine lv_iconst (v := J (-1)) hx hb dX6_turns_26 rfl ?_
      refine lv_goto (tgt := 34) hx hb dX6_turns_27 (by decide) ?_
      exact g_iret hx hb hr hW hS dX6_turns_34 hlocks (⟨hF, Or.inr ⟨hq1, _, _, w, (-1), hM, (by obtain ⟨b1, b2, b3, b4, b5, b6, b7⟩ := hRS; exact ⟨b1, b2, b3, b4, b5, b6, b7⟩), (by have e1 := hRS.2.2.2.1; have e2 := hRS.2.2.2.2.2.2; rw [e1, e2] at hWT; first | (rw [if_pos (by omega)] at hWT; exact hWT) | (rw [if_neg (by omega)] at hWT; exact hWT)), rfl⟩⟩)
  · refine lv_bipush (v := J (-2)) hx hb dX6_turns_10 (by decide) ?_
    exact g_iret hx hb hr hW hS dX6_turns_12 hlocks (⟨hF, Or.inl ⟨by have := p_in_0 c_7; omega, rfl, hM⟩⟩)

set_option maxHeartbeats 4000000 in
set_option maxRecDepth 100000 in
theorem m_spans (l : Launch) (g : GX) (base : Nat) (sa : Nat → Nat) (h0 : Hp) (o : Nat) (R : Nat → Nat) (I : Nat → Int) (A : Nat → Int → Int) (a : Int) (hM : OB g 6 28 kd6 h0 o R I mL A) (ha : i32 a) (hsk : Sok (I 5) (A 6)) : MC l g base sa yX6_spans wsX6_spans ({ frames := 2, cells := 0, slots := 0, locals := 55 }) ([.ref o, .int (J a)]) h0 (fun r h' => Fr (FP 28 kd6 o R) h0 h' ∧ ((¬ (0 ≤ a ∧ a ≤ 60) ∧ r = some (.long (JL (-2))) ∧ OB g 6 28 kd6 h' o R I mL A) ∨ ((0 ≤ a ∧ a ≤ 60) ∧ ∃ I' A' f, OB g 6 28 kd6 h' o R I' mL A' ∧ RS I I' A A' ∧ (∀ j, 1 ≤ j → j ≤ 40 → ∃ t, WT (mp (I 5) (A 6)) 8 j (f j) t) ∧ r = some (.long (JL (sB f a 40)))))) := by
  refine Met.ofW (cc := cX6_spans) (maxL := 6) (ret := (some .long)) (by decide) rfl ?_
  intro p e s m args below meth c s₁ B hml hv
  obtain ⟨rfl, hk, hW⟩ := hv
  have hx := B.exec
  have hb := B.bytes
  have hr := B.returns
  have hts := atoms_spec (ws := wsX6_spans) B.pre
  have hown : s.vm.findClass RX6 = some m.cls := findClass_of_methodNamed B.named
  have hlocks := B.notSynchronized
  have hfX6 : ∀ w ∈ wsX60, w.before ([.ref o, .int (J a)]).toArray s = true := fun w h => hts w (List.mem_cons_of_mem _ (List.mem_append_right _ h))
  have hS : va_S (Ab base) s.heap s.heap [] := va_S.rf
  have hl := lv_entry ([.ref o, .int (J a)]) (n := 6) (Nat.le_of_ble_eq_true rfl)
  rw [lg_entry_eq]
  generalize (lg_sl ([.ref o, .int (J a)]) ++ List.replicate (6 - (lg_sl ([.ref o, .int (J a)])).length) Slot.unset).toArray = ls at hl ⊢
  have hl : lv_has ls 6 [(0, .ref o), (1, .int (J a))] := hl
  have hF : Fr (FP 28 kd6 o R) h0 h0 := Fr.rf
  refine lv_iload_n hx hb dX6_spans_0 rfl (lv_at hl 1 rfl) ?_
  refine lv_iconst (v := J (0)) hx hb dX6_spans_1 rfl ?_
  refine lv_bipush (v := J (60)) hx hb dX6_spans_2 (by decide) ?_
  refine g_callS (As := [.int (J a), .int (J 0), .int (J 60)]) (rest := []) ⟨hx, hb, hml, hown, hts⟩ (m_in l g base sa h0 a 0 60 ha ⟨by decide, by decide⟩ ⟨by decide, by decide⟩) (va_cwS 3 hts gX6_spans_X6_in rfl rfl rfl (by decide +kernel) ⟨Nat.le_of_ble_eq_true rfl, Nat.le_of_ble_eq_true rfl⟩) hk hW hS rfl hl.1 (Nat.le_of_ble_eq_true rfl) dX6_spans_4 ⟨Nat.le_of_ble_eq_true rfl, Nat.le_of_ble_eq_true rfl⟩ (fun r9 h9 H locs hp hW hS => ?_)
  obtain ⟨rfl, e9⟩ := hp
  rw [e9] at hW
  refine W.eq (g2 := F0 m 7 ls [.int (J (p_in a 0 60))]) rfl ?_
  have hpr_7 := p_in_r a 0 60
  refine j_if_ne (x := p_in a 0 60) (tgt := 14) hx hb ⟨by omega, by omega⟩ dX6_spans_7 (by decide) (fun c_7 => ?_) (fun c_7 => ?_)
  · have hq1 := p_in_1 c_7
    refine lv_aload_n hx hb dX6_spans_14 rfl (lv_at hl 0 rfl) ?_
    refine g_callV (As := []) (rest := []) (b := o) (ci := 6) (C := RX6) (T := TX6) (N := 28) ⟨hx, hb, hml, hown, hts⟩ (m_layGlasses l g base sa h0 o R I A hM hsk) (cwV 0 hts gX6_spans_X6_layGlasses rfl rfl rfl (by decide +kernel) ⟨Nat.le_of_ble_eq_true rfl, Nat.le_of_ble_eq_true rfl⟩) hk hW hS hM.1 rfl rfl hl.1 (Nat.le_of_ble_eq_true rfl) dX6_spans_15 ⟨Nat.le_of_ble_eq_true rfl, Nat.le_of_ble_eq_true rfl⟩ (fun r9 h9 H locs hp hW hS => ?_)
    obtain ⟨rfl, hF9, J1, cm, tk, ah, be, hM, hJ, hAQ, hBT⟩ := hp
    refine W.eq (g2 := F0 m 18 ls []) rfl ?_
    have hF := hF.tr hF9 (fun q w _ => w)
    generalize h9 = h at hM hF hW
    have j5 : J1 5 = I 5 := hJ 5 (by decide) (by decide)
    obtain ⟨A2, eA⟩ : ∃ A2, A2 = va_up (va_up (va_up (va_up A 23 cm) 24 tk) 25 ah) 26 be := ⟨_, rfl⟩
    have hsk2 : Sok (J1 5) (A2 6) := by rw [j5, eA]; exact hsk
    have hAQ : AQ (mp (J1 5) (A2 6)) (A2 25) 61 0 0 := by rw [j5, eA]; exact hAQ
    have hBT : BT (mp (J1 5) (A2 6)) (A2 26) 41 0 := by rw [j5, eA]; exact hBT
    have hRS : RS I J1 A A2 := by rw [eA]; exact ⟨hJ 0 (by decide) (by decide), hJ 3 (by decide) (by decide), hJ 4 (by decide) (by decide), j5, rfl, rfl, rfl⟩
    rw [← eA] at hM
    clear eA
    refine lv_lconst (v := JL (0)) hx hb dX6_spans_18 (by decide) ?_
    refine lv_lstore_n (lv' := [(2, .long (JL 0)), (0, .ref o), (1, .int (J a))]) hx hb dX6_spans_19 rfl hl (by decide) rfl (fun ls hl => ?_)
    refine lv_iconst (v := J (1)) hx hb dX6_spans_20 rfl ?_
    refine lv_istore (lv' := [(4, .int (J 1)), (2, .long (JL 0)), (0, .ref o), (1, .int (J a))]) hx hb dX6_spans_21 hl (by decide) rfl (fun ls hl => ?_)
    have loop_23 : ∀ (n9 : Nat) (z : Int) (sn : Int) (fw : Int) (f : Int → Int) (h : Hp) (H : Heap) (locs : List Loc) (ls : Array Slot), 41 - sn < (n9 : Int) → (1 ≤ sn ∧ sn ≤ 41) → (∀ j, 1 ≤ j → j < sn → ∃ t, WT (mp (I 5) (A 6)) 8 j (f j) t) → (z = sB f a (sn - 1).toNat) → (OB g 6 28 kd6 h o R (va_up J1 27 (fw)) mL A2) → (Fr (FP 28 kd6 o R) h0 h) → (Wd g base h H) → (va_S (Ab base) s.heap H locs) → (lv_has ls 6 [(0, .ref o), (1, .int (J a)), (2, .long (JL z)), (4, .int (J sn))]) → W p l e (headSpec wsX6_spans ({ frames := 2, cells := 0, slots := 0, locals := 55 })).room s m ([.ref o, .int (J a)]).toArray below meth c H locs 0 0 (MQ below (QcM g base (fun r h' => Fr (FP 28 kd6 o R) h0 h' ∧ ((¬ (0 ≤ a ∧ a ≤ 60) ∧ r = some (.long (JL (-2))) ∧ OB g 6 28 kd6 h' o R I mL A) ∨ ((0 ≤ a ∧ a ≤ 60) ∧ ∃ I' A' f, OB g 6 28 kd6 h' o R I' mL A' ∧ RS I I' A A' ∧ (∀ j, 1 ≤ j → j ≤ 40 → ∃ t, WT (mp (I 5) (A 6)) 8 j (f j) t) ∧ r = some (.long (JL (sB f a 40))))))) ([.ref o, .int (J a)]).toArray s (0) (0) (Ab base)) (F0 m 23 ls []) := by
      intro n9
      induction n9 with
      | zero =>
        intro z sn fw f h H locs ls hmu hs9 hf ez hM hF hW hS hl
        exact absurd hmu (by omega)
      | succ n9 ih =>
        intro z sn fw f h H locs ls hmu hs9 hf ez hM hF hW hS hl
        have ih_23 := ih
        refine lv_iload hx hb dX6_spans_23 (lv_at hl 3 rfl) ?_
        refine lv_bipush (v := J (40)) hx hb dX6_spans_25 (by decide) ?_
        refine j_icmp_gt (x := sn) (y := 40) (tgt := 67) hx hb ⟨by omega, by omega⟩ ⟨by decide, by decide⟩ dX6_spans_27 (by decide) (fun c_27 => ?_) (fun c_27 => ?_)
        · refine lv_lload_n hx hb dX6_spans_67 rfl (lv_at hl 2 rfl) ?_
          exact g_lret hx hb hr hW hS dX6_spans_68 hlocks (⟨hF, Or.inr ⟨hq1, _, _, f, hM, (by obtain ⟨b1, b2, b3, b4, b5, b6, b7⟩ := hRS; exact ⟨b1, b2, b3, b4, b5, b6, b7⟩), fun j j0 j1 => hf j j0 (by omega), by rw [ez, show sn = 41 by omega]; rfl⟩⟩)
        · refine lv_aload_n hx hb dX6_spans_30 rfl (lv_at hl 0 rfl) ?_
          refine lv_iload hx hb dX6_spans_31 (lv_at hl 3 rfl) ?_
          refine g_callV (As := [.int (J sn)]) (rest := []) (b := o) (ci := 6) (C := RX6) (T := TX6) (N := 28) ⟨hx, hb, hml, hown, hts⟩ (m_waitOf l g base sa h o R (va_up J1 27 (fw)) A2 sn hM hsk2 hAQ hBT ⟨by omega, by omega⟩) (cwV 1 hts gX6_spans_X6_waitOf rfl rfl rfl (by decide +kernel) ⟨Nat.le_of_ble_eq_true rfl, Nat.le_of_ble_eq_true rfl⟩) hk hW hS hM.1 rfl rfl hl.1 (Nat.le_of_ble_eq_true rfl) dX6_spans_33 ⟨Nat.le_of_ble_eq_true rfl, Nat.le_of_ble_eq_true rfl⟩ (fun r9 h9 H locs hp hW hS => ?_)
          have hp : ∃ w fw2, r9 = some (.int (J w)) ∧ Fr (FP 28 kd6 o R) h h9 ∧ OB g 6 28 kd6 h9 o R (va_up (va_up J1 27 (fw)) 27 fw2) mL A2 ∧ WT (mp (J1 5) (A2 6)) 8 sn w (if w = -1 then -1 else fw2) := hp
          obtain ⟨w, fw2, rfl, hF9, hM, hWT⟩ := hp
          refine W.eq (g2 := F0 m 36 ls [.int (J w)]) rfl ?_
          have hF := hF.tr hF9 (fun q w _ => w)
          generalize h9 = h at hM hF hW
          have hwr : -1 ≤ w ∧ w ≤ 60 := by
            rcases hWT with v9 | v9
            · omega
            · exact ⟨by omega, by omega⟩
          have hM : OB g 6 28 kd6 h o R (va_up J1 27 (fw2)) mL A2 := by
            have e9 : (va_up (va_up J1 27 (fw)) 27 (fw2)) = (va_up J1 27 (fw2)) := by funext q9; by_cases w27 : q9 = 27 <;> simp [va_up, w27]
            rw [← e9]
            exact hM
          refine lv_istore (lv' := [(5, .int (J w)), (0, .ref o), (1, .int (J a)), (2, .long (JL z)), (4, .int (J sn))]) hx hb dX6_spans_36 hl (by decide) rfl (fun ls hl => ?_)
          refine lv_lload_n hx hb dX6_spans_38 rfl (lv_at hl 3 rfl) ?_
          refine lv_iload hx hb dX6_spans_39 (lv_at hl 0 rfl) ?_
          refine lv_iconst (v := J (-1)) hx hb dX6_spans_41 rfl ?_
          refine j_icmp_eq (x := w) (y := (-1)) (tgt := 58) hx hb ⟨by omega, by omega⟩ ⟨by omega, by omega⟩ dX6_spans_42 (by decide) (fun c_42 => ?_) (fun c_42 => ?_)
          · refine lv_lconst (v := JL (0)) hx hb dX6_spans_58 (by decide) ?_
            refine j_lor (x := z) (y := 0) hx hb dX6_spans_59 ?_
            refine lv_lstore_n (lv' := [(2, .long (JL (orL z 0))), (5, .int (J w)), (0, .ref o), (1, .int (J a)), (4, .int (J sn))]) hx hb dX6_spans_60 rfl hl (by decide) rfl (fun ls hl => ?_)
            refine lv_iinc (v := J (sn + 1)) (lv' := [(4, .int (J (sn + 1))), (2, .long (JL (orL z 0))), (5, .int (J w)), (0, .ref o), (1, .int (J a))]) hx hb dX6_spans_61 hl (k := 4) rfl (J_inc (by omega)) (by decide) rfl (fun ls hl => ?_)
            refine lv_goto (tgt := 23) hx hb dX6_spans_64 (by decide) ?_
            exact ih_23 (orL z 0) (sn + 1) fw2 (uf f sn w) h H locs ls (by omega) (by omega) (fun j j0 j1 => by by_cases e : j = sn; (subst e; rw [uf_same]; exact ⟨_, (by have e1 := hRS.2.2.2.1; have e2 := hRS.2.2.2.2.2.2; rw [e1, e2] at hWT; exact hWT)⟩); (rw [uf_ne _ _ e]; exact hf j j0 (by omega))) (by rw [show sn + 1 - 1 = sn by omega, sB_s _ _ (by omega), uf_same, if_neg (by omega), sB_cg (f := uf f sn w) (f' := f) (fun j j0 j1 => uf_ne _ _ (by omega)), ← ez]) hM hF hW hS (lv_sub hl [3, 4, 1, 0] rfl)
          · refine lv_iload hx hb dX6_spans_45 (lv_at hl 0 rfl) ?_
            refine lv_iload_n hx hb dX6_spans_47 rfl (lv_at hl 2 rfl) ?_
            refine j_icmp_gt (x := w) (y := a) (tgt := 58) hx hb ⟨by omega, by omega⟩ ⟨by omega, by omega⟩ dX6_spans_48 (by decide) (fun c_48 => ?_) (fun c_48 => ?_)
            · refine lv_lconst (v := JL (0)) hx hb dX6_spans_58 (by decide) ?_
              refine j_lor (x := z) (y := 0) hx hb dX6_spans_59 ?_
              refine lv_lstore_n (lv' := [(2, .long (JL (orL z 0))), (5, .int (J w)), (0, .ref o), (1, .int (J a)), (4, .int (J sn))]) hx hb dX6_spans_60 rfl hl (by decide) rfl (fun ls hl => ?_)
              refine lv_iinc (v := J (sn + 1)) (lv' := [(4, .int (J (sn + 1))), (2, .long (JL (orL z 0))), (5, .int (J w)), (0, .ref o), (1, .int (J a))]) hx hb dX6_spans_61 hl (k := 4) rfl (J_inc (by omega)) (by decide) rfl (fun ls hl => ?_)
              refine lv_goto (tgt := 23) hx hb dX6_spans_64 (by decide) ?_
              exact ih_23 (orL z 0) (sn + 1) fw2 (uf f sn w) h H locs ls (by omega) (by omega) (fun j j0 j1 => by by_cases e : j = sn; (subst e; rw [uf_same]; exact ⟨_, (by have e1 := hRS.2.2.2.1; have e2 := hRS.2.2.2.2.2.2; rw [e1, e2] at hWT; exact hWT)⟩); (rw [uf_ne _ _ e]; exact hf j j0 (by omega))) (by rw [show sn + 1 - 1 = sn by omega, sB_s _ _ (by omega), uf_same, if_neg (by omega), sB_cg (f := uf f sn w) (f' := f) (fun j j0 j1 => uf_ne _ _ (by omega)), ← ez]) hM hF hW hS (lv_sub hl [3, 4, 1, 0] rfl)
            · refine lv_lconst (v := JL (1)) hx hb dX6_spans_51 (by decide) ?_
              refine lv_iload hx hb dX6_spans_52 (lv_at hl 4 rfl) ?_
              refine j_lshl (x := 1) (y := sn) hx hb dX6_spans_54 ?_
              refine lv_goto (tgt := 59) hx hb dX6_spans_55 (by decide) ?_
              refine j_lor (x := z) (y := shL 1 sn) hx hb dX6_spans_59 ?_
              refine lv_lstore_n (lv' := [(2, .long (JL (orL z (shL 1 sn)))), (5, .int (J w)), (0, .ref o), (1, .int (J a)), (4, .int (J sn))]) hx hb dX6_spans_60 rfl hl (by decide) rfl (fun ls hl => ?_)
              refine lv_iinc (v := J (sn + 1)) (lv' := [(4, .int (J (sn + 1))), (2, .long (JL (orL z (shL 1 sn)))), (5, .int (J w)), (0, .ref o), (1, .int (J a))]) hx hb dX6_spans_61 hl (k := 4) rfl (J_inc (by omega)) (by decide) rfl (fun ls hl => ?_)
              refine lv_goto (tgt := 23) hx hb dX6_spans_64 (by decide) ?_
              exact ih_23 (orL z (shL 1 sn)) (sn + 1) fw2 (uf f sn w) h H locs ls (by omega) (by omega) (fun j j0 j1 => by by_cases e : j = sn; (subst e; rw [uf_same]; exact ⟨_, (by have e1 := hRS.2.2.2.1; have e2 := hRS.2.2.2.2.2.2; rw [e1, e2] at hWT; exact hWT)⟩); (rw [uf_ne _ _ e]; exact hf j j0 (by omega))) (by rw [show sn + 1 - 1 = sn by omega, sB_s _ _ (by omega), uf_same, if_pos ⟨by omega, by omega⟩, sB_cg (f := uf f sn w) (f' := f) (fun j j0 j1 => uf_ne _ _ (by omega)), ← ez]) hM hF hW hS (lv_sub hl [3, 4, 1, 0] rfl)
    exact loop_23 42 0 1 (J1 27) (fun _ => 0) h H locs ls (by omega) (by omega) (fun j j0 j1 => absurd j1 (by omega)) rfl (by rw [va_up_id]; exact hM) hF hW hS (lv_sub hl [2, 3, 1, 0] rfl)
  · refine j_ldc2 (z := -2) hx hb (by decide) hown (hts (.constantLong RX6 133 (-2)) (by decide +kernel)) dX6_spans_10 ?_
    exact g_lret hx hb hr hW hS dX6_spans_13 hlocks (⟨hF, Or.inl ⟨by have := p_in_0 c_7; omega, rfl, hM⟩⟩)
