set_option maxHeartbeats 4000000 in
set_option maxRecDepth 100000 in
theorem m_findCosts (l : Launch) (g : GX) (base : Nat) (sa : Nat → Nat) (h0 : Hp) (o : Nat) (R : Nat → Nat) (I : Nat → Int) (A : Nat → Int → Int) (i v ea : Int) (hM : OB g 6 28 kd6 h0 o R I mL A) (hi9 : i32 i) (hv9 : i32 v) (he : ea = 0 ∨ ea = 20000) (hm : Mok I A) : MC l g base sa yX6_findCosts wsX6_findCosts ({ frames := 2, cells := 0, slots := 0, locals := 48 }) ([.ref o, .int (J i), .int (J v), .int (J ea)]) h0 (fun r h' => r = none ∧ Fr (FP 28 kd6 o R) h0 h' ∧ ∃ I' A', OB g 6 28 kd6 h' o R I' mL A' ∧ FCO I I' A A' i v ea) := by
  refine Met.ofW (cc := cX6_findCosts) (maxL := 9) (ret := none) (by decide) rfl ?_
  intro p e s m args below meth c s₁ B hml hv
  obtain ⟨rfl, hk, hW⟩ := hv
  have hx := B.exec
  have hb := B.bytes
  have hr := B.returns
  have hts := atoms_spec (ws := wsX6_findCosts) B.pre
  have hown : s.vm.findClass RX6 = some m.cls := findClass_of_methodNamed B.named
  have hlocks := B.notSynchronized
  have hfX6 : ∀ w ∈ wsX60, w.before ([.ref o, .int (J i), .int (J v), .int (J ea)]).toArray s = true := fun w h => hts w (List.mem_cons_of_mem _ (List.mem_append_right _ h))
  have hS : va_S (Ab base) s.heap s.heap [] := va_S.rf
  have hl := lv_entry ([.ref o, .int (J i), .int (J v), .int (J ea)]) (n := 9) (Nat.le_of_ble_eq_true rfl)
  rw [lg_entry_eq]
  generalize (lg_sl ([.ref o, .int (J i), .int (J v), .int (J ea)]) ++ List.replicate (9 - (lg_sl ([.ref o, .int (J i), .int (J v), .int (J ea)])).length) Slot.unset).toArray = ls at hl ⊢
  have hl : lv_has ls 9 [(0, .ref o), (1, .int (J i)), (2, .int (J v)), (3, .int (J ea))] := hl
  have hF : Fr (FP 28 kd6 o R) h0 h0 := Fr.rf
  obtain ⟨hm1, hm2, hm3, hm4, hm5, hm6, hm7, hm8, hm9⟩ := id hm
  have hn : 0 ≤ I 0 ∧ I 0 ≤ 4 := ⟨hm1, hm2⟩
  refine lv_aload_n hx hb dX6_findCosts_0 rfl (lv_at hl 0 rfl) ?_
  refine g_callV (As := []) (rest := []) (b := o) (ci := 6) (C := RX6) (T := TX6) (N := 28) ⟨hx, hb, hml, hown, hts⟩ (m_tryOwn l g base sa h0 o R I A hM hn hm3 hm4) (cwV 0 hts gX6_findCosts_X6_tryOwn rfl rfl rfl (by decide +kernel) ⟨Nat.le_of_ble_eq_true rfl, Nat.le_of_ble_eq_true rfl⟩) hk hW hS hM.1 rfl rfl hl.1 (Nat.le_of_ble_eq_true rfl) dX6_findCosts_1 ⟨Nat.le_of_ble_eq_true rfl, Nat.le_of_ble_eq_true rfl⟩ (fun r9 h9 H locs hp hW hS => ?_)
  obtain ⟨rfl, hF9, hM⟩ := hp
  refine W.eq (g2 := F0 m 4 ls []) rfl ?_
  have hF := hF.tr hF9 (fun q h1 _ => h1)
  generalize h9 = h at hM hF hW
  obtain ⟨rm, erm⟩ : ∃ rm, rm = cpN (I 0) (A 1) (A 8) := ⟨_, rfl⟩
  obtain ⟨f0, ef0⟩ : ∃ f0, f0 = cpN (I 0) (A 2) (A 9) := ⟨_, rfl⟩
  rw [← erm, ← ef0] at hM
  have hrm : Rm (I 0) rm := by rw [erm]; exact Rm_own hm _
  have hvh : Vh (I 0) rm f0 := by rw [erm, ef0]; exact Vh_own hm _ _
  have hmr := mT_r hrm
  have hst := nT_r hm1 hvh
  have hNX := LA_NX (tp := I 3) (dr := I 4) hrm
  refine lv_aload_n hx hb dX6_findCosts_4 rfl (lv_at hl 0 rfl) ?_
  refine lv_aload_n hx hb dX6_findCosts_5 rfl (lv_at hl 0 rfl) ?_
  refine g_callV (As := []) (rest := [.ref o]) (b := o) (ci := 6) (C := RX6) (T := TX6) (N := 28) ⟨hx, hb, hml, hown, hts⟩ (m_numberOf l g base sa h o R (va_up (va_up (va_up I 7 (I 0)) 10 (I 3)) 11 (I 4)) (va_up (va_up A 8 (rm)) 9 (f0)) hM hn) (cwV 0 hts gX6_findCosts_X6_numberOf rfl rfl rfl (by decide +kernel) ⟨Nat.le_of_ble_eq_true rfl, Nat.le_of_ble_eq_true rfl⟩) hk hW hS hM.1 rfl rfl hl.1 (Nat.le_of_ble_eq_true rfl) dX6_findCosts_6 ⟨Nat.le_of_ble_eq_true rfl, Nat.le_of_ble_eq_true rfl⟩ (fun r9 h9 H locs hp hW hS => ?_)
  have hp : r9 = some (.int (J (nT rm f0 (I 0)))) ∧ h9 = h := hp
  obtain ⟨rfl, e9⟩ := hp
  rw [e9] at hW
  refine W.eq (g2 := F0 m 9 ls [.int (J (nT rm f0 (I 0))), .ref o]) rfl ?_
  refine o_put (I' := (va_up (va_up (va_up (va_up I 7 (I 0)) 10 (I 3)) 11 (I 4)) 17 (nT rm f0 (I 0)))) (ci := 6) (C := RX6) (T := TX6) (N := 28) (ty := .int) hx hb hfX6 (fun _ h9 => h9) tyX6 tyX6_ok nmX6 hown hk hW hS hM hF FP.o rfl 17 (by decide) rfl (hts (.fieldLink RX6 112 "JugsAndGlassesModel" "start" "I") (by decide +kernel)) rfl rfl (by decide +kernel) rfl rfl rfl dX6_findCosts_9 (fun h H locs hM hF hst hW hS => ?_)
  refine lv_aload_n hx hb dX6_findCosts_12 rfl (lv_at hl 0 rfl) ?_
  refine g_callV (As := []) (rest := []) (b := o) (ci := 6) (C := RX6) (T := TX6) (N := 28) ⟨hx, hb, hml, hown, hts⟩ (m_layActs l g base sa h o R (va_up (va_up (va_up (va_up I 7 (I 0)) 10 (I 3)) 11 (I 4)) 17 (nT rm f0 (I 0))) (va_up (va_up A 8 (rm)) 9 (f0)) hM hrm hm3 hm4) (cwV 0 hts gX6_findCosts_X6_layActs rfl rfl rfl (by decide +kernel) ⟨Nat.le_of_ble_eq_true rfl, Nat.le_of_ble_eq_true rfl⟩) hk hW hS hM.1 rfl rfl hl.1 (Nat.le_of_ble_eq_true rfl) dX6_findCosts_13 ⟨Nat.le_of_ble_eq_true rfl, Nat.le_of_ble_eq_true rfl⟩ (fun r9 h9 H locs hp hW hS => ?_)
  have hp : r9 = none ∧ Fr (FP 28 kd6 o R) h h9 ∧ ∃ I' f p14 p15, OB g 6 28 kd6 h9 o R I' mL (va_up (va_up (va_up (va_up (va_up A 8 (rm)) 9 (f0)) 9 f) 14 p14) 15 p15) ∧ (∀ k, k ≠ 12 → k ≠ 13 → I' k = (va_up (va_up (va_up (va_up I 7 (I 0)) 10 (I 3)) 11 (I 4)) 17 (nT rm f0 (I 0))) k) ∧ LA (I 0) (I 3) (I 4) rm p14 p15 (24 * mT rm (I 0)) := hp
  obtain ⟨rfl, hF9, J1, f, p14, p15, hM, hJ, hLA⟩ := hp
  refine W.eq (g2 := F0 m 16 ls []) rfl ?_
  have hF := hF.tr hF9 (fun q h1 _ => h1)
  generalize h9 = h at hM hF hW
  have hM : OB g 6 28 kd6 h o R J1 mL (va_up (va_up (va_up (va_up A 8 (rm)) 9 (f)) 14 (p14)) 15 (p15)) := by
    have e9 : (va_up (va_up (va_up (va_up (va_up A 8 (rm)) 9 (f0)) 9 (f)) 14 (p14)) 15 (p15)) = (va_up (va_up (va_up (va_up A 8 (rm)) 9 (f)) 14 (p14)) 15 (p15)) := by funext q9; by_cases w8 : q9 = 8 <;> by_cases w9 : q9 = 9 <;> by_cases w14 : q9 = 14 <;> by_cases w15 : q9 = 15 <;> simp [va_up, w8, w9, w14, w15]
    rw [← e9]
    exact hM
  have j0 : J1 0 = I 0 := hJ 0 (by decide) (by decide)
  have j3 : J1 3 = I 3 := hJ 3 (by decide) (by decide)
  have j4 : J1 4 = I 4 := hJ 4 (by decide) (by decide)
  have j5 : J1 5 = I 5 := hJ 5 (by decide) (by decide)
  have j7 : J1 7 = I 0 := hJ 7 (by decide) (by decide)
  have j10 : J1 10 = I 3 := hJ 10 (by decide) (by decide)
  have j11 : J1 11 = I 4 := hJ 11 (by decide) (by decide)
  have j17 : J1 17 = nT rm f0 (I 0) := hJ 17 (by decide) (by decide)
  clear hJ
  refine lv_aload_n hx hb dX6_findCosts_16 rfl (lv_at hl 0 rfl) ?_
  refine g_callV (As := []) (rest := []) (b := o) (ci := 6) (C := RX6) (T := TX6) (N := 28) ⟨hx, hb, hml, hown, hts⟩ (m_stateMany l g base sa h o R J1 (va_up (va_up (va_up (va_up A 8 (rm)) 9 (f)) 14 (p14)) 15 (p15)) hM ⟨by omega, by omega⟩) (cwV 0 hts gX6_findCosts_X6_stateMany rfl rfl rfl (by decide +kernel) ⟨Nat.le_of_ble_eq_true rfl, Nat.le_of_ble_eq_true rfl⟩) hk hW hS hM.1 rfl rfl hl.1 (Nat.le_of_ble_eq_true rfl) dX6_findCosts_17 ⟨Nat.le_of_ble_eq_true rfl, Nat.le_of_ble_eq_true rfl⟩ (fun r9 h9 H locs hp hW hS => ?_)
  have hp : r9 = some (.int (J (mT rm (J1 7)))) ∧ h9 = h := hp
  rw [j7] at hp
  obtain ⟨rfl, e9⟩ := hp
  rw [e9] at hW
  refine W.eq (g2 := F0 m 20 ls [.int (J (mT rm (I 0)))]) rfl ?_
  refine lv_istore (lv' := [(4, .int (J (mT rm (I 0)))), (0, .ref o), (1, .int (J i)), (2, .int (J v)), (3, .int (J ea))]) hx hb dX6_findCosts_20 hl (by decide) rfl (fun ls hl => ?_)
  refine lv_iconst (v := J (0)) hx hb dX6_findCosts_22 rfl ?_
  refine lv_istore (lv' := [(5, .int (J 0)), (4, .int (J (mT rm (I 0)))), (0, .ref o), (1, .int (J i)), (2, .int (J v)), (3, .int (J ea))]) hx hb dX6_findCosts_23 hl (by decide) rfl (fun ls hl => ?_)
  have loop_25 : ∀ (n : Nat) (x : Int) (f : Int → Int) (cs : Int → Int) (h : Hp) (H : Heap) (locs : List Loc) (ls : Array Slot), mT rm (I 0) - x < (n : Int) → (0 ≤ x ∧ x ≤ mT rm (I 0)) → (∀ s, 0 ≤ s → s < x → cs s = if goM (I 0) rm i v s then 0 else fFAR) → (OB g 6 28 kd6 h o R J1 mL (va_up (va_up (va_up (va_up (va_up A 8 (rm)) 9 (f)) 14 (p14)) 15 (p15)) 16 (cs))) → (Fr (FP 28 kd6 o R) h0 h) → (Wd g base h H) → (va_S (Ab base) s.heap H locs) → (lv_has ls 9 [(0, .ref o), (1, .int (J i)), (2, .int (J v)), (3, .int (J ea)), (4, .int (J (mT rm (I 0)))), (5, .int (J x))]) → W p l e (headSpec wsX6_findCosts ({ frames := 2, cells := 0, slots := 0, locals := 48 })).room s m ([.ref o, .int (J i), .int (J v), .int (J ea)]).toArray below meth c H locs 0 0 (MQ below (QcM g base (fun r h' => r = none ∧ Fr (FP 28 kd6 o R) h0 h' ∧ ∃ I' A', OB g 6 28 kd6 h' o R I' mL A' ∧ FCO I I' A A' i v ea)) ([.ref o, .int (J i), .int (J v), .int (J ea)]).toArray s (0) (0) (Ab base)) (F0 m 25 ls []) := by
    intro n
    induction n with
    | zero =>
      intro x f cs h H locs ls hmu hx9 hcs hM hF hW hS hl
      exact absurd hmu (by omega)
    | succ n ih =>
      intro x f cs h H locs ls hmu hx9 hcs hM hF hW hS hl
      have ih_25 := ih
      refine lv_iload hx hb dX6_findCosts_25 (lv_at hl 5 rfl) ?_
      refine lv_iload hx hb dX6_findCosts_27 (lv_at hl 4 rfl) ?_
      refine j_icmp_ge (x := x) (y := mT rm (I 0)) (tgt := 62) hx hb ⟨by omega, by omega⟩ ⟨by omega, by omega⟩ dX6_findCosts_29 (by decide) (fun c_29 => ?_) (fun c_29 => ?_)
      · refine lv_iconst (v := J (1)) hx hb dX6_findCosts_62 rfl ?_
        refine lv_istore (lv' := [(5, .int (J 1)), (0, .ref o), (1, .int (J i)), (2, .int (J v)), (3, .int (J ea)), (4, .int (J (mT rm (I 0))))]) hx hb dX6_findCosts_63 hl (by decide) rfl (fun ls hl => ?_)
        have loop_65 : ∀ (n : Nat) (mo : Int) (cs : Int → Int) (h : Hp) (H : Heap) (locs : List Loc) (ls : Array Slot), 2 * sT cs (mT rm (I 0)) + mo < (n : Int) → (mo = 0 ∨ mo = 1) → (FI (mT rm (I 0)) (nxM (I 0) (I 3) (I 4) rm) (spM (I 0) (I 3) (I 4) rm) ea (goM (I 0) rm i v) cs) → (mo = 0 → FC (mT rm (I 0)) (nxM (I 0) (I 3) (I 4) rm) (spM (I 0) (I 3) (I 4) rm) ea (goM (I 0) rm i v) cs) → (OB g 6 28 kd6 h o R J1 mL (va_up (va_up (va_up (va_up (va_up A 8 (rm)) 9 (f)) 14 (p14)) 15 (p15)) 16 (cs))) → (Fr (FP 28 kd6 o R) h0 h) → (Wd g base h H) → (va_S (Ab base) s.heap H locs) → (lv_has ls 9 [(0, .ref o), (1, .int (J i)), (2, .int (J v)), (3, .int (J ea)), (4, .int (J (mT rm (I 0)))), (5, .int (J mo))]) → W p l e (headSpec wsX6_findCosts ({ frames := 2, cells := 0, slots := 0, locals := 48 })).room s m ([.ref o, .int (J i), .int (J v), .int (J ea)]).toArray below meth c H locs 0 0 (MQ below (QcM g base (fun r h' => r = none ∧ Fr (FP 28 kd6 o R) h0 h' ∧ ∃ I' A', OB g 6 28 kd6 h' o R I' mL A' ∧ FCO I I' A A' i v ea)) ([.ref o, .int (J i), .int (J v), .int (J ea)]).toArray s (0) (0) (Ab base)) (F0 m 65 ls []) := by
          intro n
          induction n with
          | zero =>
            intro mo cs h H locs ls hmu hmo hF0 hFC hM hF hW hS hl
            exact absurd hmu (by have := FI_nn hF0; omega)
          | succ n ih =>
            intro mo cs h H locs ls hmu hmo hF0 hFC hM hF hW hS hl
            have ih_65 := ih
            refine lv_iload hx hb dX6_findCosts_65 (lv_at hl 5 rfl) ?_
            refine j_if_eq (x := mo) (tgt := 143) hx hb ⟨by omega, by omega⟩ dX6_findCosts_67 (by decide) (fun c_67 => ?_) (fun c_67 => ?_)
            · exact g_vret hx hb hr hW hS dX6_findCosts_143 hlocks (⟨rfl, hF, J1, _, hM, ⟨j0, j3, j4, j5, rfl, rfl, rfl⟩, j7, j10, j11, hrm, fun j h1 h2 => by show rm j = A 1 j; rw [erm, cpN_in h1 h2], by show J1 17 = nT rm (A 2) (I 0); rw [j17]; exact nT_congr (fun j h1 h2 => by rw [ef0, cpN_in h1 h2]), hLA, hFC (by omega)⟩)
            · have hmo1 : mo = 1 := by omega
              refine lv_iconst (v := J (0)) hx hb dX6_findCosts_70 rfl ?_
              refine lv_istore (lv' := [(5, .int (J 0)), (0, .ref o), (1, .int (J i)), (2, .int (J v)), (3, .int (J ea)), (4, .int (J (mT rm (I 0))))]) hx hb dX6_findCosts_71 hl (by decide) rfl (fun ls hl => ?_)
              refine lv_iconst (v := J (0)) hx hb dX6_findCosts_73 rfl ?_
              refine lv_istore (lv' := [(6, .int (J 0)), (5, .int (J 0)), (0, .ref o), (1, .int (J i)), (2, .int (J v)), (3, .int (J ea)), (4, .int (J (mT rm (I 0))))]) hx hb dX6_findCosts_74 hl (by decide) rfl (fun ls hl => ?_)
              have loop_76 : ∀ (n : Nat) (x : Int) (mo2 : Int) (cs2 : Int → Int) (h : Hp) (H : Heap) (locs : List Loc) (ls : Array Slot), mT rm (I 0) - x < (n : Int) → (0 ≤ x ∧ x ≤ mT rm (I 0)) → (RD (mT rm (I 0)) (nxM (I 0) (I 3) (I 4) rm) (spM (I 0) (I 3) (I 4) rm) ea (goM (I 0) rm i v) cs cs2 mo2 (24 * x)) → (OB g 6 28 kd6 h o R J1 mL (va_up (va_up (va_up (va_up (va_up A 8 (rm)) 9 (f)) 14 (p14)) 15 (p15)) 16 (cs2))) → (Fr (FP 28 kd6 o R) h0 h) → (Wd g base h H) → (va_S (Ab base) s.heap H locs) → (lv_has ls 9 [(0, .ref o), (1, .int (J i)), (2, .int (J v)), (3, .int (J ea)), (4, .int (J (mT rm (I 0)))), (5, .int (J mo2)), (6, .int (J x))]) → W p l e (headSpec wsX6_findCosts ({ frames := 2, cells := 0, slots := 0, locals := 48 })).room s m ([.ref o, .int (J i), .int (J v), .int (J ea)]).toArray below meth c H locs 0 0 (MQ below (QcM g base (fun r h' => r = none ∧ Fr (FP 28 kd6 o R) h0 h' ∧ ∃ I' A', OB g 6 28 kd6 h' o R I' mL A' ∧ FCO I I' A A' i v ea)) ([.ref o, .int (J i), .int (J v), .int (J ea)]).toArray s (0) (0) (Ab base)) (F0 m 76 ls []) := by
                intro n
                induction n with
                | zero =>
                  intro x mo2 cs2 h H locs ls hmu hx9 hRD hM hF hW hS hl
                  exact absurd hmu (by omega)
                | succ n ih =>
                  intro x mo2 cs2 h H locs ls hmu hx9 hRD hM hF hW hS hl
                  have ih_76 := ih
                  refine lv_iload hx hb dX6_findCosts_76 (lv_at hl 6 rfl) ?_
                  refine lv_iload hx hb dX6_findCosts_78 (lv_at hl 4 rfl) ?_
                  refine j_icmp_ge (x := x) (y := mT rm (I 0)) (tgt := 140) hx hb ⟨by omega, by omega⟩ ⟨by omega, by omega⟩ dX6_findCosts_80 (by decide) (fun c_80 => ?_) (fun c_80 => ?_)
                  · refine lv_goto (tgt := 65) hx hb dX6_findCosts_140 (by decide) ?_
                    exact ih_65 mo2 cs2 h H locs ls (by have h8 := hRD.1; have h7 := hRD.2.2.1; have h6 := hRD.2.2.2; rcases h8 with e | e; (have := (h6 e).1; subst this; omega); (have := h7 e; omega)) hRD.1 hRD.2.1 (by have e9 : x = mT rm (I 0) := (by omega); rw [e9] at hRD; exact RD_end hRD) hM hF hW hS (lv_sub hl [0, 1, 2, 3, 4, 5] rfl)
                  · refine lv_iconst (v := J (0)) hx hb dX6_findCosts_83 rfl ?_
                    refine lv_istore (lv' := [(7, .int (J 0)), (0, .ref o), (1, .int (J i)), (2, .int (J v)), (3, .int (J ea)), (4, .int (J (mT rm (I 0)))), (5, .int (J mo2)), (6, .int (J x))]) hx hb dX6_findCosts_84 hl (by decide) rfl (fun ls hl => ?_)
                    have loop_86 : ∀ (n : Nat) (a : Int) (mo2 : Int) (cs2 : Int → Int) (h : Hp) (H : Heap) (locs : List Loc) (ls : Array Slot), 24 - a < (n : Int) → (0 ≤ a ∧ a ≤ 24) → (RD (mT rm (I 0)) (nxM (I 0) (I 3) (I 4) rm) (spM (I 0) (I 3) (I 4) rm) ea (goM (I 0) rm i v) cs cs2 mo2 (24 * x + a)) → (OB g 6 28 kd6 h o R J1 mL (va_up (va_up (va_up (va_up (va_up A 8 (rm)) 9 (f)) 14 (p14)) 15 (p15)) 16 (cs2))) → (Fr (FP 28 kd6 o R) h0 h) → (Wd g base h H) → (va_S (Ab base) s.heap H locs) → (lv_has ls 9 [(0, .ref o), (1, .int (J i)), (2, .int (J v)), (3, .int (J ea)), (4, .int (J (mT rm (I 0)))), (5, .int (J mo2)), (6, .int (J x)), (7, .int (J a))]) → W p l e (headSpec wsX6_findCosts ({ frames := 2, cells := 0, slots := 0, locals := 48 })).room s m ([.ref o, .int (J i), .int (J v), .int (J ea)]).toArray below meth c H locs 0 0 (MQ below (QcM g base (fun r h' => r = none ∧ Fr (FP 28 kd6 o R) h0 h' ∧ ∃ I' A', OB g 6 28 kd6 h' o R I' mL A' ∧ FCO I I' A A' i v ea)) ([.ref o, .int (J i), .int (J v), .int (J ea)]).toArray s (0) (0) (Ab base)) (F0 m 86 ls []) := by
                      intro n
                      induction n with
                      | zero =>
                        intro a mo2 cs2 h H locs ls hmu ha9 hRD hM hF hW hS hl
                        exact absurd hmu (by omega)
                      | succ n ih =>
                        intro a mo2 cs2 h H locs ls hmu ha9 hRD hM hF hW hS hl
                        have hFI := hRD.2.1
                        have ih_86 := ih
                        refine lv_iload hx hb dX6_findCosts_86 (lv_at hl 7 rfl) ?_
                        refine lv_bipush (v := J (24)) hx hb dX6_findCosts_88 (by decide) ?_
                        refine j_icmp_ge (x := a) (y := 24) (tgt := 134) hx hb ⟨by omega, by omega⟩ ⟨by decide, by decide⟩ dX6_findCosts_90 (by decide) (fun c_90 => ?_) (fun c_90 => ?_)
                        · refine lv_iinc (v := J (x + 1)) (lv' := [(6, .int (J (x + 1))), (0, .ref o), (1, .int (J i)), (2, .int (J v)), (3, .int (J ea)), (4, .int (J (mT rm (I 0)))), (5, .int (J mo2)), (7, .int (J a))]) hx hb dX6_findCosts_134 hl (k := 6) rfl (J_inc (by omega)) (by decide) rfl (fun ls hl => ?_)
                          refine lv_goto (tgt := 76) hx hb dX6_findCosts_137 (by decide) ?_
                          exact ih_76 (x + 1) mo2 cs2 h H locs ls (by omega) (by omega) (by have e9 : 24 * (x + 1) = 24 * x + a := (by omega); rw [e9]; exact hRD) hM hF hW hS (lv_sub hl [1, 2, 3, 4, 5, 6, 0] rfl)
                        · refine lv_aload_n hx hb dX6_findCosts_93 rfl (lv_at hl 0 rfl) ?_
                          refine lv_iload hx hb dX6_findCosts_94 (lv_at hl 6 rfl) ?_
                          refine lv_iload hx hb dX6_findCosts_96 (lv_at hl 7 rfl) ?_
                          refine lv_iload_n hx hb dX6_findCosts_98 rfl (lv_at hl 3 rfl) ?_
                          refine g_callV (As := [.int (J x), .int (J a), .int (J ea)]) (rest := []) (b := o) (ci := 6) (C := RX6) (T := TX6) (N := 28) ⟨hx, hb, hml, hown, hts⟩ (m_costBy l g base sa h o R J1 (va_up (va_up (va_up (va_up (va_up A 8 (rm)) 9 (f)) 14 (p14)) 15 (p15)) 16 (cs2)) x a ea hM ⟨by omega, by omega⟩ ⟨by omega, by omega⟩ (cb_to hLA hNX hFI (by omega) (by omega) (by omega) (by omega) (by omega) hmr.2)) (cwV 3 hts gX6_findCosts_X6_costBy rfl rfl rfl (by decide +kernel) ⟨Nat.le_of_ble_eq_true rfl, Nat.le_of_ble_eq_true rfl⟩) hk hW hS hM.1 rfl rfl hl.1 (Nat.le_of_ble_eq_true rfl) dX6_findCosts_99 ⟨Nat.le_of_ble_eq_true rfl, Nat.le_of_ble_eq_true rfl⟩ (fun r9 h9 H locs hp hW hS => ?_)
                          have hp : r9 = some (.int (J (CB (fun s a => p14 (24 * s + a)) (fun s a => p15 (24 * s + a)) ea cs2 x a))) ∧ h9 = h := hp
                          rw [CB_LA hLA ea cs2 (by omega) (by omega) (by omega) (by omega)] at hp
                          obtain ⟨rfl, e9⟩ := hp
                          rw [e9] at hW
                          refine W.eq (g2 := F0 m 102 ls [.int (J (CB (nxM (I 0) (I 3) (I 4) rm) (spM (I 0) (I 3) (I 4) rm) ea cs2 x a))]) rfl ?_
                          have hcb := CB_r hNX he hFI (s := x) (a := a) (by omega) (by omega) (by omega) (by omega)
                          have hfx := hFI x (by omega) (by omega)
                          refine lv_istore (lv' := [(8, .int (J (CB (nxM (I 0) (I 3) (I 4) rm) (spM (I 0) (I 3) (I 4) rm) ea cs2 x a))), (0, .ref o), (1, .int (J i)), (2, .int (J v)), (3, .int (J ea)), (4, .int (J (mT rm (I 0)))), (5, .int (J mo2)), (6, .int (J x)), (7, .int (J a))]) hx hb dX6_findCosts_102 hl (by decide) rfl (fun ls hl => ?_)
                          refine lv_iload hx hb dX6_findCosts_104 (lv_at hl 0 rfl) ?_
                          refine lv_aload_n hx hb dX6_findCosts_106 rfl (lv_at hl 1 rfl) ?_
                          refine g_get (ci := 6) (C := RX6) (T := TX6) (N := 28) (v := .ref (R 16)) hx hb hfX6 (fun _ h9 => h9) hown hk hW hM.1 rfl 16 (by decide) (hts (.fieldLink RX6 39 "JugsAndGlassesModel" "costs" "[I") (by decide +kernel)) rfl rfl dX6_findCosts_107 ?_
                          refine lv_iload hx hb dX6_findCosts_110 (lv_at hl 7 rfl) ?_
                          refine g_iald (n := 14641) (f := cs2) (i := x) hx hb hk hW (hM.ai 16 (by decide) rfl) (by omega) (by omega) (by omega) dX6_findCosts_112 ?_
                          refine j_icmp_ge (x := CB (nxM (I 0) (I 3) (I 4) rm) (spM (I 0) (I 3) (I 4) rm) ea cs2 x a) (y := cs2 x) (tgt := 128) hx hb ⟨by unfold fFAR at *; omega, by unfold fFAR at *; omega⟩ ⟨by unfold fFAR at *; omega, by unfold fFAR at *; omega⟩ dX6_findCosts_113 (by decide) (fun c_113 => ?_) (fun c_113 => ?_)
                          · refine lv_iinc (v := J (a + 1)) (lv' := [(7, .int (J (a + 1))), (8, .int (J (CB (nxM (I 0) (I 3) (I 4) rm) (spM (I 0) (I 3) (I 4) rm) ea cs2 x a))), (0, .ref o), (1, .int (J i)), (2, .int (J v)), (3, .int (J ea)), (4, .int (J (mT rm (I 0)))), (5, .int (J mo2)), (6, .int (J x))]) hx hb dX6_findCosts_128 hl (k := 8) rfl (J_inc (by omega)) (by decide) rfl (fun ls hl => ?_)
                            refine lv_goto (tgt := 86) hx hb dX6_findCosts_131 (by decide) ?_
                            exact ih_86 (a + 1) mo2 cs2 h H locs ls (by omega) (by omega) (RD_no hRD (by omega) (by omega) c_113) hM hF hW hS (lv_sub hl [2, 3, 4, 5, 6, 7, 8, 0] rfl)
                          · have c_113x : CB (nxM (I 0) (I 3) (I 4) rm) (spM (I 0) (I 3) (I 4) rm) ea cs2 x a < cs2 x := by omega
                            refine lv_aload_n hx hb dX6_findCosts_116 rfl (lv_at hl 1 rfl) ?_
                            refine g_get (ci := 6) (C := RX6) (T := TX6) (N := 28) (v := .ref (R 16)) hx hb hfX6 (fun _ h9 => h9) hown hk hW hM.1 rfl 16 (by decide) (hts (.fieldLink RX6 39 "JugsAndGlassesModel" "costs" "[I") (by decide +kernel)) rfl rfl dX6_findCosts_117 ?_
                            refine lv_iload hx hb dX6_findCosts_120 (lv_at hl 7 rfl) ?_
                            refine lv_iload hx hb dX6_findCosts_122 (lv_at hl 0 rfl) ?_
                            refine o_iast (A' := (va_up (va_up (va_up (va_up (va_up A 8 (rm)) 9 (f)) 14 (p14)) 15 (p15)) 16 (uf cs2 x (CB (nxM (I 0) (I 3) (I 4) rm) (spM (I 0) (I 3) (I 4) rm) ea cs2 x a)))) (i := x) (x := CB (nxM (I 0) (I 3) (I 4) rm) (spM (I 0) (I 3) (I 4) rm) ea cs2 x a) hx hb hk hW hS hM hF 16 (by decide) rfl (FP.a 16 (by decide) ⟨by decide, by decide⟩) (by omega) (show x < 14641 from by omega) (show 14641 < 2147483648 from by omega) (bx_uu _ _ _ _) dX6_findCosts_124 (fun h H locs hM hF hst hW hS => ?_)
                            refine lv_iconst (v := J (1)) hx hb dX6_findCosts_125 rfl ?_
                            refine lv_istore (lv' := [(5, .int (J 1)), (8, .int (J (CB (nxM (I 0) (I 3) (I 4) rm) (spM (I 0) (I 3) (I 4) rm) ea cs2 x a))), (0, .ref o), (1, .int (J i)), (2, .int (J v)), (3, .int (J ea)), (4, .int (J (mT rm (I 0)))), (6, .int (J x)), (7, .int (J a))]) hx hb dX6_findCosts_126 hl (by decide) rfl (fun ls hl => ?_)
                            refine lv_iinc (v := J (a + 1)) (lv' := [(7, .int (J (a + 1))), (5, .int (J 1)), (8, .int (J (CB (nxM (I 0) (I 3) (I 4) rm) (spM (I 0) (I 3) (I 4) rm) ea cs2 x a))), (0, .ref o), (1, .int (J i)), (2, .int (J v)), (3, .int (J ea)), (4, .int (J (mT rm (I 0)))), (6, .int (J x))]) hx hb dX6_findCosts_128 hl (k := 8) rfl (J_inc (by omega)) (by decide) rfl (fun ls hl => ?_)
                            refine lv_goto (tgt := 86) hx hb dX6_findCosts_131 (by decide) ?_
                            exact ih_86 (a + 1) 1 (uf cs2 x (CB (nxM (I 0) (I 3) (I 4) rm) (spM (I 0) (I 3) (I 4) rm) ea cs2 x a)) h H locs ls (by omega) (by omega) (RD_yes hNX he hRD (by omega) (by omega) (by omega) (by omega) c_113x) hM hF hW hS (lv_sub hl [3, 4, 5, 6, 7, 1, 8, 0] rfl)
                    exact loop_86 25 0 mo2 cs2 h H locs ls (by omega) (by omega) (by rw [Int.add_zero]; exact hRD) hM hF hW hS (lv_sub hl [1, 2, 3, 4, 5, 6, 7, 0] rfl)
              exact loop_76 ((mT rm (I 0)).toNat + 1) 0 0 cs h H locs ls (by omega) (by omega) (RD_0 hF0) hM hF hW hS (lv_sub hl [2, 3, 4, 5, 6, 1, 0] rfl)
        exact loop_65 ((2 * sT cs (mT rm (I 0)) + 1).toNat + 1) 1 cs h H locs ls (by have e9 : x = mT rm (I 0) := (by omega); have := FI_nn (FI_0 (nx := (nxM (I 0) (I 3) (I 4) rm)) (sp := (spM (I 0) (I 3) (I 4) rm)) (each := ea) (N := mT rm (I 0)) (go := (goM (I 0) rm i v)) (cs := cs) (fun s a b => hcs s a (by omega))); omega) (by omega) (FI_0 (fun s a b => hcs s a (by omega))) (fun q => absurd q (by decide)) hM hF hW hS (lv_sub hl [1, 2, 3, 4, 5, 0] rfl)
      · refine lv_aload_n hx hb dX6_findCosts_32 rfl (lv_at hl 0 rfl) ?_
        refine g_get (ci := 6) (C := RX6) (T := TX6) (N := 28) (v := .ref (R 16)) hx hb hfX6 (fun _ h9 => h9) hown hk hW hM.1 rfl 16 (by decide) (hts (.fieldLink RX6 39 "JugsAndGlassesModel" "costs" "[I") (by decide +kernel)) rfl rfl dX6_findCosts_33 ?_
        refine lv_iload hx hb dX6_findCosts_36 (lv_at hl 5 rfl) ?_
        refine lv_aload_n hx hb dX6_findCosts_38 rfl (lv_at hl 0 rfl) ?_
        refine lv_iload hx hb dX6_findCosts_39 (lv_at hl 5 rfl) ?_
        refine lv_iload_n hx hb dX6_findCosts_41 rfl (lv_at hl 1 rfl) ?_
        refine lv_iload_n hx hb dX6_findCosts_42 rfl (lv_at hl 2 rfl) ?_
        refine g_callV (As := [.int (J x), .int (J i), .int (J v)]) (rest := [.int (J x), .ref (R 16)]) (b := o) (ci := 6) (C := RX6) (T := TX6) (N := 28) ⟨hx, hb, hml, hown, hts⟩ (m_isMade l g base sa h o R J1 (va_up (va_up (va_up (va_up (va_up A 8 (rm)) 9 (f)) 14 (p14)) 15 (p15)) 16 (cs)) x i v hM ⟨by omega, by omega⟩ hi9 hv9 (by rw [j7]; exact hrm)) (cwV 3 hts gX6_findCosts_X6_isMade rfl rfl rfl (by decide +kernel) ⟨Nat.le_of_ble_eq_true rfl, Nat.le_of_ble_eq_true rfl⟩) hk hW hS hM.1 rfl rfl hl.1 (Nat.le_of_ble_eq_true rfl) dX6_findCosts_43 ⟨Nat.le_of_ble_eq_true rfl, Nat.le_of_ble_eq_true rfl⟩ (fun r9 h9 H locs hp hW hS => ?_)
        have hp : r9 = some (.int (J (b2i (goM (J1 7) rm i v x)))) ∧ Fr (FP 28 kd6 o R) h h9 ∧ OB g 6 28 kd6 h9 o R J1 mL (va_up (va_up (va_up (va_up (va_up (va_up A 8 (rm)) 9 (f)) 14 (p14)) 15 (p15)) 16 (cs)) 9 (p_lay (J1 7) rm f x)) := hp
        rw [j7] at hp
        obtain ⟨rfl, hF9, hM⟩ := hp
        refine W.eq (g2 := F0 m 46 ls [.int (J (b2i (goM (I 0) rm i v x))), .int (J x), .ref (R 16)]) rfl ?_
        have hF := hF.tr hF9 (fun q h1 _ => h1)
        generalize h9 = h at hM hF hW
        have hM : OB g 6 28 kd6 h o R J1 mL (va_up (va_up (va_up (va_up (va_up A 8 (rm)) 9 (p_lay (I 0) rm f x)) 14 (p14)) 15 (p15)) 16 (cs)) := by
          have e9 : (va_up (va_up (va_up (va_up (va_up (va_up A 8 (rm)) 9 (f)) 14 (p14)) 15 (p15)) 16 (cs)) 9 (p_lay (I 0) rm f x)) = (va_up (va_up (va_up (va_up (va_up A 8 (rm)) 9 (p_lay (I 0) rm f x)) 14 (p14)) 15 (p15)) 16 (cs)) := by funext q9; by_cases w8 : q9 = 8 <;> by_cases w9 : q9 = 9 <;> by_cases w14 : q9 = 14 <;> by_cases w15 : q9 = 15 <;> by_cases w16 : q9 = 16 <;> simp [va_up, w8, w9, w14, w15, w16]
          rw [← e9]
          exact hM
        have hbr := b2i_r (goM (I 0) rm i v x)
        have cut_55 : ∀ (t : Int) (ls : Array Slot), (t = if goM (I 0) rm i v x then 0 else fFAR) → (lv_has ls 9 [(0, .ref o), (1, .int (J i)), (2, .int (J v)), (3, .int (J ea)), (4, .int (J (mT rm (I 0)))), (5, .int (J x))]) → W p l e (headSpec wsX6_findCosts ({ frames := 2, cells := 0, slots := 0, locals := 48 })).room s m ([.ref o, .int (J i), .int (J v), .int (J ea)]).toArray below meth c H locs 0 0 (MQ below (QcM g base (fun r h' => r = none ∧ Fr (FP 28 kd6 o R) h0 h' ∧ ∃ I' A', OB g 6 28 kd6 h' o R I' mL A' ∧ FCO I I' A A' i v ea)) ([.ref o, .int (J i), .int (J v), .int (J ea)]).toArray s (0) (0) (Ab base)) (F0 m 55 ls [.int (J t), .int (J x), .ref (R 16)]) := by
          intro t  ls et hl
          refine o_iast (A' := (va_up (va_up (va_up (va_up (va_up A 8 (rm)) 9 (p_lay (I 0) rm f x)) 14 (p14)) 15 (p15)) 16 (uf cs x t))) (i := x) (x := t) hx hb hk hW hS hM hF 16 (by decide) rfl (FP.a 16 (by decide) ⟨by decide, by decide⟩) (by omega) (show x < 14641 from by omega) (show 14641 < 2147483648 from by omega) (bx_uu _ _ _ _) dX6_findCosts_55 (fun h H locs hM hF hst hW hS => ?_)
          refine lv_iinc (v := J (x + 1)) (lv' := [(5, .int (J (x + 1))), (0, .ref o), (1, .int (J i)), (2, .int (J v)), (3, .int (J ea)), (4, .int (J (mT rm (I 0))))]) hx hb dX6_findCosts_56 hl (k := 5) rfl (J_inc (by omega)) (by decide) rfl (fun ls hl => ?_)
          refine lv_goto (tgt := 25) hx hb dX6_findCosts_59 (by decide) ?_
          exact ih_25 (x + 1) (p_lay (I 0) rm f x) (uf cs x t) h H locs ls (by omega) (by omega) (by intro s h1 h2; by_cases e : s = x; (subst e; rw [uf_same]; exact et); (rw [uf_ne _ _ e]; exact hcs s h1 (by omega))) hM hF hW hS (lv_sub hl [1, 2, 3, 4, 5, 0] rfl)
        refine j_if_eq (x := b2i (goM (I 0) rm i v x)) (tgt := 53) hx hb ⟨by omega, by omega⟩ dX6_findCosts_46 (by decide) (fun c_46 => ?_) (fun c_46 => ?_)
        · refine j_ldc (z := 1000000000) hx hb (by decide) hown (hts (.constant RX6 111 (1000000000)) (by decide +kernel)) dX6_findCosts_53 ?_
          exact cut_55 _  ls (by unfold b2i at c_46; unfold fFAR; split at c_46 <;> simp_all) (lv_sub hl [0, 1, 2, 3, 4, 5] rfl)
        · refine lv_iconst (v := J (0)) hx hb dX6_findCosts_49 rfl ?_
          refine lv_goto (tgt := 55) hx hb dX6_findCosts_50 (by decide) ?_
          exact cut_55 _  ls (by unfold b2i at c_46; unfold fFAR; split at c_46 <;> simp_all) (lv_sub hl [0, 1, 2, 3, 4, 5] rfl)
  exact loop_25 ((mT rm (I 0)).toNat + 1) 0 f (A 16) h H locs ls (by omega) (by omega) (fun s h1 h2 => absurd h2 (by omega)) (by have e8 : (va_up (va_up (va_up (va_up (va_up A 8 (rm)) 9 (f)) 14 (p14)) 15 (p15)) 16 (A 16)) = (va_up (va_up (va_up (va_up A 8 (rm)) 9 (f)) 14 (p14)) 15 (p15)) := (by funext q; by_cases q2 : q = 16 <;> simp [va_up, q2]); rw [e8]; exact hM) hF hW hS (lv_sub hl [2, 3, 4, 5, 1, 0] rfl)
