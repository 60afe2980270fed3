set_option maxHeartbeats 4000000 in
set_option maxRecDepth 100000 in
theorem m_madeBy (l : Launch) (g : GX) (base : Nat) (sa : Nat → Nat) (h0 : Hp) (o : Nat) (R : Nat → Nat) (I : Nat → Int) (A : Nat → Int → Int) (k : Int) (hM : OB g 6 28 kd6 h0 o R I mL A) (hrm : Rm (I 7) (A 8)) (hk9 : 0 ≤ k ∧ k ≤ 14641) (hq9 : ∀ j, 0 ≤ j → j < k → 0 ≤ A 20 j ∧ A 20 j < 14641) : MC l g base sa yX6_madeBy wsX6_madeBy ({ frames := 1, cells := 0, slots := 0, locals := 23 }) ([.ref o, .int (J k)]) h0 (fun r h' => r = some (.int (J (mq (I 7) (A 8) (A 20) k.toNat))) ∧ Fr (FP 28 kd6 o R) h0 h' ∧ ∃ f, OB g 6 28 kd6 h' o R I mL (va_up A 9 f)) := by
  refine Met.ofW (cc := cX6_madeBy) (maxL := 5) (ret := (some .int)) (by decide) rfl ?_
  intro p e s m args below meth c s₁ B hml hv
  obtain ⟨rfl, hk, hW⟩ := hv
  have hx := B.exec
  have hb := B.bytes
  have hr := B.returns
  have hts := atoms_spec (ws := wsX6_madeBy) B.pre
  have hown : s.vm.findClass RX6 = some m.cls := findClass_of_methodNamed B.named
  have hlocks := B.notSynchronized
  have hfX6 : ∀ w ∈ wsX60, w.before ([.ref o, .int (J k)]).toArray s = true := fun w h => hts w (List.mem_cons_of_mem _ (List.mem_append_right _ h))
  have hS : va_S (Ab base) s.heap s.heap [] := va_S.rf
  have hl := lv_entry ([.ref o, .int (J k)]) (n := 5) (Nat.le_of_ble_eq_true rfl)
  rw [lg_entry_eq]
  generalize (lg_sl ([.ref o, .int (J k)]) ++ List.replicate (5 - (lg_sl ([.ref o, .int (J k)])).length) Slot.unset).toArray = ls at hl ⊢
  have hl : lv_has ls 5 [(0, .ref o), (1, .int (J k))] := hl
  have hF : Fr (FP 28 kd6 o R) h0 h0 := Fr.rf
  have hrm1 := hrm.1
  have hrm2 := hrm.2.1
  refine lv_iconst (v := J (0)) hx hb dX6_madeBy_0 rfl ?_
  refine lv_istore_n (lv' := [(2, .int (J 0)), (0, .ref o), (1, .int (J k))]) hx hb dX6_madeBy_1 rfl hl (by decide) rfl (fun ls hl => ?_)
  refine lv_iconst (v := J (0)) hx hb dX6_madeBy_2 rfl ?_
  refine lv_istore_n (lv' := [(3, .int (J 0)), (2, .int (J 0)), (0, .ref o), (1, .int (J k))]) hx hb dX6_madeBy_3 rfl hl (by decide) rfl (fun ls hl => ?_)
  have loop_4 : ∀ (n9 : Nat) (x : Int) (z : Int) (f : Int → Int) (h : Hp) (H : Heap) (locs : List Loc) (ls : Array Slot), k - x < (n9 : Int) → (0 ≤ x ∧ x ≤ k) → (z = mq (I 7) (A 8) (A 20) x.toNat) → (0 ≤ z ∧ z < 2 ^ 11) → (OB g 6 28 kd6 h o R I mL (va_up A 9 (f))) → (Fr (FP 28 kd6 o R) h0 h) → (Wd g base h H) → (va_S (Ab base) s.heap H locs) → (lv_has ls 5 [(0, .ref o), (1, .int (J k)), (2, .int (J z)), (3, .int (J x))]) → W p l e (headSpec wsX6_madeBy ({ frames := 1, cells := 0, slots := 0, locals := 23 })).room s m ([.ref o, .int (J k)]).toArray below meth c H locs 0 0 (MQ below (QcM g base (fun r h' => r = some (.int (J (mq (I 7) (A 8) (A 20) k.toNat))) ∧ Fr (FP 28 kd6 o R) h0 h' ∧ ∃ f, OB g 6 28 kd6 h' o R I mL (va_up A 9 f))) ([.ref o, .int (J k)]).toArray s (0) (0) (Ab base)) (F0 m 4 ls []) := by
    intro n9
    induction n9 with
    | zero =>
      intro x z f h H locs ls hmu hx9 ez zr hM hF hW hS hl
      exact absurd hmu (by omega)
    | succ n9 ih =>
      intro x z f h H locs ls hmu hx9 ez zr hM hF hW hS hl
      have ih_4 := ih
      refine lv_iload_n hx hb dX6_madeBy_4 rfl (lv_at hl 3 rfl) ?_
      refine lv_iload_n hx hb dX6_madeBy_5 rfl (lv_at hl 1 rfl) ?_
      refine j_icmp_ge (x := x) (y := k) (tgt := 55) hx hb ⟨by omega, by omega⟩ ⟨by omega, by omega⟩ dX6_madeBy_6 (by decide) (fun c_6 => ?_) (fun c_6 => ?_)
      · refine lv_iload_n hx hb dX6_madeBy_55 rfl (lv_at hl 2 rfl) ?_
        exact g_iret hx hb hr hW hS dX6_madeBy_56 hlocks (⟨congrArg (fun q : Int => some (Value.int (J q))) (show z = mq (I 7) (A 8) (A 20) k.toNat from by rw [ez, show x = k by omega]), hF, f, hM⟩)
      · have hqx := hq9 x hx9.1 (by omega)
        refine lv_aload_n hx hb dX6_madeBy_9 rfl (lv_at hl 0 rfl) ?_
        refine lv_aload_n hx hb dX6_madeBy_10 rfl (lv_at hl 0 rfl) ?_
        refine g_get (ci := 6) (C := RX6) (T := TX6) (N := 28) (v := .ref (R 20)) hx hb hfX6 (fun _ h9 => h9) hown hk hW hM.1 rfl 20 (by decide) (hts (.fieldLink RX6 50 "JugsAndGlassesModel" "queue" "[I") (by decide +kernel)) rfl rfl dX6_madeBy_11 ?_
        refine lv_iload_n hx hb dX6_madeBy_14 rfl (lv_at hl 3 rfl) ?_
        refine g_iald (n := 14641) (f := A 20) (i := x) hx hb hk hW (hM.ai 20 (by decide) rfl) (by omega) (by omega) (by omega) dX6_madeBy_15 ?_
        refine g_callV (As := [.int (J (A 20 x))]) (rest := []) (b := o) (ci := 6) (C := RX6) (T := TX6) (N := 28) ⟨hx, hb, hml, hown, hts⟩ (m_layState l g base sa h o R I (va_up A 9 (f)) (A 20 x) hM ⟨by omega, by omega⟩ ⟨hrm1, hrm2⟩ hrm.2.2) (cwV 1 hts gX6_madeBy_X6_layState rfl rfl rfl (by decide +kernel) ⟨Nat.le_of_ble_eq_true rfl, Nat.le_of_ble_eq_true rfl⟩) hk hW hS hM.1 rfl rfl hl.1 (Nat.le_of_ble_eq_true rfl) dX6_madeBy_16 ⟨Nat.le_of_ble_eq_true rfl, Nat.le_of_ble_eq_true rfl⟩ (fun r9 h9 H locs hp hW hS => ?_)
        have hp : r9 = none ∧ Fr (FP 28 kd6 o R) h h9 ∧ OB g 6 28 kd6 h9 o R I mL (va_up (va_up A 9 f) 9 (p_lay (I 7) (A 8) f (A 20 x))) := hp
        obtain ⟨rfl, hF9, hM⟩ := hp
        refine W.eq (g2 := F0 m 19 ls []) rfl ?_
        have hF := hF.tr hF9 (fun q h1 _ => h1)
        generalize h9 = h at hM hF hW
        rw [bx_uu] at hM
        refine lv_iconst (v := J (0)) hx hb dX6_madeBy_19 rfl ?_
        refine lv_istore (lv' := [(4, .int (J 0)), (0, .ref o), (1, .int (J k)), (2, .int (J z)), (3, .int (J x))]) hx hb dX6_madeBy_20 hl (by decide) rfl (fun ls hl => ?_)
        have loop_22 : ∀ (n9 : Nat) (i : Int) (y : Int) (h : Hp) (H : Heap) (locs : List Loc) (ls : Array Slot), I 7 - i < (n9 : Int) → (0 ≤ i ∧ i ≤ I 7) → (y = mb (DG (I 7) (A 8) (A 20 x)) z i.toNat) → (0 ≤ y ∧ y < 2 ^ 11) → (OB g 6 28 kd6 h o R I mL (va_up A 9 (p_lay (I 7) (A 8) f (A 20 x)))) → (Fr (FP 28 kd6 o R) h0 h) → (Wd g base h H) → (va_S (Ab base) s.heap H locs) → (lv_has ls 5 [(0, .ref o), (1, .int (J k)), (2, .int (J y)), (3, .int (J x)), (4, .int (J i))]) → W p l e (headSpec wsX6_madeBy ({ frames := 1, cells := 0, slots := 0, locals := 23 })).room s m ([.ref o, .int (J k)]).toArray below meth c H locs 0 0 (MQ below (QcM g base (fun r h' => r = some (.int (J (mq (I 7) (A 8) (A 20) k.toNat))) ∧ Fr (FP 28 kd6 o R) h0 h' ∧ ∃ f, OB g 6 28 kd6 h' o R I mL (va_up A 9 f))) ([.ref o, .int (J k)]).toArray s (0) (0) (Ab base)) (F0 m 22 ls []) := by
          intro n9
          induction n9 with
          | zero =>
            intro i y h H locs ls hmu hi9 ey yr hM hF hW hS hl
            exact absurd hmu (by omega)
          | succ n9 ih =>
            intro i y h H locs ls hmu hi9 ey yr hM hF hW hS hl
            have ih_22 := ih
            refine lv_iload hx hb dX6_madeBy_22 (lv_at hl 4 rfl) ?_
            refine lv_aload_n hx hb dX6_madeBy_24 rfl (lv_at hl 0 rfl) ?_
            refine g_get (ci := 6) (C := RX6) (T := TX6) (N := 28) (v := .int (J (I 7))) hx hb hfX6 (fun _ h9 => h9) hown hk hW hM.1 rfl 7 (by decide) (hts (.fieldLink RX6 79 "JugsAndGlassesModel" "tried" "I") (by decide +kernel)) rfl rfl dX6_madeBy_25 ?_
            refine j_icmp_ge (x := i) (y := I 7) (tgt := 49) hx hb ⟨by omega, by omega⟩ ⟨by omega, by omega⟩ dX6_madeBy_28 (by decide) (fun c_28 => ?_) (fun c_28 => ?_)
            · refine lv_iinc (v := J (x + 1)) (lv' := [(3, .int (J (x + 1))), (0, .ref o), (1, .int (J k)), (2, .int (J y)), (4, .int (J i))]) hx hb dX6_madeBy_49 hl (k := 3) rfl (J_inc (by omega)) (by decide) rfl (fun ls hl => ?_)
              refine lv_goto (tgt := 4) hx hb dX6_madeBy_52 (by decide) ?_
              exact ih_4 (x + 1) y (p_lay (I 7) (A 8) f (A 20 x)) h H locs ls (by omega) (by omega) (by rw [ey, show i = I 7 by omega, ez, ← mq_s _ _ _ hx9.1]) yr hM hF hW hS (lv_sub hl [1, 2, 3, 0] rfl)
            · have hlv := lay_v hrm f (A 20 x) i hi9.1 (by omega)
              have hri := hrm.2.2 i hi9.1 (by omega)
              have hpw := pw_r (x := p_lay (I 7) (A 8) f (A 20 x) i) (by omega) (by omega)
              refine lv_iload_n hx hb dX6_madeBy_31 rfl (lv_at hl 2 rfl) ?_
              refine lv_iconst (v := J (1)) hx hb dX6_madeBy_32 rfl ?_
              refine lv_aload_n hx hb dX6_madeBy_33 rfl (lv_at hl 0 rfl) ?_
              refine g_get (ci := 6) (C := RX6) (T := TX6) (N := 28) (v := .ref (R 9)) hx hb hfX6 (fun _ h9 => h9) hown hk hW hM.1 rfl 9 (by decide) (hts (.fieldLink RX6 29 "JugsAndGlassesModel" "has" "[I") (by decide +kernel)) rfl rfl dX6_madeBy_34 ?_
              refine lv_iload hx hb dX6_madeBy_37 (lv_at hl 4 rfl) ?_
              refine g_iald (n := 4) (f := p_lay (I 7) (A 8) f (A 20 x)) (i := i) hx hb hk hW (hM.ai 9 (by decide) rfl) (by omega) (by omega) (by omega) dX6_madeBy_39 ?_
              refine j_shl1 (y := (p_lay (I 7) (A 8) f (A 20 x)) i) hx hb (by omega) (by omega) dX6_madeBy_40 ?_
              refine j_ior (x := y) (y := 2 ^ ((p_lay (I 7) (A 8) f (A 20 x)) i).toNat) hx hb (by omega) (by omega) (by omega) (by omega) dX6_madeBy_41 ?_
              refine lv_istore_n (lv' := [(2, .int (J (orI y (2 ^ ((p_lay (I 7) (A 8) f (A 20 x)) i).toNat)))), (0, .ref o), (1, .int (J k)), (3, .int (J x)), (4, .int (J i))]) hx hb dX6_madeBy_42 rfl hl (by decide) rfl (fun ls hl => ?_)
              refine lv_iinc (v := J (i + 1)) (lv' := [(4, .int (J (i + 1))), (2, .int (J (orI y (2 ^ ((p_lay (I 7) (A 8) f (A 20 x)) i).toNat)))), (0, .ref o), (1, .int (J k)), (3, .int (J x))]) hx hb dX6_madeBy_43 hl (k := 4) rfl (J_inc (by omega)) (by decide) rfl (fun ls hl => ?_)
              refine lv_goto (tgt := 22) hx hb dX6_madeBy_46 (by decide) ?_
              exact ih_22 (i + 1) (orI y (2 ^ ((p_lay (I 7) (A 8) f (A 20 x)) i).toNat)) h H locs ls (by omega) (by omega) (by rw [mb_s _ _ hi9.1, ey, p_lay_DG hi9.1 (by omega)]) (orI_r (by omega) (by omega) yr.2 hpw.2) hM hF hW hS (lv_sub hl [2, 3, 1, 4, 0] rfl)
        exact loop_22 ((I 7).toNat + 1) 0 z h H locs ls (by omega) (by omega) rfl zr hM hF hW hS (lv_sub hl [1, 2, 3, 4, 0] rfl)
  exact loop_4 (k.toNat + 1) 0 0 (A 9) h0 s.heap [] ls (by omega) (by omega) rfl (by omega) (by rw [va_up_id]; exact hM) hF hW hS (lv_sub hl [2, 3, 1, 0] rfl)

set_option maxHeartbeats 4000000 in
set_option maxRecDepth 100000 in
theorem m_reaches (l : Launch) (g : GX) (base : Nat) (sa : Nat → Nat) (h0 : Hp) (o : Nat) (R : Nat → Nat) (I : Nat → Int) (A : Nat → Int → Int) (hM : OB g 6 28 kd6 h0 o R I mL A) (hm : Mok I A) : MC l g base sa yX6_reaches wsX6_reaches ({ frames := 2, cells := 0, slots := 0, locals := 49 }) ([.ref o]) h0 (fun r h' => Fr (FP 28 kd6 o R) h0 h' ∧ ∃ I' A' rm q k, OB g 6 28 kd6 h' o R I' mL A' ∧ RS I I' A A' ∧ Rm (I 0) rm ∧ (∀ j, 0 ≤ j → j < I 0 → rm j = A 1 j) ∧ RE (mT rm (I 0)) (nxM (I 0) (I 3) (I 4) rm) (nT rm (A 2) (I 0)) q k ∧ r = some (.int (J (k)))) := by
  refine Met.ofW (cc := cX6_reaches) (maxL := 1) (ret := (some .int)) (by decide) rfl ?_
  intro p e s m args below meth c s₁ B hml hv
  obtain ⟨rfl, hk, hW⟩ := hv
  have hx := B.exec
  have hb := B.bytes
  have hr := B.returns
  have hts := atoms_spec (ws := wsX6_reaches) B.pre
  have hown : s.vm.findClass RX6 = some m.cls := findClass_of_methodNamed B.named
  have hlocks := B.notSynchronized
  have hfX6 : ∀ w ∈ wsX60, w.before ([.ref o]).toArray s = true := fun w h => hts w (List.mem_cons_of_mem _ (List.mem_append_right _ h))
  have hS : va_S (Ab base) s.heap s.heap [] := va_S.rf
  have hl := lv_entry ([.ref o]) (n := 1) (Nat.le_of_ble_eq_true rfl)
  rw [lg_entry_eq]
  generalize (lg_sl ([.ref o]) ++ List.replicate (1 - (lg_sl ([.ref o])).length) Slot.unset).toArray = ls at hl ⊢
  have hl : lv_has ls 1 [(0, .ref o)] := hl
  have hF : Fr (FP 28 kd6 o R) h0 h0 := Fr.rf
  obtain ⟨hm1, hm2, hm3, hm4, hm5, hm6, hm7, hm8, hm9⟩ := id hm
  have hn : 0 ≤ I 0 ∧ I 0 ≤ 4 := ⟨hm1, hm2⟩
  refine lv_aload_n hx hb dX6_reaches_0 rfl (lv_at hl 0 rfl) ?_
  refine g_callV (As := []) (rest := []) (b := o) (ci := 6) (C := RX6) (T := TX6) (N := 28) ⟨hx, hb, hml, hown, hts⟩ (m_tryOwn l g base sa h0 o R I A hM hn hm3 hm4) (cwV 0 hts gX6_reaches_X6_tryOwn rfl rfl rfl (by decide +kernel) ⟨Nat.le_of_ble_eq_true rfl, Nat.le_of_ble_eq_true rfl⟩) hk hW hS hM.1 rfl rfl hl.1 (Nat.le_of_ble_eq_true rfl) dX6_reaches_1 ⟨Nat.le_of_ble_eq_true rfl, Nat.le_of_ble_eq_true rfl⟩ (fun r9 h9 H locs hp hW hS => ?_)
  obtain ⟨rfl, hF9, hM⟩ := hp
  refine W.eq (g2 := F0 m 4 ls []) rfl ?_
  have hF := hF.tr hF9 (fun q h1 _ => h1)
  generalize h9 = h at hM hF hW
  obtain ⟨rm, erm⟩ : ∃ rm, rm = cpN (I 0) (A 1) (A 8) := ⟨_, rfl⟩
  obtain ⟨f0, ef0⟩ : ∃ f0, f0 = cpN (I 0) (A 2) (A 9) := ⟨_, rfl⟩
  rw [← erm, ← ef0] at hM
  have hrm : Rm (I 0) rm := by rw [erm]; exact Rm_own hm _
  have hvh : Vh (I 0) rm f0 := by rw [erm, ef0]; exact Vh_own hm _ _
  have hmr := mT_r hrm
  have hst := nT_r hm1 hvh
  have hNX := LA_NX (tp := I 3) (dr := I 4) hrm
  refine lv_aload_n hx hb dX6_reaches_4 rfl (lv_at hl 0 rfl) ?_
  refine lv_aload_n hx hb dX6_reaches_5 rfl (lv_at hl 0 rfl) ?_
  refine g_callV (As := []) (rest := [.ref o]) (b := o) (ci := 6) (C := RX6) (T := TX6) (N := 28) ⟨hx, hb, hml, hown, hts⟩ (m_numberOf l g base sa h o R (va_up (va_up (va_up I 7 (I 0)) 10 (I 3)) 11 (I 4)) (va_up (va_up A 8 (rm)) 9 (f0)) hM hn) (cwV 0 hts gX6_reaches_X6_numberOf rfl rfl rfl (by decide +kernel) ⟨Nat.le_of_ble_eq_true rfl, Nat.le_of_ble_eq_true rfl⟩) hk hW hS hM.1 rfl rfl hl.1 (Nat.le_of_ble_eq_true rfl) dX6_reaches_6 ⟨Nat.le_of_ble_eq_true rfl, Nat.le_of_ble_eq_true rfl⟩ (fun r9 h9 H locs hp hW hS => ?_)
  have hp : r9 = some (.int (J (nT rm f0 (I 0)))) ∧ h9 = h := hp
  obtain ⟨rfl, e9⟩ := hp
  rw [e9] at hW
  refine W.eq (g2 := F0 m 9 ls [.int (J (nT rm f0 (I 0))), .ref o]) rfl ?_
  refine g_callV (As := [.int (J (nT rm f0 (I 0)))]) (rest := []) (b := o) (ci := 6) (C := RX6) (T := TX6) (N := 28) ⟨hx, hb, hml, hown, hts⟩ (m_reach l g base sa h o R (va_up (va_up (va_up I 7 (I 0)) 10 (I 3)) 11 (I 4)) (va_up (va_up A 8 (rm)) 9 (f0)) (nT rm f0 (I 0)) hM hrm hm3 hm4 hst) (cwV 1 hts gX6_reaches_X6_reach rfl rfl rfl (by decide +kernel) ⟨Nat.le_of_ble_eq_true rfl, Nat.le_of_ble_eq_true rfl⟩) hk hW hS hM.1 rfl rfl hl.1 (Nat.le_of_ble_eq_true rfl) dX6_reaches_9 ⟨Nat.le_of_ble_eq_true rfl, Nat.le_of_ble_eq_true rfl⟩ (fun r9 h9 H locs hp hW hS => ?_)
  have hp : ∃ k, r9 = some (.int (J k)) ∧ Fr (FP 28 kd6 o R) h h9 ∧ ∃ I' f rch q, OB g 6 28 kd6 h9 o R I' mL (va_up (va_up (va_up (va_up (va_up A 8 (rm)) 9 (f0)) 9 f) 19 rch) 20 q) ∧ (∀ k, k ≠ 12 → k ≠ 13 → I' k = (va_up (va_up (va_up I 7 (I 0)) 10 (I 3)) 11 (I 4)) k) ∧ RE (mT rm (I 0)) (nxM (I 0) (I 3) (I 4) rm) (nT rm f0 (I 0)) q k := hp
  obtain ⟨k, rfl, hF9, J1, f, rch, q, hM, hJ, hRE⟩ := hp
  refine W.eq (g2 := F0 m 12 ls [.int (J k)]) rfl ?_
  have hF := hF.tr hF9 (fun q h1 _ => h1)
  generalize h9 = h at hM hF hW
  have hM : OB g 6 28 kd6 h o R J1 mL (va_up (va_up (va_up (va_up A 8 (rm)) 9 (f)) 19 (rch)) 20 (q)) := by
    have e9 : (va_up (va_up (va_up (va_up (va_up A 8 (rm)) 9 (f0)) 9 (f)) 19 (rch)) 20 (q)) = (va_up (va_up (va_up (va_up A 8 (rm)) 9 (f)) 19 (rch)) 20 (q)) := by funext q9; by_cases w8 : q9 = 8 <;> by_cases w9 : q9 = 9 <;> by_cases w19 : q9 = 19 <;> by_cases w20 : q9 = 20 <;> simp [va_up, w8, w9, w19, w20]
    rw [← e9]
    exact hM
  have j0 : J1 0 = I 0 := hJ 0 (by decide) (by decide)
  have j3 : J1 3 = I 3 := hJ 3 (by decide) (by decide)
  have j4 : J1 4 = I 4 := hJ 4 (by decide) (by decide)
  have j5 : J1 5 = I 5 := hJ 5 (by decide) (by decide)
  have j7 : J1 7 = I 0 := hJ 7 (by decide) (by decide)
  rw [show nT rm f0 (I 0) = nT rm (A 2) (I 0) from nT_congr (fun j h1 h2 => by rw [ef0, cpN_in h1 h2])] at hRE
  have hre1 := hRE.1
  have hre2 := hRE.2.1
  exact g_iret hx hb hr hW hS dX6_reaches_12 hlocks (⟨hF, J1, _, rm, q, k, hM, ⟨j0, j3, j4, j5, rfl, rfl, rfl⟩, hrm, fun j h1 h2 => by rw [erm, cpN_in h1 h2], hRE, rfl⟩)

set_option maxHeartbeats 4000000 in
set_option maxRecDepth 100000 in
theorem m_makes (l : Launch) (g : GX) (base : Nat) (sa : Nat → Nat) (h0 : Hp) (o : Nat) (R : Nat → Nat) (I : Nat → Int) (A : Nat → Int → Int) (hM : OB g 6 28 kd6 h0 o R I mL A) (hm : Mok I A) : MC l g base sa yX6_makes wsX6_makes ({ frames := 2, cells := 0, slots := 0, locals := 49 }) ([.ref o]) h0 (fun r h' => Fr (FP 28 kd6 o R) h0 h' ∧ ∃ I' A' rm q k, OB g 6 28 kd6 h' o R I' mL A' ∧ RS I I' A A' ∧ Rm (I 0) rm ∧ (∀ j, 0 ≤ j → j < I 0 → rm j = A 1 j) ∧ RE (mT rm (I 0)) (nxM (I 0) (I 3) (I 4) rm) (nT rm (A 2) (I 0)) q k ∧ r = some (.int (J (mq (I 0) rm q k.toNat)))) := by
  refine Met.ofW (cc := cX6_makes) (maxL := 1) (ret := (some .int)) (by decide) rfl ?_
  intro p e s m args below meth c s₁ B hml hv
  obtain ⟨rfl, hk, hW⟩ := hv
  have hx := B.exec
  have hb := B.bytes
  have hr := B.returns
  have hts := atoms_spec (ws := wsX6_makes) B.pre
  have hown : s.vm.findClass RX6 = some m.cls := findClass_of_methodNamed B.named
  have hlocks := B.notSynchronized
  have hfX6 : ∀ w ∈ wsX60, w.before ([.ref o]).toArray s = true := fun w h => hts w (List.mem_cons_of_mem _ (List.mem_append_right _ h))
  have hS : va_S (Ab base) s.heap s.heap [] := va_S.rf
  have hl := lv_entry ([.ref o]) (n := 1) (Nat.le_of_ble_eq_true rfl)
  rw [lg_entry_eq]
  generalize (lg_sl ([.ref o]) ++ List.replicate (1 - (lg_sl ([.ref o])).length) Slot.unset).toArray = ls at hl ⊢
  have hl : lv_has ls 1 [(0, .ref o)] := hl
  have hF : Fr (FP 28 kd6 o R) h0 h0 := Fr.rf
  obtain ⟨hm1, hm2, hm3, hm4, hm5, hm6, hm7, hm8, hm9⟩ := id hm
  have hn : 0 ≤ I 0 ∧ I 0 ≤ 4 := ⟨hm1, hm2⟩
  refine lv_aload_n hx hb dX6_makes_0 rfl (lv_at hl 0 rfl) ?_
  refine g_callV (As := []) (rest := []) (b := o) (ci := 6) (C := RX6) (T := TX6) (N := 28) ⟨hx, hb, hml, hown, hts⟩ (m_tryOwn l g base sa h0 o R I A hM hn hm3 hm4) (cwV 0 hts gX6_makes_X6_tryOwn rfl rfl rfl (by decide +kernel) ⟨Nat.le_of_ble_eq_true rfl, Nat.le_of_ble_eq_true rfl⟩) hk hW hS hM.1 rfl rfl hl.1 (Nat.le_of_ble_eq_true rfl) dX6_makes_1 ⟨Nat.le_of_ble_eq_true rfl, Nat.le_of_ble_eq_true rfl⟩ (fun r9 h9 H locs hp hW hS => ?_)
  obtain ⟨rfl, hF9, hM⟩ := hp
  refine W.eq (g2 := F0 m 4 ls []) rfl ?_
  have hF := hF.tr hF9 (fun q h1 _ => h1)
  generalize h9 = h at hM hF hW
  obtain ⟨rm, erm⟩ : ∃ rm, rm = cpN (I 0) (A 1) (A 8) := ⟨_, rfl⟩
  obtain ⟨f0, ef0⟩ : ∃ f0, f0 = cpN (I 0) (A 2) (A 9) := ⟨_, rfl⟩
  rw [← erm, ← ef0] at hM
  have hrm : Rm (I 0) rm := by rw [erm]; exact Rm_own hm _
  have hvh : Vh (I 0) rm f0 := by rw [erm, ef0]; exact Vh_own hm _ _
  have hmr := mT_r hrm
  have hst := nT_r hm1 hvh
  have hNX := LA_NX (tp := I 3) (dr := I 4) hrm
  refine lv_aload_n hx hb dX6_makes_4 rfl (lv_at hl 0 rfl) ?_
  refine lv_aload_n hx hb dX6_makes_5 rfl (lv_at hl 0 rfl) ?_
  refine lv_aload_n hx hb dX6_makes_6 rfl (lv_at hl 0 rfl) ?_
  refine g_callV (As := []) (rest := [.ref o, .ref o]) (b := o) (ci := 6) (C := RX6) (T := TX6) (N := 28) ⟨hx, hb, hml, hown, hts⟩ (m_numberOf l g base sa h o R (va_up (va_up (va_up I 7 (I 0)) 10 (I 3)) 11 (I 4)) (va_up (va_up A 8 (rm)) 9 (f0)) hM hn) (cwV 0 hts gX6_makes_X6_numberOf rfl rfl rfl (by decide +kernel) ⟨Nat.le_of_ble_eq_true rfl, Nat.le_of_ble_eq_true rfl⟩) hk hW hS hM.1 rfl rfl hl.1 (Nat.le_of_ble_eq_true rfl) dX6_makes_7 ⟨Nat.le_of_ble_eq_true rfl, Nat.le_of_ble_eq_true rfl⟩ (fun r9 h9 H locs hp hW hS => ?_)
  have hp : r9 = some (.int (J (nT rm f0 (I 0)))) ∧ h9 = h := hp
  obtain ⟨rfl, e9⟩ := hp
  rw [e9] at hW
  refine W.eq (g2 := F0 m 10 ls [.int (J (nT rm f0 (I 0))), .ref o, .ref o]) rfl ?_
  refine g_callV (As := [.int (J (nT rm f0 (I 0)))]) (rest := [.ref o]) (b := o) (ci := 6) (C := RX6) (T := TX6) (N := 28) ⟨hx, hb, hml, hown, hts⟩ (m_reach l g base sa h o R (va_up (va_up (va_up I 7 (I 0)) 10 (I 3)) 11 (I 4)) (va_up (va_up A 8 (rm)) 9 (f0)) (nT rm f0 (I 0)) hM hrm hm3 hm4 hst) (cwV 1 hts gX6_makes_X6_reach rfl rfl rfl (by decide +kernel) ⟨Nat.le_of_ble_eq_true rfl, Nat.le_of_ble_eq_true rfl⟩) hk hW hS hM.1 rfl rfl hl.1 (Nat.le_of_ble_eq_true rfl) dX6_makes_10 ⟨Nat.le_of_ble_eq_true rfl, Nat.le_of_ble_eq_true rfl⟩ (fun r9 h9 H locs hp hW hS => ?_)
  have hp : ∃ k, r9 = some (.int (J k)) ∧ Fr (FP 28 kd6 o R) h h9 ∧ ∃ I' f rch q, OB g 6 28 kd6 h9 o R I' mL (va_up (va_up (va_up (va_up (va_up A 8 (rm)) 9 (f0)) 9 f) 19 rch) 20 q) ∧ (∀ k, k ≠ 12 → k ≠ 13 → I' k = (va_up (va_up (va_up I 7 (I 0)) 10 (I 3)) 11 (I 4)) k) ∧ RE (mT rm (I 0)) (nxM (I 0) (I 3) (I 4) rm) (nT rm f0 (I 0)) q k := hp
  obtain ⟨k, rfl, hF9, J1, f, rch, q, hM, hJ, hRE⟩ := hp
  refine W.eq (g2 := F0 m 13 ls [.int (J k), .ref o]) rfl ?_
  have hF := hF.tr hF9 (fun q h1 _ => h1)
  generalize h9 = h at hM hF hW
  have hM : OB g 6 28 kd6 h o R J1 mL (va_up (va_up (va_up (va_up A 8 (rm)) 9 (f)) 19 (rch)) 20 (q)) := by
    have e9 : (va_up (va_up (va_up (va_up (va_up A 8 (rm)) 9 (f0)) 9 (f)) 19 (rch)) 20 (q)) = (va_up (va_up (va_up (va_up A 8 (rm)) 9 (f)) 19 (rch)) 20 (q)) := by funext q9; by_cases w8 : q9 = 8 <;> by_cases w9 : q9 = 9 <;> by_cases w19 : q9 = 19 <;> by_cases w20 : q9 = 20 <;> simp [va_up, w8, w9, w19, w20]
    rw [← e9]
    exact hM
  have j0 : J1 0 = I 0 := hJ 0 (by decide) (by decide)
  have j3 : J1 3 = I 3 := hJ 3 (by decide) (by decide)
  have j4 : J1 4 = I 4 := hJ 4 (by decide) (by decide)
  have j5 : J1 5 = I 5 := hJ 5 (by decide) (by decide)
  have j7 : J1 7 = I 0 := hJ 7 (by decide) (by decide)
  rw [show nT rm f0 (I 0) = nT rm (A 2) (I 0) from nT_congr (fun j h1 h2 => by rw [ef0, cpN_in h1 h2])] at hRE
  have hre1 := hRE.1
  have hre2 := hRE.2.1
  refine g_callV (As := [.int (J k)]) (rest := []) (b := o) (ci := 6) (C := RX6) (T := TX6) (N := 28) ⟨hx, hb, hml, hown, hts⟩ (m_madeBy l g base sa h o R J1 (va_up (va_up (va_up (va_up A 8 (rm)) 9 (f)) 19 (rch)) 20 (q)) k hM (by rw [j7]; exact hrm) ⟨by omega, by omega⟩ (fun j h1 h2 => ⟨(hRE.2.2.1 j h1 h2).1, show q j < 14641 from by have := (hRE.2.2.1 j h1 h2).2.1; omega⟩)) (cwV 1 hts gX6_makes_X6_madeBy rfl rfl rfl (by decide +kernel) ⟨Nat.le_of_ble_eq_true rfl, Nat.le_of_ble_eq_true rfl⟩) hk hW hS hM.1 rfl rfl hl.1 (Nat.le_of_ble_eq_true rfl) dX6_makes_13 ⟨Nat.le_of_ble_eq_true rfl, Nat.le_of_ble_eq_true rfl⟩ (fun r9 h9 H locs hp hW hS => ?_)
  have hp : r9 = some (.int (J (mq (J1 7) rm q k.toNat))) ∧ Fr (FP 28 kd6 o R) h h9 ∧ ∃ f9, OB g 6 28 kd6 h9 o R J1 mL (va_up (va_up (va_up (va_up (va_up A 8 (rm)) 9 (f)) 19 (rch)) 20 (q)) 9 f9) := hp
  rw [j7] at hp
  obtain ⟨rfl, hF9, f2, hM⟩ := hp
  refine W.eq (g2 := F0 m 16 ls [.int (J (mq (I 0) rm q k.toNat))]) rfl ?_
  have hF := hF.tr hF9 (fun q h1 _ => h1)
  generalize h9 = h at hM hF hW
  have hM : OB g 6 28 kd6 h o R J1 mL (va_up (va_up (va_up (va_up A 8 (rm)) 9 (f2)) 19 (rch)) 20 (q)) := by
    have e9 : (va_up (va_up (va_up (va_up (va_up A 8 (rm)) 9 (f)) 19 (rch)) 20 (q)) 9 (f2)) = (va_up (va_up (va_up (va_up A 8 (rm)) 9 (f2)) 19 (rch)) 20 (q)) := by funext q9; by_cases w8 : q9 = 8 <;> by_cases w9 : q9 = 9 <;> by_cases w19 : q9 = 19 <;> by_cases w20 : q9 = 20 <;> simp [va_up, w8, w9, w19, w20]
    rw [← e9]
    exact hM
  exact g_iret hx hb hr hW hS dX6_makes_16 hlocks (⟨hF, J1, _, rm, q, k, hM, ⟨j0, j3, j4, j5, rfl, rfl, rfl⟩, hrm, fun j h1 h2 => by rw [erm, cpN_in h1 h2], hRE, rfl⟩)

set_option maxHeartbeats 4000000 in
set_option maxRecDepth 100000 in
theorem m_road (l : Launch) (g : GX) (base : Nat) (sa : Nat → Nat) (h0 : Hp) (o : Nat) (R : Nat → Nat) (I : Nat → Int) (A : Nat → Int → Int) (i v : Int) (hM : OB g 6 28 kd6 h0 o R I mL A) (hi9 : i32 i) (hv9 : i32 v) (hm : Mok I A) : MC l g base sa yX6_road wsX6_road ({ frames := 2, cells := 0, slots := 0, locals := 43 }) ([.ref o, .int (J i), .int (J v)]) h0 (fun r h' => r = some (.int (J (if (0 ≤ i ∧ i < I 0 ∧ 1 ≤ v ∧ v ≤ 10) then (if I 0 = 2 then rdF (A 1 i) (A 1 (1 - i)) v 121 0 0 0 else -3) else -2))) ∧ h' = h0) := by
  refine Met.ofW (cc := cX6_road) (maxL := 8) (ret := (some .int)) (by decide) rfl ?_
  intro p e s m args below meth c s₁ B hml hv
  obtain ⟨rfl, hk, hW⟩ := hv
  have hx := B.exec
  have hb := B.bytes
  have hr := B.returns
  have hts := atoms_spec (ws := wsX6_road) B.pre
  have hown : s.vm.findClass RX6 = some m.cls := findClass_of_methodNamed B.named
  have hlocks := B.notSynchronized
  have hfX6 : ∀ w ∈ wsX60, w.before ([.ref o, .int (J i), .int (J v)]).toArray s = true := fun w h => hts w (List.mem_cons_of_mem _ (List.mem_append_right _ h))
  have hS : va_S (Ab base) s.heap s.heap [] := va_S.rf
  have hl := lv_entry ([.ref o, .int (J i), .int (J v)]) (n := 8) (Nat.le_of_ble_eq_true rfl)
  rw [lg_entry_eq]
  generalize (lg_sl ([.ref o, .int (J i), .int (J v)]) ++ List.replicate (8 - (lg_sl ([.ref o, .int (J i), .int (J v)])).length) Slot.unset).toArray = ls at hl ⊢
  have hl : lv_has ls 8 [(0, .ref o), (1, .int (J i)), (2, .int (J v))] := hl
  obtain ⟨hm1, hm2, hm3, hm4, hm5, hm6, hm7, hm8, hm9⟩ := id hm
  have hn : 0 ≤ I 0 ∧ I 0 ≤ 4 := ⟨hm1, hm2⟩
  refine lv_aload_n hx hb dX6_road_0 rfl (lv_at hl 0 rfl) ?_
  refine lv_iload_n hx hb dX6_road_1 rfl (lv_at hl 1 rfl) ?_
  refine g_callV (As := [.int (J i)]) (rest := []) (b := o) (ci := 6) (C := RX6) (T := TX6) (N := 28) ⟨hx, hb, hml, hown, hts⟩ (m_isJug l g base sa h0 o R I A i hM hi9 hn) (cwV 1 hts gX6_road_X6_isJug rfl rfl rfl (by decide +kernel) ⟨Nat.le_of_ble_eq_true rfl, Nat.le_of_ble_eq_true rfl⟩) hk hW hS hM.1 rfl rfl hl.1 (Nat.le_of_ble_eq_true rfl) dX6_road_2 ⟨Nat.le_of_ble_eq_true rfl, Nat.le_of_ble_eq_true rfl⟩ (fun r9 h9 H locs hp hW hS => ?_)
  obtain ⟨rfl, e9⟩ := hp
  rw [e9] at hW
  refine W.eq (g2 := F0 m 5 ls [.int (J (p_in i 0 (I 0 - 1)))]) rfl ?_
  have hpr := p_in_r i 0 (I 0 - 1)
  refine j_if_eq (x := p_in i 0 (I 0 - 1)) (tgt := 18) hx hb ⟨by omega, by omega⟩ dX6_road_5 (by decide) (fun c_5 => ?_) (fun c_5 => ?_)
  · refine lv_bipush (v := J (-2)) hx hb dX6_road_18 (by decide) ?_
    exact g_iret hx hb hr hW hS dX6_road_20 hlocks (⟨congrArg (fun q : Int => some (Value.int (J q))) (show -2 = (if (0 ≤ i ∧ i < I 0 ∧ 1 ≤ v ∧ v ≤ 10) then (if I 0 = 2 then rdF (A 1 i) (A 1 (1 - i)) v 121 0 0 0 else -3) else -2) from by first | (have := p_in_0 c_15; rw [if_neg (by omega)]) | (have := p_in_0 c_5; rw [if_neg (by omega)])), rfl⟩)
  · have hq1 := p_in_1 c_5
    refine lv_iload_n hx hb dX6_road_8 rfl (lv_at hl 2 rfl) ?_
    refine lv_iconst (v := J (1)) hx hb dX6_road_9 rfl ?_
    refine lv_bipush (v := J (10)) hx hb dX6_road_10 (by decide) ?_
    refine g_callS (As := [.int (J v), .int (J 1), .int (J 10)]) (rest := []) ⟨hx, hb, hml, hown, hts⟩ (m_in l g base sa h0 v 1 10 hv9 ⟨by decide, by decide⟩ ⟨by decide, by decide⟩) (va_cwS 3 hts gX6_road_X6_in rfl rfl rfl (by decide +kernel) ⟨Nat.le_of_ble_eq_true rfl, Nat.le_of_ble_eq_true rfl⟩) hk hW hS rfl hl.1 (Nat.le_of_ble_eq_true rfl) dX6_road_12 ⟨Nat.le_of_ble_eq_true rfl, Nat.le_of_ble_eq_true rfl⟩ (fun r9 h9 H locs hp hW hS => ?_)
    obtain ⟨rfl, e9⟩ := hp
    rw [e9] at hW
    refine W.eq (g2 := F0 m 15 ls [.int (J (p_in v 1 10))]) rfl ?_
    have hpr_15 := p_in_r v 1 10
    refine j_if_ne (x := p_in v 1 10) (tgt := 21) hx hb ⟨by omega, by omega⟩ dX6_road_15 (by decide) (fun c_15 => ?_) (fun c_15 => ?_)
    · have hq2 := p_in_1 c_15
      refine lv_aload_n hx hb dX6_road_21 rfl (lv_at hl 0 rfl) ?_
      refine g_get (ci := 6) (C := RX6) (T := TX6) (N := 28) (v := .int (J (I 0))) hx hb hfX6 (fun _ h9 => h9) hown hk hW hM.1 rfl 0 (by decide) (hts (.fieldLink RX6 67 "JugsAndGlassesModel" "jugs" "I") (by decide +kernel)) rfl rfl dX6_road_22 ?_
      refine lv_iconst (v := J (2)) hx hb dX6_road_25 rfl ?_
      refine j_icmp_eq (x := I 0) (y := 2) (tgt := 32) hx hb ⟨by omega, by omega⟩ ⟨by decide, by decide⟩ dX6_road_26 (by decide) (fun c_26 => ?_) (fun c_26 => ?_)
      · have hsi := hm5 i (by omega) (by omega)
        have hsj := hm5 (1 - i) (by omega) (by omega)
        have hok := rdF_ok (v := v) hsi hsj ⟨by omega, by omega⟩
        refine lv_iconst (v := J (1)) hx hb dX6_road_32 rfl ?_
        refine lv_iload_n hx hb dX6_road_33 rfl (lv_at hl 1 rfl) ?_
        refine j_isub hx hb dX6_road_34 ?_
        refine lv_istore_n (lv' := [(3, .int (J (1 - i))), (0, .ref o), (1, .int (J i)), (2, .int (J v))]) hx hb dX6_road_35 rfl hl (by decide) rfl (fun ls hl => ?_)
        refine lv_iconst (v := J (0)) hx hb dX6_road_36 rfl ?_
        refine lv_istore (lv' := [(4, .int (J 0)), (3, .int (J (1 - i))), (0, .ref o), (1, .int (J i)), (2, .int (J v))]) hx hb dX6_road_37 hl (by decide) rfl (fun ls hl => ?_)
        refine lv_iconst (v := J (0)) hx hb dX6_road_39 rfl ?_
        refine lv_istore (lv' := [(5, .int (J 0)), (4, .int (J 0)), (3, .int (J (1 - i))), (0, .ref o), (1, .int (J i)), (2, .int (J v))]) hx hb dX6_road_40 hl (by decide) rfl (fun ls hl => ?_)
        refine lv_iconst (v := J (0)) hx hb dX6_road_42 rfl ?_
        refine lv_istore (lv' := [(6, .int (J 0)), (5, .int (J 0)), (4, .int (J 0)), (3, .int (J (1 - i))), (0, .ref o), (1, .int (J i)), (2, .int (J v))]) hx hb dX6_road_43 hl (by decide) rfl (fun ls hl => ?_)
        
        have loop_45 : ∀ (n9 : Nat) (a : Int) (b : Int) (k : Int) (h : Hp) (H : Heap) (locs : List Loc) (ls : Array Slot), 121 - k < (n9 : Int) → (0 ≤ a ∧ a ≤ A 1 i) → (0 ≤ b ∧ b ≤ A 1 (1 - i)) → (0 ≤ k) → (rdF (A 1 i) (A 1 (1 - i)) v 121 0 0 0 = rdF (A 1 i) (A 1 (1 - i)) v (121 - k).toNat k a b) → (h = h0) → (OB g 6 28 kd6 h o R I mL A) → (Wd g base h H) → (va_S (Ab base) s.heap H locs) → (lv_has ls 8 [(0, .ref o), (1, .int (J i)), (2, .int (J v)), (3, .int (J (1 - i))), (4, .int (J a)), (5, .int (J b)), (6, .int (J k))]) → W p l e (headSpec wsX6_road ({ frames := 2, cells := 0, slots := 0, locals := 43 })).room s m ([.ref o, .int (J i), .int (J v)]).toArray below meth c H locs 0 0 (MQ below (QcM g base (fun r h' => r = some (.int (J (if (0 ≤ i ∧ i < I 0 ∧ 1 ≤ v ∧ v ≤ 10) then (if I 0 = 2 then rdF (A 1 i) (A 1 (1 - i)) v 121 0 0 0 else -3) else -2))) ∧ h' = h0)) ([.ref o, .int (J i), .int (J v)]).toArray s (0) (0) (Ab base)) (F0 m 45 ls []) := by
          intro n9
          induction n9 with
          | zero =>
            intro a b k h H locs ls hmu ha9 hb9 hk9 hg eh hM hW hS hl
            exact absurd hmu (by rw [hg] at hok; have := (rdF_s hk9 hok).1; omega)
          | succ n9 ih =>
            intro a b k h H locs ls hmu ha9 hb9 hk9 hg eh hM hW hS hl
            have hok2 := hok
            rw [hg] at hok2
            obtain ⟨hk1, hst⟩ := rdF_s hk9 hok2
            have hrr := rd_r hsi.1 hsj.1 ha9 hb9
            have ih_45 := ih
            
            have cut_122 : ∀ (a2 : Int) (b2 : Int) (ls : Array Slot), (a2 = rA (A 1 i) (A 1 (1 - i)) a b) → (b2 = rB (A 1 (1 - i)) a b) → (lv_has ls 8 [(0, .ref o), (1, .int (J i)), (2, .int (J v)), (3, .int (J (1 - i))), (4, .int (J a2)), (5, .int (J b2)), (6, .int (J k))]) → W p l e (headSpec wsX6_road ({ frames := 2, cells := 0, slots := 0, locals := 43 })).room s m ([.ref o, .int (J i), .int (J v)]).toArray below meth c H locs 0 0 (MQ below (QcM g base (fun r h' => r = some (.int (J (if (0 ≤ i ∧ i < I 0 ∧ 1 ≤ v ∧ v ≤ 10) then (if I 0 = 2 then rdF (A 1 i) (A 1 (1 - i)) v 121 0 0 0 else -3) else -2))) ∧ h' = h0)) ([.ref o, .int (J i), .int (J v)]).toArray s (0) (0) (Ab base)) (F0 m 122 ls []) := by
              intro a2 b2  ls ea2 eb2 hl
              refine lv_iinc (v := J (k + 1)) (lv' := [(6, .int (J (k + 1))), (0, .ref o), (1, .int (J i)), (2, .int (J v)), (3, .int (J (1 - i))), (4, .int (J a2)), (5, .int (J b2))]) hx hb dX6_road_122 hl (k := 6) rfl (J_inc (by omega)) (by decide) rfl (fun ls hl => ?_)
              refine lv_iload hx hb dX6_road_125 (lv_at hl 5 rfl) ?_
              refine lv_iload_n hx hb dX6_road_127 rfl (lv_at hl 3 rfl) ?_
              refine j_icmp_eq (x := a2) (y := v) (tgt := 137) hx hb ⟨by omega, by omega⟩ ⟨by omega, by omega⟩ dX6_road_128 (by decide) (fun c_128 => ?_) (fun c_128 => ?_)
              · refine lv_iload hx hb dX6_road_137 (lv_at hl 0 rfl) ?_
                exact g_iret hx hb hr hW hS dX6_road_139 hlocks (⟨congrArg (fun q : Int => some (Value.int (J q))) (show k + 1 = (if (0 ≤ i ∧ i < I 0 ∧ 1 ≤ v ∧ v ≤ 10) then (if I 0 = 2 then rdF (A 1 i) (A 1 (1 - i)) v 121 0 0 0 else -3) else -2) from by rw [if_pos (by omega), if_pos (by omega), hg, hst, if_pos (by omega)]), eh⟩)
              · refine lv_iload hx hb dX6_road_131 (lv_at hl 6 rfl) ?_
                refine lv_iload_n hx hb dX6_road_133 rfl (lv_at hl 3 rfl) ?_
                refine j_icmp_ne (x := b2) (y := v) (tgt := 140) hx hb ⟨by omega, by omega⟩ ⟨by omega, by omega⟩ dX6_road_134 (by decide) (fun c_134 => ?_) (fun c_134 => ?_)
                · refine lv_iload hx hb dX6_road_140 (lv_at hl 5 rfl) ?_
                  refine j_if_ne (x := a2) (tgt := 45) hx hb ⟨by omega, by omega⟩ dX6_road_142 (by decide) (fun c_142 => ?_) (fun c_142 => ?_)
                  · 
                    exact ih_45 a2 b2 (k + 1) h H locs ls (by omega) (by rw [ea2]; exact hrr.1) (by rw [eb2]; exact hrr.2) (by omega) (by rw [hg, hst, if_neg (by omega), if_neg (by omega), ea2, eb2]) eh hM hW hS (lv_sub hl [1, 2, 3, 4, 5, 6, 0] rfl)
                  · refine lv_iload hx hb dX6_road_145 (lv_at hl 6 rfl) ?_
                    refine j_if_ne (x := b2) (tgt := 45) hx hb ⟨by omega, by omega⟩ dX6_road_147 (by decide) (fun c_147 => ?_) (fun c_147 => ?_)
                    · 
                      exact ih_45 a2 b2 (k + 1) h H locs ls (by omega) (by rw [ea2]; exact hrr.1) (by rw [eb2]; exact hrr.2) (by omega) (by rw [hg, hst, if_neg (by omega), if_neg (by omega), ea2, eb2]) eh hM hW hS (lv_sub hl [1, 2, 3, 4, 5, 6, 0] rfl)
                    · refine lv_iconst (v := J (-1)) hx hb dX6_road_150 rfl ?_
                      exact g_iret hx hb hr hW hS dX6_road_151 hlocks (⟨congrArg (fun q : Int => some (Value.int (J q))) (show -1 = (if (0 ≤ i ∧ i < I 0 ∧ 1 ≤ v ∧ v ≤ 10) then (if I 0 = 2 then rdF (A 1 i) (A 1 (1 - i)) v 121 0 0 0 else -3) else -2) from by rw [if_pos (by omega), if_pos (by omega), hg, hst, if_neg (by omega), if_pos (by omega)]), eh⟩)
                · refine lv_iload hx hb dX6_road_137 (lv_at hl 0 rfl) ?_
                  exact g_iret hx hb hr hW hS dX6_road_139 hlocks (⟨congrArg (fun q : Int => some (Value.int (J q))) (show k + 1 = (if (0 ≤ i ∧ i < I 0 ∧ 1 ≤ v ∧ v ≤ 10) then (if I 0 = 2 then rdF (A 1 i) (A 1 (1 - i)) v 121 0 0 0 else -3) else -2) from by rw [if_pos (by omega), if_pos (by omega), hg, hst, if_pos (by omega)]), eh⟩)
            refine lv_iload hx hb dX6_road_45 (lv_at hl 5 rfl) ?_
            refine lv_aload_n hx hb dX6_road_47 rfl (lv_at hl 0 rfl) ?_
            refine g_get (ci := 6) (C := RX6) (T := TX6) (N := 28) (v := .ref (R 1)) hx hb hfX6 (fun _ h9 => h9) hown hk hW hM.1 rfl 1 (by decide) (hts (.fieldLink RX6 7 "JugsAndGlassesModel" "size" "[I") (by decide +kernel)) rfl rfl dX6_road_48 ?_
            refine lv_iload_n hx hb dX6_road_51 rfl (lv_at hl 3 rfl) ?_
            refine g_iald (n := 4) (f := A 1) (i := 1 - i) hx hb hk hW (hM.ai 1 (by decide) rfl) (by omega) (by omega) (by omega) dX6_road_52 ?_
            refine j_icmp_ne (x := b) (y := A 1 (1 - i)) (tgt := 62) hx hb ⟨by omega, by omega⟩ ⟨by omega, by omega⟩ dX6_road_53 (by decide) (fun c_53 => ?_) (fun c_53 => ?_)
            · refine lv_iload hx hb dX6_road_62 (lv_at hl 4 rfl) ?_
              refine j_if_ne (x := a) (tgt := 78) hx hb ⟨by omega, by omega⟩ dX6_road_64 (by decide) (fun c_64 => ?_) (fun c_64 => ?_)
              · have cut_106 : ∀ (t : Int) (ls : Array Slot), (t = if a < A 1 (1 - i) - b then a else A 1 (1 - i) - b) → (lv_has ls 8 [(0, .ref o), (1, .int (J i)), (2, .int (J v)), (3, .int (J (1 - i))), (4, .int (J a)), (5, .int (J b)), (6, .int (J k))]) → W p l e (headSpec wsX6_road ({ frames := 2, cells := 0, slots := 0, locals := 43 })).room s m ([.ref o, .int (J i), .int (J v)]).toArray below meth c H locs 0 0 (MQ below (QcM g base (fun r h' => r = some (.int (J (if (0 ≤ i ∧ i < I 0 ∧ 1 ≤ v ∧ v ≤ 10) then (if I 0 = 2 then rdF (A 1 i) (A 1 (1 - i)) v 121 0 0 0 else -3) else -2))) ∧ h' = h0)) ([.ref o, .int (J i), .int (J v)]).toArray s (0) (0) (Ab base)) (F0 m 106 ls [.int (J t)]) := by
                  intro t  ls et hl
                  refine lv_istore (lv' := [(7, .int (J t)), (0, .ref o), (1, .int (J i)), (2, .int (J v)), (3, .int (J (1 - i))), (4, .int (J a)), (5, .int (J b)), (6, .int (J k))]) hx hb dX6_road_106 hl (by decide) rfl (fun ls hl => ?_)
                  refine lv_iload hx hb dX6_road_108 (lv_at hl 5 rfl) ?_
                  refine lv_iload hx hb dX6_road_110 (lv_at hl 0 rfl) ?_
                  refine j_isub hx hb dX6_road_112 ?_
                  refine lv_istore (lv' := [(4, .int (J (a - t))), (7, .int (J t)), (0, .ref o), (1, .int (J i)), (2, .int (J v)), (3, .int (J (1 - i))), (5, .int (J b)), (6, .int (J k))]) hx hb dX6_road_113 hl (by decide) rfl (fun ls hl => ?_)
                  refine lv_iload hx hb dX6_road_115 (lv_at hl 6 rfl) ?_
                  refine lv_iload hx hb dX6_road_117 (lv_at hl 1 rfl) ?_
                  refine j_iadd hx hb dX6_road_119 ?_
                  refine lv_istore (lv' := [(5, .int (J (b + t))), (4, .int (J (a - t))), (7, .int (J t)), (0, .ref o), (1, .int (J i)), (2, .int (J v)), (3, .int (J (1 - i))), (6, .int (J k))]) hx hb dX6_road_120 hl (by decide) rfl (fun ls hl => ?_)
                  exact cut_122 _ _  ls (by unfold rA; first | (rw [if_pos (by omega)]) | (rw [if_neg (by omega), if_pos (by omega)]) | (rw [if_neg (by omega), if_neg (by omega), ← et])) (by unfold rB; first | (rw [if_pos (by omega)]) | (rw [if_neg (by omega), if_pos (by omega)]) | (rw [if_neg (by omega), if_neg (by omega), ← et])) (lv_sub hl [3, 4, 5, 6, 1, 0, 7] rfl)
                refine lv_iload hx hb dX6_road_78 (lv_at hl 4 rfl) ?_
                refine lv_aload_n hx hb dX6_road_80 rfl (lv_at hl 0 rfl) ?_
                refine g_get (ci := 6) (C := RX6) (T := TX6) (N := 28) (v := .ref (R 1)) hx hb hfX6 (fun _ h9 => h9) hown hk hW hM.1 rfl 1 (by decide) (hts (.fieldLink RX6 7 "JugsAndGlassesModel" "size" "[I") (by decide +kernel)) rfl rfl dX6_road_81 ?_
                refine lv_iload_n hx hb dX6_road_84 rfl (lv_at hl 3 rfl) ?_
                refine g_iald (n := 4) (f := A 1) (i := 1 - i) hx hb hk hW (hM.ai 1 (by decide) rfl) (by omega) (by omega) (by omega) dX6_road_85 ?_
                refine lv_iload hx hb dX6_road_86 (lv_at hl 5 rfl) ?_
                refine j_isub hx hb dX6_road_88 ?_
                refine j_icmp_ge (x := a) (y := (A 1 (1 - i)) - b) (tgt := 97) hx hb ⟨by omega, by omega⟩ ⟨by omega, by omega⟩ dX6_road_89 (by decide) (fun c_89 => ?_) (fun c_89 => ?_)
                · refine lv_aload_n hx hb dX6_road_97 rfl (lv_at hl 0 rfl) ?_
                  refine g_get (ci := 6) (C := RX6) (T := TX6) (N := 28) (v := .ref (R 1)) hx hb hfX6 (fun _ h9 => h9) hown hk hW hM.1 rfl 1 (by decide) (hts (.fieldLink RX6 7 "JugsAndGlassesModel" "size" "[I") (by decide +kernel)) rfl rfl dX6_road_98 ?_
                  refine lv_iload_n hx hb dX6_road_101 rfl (lv_at hl 3 rfl) ?_
                  refine g_iald (n := 4) (f := A 1) (i := 1 - i) hx hb hk hW (hM.ai 1 (by decide) rfl) (by omega) (by omega) (by omega) dX6_road_102 ?_
                  refine lv_iload hx hb dX6_road_103 (lv_at hl 5 rfl) ?_
                  refine j_isub hx hb dX6_road_105 ?_
                  exact cut_106 _  ls (by split <;> omega) (lv_sub hl [0, 1, 2, 3, 4, 5, 6] rfl)
                · refine lv_iload hx hb dX6_road_92 (lv_at hl 4 rfl) ?_
                  refine lv_goto (tgt := 106) hx hb dX6_road_94 (by decide) ?_
                  exact cut_106 _  ls (by split <;> omega) (lv_sub hl [0, 1, 2, 3, 4, 5, 6] rfl)
              · refine lv_aload_n hx hb dX6_road_67 rfl (lv_at hl 0 rfl) ?_
                refine g_get (ci := 6) (C := RX6) (T := TX6) (N := 28) (v := .ref (R 1)) hx hb hfX6 (fun _ h9 => h9) hown hk hW hM.1 rfl 1 (by decide) (hts (.fieldLink RX6 7 "JugsAndGlassesModel" "size" "[I") (by decide +kernel)) rfl rfl dX6_road_68 ?_
                refine lv_iload_n hx hb dX6_road_71 rfl (lv_at hl 1 rfl) ?_
                refine g_iald (n := 4) (f := A 1) (i := i) hx hb hk hW (hM.ai 1 (by decide) rfl) (by omega) (by omega) (by omega) dX6_road_72 ?_
                refine lv_istore (lv' := [(4, .int (J (A 1 i))), (0, .ref o), (1, .int (J i)), (2, .int (J v)), (3, .int (J (1 - i))), (5, .int (J b)), (6, .int (J k))]) hx hb dX6_road_73 hl (by decide) rfl (fun ls hl => ?_)
                refine lv_goto (tgt := 122) hx hb dX6_road_75 (by decide) ?_
                exact cut_122 _ _  ls (by unfold rA; first | (rw [if_pos (by omega)]) | (rw [if_neg (by omega), if_pos (by omega)]) | (rw [if_neg (by omega), if_neg (by omega), ← et])) (by unfold rB; first | (rw [if_pos (by omega)]) | (rw [if_neg (by omega), if_pos (by omega)]) | (rw [if_neg (by omega), if_neg (by omega), ← et])) (lv_sub hl [1, 2, 3, 4, 0, 5, 6] rfl)
            · refine lv_iconst (v := J (0)) hx hb dX6_road_56 rfl ?_
              refine lv_istore (lv' := [(5, .int (J 0)), (0, .ref o), (1, .int (J i)), (2, .int (J v)), (3, .int (J (1 - i))), (4, .int (J a)), (6, .int (J k))]) hx hb dX6_road_57 hl (by decide) rfl (fun ls hl => ?_)
              refine lv_goto (tgt := 122) hx hb dX6_road_59 (by decide) ?_
              exact cut_122 _ _  ls (by unfold rA; first | (rw [if_pos (by omega)]) | (rw [if_neg (by omega), if_pos (by omega)]) | (rw [if_neg (by omega), if_neg (by omega), ← et])) (by unfold rB; first | (rw [if_pos (by omega)]) | (rw [if_neg (by omega), if_pos (by omega)]) | (rw [if_neg (by omega), if_neg (by omega), ← et])) (lv_sub hl [1, 2, 3, 4, 5, 0, 6] rfl)
        exact loop_45 122 0 0 0 h0 H locs ls (by omega) (by omega) (by omega) (by omega) rfl rfl hM hW hS (lv_sub hl [4, 5, 6, 3, 2, 1, 0] rfl)
      · refine lv_bipush (v := J (-3)) hx hb dX6_road_29 (by decide) ?_
        exact g_iret hx hb hr hW hS dX6_road_31 hlocks (⟨congrArg (fun q : Int => some (Value.int (J q))) (show -3 = (if (0 ≤ i ∧ i < I 0 ∧ 1 ≤ v ∧ v ≤ 10) then (if I 0 = 2 then rdF (A 1 i) (A 1 (1 - i)) v 121 0 0 0 else -3) else -2) from by rw [if_pos (by omega), if_neg (by omega)]), rfl⟩)
    · refine lv_bipush (v := J (-2)) hx hb dX6_road_18 (by decide) ?_
      exact g_iret hx hb hr hW hS dX6_road_20 hlocks (⟨congrArg (fun q : Int => some (Value.int (J q))) (show -2 = (if (0 ≤ i ∧ i < I 0 ∧ 1 ≤ v ∧ v ≤ 10) then (if I 0 = 2 then rdF (A 1 i) (A 1 (1 - i)) v 121 0 0 0 else -3) else -2) from by first | (have := p_in_0 c_15; rw [if_neg (by omega)]) | (have := p_in_0 c_5; rw [if_neg (by omega)])), rfl⟩)
