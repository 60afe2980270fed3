set_option maxHeartbeats 4000000 in
set_option maxRecDepth 100000 in
theorem m_reach (l : Launch) (g : GX) (base : Nat) (sa : Nat → Nat) (h0 : Hp) (o : Nat) (R : Nat → Nat) (I : Nat → Int) (A : Nat → Int → Int) (fr : Int) (hM : OB g 6 28 kd6 h0 o R I mL A) (hrm : Rm (I 7) (A 8)) (h10 : I 10 = 0 ∨ I 10 = 1) (h11 : I 11 = 0 ∨ I 11 = 1) (hfr : 0 ≤ fr ∧ fr < mT (A 8) (I 7)) : MC l g base sa yX6_reach wsX6_reach ({ frames := 1, cells := 0, slots := 0, locals := 23 }) ([.ref o, .int (J fr)]) h0 (fun r h' => ∃ k, r = some (.int (J k)) ∧ Fr (FP 28 kd6 o R) h0 h' ∧ ∃ I' f rch q, OB g 6 28 kd6 h' o R I' mL (va_up (va_up (va_up A 9 f) 19 rch) 20 q) ∧ (∀ k, k ≠ 12 → k ≠ 13 → I' k = I k) ∧ RE (mT (A 8) (I 7)) (nxM (I 7) (I 10) (I 11) (A 8)) fr q k) := by
  refine Met.ofW (cc := cX6_reach) (maxL := 7) (ret := (some .int)) (by decide) rfl ?_
  intro p e s m args below meth c s₁ B hml hv
  obtain ⟨rfl, hk, hW⟩ := hv
  have hx := B.exec
  have hb := B.bytes
  have hr := B.returns
  have hts := atoms_spec (ws := wsX6_reach) B.pre
  have hown : s.vm.findClass RX6 = some m.cls := findClass_of_methodNamed B.named
  have hlocks := B.notSynchronized
  have hfX6 : ∀ w ∈ wsX60, w.before ([.ref o, .int (J fr)]).toArray s = true := fun w h => hts w (List.mem_cons_of_mem _ (List.mem_append_right _ h))
  have hS : va_S (Ab base) s.heap s.heap [] := va_S.rf
  have hl := lv_entry ([.ref o, .int (J fr)]) (n := 7) (Nat.le_of_ble_eq_true rfl)
  rw [lg_entry_eq]
  generalize (lg_sl ([.ref o, .int (J fr)]) ++ List.replicate (7 - (lg_sl ([.ref o, .int (J fr)])).length) Slot.unset).toArray = ls at hl ⊢
  have hl : lv_has ls 7 [(0, .ref o), (1, .int (J fr))] := hl
  have hF : Fr (FP 28 kd6 o R) h0 h0 := Fr.rf
  have hmr := mT_r hrm
  have hrm1 := hrm.1
  have hrm2 := hrm.2.1
  have hNX := LA_NX (tp := I 10) (dr := I 11) hrm
  refine lv_aload_n hx hb dX6_reach_0 rfl (lv_at hl 0 rfl) ?_
  refine g_callV (As := []) (rest := []) (b := o) (ci := 6) (C := RX6) (T := TX6) (N := 28) ⟨hx, hb, hml, hown, hts⟩ (m_stateMany l g base sa h0 o R I A hM ⟨hrm1, hrm2⟩) (cwV 0 hts gX6_reach_X6_stateMany rfl rfl rfl (by decide +kernel) ⟨Nat.le_of_ble_eq_true rfl, Nat.le_of_ble_eq_true rfl⟩) hk hW hS hM.1 rfl rfl hl.1 (Nat.le_of_ble_eq_true rfl) dX6_reach_1 ⟨Nat.le_of_ble_eq_true rfl, Nat.le_of_ble_eq_true rfl⟩ (fun r9 h9 H locs hp hW hS => ?_)
  obtain ⟨rfl, e9⟩ := hp
  rw [e9] at hW
  refine W.eq (g2 := F0 m 4 ls [.int (J (mT (A 8) (I 7)))]) rfl ?_
  refine lv_istore_n (lv' := [(2, .int (J (mT (A 8) (I 7)))), (0, .ref o), (1, .int (J fr))]) hx hb dX6_reach_4 rfl hl (by decide) rfl (fun ls hl => ?_)
  refine lv_iconst (v := J (0)) hx hb dX6_reach_5 rfl ?_
  refine lv_istore_n (lv' := [(3, .int (J 0)), (2, .int (J (mT (A 8) (I 7)))), (0, .ref o), (1, .int (J fr))]) hx hb dX6_reach_6 rfl hl (by decide) rfl (fun ls hl => ?_)
  have loop_7 : ∀ (n9 : Nat) (x : Int) (rch : Int → Int) (h : Hp) (H : Heap) (locs : List Loc) (ls : Array Slot), mT (A 8) (I 7) - x < (n9 : Int) → (0 ≤ x ∧ x ≤ mT (A 8) (I 7)) → (∀ s, 0 ≤ s → s < x → rch s = 0) → (OB g 6 28 kd6 h o R I mL (va_up A 19 (rch))) → (Fr (FP 28 kd6 o R) h0 h) → (Wd g base h H) → (va_S (Ab base) s.heap H locs) → (lv_has ls 7 [(0, .ref o), (1, .int (J fr)), (2, .int (J (mT (A 8) (I 7)))), (3, .int (J x))]) → W p l e (headSpec wsX6_reach ({ frames := 1, cells := 0, slots := 0, locals := 23 })).room s m ([.ref o, .int (J fr)]).toArray below meth c H locs 0 0 (MQ below (QcM g base (fun r h' => ∃ k, r = some (.int (J k)) ∧ Fr (FP 28 kd6 o R) h0 h' ∧ ∃ I' f rch q, OB g 6 28 kd6 h' o R I' mL (va_up (va_up (va_up A 9 f) 19 rch) 20 q) ∧ (∀ k, k ≠ 12 → k ≠ 13 → I' k = I k) ∧ RE (mT (A 8) (I 7)) (nxM (I 7) (I 10) (I 11) (A 8)) fr q k)) ([.ref o, .int (J fr)]).toArray s (0) (0) (Ab base)) (F0 m 7 ls []) := by
    intro n9
    induction n9 with
    | zero =>
      intro x rch h H locs ls hmu hx9 hr0 hM hF hW hS hl
      exact absurd hmu (by omega)
    | succ n9 ih =>
      intro x rch h H locs ls hmu hx9 hr0 hM hF hW hS hl
      have ih_7 := ih
      refine lv_iload_n hx hb dX6_reach_7 rfl (lv_at hl 3 rfl) ?_
      refine lv_iload_n hx hb dX6_reach_8 rfl (lv_at hl 2 rfl) ?_
      refine j_icmp_ge (x := x) (y := mT (A 8) (I 7)) (tgt := 25) hx hb ⟨by omega, by omega⟩ ⟨by omega, by omega⟩ dX6_reach_9 (by decide) (fun c_9 => ?_) (fun c_9 => ?_)
      · refine lv_aload_n hx hb dX6_reach_25 rfl (lv_at hl 0 rfl) ?_
        refine g_get (ci := 6) (C := RX6) (T := TX6) (N := 28) (v := .ref (R 19)) hx hb hfX6 (fun _ h9 => h9) hown hk hW hM.1 rfl 19 (by decide) (hts (.fieldLink RX6 46 "JugsAndGlassesModel" "isReached" "[Z") (by decide +kernel)) rfl rfl dX6_reach_26 ?_
        refine lv_iload_n hx hb dX6_reach_29 rfl (lv_at hl 1 rfl) ?_
        refine lv_iconst (v := J (1)) hx hb dX6_reach_30 rfl ?_
        refine o_zast (A' := (va_up A 19 (uf rch fr 1))) (i := fr) (x := 1) hx hb hk hW hS hM hF 19 (by decide) rfl (FP.a 19 (by decide) ⟨by decide, by decide⟩) (by omega) (show fr < 14641 from by omega) (show 14641 < 2147483648 from by omega) (by omega) (bx_uu _ _ _ _) dX6_reach_31 (fun h H locs hM hF hst hW hS => ?_)
        refine lv_aload_n hx hb dX6_reach_32 rfl (lv_at hl 0 rfl) ?_
        refine g_get (ci := 6) (C := RX6) (T := TX6) (N := 28) (v := .ref (R 20)) hx hb hfX6 (fun _ h9 => h9) hown hk hW hM.1 rfl 20 (by decide) (hts (.fieldLink RX6 50 "JugsAndGlassesModel" "queue" "[I") (by decide +kernel)) rfl rfl dX6_reach_33 ?_
        refine lv_iconst (v := J (0)) hx hb dX6_reach_36 rfl ?_
        refine lv_iload_n hx hb dX6_reach_37 rfl (lv_at hl 1 rfl) ?_
        refine o_iast (A' := (va_up (va_up A 19 (uf rch fr 1)) 20 (uf (A 20) 0 fr))) (i := 0) (x := fr) hx hb hk hW hS hM hF 20 (by decide) rfl (FP.a 20 (by decide) ⟨by decide, by decide⟩) (by omega) (show 0 < 14641 from by omega) (show 14641 < 2147483648 from by omega) rfl dX6_reach_38 (fun h H locs hM hF hst hW hS => ?_)
        refine lv_iconst (v := J (1)) hx hb dX6_reach_39 rfl ?_
        refine lv_istore_n (lv' := [(3, .int (J 1)), (0, .ref o), (1, .int (J fr)), (2, .int (J (mT (A 8) (I 7))))]) hx hb dX6_reach_40 rfl hl (by decide) rfl (fun ls hl => ?_)
        refine lv_iconst (v := J (0)) hx hb dX6_reach_41 rfl ?_
        refine lv_istore (lv' := [(4, .int (J 0)), (3, .int (J 1)), (0, .ref o), (1, .int (J fr)), (2, .int (J (mT (A 8) (I 7))))]) hx hb dX6_reach_42 hl (by decide) rfl (fun ls hl => ?_)
        have loop_44 : ∀ (n9 : Nat) (x : Int) (J1 : Nat → Int) (f : Int → Int) (rch : Int → Int) (q : Int → Int) (k : Int) (h : Hp) (H : Heap) (locs : List Loc) (ls : Array Slot), mT (A 8) (I 7) - x < (n9 : Int) → (0 ≤ x ∧ x ≤ k) → (∀ k, k ≠ 12 → k ≠ 13 → J1 k = I k) → (RB (mT (A 8) (I 7)) (nxM (I 7) (I 10) (I 11) (A 8)) fr rch q k (24 * x)) → (OB g 6 28 kd6 h o R J1 mL (va_up (va_up (va_up A 9 (f)) 19 (rch)) 20 (q))) → (Fr (FP 28 kd6 o R) h0 h) → (Wd g base h H) → (va_S (Ab base) s.heap H locs) → (lv_has ls 7 [(0, .ref o), (1, .int (J fr)), (2, .int (J (mT (A 8) (I 7)))), (3, .int (J k)), (4, .int (J x))]) → W p l e (headSpec wsX6_reach ({ frames := 1, cells := 0, slots := 0, locals := 23 })).room s m ([.ref o, .int (J fr)]).toArray below meth c H locs 0 0 (MQ below (QcM g base (fun r h' => ∃ k, r = some (.int (J k)) ∧ Fr (FP 28 kd6 o R) h0 h' ∧ ∃ I' f rch q, OB g 6 28 kd6 h' o R I' mL (va_up (va_up (va_up A 9 f) 19 rch) 20 q) ∧ (∀ k, k ≠ 12 → k ≠ 13 → I' k = I k) ∧ RE (mT (A 8) (I 7)) (nxM (I 7) (I 10) (I 11) (A 8)) fr q k)) ([.ref o, .int (J fr)]).toArray s (0) (0) (Ab base)) (F0 m 44 ls []) := by
          intro n9
          induction n9 with
          | zero =>
            intro x J1 f rch q k h H locs ls hmu hx9 hJ hRB hM hF hW hS hl
            exact absurd hmu (by have := hRB.2.1; omega)
          | succ n9 ih =>
            intro x J1 f rch q k h H locs ls hmu hx9 hJ hRB hM hF hW hS hl
            have j7 : J1 7 = I 7 := hJ 7 (by decide) (by decide)
            have j10 : J1 10 = I 10 := hJ 10 (by decide) (by decide)
            have j11 : J1 11 = I 11 := hJ 11 (by decide) (by decide)
            have hkN := hRB.2.1
            have hk1 := hRB.1
            have ih_44 := ih
            refine lv_iload hx hb dX6_reach_44 (lv_at hl 4 rfl) ?_
            refine lv_iload_n hx hb dX6_reach_46 rfl (lv_at hl 3 rfl) ?_
            refine j_icmp_ge (x := x) (y := k) (tgt := 127) hx hb ⟨by omega, by omega⟩ ⟨by omega, by omega⟩ dX6_reach_47 (by decide) (fun c_47 => ?_) (fun c_47 => ?_)
            · refine lv_iload_n hx hb dX6_reach_127 rfl (lv_at hl 3 rfl) ?_
              exact g_iret hx hb hr hW hS dX6_reach_128 hlocks (⟨k, rfl, hF, J1, f, rch, q, hM, hJ, RB_end hNX (by have e9 : x = k := (by omega); rw [e9] at hRB; exact hRB)⟩)
            · refine lv_iconst (v := J (0)) hx hb dX6_reach_50 rfl ?_
              refine lv_istore (lv' := [(5, .int (J 0)), (0, .ref o), (1, .int (J fr)), (2, .int (J (mT (A 8) (I 7)))), (3, .int (J k)), (4, .int (J x))]) hx hb dX6_reach_51 hl (by decide) rfl (fun ls hl => ?_)
              have loop_53 : ∀ (n9 : Nat) (a : Int) (J1 : Nat → Int) (f : Int → Int) (rch : Int → Int) (q : Int → Int) (k : Int) (h : Hp) (H : Heap) (locs : List Loc) (ls : Array Slot), 24 - a < (n9 : Int) → (0 ≤ a ∧ a ≤ 24) → (x < k) → (∀ k, k ≠ 12 → k ≠ 13 → J1 k = I k) → (RB (mT (A 8) (I 7)) (nxM (I 7) (I 10) (I 11) (A 8)) fr rch q k (24 * x + a)) → (OB g 6 28 kd6 h o R J1 mL (va_up (va_up (va_up A 9 (f)) 19 (rch)) 20 (q))) → (Fr (FP 28 kd6 o R) h0 h) → (Wd g base h H) → (va_S (Ab base) s.heap H locs) → (lv_has ls 7 [(0, .ref o), (1, .int (J fr)), (2, .int (J (mT (A 8) (I 7)))), (3, .int (J k)), (4, .int (J x)), (5, .int (J a))]) → W p l e (headSpec wsX6_reach ({ frames := 1, cells := 0, slots := 0, locals := 23 })).room s m ([.ref o, .int (J fr)]).toArray below meth c H locs 0 0 (MQ below (QcM g base (fun r h' => ∃ k, r = some (.int (J k)) ∧ Fr (FP 28 kd6 o R) h0 h' ∧ ∃ I' f rch q, OB g 6 28 kd6 h' o R I' mL (va_up (va_up (va_up A 9 f) 19 rch) 20 q) ∧ (∀ k, k ≠ 12 → k ≠ 13 → I' k = I k) ∧ RE (mT (A 8) (I 7)) (nxM (I 7) (I 10) (I 11) (A 8)) fr q k)) ([.ref o, .int (J fr)]).toArray s (0) (0) (Ab base)) (F0 m 53 ls []) := by
                intro n9
                induction n9 with
                | zero =>
                  intro a J1 f rch q k h H locs ls hmu ha9 hxk hJ hRB hM hF hW hS hl
                  exact absurd hmu (by omega)
                | succ n9 ih =>
                  intro a J1 f rch q k h H locs ls hmu ha9 hxk hJ hRB hM hF hW hS hl
                  have j7 : J1 7 = I 7 := hJ 7 (by decide) (by decide)
                  have j10 : J1 10 = I 10 := hJ 10 (by decide) (by decide)
                  have j11 : J1 11 = I 11 := hJ 11 (by decide) (by decide)
                  have hkN := hRB.2.1
                  have hqx := hRB.2.2.2.1 x hx9.1 hxk
                  have ih_53 := ih
                  refine lv_iload hx hb dX6_reach_53 (lv_at hl 5 rfl) ?_
                  refine lv_bipush (v := J (24)) hx hb dX6_reach_55 (by decide) ?_
                  refine j_icmp_ge (x := a) (y := 24) (tgt := 121) hx hb ⟨by omega, by omega⟩ ⟨by decide, by decide⟩ dX6_reach_57 (by decide) (fun c_57 => ?_) (fun c_57 => ?_)
                  · refine lv_iinc (v := J (x + 1)) (lv' := [(4, .int (J (x + 1))), (0, .ref o), (1, .int (J fr)), (2, .int (J (mT (A 8) (I 7)))), (3, .int (J k)), (5, .int (J a))]) hx hb dX6_reach_121 hl (k := 4) rfl (J_inc (by omega)) (by decide) rfl (fun ls hl => ?_)
                    refine lv_goto (tgt := 44) hx hb dX6_reach_124 (by decide) ?_
                    exact ih_44 (x + 1) J1 f rch q k h H locs ls (by omega) (by omega) hJ (by have e9 : 24 * (x + 1) = 24 * x + a := (by omega); rw [e9]; exact hRB) hM hF hW hS (lv_sub hl [1, 2, 3, 4, 0] rfl)
                  · refine lv_aload_n hx hb dX6_reach_60 rfl (lv_at hl 0 rfl) ?_
                    refine lv_aload_n hx hb dX6_reach_61 rfl (lv_at hl 0 rfl) ?_
                    refine g_get (ci := 6) (C := RX6) (T := TX6) (N := 28) (v := .ref (R 20)) hx hb hfX6 (fun _ h9 => h9) hown hk hW hM.1 rfl 20 (by decide) (hts (.fieldLink RX6 50 "JugsAndGlassesModel" "queue" "[I") (by decide +kernel)) rfl rfl dX6_reach_62 ?_
                    refine lv_iload hx hb dX6_reach_65 (lv_at hl 4 rfl) ?_
                    refine g_iald (n := 14641) (f := q) (i := x) hx hb hk hW (hM.ai 20 (by decide) rfl) (by omega) (by omega) (by omega) dX6_reach_67 ?_
                    refine g_callV (As := [.int (J (q x))]) (rest := []) (b := o) (ci := 6) (C := RX6) (T := TX6) (N := 28) ⟨hx, hb, hml, hown, hts⟩ (m_layState l g base sa h o R J1 (va_up (va_up (va_up A 9 (f)) 19 (rch)) 20 (q)) (q x) hM ⟨by omega, by omega⟩ ⟨by omega, by omega⟩ (fun i a b => hrm.2.2 i a (by omega))) (cwV 1 hts gX6_reach_X6_layState rfl rfl rfl (by decide +kernel) ⟨Nat.le_of_ble_eq_true rfl, Nat.le_of_ble_eq_true rfl⟩) hk hW hS hM.1 rfl rfl hl.1 (Nat.le_of_ble_eq_true rfl) dX6_reach_68 ⟨Nat.le_of_ble_eq_true rfl, Nat.le_of_ble_eq_true rfl⟩ (fun r9 h9 H locs hp hW hS => ?_)
                    have hp : r9 = none ∧ Fr (FP 28 kd6 o R) h h9 ∧ OB g 6 28 kd6 h9 o R J1 mL (va_up (va_up (va_up (va_up A 9 (f)) 19 (rch)) 20 (q)) 9 (p_lay (J1 7) (A 8) f (q x))) := hp
                    obtain ⟨rfl, hF9, hM⟩ := hp
                    refine W.eq (g2 := F0 m 71 ls []) rfl ?_
                    have hF := hF.tr hF9 (fun q h1 _ => h1)
                    generalize h9 = h at hM hF hW
                    rw [j7] at hM
                    have hM : OB g 6 28 kd6 h o R J1 mL (va_up (va_up (va_up A 9 (p_lay (I 7) (A 8) f (q x))) 19 (rch)) 20 (q)) := by
                      have e9 : (va_up (va_up (va_up (va_up A 9 (f)) 19 (rch)) 20 (q)) 9 (p_lay (I 7) (A 8) f (q x))) = (va_up (va_up (va_up A 9 (p_lay (I 7) (A 8) f (q x))) 19 (rch)) 20 (q)) := by funext q9; by_cases w9 : q9 = 9 <;> by_cases w19 : q9 = 19 <;> by_cases w20 : q9 = 20 <;> simp [va_up, w9, w19, w20]
                      rw [← e9]
                      exact hM
                    refine lv_aload_n hx hb dX6_reach_71 rfl (lv_at hl 0 rfl) ?_
                    refine lv_iload hx hb dX6_reach_72 (lv_at hl 5 rfl) ?_
                    refine g_callV (As := [.int (J a)]) (rest := []) (b := o) (ci := 6) (C := RX6) (T := TX6) (N := 28) ⟨hx, hb, hml, hown, hts⟩ (m_does l g base sa h o R J1 (va_up (va_up (va_up A 9 (p_lay (I 7) (A 8) f (q x))) 19 (rch)) 20 (q)) a hM ⟨by omega, by omega⟩ (Tok_of (I := J1) (A := (va_up (va_up (va_up A 9 (p_lay (I 7) (A 8) f (q x))) 19 (rch)) 20 (q))) (by rw [j7]; exact hrm) (by rw [j10]; exact h10) (by rw [j11]; exact h11) (by rw [j7]; exact lay_v hrm f (q x)))) (cwV 1 hts gX6_reach_X6_does rfl rfl rfl (by decide +kernel) ⟨Nat.le_of_ble_eq_true rfl, Nat.le_of_ble_eq_true rfl⟩) hk hW hS hM.1 rfl rfl hl.1 (Nat.le_of_ble_eq_true rfl) dX6_reach_74 ⟨Nat.le_of_ble_eq_true rfl, Nat.le_of_ble_eq_true rfl⟩ (fun r9 h9 H locs hp hW hS => ?_)
                    have hp : ∃ I', r9 = some (.int (J (if 0 < p_mv (J1 7) (J1 10) (J1 11) (A 8) (p_lay (I 7) (A 8) f (q x)) a then 1 else 0))) ∧ Fr (FP 28 kd6 o R) h h9 ∧ OB g 6 28 kd6 h9 o R I' mL (va_up (va_up (va_up (va_up A 9 (p_lay (I 7) (A 8) f (q x))) 19 (rch)) 20 (q)) 9 (p_do (p_lay (I 7) (A 8) f (q x)) a (p_mv (J1 7) (J1 10) (J1 11) (A 8) (p_lay (I 7) (A 8) f (q x)) a))) ∧ (∀ k, k ≠ 12 → k ≠ 13 → I' k = J1 k) ∧ (0 < p_mv (J1 7) (J1 10) (J1 11) (A 8) (p_lay (I 7) (A 8) f (q x)) a → I' 12 = p_mv (J1 7) (J1 10) (J1 11) (A 8) (p_lay (I 7) (A 8) f (q x)) a ∧ I' 13 = (if 4 ≤ a ∧ a < 8 then p_mv (J1 7) (J1 10) (J1 11) (A 8) (p_lay (I 7) (A 8) f (q x)) a else 0)) := hp
                    rw [j7, j10, j11, p_mv_lay] at hp
                    obtain ⟨J2, rfl, hF9, hM, hJ2, hsp⟩ := hp
                    refine W.eq (g2 := F0 m 77 ls [.int (J (if 0 < mvM (I 7) (I 10) (I 11) (A 8) (q x) a then 1 else 0))]) rfl ?_
                    have hF := hF.tr hF9 (fun q h1 _ => h1)
                    generalize h9 = h at hM hF hW
                    have hM : OB g 6 28 kd6 h o R J2 mL (va_up (va_up (va_up A 9 (p_do (p_lay (I 7) (A 8) f (q x)) a (mvM (I 7) (I 10) (I 11) (A 8) (q x) a))) 19 (rch)) 20 (q)) := by
                      have e9 : (va_up (va_up (va_up (va_up A 9 (p_lay (I 7) (A 8) f (q x))) 19 (rch)) 20 (q)) 9 (p_do (p_lay (I 7) (A 8) f (q x)) a (mvM (I 7) (I 10) (I 11) (A 8) (q x) a))) = (va_up (va_up (va_up A 9 (p_do (p_lay (I 7) (A 8) f (q x)) a (mvM (I 7) (I 10) (I 11) (A 8) (q x) a))) 19 (rch)) 20 (q)) := by funext q9; by_cases w9 : q9 = 9 <;> by_cases w19 : q9 = 19 <;> by_cases w20 : q9 = 20 <;> simp [va_up, w9, w19, w20]
                      rw [← e9]
                      exact hM
                    have k7 : J2 7 = I 7 := (hJ2 7 (by decide) (by decide)).trans j7
                    have hnx := hNX (q x) a hqx.1 hqx.2.1 (by omega) (by omega)
                    refine j_if_eq (x := if 0 < mvM (I 7) (I 10) (I 11) (A 8) (q x) a then 1 else 0) (tgt := 115) hx hb (if01_r _) dX6_reach_77 (by decide) (fun c_77 => ?_) (fun c_77 => ?_)
                    · refine lv_iinc (v := J (a + 1)) (lv' := [(5, .int (J (a + 1))), (0, .ref o), (1, .int (J fr)), (2, .int (J (mT (A 8) (I 7)))), (3, .int (J k)), (4, .int (J x))]) hx hb dX6_reach_115 hl (k := 5) rfl (J_inc (by omega)) (by decide) rfl (fun ls hl => ?_)
                      refine lv_goto (tgt := 53) hx hb dX6_reach_118 (by decide) ?_
                      exact ih_53 (a + 1) J2 (p_do (p_lay (I 7) (A 8) f (q x)) a (mvM (I 7) (I 10) (I 11) (A 8) (q x) a)) rch q k h H locs ls (by omega) (by omega) (by omega) (fun k h1 h2 => (hJ2 k h1 h2).trans (hJ k h1 h2)) (RB_no hRB (by omega) (by omega) (by first | (exact Or.inl (by unfold nxM; rw [if_neg (if01_n c_77)])) | (exact Or.inr (by rcases hRB.2.2.2.2.1 (nxM (I 7) (I 10) (I 11) (A 8) (q x) a) (by omega) (by omega) with w | w; exact absurd w c_93; exact w.1)))) hM hF hW hS (lv_sub hl [1, 2, 3, 4, 5, 0] rfl)
                    · refine lv_aload_n hx hb dX6_reach_80 rfl (lv_at hl 0 rfl) ?_
                      refine g_callV (As := []) (rest := []) (b := o) (ci := 6) (C := RX6) (T := TX6) (N := 28) ⟨hx, hb, hml, hown, hts⟩ (m_numberOf l g base sa h o R J2 (va_up (va_up (va_up A 9 (p_do (p_lay (I 7) (A 8) f (q x)) a (mvM (I 7) (I 10) (I 11) (A 8) (q x) a))) 19 (rch)) 20 (q)) hM ⟨by omega, by omega⟩) (cwV 0 hts gX6_reach_X6_numberOf rfl rfl rfl (by decide +kernel) ⟨Nat.le_of_ble_eq_true rfl, Nat.le_of_ble_eq_true rfl⟩) hk hW hS hM.1 rfl rfl hl.1 (Nat.le_of_ble_eq_true rfl) dX6_reach_81 ⟨Nat.le_of_ble_eq_true rfl, Nat.le_of_ble_eq_true rfl⟩ (fun r9 h9 H locs hp hW hS => ?_)
                      have hp : r9 = some (.int (J (nT (A 8) (p_do (p_lay (I 7) (A 8) f (q x)) a (mvM (I 7) (I 10) (I 11) (A 8) (q x) a)) (J2 7)))) ∧ h9 = h := hp
                      rw [k7, nx_eq (if01_p c_77)] at hp
                      obtain ⟨rfl, e9⟩ := hp
                      rw [e9] at hW
                      refine W.eq (g2 := F0 m 84 ls [.int (J (nxM (I 7) (I 10) (I 11) (A 8) (q x) a))]) rfl ?_
                      have hnp : nxM (I 7) (I 10) (I 11) (A 8) (q x) a ≠ -1 := by
                        have := nx_pos hrm (if01_p c_77)
                        omega
                      refine lv_istore (lv' := [(6, .int (J (nxM (I 7) (I 10) (I 11) (A 8) (q x) a))), (0, .ref o), (1, .int (J fr)), (2, .int (J (mT (A 8) (I 7)))), (3, .int (J k)), (4, .int (J x)), (5, .int (J a))]) hx hb dX6_reach_84 hl (by decide) rfl (fun ls hl => ?_)
                      have hrr := hRB.2.2.2.2.1 (nxM (I 7) (I 10) (I 11) (A 8) (q x) a) (by omega) (by omega)
                      refine lv_aload_n hx hb dX6_reach_86 rfl (lv_at hl 1 rfl) ?_
                      refine g_get (ci := 6) (C := RX6) (T := TX6) (N := 28) (v := .ref (R 19)) hx hb hfX6 (fun _ h9 => h9) hown hk hW hM.1 rfl 19 (by decide) (hts (.fieldLink RX6 46 "JugsAndGlassesModel" "isReached" "[Z") (by decide +kernel)) rfl rfl dX6_reach_87 ?_
                      refine lv_iload hx hb dX6_reach_90 (lv_at hl 0 rfl) ?_
                      refine g_zald (n := 14641) (f := rch) (i := nxM (I 7) (I 10) (I 11) (A 8) (q x) a) hx hb hk hW (hM.az 19 (by decide) rfl) (by omega) (by omega) (by omega) dX6_reach_92 ?_
                      refine j_if_ne (x := rch (nxM (I 7) (I 10) (I 11) (A 8) (q x) a)) (tgt := 115) hx hb ⟨by rcases hrr with w | w <;> omega, by rcases hrr with w | w <;> omega⟩ dX6_reach_93 (by decide) (fun c_93 => ?_) (fun c_93 => ?_)
                      · refine lv_iinc (v := J (a + 1)) (lv' := [(5, .int (J (a + 1))), (6, .int (J (nxM (I 7) (I 10) (I 11) (A 8) (q x) a))), (0, .ref o), (1, .int (J fr)), (2, .int (J (mT (A 8) (I 7)))), (3, .int (J k)), (4, .int (J x))]) hx hb dX6_reach_115 hl (k := 6) rfl (J_inc (by omega)) (by decide) rfl (fun ls hl => ?_)
                        refine lv_goto (tgt := 53) hx hb dX6_reach_118 (by decide) ?_
                        exact ih_53 (a + 1) J2 (p_do (p_lay (I 7) (A 8) f (q x)) a (mvM (I 7) (I 10) (I 11) (A 8) (q x) a)) rch q k h H locs ls (by omega) (by omega) (by omega) (fun k h1 h2 => (hJ2 k h1 h2).trans (hJ k h1 h2)) (RB_no hRB (by omega) (by omega) (by first | (exact Or.inl (by unfold nxM; rw [if_neg (if01_n c_77)])) | (exact Or.inr (by rcases hRB.2.2.2.2.1 (nxM (I 7) (I 10) (I 11) (A 8) (q x) a) (by omega) (by omega) with w | w; exact absurd w c_93; exact w.1)))) hM hF hW hS (lv_sub hl [2, 3, 4, 5, 6, 0] rfl)
                      · have hkl := RB_lt hRB (by omega) (by omega) c_93
                        refine lv_aload_n hx hb dX6_reach_96 rfl (lv_at hl 1 rfl) ?_
                        refine g_get (ci := 6) (C := RX6) (T := TX6) (N := 28) (v := .ref (R 19)) hx hb hfX6 (fun _ h9 => h9) hown hk hW hM.1 rfl 19 (by decide) (hts (.fieldLink RX6 46 "JugsAndGlassesModel" "isReached" "[Z") (by decide +kernel)) rfl rfl dX6_reach_97 ?_
                        refine lv_iload hx hb dX6_reach_100 (lv_at hl 0 rfl) ?_
                        refine lv_iconst (v := J (1)) hx hb dX6_reach_102 rfl ?_
                        refine o_zast (A' := (va_up (va_up (va_up A 9 (p_do (p_lay (I 7) (A 8) f (q x)) a (mvM (I 7) (I 10) (I 11) (A 8) (q x) a))) 20 (q)) 19 (uf rch (nxM (I 7) (I 10) (I 11) (A 8) (q x) a) 1))) (i := nxM (I 7) (I 10) (I 11) (A 8) (q x) a) (x := 1) hx hb hk hW hS hM hF 19 (by decide) rfl (FP.a 19 (by decide) ⟨by decide, by decide⟩) (by omega) (show nxM (I 7) (I 10) (I 11) (A 8) (q x) a < 14641 from by omega) (show 14641 < 2147483648 from by omega) (by omega) (by funext j9; by_cases q9 : j9 = 19 <;> simp [q9, va_up]) dX6_reach_103 (fun h H locs hM hF hst hW hS => ?_)
                        refine lv_aload_n hx hb dX6_reach_104 rfl (lv_at hl 1 rfl) ?_
                        refine g_get (ci := 6) (C := RX6) (T := TX6) (N := 28) (v := .ref (R 20)) hx hb hfX6 (fun _ h9 => h9) hown hk hW hM.1 rfl 20 (by decide) (hts (.fieldLink RX6 50 "JugsAndGlassesModel" "queue" "[I") (by decide +kernel)) rfl rfl dX6_reach_105 ?_
                        refine lv_iload_n hx hb dX6_reach_108 rfl (lv_at hl 4 rfl) ?_
                        refine lv_iload hx hb dX6_reach_109 (lv_at hl 0 rfl) ?_
                        refine o_iast (A' := (va_up (va_up (va_up A 9 (p_do (p_lay (I 7) (A 8) f (q x)) a (mvM (I 7) (I 10) (I 11) (A 8) (q x) a))) 19 (uf rch (nxM (I 7) (I 10) (I 11) (A 8) (q x) a) 1)) 20 (uf q k (nxM (I 7) (I 10) (I 11) (A 8) (q x) a)))) (i := k) (x := nxM (I 7) (I 10) (I 11) (A 8) (q x) a) hx hb hk hW hS hM hF 20 (by decide) rfl (FP.a 20 (by decide) ⟨by decide, by decide⟩) (by omega) (show k < 14641 from by omega) (show 14641 < 2147483648 from by omega) (by funext j9; by_cases q9 : j9 = 20 <;> simp [q9, va_up]) dX6_reach_111 (fun h H locs hM hF hst hW hS => ?_)
                        refine lv_iinc (v := J (k + 1)) (lv' := [(3, .int (J (k + 1))), (6, .int (J (nxM (I 7) (I 10) (I 11) (A 8) (q x) a))), (0, .ref o), (1, .int (J fr)), (2, .int (J (mT (A 8) (I 7)))), (4, .int (J x)), (5, .int (J a))]) hx hb dX6_reach_112 hl (k := 4) rfl (J_inc (by omega)) (by decide) rfl (fun ls hl => ?_)
                        refine lv_iinc (v := J (a + 1)) (lv' := [(5, .int (J (a + 1))), (3, .int (J (k + 1))), (6, .int (J (nxM (I 7) (I 10) (I 11) (A 8) (q x) a))), (0, .ref o), (1, .int (J fr)), (2, .int (J (mT (A 8) (I 7)))), (4, .int (J x))]) hx hb dX6_reach_115 hl (k := 6) rfl (J_inc (by omega)) (by decide) rfl (fun ls hl => ?_)
                        refine lv_goto (tgt := 53) hx hb dX6_reach_118 (by decide) ?_
                        exact ih_53 (a + 1) J2 (p_do (p_lay (I 7) (A 8) f (q x)) a (mvM (I 7) (I 10) (I 11) (A 8) (q x) a)) (uf rch (nxM (I 7) (I 10) (I 11) (A 8) (q x) a) 1) (uf q k (nxM (I 7) (I 10) (I 11) (A 8) (q x) a)) (k + 1) h H locs ls (by omega) (by omega) (by omega) (fun k h1 h2 => (hJ2 k h1 h2).trans (hJ k h1 h2)) (RB_yes hRB hx9.1 hxk (by omega) (by omega) (by omega) (by omega) c_93) hM hF hW hS (lv_sub hl [3, 4, 5, 1, 6, 0] rfl)
              exact loop_53 25 0 J1 f rch q k h H locs ls (by omega) (by omega) (by omega) hJ (by rw [Int.add_zero]; exact hRB) hM hF hW hS (lv_sub hl [1, 2, 3, 4, 5, 0] rfl)
        exact loop_44 ((mT (A 8) (I 7)).toNat + 1) 0 I (A 9) (uf rch fr 1) (uf (A 20) 0 fr) 1 h H locs ls (by omega) (by omega) (fun _ _ _ => rfl) (RB_0 hfr.1 hfr.2 (fun s a b => hr0 s a (by omega))) (by have e8 : va_up (va_up (va_up A 9 (A 9)) 19 (uf rch fr 1)) 20 (uf (A 20) 0 fr) = va_up (va_up A 19 (uf rch fr 1)) 20 (uf (A 20) 0 fr) := (by funext q9; by_cases w9 : q9 = 9 <;> by_cases w19 : q9 = 19 <;> by_cases w20 : q9 = 20 <;> simp [va_up, w9, w19, w20]); rw [e8]; exact hM) hF hW hS (lv_sub hl [2, 3, 4, 1, 0] rfl)
      · refine lv_aload_n hx hb dX6_reach_12 rfl (lv_at hl 0 rfl) ?_
        refine g_get (ci := 6) (C := RX6) (T := TX6) (N := 28) (v := .ref (R 19)) hx hb hfX6 (fun _ h9 => h9) hown hk hW hM.1 rfl 19 (by decide) (hts (.fieldLink RX6 46 "JugsAndGlassesModel" "isReached" "[Z") (by decide +kernel)) rfl rfl dX6_reach_13 ?_
        refine lv_iload_n hx hb dX6_reach_16 rfl (lv_at hl 3 rfl) ?_
        refine lv_iconst (v := J (0)) hx hb dX6_reach_17 rfl ?_
        refine o_zast (A' := (va_up A 19 (uf rch x 0))) (i := x) (x := 0) hx hb hk hW hS hM hF 19 (by decide) rfl (FP.a 19 (by decide) ⟨by decide, by decide⟩) (by omega) (show x < 14641 from by omega) (show 14641 < 2147483648 from by omega) (by omega) (bx_uu _ _ _ _) dX6_reach_18 (fun h H locs hM hF hst hW hS => ?_)
        refine lv_iinc (v := J (x + 1)) (lv' := [(3, .int (J (x + 1))), (0, .ref o), (1, .int (J fr)), (2, .int (J (mT (A 8) (I 7))))]) hx hb dX6_reach_19 hl (k := 3) rfl (J_inc (by omega)) (by decide) rfl (fun ls hl => ?_)
        refine lv_goto (tgt := 7) hx hb dX6_reach_22 (by decide) ?_
        exact ih_7 (x + 1) (uf rch x 0) h H locs ls (by omega) (by omega) (fun s h1 h2 => by (by_cases e : s = x); (rw [e, uf_same]); (rw [uf_ne _ _ e]; exact hr0 s h1 (by omega))) hM hF hW hS (lv_sub hl [1, 2, 3, 0] rfl)
  exact loop_7 ((mT (A 8) (I 7)).toNat + 1) 0 (A 19) h0 H locs ls (by omega) (by omega) (fun s h1 h2 => absurd h2 (by omega)) (by rw [va_up_id]; exact hM) hF hW hS (lv_sub hl [2, 3, 1, 0] rfl)
