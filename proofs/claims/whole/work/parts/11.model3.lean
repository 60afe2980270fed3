set_option maxHeartbeats 4000000 in
set_option maxRecDepth 100000 in
theorem m_layActs (l : Launch) (g : GX) (base : Nat) (sa : Nat → Nat) (h0 : Hp) (o : Nat) (R : Nat → Nat) (I : Nat → Int) (A : Nat → Int → Int) (hM : OB g 6 28 kd6 h0 o R I mL A) (hrm : Rm (I 7) (A 8)) (h10 : I 10 = 0 ∨ I 10 = 1) (h11 : I 11 = 0 ∨ I 11 = 1) : MC l g base sa yX6_layActs wsX6_layActs ({ frames := 1, cells := 0, slots := 0, locals := 23 }) ([.ref o]) h0 (fun r h' => r = none ∧ Fr (FP 28 kd6 o R) h0 h' ∧ ∃ I' f p14 p15, OB g 6 28 kd6 h' o R I' mL (va_up (va_up (va_up A 9 f) 14 p14) 15 p15) ∧ (∀ k, k ≠ 12 → k ≠ 13 → I' k = I k) ∧ LA (I 7) (I 10) (I 11) (A 8) p14 p15 (24 * mT (A 8) (I 7))) := by
  refine Met.ofW (cc := cX6_layActs) (maxL := 5) (ret := none) (by decide) rfl ?_
  intro p e s m args below meth c s₁ B hml hv
  obtain ⟨rfl, hk, hW⟩ := hv
  have hx := B.exec
  have hb := B.bytes
  have hr := B.returns
  have hts := atoms_spec (ws := wsX6_layActs) B.pre
  have hown : s.vm.findClass RX6 = some m.cls := findClass_of_methodNamed B.named
  have hlocks := B.notSynchronized
  have hfX6 : ∀ w ∈ wsX60, w.before ([.ref o]).toArray s = true := fun w h => hts w (List.mem_cons_of_mem _ (List.mem_append_right _ h))
  have hS : va_S (Ab base) s.heap s.heap [] := va_S.rf
  have hl := lv_entry ([.ref o]) (n := 5) (Nat.le_of_ble_eq_true rfl)
  rw [lg_entry_eq]
  generalize (lg_sl ([.ref o]) ++ List.replicate (5 - (lg_sl ([.ref o])).length) Slot.unset).toArray = ls at hl ⊢
  have hl : lv_has ls 5 [(0, .ref o)] := hl
  have hF : Fr (FP 28 kd6 o R) h0 h0 := Fr.rf
  have hmr := mT_r hrm
  have hrm1 := hrm.1
  have hrm2 := hrm.2.1
  refine lv_aload_n hx hb dX6_layActs_0 rfl (lv_at hl 0 rfl) ?_
  refine g_callV (As := []) (rest := []) (b := o) (ci := 6) (C := RX6) (T := TX6) (N := 28) ⟨hx, hb, hml, hown, hts⟩ (m_stateMany l g base sa h0 o R I A hM ⟨hrm1, hrm2⟩) (cwV 0 hts gX6_layActs_X6_stateMany rfl rfl rfl (by decide +kernel) ⟨Nat.le_of_ble_eq_true rfl, Nat.le_of_ble_eq_true rfl⟩) hk hW hS hM.1 rfl rfl hl.1 (Nat.le_of_ble_eq_true rfl) dX6_layActs_1 ⟨Nat.le_of_ble_eq_true rfl, Nat.le_of_ble_eq_true rfl⟩ (fun r9 h9 H locs hp hW hS => ?_)
  obtain ⟨rfl, e9⟩ := hp
  rw [e9] at hW
  refine W.eq (g2 := F0 m 4 ls [.int (J (mT (A 8) (I 7)))]) rfl ?_
  refine lv_istore_n (lv' := [(1, .int (J (mT (A 8) (I 7)))), (0, .ref o)]) hx hb dX6_layActs_4 rfl hl (by decide) rfl (fun ls hl => ?_)
  refine lv_iconst (v := J (0)) hx hb dX6_layActs_5 rfl ?_
  refine lv_istore_n (lv' := [(2, .int (J 0)), (1, .int (J (mT (A 8) (I 7)))), (0, .ref o)]) hx hb dX6_layActs_6 rfl hl (by decide) rfl (fun ls hl => ?_)
  have loop_7 : ∀ (n : Nat) (x : Int) (J1 : Nat → Int) (f : Int → Int) (p14 : Int → Int) (p15 : Int → Int) (h : Hp) (H : Heap) (locs : List Loc) (ls : Array Slot), mT (A 8) (I 7) - x < (n : Int) → (0 ≤ x ∧ x ≤ mT (A 8) (I 7)) → (∀ k, k ≠ 12 → k ≠ 13 → J1 k = I k) → (LA (I 7) (I 10) (I 11) (A 8) p14 p15 (24 * x)) → (OB g 6 28 kd6 h o R J1 mL (va_up (va_up (va_up A 9 (f)) 14 (p14)) 15 (p15))) → (Fr (FP 28 kd6 o R) h0 h) → (Wd g base h H) → (va_S (Ab base) s.heap H locs) → (lv_has ls 5 [(0, .ref o), (1, .int (J (mT (A 8) (I 7)))), (2, .int (J x))]) → W p l e (headSpec wsX6_layActs ({ frames := 1, cells := 0, slots := 0, locals := 23 })).room s m ([.ref o]).toArray below meth c H locs 0 0 (MQ below (QcM g base (fun r h' => r = none ∧ Fr (FP 28 kd6 o R) h0 h' ∧ ∃ I' f p14 p15, OB g 6 28 kd6 h' o R I' mL (va_up (va_up (va_up A 9 f) 14 p14) 15 p15) ∧ (∀ k, k ≠ 12 → k ≠ 13 → I' k = I k) ∧ LA (I 7) (I 10) (I 11) (A 8) p14 p15 (24 * mT (A 8) (I 7)))) ([.ref o]).toArray s (0) (0) (Ab base)) (F0 m 7 ls []) := by
    intro n
    induction n with
    | zero =>
      intro x J1 f p14 p15 h H locs ls hmu hx9 hJ hLA hM hF hW hS hl
      exact absurd hmu (by omega)
    | succ n ih =>
      intro x J1 f p14 p15 h H locs ls hmu hx9 hJ hLA hM hF hW hS hl
      have j7 : J1 7 = I 7 := hJ 7 (by decide) (by decide)
      have j10 : J1 10 = I 10 := hJ 10 (by decide) (by decide)
      have j11 : J1 11 = I 11 := hJ 11 (by decide) (by decide)
      have ih_7 := ih
      refine lv_iload_n hx hb dX6_layActs_7 rfl (lv_at hl 2 rfl) ?_
      refine lv_iload_n hx hb dX6_layActs_8 rfl (lv_at hl 1 rfl) ?_
      refine j_icmp_ge (x := x) (y := mT (A 8) (I 7)) (tgt := 92) hx hb ⟨by omega, by omega⟩ ⟨by omega, by omega⟩ dX6_layActs_9 (by decide) (fun c_9 => ?_) (fun c_9 => ?_)
      · exact g_vret hx hb hr hW hS dX6_layActs_92 hlocks (⟨rfl, hF, J1, f, p14, p15, hM, hJ, by have e9 : mT (A 8) (I 7) = x := (by omega); rw [e9]; exact hLA⟩)
      · refine lv_iconst (v := J (0)) hx hb dX6_layActs_12 rfl ?_
        refine lv_istore_n (lv' := [(3, .int (J 0)), (0, .ref o), (1, .int (J (mT (A 8) (I 7)))), (2, .int (J x))]) hx hb dX6_layActs_13 rfl hl (by decide) rfl (fun ls hl => ?_)
        have loop_14 : ∀ (n : Nat) (a : Int) (J1 : Nat → Int) (f : Int → Int) (p14 : Int → Int) (p15 : Int → Int) (h : Hp) (H : Heap) (locs : List Loc) (ls : Array Slot), 24 - a < (n : Int) → (0 ≤ a ∧ a ≤ 24) → (∀ k, k ≠ 12 → k ≠ 13 → J1 k = I k) → (LA (I 7) (I 10) (I 11) (A 8) p14 p15 (24 * x + a)) → (OB g 6 28 kd6 h o R J1 mL (va_up (va_up (va_up A 9 (f)) 14 (p14)) 15 (p15))) → (Fr (FP 28 kd6 o R) h0 h) → (Wd g base h H) → (va_S (Ab base) s.heap H locs) → (lv_has ls 5 [(0, .ref o), (1, .int (J (mT (A 8) (I 7)))), (2, .int (J x)), (3, .int (J a))]) → W p l e (headSpec wsX6_layActs ({ frames := 1, cells := 0, slots := 0, locals := 23 })).room s m ([.ref o]).toArray below meth c H locs 0 0 (MQ below (QcM g base (fun r h' => r = none ∧ Fr (FP 28 kd6 o R) h0 h' ∧ ∃ I' f p14 p15, OB g 6 28 kd6 h' o R I' mL (va_up (va_up (va_up A 9 f) 14 p14) 15 p15) ∧ (∀ k, k ≠ 12 → k ≠ 13 → I' k = I k) ∧ LA (I 7) (I 10) (I 11) (A 8) p14 p15 (24 * mT (A 8) (I 7)))) ([.ref o]).toArray s (0) (0) (Ab base)) (F0 m 14 ls []) := by
          intro n
          induction n with
          | zero =>
            intro a J1 f p14 p15 h H locs ls hmu ha9 hJ hLA hM hF hW hS hl
            exact absurd hmu (by omega)
          | succ n ih =>
            intro a J1 f p14 p15 h H locs ls hmu ha9 hJ hLA hM hF hW hS hl
            have j7 : J1 7 = I 7 := hJ 7 (by decide) (by decide)
            have j10 : J1 10 = I 10 := hJ 10 (by decide) (by decide)
            have j11 : J1 11 = I 11 := hJ 11 (by decide) (by decide)
            have ih_14 := ih
            refine lv_iload_n hx hb dX6_layActs_14 rfl (lv_at hl 3 rfl) ?_
            refine lv_bipush (v := J (24)) hx hb dX6_layActs_15 (by decide) ?_
            refine j_icmp_ge (x := a) (y := 24) (tgt := 86) hx hb ⟨by omega, by omega⟩ ⟨by decide, by decide⟩ dX6_layActs_17 (by decide) (fun c_17 => ?_) (fun c_17 => ?_)
            · refine lv_iinc (v := J (x + 1)) (lv' := [(2, .int (J (x + 1))), (0, .ref o), (1, .int (J (mT (A 8) (I 7)))), (3, .int (J a))]) hx hb dX6_layActs_86 hl (k := 2) rfl (J_inc (by omega)) (by decide) rfl (fun ls hl => ?_)
              refine lv_goto (tgt := 7) hx hb dX6_layActs_89 (by decide) ?_
              exact ih_7 (x + 1) J1 f p14 p15 h H locs ls (by omega) (by omega) hJ (by have e9 : 24 * (x + 1) = 24 * x + a := (by omega); rw [e9]; exact hLA) hM hF hW hS (lv_sub hl [1, 2, 0] rfl)
            · refine lv_aload_n hx hb dX6_layActs_20 rfl (lv_at hl 0 rfl) ?_
              refine lv_iload_n hx hb dX6_layActs_21 rfl (lv_at hl 2 rfl) ?_
              refine g_callV (As := [.int (J x)]) (rest := []) (b := o) (ci := 6) (C := RX6) (T := TX6) (N := 28) ⟨hx, hb, hml, hown, hts⟩ (m_layState l g base sa h o R J1 (va_up (va_up (va_up A 9 (f)) 14 (p14)) 15 (p15)) x hM ⟨by omega, by omega⟩ ⟨by omega, by omega⟩ (fun i a b => hrm.2.2 i a (by omega))) (cwV 1 hts gX6_layActs_X6_layState rfl rfl rfl (by decide +kernel) ⟨Nat.le_of_ble_eq_true rfl, Nat.le_of_ble_eq_true rfl⟩) hk hW hS hM.1 rfl rfl hl.1 (Nat.le_of_ble_eq_true rfl) dX6_layActs_22 ⟨Nat.le_of_ble_eq_true rfl, Nat.le_of_ble_eq_true rfl⟩ (fun r9 h9 H locs hp hW hS => ?_)
              have hp : r9 = none ∧ Fr (FP 28 kd6 o R) h h9 ∧ OB g 6 28 kd6 h9 o R J1 mL (va_up (va_up (va_up (va_up A 9 (f)) 14 (p14)) 15 (p15)) 9 (p_lay (J1 7) (A 8) f x)) := hp
              obtain ⟨rfl, hF9, hM⟩ := hp
              refine W.eq (g2 := F0 m 25 ls []) rfl ?_
              have hF := hF.tr hF9 (fun q h1 _ => h1)
              generalize h9 = h at hM hF hW
              rw [j7] at hM
              have hM : OB g 6 28 kd6 h o R J1 mL (va_up (va_up (va_up A 9 (p_lay (I 7) (A 8) f x)) 14 (p14)) 15 (p15)) := by
                have e9 : (va_up (va_up (va_up (va_up A 9 (f)) 14 (p14)) 15 (p15)) 9 (p_lay (I 7) (A 8) f x)) = (va_up (va_up (va_up A 9 (p_lay (I 7) (A 8) f x)) 14 (p14)) 15 (p15)) := by funext q9; by_cases w9 : q9 = 9 <;> by_cases w14 : q9 = 14 <;> by_cases w15 : q9 = 15 <;> simp [va_up, w9, w14, w15]
                rw [← e9]
                exact hM
              refine lv_aload_n hx hb dX6_layActs_25 rfl (lv_at hl 0 rfl) ?_
              refine lv_iload_n hx hb dX6_layActs_26 rfl (lv_at hl 3 rfl) ?_
              refine g_callV (As := [.int (J a)]) (rest := []) (b := o) (ci := 6) (C := RX6) (T := TX6) (N := 28) ⟨hx, hb, hml, hown, hts⟩ (m_does l g base sa h o R J1 (va_up (va_up (va_up A 9 (p_lay (I 7) (A 8) f x)) 14 (p14)) 15 (p15)) a hM ⟨by omega, by omega⟩ (Tok_of (I := J1) (A := (va_up (va_up (va_up A 9 (p_lay (I 7) (A 8) f x)) 14 (p14)) 15 (p15))) (by rw [j7]; exact hrm) (by rw [j10]; exact h10) (by rw [j11]; exact h11) (by rw [j7]; exact lay_v hrm f x))) (cwV 1 hts gX6_layActs_X6_does rfl rfl rfl (by decide +kernel) ⟨Nat.le_of_ble_eq_true rfl, Nat.le_of_ble_eq_true rfl⟩) hk hW hS hM.1 rfl rfl hl.1 (Nat.le_of_ble_eq_true rfl) dX6_layActs_27 ⟨Nat.le_of_ble_eq_true rfl, Nat.le_of_ble_eq_true rfl⟩ (fun r9 h9 H locs hp hW hS => ?_)
              have hp : ∃ I', r9 = some (.int (J (if 0 < p_mv (J1 7) (J1 10) (J1 11) (A 8) (p_lay (I 7) (A 8) f x) a then 1 else 0))) ∧ Fr (FP 28 kd6 o R) h h9 ∧ OB g 6 28 kd6 h9 o R I' mL (va_up (va_up (va_up (va_up A 9 (p_lay (I 7) (A 8) f x)) 14 (p14)) 15 (p15)) 9 (p_do (p_lay (I 7) (A 8) f x) a (p_mv (J1 7) (J1 10) (J1 11) (A 8) (p_lay (I 7) (A 8) f x) a))) ∧ (∀ k, k ≠ 12 → k ≠ 13 → I' k = J1 k) ∧ (0 < p_mv (J1 7) (J1 10) (J1 11) (A 8) (p_lay (I 7) (A 8) f x) a → I' 12 = p_mv (J1 7) (J1 10) (J1 11) (A 8) (p_lay (I 7) (A 8) f x) a ∧ I' 13 = (if 4 ≤ a ∧ a < 8 then p_mv (J1 7) (J1 10) (J1 11) (A 8) (p_lay (I 7) (A 8) f x) a else 0)) := hp
              rw [j7, j10, j11, p_mv_lay] at hp
              obtain ⟨J2, rfl, hF9, hM, hJ2, hsp⟩ := hp
              refine W.eq (g2 := F0 m 30 ls [.int (J (if 0 < mvM (I 7) (I 10) (I 11) (A 8) x a then 1 else 0))]) rfl ?_
              have hF := hF.tr hF9 (fun q h1 _ => h1)
              generalize h9 = h at hM hF hW
              have hM : OB g 6 28 kd6 h o R J2 mL (va_up (va_up (va_up A 9 (p_do (p_lay (I 7) (A 8) f x) a (mvM (I 7) (I 10) (I 11) (A 8) x a))) 14 (p14)) 15 (p15)) := by
                have e9 : (va_up (va_up (va_up (va_up A 9 (p_lay (I 7) (A 8) f x)) 14 (p14)) 15 (p15)) 9 (p_do (p_lay (I 7) (A 8) f x) a (mvM (I 7) (I 10) (I 11) (A 8) x a))) = (va_up (va_up (va_up A 9 (p_do (p_lay (I 7) (A 8) f x) a (mvM (I 7) (I 10) (I 11) (A 8) x a))) 14 (p14)) 15 (p15)) := by funext q9; by_cases w9 : q9 = 9 <;> by_cases w14 : q9 = 14 <;> by_cases w15 : q9 = 15 <;> simp [va_up, w9, w14, w15]
                rw [← e9]
                exact hM
              have k7 : J2 7 = I 7 := (hJ2 7 (by decide) (by decide)).trans j7
              refine lv_istore (lv' := [(4, .int (J (if 0 < mvM (I 7) (I 10) (I 11) (A 8) x a then 1 else 0))), (0, .ref o), (1, .int (J (mT (A 8) (I 7)))), (2, .int (J x)), (3, .int (J a))]) hx hb dX6_layActs_30 hl (by decide) rfl (fun ls hl => ?_)
              refine lv_aload_n hx hb dX6_layActs_32 rfl (lv_at hl 1 rfl) ?_
              refine g_get (ci := 6) (C := RX6) (T := TX6) (N := 28) (v := .ref (R 14)) hx hb hfX6 (fun _ h9 => h9) hown hk hW hM.1 rfl 14 (by decide) (hts (.fieldLink RX6 33 "JugsAndGlassesModel" "next" "[I") (by decide +kernel)) rfl rfl dX6_layActs_33 ?_
              refine lv_bipush (v := J (24)) hx hb dX6_layActs_36 (by decide) ?_
              refine lv_iload_n hx hb dX6_layActs_38 rfl (lv_at hl 3 rfl) ?_
              refine j_imul hx hb dX6_layActs_39 ?_
              refine lv_iload_n hx hb dX6_layActs_40 rfl (lv_at hl 4 rfl) ?_
              refine j_iadd hx hb dX6_layActs_41 ?_
              have cut_55 : ∀ (t : Int) (h : Hp) (H : Heap) (locs : List Loc) (ls : Array Slot), (t = nxM (I 7) (I 10) (I 11) (A 8) x a) → (OB g 6 28 kd6 h o R J2 mL (va_up (va_up (va_up A 9 (p_do (p_lay (I 7) (A 8) f x) a (mvM (I 7) (I 10) (I 11) (A 8) x a))) 14 (p14)) 15 (p15))) → (Fr (FP 28 kd6 o R) h0 h) → (Wd g base h H) → (va_S (Ab base) s.heap H locs) → (lv_has ls 5 [(4, .int (J (if 0 < mvM (I 7) (I 10) (I 11) (A 8) x a then 1 else 0))), (0, .ref o), (1, .int (J (mT (A 8) (I 7)))), (2, .int (J x)), (3, .int (J a))]) → W p l e (headSpec wsX6_layActs ({ frames := 1, cells := 0, slots := 0, locals := 23 })).room s m ([.ref o]).toArray below meth c H locs 0 0 (MQ below (QcM g base (fun r h' => r = none ∧ Fr (FP 28 kd6 o R) h0 h' ∧ ∃ I' f p14 p15, OB g 6 28 kd6 h' o R I' mL (va_up (va_up (va_up A 9 f) 14 p14) 15 p15) ∧ (∀ k, k ≠ 12 → k ≠ 13 → I' k = I k) ∧ LA (I 7) (I 10) (I 11) (A 8) p14 p15 (24 * mT (A 8) (I 7)))) ([.ref o]).toArray s (0) (0) (Ab base)) (F0 m 55 ls [.int (J t), .int (J ((24 * x) + a)), .ref (R 14)]) := by
                intro t h H locs ls et hM hF hW hS hl
                refine o_iast (A' := (va_up (va_up (va_up A 9 (p_do (p_lay (I 7) (A 8) f x) a (mvM (I 7) (I 10) (I 11) (A 8) x a))) 15 (p15)) 14 (uf p14 ((24 * x) + a) t))) (i := (24 * x) + a) (x := t) hx hb hk hW hS hM hF 14 (by decide) rfl (FP.a 14 (by decide) ⟨by decide, by decide⟩) (by omega) (show (24 * x) + a < 351384 from by omega) (show 351384 < 2147483648 from by omega) (by funext j9; by_cases q9 : j9 = 14 <;> simp [q9, va_up]) dX6_layActs_55 (fun h H locs hM hF hst hW hS => ?_)
                refine lv_aload_n hx hb dX6_layActs_56 rfl (lv_at hl 1 rfl) ?_
                refine g_get (ci := 6) (C := RX6) (T := TX6) (N := 28) (v := .ref (R 15)) hx hb hfX6 (fun _ h9 => h9) hown hk hW hM.1 rfl 15 (by decide) (hts (.fieldLink RX6 36 "JugsAndGlassesModel" "spills" "[I") (by decide +kernel)) rfl rfl dX6_layActs_57 ?_
                refine lv_bipush (v := J (24)) hx hb dX6_layActs_60 (by decide) ?_
                refine lv_iload_n hx hb dX6_layActs_62 rfl (lv_at hl 3 rfl) ?_
                refine j_imul hx hb dX6_layActs_63 ?_
                refine lv_iload_n hx hb dX6_layActs_64 rfl (lv_at hl 4 rfl) ?_
                refine j_iadd hx hb dX6_layActs_65 ?_
                have cut_79 : ∀ (u : Int) (ls : Array Slot), (u = spM (I 7) (I 10) (I 11) (A 8) x a) → (lv_has ls 5 [(4, .int (J (if 0 < mvM (I 7) (I 10) (I 11) (A 8) x a then 1 else 0))), (0, .ref o), (1, .int (J (mT (A 8) (I 7)))), (2, .int (J x)), (3, .int (J a))]) → W p l e (headSpec wsX6_layActs ({ frames := 1, cells := 0, slots := 0, locals := 23 })).room s m ([.ref o]).toArray below meth c H locs 0 0 (MQ below (QcM g base (fun r h' => r = none ∧ Fr (FP 28 kd6 o R) h0 h' ∧ ∃ I' f p14 p15, OB g 6 28 kd6 h' o R I' mL (va_up (va_up (va_up A 9 f) 14 p14) 15 p15) ∧ (∀ k, k ≠ 12 → k ≠ 13 → I' k = I k) ∧ LA (I 7) (I 10) (I 11) (A 8) p14 p15 (24 * mT (A 8) (I 7)))) ([.ref o]).toArray s (0) (0) (Ab base)) (F0 m 79 ls [.int (J u), .int (J ((24 * x) + a)), .ref (R 15)]) := by
                  intro u  ls eu hl
                  refine o_iast (A' := (va_up (va_up (va_up A 9 (p_do (p_lay (I 7) (A 8) f x) a (mvM (I 7) (I 10) (I 11) (A 8) x a))) 14 (uf p14 ((24 * x) + a) t)) 15 (uf p15 ((24 * x) + a) u))) (i := (24 * x) + a) (x := u) hx hb hk hW hS hM hF 15 (by decide) rfl (FP.a 15 (by decide) ⟨by decide, by decide⟩) (by omega) (show (24 * x) + a < 351384 from by omega) (show 351384 < 2147483648 from by omega) (by funext j9; by_cases q9 : j9 = 15 <;> simp [q9, va_up]) dX6_layActs_79 (fun h H locs hM hF hst hW hS => ?_)
                  refine lv_iinc (v := J (a + 1)) (lv' := [(3, .int (J (a + 1))), (4, .int (J (if 0 < mvM (I 7) (I 10) (I 11) (A 8) x a then 1 else 0))), (0, .ref o), (1, .int (J (mT (A 8) (I 7)))), (2, .int (J x))]) hx hb dX6_layActs_80 hl (k := 4) rfl (J_inc (by omega)) (by decide) rfl (fun ls hl => ?_)
                  refine lv_goto (tgt := 14) hx hb dX6_layActs_83 (by decide) ?_
                  exact ih_14 (a + 1) J2 (p_do (p_lay (I 7) (A 8) f x) a (mvM (I 7) (I 10) (I 11) (A 8) x a)) (uf p14 ((24 * x) + a) t) (uf p15 ((24 * x) + a) u) h H locs ls (by omega) (by omega) (fun k h1 h2 => (hJ2 k h1 h2).trans (hJ k h1 h2)) (LA_s hLA (by omega) (by omega) et eu) hM hF hW hS (lv_sub hl [2, 3, 4, 0] rfl)
                refine lv_iload hx hb dX6_layActs_66 (lv_at hl 0 rfl) ?_
                refine j_if_eq (x := if 0 < mvM (I 7) (I 10) (I 11) (A 8) x a then 1 else 0) (tgt := 78) hx hb (if01_r _) dX6_layActs_68 (by decide) (fun c_68 => ?_) (fun c_68 => ?_)
                · refine lv_iconst (v := J (0)) hx hb dX6_layActs_78 rfl ?_
                  exact cut_79 _  ls (by unfold spM; rw [if_neg (if01_n c_68)]) (lv_sub hl [0, 1, 2, 3, 4] rfl)
                · refine lv_aload_n hx hb dX6_layActs_71 rfl (lv_at hl 1 rfl) ?_
                  refine g_get (ci := 6) (C := RX6) (T := TX6) (N := 28) (v := .int (J (J2 13))) hx hb hfX6 (fun _ h9 => h9) hown hk hW hM.1 rfl 13 (by decide) (hts (.fieldLink RX6 88 "JugsAndGlassesModel" "spilt" "I") (by decide +kernel)) rfl rfl dX6_layActs_72 ?_
                  refine lv_goto (tgt := 79) hx hb dX6_layActs_75 (by decide) ?_
                  exact cut_79 _  ls (by unfold spM; rw [if_pos (if01_p c_68), (hsp (if01_p c_68)).2]) (lv_sub hl [0, 1, 2, 3, 4] rfl)
              refine lv_iload hx hb dX6_layActs_42 (lv_at hl 0 rfl) ?_
              refine j_if_eq (x := if 0 < mvM (I 7) (I 10) (I 11) (A 8) x a then 1 else 0) (tgt := 54) hx hb (if01_r _) dX6_layActs_44 (by decide) (fun c_44 => ?_) (fun c_44 => ?_)
              · refine lv_iconst (v := J (-1)) hx hb dX6_layActs_54 rfl ?_
                exact cut_55 _ h H locs ls (by unfold nxM; rw [if_neg (if01_n c_44)]) hM hF hW hS (lv_sub hl [0, 1, 2, 3, 4] rfl)
              · refine lv_aload_n hx hb dX6_layActs_47 rfl (lv_at hl 1 rfl) ?_
                refine g_callV (As := []) (rest := [.int (J ((24 * x) + a)), .ref (R 14)]) (b := o) (ci := 6) (C := RX6) (T := TX6) (N := 28) ⟨hx, hb, hml, hown, hts⟩ (m_numberOf l g base sa h o R J2 (va_up (va_up (va_up A 9 (p_do (p_lay (I 7) (A 8) f x) a (mvM (I 7) (I 10) (I 11) (A 8) x a))) 14 (p14)) 15 (p15)) hM ⟨by omega, by omega⟩) (cwV 0 hts gX6_layActs_X6_numberOf rfl rfl rfl (by decide +kernel) ⟨Nat.le_of_ble_eq_true rfl, Nat.le_of_ble_eq_true rfl⟩) hk hW hS hM.1 rfl rfl hl.1 (Nat.le_of_ble_eq_true rfl) dX6_layActs_48 ⟨Nat.le_of_ble_eq_true rfl, Nat.le_of_ble_eq_true rfl⟩ (fun r9 h9 H locs hp hW hS => ?_)
                have hp : r9 = some (.int (J (nT (A 8) (p_do (p_lay (I 7) (A 8) f x) a (mvM (I 7) (I 10) (I 11) (A 8) x a)) (J2 7)))) ∧ h9 = h := hp
                rw [k7, nx_eq (if01_p c_44)] at hp
                obtain ⟨rfl, e9⟩ := hp
                rw [e9] at hW
                refine W.eq (g2 := F0 m 51 ls [.int (J (nxM (I 7) (I 10) (I 11) (A 8) x a)), .int (J ((24 * x) + a)), .ref (R 14)]) rfl ?_
                refine lv_goto (tgt := 55) hx hb dX6_layActs_51 (by decide) ?_
                exact cut_55 _ h H locs ls rfl hM hF hW hS (lv_sub hl [0, 1, 2, 3, 4] rfl)
        exact loop_14 25 0 J1 f p14 p15 h H locs ls (by omega) (by omega) hJ (by rw [Int.add_zero]; exact hLA) hM hF hW hS (lv_sub hl [1, 2, 3, 0] rfl)
  exact loop_7 ((mT (A 8) (I 7)).toNat + 1) 0 I (A 9) (A 14) (A 15) h0 H locs ls (by omega) (by omega) (fun _ _ _ => rfl) (fun s b h1 h2 h3 h4 => absurd h4 (by omega)) (by rw [va_up_id, va_up_id, va_up_id]; exact hM) hF hW hS (lv_sub hl [2, 1, 0] rfl)
