/-- an object's cells and another's are apart, also when some of them are new -/
theorem ap_new {g : GX} {ci N : Nat} {kd : Nat → Nat} {h0 : Hp} {oj : Nat} {Rj : Nat → Nat} {Ij : Nat → Int} {Lj : Nat → Int} {Aj : Nat → Int → Int} (hJ : OB g ci N kd h0 oj Rj Ij Lj Aj) {o : Nat} {R R1 : Nat → Nat} (hap : ∀ q, FP 4 kd4 o R q → ¬ FP N kd oj Rj q) (hR : ∀ k, k < 3 → R1 k = R k ∨ h0 (R1 k) = none) : ∀ q, FP 4 kd4 o R1 q → ¬ FP N kd oj Rj q := by
  intro q hq hj
  have hlive : h0 q ≠ none := by
    rcases hj with w | ⟨k, k1, k2, w⟩
    · rw [w, hJ.1]; exact fun z => by cases z
    · rw [w, hJ.2.1 k k1 k2]; exact fun z => by cases z
  rcases hq with w | ⟨k, k1, k2, w⟩
  · exact hap q (Or.inl w) hj
  · have k3 : k < 3 := by
      by_cases e : k = 3
      · rw [e] at k2; exact absurd k2.1 (by decide)
      · omega
    rcases hR k k3 with e | e
    · exact hap q (Or.inr ⟨k, k1, k2, by rw [w, e]⟩) hj
    · exact hlive (by rw [w]; exact e)

theorem tour_ob {g : GX} {h : Hp} {o : Nat} {R : Nat → Nat} {I : Nat → Int} {L : Nat → Int} {A : Nat → Int → Int} {fo lv ca : Int → Int} (hM : OB g 4 4 kd4 h o R I L (va_up (va_up (va_up A 0 fo) 1 lv) 2 ca)) : OB g 4 4 kd4 h o R I L (va_up (va_up (va_up (fun _ _ => 0) 0 fo) 1 lv) 2 ca) := by
  refine ⟨hM.1, fun k hk ha => ?_, hM.2.2⟩
  have := hM.2.1 k hk ha
  rw [this]
  match k, hk with
  | 0, _ => rfl
  | 1, _ => rfl
  | 2, _ => rfl
  | 3, _ => exact absurd ha.1 (by decide)
theorem nxC_act {n tp dr : Int} {sz : Int → Int} {x a : Int} (h : nxC n tp dr sz x a ≠ x) : p_act n a := by
  unfold nxC at h
  split at h
  · next q => exact (p_mv_pos_act q).2.2
  · exact absurd rfl h
theorem spC_eq {n : Int} {sz hd : Int → Int} {x a : Int} (hp : p_act n a) : p_spilt (p_stand n sz hd x) a = spC sz x a := by
  unfold p_spilt spC p_spilt
  split
  · exact p_stand_DC (by omega) hp.1
  · rfl
theorem spilt_r {hd : Int → Int} (h : ∀ i, 0 ≤ i → i < 4 → 0 ≤ hd i ∧ hd i ≤ 10) (a : Int) : 0 ≤ p_spilt hd a ∧ p_spilt hd a ≤ 10 := by
  unfold p_spilt
  have := k_giver_r a
  split
  · exact h _ (by omega) (by omega)
  · omega

set_option maxHeartbeats 4000000 in
set_option maxRecDepth 100000 in
theorem t_explore0 (l : Launch) (g : GX) (base : Nat) (sa : Nat → Nat) (h0 : Hp) (o : Nat) (R : Nat → Nat) (I : Nat → Int) (L : Nat → Int) (A : Nat → Int → Int) (oj : Nat) (Rj : Nat → Nat) (Ij : Nat → Int) (Aj : Nat → Int → Int) (x0 : Int) (hM : OB g 4 4 kd4 h0 o R I L A) (hJ : OB g 1 7 kd1 h0 oj Rj Ij L4 Aj) (hL : 0 ≤ L 1 ∧ L 1 ≤ 14641 ∧ L 0 = L 1 ∧ L 2 = L 1) (hw9 : Wok Ij Aj) (ex0 : x0 = sT (fun j => Aj 5 j * Aj 6 j) (Ij 0)) (hx0 : 0 ≤ x0 ∧ x0 < mT (Aj 4) (Ij 0)) (hTJ : ∀ q, FP 4 kd4 o R q → ¬ FP 7 kd1 oj Rj q) : MC l g base sa yX4_walk wsX4_walk ({ frames := 3, cells := tCel (L 1) (mT (Aj 4) (Ij 0)), slots := tSlo (L 1) (mT (Aj 4) (Ij 0)), locals := 74 }) ([.ref o, .ref oj, .null]) h0 (fun r9 h' => r9 = none ∧ Fr (fun q => FP 4 kd4 o R q ∨ FP 7 kd1 oj Rj q) h0 h' ∧ ∃ R' L' fo lv ca r pp f, OB g 4 4 kd4 h' o R' (va_up I 3 r) L' (va_up (va_up (va_up (fun _ _ => 0) 0 fo) 1 lv) 2 ca) ∧ OB g 1 7 kd1 h' oj Rj Ij L4 (va_up Aj 5 f) ∧ (L' 0 = tLen (L 1) (mT (Aj 4) (Ij 0)) ∧ L' 1 = tLen (L 1) (mT (Aj 4) (Ij 0)) ∧ L' 2 = tLen (L 1) (mT (Aj 4) (Ij 0))) ∧ (∀ k, k < 3 → R' k = R k ∨ h0 (R' k) = none) ∧ (∀ i, 0 ≤ i → i < 4 → 0 ≤ f i ∧ f i ≤ 10) ∧ TB (mT (Aj 4) (Ij 0)) (tLen (L 1) (mT (Aj 4) (Ij 0))) (nxC (Ij 0) (Ij 2) (Ij 3) (Aj 4)) (fun _ _ => true) x0 fo lv ca r (24 * r) pp) := by
  refine Met.ofW (cc := cX4_walk) (maxL := 7) (ret := none) (by decide) rfl ?_
  intro p e s m args below meth c s₁ B hml hv
  obtain ⟨rfl, hk, hW⟩ := hv
  have hx := B.exec
  have hb := B.bytes
  have hr := B.returns
  have hts := atoms_spec (ws := wsX4_walk) B.pre
  have hown : s.vm.findClass RX4 = some m.cls := findClass_of_methodNamed B.named
  have hlocks := B.notSynchronized
  have hfX1 : ∀ w ∈ wsX10, w.before ([.ref o, .ref oj, .null]).toArray s = true := fun w h => hts w (List.mem_cons_of_mem _ (List.mem_append_left _ (List.mem_append_left _ (List.mem_append_right _ h))))
  have hfX4 : ∀ w ∈ wsX40, w.before ([.ref o, .ref oj, .null]).toArray s = true := fun w h => hts w (List.mem_cons_of_mem _ (List.mem_append_left _ (List.mem_append_right _ h)))
  have hS : va_S (Ab base) s.heap s.heap [] := va_S.rf
  have hl := lv_entry ([.ref o, .ref oj, .null]) (n := 7) (Nat.le_of_ble_eq_true rfl)
  rw [lg_entry_eq]
  generalize (lg_sl ([.ref o, .ref oj, .null]) ++ List.replicate (7 - (lg_sl ([.ref o, .ref oj, .null])).length) Slot.unset).toArray = ls at hl ⊢
  have hl : lv_has ls 7 [(0, .ref o), (1, .ref oj), (2, .null)] := hl
  have hF : Fr (fun q => FP 4 kd4 o R q ∨ FP 7 kd1 oj Rj q ∨ h0 q = none) h0 h0 := Fr.rf
  obtain ⟨hw1, hw2, hw3, hw4, hw5, hw6⟩ := id hw9
  have hmr := mT_r hw1
  have hlr := tLen_r (M := L 1) (cd := mT (Aj 4) (Ij 0)) ⟨hL.1, hL.2.1⟩ hmr
  have hJ0 := hJ
  refine lv_aload_n hx hb dX4_walk_0 rfl (lv_at hl 0 rfl) ?_
  refine lv_aload_n hx hb dX4_walk_1 rfl (lv_at hl 1 rfl) ?_
  refine g_get (ci := 1) (C := RX1) (T := TX1) (N := 7) (v := .int (J (Ij 1))) hx hb hfX1 (fun _ h9 => h9) hown hk hW hJ.1 rfl 1 (by decide) (hts (.fieldLink RX4 35 "JugsAndGlasses$Jugs" "codes" "I") (by decide +kernel)) rfl rfl dX4_walk_2 ?_
  rw [hw4]
  refine lv_aload_n hx hb dX4_walk_5 rfl (lv_at hl 1 rfl) ?_
  refine g_callV (As := []) (rest := [.int (J (mT (Aj 4) (Ij 0))), .ref o]) (b := oj) (ci := 1) (C := RX1) (T := TX1) (N := 7) ⟨hx, hb, hml, hown, hts⟩ (k_code l g base sa h0 oj Rj Ij Aj hJ ⟨hw1.1, hw1.2.1⟩) (cwV 0 hts gX4_walk_X1_code rfl rfl rfl (by decide +kernel) ⟨Nat.le_of_ble_eq_true rfl, Nat.le_of_ble_eq_true rfl⟩) hk hW hS hJ.1 rfl rfl hl.1 (Nat.le_of_ble_eq_true rfl) dX4_walk_6 ⟨Nat.zero_le _, Nat.zero_le _⟩ (fun r9 h9 H locs hp hW hS => ?_)
  rw [← ex0] at hp
  obtain ⟨rfl, e9⟩ := hp
  rw [e9] at hW
  refine W.widen (k := 0) (n := 0) (Nat.le_refl _) (Nat.le_refl _) ?_
  refine W.eq (g2 := F0 m 9 ls [.int (J x0), .int (J (mT (Aj 4) (Ij 0))), .ref o]) rfl ?_
  refine g_callV (As := [.int (J (mT (Aj 4) (Ij 0))), .int (J x0)]) (rest := []) (b := o) (ci := 4) (C := RX4) (T := TX4) (N := 4) ⟨hx, hb, hml, hown, hts⟩ (t_start l g base sa h0 o R I L A (mT (Aj 4) (Ij 0)) x0 hM hL ⟨by omega, by omega⟩ ⟨by omega, by omega⟩) (cwV 2 hts gX4_walk_X4_start rfl rfl rfl (by decide +kernel) ⟨Nat.le_of_ble_eq_true rfl, Nat.le_of_ble_eq_true rfl⟩) hk hW hS hM.1 rfl rfl hl.1 (Nat.le_of_ble_eq_true rfl) dX4_walk_9 ⟨Nat.le_of_eq (Nat.zero_add _), Nat.le_of_eq (Nat.zero_add _)⟩ (fun r9 h9 H locs hp hW hS => ?_)
  obtain ⟨rfl, hF9, R1, L1, A1, hM, hl9, hR1, hf0, hlv0⟩ := hp
  refine W.widen (k := tCel (L 1) (mT (Aj 4) (Ij 0))) (n := tSlo (L 1) (mT (Aj 4) (Ij 0))) (Nat.le_of_eq (Nat.zero_add _)) (Nat.le_of_eq (Nat.zero_add _)) ?_
  refine W.eq (g2 := F0 m 12 ls []) rfl ?_
  have hJ := hJ.fr hF9 (fun q h1 h2 => hTJ q h2 h1)
  have hF : Fr (fun q => FP 4 kd4 o R q ∨ FP 7 kd1 oj Rj q ∨ h0 q = none) h0 h9 := hF9.mono (fun q w => Or.inl w)
  obtain ⟨hl0, hl1, hl2⟩ := hl9
  have hTJ1 := ap_new hJ0 hTJ hR1
  generalize h9 = h at hM hJ hF hW
  have hPa : ∀ k, k < 3 → (FP 4 kd4 o R (R1 k) ∨ FP 7 kd1 oj Rj (R1 k) ∨ h0 (R1 k) = none) := fun k hk9 => by
    rcases hR1 k hk9 with w | w
    · rw [w]; exact Or.inl (FP.a k (by omega) (by match k, hk9 with | 0, _ => exact ⟨by decide, by decide⟩ | 1, _ => exact ⟨by decide, by decide⟩ | 2, _ => exact ⟨by decide, by decide⟩))
    · exact Or.inr (Or.inr w)
  have hPT : ∀ q, FP 4 kd4 o R1 q → (FP 4 kd4 o R q ∨ FP 7 kd1 oj Rj q ∨ h0 q = none) := fun q w => by
    rcases w with w | ⟨k, k1, k2, w⟩
    · rw [w]; exact Or.inl FP.o
    · have k3 : k < 3 := by
        by_cases e9 : k = 3
        · rw [e9] at k2; exact absurd k2.1 (by decide)
        · omega
      rw [w]; exact hPa k k3
  refine lv_iconst (v := J (0)) hx hb dX4_walk_12 rfl ?_
  refine lv_istore_n (lv' := [(3, .int (J 0)), (0, .ref o), (1, .ref oj), (2, .null)]) hx hb dX4_walk_13 rfl hl (by decide) rfl (fun ls hl => ?_)
  have loop_14 : ∀ (n9 : Nat) (k : Int) (f : Int → Int) (fo : Int → Int) (lv : Int → Int) (ca : Int → Int) (r : Int) (pp : Int → Int) (h : Hp) (H : Heap) (locs : List Loc) (ls : Array Slot), mT (Aj 4) (Ij 0) - k < (n9 : Int) → (0 ≤ k ∧ k ≤ r) → (∀ i, 0 ≤ i → i < 4 → 0 ≤ f i ∧ f i ≤ 10) → (TB (mT (Aj 4) (Ij 0)) (tLen (L 1) (mT (Aj 4) (Ij 0))) (nxC (Ij 0) (Ij 2) (Ij 3) (Aj 4)) (fun _ _ => true) x0 fo lv ca r (24 * k) pp) → (OB g 4 4 kd4 h o R1 (va_up I 3 (r)) L1 (va_up (va_up (va_up A1 0 (fo)) 1 (lv)) 2 (ca))) → (OB g 1 7 kd1 h oj Rj Ij L4 (va_up Aj 5 (f))) → (Fr (fun q => FP 4 kd4 o R q ∨ FP 7 kd1 oj Rj q ∨ h0 q = none) h0 h) → (Wd g base h H) → (va_S (Ab base) s.heap H locs) → (lv_has ls 7 [(0, .ref o), (1, .ref oj), (2, .null), (3, .int (J k))]) → W p l e (headSpec wsX4_walk ({ frames := 3, cells := tCel (L 1) (mT (Aj 4) (Ij 0)), slots := tSlo (L 1) (mT (Aj 4) (Ij 0)), locals := 74 })).room s m ([.ref o, .ref oj, .null]).toArray below meth c H locs (tCel (L 1) (mT (Aj 4) (Ij 0))) (tSlo (L 1) (mT (Aj 4) (Ij 0))) (MQ below (QcM g base (fun r9 h' => r9 = none ∧ Fr (fun q => FP 4 kd4 o R q ∨ FP 7 kd1 oj Rj q) h0 h' ∧ ∃ R' L' fo lv ca r pp f, OB g 4 4 kd4 h' o R' (va_up I 3 r) L' (va_up (va_up (va_up (fun _ _ => 0) 0 fo) 1 lv) 2 ca) ∧ OB g 1 7 kd1 h' oj Rj Ij L4 (va_up Aj 5 f) ∧ (L' 0 = tLen (L 1) (mT (Aj 4) (Ij 0)) ∧ L' 1 = tLen (L 1) (mT (Aj 4) (Ij 0)) ∧ L' 2 = tLen (L 1) (mT (Aj 4) (Ij 0))) ∧ (∀ k, k < 3 → R' k = R k ∨ h0 (R' k) = none) ∧ (∀ i, 0 ≤ i → i < 4 → 0 ≤ f i ∧ f i ≤ 10) ∧ TB (mT (Aj 4) (Ij 0)) (tLen (L 1) (mT (Aj 4) (Ij 0))) (nxC (Ij 0) (Ij 2) (Ij 3) (Aj 4)) (fun _ _ => true) x0 fo lv ca r (24 * r) pp)) ([.ref o, .ref oj, .null]).toArray s (tCel (L 1) (mT (Aj 4) (Ij 0))) (tSlo (L 1) (mT (Aj 4) (Ij 0))) (Ab base)) (F0 m 14 ls []) := by
    intro n9
    induction n9 with
    | zero =>
      intro k f fo lv ca r pp h H locs ls hmu hk9 hfr hTB hM hJ hF hW hS hl
      exact absurd hmu (by have := hTB.2.1; omega)
    | succ n9 ih =>
      intro k f fo lv ca r pp h H locs ls hmu hk9 hfr hTB hM hJ hF hW hS hl
      have hr1 := hTB.1
      have hrN := hTB.2.1
      have ih_14 := ih
      refine lv_iload_n hx hb dX4_walk_14 rfl (lv_at hl 3 rfl) ?_
      refine lv_aload_n hx hb dX4_walk_15 rfl (lv_at hl 0 rfl) ?_
      refine g_get (ci := 4) (C := RX4) (T := TX4) (N := 4) (v := .int (J r)) hx hb hfX4 (fun _ h9 => h9) hown hk hW hM.1 rfl 3 (by decide) (hts (.fieldLink RX4 21 "JugsAndGlasses$Tour" "reached" "I") (by decide +kernel)) rfl rfl dX4_walk_16 ?_
      refine j_icmp_ge (x := k) (y := r) (tgt := 137) hx hb ⟨by omega, by omega⟩ ⟨by omega, by omega⟩ dX4_walk_19 (by decide) (fun c_19 => ?_) (fun c_19 => ?_)
      · refine W.widen (k := tCel (L 1) (mT (Aj 4) (Ij 0))) (n := tSlo (L 1) (mT (Aj 4) (Ij 0))) (Nat.le_refl _) (Nat.le_refl _) ?_
        exact g_vret hx hb hr hW hS dX4_walk_137 hlocks (⟨rfl, ⟨fun q e9 h1 h2 => hF.1 q e9 h1 (fun w => by rcases w with w | w | w; exact h2 (Or.inl w); exact h2 (Or.inr w); (rw [h1] at w; cases w)), hF.2⟩, R1, L1, fo, lv, ca, r, pp, f, tour_ob hM, hJ, ⟨hl0, hl1, hl2⟩, hR1, hfr, by have e9 : k = r := (by omega); rw [e9] at hTB; exact hTB⟩)
      · refine lv_iload_n hx hb dX4_walk_22 rfl (lv_at hl 3 rfl) ?_
        refine lv_aload_n hx hb dX4_walk_23 rfl (lv_at hl 0 rfl) ?_
        refine g_get (ci := 4) (C := RX4) (T := TX4) (N := 4) (v := .ref (R1 0)) hx hb hfX4 (fun _ h9 => h9) hown hk hW hM.1 rfl 0 (by decide) (hts (.fieldLink RX4 9 "JugsAndGlasses$Tour" "found" "[I") (by decide +kernel)) rfl rfl dX4_walk_24 ?_
        refine g_alen (n := L1 0) hx hb hk hW (hM.ai 0 (by decide) rfl) (by omega) dX4_walk_27 ?_
        refine j_icmp_ge (x := k) (y := L1 0) (tgt := 137) hx hb ⟨by omega, by omega⟩ ⟨by omega, by omega⟩ dX4_walk_28 (by decide) (fun c_28 => ?_) (fun c_28 => ?_)
        · exfalso
          omega
        · refine lv_aload_n hx hb dX4_walk_31 rfl (lv_at hl 0 rfl) ?_
          refine g_get (ci := 4) (C := RX4) (T := TX4) (N := 4) (v := .ref (R1 0)) hx hb hfX4 (fun _ h9 => h9) hown hk hW hM.1 rfl 0 (by decide) (hts (.fieldLink RX4 9 "JugsAndGlasses$Tour" "found" "[I") (by decide +kernel)) rfl rfl dX4_walk_32 ?_
          refine lv_iload_n hx hb dX4_walk_35 rfl (lv_at hl 3 rfl) ?_
          refine g_iald (n := L1 0) (f := fo) (i := k) hx hb hk hW (hM.ai 0 (by decide) rfl) (by omega) (by omega) (by omega) dX4_walk_36 ?_
          refine lv_istore (lv' := [(4, .int (J (fo k))), (0, .ref o), (1, .ref oj), (2, .null), (3, .int (J k))]) hx hb dX4_walk_37 hl (by decide) rfl (fun ls hl => ?_)
          have hfk := hTB.2.2.2.2.1 k hk9.1 (by omega)
          obtain ⟨y, ey⟩ : ∃ y, y = fo k := ⟨_, rfl⟩
          have hfy := hfk
          rw [← ey] at hfy hl
          refine lv_aload_n hx hb dX4_walk_39 rfl (lv_at hl 2 rfl) ?_
          refine lv_iload hx hb dX4_walk_40 (lv_at hl 0 rfl) ?_
          refine g_callV (As := [.int (J y)]) (rest := []) (b := oj) (ci := 1) (C := RX1) (T := TX1) (N := 7) ⟨hx, hb, hml, hown, hts⟩ (k_stand l g base sa h oj Rj Ij (va_up Aj 5 (f)) y hJ ⟨by omega, by omega⟩ ⟨hw1.1, hw1.2.1⟩ hw1.2.2) (cwV 1 hts gX4_walk_X1_stand rfl rfl rfl (by decide +kernel) ⟨Nat.le_of_ble_eq_true rfl, Nat.le_of_ble_eq_true rfl⟩) hk hW hS hJ.1 rfl rfl hl.1 (Nat.le_of_ble_eq_true rfl) dX4_walk_42 ⟨Nat.le_refl _, Nat.le_refl _⟩ (fun r9 h9 H locs hp hW hS => ?_)
          have hp : r9 = none ∧ OB g 1 7 kd1 h9 oj Rj Ij L4 (va_up (va_up Aj 5 f) 5 (p_stand (Ij 0) (Aj 4) f y)) ∧ Fr (FP 7 kd1 oj Rj) h h9 := hp
          obtain ⟨rfl, hJ, hF9⟩ := hp
          refine W.widen (k := tCel (L 1) (mT (Aj 4) (Ij 0))) (n := tSlo (L 1) (mT (Aj 4) (Ij 0))) (Nat.le_refl _) (Nat.le_refl _) ?_
          refine W.eq (g2 := F0 m 45 ls []) rfl ?_
          have hM := hM.fr hF9 (fun q h1 h2 => hTJ1 q h1 h2)
          have hF := hF.tr hF9 (fun q w _ => Or.inr (Or.inl w))
          rw [bx_uu] at hJ
          generalize h9 = h at hM hJ hF hW
          refine lv_iconst (v := J (0)) hx hb dX4_walk_45 rfl ?_
          refine lv_istore (lv' := [(5, .int (J 0)), (4, .int (J y)), (0, .ref o), (1, .ref oj), (2, .null), (3, .int (J k))]) hx hb dX4_walk_46 hl (by decide) rfl (fun ls hl => ?_)
          have loop_48 : ∀ (n9 : Nat) (a : Int) (fo : Int → Int) (lv : Int → Int) (ca : Int → Int) (r : Int) (pp : Int → Int) (h : Hp) (H : Heap) (locs : List Loc) (ls : Array Slot), 24 - a < (n9 : Int) → (0 ≤ a ∧ a ≤ 24) → (k < r) → (y = fo k) → (TB (mT (Aj 4) (Ij 0)) (tLen (L 1) (mT (Aj 4) (Ij 0))) (nxC (Ij 0) (Ij 2) (Ij 3) (Aj 4)) (fun _ _ => true) x0 fo lv ca r (24 * k + a) pp) → (OB g 4 4 kd4 h o R1 (va_up I 3 (r)) L1 (va_up (va_up (va_up A1 0 (fo)) 1 (lv)) 2 (ca))) → (OB g 1 7 kd1 h oj Rj Ij L4 (va_up Aj 5 (p_stand (Ij 0) (Aj 4) f y))) → (Fr (fun q => FP 4 kd4 o R q ∨ FP 7 kd1 oj Rj q ∨ h0 q = none) h0 h) → (Wd g base h H) → (va_S (Ab base) s.heap H locs) → (lv_has ls 7 [(0, .ref o), (1, .ref oj), (2, .null), (3, .int (J k)), (4, .int (J y)), (5, .int (J a))]) → W p l e (headSpec wsX4_walk ({ frames := 3, cells := tCel (L 1) (mT (Aj 4) (Ij 0)), slots := tSlo (L 1) (mT (Aj 4) (Ij 0)), locals := 74 })).room s m ([.ref o, .ref oj, .null]).toArray below meth c H locs (tCel (L 1) (mT (Aj 4) (Ij 0))) (tSlo (L 1) (mT (Aj 4) (Ij 0))) (MQ below (QcM g base (fun r9 h' => r9 = none ∧ Fr (fun q => FP 4 kd4 o R q ∨ FP 7 kd1 oj Rj q) h0 h' ∧ ∃ R' L' fo lv ca r pp f, OB g 4 4 kd4 h' o R' (va_up I 3 r) L' (va_up (va_up (va_up (fun _ _ => 0) 0 fo) 1 lv) 2 ca) ∧ OB g 1 7 kd1 h' oj Rj Ij L4 (va_up Aj 5 f) ∧ (L' 0 = tLen (L 1) (mT (Aj 4) (Ij 0)) ∧ L' 1 = tLen (L 1) (mT (Aj 4) (Ij 0)) ∧ L' 2 = tLen (L 1) (mT (Aj 4) (Ij 0))) ∧ (∀ k, k < 3 → R' k = R k ∨ h0 (R' k) = none) ∧ (∀ i, 0 ≤ i → i < 4 → 0 ≤ f i ∧ f i ≤ 10) ∧ TB (mT (Aj 4) (Ij 0)) (tLen (L 1) (mT (Aj 4) (Ij 0))) (nxC (Ij 0) (Ij 2) (Ij 3) (Aj 4)) (fun _ _ => true) x0 fo lv ca r (24 * r) pp)) ([.ref o, .ref oj, .null]).toArray s (tCel (L 1) (mT (Aj 4) (Ij 0))) (tSlo (L 1) (mT (Aj 4) (Ij 0))) (Ab base)) (F0 m 48 ls []) := by
            intro n9
            induction n9 with
            | zero =>
              intro a fo lv ca r pp h H locs ls hmu ha9 hkr ey hTB hM hJ hF hW hS hl
              exact absurd hmu (by omega)
            | succ n9 ih =>
              intro a fo lv ca r pp h H locs ls hmu ha9 hkr ey hTB hM hJ hF hW hS hl
              have hr1 := hTB.1
              have hrN := hTB.2.1
              have hfy := hTB.2.2.2.2.1 k hk9.1 hkr
              rw [← ey] at hfy
              have ih_48 := ih
              refine lv_iload hx hb dX4_walk_48 (lv_at hl 5 rfl) ?_
              refine lv_bipush (v := J (24)) hx hb dX4_walk_50 (by decide) ?_
              refine j_icmp_ge (x := a) (y := 24) (tgt := 131) hx hb ⟨by omega, by omega⟩ ⟨by decide, by decide⟩ dX4_walk_52 (by decide) (fun c_52 => ?_) (fun c_52 => ?_)
              · refine lv_iinc (v := J (k + 1)) (lv' := [(3, .int (J (k + 1))), (0, .ref o), (1, .ref oj), (2, .null), (4, .int (J y)), (5, .int (J a))]) hx hb dX4_walk_131 hl (k := 3) rfl (J_inc (by omega)) (by decide) rfl (fun ls hl => ?_)
                refine lv_goto (tgt := 14) hx hb dX4_walk_134 (by decide) ?_
                exact ih_14 (k + 1) (p_stand (Ij 0) (Aj 4) f y) fo lv ca r pp h H locs ls (by omega) (by omega) (stand_r hw1 hfr y) (by have e9 : 24 * (k + 1) = 24 * k + a := (by omega); rw [e9]; exact hTB) hM hJ hF hW hS (lv_sub hl [1, 2, 3, 0] rfl)
              · refine lv_iload hx hb dX4_walk_55 (lv_at hl 4 rfl) ?_
                refine lv_aload_n hx hb dX4_walk_57 rfl (lv_at hl 1 rfl) ?_
                refine lv_iload hx hb dX4_walk_58 (lv_at hl 5 rfl) ?_
                refine g_callV (As := [.int (J a)]) (rest := [.int (J y)]) (b := oj) (ci := 1) (C := RX1) (T := TX1) (N := 7) ⟨hx, hb, hml, hown, hts⟩ (k_shiftBy l g base sa h oj Rj Ij (va_up Aj 5 (p_stand (Ij 0) (Aj 4) f y)) a hJ ⟨by omega, by omega⟩ (Jok_of hw9 (stand_v hw1 y))) (cwV 1 hts gX4_walk_X1_shiftBy rfl rfl rfl (by decide +kernel) ⟨Nat.le_of_ble_eq_true rfl, Nat.le_of_ble_eq_true rfl⟩) hk hW hS hJ.1 rfl rfl hl.1 (Nat.le_of_ble_eq_true rfl) dX4_walk_60 ⟨Nat.le_refl _, Nat.le_refl _⟩ (fun r9 h9 H locs hp hW hS => ?_)
                have hp : r9 = some (.int (J (p_shift (Ij 0) (Ij 2) (Ij 3) (Aj 4) (p_stand (Ij 0) (Aj 4) f y) (Aj 6) a))) ∧ h9 = h := hp
                obtain ⟨rfl, e9⟩ := hp
                rw [e9] at hW
                refine W.widen (k := tCel (L 1) (mT (Aj 4) (Ij 0))) (n := tSlo (L 1) (mT (Aj 4) (Ij 0))) (Nat.le_refl _) (Nat.le_refl _) ?_
                refine W.eq (g2 := F0 m 63 ls [.int (J (p_shift (Ij 0) (Ij 2) (Ij 3) (Aj 4) (p_stand (Ij 0) (Aj 4) f y) (Aj 6) a)), .int (J y)]) rfl ?_
                refine j_iadd hx hb dX4_walk_63 ?_
                have et : y + (p_shift (Ij 0) (Ij 2) (Ij 3) (Aj 4) (p_stand (Ij 0) (Aj 4) f y) (Aj 6) a) = nxC (Ij 0) (Ij 2) (Ij 3) (Aj 4) y a := shift_eq hw1 hw5 hfy.1 hfy.2.1 a
                have hnr := nxC_r (tp := Ij 2) (dr := Ij 3) hw1 hfy.1 hfy.2.1 a
                rw [et]
                obtain ⟨t, et2⟩ : ∃ t, t = nxC (Ij 0) (Ij 2) (Ij 3) (Aj 4) y a := ⟨_, rfl⟩
                rw [← et2] at hnr ⊢
                refine lv_istore (lv' := [(6, .int (J t)), (0, .ref o), (1, .ref oj), (2, .null), (3, .int (J k)), (4, .int (J y)), (5, .int (J a))]) hx hb dX4_walk_64 hl (by decide) rfl (fun ls hl => ?_)
                refine lv_iload hx hb dX4_walk_66 (lv_at hl 0 rfl) ?_
                refine j_if_lt (x := t) (tgt := 125) hx hb ⟨by omega, by omega⟩ dX4_walk_68 (by decide) (fun c_68 => ?_) (fun c_68 => ?_)
                · exfalso
                  omega
                · refine lv_iload hx hb dX4_walk_71 (lv_at hl 0 rfl) ?_
                  refine lv_aload_n hx hb dX4_walk_73 rfl (lv_at hl 1 rfl) ?_
                  refine g_get (ci := 4) (C := RX4) (T := TX4) (N := 4) (v := .ref (R1 1)) hx hb hfX4 (fun _ h9 => h9) hown hk hW hM.1 rfl 1 (by decide) (hts (.fieldLink RX4 15 "JugsAndGlasses$Tour" "level" "[I") (by decide +kernel)) rfl rfl dX4_walk_74 ?_
                  refine g_alen (n := L1 1) hx hb hk hW (hM.ai 1 (by decide) rfl) (by omega) dX4_walk_77 ?_
                  refine j_icmp_ge (x := t) (y := L1 1) (tgt := 125) hx hb ⟨by omega, by omega⟩ ⟨by omega, by omega⟩ dX4_walk_78 (by decide) (fun c_78 => ?_) (fun c_78 => ?_)
                  · exfalso
                    omega
                  · refine lv_aload_n hx hb dX4_walk_81 rfl (lv_at hl 1 rfl) ?_
                    refine g_get (ci := 4) (C := RX4) (T := TX4) (N := 4) (v := .ref (R1 1)) hx hb hfX4 (fun _ h9 => h9) hown hk hW hM.1 rfl 1 (by decide) (hts (.fieldLink RX4 15 "JugsAndGlasses$Tour" "level" "[I") (by decide +kernel)) rfl rfl dX4_walk_82 ?_
                    refine lv_iload hx hb dX4_walk_85 (lv_at hl 0 rfl) ?_
                    refine g_iald (n := L1 1) (f := lv) (i := t) hx hb hk hW (hM.ai 1 (by decide) rfl) (by omega) (by omega) (by omega) dX4_walk_87 ?_
                    refine j_if_lt (x := lv t) (tgt := 94) hx hb ⟨by rcases hTB.2.2.2.2.2.1 t hnr.1 (by omega) with w | ⟨w, w1, w2, w3⟩; omega; (have := hTB.2.2.2.2.1 w w1 w2; rw [w3] at this; omega), by rcases hTB.2.2.2.2.2.1 t hnr.1 (by omega) with w | ⟨w, w1, w2, w3⟩; omega; (have := hTB.2.2.2.2.1 w w1 w2; rw [w3] at this; omega)⟩ dX4_walk_88 (by decide) (fun c_88 => ?_) (fun c_88 => ?_)
                    · refine lv_aload_nN hx hb dX4_walk_94 rfl (lv_at hl 3 rfl) ?_
                      refine lv_ifnullN (tgt := 115) hx hb dX4_walk_95 (by decide) ?_
                      have hrl := TB_lt hTB hnr.1 hnr.2 (by omega)
                      have hlv9 : ∀ j, 0 ≤ j → j < L1 1 → i32 (lv j) := fun j j0 j1 => by
                        rcases hTB.2.2.2.2.2.1 j j0 (by omega) with w | ⟨w, w1, w2, w3⟩
                        · exact ⟨by omega, by omega⟩
                        · have w4 := hTB.2.2.2.2.1 w w1 w2
                          rw [w3] at w4
                          exact ⟨by omega, by omega⟩
                      refine lv_aload_n hx hb dX4_walk_115 rfl (lv_at hl 1 rfl) ?_
                      refine lv_iload hx hb dX4_walk_116 (lv_at hl 5 rfl) ?_
                      refine lv_iload hx hb dX4_walk_118 (lv_at hl 6 rfl) ?_
                      refine lv_iload hx hb dX4_walk_120 (lv_at hl 0 rfl) ?_
                      refine g_callV (As := [.int (J y), .int (J a), .int (J t)]) (rest := []) (b := o) (ci := 4) (C := RX4) (T := TX4) (N := 4) ⟨hx, hb, hml, hown, hts⟩ (t_enter l g base sa h o R1 (va_up I 3 (r)) L1 (va_up (va_up (va_up A1 0 (fo)) 1 (lv)) 2 (ca)) y a t hM ⟨by omega, by omega, by omega, by omega⟩ ⟨show 0 ≤ r by omega, show r < L1 0 by omega⟩ ⟨by omega, by omega⟩ ⟨by omega, by omega⟩ hlv9 hfy.2.2.1) (cwV 3 hts gX4_walk_X4_enter rfl rfl rfl (by decide +kernel) ⟨Nat.le_of_ble_eq_true rfl, Nat.le_of_ble_eq_true rfl⟩) hk hW hS hM.1 rfl rfl hl.1 (Nat.le_of_ble_eq_true rfl) dX4_walk_122 ⟨Nat.le_refl _, Nat.le_refl _⟩ (fun r9 h9 H locs hp hW hS => ?_)
                      obtain ⟨rfl, hM, hF9⟩ := hp
                      refine W.widen (k := tCel (L 1) (mT (Aj 4) (Ij 0))) (n := tSlo (L 1) (mT (Aj 4) (Ij 0))) (Nat.le_refl _) (Nat.le_refl _) ?_
                      refine W.eq (g2 := F0 m 125 ls []) rfl ?_
                      have hJ := hJ.fr hF9 (fun q h1 h2 => hTJ1 q h2 h1)
                      have hF := hF.tr hF9 (fun q w _ => hPT q w)
                      generalize h9 = h at hM hJ hF hW
                      have hM : OB g 4 4 kd4 h o R1 (va_up (va_up I 3 (r)) 3 (r + 1)) L1 (va_up (va_up (va_up (va_up (va_up (va_up A1 0 (fo)) 1 (lv)) 2 (ca)) 0 (uf fo r t)) 1 (uf lv t (lv y + 1))) 2 (uf ca t (y * 32 + a))) := hM
                      have hM : OB g 4 4 kd4 h o R1 (va_up I 3 (r + 1)) L1 (va_up (va_up (va_up (va_up (va_up (va_up A1 0 (fo)) 1 (lv)) 2 (ca)) 0 (uf fo r t)) 1 (uf lv t (lv y + 1))) 2 (uf ca t (y * 32 + a))) := by
                        have e9 : (va_up (va_up I 3 (r)) 3 (r + 1)) = (va_up I 3 (r + 1)) := by funext q9; by_cases w3 : q9 = 3 <;> simp [va_up, w3]
                        rw [← e9]
                        exact hM
                      have hM : OB g 4 4 kd4 h o R1 (va_up I 3 (r + 1)) L1 (va_up (va_up (va_up A1 0 (uf fo r t)) 1 (uf lv t (lv y + 1))) 2 (uf ca t (y * 32 + a))) := by
                        have e9 : (va_up (va_up (va_up (va_up (va_up (va_up A1 0 (fo)) 1 (lv)) 2 (ca)) 0 (uf fo r t)) 1 (uf lv t (lv y + 1))) 2 (uf ca t (y * 32 + a))) = (va_up (va_up (va_up A1 0 (uf fo r t)) 1 (uf lv t (lv y + 1))) 2 (uf ca t (y * 32 + a))) := by funext q9; by_cases w0 : q9 = 0 <;> by_cases w1 : q9 = 1 <;> by_cases w2 : q9 = 2 <;> simp [va_up, w0, w1, w2]
                        rw [← e9]
                        exact hM
                      refine lv_iinc (v := J (a + 1)) (lv' := [(5, .int (J (a + 1))), (6, .int (J t)), (0, .ref o), (1, .ref oj), (2, .null), (3, .int (J k)), (4, .int (J y))]) hx hb dX4_walk_125 hl (k := 6) rfl (J_inc (by omega)) (by decide) rfl (fun ls hl => ?_)
                      refine lv_goto (tgt := 48) hx hb dX4_walk_128 (by decide) ?_
                      exact ih_48 (a + 1) (uf fo r t) (uf lv t (lv y + 1)) (uf ca t (y * 32 + a)) (r + 1) (uf pp r (24 * k + a)) h H locs ls (by omega) (by omega) (by omega) (by rw [uf_ne _ _ (by omega)]; exact ey) (by have h8 := TB_yes hTB hk9.1 hkr (by omega) (by omega) (by rw [← ey, ← et2]; omega) (by rw [← ey, ← et2]; omega) (by rw [← ey, ← et2]; omega) (rfl); rw [← ey, ← et2] at h8; exact h8) hM hJ hF hW hS (lv_sub hl [2, 3, 4, 5, 6, 0] rfl)
                    · refine lv_goto (tgt := 125) hx hb dX4_walk_91 (by decide) ?_
                      refine lv_iinc (v := J (a + 1)) (lv' := [(5, .int (J (a + 1))), (6, .int (J t)), (0, .ref o), (1, .ref oj), (2, .null), (3, .int (J k)), (4, .int (J y))]) hx hb dX4_walk_125 hl (k := 6) rfl (J_inc (by omega)) (by decide) rfl (fun ls hl => ?_)
                      refine lv_goto (tgt := 48) hx hb dX4_walk_128 (by decide) ?_
                      exact ih_48 (a + 1) fo lv ca r pp h H locs ls (by omega) (by omega) (by omega) ey (TB_no hTB (by omega) (by rw [← ey, ← et2]; exact hnr) (by omega) (by omega) (fun hok => by (try rw [← ey] at hok); rw [← ey, ← et2]; first | omega | (exfalso; omega))) hM hJ hF hW hS (lv_sub hl [2, 3, 4, 5, 6, 0] rfl)
          exact loop_48 25 0 fo lv ca r pp h H locs ls (by omega) (by omega) (by omega) ey (by rw [Int.add_zero]; exact hTB) hM hJ hF hW hS (lv_sub hl [2, 3, 4, 5, 1, 0] rfl)
  exact loop_14 ((mT (Aj 4) (Ij 0)).toNat + 1) 0 (Aj 5) (A1 0) (A1 1) (A1 2) 1 (fun _ => 0) h H locs ls (by omega) (by omega) hw6 (TB_0 hx0.1 hx0.2 (by omega) hf0 hlv0) (by rw [va_up_id, va_up_id, va_up_id]; exact hM) (by rw [va_up_id]; exact hJ) hF hW hS (lv_sub hl [1, 2, 3, 0] rfl)

set_option maxHeartbeats 4000000 in
set_option maxRecDepth 100000 in
theorem t_explore1 (l : Launch) (g : GX) (base : Nat) (sa : Nat → Nat) (h0 : Hp) (o : Nat) (R : Nat → Nat) (I : Nat → Int) (L : Nat → Int) (A : Nat → Int → Int) (oj : Nat) (Rj : Nat → Nat) (Ij : Nat → Int) (Aj : Nat → Int → Int) (os : Nat) (Rs : Nat → Nat) (Is : Nat → Int) (Ls : Nat → Int) (As9 : Nat → Int → Int) (x0 : Int) (hM : OB g 4 4 kd4 h0 o R I L A) (hJ : OB g 1 7 kd1 h0 oj Rj Ij L4 Aj) (hSp : OB g 3 2 kd3 h0 os Rs Is Ls As9) (hL : 0 ≤ L 1 ∧ L 1 ≤ 14641 ∧ L 0 = L 1 ∧ L 2 = L 1) (hw9 : Wok Ij Aj) (ex0 : x0 = sT (fun j => Aj 5 j * Aj 6 j) (Ij 0)) (hx0 : 0 ≤ x0 ∧ x0 < mT (Aj 4) (Ij 0)) (hTJ : ∀ q, FP 4 kd4 o R q → ¬ FP 7 kd1 oj Rj q) (hTS : ∀ q, FP 4 kd4 o R q → ¬ FP 2 kd3 os Rs q) (hSJ : ∀ q, FP 2 kd3 os Rs q → ¬ FP 7 kd1 oj Rj q) (hLs : 0 ≤ Ls 0 ∧ Ls 0 ≤ 14641) (hLs2 : mT (Aj 4) (Ij 0) ≤ Ls 0) (hlr9 : ∀ j, 0 ≤ j → j < Ls 0 → 0 ≤ As9 0 j ∧ As9 0 j ≤ 1000000) : MC l g base sa yX4_walk wsX4_walk ({ frames := 3, cells := tCel (L 1) (mT (Aj 4) (Ij 0)), slots := tSlo (L 1) (mT (Aj 4) (Ij 0)), locals := 74 }) ([.ref o, .ref oj, .ref os]) h0 (fun r9 h' => r9 = none ∧ Fr (fun q => FP 4 kd4 o R q ∨ FP 7 kd1 oj Rj q) h0 h' ∧ ∃ R' L' fo lv ca r pp f, OB g 4 4 kd4 h' o R' (va_up I 3 r) L' (va_up (va_up (va_up (fun _ _ => 0) 0 fo) 1 lv) 2 ca) ∧ OB g 1 7 kd1 h' oj Rj Ij L4 (va_up Aj 5 f) ∧ (L' 0 = tLen (L 1) (mT (Aj 4) (Ij 0)) ∧ L' 1 = tLen (L 1) (mT (Aj 4) (Ij 0)) ∧ L' 2 = tLen (L 1) (mT (Aj 4) (Ij 0))) ∧ (∀ k, k < 3 → R' k = R k ∨ h0 (R' k) = none) ∧ (∀ i, 0 ≤ i → i < 4 → 0 ≤ f i ∧ f i ≤ 10) ∧ TB (mT (Aj 4) (Ij 0)) (tLen (L 1) (mT (Aj 4) (Ij 0))) (nxC (Ij 0) (Ij 2) (Ij 3) (Aj 4)) (fun x a => decide (As9 0 (nxC (Ij 0) (Ij 2) (Ij 3) (Aj 4) x a) = As9 0 x + spC (Aj 4) x a)) x0 fo lv ca r (24 * r) pp) := by
  refine Met.ofW (cc := cX4_walk) (maxL := 7) (ret := none) (by decide) rfl ?_
  intro p e s m args below meth c s₁ B hml hv
  obtain ⟨rfl, hk, hW⟩ := hv
  have hx := B.exec
  have hb := B.bytes
  have hr := B.returns
  have hts := atoms_spec (ws := wsX4_walk) B.pre
  have hown : s.vm.findClass RX4 = some m.cls := findClass_of_methodNamed B.named
  have hlocks := B.notSynchronized
  have hfX1 : ∀ w ∈ wsX10, w.before ([.ref o, .ref oj, .ref os]).toArray s = true := fun w h => hts w (List.mem_cons_of_mem _ (List.mem_append_left _ (List.mem_append_left _ (List.mem_append_right _ h))))
  have hfX3 : ∀ w ∈ wsX30, w.before ([.ref o, .ref oj, .ref os]).toArray s = true := fun w h => hts w (List.mem_cons_of_mem _ (List.mem_append_right _ h))
  have hfX4 : ∀ w ∈ wsX40, w.before ([.ref o, .ref oj, .ref os]).toArray s = true := fun w h => hts w (List.mem_cons_of_mem _ (List.mem_append_left _ (List.mem_append_right _ h)))
  have hS : va_S (Ab base) s.heap s.heap [] := va_S.rf
  have hl := lv_entry ([.ref o, .ref oj, .ref os]) (n := 7) (Nat.le_of_ble_eq_true rfl)
  rw [lg_entry_eq]
  generalize (lg_sl ([.ref o, .ref oj, .ref os]) ++ List.replicate (7 - (lg_sl ([.ref o, .ref oj, .ref os])).length) Slot.unset).toArray = ls at hl ⊢
  have hl : lv_has ls 7 [(0, .ref o), (1, .ref oj), (2, .ref os)] := hl
  have hF : Fr (fun q => FP 4 kd4 o R q ∨ FP 7 kd1 oj Rj q ∨ h0 q = none) h0 h0 := Fr.rf
  obtain ⟨hw1, hw2, hw3, hw4, hw5, hw6⟩ := id hw9
  have hmr := mT_r hw1
  have hlr := tLen_r (M := L 1) (cd := mT (Aj 4) (Ij 0)) ⟨hL.1, hL.2.1⟩ hmr
  have hJ0 := hJ
  have hSp0 := hSp
  refine lv_aload_n hx hb dX4_walk_0 rfl (lv_at hl 0 rfl) ?_
  refine lv_aload_n hx hb dX4_walk_1 rfl (lv_at hl 1 rfl) ?_
  refine g_get (ci := 1) (C := RX1) (T := TX1) (N := 7) (v := .int (J (Ij 1))) hx hb hfX1 (fun _ h9 => h9) hown hk hW hJ.1 rfl 1 (by decide) (hts (.fieldLink RX4 35 "JugsAndGlasses$Jugs" "codes" "I") (by decide +kernel)) rfl rfl dX4_walk_2 ?_
  rw [hw4]
  refine lv_aload_n hx hb dX4_walk_5 rfl (lv_at hl 1 rfl) ?_
  refine g_callV (As := []) (rest := [.int (J (mT (Aj 4) (Ij 0))), .ref o]) (b := oj) (ci := 1) (C := RX1) (T := TX1) (N := 7) ⟨hx, hb, hml, hown, hts⟩ (k_code l g base sa h0 oj Rj Ij Aj hJ ⟨hw1.1, hw1.2.1⟩) (cwV 0 hts gX4_walk_X1_code rfl rfl rfl (by decide +kernel) ⟨Nat.le_of_ble_eq_true rfl, Nat.le_of_ble_eq_true rfl⟩) hk hW hS hJ.1 rfl rfl hl.1 (Nat.le_of_ble_eq_true rfl) dX4_walk_6 ⟨Nat.zero_le _, Nat.zero_le _⟩ (fun r9 h9 H locs hp hW hS => ?_)
  rw [← ex0] at hp
  obtain ⟨rfl, e9⟩ := hp
  rw [e9] at hW
  refine W.widen (k := 0) (n := 0) (Nat.le_refl _) (Nat.le_refl _) ?_
  refine W.eq (g2 := F0 m 9 ls [.int (J x0), .int (J (mT (Aj 4) (Ij 0))), .ref o]) rfl ?_
  refine g_callV (As := [.int (J (mT (Aj 4) (Ij 0))), .int (J x0)]) (rest := []) (b := o) (ci := 4) (C := RX4) (T := TX4) (N := 4) ⟨hx, hb, hml, hown, hts⟩ (t_start l g base sa h0 o R I L A (mT (Aj 4) (Ij 0)) x0 hM hL ⟨by omega, by omega⟩ ⟨by omega, by omega⟩) (cwV 2 hts gX4_walk_X4_start rfl rfl rfl (by decide +kernel) ⟨Nat.le_of_ble_eq_true rfl, Nat.le_of_ble_eq_true rfl⟩) hk hW hS hM.1 rfl rfl hl.1 (Nat.le_of_ble_eq_true rfl) dX4_walk_9 ⟨Nat.le_of_eq (Nat.zero_add _), Nat.le_of_eq (Nat.zero_add _)⟩ (fun r9 h9 H locs hp hW hS => ?_)
  obtain ⟨rfl, hF9, R1, L1, A1, hM, hl9, hR1, hf0, hlv0⟩ := hp
  refine W.widen (k := tCel (L 1) (mT (Aj 4) (Ij 0))) (n := tSlo (L 1) (mT (Aj 4) (Ij 0))) (Nat.le_of_eq (Nat.zero_add _)) (Nat.le_of_eq (Nat.zero_add _)) ?_
  refine W.eq (g2 := F0 m 12 ls []) rfl ?_
  have hJ := hJ.fr hF9 (fun q h1 h2 => hTJ q h2 h1)
  have hSp := hSp.fr hF9 (fun q h1 h2 => hTS q h2 h1)
  have hF : Fr (fun q => FP 4 kd4 o R q ∨ FP 7 kd1 oj Rj q ∨ h0 q = none) h0 h9 := hF9.mono (fun q w => Or.inl w)
  obtain ⟨hl0, hl1, hl2⟩ := hl9
  have hTJ1 := ap_new hJ0 hTJ hR1
  have hTS1 := ap_new hSp0 hTS hR1
  generalize h9 = h at hM hJ hF hW hSp
  have hPa : ∀ k, k < 3 → (FP 4 kd4 o R (R1 k) ∨ FP 7 kd1 oj Rj (R1 k) ∨ h0 (R1 k) = none) := fun k hk9 => by
    rcases hR1 k hk9 with w | w
    · rw [w]; exact Or.inl (FP.a k (by omega) (by match k, hk9 with | 0, _ => exact ⟨by decide, by decide⟩ | 1, _ => exact ⟨by decide, by decide⟩ | 2, _ => exact ⟨by decide, by decide⟩))
    · exact Or.inr (Or.inr w)
  have hPT : ∀ q, FP 4 kd4 o R1 q → (FP 4 kd4 o R q ∨ FP 7 kd1 oj Rj q ∨ h0 q = none) := fun q w => by
    rcases w with w | ⟨k, k1, k2, w⟩
    · rw [w]; exact Or.inl FP.o
    · have k3 : k < 3 := by
        by_cases e9 : k = 3
        · rw [e9] at k2; exact absurd k2.1 (by decide)
        · omega
      rw [w]; exact hPa k k3
  refine lv_iconst (v := J (0)) hx hb dX4_walk_12 rfl ?_
  refine lv_istore_n (lv' := [(3, .int (J 0)), (0, .ref o), (1, .ref oj), (2, .ref os)]) hx hb dX4_walk_13 rfl hl (by decide) rfl (fun ls hl => ?_)
  have loop_14 : ∀ (n9 : Nat) (k : Int) (f : Int → Int) (fo : Int → Int) (lv : Int → Int) (ca : Int → Int) (r : Int) (pp : Int → Int) (h : Hp) (H : Heap) (locs : List Loc) (ls : Array Slot), mT (Aj 4) (Ij 0) - k < (n9 : Int) → (0 ≤ k ∧ k ≤ r) → (∀ i, 0 ≤ i → i < 4 → 0 ≤ f i ∧ f i ≤ 10) → (TB (mT (Aj 4) (Ij 0)) (tLen (L 1) (mT (Aj 4) (Ij 0))) (nxC (Ij 0) (Ij 2) (Ij 3) (Aj 4)) (fun x a => decide (As9 0 (nxC (Ij 0) (Ij 2) (Ij 3) (Aj 4) x a) = As9 0 x + spC (Aj 4) x a)) x0 fo lv ca r (24 * k) pp) → (OB g 4 4 kd4 h o R1 (va_up I 3 (r)) L1 (va_up (va_up (va_up A1 0 (fo)) 1 (lv)) 2 (ca))) → (OB g 1 7 kd1 h oj Rj Ij L4 (va_up Aj 5 (f))) → (OB g 3 2 kd3 h os Rs Is Ls As9) → (Fr (fun q => FP 4 kd4 o R q ∨ FP 7 kd1 oj Rj q ∨ h0 q = none) h0 h) → (Wd g base h H) → (va_S (Ab base) s.heap H locs) → (lv_has ls 7 [(0, .ref o), (1, .ref oj), (2, .ref os), (3, .int (J k))]) → W p l e (headSpec wsX4_walk ({ frames := 3, cells := tCel (L 1) (mT (Aj 4) (Ij 0)), slots := tSlo (L 1) (mT (Aj 4) (Ij 0)), locals := 74 })).room s m ([.ref o, .ref oj, .ref os]).toArray below meth c H locs (tCel (L 1) (mT (Aj 4) (Ij 0))) (tSlo (L 1) (mT (Aj 4) (Ij 0))) (MQ below (QcM g base (fun r9 h' => r9 = none ∧ Fr (fun q => FP 4 kd4 o R q ∨ FP 7 kd1 oj Rj q) h0 h' ∧ ∃ R' L' fo lv ca r pp f, OB g 4 4 kd4 h' o R' (va_up I 3 r) L' (va_up (va_up (va_up (fun _ _ => 0) 0 fo) 1 lv) 2 ca) ∧ OB g 1 7 kd1 h' oj Rj Ij L4 (va_up Aj 5 f) ∧ (L' 0 = tLen (L 1) (mT (Aj 4) (Ij 0)) ∧ L' 1 = tLen (L 1) (mT (Aj 4) (Ij 0)) ∧ L' 2 = tLen (L 1) (mT (Aj 4) (Ij 0))) ∧ (∀ k, k < 3 → R' k = R k ∨ h0 (R' k) = none) ∧ (∀ i, 0 ≤ i → i < 4 → 0 ≤ f i ∧ f i ≤ 10) ∧ TB (mT (Aj 4) (Ij 0)) (tLen (L 1) (mT (Aj 4) (Ij 0))) (nxC (Ij 0) (Ij 2) (Ij 3) (Aj 4)) (fun x a => decide (As9 0 (nxC (Ij 0) (Ij 2) (Ij 3) (Aj 4) x a) = As9 0 x + spC (Aj 4) x a)) x0 fo lv ca r (24 * r) pp)) ([.ref o, .ref oj, .ref os]).toArray s (tCel (L 1) (mT (Aj 4) (Ij 0))) (tSlo (L 1) (mT (Aj 4) (Ij 0))) (Ab base)) (F0 m 14 ls []) := by
    intro n9
    induction n9 with
    | zero =>
      intro k f fo lv ca r pp h H locs ls hmu hk9 hfr hTB hM hJ hSp hF hW hS hl
      exact absurd hmu (by have := hTB.2.1; omega)
    | succ n9 ih =>
      intro k f fo lv ca r pp h H locs ls hmu hk9 hfr hTB hM hJ hSp hF hW hS hl
      have hr1 := hTB.1
      have hrN := hTB.2.1
      have ih_14 := ih
      refine lv_iload_n hx hb dX4_walk_14 rfl (lv_at hl 3 rfl) ?_
      refine lv_aload_n hx hb dX4_walk_15 rfl (lv_at hl 0 rfl) ?_
      refine g_get (ci := 4) (C := RX4) (T := TX4) (N := 4) (v := .int (J r)) hx hb hfX4 (fun _ h9 => h9) hown hk hW hM.1 rfl 3 (by decide) (hts (.fieldLink RX4 21 "JugsAndGlasses$Tour" "reached" "I") (by decide +kernel)) rfl rfl dX4_walk_16 ?_
      refine j_icmp_ge (x := k) (y := r) (tgt := 137) hx hb ⟨by omega, by omega⟩ ⟨by omega, by omega⟩ dX4_walk_19 (by decide) (fun c_19 => ?_) (fun c_19 => ?_)
      · refine W.widen (k := tCel (L 1) (mT (Aj 4) (Ij 0))) (n := tSlo (L 1) (mT (Aj 4) (Ij 0))) (Nat.le_refl _) (Nat.le_refl _) ?_
        exact g_vret hx hb hr hW hS dX4_walk_137 hlocks (⟨rfl, ⟨fun q e9 h1 h2 => hF.1 q e9 h1 (fun w => by rcases w with w | w | w; exact h2 (Or.inl w); exact h2 (Or.inr w); (rw [h1] at w; cases w)), hF.2⟩, R1, L1, fo, lv, ca, r, pp, f, tour_ob hM, hJ, ⟨hl0, hl1, hl2⟩, hR1, hfr, by have e9 : k = r := (by omega); rw [e9] at hTB; exact hTB⟩)
      · refine lv_iload_n hx hb dX4_walk_22 rfl (lv_at hl 3 rfl) ?_
        refine lv_aload_n hx hb dX4_walk_23 rfl (lv_at hl 0 rfl) ?_
        refine g_get (ci := 4) (C := RX4) (T := TX4) (N := 4) (v := .ref (R1 0)) hx hb hfX4 (fun _ h9 => h9) hown hk hW hM.1 rfl 0 (by decide) (hts (.fieldLink RX4 9 "JugsAndGlasses$Tour" "found" "[I") (by decide +kernel)) rfl rfl dX4_walk_24 ?_
        refine g_alen (n := L1 0) hx hb hk hW (hM.ai 0 (by decide) rfl) (by omega) dX4_walk_27 ?_
        refine j_icmp_ge (x := k) (y := L1 0) (tgt := 137) hx hb ⟨by omega, by omega⟩ ⟨by omega, by omega⟩ dX4_walk_28 (by decide) (fun c_28 => ?_) (fun c_28 => ?_)
        · exfalso
          omega
        · refine lv_aload_n hx hb dX4_walk_31 rfl (lv_at hl 0 rfl) ?_
          refine g_get (ci := 4) (C := RX4) (T := TX4) (N := 4) (v := .ref (R1 0)) hx hb hfX4 (fun _ h9 => h9) hown hk hW hM.1 rfl 0 (by decide) (hts (.fieldLink RX4 9 "JugsAndGlasses$Tour" "found" "[I") (by decide +kernel)) rfl rfl dX4_walk_32 ?_
          refine lv_iload_n hx hb dX4_walk_35 rfl (lv_at hl 3 rfl) ?_
          refine g_iald (n := L1 0) (f := fo) (i := k) hx hb hk hW (hM.ai 0 (by decide) rfl) (by omega) (by omega) (by omega) dX4_walk_36 ?_
          refine lv_istore (lv' := [(4, .int (J (fo k))), (0, .ref o), (1, .ref oj), (2, .ref os), (3, .int (J k))]) hx hb dX4_walk_37 hl (by decide) rfl (fun ls hl => ?_)
          have hfk := hTB.2.2.2.2.1 k hk9.1 (by omega)
          obtain ⟨y, ey⟩ : ∃ y, y = fo k := ⟨_, rfl⟩
          have hfy := hfk
          rw [← ey] at hfy hl
          refine lv_aload_n hx hb dX4_walk_39 rfl (lv_at hl 2 rfl) ?_
          refine lv_iload hx hb dX4_walk_40 (lv_at hl 0 rfl) ?_
          refine g_callV (As := [.int (J y)]) (rest := []) (b := oj) (ci := 1) (C := RX1) (T := TX1) (N := 7) ⟨hx, hb, hml, hown, hts⟩ (k_stand l g base sa h oj Rj Ij (va_up Aj 5 (f)) y hJ ⟨by omega, by omega⟩ ⟨hw1.1, hw1.2.1⟩ hw1.2.2) (cwV 1 hts gX4_walk_X1_stand rfl rfl rfl (by decide +kernel) ⟨Nat.le_of_ble_eq_true rfl, Nat.le_of_ble_eq_true rfl⟩) hk hW hS hJ.1 rfl rfl hl.1 (Nat.le_of_ble_eq_true rfl) dX4_walk_42 ⟨Nat.le_refl _, Nat.le_refl _⟩ (fun r9 h9 H locs hp hW hS => ?_)
          have hp : r9 = none ∧ OB g 1 7 kd1 h9 oj Rj Ij L4 (va_up (va_up Aj 5 f) 5 (p_stand (Ij 0) (Aj 4) f y)) ∧ Fr (FP 7 kd1 oj Rj) h h9 := hp
          obtain ⟨rfl, hJ, hF9⟩ := hp
          refine W.widen (k := tCel (L 1) (mT (Aj 4) (Ij 0))) (n := tSlo (L 1) (mT (Aj 4) (Ij 0))) (Nat.le_refl _) (Nat.le_refl _) ?_
          refine W.eq (g2 := F0 m 45 ls []) rfl ?_
          have hM := hM.fr hF9 (fun q h1 h2 => hTJ1 q h1 h2)
          have hSp := hSp.fr hF9 (fun q h1 h2 => hSJ q h1 h2)
          have hF := hF.tr hF9 (fun q w _ => Or.inr (Or.inl w))
          rw [bx_uu] at hJ
          generalize h9 = h at hM hJ hF hW hSp
          refine lv_iconst (v := J (0)) hx hb dX4_walk_45 rfl ?_
          refine lv_istore (lv' := [(5, .int (J 0)), (4, .int (J y)), (0, .ref o), (1, .ref oj), (2, .ref os), (3, .int (J k))]) hx hb dX4_walk_46 hl (by decide) rfl (fun ls hl => ?_)
          have loop_48 : ∀ (n9 : Nat) (a : Int) (fo : Int → Int) (lv : Int → Int) (ca : Int → Int) (r : Int) (pp : Int → Int) (h : Hp) (H : Heap) (locs : List Loc) (ls : Array Slot), 24 - a < (n9 : Int) → (0 ≤ a ∧ a ≤ 24) → (k < r) → (y = fo k) → (TB (mT (Aj 4) (Ij 0)) (tLen (L 1) (mT (Aj 4) (Ij 0))) (nxC (Ij 0) (Ij 2) (Ij 3) (Aj 4)) (fun x a => decide (As9 0 (nxC (Ij 0) (Ij 2) (Ij 3) (Aj 4) x a) = As9 0 x + spC (Aj 4) x a)) x0 fo lv ca r (24 * k + a) pp) → (OB g 4 4 kd4 h o R1 (va_up I 3 (r)) L1 (va_up (va_up (va_up A1 0 (fo)) 1 (lv)) 2 (ca))) → (OB g 1 7 kd1 h oj Rj Ij L4 (va_up Aj 5 (p_stand (Ij 0) (Aj 4) f y))) → (OB g 3 2 kd3 h os Rs Is Ls As9) → (Fr (fun q => FP 4 kd4 o R q ∨ FP 7 kd1 oj Rj q ∨ h0 q = none) h0 h) → (Wd g base h H) → (va_S (Ab base) s.heap H locs) → (lv_has ls 7 [(0, .ref o), (1, .ref oj), (2, .ref os), (3, .int (J k)), (4, .int (J y)), (5, .int (J a))]) → W p l e (headSpec wsX4_walk ({ frames := 3, cells := tCel (L 1) (mT (Aj 4) (Ij 0)), slots := tSlo (L 1) (mT (Aj 4) (Ij 0)), locals := 74 })).room s m ([.ref o, .ref oj, .ref os]).toArray below meth c H locs (tCel (L 1) (mT (Aj 4) (Ij 0))) (tSlo (L 1) (mT (Aj 4) (Ij 0))) (MQ below (QcM g base (fun r9 h' => r9 = none ∧ Fr (fun q => FP 4 kd4 o R q ∨ FP 7 kd1 oj Rj q) h0 h' ∧ ∃ R' L' fo lv ca r pp f, OB g 4 4 kd4 h' o R' (va_up I 3 r) L' (va_up (va_up (va_up (fun _ _ => 0) 0 fo) 1 lv) 2 ca) ∧ OB g 1 7 kd1 h' oj Rj Ij L4 (va_up Aj 5 f) ∧ (L' 0 = tLen (L 1) (mT (Aj 4) (Ij 0)) ∧ L' 1 = tLen (L 1) (mT (Aj 4) (Ij 0)) ∧ L' 2 = tLen (L 1) (mT (Aj 4) (Ij 0))) ∧ (∀ k, k < 3 → R' k = R k ∨ h0 (R' k) = none) ∧ (∀ i, 0 ≤ i → i < 4 → 0 ≤ f i ∧ f i ≤ 10) ∧ TB (mT (Aj 4) (Ij 0)) (tLen (L 1) (mT (Aj 4) (Ij 0))) (nxC (Ij 0) (Ij 2) (Ij 3) (Aj 4)) (fun x a => decide (As9 0 (nxC (Ij 0) (Ij 2) (Ij 3) (Aj 4) x a) = As9 0 x + spC (Aj 4) x a)) x0 fo lv ca r (24 * r) pp)) ([.ref o, .ref oj, .ref os]).toArray s (tCel (L 1) (mT (Aj 4) (Ij 0))) (tSlo (L 1) (mT (Aj 4) (Ij 0))) (Ab base)) (F0 m 48 ls []) := by
            intro n9
            induction n9 with
            | zero =>
              intro a fo lv ca r pp h H locs ls hmu ha9 hkr ey hTB hM hJ hSp hF hW hS hl
              exact absurd hmu (by omega)
            | succ n9 ih =>
              intro a fo lv ca r pp h H locs ls hmu ha9 hkr ey hTB hM hJ hSp hF hW hS hl
              have hr1 := hTB.1
              have hrN := hTB.2.1
              have hfy := hTB.2.2.2.2.1 k hk9.1 hkr
              rw [← ey] at hfy
              have ih_48 := ih
              refine lv_iload hx hb dX4_walk_48 (lv_at hl 5 rfl) ?_
              refine lv_bipush (v := J (24)) hx hb dX4_walk_50 (by decide) ?_
              refine j_icmp_ge (x := a) (y := 24) (tgt := 131) hx hb ⟨by omega, by omega⟩ ⟨by decide, by decide⟩ dX4_walk_52 (by decide) (fun c_52 => ?_) (fun c_52 => ?_)
              · refine lv_iinc (v := J (k + 1)) (lv' := [(3, .int (J (k + 1))), (0, .ref o), (1, .ref oj), (2, .ref os), (4, .int (J y)), (5, .int (J a))]) hx hb dX4_walk_131 hl (k := 3) rfl (J_inc (by omega)) (by decide) rfl (fun ls hl => ?_)
                refine lv_goto (tgt := 14) hx hb dX4_walk_134 (by decide) ?_
                exact ih_14 (k + 1) (p_stand (Ij 0) (Aj 4) f y) fo lv ca r pp h H locs ls (by omega) (by omega) (stand_r hw1 hfr y) (by have e9 : 24 * (k + 1) = 24 * k + a := (by omega); rw [e9]; exact hTB) hM hJ hSp hF hW hS (lv_sub hl [1, 2, 3, 0] rfl)
              · refine lv_iload hx hb dX4_walk_55 (lv_at hl 4 rfl) ?_
                refine lv_aload_n hx hb dX4_walk_57 rfl (lv_at hl 1 rfl) ?_
                refine lv_iload hx hb dX4_walk_58 (lv_at hl 5 rfl) ?_
                refine g_callV (As := [.int (J a)]) (rest := [.int (J y)]) (b := oj) (ci := 1) (C := RX1) (T := TX1) (N := 7) ⟨hx, hb, hml, hown, hts⟩ (k_shiftBy l g base sa h oj Rj Ij (va_up Aj 5 (p_stand (Ij 0) (Aj 4) f y)) a hJ ⟨by omega, by omega⟩ (Jok_of hw9 (stand_v hw1 y))) (cwV 1 hts gX4_walk_X1_shiftBy rfl rfl rfl (by decide +kernel) ⟨Nat.le_of_ble_eq_true rfl, Nat.le_of_ble_eq_true rfl⟩) hk hW hS hJ.1 rfl rfl hl.1 (Nat.le_of_ble_eq_true rfl) dX4_walk_60 ⟨Nat.le_refl _, Nat.le_refl _⟩ (fun r9 h9 H locs hp hW hS => ?_)
                have hp : r9 = some (.int (J (p_shift (Ij 0) (Ij 2) (Ij 3) (Aj 4) (p_stand (Ij 0) (Aj 4) f y) (Aj 6) a))) ∧ h9 = h := hp
                obtain ⟨rfl, e9⟩ := hp
                rw [e9] at hW
                refine W.widen (k := tCel (L 1) (mT (Aj 4) (Ij 0))) (n := tSlo (L 1) (mT (Aj 4) (Ij 0))) (Nat.le_refl _) (Nat.le_refl _) ?_
                refine W.eq (g2 := F0 m 63 ls [.int (J (p_shift (Ij 0) (Ij 2) (Ij 3) (Aj 4) (p_stand (Ij 0) (Aj 4) f y) (Aj 6) a)), .int (J y)]) rfl ?_
                refine j_iadd hx hb dX4_walk_63 ?_
                have et : y + (p_shift (Ij 0) (Ij 2) (Ij 3) (Aj 4) (p_stand (Ij 0) (Aj 4) f y) (Aj 6) a) = nxC (Ij 0) (Ij 2) (Ij 3) (Aj 4) y a := shift_eq hw1 hw5 hfy.1 hfy.2.1 a
                have hnr := nxC_r (tp := Ij 2) (dr := Ij 3) hw1 hfy.1 hfy.2.1 a
                rw [et]
                obtain ⟨t, et2⟩ : ∃ t, t = nxC (Ij 0) (Ij 2) (Ij 3) (Aj 4) y a := ⟨_, rfl⟩
                rw [← et2] at hnr ⊢
                refine lv_istore (lv' := [(6, .int (J t)), (0, .ref o), (1, .ref oj), (2, .ref os), (3, .int (J k)), (4, .int (J y)), (5, .int (J a))]) hx hb dX4_walk_64 hl (by decide) rfl (fun ls hl => ?_)
                refine lv_iload hx hb dX4_walk_66 (lv_at hl 0 rfl) ?_
                refine j_if_lt (x := t) (tgt := 125) hx hb ⟨by omega, by omega⟩ dX4_walk_68 (by decide) (fun c_68 => ?_) (fun c_68 => ?_)
                · exfalso
                  omega
                · refine lv_iload hx hb dX4_walk_71 (lv_at hl 0 rfl) ?_
                  refine lv_aload_n hx hb dX4_walk_73 rfl (lv_at hl 1 rfl) ?_
                  refine g_get (ci := 4) (C := RX4) (T := TX4) (N := 4) (v := .ref (R1 1)) hx hb hfX4 (fun _ h9 => h9) hown hk hW hM.1 rfl 1 (by decide) (hts (.fieldLink RX4 15 "JugsAndGlasses$Tour" "level" "[I") (by decide +kernel)) rfl rfl dX4_walk_74 ?_
                  refine g_alen (n := L1 1) hx hb hk hW (hM.ai 1 (by decide) rfl) (by omega) dX4_walk_77 ?_
                  refine j_icmp_ge (x := t) (y := L1 1) (tgt := 125) hx hb ⟨by omega, by omega⟩ ⟨by omega, by omega⟩ dX4_walk_78 (by decide) (fun c_78 => ?_) (fun c_78 => ?_)
                  · exfalso
                    omega
                  · refine lv_aload_n hx hb dX4_walk_81 rfl (lv_at hl 1 rfl) ?_
                    refine g_get (ci := 4) (C := RX4) (T := TX4) (N := 4) (v := .ref (R1 1)) hx hb hfX4 (fun _ h9 => h9) hown hk hW hM.1 rfl 1 (by decide) (hts (.fieldLink RX4 15 "JugsAndGlasses$Tour" "level" "[I") (by decide +kernel)) rfl rfl dX4_walk_82 ?_
                    refine lv_iload hx hb dX4_walk_85 (lv_at hl 0 rfl) ?_
                    refine g_iald (n := L1 1) (f := lv) (i := t) hx hb hk hW (hM.ai 1 (by decide) rfl) (by omega) (by omega) (by omega) dX4_walk_87 ?_
                    refine j_if_lt (x := lv t) (tgt := 94) hx hb ⟨by rcases hTB.2.2.2.2.2.1 t hnr.1 (by omega) with w | ⟨w, w1, w2, w3⟩; omega; (have := hTB.2.2.2.2.1 w w1 w2; rw [w3] at this; omega), by rcases hTB.2.2.2.2.2.1 t hnr.1 (by omega) with w | ⟨w, w1, w2, w3⟩; omega; (have := hTB.2.2.2.2.1 w w1 w2; rw [w3] at this; omega)⟩ dX4_walk_88 (by decide) (fun c_88 => ?_) (fun c_88 => ?_)
                    · refine lv_aload_n hx hb dX4_walk_94 rfl (lv_at hl 3 rfl) ?_
                      refine lv_ifnull hx hb dX4_walk_95 ?_
                      have hact9 : p_act (Ij 0) a := nxC_act (x := y) (tp := Ij 2) (dr := Ij 3) (sz := Aj 4) (fun e9 => by rw [← et2] at e9; rw [e9] at c_88; omega)
                      refine lv_aload_n hx hb dX4_walk_98 rfl (lv_at hl 3 rfl) ?_
                      refine lv_iload hx hb dX4_walk_99 (lv_at hl 5 rfl) ?_
                      refine lv_iload hx hb dX4_walk_101 (lv_at hl 0 rfl) ?_
                      refine lv_aload_n hx hb dX4_walk_103 rfl (lv_at hl 2 rfl) ?_
                      refine lv_iload hx hb dX4_walk_104 (lv_at hl 6 rfl) ?_
                      refine g_callV (As := [.int (J a)]) (rest := [.int (J t), .int (J y), .ref os]) (b := oj) (ci := 1) (C := RX1) (T := TX1) (N := 7) ⟨hx, hb, hml, hown, hts⟩ (k_spiltBy l g base sa h oj Rj Ij (va_up Aj 5 (p_stand (Ij 0) (Aj 4) f y)) a hJ ⟨by omega, by omega⟩) (cwV 1 hts gX4_walk_X1_spiltBy rfl rfl rfl (by decide +kernel) ⟨Nat.le_of_ble_eq_true rfl, Nat.le_of_ble_eq_true rfl⟩) hk hW hS hJ.1 rfl rfl hl.1 (Nat.le_of_ble_eq_true rfl) dX4_walk_106 ⟨Nat.le_refl _, Nat.le_refl _⟩ (fun r9 h9 H locs hp hW hS => ?_)
                      have hp : r9 = some (.int (J (p_spilt (p_stand (Ij 0) (Aj 4) f y) a))) ∧ h9 = h := hp
                      obtain ⟨rfl, e9⟩ := hp
                      rw [e9] at hW
                      refine W.widen (k := tCel (L 1) (mT (Aj 4) (Ij 0))) (n := tSlo (L 1) (mT (Aj 4) (Ij 0))) (Nat.le_refl _) (Nat.le_refl _) ?_
                      refine W.eq (g2 := F0 m 109 ls [.int (J (p_spilt (p_stand (Ij 0) (Aj 4) f y) a)), .int (J t), .int (J y), .ref os]) rfl ?_
                      have hspr := spilt_r (stand_r hw1 hfr y) a
                      refine g_callV (As := [.int (J y), .int (J t), .int (J (p_spilt (p_stand (Ij 0) (Aj 4) f y) a))]) (rest := []) (b := os) (ci := 3) (C := RX3) (T := TX3) (N := 2) ⟨hx, hb, hml, hown, hts⟩ (s_isLeast l g base sa h os Rs Is Ls As9 y t (p_spilt (p_stand (Ij 0) (Aj 4) f y) a) hSp hLs ⟨by omega, by omega⟩ ⟨by omega, by omega⟩ hspr hlr9) (cwV 3 hts gX4_walk_X3_isLeast rfl rfl rfl (by decide +kernel) ⟨Nat.le_of_ble_eq_true rfl, Nat.le_of_ble_eq_true rfl⟩) hk hW hS hSp.1 rfl rfl hl.1 (Nat.le_of_ble_eq_true rfl) dX4_walk_109 ⟨Nat.le_refl _, Nat.le_refl _⟩ (fun r9 h9 H locs hp hW hS => ?_)
                      obtain ⟨rfl, e9⟩ := hp
                      rw [e9] at hW
                      refine W.widen (k := tCel (L 1) (mT (Aj 4) (Ij 0))) (n := tSlo (L 1) (mT (Aj 4) (Ij 0))) (Nat.le_refl _) (Nat.le_refl _) ?_
                      refine W.eq (g2 := F0 m 112 ls [.int (J (if 0 ≤ y ∧ y < Ls 0 ∧ 0 ≤ t ∧ t < Ls 0 ∧ As9 0 t = As9 0 y + p_spilt (p_stand (Ij 0) (Aj 4) f y) a then 1 else 0))]) rfl ?_
                      refine j_if_eq (x := if 0 ≤ y ∧ y < Ls 0 ∧ 0 ≤ t ∧ t < Ls 0 ∧ As9 0 t = As9 0 y + p_spilt (p_stand (Ij 0) (Aj 4) f y) a then 1 else 0) (tgt := 125) hx hb (ifP_r _) dX4_walk_112 (by decide) (fun c_112 => ?_) (fun c_112 => ?_)
                      · refine lv_iinc (v := J (a + 1)) (lv' := [(5, .int (J (a + 1))), (6, .int (J t)), (0, .ref o), (1, .ref oj), (2, .ref os), (3, .int (J k)), (4, .int (J y))]) hx hb dX4_walk_125 hl (k := 6) rfl (J_inc (by omega)) (by decide) rfl (fun ls hl => ?_)
                        refine lv_goto (tgt := 48) hx hb dX4_walk_128 (by decide) ?_
                        exact ih_48 (a + 1) fo lv ca r pp h H locs ls (by omega) (by omega) (by omega) ey (TB_no hTB (by omega) (by rw [← ey, ← et2]; exact hnr) (by omega) (by omega) (fun hok => by (try rw [← ey] at hok); rw [← ey, ← et2]; first | omega | (exfalso; have hq0 := ifP_0 c_112; rw [spC_eq hact9] at hq0; simp [← et2] at hok; exact hq0 ⟨by omega, by omega, by omega, by omega, hok⟩))) hM hJ hSp hF hW hS (lv_sub hl [2, 3, 4, 5, 6, 0] rfl)
                      · have hrl := TB_lt hTB hnr.1 hnr.2 (by omega)
                        have hlv9 : ∀ j, 0 ≤ j → j < L1 1 → i32 (lv j) := fun j j0 j1 => by
                          rcases hTB.2.2.2.2.2.1 j j0 (by omega) with w | ⟨w, w1, w2, w3⟩
                          · exact ⟨by omega, by omega⟩
                          · have w4 := hTB.2.2.2.2.1 w w1 w2
                            rw [w3] at w4
                            exact ⟨by omega, by omega⟩
                        refine lv_aload_n hx hb dX4_walk_115 rfl (lv_at hl 1 rfl) ?_
                        refine lv_iload hx hb dX4_walk_116 (lv_at hl 5 rfl) ?_
                        refine lv_iload hx hb dX4_walk_118 (lv_at hl 6 rfl) ?_
                        refine lv_iload hx hb dX4_walk_120 (lv_at hl 0 rfl) ?_
                        refine g_callV (As := [.int (J y), .int (J a), .int (J t)]) (rest := []) (b := o) (ci := 4) (C := RX4) (T := TX4) (N := 4) ⟨hx, hb, hml, hown, hts⟩ (t_enter l g base sa h o R1 (va_up I 3 (r)) L1 (va_up (va_up (va_up A1 0 (fo)) 1 (lv)) 2 (ca)) y a t hM ⟨by omega, by omega, by omega, by omega⟩ ⟨show 0 ≤ r by omega, show r < L1 0 by omega⟩ ⟨by omega, by omega⟩ ⟨by omega, by omega⟩ hlv9 hfy.2.2.1) (cwV 3 hts gX4_walk_X4_enter rfl rfl rfl (by decide +kernel) ⟨Nat.le_of_ble_eq_true rfl, Nat.le_of_ble_eq_true rfl⟩) hk hW hS hM.1 rfl rfl hl.1 (Nat.le_of_ble_eq_true rfl) dX4_walk_122 ⟨Nat.le_refl _, Nat.le_refl _⟩ (fun r9 h9 H locs hp hW hS => ?_)
                        obtain ⟨rfl, hM, hF9⟩ := hp
                        refine W.widen (k := tCel (L 1) (mT (Aj 4) (Ij 0))) (n := tSlo (L 1) (mT (Aj 4) (Ij 0))) (Nat.le_refl _) (Nat.le_refl _) ?_
                        refine W.eq (g2 := F0 m 125 ls []) rfl ?_
                        have hJ := hJ.fr hF9 (fun q h1 h2 => hTJ1 q h2 h1)
                        have hSp := hSp.fr hF9 (fun q h1 h2 => hTS1 q h2 h1)
                        have hF := hF.tr hF9 (fun q w _ => hPT q w)
                        generalize h9 = h at hM hJ hF hW hSp
                        have hM : OB g 4 4 kd4 h o R1 (va_up (va_up I 3 (r)) 3 (r + 1)) L1 (va_up (va_up (va_up (va_up (va_up (va_up A1 0 (fo)) 1 (lv)) 2 (ca)) 0 (uf fo r t)) 1 (uf lv t (lv y + 1))) 2 (uf ca t (y * 32 + a))) := hM
                        have hM : OB g 4 4 kd4 h o R1 (va_up I 3 (r + 1)) L1 (va_up (va_up (va_up (va_up (va_up (va_up A1 0 (fo)) 1 (lv)) 2 (ca)) 0 (uf fo r t)) 1 (uf lv t (lv y + 1))) 2 (uf ca t (y * 32 + a))) := by
                          have e9 : (va_up (va_up I 3 (r)) 3 (r + 1)) = (va_up I 3 (r + 1)) := by funext q9; by_cases w3 : q9 = 3 <;> simp [va_up, w3]
                          rw [← e9]
                          exact hM
                        have hM : OB g 4 4 kd4 h o R1 (va_up I 3 (r + 1)) L1 (va_up (va_up (va_up A1 0 (uf fo r t)) 1 (uf lv t (lv y + 1))) 2 (uf ca t (y * 32 + a))) := by
                          have e9 : (va_up (va_up (va_up (va_up (va_up (va_up A1 0 (fo)) 1 (lv)) 2 (ca)) 0 (uf fo r t)) 1 (uf lv t (lv y + 1))) 2 (uf ca t (y * 32 + a))) = (va_up (va_up (va_up A1 0 (uf fo r t)) 1 (uf lv t (lv y + 1))) 2 (uf ca t (y * 32 + a))) := by funext q9; by_cases w0 : q9 = 0 <;> by_cases w1 : q9 = 1 <;> by_cases w2 : q9 = 2 <;> simp [va_up, w0, w1, w2]
                          rw [← e9]
                          exact hM
                        refine lv_iinc (v := J (a + 1)) (lv' := [(5, .int (J (a + 1))), (6, .int (J t)), (0, .ref o), (1, .ref oj), (2, .ref os), (3, .int (J k)), (4, .int (J y))]) hx hb dX4_walk_125 hl (k := 6) rfl (J_inc (by omega)) (by decide) rfl (fun ls hl => ?_)
                        refine lv_goto (tgt := 48) hx hb dX4_walk_128 (by decide) ?_
                        exact ih_48 (a + 1) (uf fo r t) (uf lv t (lv y + 1)) (uf ca t (y * 32 + a)) (r + 1) (uf pp r (24 * k + a)) h H locs ls (by omega) (by omega) (by omega) (by rw [uf_ne _ _ (by omega)]; exact ey) (by have h8 := TB_yes hTB hk9.1 hkr (by omega) (by omega) (by rw [← ey, ← et2]; omega) (by rw [← ey, ← et2]; omega) (by rw [← ey, ← et2]; omega) (by rw [← ey]; have h7 := ifP_1 c_112; rw [spC_eq hact9] at h7; simp [← et2, h7.2.2.2.2]); rw [← ey, ← et2] at h8; exact h8) hM hJ hSp hF hW hS (lv_sub hl [2, 3, 4, 5, 6, 0] rfl)
                    · refine lv_goto (tgt := 125) hx hb dX4_walk_91 (by decide) ?_
                      refine lv_iinc (v := J (a + 1)) (lv' := [(5, .int (J (a + 1))), (6, .int (J t)), (0, .ref o), (1, .ref oj), (2, .ref os), (3, .int (J k)), (4, .int (J y))]) hx hb dX4_walk_125 hl (k := 6) rfl (J_inc (by omega)) (by decide) rfl (fun ls hl => ?_)
                      refine lv_goto (tgt := 48) hx hb dX4_walk_128 (by decide) ?_
                      exact ih_48 (a + 1) fo lv ca r pp h H locs ls (by omega) (by omega) (by omega) ey (TB_no hTB (by omega) (by rw [← ey, ← et2]; exact hnr) (by omega) (by omega) (fun hok => by (try rw [← ey] at hok); rw [← ey, ← et2]; first | omega | (exfalso; have hq0 := ifP_0 c_112; rw [spC_eq hact9] at hq0; simp [← et2] at hok; exact hq0 ⟨by omega, by omega, by omega, by omega, hok⟩))) hM hJ hSp hF hW hS (lv_sub hl [2, 3, 4, 5, 6, 0] rfl)
          exact loop_48 25 0 fo lv ca r pp h H locs ls (by omega) (by omega) (by omega) ey (by rw [Int.add_zero]; exact hTB) hM hJ hSp hF hW hS (lv_sub hl [2, 3, 4, 5, 1, 0] rfl)
  exact loop_14 ((mT (Aj 4) (Ij 0)).toNat + 1) 0 (Aj 5) (A1 0) (A1 1) (A1 2) 1 (fun _ => 0) h H locs ls (by omega) (by omega) hw6 (TB_0 hx0.1 hx0.2 (by omega) hf0 hlv0) (by rw [va_up_id, va_up_id, va_up_id]; exact hM) (by rw [va_up_id]; exact hJ) hSp hF hW hS (lv_sub hl [1, 2, 3, 0] rfl)
