set_option maxHeartbeats 4000000 in
set_option maxRecDepth 100000 in
theorem e_sparing (l : Launch) (g : GX) (base : Nat) (sa : Nat → Nat) (h0 : Hp) (o : Nat) (R : Nat → Nat) (I : Nat → Int) (L : Nat → Int) (A : Nat → Int → Int) (Rj : Nat → Nat) (Ij : Nat → Int) (Aj : Nat → Int → Int) (Rk : Nat → Nat) (Ik : Nat → Int) (Ak : Nat → Int → Int) (Ra : Nat → Nat) (Ia : Nat → Int) (La : Nat → Int) (Aa : Nat → Int → Int) (Rt : Nat → Nat) (It : Nat → Int) (Lt : Nat → Int) (At : Nat → Int → Int) (Rs : Nat → Nat) (Is : Nat → Int) (Ls : Nat → Int) (As9 : Nat → Int → Int) (pp : Int → Int) (hM : OB g 2 9 kd2 h0 o R I L A) (hG : OB g 1 7 kd1 h0 (R 0) Rj Ij L4 Aj) (hJ : OB g 1 7 kd1 h0 (R 1) Rk Ik L4 Ak) (hT : OB g 4 4 kd4 h0 (R 2) Ra Ia La Aa) (hw9 : Wok Ij Aj) (hv9 : Vh (Ij 0) (Aj 4) (Aj 5)) (hz : Zo (Ak 4) ∧ Zo (Aj 4) ∧ Zo (Ak 6) ∧ Zo (Aj 6)) (aSK : ∀ q, FP 9 kd2 o R q → ¬ FP 7 kd1 (R 1) Rk q) (aSA : ∀ q, FP 9 kd2 o R q → ¬ FP 4 kd4 (R 2) Ra q) (aGK : ∀ q, FP 7 kd1 (R 0) Rj q → ¬ FP 7 kd1 (R 1) Rk q) (aAK : ∀ q, FP 4 kd4 (R 2) Ra q → ¬ FP 7 kd1 (R 1) Rk q) (aGA : ∀ q, FP 7 kd1 (R 0) Rj q → ¬ FP 4 kd4 (R 2) Ra q) (aGS : ∀ q, FP 7 kd1 (R 0) Rj q → ¬ FP 9 kd2 o R q) (hL : 0 ≤ La 1 ∧ La 1 ≤ 14641 ∧ La 0 = La 1 ∧ La 2 = La 1) (hU : OB g 4 4 kd4 h0 (R 3) Rt It Lt At) (hSp : OB g 3 2 kd3 h0 (R 4) Rs Is Ls As9) (aST : ∀ q, FP 9 kd2 o R q → ¬ FP 4 kd4 (R 3) Rt q) (aSW : ∀ q, FP 9 kd2 o R q → ¬ FP 2 kd3 (R 4) Rs q) (aTK : ∀ q, FP 4 kd4 (R 3) Rt q → ¬ FP 7 kd1 (R 1) Rk q) (aWK : ∀ q, FP 2 kd3 (R 4) Rs q → ¬ FP 7 kd1 (R 1) Rk q) (aGT : ∀ q, FP 7 kd1 (R 0) Rj q → ¬ FP 4 kd4 (R 3) Rt q) (aGW : ∀ q, FP 7 kd1 (R 0) Rj q → ¬ FP 2 kd3 (R 4) Rs q) (aAT : ∀ q, FP 4 kd4 (R 2) Ra q → ¬ FP 4 kd4 (R 3) Rt q) (aAW : ∀ q, FP 4 kd4 (R 2) Ra q → ¬ FP 2 kd3 (R 4) Rs q) (aTW : ∀ q, FP 4 kd4 (R 3) Rt q → ¬ FP 2 kd3 (R 4) Rs q) (hLt : 0 ≤ Lt 1 ∧ Lt 1 ≤ 14641 ∧ Lt 0 = Lt 1 ∧ Lt 2 = Lt 1) (hLs : 0 ≤ Ls 0 ∧ Ls 0 ≤ 14641 ∧ Ls 1 = Ls 0) (hNL : mT (Aj 4) (Ij 0) ≤ La 1) (hTB : TB (mT (Aj 4) (Ij 0)) (La 1) (nxC (Ij 0) (Ij 2) (Ij 3) (Aj 4)) (fun _ _ => true) (cC (Ij 0) (Aj 4) (Aj 5)) (Aa 0) (Aa 1) (Aa 2) (Ia 3) (24 * Ia 3) pp) (hI8 : I 8 = 0 ∨ I 8 = 1) : MC l g base sa yX2_exploreSparing wsX2_exploreSparing ({ frames := 4, cells := sCel (Ls 0) (La 1) + tCel (Lt 1) (mT (Aj 4) (Ij 0)), slots := sSlo (Ls 0) (La 1) + tSlo (Lt 1) (mT (Aj 4) (Ij 0)), locals := 103 }) ([.ref o]) h0 (fun r9 h' => r9 = none ∧ ((I 8 = 1 ∧ h' = h0) ∨ (I 8 = 0 ∧ Fr (fun q => FP 9 kd2 o R q ∨ FP 7 kd1 (R 1) Rk q ∨ FP 4 kd4 (R 3) Rt q ∨ FP 2 kd3 (R 4) Rs q) h0 h' ∧ ∃ Rt' Lt' fo lv ca r pp2 f Rs' Ls' le wk, OB g 2 9 kd2 h' o R (va_up I 8 1) L A ∧ OB g 1 7 kd1 h' (R 0) Rj Ij L4 Aj ∧ OB g 1 7 kd1 h' (R 1) Rk Ij L4 (va_up Aj 5 f) ∧ OB g 4 4 kd4 h' (R 2) Ra Ia La Aa ∧ OB g 4 4 kd4 h' (R 3) Rt' (va_up It 3 r) Lt' (va_up (va_up (va_up (fun _ _ => 0) 0 fo) 1 lv) 2 ca) ∧ OB g 3 2 kd3 h' (R 4) Rs' Is Ls' (va_up (va_up (fun _ _ => 0) 0 le) 1 wk) ∧ (Lt' 0 = tLen (Lt 1) (mT (Aj 4) (Ij 0)) ∧ Lt' 1 = tLen (Lt 1) (mT (Aj 4) (Ij 0)) ∧ Lt' 2 = tLen (Lt 1) (mT (Aj 4) (Ij 0))) ∧ (Ls' 0 = sLen (Ls 0) (La 1) ∧ Ls' 1 = sLen (Ls 0) (La 1)) ∧ (∀ k, k < 3 → Rt' k = Rt k ∨ h0 (Rt' k) = none) ∧ (∀ k, k < 2 → Rs' k = Rs k ∨ h0 (Rs' k) = none) ∧ (∀ q, FP 4 kd4 (R 3) Rt' q → ¬ FP 2 kd3 (R 4) Rs' q) ∧ (∀ i, 0 ≤ i → i < 4 → 0 ≤ f i ∧ f i ≤ 10) ∧ LZ (mT (Aj 4) (Ij 0)) (sLen (Ls 0) (La 1)) (nxC (Ij 0) (Ij 2) (Ij 3) (Aj 4)) (spC (Aj 4)) (cC (Ij 0) (Aj 4) (Aj 5)) le ∧ TB (mT (Aj 4) (Ij 0)) (tLen (Lt 1) (mT (Aj 4) (Ij 0))) (nxC (Ij 0) (Ij 2) (Ij 3) (Aj 4)) (fun x a => decide (le (nxC (Ij 0) (Ij 2) (Ij 3) (Aj 4) x a) = le x + spC (Aj 4) x a)) (cC (Ij 0) (Aj 4) (Aj 5)) fo lv ca r (24 * r) pp2))) := by
  refine Met.ofW (cc := cX2_exploreSparing) (maxL := 1) (ret := none) (by decide) rfl ?_
  intro p e s m args below meth c s₁ B hml hv
  obtain ⟨rfl, hk, hW⟩ := hv
  have hx := B.exec
  have hb := B.bytes
  have hr := B.returns
  have hts := atoms_spec (ws := wsX2_exploreSparing) B.pre
  have hown : s.vm.findClass RX2 = some m.cls := findClass_of_methodNamed B.named
  have hlocks := B.notSynchronized
  have hfX1 : ∀ w ∈ wsX10, w.before ([.ref o]).toArray s = true := fun w h => hts w (List.mem_cons_of_mem _ (List.mem_append_left _ (List.mem_append_left _ (List.mem_append_right _ h))))
  have hfX2 : ∀ w ∈ wsX20, w.before ([.ref o]).toArray s = true := fun w h => hts w (List.mem_cons_of_mem _ (List.mem_append_left _ (List.mem_append_left _ (List.mem_append_left _ (List.mem_append_right _ h)))))
  have hfX3 : ∀ w ∈ wsX30, w.before ([.ref o]).toArray s = true := fun w h => hts w (List.mem_cons_of_mem _ (List.mem_append_left _ (List.mem_append_right _ h)))
  have hfX4 : ∀ w ∈ wsX40, w.before ([.ref o]).toArray s = true := fun w h => hts w (List.mem_cons_of_mem _ (List.mem_append_right _ h))
  have hS : va_S (Ab base) s.heap s.heap [] := va_S.rf
  have hl := lv_entry ([.ref o]) (n := 1) (Nat.le_of_ble_eq_true rfl)
  rw [lg_entry_eq]
  generalize (lg_sl ([.ref o]) ++ List.replicate (1 - (lg_sl ([.ref o])).length) Slot.unset).toArray = ls at hl ⊢
  have hl : lv_has ls 1 [(0, .ref o)] := hl
  have hF : Fr (fun q => FP 9 kd2 o R q ∨ FP 7 kd1 (R 1) Rk q ∨ FP 4 kd4 (R 3) Rt q ∨ FP 2 kd3 (R 4) Rs q) h0 h0 := Fr.rf
  have hM0 := hM
  have hG0 := hG
  have hT0 := hT
  have hU0 := hU
  have hJ0 := hJ
  have hSp0 := hSp
  refine lv_aload_n hx hb dX2_exploreSparing_0 rfl (lv_at hl 0 rfl) ?_
  refine g_get (ci := 2) (C := RX2) (T := TX2) (N := 9) (v := .int (J (I 8))) hx hb hfX2 (fun _ h9 => h9) hown hk hW hM.1 rfl 8 (by decide) (hts (.fieldLink RX2 49 "JugsAndGlasses$Search" "exploredSparing" "Z") (by decide +kernel)) rfl rfl dX2_exploreSparing_1 ?_
  refine j_if_ne (x := I 8) (tgt := 64) hx hb ⟨by omega, by omega⟩ dX2_exploreSparing_4 (by decide) (fun c_4 => ?_) (fun c_4 => ?_)
  · refine W.widen (k := sCel (Ls 0) (La 1) + tCel (Lt 1) (mT (Aj 4) (Ij 0))) (n := sSlo (Ls 0) (La 1) + tSlo (Lt 1) (mT (Aj 4) (Ij 0))) (by first | exact Nat.le_refl _ | exact Nat.zero_le _) (by first | exact Nat.le_refl _ | exact Nat.zero_le _) ?_
    exact g_vret hx hb hr hW hS dX2_exploreSparing_64 hlocks (⟨rfl, Or.inl ⟨by omega, rfl⟩⟩)
  · refine lv_aload_n hx hb dX2_exploreSparing_7 rfl (lv_at hl 0 rfl) ?_
    refine g_get (ci := 2) (C := RX2) (T := TX2) (N := 9) (v := .ref (R 1)) hx hb hfX2 (fun _ h9 => h9) hown hk hW hM.1 rfl 1 (by decide) (hts (.fieldLink RX2 18 "JugsAndGlasses$Search" "trial" "LJugsAndGlasses$Jugs;") (by decide +kernel)) rfl rfl dX2_exploreSparing_8 ?_
    refine lv_aload_n hx hb dX2_exploreSparing_11 rfl (lv_at hl 0 rfl) ?_
    refine g_get (ci := 2) (C := RX2) (T := TX2) (N := 9) (v := .ref (R 0)) hx hb hfX2 (fun _ h9 => h9) hown hk hW hM.1 rfl 0 (by decide) (hts (.fieldLink RX2 12 "JugsAndGlasses$Search" "jugs" "LJugsAndGlasses$Jugs;") (by decide +kernel)) rfl rfl dX2_exploreSparing_12 ?_
    refine g_callV (As := [.ref (R 0)]) (rest := []) (b := R 1) (ci := 1) (C := RX1) (T := TX1) (N := 7) ⟨hx, hb, hml, hown, hts⟩ (k_liken l g base sa h0 (R 1) Rk Ik Ak (R 0) Rj Ij Aj hJ hG (fun q a b => aGK q b a) hw9.2.1 hw9.2.2.1) (cwV 1 hts gX2_exploreSparing_X1_liken rfl rfl rfl (by decide +kernel) ⟨Nat.le_of_ble_eq_true rfl, Nat.le_of_ble_eq_true rfl⟩) hk hW hS hJ.1 rfl rfl hl.1 (Nat.le_of_ble_eq_true rfl) dX2_exploreSparing_15 ⟨Nat.zero_le _, Nat.zero_le _⟩ (fun r9 h9 H locs hp hW hS => ?_)
    obtain ⟨rfl, hJ, hF9⟩ := hp
    refine W.widen (k := 0) (n := 0) (Nat.le_refl _) (Nat.le_refl _) ?_
    refine W.eq (g2 := F0 m 18 ls []) rfl ?_
    have hJ := liken_ob hz.1 hz.2.1 hz.2.2.1 hz.2.2.2 hJ
    have hM := hM.fr hF9 aSK
    have hG := hG.fr hF9 aGK
    have hT := hT.fr hF9 aAK
    have hU := hU.fr hF9 aTK
    have hSp := hSp.fr hF9 aWK
    have hF := hF.tr hF9 (fun q w _ => Or.inr (Or.inl w))
    generalize h9 = h at hJ hM hG hT hU hSp hF hW
    refine lv_aload_n hx hb dX2_exploreSparing_18 rfl (lv_at hl 0 rfl) ?_
    refine g_get (ci := 2) (C := RX2) (T := TX2) (N := 9) (v := .ref (R 4)) hx hb hfX2 (fun _ h9 => h9) hown hk hW hM.1 rfl 4 (by decide) (hts (.fieldLink RX2 34 "JugsAndGlasses$Search" "spilling" "LJugsAndGlasses$Spilling;") (by decide +kernel)) rfl rfl dX2_exploreSparing_19 ?_
    refine lv_aload_n hx hb dX2_exploreSparing_22 rfl (lv_at hl 0 rfl) ?_
    refine g_get (ci := 2) (C := RX2) (T := TX2) (N := 9) (v := .ref (R 1)) hx hb hfX2 (fun _ h9 => h9) hown hk hW hM.1 rfl 1 (by decide) (hts (.fieldLink RX2 18 "JugsAndGlasses$Search" "trial" "LJugsAndGlasses$Jugs;") (by decide +kernel)) rfl rfl dX2_exploreSparing_23 ?_
    refine lv_aload_n hx hb dX2_exploreSparing_26 rfl (lv_at hl 0 rfl) ?_
    refine g_get (ci := 2) (C := RX2) (T := TX2) (N := 9) (v := .ref (R 2)) hx hb hfX2 (fun _ h9 => h9) hown hk hW hM.1 rfl 2 (by decide) (hts (.fieldLink RX2 24 "JugsAndGlasses$Search" "all" "LJugsAndGlasses$Tour;") (by decide +kernel)) rfl rfl dX2_exploreSparing_27 ?_
    refine g_callV (As := [.ref (R 1), .ref (R 2)]) (rest := []) (b := R 4) (ci := 3) (C := RX3) (T := TX3) (N := 2) ⟨hx, hb, hml, hown, hts⟩ (s_measure l g base sa h (R 4) Rs Is Ls As9 (R 1) Rk Ij (va_up Aj 5 (cpN 4 (Aj 5) (Ak 5))) (R 2) Ra Ia La Aa (cC (Ij 0) (Aj 4) (Aj 5)) pp hSp hJ hT (Wok_up hw9 (cp_r hw9.2.2.2.2.2)) (x0_eq hw9 _) (cC_r hw9.1 hv9) aWK (fun q a b => aAW q b a) aAK hLs ⟨hNL, hL.2.1, hL.2.2.1⟩ hTB) (cwV 2 hts gX2_exploreSparing_X3_measure rfl rfl rfl (by decide +kernel) ⟨Nat.le_of_ble_eq_true rfl, Nat.le_of_ble_eq_true rfl⟩) hk hW hS hSp.1 rfl rfl hl.1 (Nat.le_of_ble_eq_true rfl) dX2_exploreSparing_30 ⟨by show 0 + sCel (Ls 0) (La 1) ≤ sCel (Ls 0) (La 1) + tCel (Lt 1) (mT (Aj 4) (Ij 0)); omega, by show 0 + sSlo (Ls 0) (La 1) ≤ sSlo (Ls 0) (La 1) + tSlo (Lt 1) (mT (Aj 4) (Ij 0)); omega⟩ (fun r9 h9 H locs hp hW hS => ?_)
    have hp : r9 = none ∧ Fr (fun q => FP 2 kd3 (R 4) Rs q ∨ FP 7 kd1 (R 1) Rk q) h h9 ∧ ∃ R' L' le wk f, OB g 3 2 kd3 h9 (R 4) R' Is L' (va_up (va_up (fun _ _ => 0) 0 le) 1 wk) ∧ OB g 1 7 kd1 h9 (R 1) Rk Ij L4 (va_up (va_up Aj 5 (cpN 4 (Aj 5) (Ak 5))) 5 f) ∧ (L' 0 = sLen (Ls 0) (La 1) ∧ L' 1 = sLen (Ls 0) (La 1)) ∧ (∀ k, k < 2 → R' k = Rs k ∨ h (R' k) = none) ∧ (∀ i, 0 ≤ i → i < 4 → 0 ≤ f i ∧ f i ≤ 10) ∧ LZ (mT (Aj 4) (Ij 0)) (sLen (Ls 0) (La 1)) (nxC (Ij 0) (Ij 2) (Ij 3) (Aj 4)) (spC (Aj 4)) (cC (Ij 0) (Aj 4) (Aj 5)) le := hp
    obtain ⟨rfl, hF9, Rs2, Ls2, le, wk, f, hSp, hJ, hls9, hR1, hfr, hLZ⟩ := hp
    refine W.widen (k := sCel (Ls 0) (La 1)) (n := sSlo (Ls 0) (La 1)) (Nat.le_of_eq (Nat.zero_add _)) (Nat.le_of_eq (Nat.zero_add _)) ?_
    refine W.eq (g2 := F0 m 33 ls []) rfl ?_
    have hM := hM.fr hF9 (fun q a b => by rcases b with b | b; exact aSW q a b; exact aSK q a b)
    have hG := hG.fr hF9 (fun q a b => by rcases b with b | b; exact aGW q a b; exact aGK q a b)
    have hT := hT.fr hF9 (fun q a b => by rcases b with b | b; exact aAW q a b; exact aAK q a b)
    have hU := hU.fr hF9 (fun q a b => by rcases b with b | b; exact aTW q a b; exact aTK q a b)
    have hRs2 : ∀ k, k < 2 → Rs2 k = Rs k ∨ h0 (Rs2 k) = none := fun k hk9 => (hR1 k hk9).imp id (fun w => hF.none w)
    have hF := hF.tr hF9 (fun q w _ => by rcases w with w | w; exact Or.inr (Or.inr (Or.inr w)); exact Or.inr (Or.inl w))
    rw [bx_uu] at hJ
    have aSW2 : ∀ q, FP 9 kd2 o R q → ¬ FP 2 kd3 (R 4) Rs2 q := fun q a b => ap_nw hM0 (fun q c d => aSW q d c) (fun k e _ => hRs2 k e) q b a
    have aGW2 : ∀ q, FP 7 kd1 (R 0) Rj q → ¬ FP 2 kd3 (R 4) Rs2 q := fun q a b => ap_nw hG0 (fun q c d => aGW q d c) (fun k e _ => hRs2 k e) q b a
    have aAW2 : ∀ q, FP 4 kd4 (R 2) Ra q → ¬ FP 2 kd3 (R 4) Rs2 q := fun q a b => ap_nw hT0 (fun q c d => aAW q d c) (fun k e _ => hRs2 k e) q b a
    have aTW2 : ∀ q, FP 4 kd4 (R 3) Rt q → ¬ FP 2 kd3 (R 4) Rs2 q := fun q a b => ap_nw hU0 (fun q c d => aTW q d c) (fun k e _ => hRs2 k e) q b a
    have aWK2 : ∀ q, FP 2 kd3 (R 4) Rs2 q → ¬ FP 7 kd1 (R 1) Rk q := fun q a b => ap_nw hJ0 aWK (fun k e _ => hRs2 k e) q a b
    generalize h9 = h at hM hG hT hU hJ hSp hF hW
    refine lv_aload_n hx hb dX2_exploreSparing_33 rfl (lv_at hl 0 rfl) ?_
    refine g_get (ci := 2) (C := RX2) (T := TX2) (N := 9) (v := .ref (R 1)) hx hb hfX2 (fun _ h9 => h9) hown hk hW hM.1 rfl 1 (by decide) (hts (.fieldLink RX2 18 "JugsAndGlasses$Search" "trial" "LJugsAndGlasses$Jugs;") (by decide +kernel)) rfl rfl dX2_exploreSparing_34 ?_
    refine lv_aload_n hx hb dX2_exploreSparing_37 rfl (lv_at hl 0 rfl) ?_
    refine g_get (ci := 2) (C := RX2) (T := TX2) (N := 9) (v := .ref (R 0)) hx hb hfX2 (fun _ h9 => h9) hown hk hW hM.1 rfl 0 (by decide) (hts (.fieldLink RX2 12 "JugsAndGlasses$Search" "jugs" "LJugsAndGlasses$Jugs;") (by decide +kernel)) rfl rfl dX2_exploreSparing_38 ?_
    refine g_callV (As := [.ref (R 0)]) (rest := []) (b := R 1) (ci := 1) (C := RX1) (T := TX1) (N := 7) ⟨hx, hb, hml, hown, hts⟩ (k_liken l g base sa h (R 1) Rk Ij (va_up Aj 5 f) (R 0) Rj Ij Aj hJ hG (fun q a b => aGK q b a) hw9.2.1 hw9.2.2.1) (cwV 1 hts gX2_exploreSparing_X1_liken rfl rfl rfl (by decide +kernel) ⟨Nat.le_of_ble_eq_true rfl, Nat.le_of_ble_eq_true rfl⟩) hk hW hS hJ.1 rfl rfl hl.1 (Nat.le_of_ble_eq_true rfl) dX2_exploreSparing_41 ⟨Nat.le_add_right _ _, Nat.le_add_right _ _⟩ (fun r9 h9 H locs hp hW hS => ?_)
    obtain ⟨rfl, hJ, hF9⟩ := hp
    refine W.widen (k := sCel (Ls 0) (La 1)) (n := sSlo (Ls 0) (La 1)) (Nat.le_refl _) (Nat.le_refl _) ?_
    refine W.eq (g2 := F0 m 44 ls []) rfl ?_
    have hJ := liken_ob (A := va_up Aj 5 f) hz.2.1 hz.2.1 hz.2.2.2 hz.2.2.2 hJ
    have hM := hM.fr hF9 aSK
    have hG := hG.fr hF9 aGK
    have hT := hT.fr hF9 aAK
    have hU := hU.fr hF9 aTK
    have hSp := hSp.fr hF9 aWK2
    have hF := hF.tr hF9 (fun q w _ => Or.inr (Or.inl w))
    have hJ : OB g 1 7 kd1 h9 (R 1) Rk Ij L4 (va_up Aj 5 (cpN 4 (Aj 5) f)) := hJ
    generalize h9 = h at hJ hM hG hT hU hSp hF hW
    refine lv_aload_n hx hb dX2_exploreSparing_44 rfl (lv_at hl 0 rfl) ?_
    refine g_get (ci := 2) (C := RX2) (T := TX2) (N := 9) (v := .ref (R 3)) hx hb hfX2 (fun _ h9 => h9) hown hk hW hM.1 rfl 3 (by decide) (hts (.fieldLink RX2 28 "JugsAndGlasses$Search" "thrifty" "LJugsAndGlasses$Tour;") (by decide +kernel)) rfl rfl dX2_exploreSparing_45 ?_
    refine lv_aload_n hx hb dX2_exploreSparing_48 rfl (lv_at hl 0 rfl) ?_
    refine g_get (ci := 2) (C := RX2) (T := TX2) (N := 9) (v := .ref (R 1)) hx hb hfX2 (fun _ h9 => h9) hown hk hW hM.1 rfl 1 (by decide) (hts (.fieldLink RX2 18 "JugsAndGlasses$Search" "trial" "LJugsAndGlasses$Jugs;") (by decide +kernel)) rfl rfl dX2_exploreSparing_49 ?_
    refine lv_aload_n hx hb dX2_exploreSparing_52 rfl (lv_at hl 0 rfl) ?_
    refine g_get (ci := 2) (C := RX2) (T := TX2) (N := 9) (v := .ref (R 4)) hx hb hfX2 (fun _ h9 => h9) hown hk hW hM.1 rfl 4 (by decide) (hts (.fieldLink RX2 34 "JugsAndGlasses$Search" "spilling" "LJugsAndGlasses$Spilling;") (by decide +kernel)) rfl rfl dX2_exploreSparing_53 ?_
    have hSpx := hSp
    refine g_callV (As := [.ref (R 1), .ref (R 4)]) (rest := []) (b := R 3) (ci := 4) (C := RX4) (T := TX4) (N := 4) ⟨hx, hb, hml, hown, hts⟩ (t_explore1 l g base sa h (R 3) Rt It Lt At (R 1) Rk Ij (va_up Aj 5 (cpN 4 (Aj 5) f)) (R 4) Rs2 Is Ls2 (va_up (va_up (fun _ _ => 0) 0 le) 1 wk) (cC (Ij 0) (Aj 4) (Aj 5)) hU hJ hSp hLt (Wok_up hw9 (cp_r hw9.2.2.2.2.2)) (x0_eq hw9 _) (cC_r hw9.1 hv9) aTK aTW2 aWK2 (by rw [hls9.1]; unfold sLen; split <;> omega) (by rw [hls9.1]; unfold sLen; show mT (Aj 4) (Ij 0) ≤ _; split <;> omega) (fun j a b => hLZ.1 j a (by rw [hls9.1] at b; exact b))) (cwV 2 hts gX2_exploreSparing_X4_walk rfl rfl rfl (by decide +kernel) ⟨Nat.le_of_ble_eq_true rfl, Nat.le_of_ble_eq_true rfl⟩) hk hW hS hU.1 rfl rfl hl.1 (Nat.le_of_ble_eq_true rfl) dX2_exploreSparing_56 ⟨Nat.le_refl _, Nat.le_refl _⟩ (fun r9 h9 H locs hp hW hS => ?_)
    have hp : r9 = none ∧ Fr (fun q => FP 4 kd4 (R 3) Rt q ∨ FP 7 kd1 (R 1) Rk q) h h9 ∧ ∃ R' L' fo lv ca r pp2 f2, OB g 4 4 kd4 h9 (R 3) R' (va_up It 3 r) L' (va_up (va_up (va_up (fun _ _ => 0) 0 fo) 1 lv) 2 ca) ∧ OB g 1 7 kd1 h9 (R 1) Rk Ij L4 (va_up (va_up Aj 5 (cpN 4 (Aj 5) f)) 5 f2) ∧ (L' 0 = tLen (Lt 1) (mT (Aj 4) (Ij 0)) ∧ L' 1 = tLen (Lt 1) (mT (Aj 4) (Ij 0)) ∧ L' 2 = tLen (Lt 1) (mT (Aj 4) (Ij 0))) ∧ (∀ k, k < 3 → R' k = Rt k ∨ h (R' k) = none) ∧ (∀ i, 0 ≤ i → i < 4 → 0 ≤ f2 i ∧ f2 i ≤ 10) ∧ TB (mT (Aj 4) (Ij 0)) (tLen (Lt 1) (mT (Aj 4) (Ij 0))) (nxC (Ij 0) (Ij 2) (Ij 3) (Aj 4)) (fun x a => decide (le (nxC (Ij 0) (Ij 2) (Ij 3) (Aj 4) x a) = le x + spC (Aj 4) x a)) (cC (Ij 0) (Aj 4) (Aj 5)) fo lv ca r (24 * r) pp2 := hp
    obtain ⟨rfl, hF9, Rt2, Lt2, fo, lv, ca, r, pp2, f2, hU, hJ, hl9, hR1t, hfr2, hTB2⟩ := hp
    refine W.widen (k := sCel (Ls 0) (La 1) + tCel (Lt 1) (mT (Aj 4) (Ij 0))) (n := sSlo (Ls 0) (La 1) + tSlo (Lt 1) (mT (Aj 4) (Ij 0))) (Nat.le_refl _) (Nat.le_refl _) ?_
    refine W.eq (g2 := F0 m 59 ls []) rfl ?_
    have hM := hM.fr hF9 (fun q a b => by rcases b with b | b; exact aST q a b; exact aSK q a b)
    have hG := hG.fr hF9 (fun q a b => by rcases b with b | b; exact aGT q a b; exact aGK q a b)
    have hT := hT.fr hF9 (fun q a b => by rcases b with b | b; exact aAT q a b; exact aAK q a b)
    have hSp := hSp.fr hF9 (fun q a b => by rcases b with b | b; exact aTW2 q b a; exact aWK2 q a b)
    have hRt2 : ∀ k, k < 3 → Rt2 k = Rt k ∨ h0 (Rt2 k) = none := fun k hk9 => (hR1t k hk9).imp id (fun w => hF.none w)
    have aST2 : ∀ q, FP 9 kd2 o R q → ¬ FP 4 kd4 (R 3) Rt2 q := fun q a b => ap_new hM0 (fun q c d => aST q d c) hRt2 q b a
    have hF := hF.tr hF9 (fun q w _ => by rcases w with w | w; exact Or.inr (Or.inr (Or.inl w)); exact Or.inr (Or.inl w))
    rw [bx_uu] at hJ
    generalize h9 = h at hM hG hT hU hJ hSp hF hW
    have aTW3 : ∀ q, FP 4 kd4 (R 3) Rt2 q → ¬ FP 2 kd3 (R 4) Rs2 q := ap_new hSpx aTW2 hR1t
    refine lv_aload_n hx hb dX2_exploreSparing_59 rfl (lv_at hl 0 rfl) ?_
    refine lv_iconst (v := J (1)) hx hb dX2_exploreSparing_60 rfl ?_
    refine o_put (I' := (va_up I 8 (1))) (ci := 2) (C := RX2) (T := TX2) (N := 9) (ty := .boolean) hx hb hfX2 (fun _ h9 => h9) tyX2 tyX2_ok nmX2 hown hk hW hS hM hF (Or.inl FP.o) rfl 8 (by decide) rfl (hts (.fieldLink RX2 49 "JugsAndGlasses$Search" "exploredSparing" "Z") (by decide +kernel)) rfl rfl (by decide +kernel) (nb_n (Or.inr rfl)) (nb_f (Or.inr rfl)) rfl dX2_exploreSparing_61 (fun h H locs hM hF hst hW hS => ?_)
    have hG := hG.fr hst (fun q h1 h2 => (fun q a b => aGS q a b) q h1 (by rw [h2]; exact FP.o))
    have hJ := hJ.fr hst (fun q h1 h2 => (fun q a b => aSK q b a) q h1 (by rw [h2]; exact FP.o))
    have hT := hT.fr hst (fun q h1 h2 => (fun q a b => aSA q b a) q h1 (by rw [h2]; exact FP.o))
    have hU := hU.fr hst (fun q h1 h2 => (fun q a (b : FP 9 kd2 o R q) => aST2 q b a) q h1 (by rw [h2]; exact FP.o))
    have hSp := hSp.fr hst (fun q h1 h2 => (fun q a (b : FP 9 kd2 o R q) => aSW2 q b a) q h1 (by rw [h2]; exact FP.o))
    refine W.widen (k := sCel (Ls 0) (La 1) + tCel (Lt 1) (mT (Aj 4) (Ij 0))) (n := sSlo (Ls 0) (La 1) + tSlo (Lt 1) (mT (Aj 4) (Ij 0))) (by first | exact Nat.le_refl _ | exact Nat.zero_le _) (by first | exact Nat.le_refl _ | exact Nat.zero_le _) ?_
    exact g_vret hx hb hr hW hS dX2_exploreSparing_64 hlocks (⟨rfl, Or.inr ⟨by omega, hF, Rt2, Lt2, fo, lv, ca, r, pp2, f2, Rs2, Ls2, le, wk, hM, hG, hJ, hT, hU, hSp, hl9, hls9, hRt2, hRs2, aTW3, hfr2, hLZ, hTB2⟩⟩)
