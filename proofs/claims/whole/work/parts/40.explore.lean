set_option maxHeartbeats 4000000 in
set_option maxRecDepth 100000 in
theorem e_explore (l : Launch) (g : GX) (base : Nat) (sa : Nat → Nat) (h0 : Hp) (o : Nat) (R : Nat → Nat) (I : Nat → Int) (L : Nat → Int) (A : Nat → Int → Int) (Rj : Nat → Nat) (Ij : Nat → Int) (Aj : Nat → Int → Int) (Rk : Nat → Nat) (Ik : Nat → Int) (Ak : Nat → Int → Int) (Ra : Nat → Nat) (Ia : Nat → Int) (La : Nat → Int) (Aa : Nat → Int → Int) (hM : OB g 2 9 kd2 h0 o R I L A) (hG : OB g 1 7 kd1 h0 (R 0) Rj Ij L4 Aj) (hJ : OB g 1 7 kd1 h0 (R 1) Rk Ik L4 Ak) (hT : OB g 4 4 kd4 h0 (R 2) Ra Ia La Aa) (hw9 : Wok Ij Aj) (hv9 : Vh (Ij 0) (Aj 4) (Aj 5)) (hz : Zo (Ak 4) ∧ Zo (Aj 4) ∧ Zo (Ak 6) ∧ Zo (Aj 6)) (aSK : ∀ q, FP 9 kd2 o R q → ¬ FP 7 kd1 (R 1) Rk q) (aSA : ∀ q, FP 9 kd2 o R q → ¬ FP 4 kd4 (R 2) Ra q) (aGK : ∀ q, FP 7 kd1 (R 0) Rj q → ¬ FP 7 kd1 (R 1) Rk q) (aAK : ∀ q, FP 4 kd4 (R 2) Ra q → ¬ FP 7 kd1 (R 1) Rk q) (aGA : ∀ q, FP 7 kd1 (R 0) Rj q → ¬ FP 4 kd4 (R 2) Ra q) (aGS : ∀ q, FP 7 kd1 (R 0) Rj q → ¬ FP 9 kd2 o R q) (hL : 0 ≤ La 1 ∧ La 1 ≤ 14641 ∧ La 0 = La 1 ∧ La 2 = La 1) (hI6 : I 6 = 0 ∨ I 6 = 1) : MC l g base sa yX2_explore wsX2_explore ({ frames := 4, cells := tCel (La 1) (mT (Aj 4) (Ij 0)), slots := tSlo (La 1) (mT (Aj 4) (Ij 0)), locals := 100 }) ([.ref o]) h0 (fun r9 h' => r9 = none ∧ ((I 6 = 1 ∧ h' = h0) ∨ (I 6 = 0 ∧ Fr (fun q => FP 9 kd2 o R q ∨ FP 7 kd1 (R 1) Rk q ∨ FP 4 kd4 (R 2) Ra q) h0 h' ∧ ∃ R' L' fo lv ca r pp f, OB g 2 9 kd2 h' o R (va_up I 6 1) L A ∧ OB g 1 7 kd1 h' (R 0) Rj Ij L4 Aj ∧ OB g 1 7 kd1 h' (R 1) Rk Ij L4 (va_up Aj 5 f) ∧ OB g 4 4 kd4 h' (R 2) R' (va_up Ia 3 r) L' (va_up (va_up (va_up (fun _ _ => 0) 0 fo) 1 lv) 2 ca) ∧ (L' 0 = tLen (La 1) (mT (Aj 4) (Ij 0)) ∧ L' 1 = tLen (La 1) (mT (Aj 4) (Ij 0)) ∧ L' 2 = tLen (La 1) (mT (Aj 4) (Ij 0))) ∧ (∀ k, k < 3 → R' k = Ra k ∨ h0 (R' k) = none) ∧ (∀ i, 0 ≤ i → i < 4 → 0 ≤ f i ∧ f i ≤ 10) ∧ TB (mT (Aj 4) (Ij 0)) (tLen (La 1) (mT (Aj 4) (Ij 0))) (nxC (Ij 0) (Ij 2) (Ij 3) (Aj 4)) (fun _ _ => true) (cC (Ij 0) (Aj 4) (Aj 5)) fo lv ca r (24 * r) pp))) := by
  refine Met.ofW (cc := cX2_explore) (maxL := 1) (ret := none) (by decide) rfl ?_
  intro p e s m args below meth c s₁ B hml hv
  obtain ⟨rfl, hk, hW⟩ := hv
  have hx := B.exec
  have hb := B.bytes
  have hr := B.returns
  have hts := atoms_spec (ws := wsX2_explore) B.pre
  have hown : s.vm.findClass RX2 = some m.cls := findClass_of_methodNamed B.named
  have hlocks := B.notSynchronized
  have hfX1 : ∀ w ∈ wsX10, w.before ([.ref o]).toArray s = true := fun w h => hts w (List.mem_cons_of_mem _ (List.mem_append_left _ (List.mem_append_left _ (List.mem_append_right _ h))))
  have hfX2 : ∀ w ∈ wsX20, w.before ([.ref o]).toArray s = true := fun w h => hts w (List.mem_cons_of_mem _ (List.mem_append_left _ (List.mem_append_left _ (List.mem_append_left _ (List.mem_append_right _ h)))))
  have hfX4 : ∀ w ∈ wsX40, w.before ([.ref o]).toArray s = true := fun w h => hts w (List.mem_cons_of_mem _ (List.mem_append_left _ (List.mem_append_right _ h)))
  have hS : va_S (Ab base) s.heap s.heap [] := va_S.rf
  have hl := lv_entry ([.ref o]) (n := 1) (Nat.le_of_ble_eq_true rfl)
  rw [lg_entry_eq]
  generalize (lg_sl ([.ref o]) ++ List.replicate (1 - (lg_sl ([.ref o])).length) Slot.unset).toArray = ls at hl ⊢
  have hl : lv_has ls 1 [(0, .ref o)] := hl
  have hF : Fr (fun q => FP 9 kd2 o R q ∨ FP 7 kd1 (R 1) Rk q ∨ FP 4 kd4 (R 2) Ra q) h0 h0 := Fr.rf
  have hM0 := hM
  have hG0 := hG
  refine lv_aload_n hx hb dX2_explore_0 rfl (lv_at hl 0 rfl) ?_
  refine g_get (ci := 2) (C := RX2) (T := TX2) (N := 9) (v := .int (J (I 6))) hx hb hfX2 (fun _ h9 => h9) hown hk hW hM.1 rfl 6 (by decide) (hts (.fieldLink RX2 42 "JugsAndGlasses$Search" "explored" "Z") (by decide +kernel)) rfl rfl dX2_explore_1 ?_
  refine j_if_ne (x := I 6) (tgt := 35) hx hb ⟨by omega, by omega⟩ dX2_explore_4 (by decide) (fun c_4 => ?_) (fun c_4 => ?_)
  · refine W.widen (k := tCel (La 1) (mT (Aj 4) (Ij 0))) (n := tSlo (La 1) (mT (Aj 4) (Ij 0))) (by first | exact Nat.le_refl _ | exact Nat.zero_le _) (by first | exact Nat.le_refl _ | exact Nat.zero_le _) ?_
    exact g_vret hx hb hr hW hS dX2_explore_35 hlocks (⟨rfl, Or.inl ⟨by omega, rfl⟩⟩)
  · refine lv_aload_n hx hb dX2_explore_7 rfl (lv_at hl 0 rfl) ?_
    refine g_get (ci := 2) (C := RX2) (T := TX2) (N := 9) (v := .ref (R 1)) hx hb hfX2 (fun _ h9 => h9) hown hk hW hM.1 rfl 1 (by decide) (hts (.fieldLink RX2 18 "JugsAndGlasses$Search" "trial" "LJugsAndGlasses$Jugs;") (by decide +kernel)) rfl rfl dX2_explore_8 ?_
    refine lv_aload_n hx hb dX2_explore_11 rfl (lv_at hl 0 rfl) ?_
    refine g_get (ci := 2) (C := RX2) (T := TX2) (N := 9) (v := .ref (R 0)) hx hb hfX2 (fun _ h9 => h9) hown hk hW hM.1 rfl 0 (by decide) (hts (.fieldLink RX2 12 "JugsAndGlasses$Search" "jugs" "LJugsAndGlasses$Jugs;") (by decide +kernel)) rfl rfl dX2_explore_12 ?_
    refine g_callV (As := [.ref (R 0)]) (rest := []) (b := R 1) (ci := 1) (C := RX1) (T := TX1) (N := 7) ⟨hx, hb, hml, hown, hts⟩ (k_liken l g base sa h0 (R 1) Rk Ik Ak (R 0) Rj Ij Aj hJ hG (fun q a b => aGK q b a) hw9.2.1 hw9.2.2.1) (cwV 1 hts gX2_explore_X1_liken rfl rfl rfl (by decide +kernel) ⟨Nat.le_of_ble_eq_true rfl, Nat.le_of_ble_eq_true rfl⟩) hk hW hS hJ.1 rfl rfl hl.1 (Nat.le_of_ble_eq_true rfl) dX2_explore_15 ⟨Nat.zero_le _, Nat.zero_le _⟩ (fun r9 h9 H locs hp hW hS => ?_)
    obtain ⟨rfl, hJ, hF9⟩ := hp
    refine W.widen (k := 0) (n := 0) (Nat.le_refl _) (Nat.le_refl _) ?_
    refine W.eq (g2 := F0 m 18 ls []) rfl ?_
    have hJ := liken_ob hz.1 hz.2.1 hz.2.2.1 hz.2.2.2 hJ
    have hM := hM.fr hF9 aSK
    have hG := hG.fr hF9 aGK
    have hT := hT.fr hF9 aAK
    have hF := hF.tr hF9 (fun q w _ => Or.inr (Or.inl w))
    generalize h9 = h at hJ hM hG hT hF hW
    refine lv_aload_n hx hb dX2_explore_18 rfl (lv_at hl 0 rfl) ?_
    refine g_get (ci := 2) (C := RX2) (T := TX2) (N := 9) (v := .ref (R 2)) hx hb hfX2 (fun _ h9 => h9) hown hk hW hM.1 rfl 2 (by decide) (hts (.fieldLink RX2 24 "JugsAndGlasses$Search" "all" "LJugsAndGlasses$Tour;") (by decide +kernel)) rfl rfl dX2_explore_19 ?_
    refine lv_aload_n hx hb dX2_explore_22 rfl (lv_at hl 0 rfl) ?_
    refine g_get (ci := 2) (C := RX2) (T := TX2) (N := 9) (v := .ref (R 1)) hx hb hfX2 (fun _ h9 => h9) hown hk hW hM.1 rfl 1 (by decide) (hts (.fieldLink RX2 18 "JugsAndGlasses$Search" "trial" "LJugsAndGlasses$Jugs;") (by decide +kernel)) rfl rfl dX2_explore_23 ?_
    refine lv_null hx hb dX2_explore_26 ?_
    refine g_callV (As := [.ref (R 1), .null]) (rest := []) (b := R 2) (ci := 4) (C := RX4) (T := TX4) (N := 4) ⟨hx, hb, hml, hown, hts⟩ (t_explore0 l g base sa h (R 2) Ra Ia La Aa (R 1) Rk Ij (va_up Aj 5 (cpN 4 (Aj 5) (Ak 5))) (cC (Ij 0) (Aj 4) (Aj 5)) hT hJ hL (Wok_up hw9 (cp_r hw9.2.2.2.2.2)) (x0_eq hw9 _) (cC_r hw9.1 hv9) aAK) (cwV 2 hts gX2_explore_X4_walk rfl rfl rfl (by decide +kernel) ⟨Nat.le_of_ble_eq_true rfl, Nat.le_of_ble_eq_true rfl⟩) hk hW hS hT.1 rfl rfl hl.1 (Nat.le_of_ble_eq_true rfl) dX2_explore_27 ⟨Nat.le_of_eq (Nat.zero_add _), Nat.le_of_eq (Nat.zero_add _)⟩ (fun r9 h9 H locs hp hW hS => ?_)
    have hp : r9 = none ∧ Fr (fun q => FP 4 kd4 (R 2) Ra q ∨ FP 7 kd1 (R 1) Rk q) h h9 ∧ ∃ R' L' fo lv ca r pp f, OB g 4 4 kd4 h9 (R 2) R' (va_up Ia 3 r) L' (va_up (va_up (va_up (fun _ _ => 0) 0 fo) 1 lv) 2 ca) ∧ OB g 1 7 kd1 h9 (R 1) Rk Ij L4 (va_up (va_up Aj 5 (cpN 4 (Aj 5) (Ak 5))) 5 f) ∧ (L' 0 = tLen (La 1) (mT (Aj 4) (Ij 0)) ∧ L' 1 = tLen (La 1) (mT (Aj 4) (Ij 0)) ∧ L' 2 = tLen (La 1) (mT (Aj 4) (Ij 0))) ∧ (∀ k, k < 3 → R' k = Ra k ∨ h (R' k) = none) ∧ (∀ i, 0 ≤ i → i < 4 → 0 ≤ f i ∧ f i ≤ 10) ∧ TB (mT (Aj 4) (Ij 0)) (tLen (La 1) (mT (Aj 4) (Ij 0))) (nxC (Ij 0) (Ij 2) (Ij 3) (Aj 4)) (fun _ _ => true) (cC (Ij 0) (Aj 4) (Aj 5)) fo lv ca r (24 * r) pp := hp
    obtain ⟨rfl, hF9, Ra2, La2, fo, lv, ca, r, pp, f, hT, hJ, hl9, hR1, hfr, hTB⟩ := hp
    refine W.widen (k := tCel (La 1) (mT (Aj 4) (Ij 0))) (n := tSlo (La 1) (mT (Aj 4) (Ij 0))) (Nat.le_of_eq (Nat.zero_add _)) (Nat.le_of_eq (Nat.zero_add _)) ?_
    refine W.eq (g2 := F0 m 30 ls []) rfl ?_
    have hM := hM.fr hF9 (fun q a b => by rcases b with b | b; exact aSA q a b; exact aSK q a b)
    have hG := hG.fr hF9 (fun q a b => by rcases b with b | b; exact aGA q a b; exact aGK q a b)
    have hR2 : ∀ k, k < 3 → Ra2 k = Ra k ∨ h0 (Ra2 k) = none := fun k hk9 => (hR1 k hk9).imp id (fun w => hF.none w)
    have hF := hF.tr hF9 (fun q w _ => by rcases w with w | w; exact Or.inr (Or.inr w); exact Or.inr (Or.inl w))
    rw [bx_uu] at hJ
    generalize h9 = h at hM hG hJ hT hF hW
    have aSA2 : ∀ q, FP 9 kd2 o R q → ¬ FP 4 kd4 (R 2) Ra2 q := fun q a b => ap_new hM0 (fun q c d => aSA q d c) hR2 q b a
    refine lv_aload_n hx hb dX2_explore_30 rfl (lv_at hl 0 rfl) ?_
    refine lv_iconst (v := J (1)) hx hb dX2_explore_31 rfl ?_
    refine o_put (I' := (va_up I 6 (1))) (ci := 2) (C := RX2) (T := TX2) (N := 9) (ty := .boolean) hx hb hfX2 (fun _ h9 => h9) tyX2 tyX2_ok nmX2 hown hk hW hS hM hF (Or.inl FP.o) rfl 6 (by decide) rfl (hts (.fieldLink RX2 42 "JugsAndGlasses$Search" "explored" "Z") (by decide +kernel)) rfl rfl (by decide +kernel) (nb_n (Or.inr rfl)) (nb_f (Or.inr rfl)) rfl dX2_explore_32 (fun h H locs hM hF hst hW hS => ?_)
    have hG := hG.fr hst (fun q h1 h2 => (fun q a b => aGS q a b) q h1 (by rw [h2]; exact FP.o))
    have hJ := hJ.fr hst (fun q h1 h2 => (fun q a b => aSK q b a) q h1 (by rw [h2]; exact FP.o))
    have hT := hT.fr hst (fun q h1 h2 => (fun q a (b : FP 9 kd2 o R q) => aSA2 q b a) q h1 (by rw [h2]; exact FP.o))
    refine W.widen (k := tCel (La 1) (mT (Aj 4) (Ij 0))) (n := tSlo (La 1) (mT (Aj 4) (Ij 0))) (by first | exact Nat.le_refl _ | exact Nat.zero_le _) (by first | exact Nat.le_refl _ | exact Nat.zero_le _) ?_
    exact g_vret hx hb hr hW hS dX2_explore_35 hlocks (⟨rfl, Or.inr ⟨by omega, hF, Ra2, La2, fo, lv, ca, r, pp, f, hM, hG, hJ, hT, hl9, hR2, hfr, hTB⟩⟩)
