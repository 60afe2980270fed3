def sLen (M cd : Int) : Int := if M < cd then cd else M
def sCel (M cd : Int) : Nat := if M < cd then 2 else 0
def sSlo (M cd : Int) : Nat := if M < cd then 2 * cd.toNat else 0
/-- an object's cells and another's are apart, also when some of them are new -/
theorem ap_nw {g : GX} {ci N : Nat} {kd : Nat → Nat} {h0 : Hp} {oj : Nat} {Rj : Nat → Nat} {Ij : Nat → Int} {Lj : Nat → Int} {Aj : Nat → Int → Int} (hJ : OB g ci N kd h0 oj Rj Ij Lj Aj) {N' : Nat} {kd' : Nat → Nat} {o : Nat} {R R1 : Nat → Nat} (hap : ∀ q, FP N' kd' o R q → ¬ FP N kd oj Rj q) (hR : ∀ k, k < N' → isA kd' k → R1 k = R k ∨ h0 (R1 k) = none) : ∀ q, FP N' kd' o R1 q → ¬ FP N kd oj Rj q := by
  intro q hq hj
  have hlive : h0 q ≠ none := by
    rcases hj with w | ⟨k, k1, k2, w⟩
    · rw [w, hJ.1]; exact fun z => by cases z
    · rw [w, hJ.2.1 k k1 k2]; exact fun z => by cases z
  rcases hq with w | ⟨k, k1, k2, w⟩
  · exact hap q (Or.inl w) hj
  · rcases hR k k1 k2 with e | e
    · exact hap q (Or.inr ⟨k, k1, k2, by rw [w, e]⟩) hj
    · exact hlive (by rw [w]; exact e)
theorem Wok_up {I : Nat → Int} {A : Nat → Int → Int} {f : Int → Int} (h : Wok I A) (hf : ∀ i, 0 ≤ i → i < 4 → 0 ≤ f i ∧ f i ≤ 10) : Wok I (va_up A 5 f) := ⟨h.1, h.2.1, h.2.2.1, h.2.2.2.1, h.2.2.2.2.1, hf⟩
theorem spC_r {n : Int} {sz : Int → Int} (h : Rm n sz) {x a : Int} (ha : p_act n a) : 0 ≤ spC sz x a ∧ spC sz x a ≤ 10 := by
  rw [← spC_eq (hd := fun _ => 0) ha]
  exact spilt_r (stand_r h (fun _ _ _ => by omega) x) a
theorem spC_r10 {n tp dr : Int} {sz : Int → Int} (h : Rm n sz) {x a : Int} (hn : nxC n tp dr sz x a ≠ x) : spC sz x a ≤ 10 := (spC_r h (nxC_act hn)).2
theorem spill_ob {g : GX} {h : Hp} {o : Nat} {R : Nat → Nat} {I : Nat → Int} {L : Nat → Int} {A : Nat → Int → Int} {le wk : Int → Int} (hM : OB g 3 2 kd3 h o R I L (va_up (va_up A 0 le) 1 wk)) : OB g 3 2 kd3 h o R I L (va_up (va_up (fun _ _ => 0) 0 le) 1 wk) := by
  refine ⟨hM.1, fun k hk ha => ?_, hM.2.2⟩
  have := hM.2.1 k hk ha
  rw [this]
  match k, hk with
  | 0, _ => rfl
  | 1, _ => rfl

set_option maxHeartbeats 4000000 in
set_option maxRecDepth 100000 in
theorem s_measure (l : Launch) (g : GX) (base : Nat) (sa : Nat → Nat) (h0 : Hp) (o : Nat) (R : Nat → Nat) (I : Nat → Int) (L : Nat → Int) (A : Nat → Int → Int) (oj : Nat) (Rj : Nat → Nat) (Ij : Nat → Int) (Aj : Nat → Int → Int) (ot : Nat) (Rt : Nat → Nat) (It : Nat → Int) (Lt : Nat → Int) (At : Nat → Int → Int) (x0 : Int) (pp : Int → Int) (hM : OB g 3 2 kd3 h0 o R I L A) (hJ : OB g 1 7 kd1 h0 oj Rj Ij L4 Aj) (hT : OB g 4 4 kd4 h0 ot Rt It Lt At) (hw9 : Wok Ij Aj) (ex0 : x0 = sT (fun j => Aj 5 j * Aj 6 j) (Ij 0)) (hx0 : 0 ≤ x0 ∧ x0 < mT (Aj 4) (Ij 0)) (hSJ : ∀ q, FP 2 kd3 o R q → ¬ FP 7 kd1 oj Rj q) (hST : ∀ q, FP 2 kd3 o R q → ¬ FP 4 kd4 ot Rt q) (hTJ : ∀ q, FP 4 kd4 ot Rt q → ¬ FP 7 kd1 oj Rj q) (hL : 0 ≤ L 0 ∧ L 0 ≤ 14641 ∧ L 1 = L 0) (hLt : mT (Aj 4) (Ij 0) ≤ Lt 1 ∧ Lt 1 ≤ 14641 ∧ Lt 0 = Lt 1) (hTB : TB (mT (Aj 4) (Ij 0)) (Lt 1) (nxC (Ij 0) (Ij 2) (Ij 3) (Aj 4)) (fun _ _ => true) x0 (At 0) (At 1) (At 2) (It 3) (24 * It 3) pp) : MC l g base sa yX3_measure wsX3_measure ({ frames := 3, cells := sCel (L 0) (Lt 1), slots := sSlo (L 0) (Lt 1), locals := 78 }) ([.ref o, .ref oj, .ref ot]) h0 (fun r h' => r = none ∧ Fr (fun q => FP 2 kd3 o R q ∨ FP 7 kd1 oj Rj q) h0 h' ∧ ∃ R' L' le wk f, OB g 3 2 kd3 h' o R' I L' (va_up (va_up (fun _ _ => 0) 0 le) 1 wk) ∧ OB g 1 7 kd1 h' oj Rj Ij L4 (va_up Aj 5 f) ∧ (L' 0 = sLen (L 0) (Lt 1) ∧ L' 1 = sLen (L 0) (Lt 1)) ∧ (∀ k, k < 2 → R' k = R k ∨ h0 (R' k) = none) ∧ (∀ i, 0 ≤ i → i < 4 → 0 ≤ f i ∧ f i ≤ 10) ∧ LZ (mT (Aj 4) (Ij 0)) (sLen (L 0) (Lt 1)) (nxC (Ij 0) (Ij 2) (Ij 3) (Aj 4)) (spC (Aj 4)) x0 le) := by
  refine Met.ofW (cc := cX3_measure) (maxL := 6) (ret := none) (by decide) rfl ?_
  intro p e s m args below meth c s₁ B hml hv
  obtain ⟨rfl, hk, hW⟩ := hv
  have hx := B.exec
  have hb := B.bytes
  have hr := B.returns
  have hts := atoms_spec (ws := wsX3_measure) B.pre
  have hown : s.vm.findClass RX3 = some m.cls := findClass_of_methodNamed B.named
  have hlocks := B.notSynchronized
  have hfX1 : ∀ w ∈ wsX10, w.before ([.ref o, .ref oj, .ref ot]).toArray s = true := fun w h => hts w (List.mem_cons_of_mem _ (List.mem_append_right _ h))
  have hfX3 : ∀ w ∈ wsX30, w.before ([.ref o, .ref oj, .ref ot]).toArray s = true := fun w h => hts w (List.mem_cons_of_mem _ (List.mem_append_left _ (List.mem_append_left _ (List.mem_append_right _ h))))
  have hfX4 : ∀ w ∈ wsX40, w.before ([.ref o, .ref oj, .ref ot]).toArray s = true := fun w h => hts w (List.mem_cons_of_mem _ (List.mem_append_left _ (List.mem_append_right _ h)))
  have hS : va_S (Ab base) s.heap s.heap [] := va_S.rf
  have hl := lv_entry ([.ref o, .ref oj, .ref ot]) (n := 6) (Nat.le_of_ble_eq_true rfl)
  rw [lg_entry_eq]
  generalize (lg_sl ([.ref o, .ref oj, .ref ot]) ++ List.replicate (6 - (lg_sl ([.ref o, .ref oj, .ref ot])).length) Slot.unset).toArray = ls at hl ⊢
  have hl : lv_has ls 6 [(0, .ref o), (1, .ref oj), (2, .ref ot)] := hl
  have hF : Fr (fun q => FP 2 kd3 o R q ∨ FP 7 kd1 oj Rj q ∨ h0 q = none) h0 h0 := Fr.rf
  obtain ⟨hw1, hw2, hw3, hw4, hw5, hw6⟩ := id hw9
  have hmr := mT_r hw1
  have hJ0 := hJ
  have hT0 := hT
  have hrr := hTB.1
  have hrN := hTB.2.1
  have hsL : sLen (L 0) (Lt 1) = if L 0 < Lt 1 then Lt 1 else L 0 := rfl
  have cut_35 : ∀ (R1 : Nat → Nat) (L1 : Nat → Int) (A1 : Nat → Int → Int) (h : Hp) (H : Heap) (locs : List Loc) (ls : Array Slot), (L1 0 = sLen (L 0) (Lt 1) ∧ L1 1 = sLen (L 0) (Lt 1)) → (∀ k, k < 2 → R1 k = R k ∨ h0 (R1 k) = none) → (OB g 3 2 kd3 h o R1 I L1 A1) → (OB g 1 7 kd1 h oj Rj Ij L4 Aj) → (OB g 4 4 kd4 h ot Rt It Lt At) → (Fr (fun q => FP 2 kd3 o R q ∨ FP 7 kd1 oj Rj q ∨ h0 q = none) h0 h) → (Wd g base h H) → (va_S (Ab base) s.heap H locs) → (lv_has ls 6 [(0, .ref o), (1, .ref oj), (2, .ref ot)]) → W p l e (headSpec wsX3_measure ({ frames := 3, cells := sCel (L 0) (Lt 1), slots := sSlo (L 0) (Lt 1), locals := 78 })).room s m ([.ref o, .ref oj, .ref ot]).toArray below meth c H locs (sCel (L 0) (Lt 1)) (sSlo (L 0) (Lt 1)) (MQ below (QcM g base (fun r h' => r = none ∧ Fr (fun q => FP 2 kd3 o R q ∨ FP 7 kd1 oj Rj q) h0 h' ∧ ∃ R' L' le wk f, OB g 3 2 kd3 h' o R' I L' (va_up (va_up (fun _ _ => 0) 0 le) 1 wk) ∧ OB g 1 7 kd1 h' oj Rj Ij L4 (va_up Aj 5 f) ∧ (L' 0 = sLen (L 0) (Lt 1) ∧ L' 1 = sLen (L 0) (Lt 1)) ∧ (∀ k, k < 2 → R' k = R k ∨ h0 (R' k) = none) ∧ (∀ i, 0 ≤ i → i < 4 → 0 ≤ f i ∧ f i ≤ 10) ∧ LZ (mT (Aj 4) (Ij 0)) (sLen (L 0) (Lt 1)) (nxC (Ij 0) (Ij 2) (Ij 3) (Aj 4)) (spC (Aj 4)) x0 le)) ([.ref o, .ref oj, .ref ot]).toArray s (sCel (L 0) (Lt 1)) (sSlo (L 0) (Lt 1)) (Ab base)) (F0 m 35 ls []) := by
    intro R1 L1 A1 h H locs ls hL1 hR1 hM hJ hT hF hW hS hl
    obtain ⟨hl0, hl1⟩ := hL1
    have hPa : ∀ k, k < 2 → (FP 2 kd3 o R (R1 k) ∨ FP 7 kd1 oj Rj (R1 k) ∨ h0 (R1 k) = none) := fun k hk9 => by
      rcases hR1 k hk9 with w | w
      · rw [w]; exact Or.inl (FP.a k hk9 (by match k, hk9 with | 0, _ => exact ⟨by decide, by decide⟩ | 1, _ => exact ⟨by decide, by decide⟩))
      · exact Or.inr (Or.inr w)
    have hPS : ∀ q, FP 2 kd3 o R1 q → (FP 2 kd3 o R q ∨ FP 7 kd1 oj Rj q ∨ h0 q = none) := fun q w => by
      rcases w with w | ⟨k, k1, k2, w⟩
      · rw [w]; exact Or.inl FP.o
      · rw [w]; exact hPa k k1
    have hSJ1 := ap_nw hJ0 hSJ (fun k a _ => hR1 k a)
    have hST1 := ap_nw hT0 hST (fun k a _ => hR1 k a)
    have hlM : L1 0 ≤ 14641 ∧ mT (Aj 4) (Ij 0) ≤ L1 0 := by rw [hl0, hsL]; split <;> omega
    refine lv_aload_n hx hb dX3_measure_35 rfl (lv_at hl 0 rfl) ?_
    refine g_get (ci := 3) (C := RX3) (T := TX3) (N := 2) (v := .ref (R1 0)) hx hb hfX3 (fun _ h9 => h9) hown hk hW hM.1 rfl 0 (by decide) (hts (.fieldLink RX3 9 "JugsAndGlasses$Spilling" "least" "[I") (by decide +kernel)) rfl rfl dX3_measure_36 ?_
    refine j_ldc (z := 1000000) hx hb (by decide) hown (hts (.constant RX3 23 (1000000)) (by decide +kernel)) dX3_measure_39 ?_
    refine g_callS (As := [.ref (R1 0), .int (J 1000000)]) (rest := []) ⟨hx, hb, hml, hown, hts⟩ (k_fill l g base sa h (R1 0) (L1 0) (1000000) (A1 0) (hM.ai 0 (by decide) rfl) ⟨by omega, by omega⟩) (va_cwS 2 hts gX3_measure_J7_fill_53178 rfl rfl rfl (by decide +kernel) ⟨Nat.le_of_ble_eq_true rfl, Nat.le_of_ble_eq_true rfl⟩) hk hW hS rfl hl.1 (Nat.le_of_ble_eq_true rfl) dX3_measure_41 ⟨Nat.le_refl _, Nat.le_refl _⟩ (fun r9 h9 H locs hp hW hS => ?_)
    obtain ⟨rfl, e9⟩ := hp
    refine W.widen (k := sCel (L 0) (Lt 1)) (n := sSlo (L 0) (Lt 1)) (Nat.le_refl _) (Nat.le_refl _) ?_
    refine W.eq (g2 := F0 m 44 ls []) rfl ?_
    rw [e9] at hW
    have hJ : OB g 1 7 kd1 (uh h (R1 0) (ai g (L1 0) (cpN (L1 0) (fun _ => 1000000) (A1 0)))) oj Rj Ij L4 Aj := hJ.fr (P := fun z => z = R1 0) Fr.one (fun w h1 h2 => (fun q a (b : FP 2 kd3 o R1 q) => hSJ1 q b a) w h1 (by rw [h2]; exact FP.a 0 (by decide) ⟨by decide, by decide⟩))
    have hT : OB g 4 4 kd4 (uh h (R1 0) (ai g (L1 0) (cpN (L1 0) (fun _ => 1000000) (A1 0)))) ot Rt It Lt At := hT.fr (P := fun z => z = R1 0) Fr.one (fun w h1 h2 => (fun q a (b : FP 2 kd3 o R1 q) => hST1 q b a) w h1 (by rw [h2]; exact FP.a 0 (by decide) ⟨by decide, by decide⟩))
    have hM := fill_ob hM 0 (by decide) rfl (v := 1000000)
    have hF := Fr.set (e := (ai g (L1 0) (cpN (L1 0) (fun _ => 1000000) (A1 0)))) hF (hPa 0 (by decide))
    have hW : Wd g base (uh h (R1 0) (ai g (L1 0) (cpN (L1 0) (fun _ => 1000000) (A1 0)))) H := hW
    generalize uh h (R1 0) (ai g (L1 0) (cpN (L1 0) (fun _ => 1000000) (A1 0))) = h at hM hJ hT hW hF
    have hM : OB g 3 2 kd3 h o R1 I L1 (va_up A1 0 (cpN (L1 0) (fun _ => 1000000) (A1 0))) := hM
    refine lv_aload_n hx hb dX3_measure_44 rfl (lv_at hl 1 rfl) ?_
    refine g_callV (As := []) (rest := []) (b := oj) (ci := 1) (C := RX1) (T := TX1) (N := 7) ⟨hx, hb, hml, hown, hts⟩ (k_code l g base sa h oj Rj Ij Aj hJ ⟨hw1.1, hw1.2.1⟩) (cwV 0 hts gX3_measure_X1_code rfl rfl rfl (by decide +kernel) ⟨Nat.le_of_ble_eq_true rfl, Nat.le_of_ble_eq_true rfl⟩) hk hW hS hJ.1 rfl rfl hl.1 (Nat.le_of_ble_eq_true rfl) dX3_measure_45 ⟨Nat.le_refl _, Nat.le_refl _⟩ (fun r9 h9 H locs hp hW hS => ?_)
    rw [← ex0] at hp
    obtain ⟨rfl, e9⟩ := hp
    rw [e9] at hW
    refine W.widen (k := sCel (L 0) (Lt 1)) (n := sSlo (L 0) (Lt 1)) (Nat.le_refl _) (Nat.le_refl _) ?_
    refine W.eq (g2 := F0 m 48 ls [.int (J x0)]) rfl ?_
    refine lv_istore_n (lv' := [(3, .int (J x0)), (0, .ref o), (1, .ref oj), (2, .ref ot)]) hx hb dX3_measure_48 rfl hl (by decide) rfl (fun ls hl => ?_)
    refine lv_iload_n hx hb dX3_measure_49 rfl (lv_at hl 0 rfl) ?_
    refine j_if_lt (x := x0) (tgt := 69) hx hb ⟨by omega, by omega⟩ dX3_measure_50 (by decide) (fun c_50 => ?_) (fun c_50 => ?_)
    · exfalso
      omega
    · refine lv_iload_n hx hb dX3_measure_53 rfl (lv_at hl 0 rfl) ?_
      refine lv_aload_n hx hb dX3_measure_54 rfl (lv_at hl 1 rfl) ?_
      refine g_get (ci := 3) (C := RX3) (T := TX3) (N := 2) (v := .ref (R1 0)) hx hb hfX3 (fun _ h9 => h9) hown hk hW hM.1 rfl 0 (by decide) (hts (.fieldLink RX3 9 "JugsAndGlasses$Spilling" "least" "[I") (by decide +kernel)) rfl rfl dX3_measure_55 ?_
      refine g_alen (n := L1 0) hx hb hk hW (hM.ai 0 (by decide) rfl) (by omega) dX3_measure_58 ?_
      refine j_icmp_ge (x := x0) (y := L1 0) (tgt := 69) hx hb ⟨by omega, by omega⟩ ⟨by omega, by omega⟩ dX3_measure_59 (by decide) (fun c_59 => ?_) (fun c_59 => ?_)
      · exfalso
        omega
      · refine lv_aload_n hx hb dX3_measure_62 rfl (lv_at hl 1 rfl) ?_
        refine g_get (ci := 3) (C := RX3) (T := TX3) (N := 2) (v := .ref (R1 0)) hx hb hfX3 (fun _ h9 => h9) hown hk hW hM.1 rfl 0 (by decide) (hts (.fieldLink RX3 9 "JugsAndGlasses$Spilling" "least" "[I") (by decide +kernel)) rfl rfl dX3_measure_63 ?_
        refine lv_iload_n hx hb dX3_measure_66 rfl (lv_at hl 0 rfl) ?_
        refine lv_iconst (v := J (0)) hx hb dX3_measure_67 rfl ?_
        refine o_iast (A' := (va_up A1 0 (uf (cpN (L1 0) (fun _ => 1000000) (A1 0)) x0 0))) (i := x0) (x := 0) hx hb hk hW hS hM hF 0 (by decide) rfl (hPa 0 (by decide)) (by omega) (show x0 < L1 0 from by omega) (show L1 0 < 2147483648 from by omega) (bx_uu _ _ _ _) dX3_measure_68 (fun h H locs hM hF hst hW hS => ?_)
        have hJ := hJ.fr hst (fun q h1 h2 => (fun q a (b : FP 2 kd3 o R1 q) => hSJ1 q b a) q h1 (by rw [h2]; exact FP.a 0 (by decide) ⟨by decide, by decide⟩))
        have hT := hT.fr hst (fun q h1 h2 => (fun q a (b : FP 2 kd3 o R1 q) => hST1 q b a) q h1 (by rw [h2]; exact FP.a 0 (by decide) ⟨by decide, by decide⟩))
        refine lv_iconst (v := J (0)) hx hb dX3_measure_69 rfl ?_
        refine lv_istore (lv' := [(4, .int (J 0)), (3, .int (J x0)), (0, .ref o), (1, .ref oj), (2, .ref ot)]) hx hb dX3_measure_70 hl (by decide) rfl (fun ls hl => ?_)
        refine lv_iconst (v := J (0)) hx hb dX3_measure_72 rfl ?_
        refine lv_istore (lv' := [(5, .int (J 0)), (4, .int (J 0)), (3, .int (J x0)), (0, .ref o), (1, .ref oj), (2, .ref ot)]) hx hb dX3_measure_73 hl (by decide) rfl (fun ls hl => ?_)
        have hM : OB g 3 2 kd3 h o R1 I L1 (va_up (va_up A1 0 (uf (cpN (L1 0) (fun _ => 1000000) (A1 0)) x0 0)) 1 (A1 1)) := by
          have e9 : (va_up A1 0 (uf (cpN (L1 0) (fun _ => 1000000) (A1 0)) x0 0)) = (va_up (va_up A1 0 (uf (cpN (L1 0) (fun _ => 1000000) (A1 0)) x0 0)) 1 (A1 1)) := by funext q9; by_cases w0 : q9 = 0 <;> by_cases w1 : q9 = 1 <;> simp [va_up, w0, w1]
          rw [← e9]
          exact hM
        have loop_75 : ∀ (n9 : Nat) (sg : Int) (sd : Int) (le : Int → Int) (wk : Int → Int) (f : Int → Int) (G : Int → Int) (h : Hp) (H : Heap) (locs : List Loc) (ls : Array Slot), 1000000 - sg < (n9 : Int) → (0 ≤ sg ∧ sg ≤ 1000000) → (0 ≤ sd ∧ sd ≤ mT (Aj 4) (Ij 0) + mT (Aj 4) (Ij 0)) → (∀ i, 0 ≤ i → i < 4 → 0 ≤ f i ∧ f i ≤ 10) → (ME (mT (Aj 4) (Ij 0)) (L1 0) (nxC (Ij 0) (Ij 2) (Ij 3) (Aj 4)) (spC (Aj 4)) x0 sg le sd G) → (OB g 3 2 kd3 h o R1 I L1 (va_up (va_up A1 0 (le)) 1 (wk))) → (OB g 1 7 kd1 h oj Rj Ij L4 (va_up Aj 5 (f))) → (OB g 4 4 kd4 h ot Rt It Lt At) → (Fr (fun q => FP 2 kd3 o R q ∨ FP 7 kd1 oj Rj q ∨ h0 q = none) h0 h) → (Wd g base h H) → (va_S (Ab base) s.heap H locs) → (lv_has ls 6 [(0, .ref o), (1, .ref oj), (2, .ref ot), (4, .int (J sd)), (5, .int (J sg))]) → W p l e (headSpec wsX3_measure ({ frames := 3, cells := sCel (L 0) (Lt 1), slots := sSlo (L 0) (Lt 1), locals := 78 })).room s m ([.ref o, .ref oj, .ref ot]).toArray below meth c H locs (sCel (L 0) (Lt 1)) (sSlo (L 0) (Lt 1)) (MQ below (QcM g base (fun r h' => r = none ∧ Fr (fun q => FP 2 kd3 o R q ∨ FP 7 kd1 oj Rj q) h0 h' ∧ ∃ R' L' le wk f, OB g 3 2 kd3 h' o R' I L' (va_up (va_up (fun _ _ => 0) 0 le) 1 wk) ∧ OB g 1 7 kd1 h' oj Rj Ij L4 (va_up Aj 5 f) ∧ (L' 0 = sLen (L 0) (Lt 1) ∧ L' 1 = sLen (L 0) (Lt 1)) ∧ (∀ k, k < 2 → R' k = R k ∨ h0 (R' k) = none) ∧ (∀ i, 0 ≤ i → i < 4 → 0 ≤ f i ∧ f i ≤ 10) ∧ LZ (mT (Aj 4) (Ij 0)) (sLen (L 0) (Lt 1)) (nxC (Ij 0) (Ij 2) (Ij 3) (Aj 4)) (spC (Aj 4)) x0 le)) ([.ref o, .ref oj, .ref ot]).toArray s (sCel (L 0) (Lt 1)) (sSlo (L 0) (Lt 1)) (Ab base)) (F0 m 75 ls []) := by
          intro n9
          induction n9 with
          | zero =>
            intro sg sd le wk f G h H locs ls hmu hsg hsd hfr hME hM hJ hT hF hW hS hl
            exact absurd hmu (by omega)
          | succ n9 ih =>
            intro sg sd le wk f G h H locs ls hmu hsg hsd hfr hME hM hJ hT hF hW hS hl
            have ih_75 := ih
            refine lv_iload hx hb dX3_measure_75 (lv_at hl 4 rfl) ?_
            refine j_ldc (z := 1000000) hx hb (by decide) hown (hts (.constant RX3 23 (1000000)) (by decide +kernel)) dX3_measure_77 ?_
            refine j_icmp_ge (x := sg) (y := 1000000) (tgt := 110) hx hb ⟨by omega, by omega⟩ ⟨by decide, by decide⟩ dX3_measure_79 (by decide) (fun c_79 => ?_) (fun c_79 => ?_)
            · refine W.widen (k := sCel (L 0) (Lt 1)) (n := sSlo (L 0) (Lt 1)) (Nat.le_refl _) (Nat.le_refl _) ?_
              exact g_vret hx hb hr hW hS dX3_measure_110 hlocks (⟨rfl, ⟨fun q e9 h1 h2 => hF.1 q e9 h1 (fun w => by rcases w with w | w | w; exact h2 (Or.inl w); exact h2 (Or.inr w); (rw [h1] at w; cases w)), hF.2⟩, R1, L1, le, wk, f, spill_ob hM, hJ, ⟨hl0, hl1⟩, hR1, hfr, by rw [← hl0]; exact LZ_of (fun y b => spC_r10 hw1) hmr.2 hTB hME (by omega)⟩)
            · refine lv_iload hx hb dX3_measure_82 (lv_at hl 3 rfl) ?_
              refine lv_aload_n hx hb dX3_measure_84 rfl (lv_at hl 2 rfl) ?_
              refine g_get (ci := 4) (C := RX4) (T := TX4) (N := 4) (v := .int (J (It 3))) hx hb hfX4 (fun _ h9 => h9) hown hk hW hT.1 rfl 3 (by decide) (hts (.fieldLink RX3 36 "JugsAndGlasses$Tour" "reached" "I") (by decide +kernel)) rfl rfl dX3_measure_85 ?_
              refine j_icmp_ge (x := sd) (y := It 3) (tgt := 110) hx hb ⟨by omega, by omega⟩ ⟨by omega, by omega⟩ dX3_measure_88 (by decide) (fun c_88 => ?_) (fun c_88 => ?_)
              · refine W.widen (k := sCel (L 0) (Lt 1)) (n := sSlo (L 0) (Lt 1)) (Nat.le_refl _) (Nat.le_refl _) ?_
                exact g_vret hx hb hr hW hS dX3_measure_110 hlocks (⟨rfl, ⟨fun q e9 h1 h2 => hF.1 q e9 h1 (fun w => by rcases w with w | w | w; exact h2 (Or.inl w); exact h2 (Or.inr w); (rw [h1] at w; cases w)), hF.2⟩, R1, L1, le, wk, f, spill_ob hM, hJ, ⟨hl0, hl1⟩, hR1, hfr, by rw [← hl0]; exact LZ_of (fun y b => spC_r10 hw1) hmr.2 hTB hME (by omega)⟩)
              · refine lv_iload hx hb dX3_measure_91 (lv_at hl 3 rfl) ?_
                refine lv_aload_n hx hb dX3_measure_93 rfl (lv_at hl 0 rfl) ?_
                refine lv_aload_n hx hb dX3_measure_94 rfl (lv_at hl 1 rfl) ?_
                refine lv_aload_n hx hb dX3_measure_95 rfl (lv_at hl 2 rfl) ?_
                refine lv_iload hx hb dX3_measure_96 (lv_at hl 4 rfl) ?_
                refine g_callV (As := [.ref oj, .ref ot, .int (J sg)]) (rest := [.int (J sd)]) (b := o) (ci := 3) (C := RX3) (T := TX3) (N := 2) ⟨hx, hb, hml, hown, hts⟩ (s_settle l g base sa h o R1 I L1 (va_up (va_up A1 0 (le)) 1 (wk)) oj Rj Ij (va_up Aj 5 (f)) ot Rt It Lt At x0 sg hM hJ hT (Wok_up hw9 hfr) hSJ1 (fun q a b => hST1 q b a) hTJ ⟨by show mT (Aj 4) (Ij 0) ≤ _; omega, by omega, by omega⟩ (by omega) ⟨by omega, by show _ ≤ mT (Aj 4) (Ij 0); omega, by omega⟩ (fun k a b => ⟨(hTB.2.2.2.2.1 k a b).1, (hTB.2.2.2.2.1 k a b).2.1⟩) hTB.2.2.2.2.2.2.1 (by have := ME_few (fun y b => spC_r10 hw1) hmr.2 hTB hME (by omega); omega) hME.2.2.1 hME.2.2.2.1 (fun y y0 y1 y2 => by obtain ⟨l9, hl9⟩ := hME.2.2.2.1 y y0 y1 y2; exact PS_found0 hTB hl9)) (cwV 3 hts gX3_measure_X3_settle rfl rfl rfl (by decide +kernel) ⟨Nat.le_of_ble_eq_true rfl, Nat.le_of_ble_eq_true rfl⟩) hk hW hS hM.1 rfl rfl hl.1 (Nat.le_of_ble_eq_true rfl) dX3_measure_98 ⟨Nat.le_refl _, Nat.le_refl _⟩ (fun r9 h9 H locs hp hW hS => ?_)
                have hp : ∃ w le2 wk2 f2, r9 = some (.int (J w)) ∧ Fr (fun q => FP 2 kd3 o R1 q ∨ FP 7 kd1 oj Rj q) h h9 ∧ OB g 3 2 kd3 h9 o R1 I L1 (va_up (va_up (va_up (va_up A1 0 le) 1 wk) 0 le2) 1 wk2) ∧ OB g 1 7 kd1 h9 oj Rj Ij L4 (va_up (va_up Aj 5 f) 5 f2) ∧ (∀ i, 0 ≤ i → i < 4 → 0 ≤ f2 i ∧ f2 i ≤ 10) ∧ SQ (mT (Aj 4) (Ij 0)) (L1 0) (nxC (Ij 0) (Ij 2) (Ij 3) (Aj 4)) (spC (Aj 4)) x0 sg le le2 wk2 w (24 * w) := hp
                obtain ⟨w, le2, wk2, f2, rfl, hF9, hM, hJ, hfr2, hSQ9⟩ := hp
                refine W.widen (k := sCel (L 0) (Lt 1)) (n := sSlo (L 0) (Lt 1)) (Nat.le_refl _) (Nat.le_refl _) ?_
                refine W.eq (g2 := F0 m 101 ls [.int (J w), .int (J sd)]) rfl ?_
                have hT := hT.fr hF9 (fun q h1 h2 => by rcases h2 with w | w; exact hST1 q w h1; exact hTJ q h1 w)
                have hF := hF.tr hF9 (fun q w _ => by rcases w with w | w; exact hPS q w; exact Or.inr (Or.inl w))
                rw [bx_uu] at hJ
                generalize h9 = h at hM hT hJ hF hW
                have hM : OB g 3 2 kd3 h o R1 I L1 (va_up (va_up A1 0 (le2)) 1 (wk2)) := by
                  have e9 : (va_up (va_up (va_up (va_up A1 0 (le)) 1 (wk)) 0 (le2)) 1 (wk2)) = (va_up (va_up A1 0 (le2)) 1 (wk2)) := by funext q9; by_cases w0 : q9 = 0 <;> by_cases w1 : q9 = 1 <;> simp [va_up, w0, w1]
                  rw [← e9]
                  exact hM
                have hME2 := ME_s (N := mT (Aj 4) (Ij 0)) (M := L1 0) hx0.1 hx0.2 (by omega) (fun y b y0 y1 => nxC_r hw1 y0 y1 b) hME hSQ9
                have hsdN := ME_few (fun y b => spC_r10 hw1) hmr.2 hTB hME (by omega)
                have hw0 := hSQ9.1
                have hw1' := hSQ9.2.1
                refine j_iadd hx hb dX3_measure_101 ?_
                refine lv_istore (lv' := [(4, .int (J (sd + w))), (0, .ref o), (1, .ref oj), (2, .ref ot), (5, .int (J sg))]) hx hb dX3_measure_102 hl (by decide) rfl (fun ls hl => ?_)
                refine lv_iinc (v := J (sg + 1)) (lv' := [(5, .int (J (sg + 1))), (4, .int (J (sd + w))), (0, .ref o), (1, .ref oj), (2, .ref ot)]) hx hb dX3_measure_104 hl (k := 4) rfl (J_inc (by omega)) (by decide) rfl (fun ls hl => ?_)
                refine lv_goto (tgt := 75) hx hb dX3_measure_107 (by decide) ?_
                exact ih_75 (sg + 1) (sd + w) le2 wk2 f2 (fun j => if j < sd then G j else wk2 (j - sd)) h H locs ls (by omega) (by omega) (by omega) hfr2 hME2 hM hJ hT hF hW hS (lv_sub hl [2, 3, 4, 1, 0] rfl)
        exact loop_75 1000001 0 0 (uf (cpN (L1 0) (fun _ => 1000000) (A1 0)) x0 0) (A1 1) (Aj 5) (fun _ => 0) h H locs ls (by omega) (by omega) (by omega) hw6 (ME_0 hx0.1 hx0.2 (by omega) (fun j j0 j1 => by unfold uf; split; rfl; exact cpN_in j0 (by omega))) hM (by rw [va_up_id]; exact hJ) hT hF hW hS (lv_sub hl [3, 4, 5, 1, 0] rfl)
  refine lv_aload_n hx hb dX3_measure_0 rfl (lv_at hl 0 rfl) ?_
  refine g_get (ci := 3) (C := RX3) (T := TX3) (N := 2) (v := .ref (R 0)) hx hb hfX3 (fun _ h9 => h9) hown hk hW hM.1 rfl 0 (by decide) (hts (.fieldLink RX3 9 "JugsAndGlasses$Spilling" "least" "[I") (by decide +kernel)) rfl rfl dX3_measure_1 ?_
  refine g_alen (n := L 0) hx hb hk hW (hM.ai 0 (by decide) rfl) (by omega) dX3_measure_4 ?_
  refine lv_aload_n hx hb dX3_measure_5 rfl (lv_at hl 2 rfl) ?_
  refine g_get (ci := 4) (C := RX4) (T := TX4) (N := 4) (v := .ref (Rt 1)) hx hb hfX4 (fun _ h9 => h9) hown hk hW hT.1 rfl 1 (by decide) (hts (.fieldLink RX3 18 "JugsAndGlasses$Tour" "level" "[I") (by decide +kernel)) rfl rfl dX3_measure_6 ?_
  refine g_alen (n := Lt 1) hx hb hk hW (hT.ai 1 (by decide) rfl) (by omega) dX3_measure_9 ?_
  refine j_icmp_ge (x := L 0) (y := Lt 1) (tgt := 35) hx hb ⟨by omega, by omega⟩ ⟨by omega, by omega⟩ dX3_measure_10 (by decide) (fun c_10 => ?_) (fun c_10 => ?_)
  · refine W.widen (k := sCel (L 0) (Lt 1)) (n := sSlo (L 0) (Lt 1)) (by unfold sCel; split <;> omega) (by unfold sSlo; split <;> omega) ?_
    exact cut_35 R L A h0 s.heap [] ls (by refine ⟨?_, ?_⟩ <;> (unfold sLen; rw [if_neg (by omega)]) <;> omega) (fun _ _ => Or.inl rfl) hM hJ hT hF hW hS (lv_sub hl [0, 1, 2] rfl)
  · refine lv_aload_n hx hb dX3_measure_13 rfl (lv_at hl 0 rfl) ?_
    refine lv_aload_n hx hb dX3_measure_14 rfl (lv_at hl 2 rfl) ?_
    refine g_get (ci := 4) (C := RX4) (T := TX4) (N := 4) (v := .ref (Rt 1)) hx hb hfX4 (fun _ h9 => h9) hown hk hW hT.1 rfl 1 (by decide) (hts (.fieldLink RX3 18 "JugsAndGlasses$Tour" "level" "[I") (by decide +kernel)) rfl rfl dX3_measure_15 ?_
    refine g_alen (n := Lt 1) hx hb hk hW (hT.ai 1 (by decide) rfl) (by omega) dX3_measure_18 ?_
    refine g_newi (n := Lt 1) hx hb (hts (.arrayClass .int) (by decide +kernel)) hk hW hS (by omega) (by omega) (by show 0 + 1 ≤ sCel (L 0) (Lt 1); unfold sCel; rw [if_pos (by omega)]; omega) (by show 0 + (Lt 1).toNat ≤ sSlo (L 0) (Lt 1); unfold sSlo; rw [if_pos (by omega)]; omega) dX3_measure_19 (fun q19 H hq19 hW hS => ?_)
    have f_q19 : h0 q19 = none := hF.none hq19
    have nq19_hM : ∀ j, j < 2 → isA kd3 j → R j ≠ q19 := fun j a b e => by have w := hM.2.1 j a b; rw [e, hq19] at w; cases w
    have hM := hM.new (e := ai g (Lt 1) (fun _ => 0)) hq19
    have nq19_hJ : ∀ j, j < 7 → isA kd1 j → Rj j ≠ q19 := fun j a b e => by have w := hJ.2.1 j a b; rw [e, hq19] at w; cases w
    have hJ := hJ.new (e := ai g (Lt 1) (fun _ => 0)) hq19
    have nq19_hT : ∀ j, j < 4 → isA kd4 j → Rt j ≠ q19 := fun j a b e => by have w := hT.2.1 j a b; rw [e, hq19] at w; cases w
    have hT := hT.new (e := ai g (Lt 1) (fun _ => 0)) hq19
    have hF := Fr.new (e := ai g (Lt 1) (fun _ => 0)) hF hq19
    have cq19 : uh h0 q19 (ai g (Lt 1) (fun _ => 0)) q19 = some (ai g (Lt 1) (fun _ => 0)) := uh_same _ _ _
    generalize uh h0 q19 (ai g (Lt 1) (fun _ => 0)) = h at hM hJ hT hF hW cq19 
    refine g_put (ci := 3) (C := RX3) (T := TX3) (N := 2) (ty := .array .int) hx hb hfX3 (fun _ h9 => h9) tyX3 tyX3_ok nmX3 hown hk hW hS hM.1 rfl 0 (by decide) (hts (.fieldLink RX3 9 "JugsAndGlasses$Spilling" "least" "[I") (by decide +kernel)) rfl rfl (by decide +kernel) rfl rfl (by rw [fls_len]; decide) dX3_measure_21 (fun H locs hW hS => ?_)
    have hJ : OB g 1 7 kd1 (uh h o (.inr (3, (fls 2 kd3 R I).set 0 (.ref q19)))) oj Rj Ij L4 Aj := hJ.fr (P := fun z => z = o) Fr.one (fun w h1 h2 => (fun q a b => hSJ q b a) w h1 (by rw [h2]; exact FP.o))
    have hT : OB g 4 4 kd4 (uh h o (.inr (3, (fls 2 kd3 R I).set 0 (.ref q19)))) ot Rt It Lt At := hT.fr (P := fun z => z = o) Fr.one (fun w h1 h2 => (fun q a b => hST q b a) w h1 (by rw [h2]; exact FP.o))
    have hM := hM.putr (k := 0) (n := Lt 1) (f := fun _ => 0) ⟨by decide, by decide⟩ cq19 (fun j a b _ => nq19_hM j a b) rfl rfl rfl
    have hF := Fr.set (e := .inr (3, (fls 2 kd3 R I).set 0 (.ref q19))) hF (Or.inl FP.o)
    generalize uh h o (.inr (3, (fls 2 kd3 R I).set 0 (.ref q19))) = h at hM hJ hT hF hW
    refine lv_aload_n hx hb dX3_measure_24 rfl (lv_at hl 0 rfl) ?_
    refine lv_aload_n hx hb dX3_measure_25 rfl (lv_at hl 2 rfl) ?_
    refine g_get (ci := 4) (C := RX4) (T := TX4) (N := 4) (v := .ref (Rt 1)) hx hb hfX4 (fun _ h9 => h9) hown hk hW hT.1 rfl 1 (by decide) (hts (.fieldLink RX3 18 "JugsAndGlasses$Tour" "level" "[I") (by decide +kernel)) rfl rfl dX3_measure_26 ?_
    refine g_alen (n := Lt 1) hx hb hk hW (hT.ai 1 (by decide) rfl) (by omega) dX3_measure_29 ?_
    refine g_newi (n := Lt 1) hx hb (hts (.arrayClass .int) (by decide +kernel)) hk hW hS (by omega) (by omega) (by show 1 + 1 ≤ sCel (L 0) (Lt 1); unfold sCel; rw [if_pos (by omega)]; omega) (by show 0 + (Lt 1).toNat + (Lt 1).toNat ≤ sSlo (L 0) (Lt 1); unfold sSlo; rw [if_pos (by omega)]; omega) dX3_measure_30 (fun q30 H hq30 hW hS => ?_)
    have f_q30 : h0 q30 = none := hF.none hq30
    have nq30_hM : ∀ j, j < 2 → isA kd3 j → (va_up R 0 (q19)) j ≠ q30 := fun j a b e => by have w := hM.2.1 j a b; rw [e, hq30] at w; cases w
    have hM := hM.new (e := ai g (Lt 1) (fun _ => 0)) hq30
    have nq30_hJ : ∀ j, j < 7 → isA kd1 j → Rj j ≠ q30 := fun j a b e => by have w := hJ.2.1 j a b; rw [e, hq30] at w; cases w
    have hJ := hJ.new (e := ai g (Lt 1) (fun _ => 0)) hq30
    have nq30_hT : ∀ j, j < 4 → isA kd4 j → Rt j ≠ q30 := fun j a b e => by have w := hT.2.1 j a b; rw [e, hq30] at w; cases w
    have hT := hT.new (e := ai g (Lt 1) (fun _ => 0)) hq30
    have hF := Fr.new (e := ai g (Lt 1) (fun _ => 0)) hF hq30
    have cq30 : uh h q30 (ai g (Lt 1) (fun _ => 0)) q30 = some (ai g (Lt 1) (fun _ => 0)) := uh_same _ _ _
    generalize uh h q30 (ai g (Lt 1) (fun _ => 0)) = h at hM hJ hT hF hW cq30 
    refine g_put (ci := 3) (C := RX3) (T := TX3) (N := 2) (ty := .array .int) hx hb hfX3 (fun _ h9 => h9) tyX3 tyX3_ok nmX3 hown hk hW hS hM.1 rfl 1 (by decide) (hts (.fieldLink RX3 15 "JugsAndGlasses$Spilling" "work" "[I") (by decide +kernel)) rfl rfl (by decide +kernel) rfl rfl (by rw [fls_len]; decide) dX3_measure_32 (fun H locs hW hS => ?_)
    have hJ : OB g 1 7 kd1 (uh h o (.inr (3, (fls 2 kd3 (va_up R 0 (q19)) I).set 1 (.ref q30)))) oj Rj Ij L4 Aj := hJ.fr (P := fun z => z = o) Fr.one (fun w h1 h2 => (fun q a b => hSJ q b a) w h1 (by rw [h2]; exact FP.o))
    have hT : OB g 4 4 kd4 (uh h o (.inr (3, (fls 2 kd3 (va_up R 0 (q19)) I).set 1 (.ref q30)))) ot Rt It Lt At := hT.fr (P := fun z => z = o) Fr.one (fun w h1 h2 => (fun q a b => hST q b a) w h1 (by rw [h2]; exact FP.o))
    have hM := hM.putr (k := 1) (n := Lt 1) (f := fun _ => 0) ⟨by decide, by decide⟩ cq30 (fun j a b _ => nq30_hM j a b) rfl rfl rfl
    have hF := Fr.set (e := .inr (3, (fls 2 kd3 (va_up R 0 (q19)) I).set 1 (.ref q30))) hF (Or.inl FP.o)
    generalize uh h o (.inr (3, (fls 2 kd3 (va_up R 0 (q19)) I).set 1 (.ref q30))) = h at hM hJ hT hF hW
    refine W.widen (k := sCel (L 0) (Lt 1)) (n := sSlo (L 0) (Lt 1)) (by unfold sCel; split <;> omega) (by unfold sSlo; split <;> omega) ?_
    exact cut_35 ((va_up (va_up R 0 (q19)) 1 (q30))) ((va_up (va_up L 0 (Lt 1)) 1 (Lt 1))) ((va_up (va_up A 0 (fun _ => 0)) 1 (fun _ => 0))) h H locs ls (by refine ⟨?_, ?_⟩ <;> (unfold sLen; rw [if_pos (by omega)]) <;> rfl) (fun k hk9 => Or.inr (by match k, hk9 with | 0, _ => exact f_q19 | 1, _ => exact f_q30)) hM hJ hT hF hW hS (lv_sub hl [0, 1, 2] rfl)
