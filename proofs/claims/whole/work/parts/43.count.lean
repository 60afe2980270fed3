set_option maxHeartbeats 4000000 in
set_option maxRecDepth 100000 in
theorem k_filll (l : Launch) (g : GX) (base : Nat) (sa : Nat → Nat) (h0 : Hp) (q : Nat) (n v : Int) (f : Int → Int) (hc : h0 q = some (al g n f)) (hn : 0 ≤ n ∧ n < 2147483648) : MC l g base sa yJ7_fill_d0a16 wsJ7_fill_d0a16 ({ frames := 0, cells := 0, slots := 0, locals := 0 }) ([.ref q, .long (JL v)]) h0 (fun r h' => r = none ∧ h' = uh h0 q (al g n (cpN n (fun _ => v) f))) := by
  refine Met.ofW (cc := cJ7_fill_d0a16) (maxL := 5) (ret := none) (by decide) rfl ?_
  intro p e s m args below meth c s₁ B hml hv
  obtain ⟨rfl, hk, hW⟩ := hv
  have hx := B.exec
  have hb := B.bytes
  have hr := B.returns
  have hts := atoms_spec (ws := wsJ7_fill_d0a16) B.pre
  have hown : s.vm.findClass RJ7 = some m.cls := findClass_of_methodNamed B.named
  have hlocks := B.notSynchronized
  have hS : va_S (Ab base) s.heap s.heap [] := va_S.rf
  have hl := lv_entry ([.ref q, .long (JL v)]) (n := 5) (Nat.le_of_ble_eq_true rfl)
  rw [lg_entry_eq]
  generalize (lg_sl ([.ref q, .long (JL v)]) ++ List.replicate (5 - (lg_sl ([.ref q, .long (JL v)])).length) Slot.unset).toArray = ls at hl ⊢
  have hl : lv_has ls 5 [(0, .ref q), (1, .long (JL v))] := hl
  refine lv_iconst (v := J (0)) hx hb dJ7_fill_d0a16_0 rfl ?_
  refine lv_istore_n (lv' := [(3, .int (J 0)), (0, .ref q), (1, .long (JL v))]) hx hb dJ7_fill_d0a16_1 rfl hl (by decide) rfl (fun ls hl => ?_)
  refine lv_aload_n hx hb dJ7_fill_d0a16_2 rfl (lv_at hl 1 rfl) ?_
  refine g_lalen (n := n) hx hb hk hW hc (by omega) dJ7_fill_d0a16_3 ?_
  refine lv_istore (lv' := [(4, .int (J n)), (3, .int (J 0)), (0, .ref q), (1, .long (JL v))]) hx hb dJ7_fill_d0a16_4 hl (by decide) rfl (fun ls hl => ?_)
  have loop_6 : ∀ (n9 : Nat) (i : Int) (h : Hp) (H : Heap) (locs : List Loc) (ls : Array Slot), n - i < (n9 : Int) → (0 ≤ i ∧ i ≤ n) → (h = uh h0 q (al g n (cpN i (fun _ => v) f))) → (Wd g base h H) → (va_S (Ab base) s.heap H locs) → (lv_has ls 5 [(0, .ref q), (1, .long (JL v)), (3, .int (J i)), (4, .int (J n))]) → W p l e (headSpec wsJ7_fill_d0a16 ({ frames := 0, cells := 0, slots := 0, locals := 0 })).room s m ([.ref q, .long (JL v)]).toArray below meth c H locs 0 0 (MQ below (QcM g base (fun r h' => r = none ∧ h' = uh h0 q (al g n (cpN n (fun _ => v) f)))) ([.ref q, .long (JL v)]).toArray s (0) (0) (Ab base)) (F0 m 6 ls []) := by
    intro n9
    induction n9 with
    | zero =>
      intro i h H locs ls hmu hi eh hW hS hl
      exact absurd hmu (by omega)
    | succ n9 ih =>
      intro i h H locs ls hmu hi eh hW hS hl
      have ih_6 := ih
      refine lv_iload_n hx hb dJ7_fill_d0a16_6 rfl (lv_at hl 2 rfl) ?_
      refine lv_iload hx hb dJ7_fill_d0a16_7 (lv_at hl 3 rfl) ?_
      refine j_icmp_ge (x := i) (y := n) (tgt := 22) hx hb ⟨by omega, by omega⟩ ⟨by omega, by omega⟩ dJ7_fill_d0a16_9 (by decide) (fun c_9 => ?_) (fun c_9 => ?_)
      · exact g_vret hx hb hr hW hS dJ7_fill_d0a16_22 hlocks (⟨rfl, by rw [eh, show i = n by omega]⟩)
      · refine lv_aload_n hx hb dJ7_fill_d0a16_12 rfl (lv_at hl 0 rfl) ?_
        refine lv_iload_n hx hb dJ7_fill_d0a16_13 rfl (lv_at hl 2 rfl) ?_
        refine lv_lload_n hx hb dJ7_fill_d0a16_14 rfl (lv_at hl 1 rfl) ?_
        refine g_last (n := n) (i := i) (x := v) hx hb hk hW hS (by rw [eh]; exact uh_same _ _ _) (by omega) (by omega) (by omega) dJ7_fill_d0a16_15 (fun H locs hW hS => ?_)
        rw [eh, uh_uh, cpN_s (fun _ => v) f hi.1] at hW
        refine lv_iinc (v := J (i + 1)) (lv' := [(3, .int (J (i + 1))), (0, .ref q), (1, .long (JL v)), (4, .int (J n))]) hx hb dJ7_fill_d0a16_16 hl (k := 2) rfl (J_inc (by omega)) (by decide) rfl (fun ls hl => ?_)
        refine lv_goto (tgt := 6) hx hb dJ7_fill_d0a16_19 (by decide) ?_
        exact ih_6 (i + 1) (uh h0 q (al g n (cpN (i + 1) (fun _ => v) f))) H locs ls (by omega) (by omega) rfl hW hS (lv_sub hl [1, 2, 0, 3] rfl)
  exact loop_6 (n.toNat + 1) 0 h0 s.heap [] ls (by omega) (by omega) (by rw [cpN_0]; funext x; unfold uh; split; (next e => rw [e, hc]); rfl) hW hS (lv_sub hl [2, 3, 1, 0] rfl)

set_option maxHeartbeats 4000000 in
set_option maxRecDepth 100000 in
theorem e_count (l : Launch) (g : GX) (base : Nat) (sa : Nat → Nat) (h0 : Hp) (o : Nat) (R : Nat → Nat) (I : Nat → Int) (L : Nat → Int) (A : Nat → Int → Int) (Rj : Nat → Nat) (Ij : Nat → Int) (Aj : Nat → Int → Int) (Rk : Nat → Nat) (Ik : Nat → Int) (Ak : Nat → Int → Int) (Ra : Nat → Nat) (Ia : Nat → Int) (La : Nat → Int) (Aa : Nat → Int → Int) (pp f0 : Int → Int) (hM : OB g 2 9 kd2 h0 o R I L A) (hG : OB g 1 7 kd1 h0 (R 0) Rj Ij L4 Aj) (hJ : OB g 1 7 kd1 h0 (R 1) Rk Ij L4 (va_up Aj 5 f0)) (hT : OB g 4 4 kd4 h0 (R 2) Ra Ia La Aa) (hw9 : Wok Ij Aj) (hv9 : Vh (Ij 0) (Aj 4) (Aj 5)) (hz : Zo (Ak 4) ∧ Zo (Aj 4) ∧ Zo (Ak 6) ∧ Zo (Aj 6)) (aSK : ∀ q, FP 9 kd2 o R q → ¬ FP 7 kd1 (R 1) Rk q) (aSA : ∀ q, FP 9 kd2 o R q → ¬ FP 4 kd4 (R 2) Ra q) (aGK : ∀ q, FP 7 kd1 (R 0) Rj q → ¬ FP 7 kd1 (R 1) Rk q) (aAK : ∀ q, FP 4 kd4 (R 2) Ra q → ¬ FP 7 kd1 (R 1) Rk q) (aGA : ∀ q, FP 7 kd1 (R 0) Rj q → ¬ FP 4 kd4 (R 2) Ra q) (aGS : ∀ q, FP 7 kd1 (R 0) Rj q → ¬ FP 9 kd2 o R q) (hL : 0 ≤ La 1 ∧ La 1 ≤ 14641 ∧ La 0 = La 1 ∧ La 2 = La 1) (hf0 : ∀ i, 0 ≤ i → i < 4 → 0 ≤ f0 i ∧ f0 i ≤ 10) (hL5 : 0 ≤ L 5 ∧ L 5 ≤ 14641) (hNL : mT (Aj 4) (Ij 0) ≤ La 1) (hTB : TB (mT (Aj 4) (Ij 0)) (La 1) (nxC (Ij 0) (Ij 2) (Ij 3) (Aj 4)) (fun _ _ => true) (cC (Ij 0) (Aj 4) (Aj 5)) (Aa 0) (Aa 1) (Aa 2) (Ia 3) (24 * Ia 3) pp) (hI7 : I 7 = 0 ∨ I 7 = 1) : MC l g base sa yX2_countWays wsX2_countWays ({ frames := 2, cells := (if L 5 < La 1 then 1 else 0), slots := (if L 5 < La 1 then (La 1).toNat else 0), locals := 49 }) ([.ref o]) h0 (fun r9 h' => r9 = none ∧ ((I 7 = 1 ∧ h' = h0) ∨ (I 7 = 0 ∧ Fr (fun q => FP 9 kd2 o R q ∨ FP 7 kd1 (R 1) Rk q) h0 h' ∧ ∃ q5 w5 f, OB g 2 9 kd2 h' o (va_up R 5 q5) (va_up I 7 1) (va_up L 5 (sLen (L 5) (La 1))) (va_up A 5 w5) ∧ OB g 1 7 kd1 h' (R 0) Rj Ij L4 Aj ∧ OB g 1 7 kd1 h' (R 1) Rk Ij L4 (va_up Aj 5 f) ∧ OB g 4 4 kd4 h' (R 2) Ra Ia La Aa ∧ (q5 = R 5 ∨ h0 q5 = none) ∧ (∀ i, 0 ≤ i → i < 4 → 0 ≤ f i ∧ f i ≤ 10) ∧ ∀ y, 0 ≤ y → y < sLen (L 5) (La 1) → w5 y = wz (nxC (Ij 0) (Ij 2) (Ij 3) (Aj 4)) (cC (Ij 0) (Aj 4) (Aj 5)) (Aa 0) (Aa 1) (24 * Ia 3).toNat y))) := by
  refine Met.ofW (cc := cX2_countWays) (maxL := 7) (ret := none) (by decide) rfl ?_
  intro p e s m args below meth c s₁ B hml hv
  obtain ⟨rfl, hk, hW⟩ := hv
  have hx := B.exec
  have hb := B.bytes
  have hr := B.returns
  have hts := atoms_spec (ws := wsX2_countWays) B.pre
  have hown : s.vm.findClass RX2 = some m.cls := findClass_of_methodNamed B.named
  have hlocks := B.notSynchronized
  have hfX1 : ∀ w ∈ wsX10, w.before ([.ref o]).toArray s = true := fun w h => hts w (List.mem_cons_of_mem _ (List.mem_append_right _ h))
  have hfX2 : ∀ w ∈ wsX20, w.before ([.ref o]).toArray s = true := fun w h => hts w (List.mem_cons_of_mem _ (List.mem_append_left _ (List.mem_append_left _ (List.mem_append_right _ h))))
  have hfX4 : ∀ w ∈ wsX40, w.before ([.ref o]).toArray s = true := fun w h => hts w (List.mem_cons_of_mem _ (List.mem_append_left _ (List.mem_append_right _ h)))
  have hS : va_S (Ab base) s.heap s.heap [] := va_S.rf
  have hl := lv_entry ([.ref o]) (n := 7) (Nat.le_of_ble_eq_true rfl)
  rw [lg_entry_eq]
  generalize (lg_sl ([.ref o]) ++ List.replicate (7 - (lg_sl ([.ref o])).length) Slot.unset).toArray = ls at hl ⊢
  have hl : lv_has ls 7 [(0, .ref o)] := hl
  have hF : Fr (fun q => FP 9 kd2 o R q ∨ FP 7 kd1 (R 1) Rk q ∨ h0 q = none) h0 h0 := Fr.rf
  have hM0 := hM
  have hG0 := hG
  have hT0 := hT
  have hJ0 := hJ
  obtain ⟨hw1, hw2, hw3, hw4, hw5, hw6⟩ := id hw9
  have hmr := mT_r hw1
  have hrr := hTB.1
  have hrN := hTB.2.1
  have hx0 := cC_r hw1 hv9
  have hlv9 : ∀ j, 0 ≤ j → j < La 1 → i32 (Aa 1 j) := fun j a b => by
    rcases hTB.2.2.2.2.2.1 j a b with w | ⟨k, k0, k1, k2⟩
    · exact ⟨by omega, by omega⟩
    · have := hTB.2.2.2.2.1 k k0 k1
      rw [k2] at this
      exact ⟨by omega, by omega⟩
  refine lv_aload_n hx hb dX2_countWays_0 rfl (lv_at hl 0 rfl) ?_
  refine g_get (ci := 2) (C := RX2) (T := TX2) (N := 9) (v := .int (J (I 7))) hx hb hfX2 (fun _ h9 => h9) hown hk hW hM.1 rfl 7 (by decide) (hts (.fieldLink RX2 46 "JugsAndGlasses$Search" "counted" "Z") (by decide +kernel)) rfl rfl dX2_countWays_1 ?_
  refine j_if_eq (x := I 7) (tgt := 8) hx hb ⟨by omega, by omega⟩ dX2_countWays_4 (by decide) (fun c_4 => ?_) (fun c_4 => ?_)
  · have cut_38 : ∀ (q5 : Nat) (n5 : Int) (a5 : Int → Int) (h : Hp) (H : Heap) (locs : List Loc) (ls : Array Slot), (n5 = sLen (L 5) (La 1)) → (q5 = R 5 ∨ h0 q5 = none) → (OB g 2 9 kd2 h o (va_up R 5 (q5)) I (va_up L 5 (n5)) (va_up A 5 (a5))) → (OB g 1 7 kd1 h (R 0) Rj Ij L4 Aj) → (OB g 1 7 kd1 h (R 1) Rk Ij L4 (va_up Aj 5 (f0))) → (OB g 4 4 kd4 h (R 2) Ra Ia La Aa) → (Fr (fun q => FP 9 kd2 o R q ∨ FP 7 kd1 (R 1) Rk q ∨ h0 q = none) h0 h) → (Wd g base h H) → (va_S (Ab base) s.heap H locs) → (lv_has ls 7 [(0, .ref o)]) → W p l e (headSpec wsX2_countWays ({ frames := 2, cells := (if L 5 < La 1 then 1 else 0), slots := (if L 5 < La 1 then (La 1).toNat else 0), locals := 49 })).room s m ([.ref o]).toArray below meth c H locs ((if L 5 < La 1 then 1 else 0)) ((if L 5 < La 1 then (La 1).toNat else 0)) (MQ below (QcM g base (fun r9 h' => r9 = none ∧ ((I 7 = 1 ∧ h' = h0) ∨ (I 7 = 0 ∧ Fr (fun q => FP 9 kd2 o R q ∨ FP 7 kd1 (R 1) Rk q) h0 h' ∧ ∃ q5 w5 f, OB g 2 9 kd2 h' o (va_up R 5 q5) (va_up I 7 1) (va_up L 5 (sLen (L 5) (La 1))) (va_up A 5 w5) ∧ OB g 1 7 kd1 h' (R 0) Rj Ij L4 Aj ∧ OB g 1 7 kd1 h' (R 1) Rk Ij L4 (va_up Aj 5 f) ∧ OB g 4 4 kd4 h' (R 2) Ra Ia La Aa ∧ (q5 = R 5 ∨ h0 q5 = none) ∧ (∀ i, 0 ≤ i → i < 4 → 0 ≤ f i ∧ f i ≤ 10) ∧ ∀ y, 0 ≤ y → y < sLen (L 5) (La 1) → w5 y = wz (nxC (Ij 0) (Ij 2) (Ij 3) (Aj 4)) (cC (Ij 0) (Aj 4) (Aj 5)) (Aa 0) (Aa 1) (24 * Ia 3).toNat y)))) ([.ref o]).toArray s ((if L 5 < La 1 then 1 else 0)) ((if L 5 < La 1 then (La 1).toNat else 0)) (Ab base)) (F0 m 38 ls []) := by
      intro q5 n5 a5 h H locs ls hn5 hq5 hM hG hJ hT hF hW hS hl
      have hR5 : ∀ k, k < 9 → isA kd2 k → va_up R 5 q5 k = R k ∨ h0 (va_up R 5 q5 k) = none := fun k hk9 ha9 => by
        by_cases e9 : k = 5
        · subst e9; exact hq5
        · exact Or.inl (by simp [va_up, e9])
      have aGS2 : ∀ q, FP 7 kd1 (R 0) Rj q → ¬ FP 9 kd2 o (va_up R 5 q5) q := fun q a b => ap_nw hG0 (fun q c d => aGS q d c) hR5 q b a
      have aSK2 : ∀ q, FP 9 kd2 o (va_up R 5 q5) q → ¬ FP 7 kd1 (R 1) Rk q := ap_nw hJ0 aSK hR5
      have aSA2 : ∀ q, FP 9 kd2 o (va_up R 5 q5) q → ¬ FP 4 kd4 (R 2) Ra q := ap_nw hT0 aSA hR5
      have hP5 : (fun q => FP 9 kd2 o R q ∨ FP 7 kd1 (R 1) Rk q ∨ h0 q = none) (va_up R 5 q5 5) := by
        rcases hq5 with w | w
        · exact Or.inl (by show FP 9 kd2 o R q5; rw [w]; exact FP.a 5 (by decide) ⟨by decide, by decide⟩)
        · exact Or.inr (Or.inr w)
      have hn5r : 0 ≤ n5 ∧ n5 ≤ 14641 ∧ mT (Aj 4) (Ij 0) ≤ n5 := by rw [hn5]; unfold sLen; split <;> omega
      refine lv_aload_n hx hb dX2_countWays_38 rfl (lv_at hl 0 rfl) ?_
      refine g_get (ci := 2) (C := RX2) (T := TX2) (N := 9) (v := .ref q5) hx hb hfX2 (fun _ h9 => h9) hown hk hW hM.1 rfl 5 (by decide) (hts (.fieldLink RX2 38 "JugsAndGlasses$Search" "ways" "[J") (by decide +kernel)) rfl rfl dX2_countWays_39 ?_
      refine lv_lconst (v := JL (0)) hx hb dX2_countWays_42 (by decide) ?_
      refine g_callS (As := [.ref q5, .long (JL 0)]) (rest := []) ⟨hx, hb, hml, hown, hts⟩ (k_filll l g base sa h q5 n5 (0) a5 (hM.al 5 (by decide) rfl) ⟨by omega, by omega⟩) (va_cwS 2 hts gX2_countWays_J7_fill_d0a16 rfl rfl rfl (by decide +kernel) ⟨Nat.le_of_ble_eq_true rfl, Nat.le_of_ble_eq_true rfl⟩) hk hW hS rfl hl.1 (Nat.le_of_ble_eq_true rfl) dX2_countWays_43 ⟨Nat.le_refl _, Nat.le_refl _⟩ (fun r9 h9 H locs hp hW hS => ?_)
      obtain ⟨rfl, e9⟩ := hp
      refine W.widen (k := (if L 5 < La 1 then 1 else 0)) (n := (if L 5 < La 1 then (La 1).toNat else 0)) (Nat.le_refl _) (Nat.le_refl _) ?_
      refine W.eq (g2 := F0 m 46 ls []) rfl ?_
      rw [e9] at hW
      have hG : OB g 1 7 kd1 (uh h ((va_up R 5 (q5)) 5) (al g ((va_up L 5 (n5)) 5) (cpN ((va_up L 5 (n5)) 5) (fun _ => 0) ((va_up A 5 (a5)) 5)))) (R 0) Rj Ij L4 Aj := hG.fr (P := fun z => z = (va_up R 5 (q5)) 5) Fr.one (fun w h1 h2 => (fun q a (b : FP 9 kd2 o (va_up R 5 q5) q) => aGS2 q a b) w h1 (by rw [h2]; exact FP.a 5 (by decide) ⟨by decide, by decide⟩))
      have hJ : OB g 1 7 kd1 (uh h ((va_up R 5 (q5)) 5) (al g ((va_up L 5 (n5)) 5) (cpN ((va_up L 5 (n5)) 5) (fun _ => 0) ((va_up A 5 (a5)) 5)))) (R 1) Rk Ij L4 (va_up Aj 5 (f0)) := hJ.fr (P := fun z => z = (va_up R 5 (q5)) 5) Fr.one (fun w h1 h2 => (fun q a (b : FP 9 kd2 o (va_up R 5 q5) q) => aSK2 q b a) w h1 (by rw [h2]; exact FP.a 5 (by decide) ⟨by decide, by decide⟩))
      have hT : OB g 4 4 kd4 (uh h ((va_up R 5 (q5)) 5) (al g ((va_up L 5 (n5)) 5) (cpN ((va_up L 5 (n5)) 5) (fun _ => 0) ((va_up A 5 (a5)) 5)))) (R 2) Ra Ia La Aa := hT.fr (P := fun z => z = (va_up R 5 (q5)) 5) Fr.one (fun w h1 h2 => (fun q a (b : FP 9 kd2 o (va_up R 5 q5) q) => aSA2 q b a) w h1 (by rw [h2]; exact FP.a 5 (by decide) ⟨by decide, by decide⟩))
      have hM := fill_obl hM 5 (by decide) rfl (v := 0)
      have hF := Fr.set (e := (al g ((va_up L 5 (n5)) 5) (cpN ((va_up L 5 (n5)) 5) (fun _ => 0) ((va_up A 5 (a5)) 5)))) hF (hP5)
      have hW : Wd g base (uh h ((va_up R 5 (q5)) 5) (al g ((va_up L 5 (n5)) 5) (cpN ((va_up L 5 (n5)) 5) (fun _ => 0) ((va_up A 5 (a5)) 5)))) H := hW
      generalize uh h ((va_up R 5 (q5)) 5) (al g ((va_up L 5 (n5)) 5) (cpN ((va_up L 5 (n5)) 5) (fun _ => 0) ((va_up A 5 (a5)) 5))) = h at hM hG hJ hT hW hF
      have hM : OB g 2 9 kd2 h o (va_up R 5 (q5)) I (va_up L 5 (n5)) (va_up A 5 (cpN n5 (fun _ => 0) a5)) := by first | exact hM | (rw [bx_uu] at hM; exact hM)
      refine lv_aload_n hx hb dX2_countWays_46 rfl (lv_at hl 0 rfl) ?_
      refine g_get (ci := 2) (C := RX2) (T := TX2) (N := 9) (v := .ref (R 0)) hx hb hfX2 (fun _ h9 => h9) hown hk hW hM.1 rfl 0 (by decide) (hts (.fieldLink RX2 12 "JugsAndGlasses$Search" "jugs" "LJugsAndGlasses$Jugs;") (by decide +kernel)) rfl rfl dX2_countWays_47 ?_
      refine g_callV (As := []) (rest := []) (b := R 0) (ci := 1) (C := RX1) (T := TX1) (N := 7) ⟨hx, hb, hml, hown, hts⟩ (k_code l g base sa h (R 0) Rj Ij Aj hG ⟨hw1.1, hw1.2.1⟩) (cwV 0 hts gX2_countWays_X1_code rfl rfl rfl (by decide +kernel) ⟨Nat.le_of_ble_eq_true rfl, Nat.le_of_ble_eq_true rfl⟩) hk hW hS hG.1 rfl rfl hl.1 (Nat.le_of_ble_eq_true rfl) dX2_countWays_50 ⟨Nat.le_refl _, Nat.le_refl _⟩ (fun r9 h9 H locs hp hW hS => ?_)
      rw [← x0_eq' hw9] at hp
      obtain ⟨rfl, e9⟩ := hp
      rw [e9] at hW
      refine W.widen (k := (if L 5 < La 1 then 1 else 0)) (n := (if L 5 < La 1 then (La 1).toNat else 0)) (Nat.le_refl _) (Nat.le_refl _) ?_
      refine W.eq (g2 := F0 m 53 ls [.int (J (cC (Ij 0) (Aj 4) (Aj 5)))]) rfl ?_
      refine lv_istore_n (lv' := [(1, .int (J (cC (Ij 0) (Aj 4) (Aj 5)))), (0, .ref o)]) hx hb dX2_countWays_53 rfl hl (by decide) rfl (fun ls hl => ?_)
      refine lv_iload_n hx hb dX2_countWays_54 rfl (lv_at hl 0 rfl) ?_
      refine j_if_lt (x := cC (Ij 0) (Aj 4) (Aj 5)) (tgt := 74) hx hb ⟨by omega, by omega⟩ dX2_countWays_55 (by decide) (fun c_55 => ?_) (fun c_55 => ?_)
      · exfalso
        omega
      · refine lv_iload_n hx hb dX2_countWays_58 rfl (lv_at hl 0 rfl) ?_
        refine lv_aload_n hx hb dX2_countWays_59 rfl (lv_at hl 1 rfl) ?_
        refine g_get (ci := 2) (C := RX2) (T := TX2) (N := 9) (v := .ref q5) hx hb hfX2 (fun _ h9 => h9) hown hk hW hM.1 rfl 5 (by decide) (hts (.fieldLink RX2 38 "JugsAndGlasses$Search" "ways" "[J") (by decide +kernel)) rfl rfl dX2_countWays_60 ?_
        refine g_lalen (n := n5) hx hb hk hW (hM.al 5 (by decide) rfl) (by omega) dX2_countWays_63 ?_
        refine j_icmp_ge (x := cC (Ij 0) (Aj 4) (Aj 5)) (y := n5) (tgt := 74) hx hb ⟨by omega, by omega⟩ ⟨by omega, by omega⟩ dX2_countWays_64 (by decide) (fun c_64 => ?_) (fun c_64 => ?_)
        · exfalso
          omega
        · refine lv_aload_n hx hb dX2_countWays_67 rfl (lv_at hl 1 rfl) ?_
          refine g_get (ci := 2) (C := RX2) (T := TX2) (N := 9) (v := .ref q5) hx hb hfX2 (fun _ h9 => h9) hown hk hW hM.1 rfl 5 (by decide) (hts (.fieldLink RX2 38 "JugsAndGlasses$Search" "ways" "[J") (by decide +kernel)) rfl rfl dX2_countWays_68 ?_
          refine lv_iload_n hx hb dX2_countWays_71 rfl (lv_at hl 0 rfl) ?_
          refine lv_lconst (v := JL (1)) hx hb dX2_countWays_72 (by decide) ?_
          refine o_last (A' := (va_up A 5 (uf (cpN n5 (fun _ => 0) a5) (cC (Ij 0) (Aj 4) (Aj 5)) 1))) (i := cC (Ij 0) (Aj 4) (Aj 5)) (x := 1) hx hb hk hW hS hM hF 5 (by decide) rfl (hP5) (by omega) (show cC (Ij 0) (Aj 4) (Aj 5) < n5 from by omega) (show n5 < 2147483648 from by omega) (bx_uu _ _ _ _) dX2_countWays_73 (fun h H locs hM hF hst hW hS => ?_)
          have hG := hG.fr hst (fun q h1 h2 => (fun q a (b : FP 9 kd2 o (va_up R 5 q5) q) => aGS2 q a b) q h1 (by rw [h2]; exact FP.a 5 (by decide) ⟨by decide, by decide⟩))
          have hJ := hJ.fr hst (fun q h1 h2 => (fun q a (b : FP 9 kd2 o (va_up R 5 q5) q) => aSK2 q b a) q h1 (by rw [h2]; exact FP.a 5 (by decide) ⟨by decide, by decide⟩))
          have hT := hT.fr hst (fun q h1 h2 => (fun q a (b : FP 9 kd2 o (va_up R 5 q5) q) => aSA2 q b a) q h1 (by rw [h2]; exact FP.a 5 (by decide) ⟨by decide, by decide⟩))
          refine lv_iconst (v := J (0)) hx hb dX2_countWays_74 rfl ?_
          refine lv_istore_n (lv' := [(2, .int (J 0)), (1, .int (J (cC (Ij 0) (Aj 4) (Aj 5)))), (0, .ref o)]) hx hb dX2_countWays_75 rfl hl (by decide) rfl (fun ls hl => ?_)
          have loop_76 : ∀ (n9 : Nat) (k : Int) (w5 : Int → Int) (f : Int → Int) (h : Hp) (H : Heap) (locs : List Loc) (ls : Array Slot), Ia 3 - k < (n9 : Int) → (0 ≤ k ∧ k ≤ Ia 3) → (∀ i, 0 ≤ i → i < 4 → 0 ≤ f i ∧ f i ≤ 10) → (∀ y, 0 ≤ y → y < n5 → w5 y = wz (nxC (Ij 0) (Ij 2) (Ij 3) (Aj 4)) (cC (Ij 0) (Aj 4) (Aj 5)) (Aa 0) (Aa 1) (24 * k).toNat y) → (OB g 2 9 kd2 h o (va_up R 5 (q5)) I (va_up L 5 (n5)) (va_up A 5 (w5))) → (OB g 1 7 kd1 h (R 0) Rj Ij L4 Aj) → (OB g 1 7 kd1 h (R 1) Rk Ij L4 (va_up Aj 5 (f))) → (OB g 4 4 kd4 h (R 2) Ra Ia La Aa) → (Fr (fun q => FP 9 kd2 o R q ∨ FP 7 kd1 (R 1) Rk q ∨ h0 q = none) h0 h) → (Wd g base h H) → (va_S (Ab base) s.heap H locs) → (lv_has ls 7 [(0, .ref o), (2, .int (J k))]) → W p l e (headSpec wsX2_countWays ({ frames := 2, cells := (if L 5 < La 1 then 1 else 0), slots := (if L 5 < La 1 then (La 1).toNat else 0), locals := 49 })).room s m ([.ref o]).toArray below meth c H locs ((if L 5 < La 1 then 1 else 0)) ((if L 5 < La 1 then (La 1).toNat else 0)) (MQ below (QcM g base (fun r9 h' => r9 = none ∧ ((I 7 = 1 ∧ h' = h0) ∨ (I 7 = 0 ∧ Fr (fun q => FP 9 kd2 o R q ∨ FP 7 kd1 (R 1) Rk q) h0 h' ∧ ∃ q5 w5 f, OB g 2 9 kd2 h' o (va_up R 5 q5) (va_up I 7 1) (va_up L 5 (sLen (L 5) (La 1))) (va_up A 5 w5) ∧ OB g 1 7 kd1 h' (R 0) Rj Ij L4 Aj ∧ OB g 1 7 kd1 h' (R 1) Rk Ij L4 (va_up Aj 5 f) ∧ OB g 4 4 kd4 h' (R 2) Ra Ia La Aa ∧ (q5 = R 5 ∨ h0 q5 = none) ∧ (∀ i, 0 ≤ i → i < 4 → 0 ≤ f i ∧ f i ≤ 10) ∧ ∀ y, 0 ≤ y → y < sLen (L 5) (La 1) → w5 y = wz (nxC (Ij 0) (Ij 2) (Ij 3) (Aj 4)) (cC (Ij 0) (Aj 4) (Aj 5)) (Aa 0) (Aa 1) (24 * Ia 3).toNat y)))) ([.ref o]).toArray s ((if L 5 < La 1 then 1 else 0)) ((if L 5 < La 1 then (La 1).toNat else 0)) (Ab base)) (F0 m 76 ls []) := by
            intro n9
            induction n9 with
            | zero =>
              intro k w5 f h H locs ls hmu hk9 hfr hw5y hM hG hJ hT hF hW hS hl
              exact absurd hmu (by omega)
            | succ n9 ih =>
              intro k w5 f h H locs ls hmu hk9 hfr hw5y hM hG hJ hT hF hW hS hl
              have ih_76 := ih
              refine lv_iload_n hx hb dX2_countWays_76 rfl (lv_at hl 1 rfl) ?_
              refine lv_aload_n hx hb dX2_countWays_77 rfl (lv_at hl 0 rfl) ?_
              refine g_get (ci := 2) (C := RX2) (T := TX2) (N := 9) (v := .ref (R 2)) hx hb hfX2 (fun _ h9 => h9) hown hk hW hM.1 rfl 2 (by decide) (hts (.fieldLink RX2 24 "JugsAndGlasses$Search" "all" "LJugsAndGlasses$Tour;") (by decide +kernel)) rfl rfl dX2_countWays_78 ?_
              refine g_get (ci := 4) (C := RX4) (T := TX4) (N := 4) (v := .int (J (Ia 3))) hx hb hfX4 (fun _ h9 => h9) hown hk hW hT.1 rfl 3 (by decide) (hts (.fieldLink RX2 78 "JugsAndGlasses$Tour" "reached" "I") (by decide +kernel)) rfl rfl dX2_countWays_81 ?_
              refine j_icmp_ge (x := k) (y := Ia 3) (tgt := 219) hx hb ⟨by omega, by omega⟩ ⟨by omega, by omega⟩ dX2_countWays_84 (by decide) (fun c_84 => ?_) (fun c_84 => ?_)
              · refine lv_aload_n hx hb dX2_countWays_219 rfl (lv_at hl 0 rfl) ?_
                refine lv_iconst (v := J (1)) hx hb dX2_countWays_220 rfl ?_
                refine o_put (I' := (va_up I 7 (1))) (ci := 2) (C := RX2) (T := TX2) (N := 9) (ty := .boolean) hx hb hfX2 (fun _ h9 => h9) tyX2 tyX2_ok nmX2 hown hk hW hS hM hF (Or.inl FP.o) rfl 7 (by decide) rfl (hts (.fieldLink RX2 46 "JugsAndGlasses$Search" "counted" "Z") (by decide +kernel)) rfl rfl (by decide +kernel) (nb_n (Or.inr rfl)) (nb_f (Or.inr rfl)) rfl dX2_countWays_221 (fun h H locs hM hF hst hW hS => ?_)
                have hG := hG.fr hst (fun q h1 h2 => (fun q a (b : FP 9 kd2 o (va_up R 5 q5) q) => aGS2 q a b) q h1 (by rw [h2]; exact FP.o))
                have hJ := hJ.fr hst (fun q h1 h2 => (fun q a (b : FP 9 kd2 o (va_up R 5 q5) q) => aSK2 q b a) q h1 (by rw [h2]; exact FP.o))
                have hT := hT.fr hst (fun q h1 h2 => (fun q a (b : FP 9 kd2 o (va_up R 5 q5) q) => aSA2 q b a) q h1 (by rw [h2]; exact FP.o))
                refine W.widen (k := (if L 5 < La 1 then 1 else 0)) (n := (if L 5 < La 1 then (La 1).toNat else 0)) (by first | exact Nat.le_refl _ | exact Nat.zero_le _) (by first | exact Nat.le_refl _ | exact Nat.zero_le _) ?_
                exact g_vret hx hb hr hW hS dX2_countWays_224 hlocks (⟨rfl, Or.inr ⟨by omega, ⟨fun q e9 h1 h2 => hF.1 q e9 h1 (fun w => by rcases w with w | w | w; exact h2 (Or.inl w); exact h2 (Or.inr w); (rw [h1] at w; cases w)), hF.2⟩, q5, w5, f, by rw [← hn5]; exact hM, hG, hJ, hT, hq5, hfr, by rw [← hn5, ← show k = Ia 3 by omega]; exact hw5y⟩⟩)
              · refine lv_iload_n hx hb dX2_countWays_87 rfl (lv_at hl 1 rfl) ?_
                refine lv_aload_n hx hb dX2_countWays_88 rfl (lv_at hl 0 rfl) ?_
                refine g_get (ci := 2) (C := RX2) (T := TX2) (N := 9) (v := .ref (R 2)) hx hb hfX2 (fun _ h9 => h9) hown hk hW hM.1 rfl 2 (by decide) (hts (.fieldLink RX2 24 "JugsAndGlasses$Search" "all" "LJugsAndGlasses$Tour;") (by decide +kernel)) rfl rfl dX2_countWays_89 ?_
                refine g_get (ci := 4) (C := RX4) (T := TX4) (N := 4) (v := .ref (Ra 0)) hx hb hfX4 (fun _ h9 => h9) hown hk hW hT.1 rfl 0 (by decide) (hts (.fieldLink RX2 82 "JugsAndGlasses$Tour" "found" "[I") (by decide +kernel)) rfl rfl dX2_countWays_92 ?_
                refine g_alen (n := La 0) hx hb hk hW (hT.ai 0 (by decide) rfl) (by omega) dX2_countWays_95 ?_
                refine j_icmp_ge (x := k) (y := La 0) (tgt := 219) hx hb ⟨by omega, by omega⟩ ⟨by omega, by omega⟩ dX2_countWays_96 (by decide) (fun c_96 => ?_) (fun c_96 => ?_)
                · exfalso
                  omega
                · refine lv_aload_n hx hb dX2_countWays_99 rfl (lv_at hl 0 rfl) ?_
                  refine g_get (ci := 2) (C := RX2) (T := TX2) (N := 9) (v := .ref (R 2)) hx hb hfX2 (fun _ h9 => h9) hown hk hW hM.1 rfl 2 (by decide) (hts (.fieldLink RX2 24 "JugsAndGlasses$Search" "all" "LJugsAndGlasses$Tour;") (by decide +kernel)) rfl rfl dX2_countWays_100 ?_
                  refine g_get (ci := 4) (C := RX4) (T := TX4) (N := 4) (v := .ref (Ra 0)) hx hb hfX4 (fun _ h9 => h9) hown hk hW hT.1 rfl 0 (by decide) (hts (.fieldLink RX2 82 "JugsAndGlasses$Tour" "found" "[I") (by decide +kernel)) rfl rfl dX2_countWays_103 ?_
                  refine lv_iload_n hx hb dX2_countWays_106 rfl (lv_at hl 1 rfl) ?_
                  refine g_iald (n := La 0) (f := Aa 0) (i := k) hx hb hk hW (hT.ai 0 (by decide) rfl) (by omega) (by omega) (by omega) dX2_countWays_107 ?_
                  have hyr := hTB.2.2.2.2.1 k hk9.1 (by omega)
                  obtain ⟨y, ey⟩ : ∃ y, y = Aa 0 k := ⟨_, rfl⟩
                  rw [← ey] at hyr ⊢
                  refine lv_istore_n (lv' := [(3, .int (J y)), (0, .ref o), (2, .int (J k))]) hx hb dX2_countWays_108 rfl hl (by decide) rfl (fun ls hl => ?_)
                  refine lv_aload_n hx hb dX2_countWays_109 rfl (lv_at hl 1 rfl) ?_
                  refine g_get (ci := 2) (C := RX2) (T := TX2) (N := 9) (v := .ref (R 2)) hx hb hfX2 (fun _ h9 => h9) hown hk hW hM.1 rfl 2 (by decide) (hts (.fieldLink RX2 24 "JugsAndGlasses$Search" "all" "LJugsAndGlasses$Tour;") (by decide +kernel)) rfl rfl dX2_countWays_110 ?_
                  refine lv_iload_n hx hb dX2_countWays_113 rfl (lv_at hl 0 rfl) ?_
                  refine g_callV (As := [.int (J y)]) (rest := []) (b := R 2) (ci := 4) (C := RX4) (T := TX4) (N := 4) ⟨hx, hb, hml, hown, hts⟩ (t_acts l g base sa h (R 2) Ra Ia La Aa y hT ⟨by omega, by omega⟩ ⟨hL.1, hL.2.1⟩ hlv9) (cwV 1 hts gX2_countWays_X4_acts rfl rfl rfl (by decide +kernel) ⟨Nat.le_of_ble_eq_true rfl, Nat.le_of_ble_eq_true rfl⟩) hk hW hS hT.1 rfl rfl hl.1 (Nat.le_of_ble_eq_true rfl) dX2_countWays_114 ⟨Nat.le_refl _, Nat.le_refl _⟩ (fun r9 h9 H locs hp hW hS => ?_)
                  rw [if_pos (show 0 ≤ y ∧ y < La 1 ∧ 0 ≤ Aa 1 y from ⟨hyr.1, by omega, hyr.2.2.1⟩)] at hp
                  obtain ⟨rfl, e9⟩ := hp
                  rw [e9] at hW
                  refine W.widen (k := (if L 5 < La 1 then 1 else 0)) (n := (if L 5 < La 1 then (La 1).toNat else 0)) (Nat.le_refl _) (Nat.le_refl _) ?_
                  refine W.eq (g2 := F0 m 117 ls [.int (J (Aa 1 y))]) rfl ?_
                  refine lv_iconst (v := J (1)) hx hb dX2_countWays_117 rfl ?_
                  refine j_iadd hx hb dX2_countWays_118 ?_
                  refine lv_istore (lv' := [(4, .int (J ((Aa 1 y) + 1))), (3, .int (J y)), (0, .ref o), (2, .int (J k))]) hx hb dX2_countWays_119 hl (by decide) rfl (fun ls hl => ?_)
                  refine lv_aload_n hx hb dX2_countWays_121 rfl (lv_at hl 2 rfl) ?_
                  refine g_get (ci := 2) (C := RX2) (T := TX2) (N := 9) (v := .ref (R 1)) hx hb hfX2 (fun _ h9 => h9) hown hk hW hM.1 rfl 1 (by decide) (hts (.fieldLink RX2 18 "JugsAndGlasses$Search" "trial" "LJugsAndGlasses$Jugs;") (by decide +kernel)) rfl rfl dX2_countWays_122 ?_
                  refine lv_iload_n hx hb dX2_countWays_125 rfl (lv_at hl 1 rfl) ?_
                  refine g_callV (As := [.int (J y)]) (rest := []) (b := R 1) (ci := 1) (C := RX1) (T := TX1) (N := 7) ⟨hx, hb, hml, hown, hts⟩ (k_stand l g base sa h (R 1) Rk Ij (va_up Aj 5 f) y hJ ⟨by omega, by omega⟩ ⟨hw1.1, hw1.2.1⟩ hw1.2.2) (cwV 1 hts gX2_countWays_X1_stand rfl rfl rfl (by decide +kernel) ⟨Nat.le_of_ble_eq_true rfl, Nat.le_of_ble_eq_true rfl⟩) hk hW hS hJ.1 rfl rfl hl.1 (Nat.le_of_ble_eq_true rfl) dX2_countWays_126 ⟨Nat.le_refl _, Nat.le_refl _⟩ (fun r9 h9 H locs hp hW hS => ?_)
                  have hp : r9 = none ∧ OB g 1 7 kd1 h9 (R 1) Rk Ij L4 (va_up (va_up Aj 5 f) 5 (p_stand (Ij 0) (Aj 4) f y)) ∧ Fr (FP 7 kd1 (R 1) Rk) h h9 := hp
                  obtain ⟨rfl, hJ, hF9⟩ := hp
                  refine W.widen (k := (if L 5 < La 1 then 1 else 0)) (n := (if L 5 < La 1 then (La 1).toNat else 0)) (Nat.le_refl _) (Nat.le_refl _) ?_
                  refine W.eq (g2 := F0 m 129 ls []) rfl ?_
                  have hM := hM.fr hF9 aSK2
                  have hT := hT.fr hF9 aAK
                  have hG := hG.fr hF9 aGK
                  have hF := hF.tr hF9 (fun q w _ => Or.inr (Or.inl w))
                  rw [bx_uu] at hJ
                  generalize h9 = h at hM hT hG hJ hF hW
                  refine lv_iconst (v := J (0)) hx hb dX2_countWays_129 rfl ?_
                  refine lv_istore (lv' := [(5, .int (J 0)), (4, .int (J ((Aa 1 y) + 1))), (3, .int (J y)), (0, .ref o), (2, .int (J k))]) hx hb dX2_countWays_130 hl (by decide) rfl (fun ls hl => ?_)
                  have loop_132 : ∀ (n9 : Nat) (a : Int) (w5 : Int → Int) (h : Hp) (H : Heap) (locs : List Loc) (ls : Array Slot), 24 - a < (n9 : Int) → (0 ≤ a ∧ a ≤ 24) → (∀ y, 0 ≤ y → y < n5 → w5 y = wz (nxC (Ij 0) (Ij 2) (Ij 3) (Aj 4)) (cC (Ij 0) (Aj 4) (Aj 5)) (Aa 0) (Aa 1) (24 * k + a).toNat y) → (OB g 2 9 kd2 h o (va_up R 5 (q5)) I (va_up L 5 (n5)) (va_up A 5 (w5))) → (OB g 1 7 kd1 h (R 0) Rj Ij L4 Aj) → (OB g 1 7 kd1 h (R 1) Rk Ij L4 (va_up Aj 5 (p_stand (Ij 0) (Aj 4) f y))) → (OB g 4 4 kd4 h (R 2) Ra Ia La Aa) → (Fr (fun q => FP 9 kd2 o R q ∨ FP 7 kd1 (R 1) Rk q ∨ h0 q = none) h0 h) → (Wd g base h H) → (va_S (Ab base) s.heap H locs) → (lv_has ls 7 [(0, .ref o), (2, .int (J k)), (3, .int (J y)), (4, .int (J ((Aa 1 y) + 1))), (5, .int (J a))]) → W p l e (headSpec wsX2_countWays ({ frames := 2, cells := (if L 5 < La 1 then 1 else 0), slots := (if L 5 < La 1 then (La 1).toNat else 0), locals := 49 })).room s m ([.ref o]).toArray below meth c H locs ((if L 5 < La 1 then 1 else 0)) ((if L 5 < La 1 then (La 1).toNat else 0)) (MQ below (QcM g base (fun r9 h' => r9 = none ∧ ((I 7 = 1 ∧ h' = h0) ∨ (I 7 = 0 ∧ Fr (fun q => FP 9 kd2 o R q ∨ FP 7 kd1 (R 1) Rk q) h0 h' ∧ ∃ q5 w5 f, OB g 2 9 kd2 h' o (va_up R 5 q5) (va_up I 7 1) (va_up L 5 (sLen (L 5) (La 1))) (va_up A 5 w5) ∧ OB g 1 7 kd1 h' (R 0) Rj Ij L4 Aj ∧ OB g 1 7 kd1 h' (R 1) Rk Ij L4 (va_up Aj 5 f) ∧ OB g 4 4 kd4 h' (R 2) Ra Ia La Aa ∧ (q5 = R 5 ∨ h0 q5 = none) ∧ (∀ i, 0 ≤ i → i < 4 → 0 ≤ f i ∧ f i ≤ 10) ∧ ∀ y, 0 ≤ y → y < sLen (L 5) (La 1) → w5 y = wz (nxC (Ij 0) (Ij 2) (Ij 3) (Aj 4)) (cC (Ij 0) (Aj 4) (Aj 5)) (Aa 0) (Aa 1) (24 * Ia 3).toNat y)))) ([.ref o]).toArray s ((if L 5 < La 1 then 1 else 0)) ((if L 5 < La 1 then (La 1).toNat else 0)) (Ab base)) (F0 m 132 ls []) := by
                    intro n9
                    induction n9 with
                    | zero =>
                      intro a w5 h H locs ls hmu ha9 hw5y hM hG hJ hT hF hW hS hl
                      exact absurd hmu (by omega)
                    | succ n9 ih =>
                      intro a w5 h H locs ls hmu ha9 hw5y hM hG hJ hT hF hW hS hl
                      have ih_132 := ih
                      refine lv_iload hx hb dX2_countWays_132 (lv_at hl 4 rfl) ?_
                      refine lv_bipush (v := J (24)) hx hb dX2_countWays_134 (by decide) ?_
                      refine j_icmp_ge (x := a) (y := 24) (tgt := 213) hx hb ⟨by omega, by omega⟩ ⟨by decide, by decide⟩ dX2_countWays_136 (by decide) (fun c_136 => ?_) (fun c_136 => ?_)
                      · refine lv_iinc (v := J (k + 1)) (lv' := [(2, .int (J (k + 1))), (0, .ref o), (3, .int (J y)), (4, .int (J ((Aa 1 y) + 1))), (5, .int (J a))]) hx hb dX2_countWays_213 hl (k := 1) rfl (J_inc (by omega)) (by decide) rfl (fun ls hl => ?_)
                        refine lv_goto (tgt := 76) hx hb dX2_countWays_216 (by decide) ?_
                        exact ih_76 (k + 1) w5 (p_stand (Ij 0) (Aj 4) f y) h H locs ls (by omega) (by omega) (stand_r hw1 hfr y) (by have e9 : 24 * (k + 1) = 24 * k + a := (by omega); rw [e9]; exact hw5y) hM hG hJ hT hF hW hS (lv_sub hl [1, 0] rfl)
                      · refine lv_iload_n hx hb dX2_countWays_139 rfl (lv_at hl 2 rfl) ?_
                        refine lv_aload_n hx hb dX2_countWays_140 rfl (lv_at hl 0 rfl) ?_
                        refine g_get (ci := 2) (C := RX2) (T := TX2) (N := 9) (v := .ref (R 1)) hx hb hfX2 (fun _ h9 => h9) hown hk hW hM.1 rfl 1 (by decide) (hts (.fieldLink RX2 18 "JugsAndGlasses$Search" "trial" "LJugsAndGlasses$Jugs;") (by decide +kernel)) rfl rfl dX2_countWays_141 ?_
                        refine lv_iload hx hb dX2_countWays_144 (lv_at hl 4 rfl) ?_
                        refine g_callV (As := [.int (J a)]) (rest := [.int (J y)]) (b := R 1) (ci := 1) (C := RX1) (T := TX1) (N := 7) ⟨hx, hb, hml, hown, hts⟩ (k_shiftBy l g base sa h (R 1) Rk Ij (va_up Aj 5 (p_stand (Ij 0) (Aj 4) f y)) a hJ ⟨by omega, by omega⟩ (Jok_of hw9 (stand_v hw1 y))) (cwV 1 hts gX2_countWays_X1_shiftBy rfl rfl rfl (by decide +kernel) ⟨Nat.le_of_ble_eq_true rfl, Nat.le_of_ble_eq_true rfl⟩) hk hW hS hJ.1 rfl rfl hl.1 (Nat.le_of_ble_eq_true rfl) dX2_countWays_146 ⟨Nat.le_refl _, Nat.le_refl _⟩ (fun r9 h9 H locs hp hW hS => ?_)
                        have hp : r9 = some (.int (J (p_shift (Ij 0) (Ij 2) (Ij 3) (Aj 4) (p_stand (Ij 0) (Aj 4) f y) (Aj 6) a))) ∧ h9 = h := hp
                        obtain ⟨rfl, e9⟩ := hp
                        rw [e9] at hW
                        refine W.widen (k := (if L 5 < La 1 then 1 else 0)) (n := (if L 5 < La 1 then (La 1).toNat else 0)) (Nat.le_refl _) (Nat.le_refl _) ?_
                        refine W.eq (g2 := F0 m 149 ls [.int (J (p_shift (Ij 0) (Ij 2) (Ij 3) (Aj 4) (p_stand (Ij 0) (Aj 4) f y) (Aj 6) a)), .int (J y)]) rfl ?_
                        refine j_iadd hx hb dX2_countWays_149 ?_
                        have et : y + (p_shift (Ij 0) (Ij 2) (Ij 3) (Aj 4) (p_stand (Ij 0) (Aj 4) f y) (Aj 6) a) = nxC (Ij 0) (Ij 2) (Ij 3) (Aj 4) y a := shift_eq hw1 hw5 hyr.1 hyr.2.1 a
                        have hnr := nxC_r (tp := Ij 2) (dr := Ij 3) hw1 hyr.1 hyr.2.1 a
                        rw [et]
                        obtain ⟨t, et2⟩ : ∃ t, t = nxC (Ij 0) (Ij 2) (Ij 3) (Aj 4) y a := ⟨_, rfl⟩
                        rw [← et2] at hnr ⊢
                        refine lv_istore (lv' := [(6, .int (J t)), (0, .ref o), (2, .int (J k)), (3, .int (J y)), (4, .int (J ((Aa 1 y) + 1))), (5, .int (J a))]) hx hb dX2_countWays_150 hl (by decide) rfl (fun ls hl => ?_)
                        refine lv_iload hx hb dX2_countWays_152 (lv_at hl 0 rfl) ?_
                        refine j_if_lt (x := t) (tgt := 207) hx hb ⟨by omega, by omega⟩ dX2_countWays_154 (by decide) (fun c_154 => ?_) (fun c_154 => ?_)
                        · exfalso
                          omega
                        · refine lv_iload hx hb dX2_countWays_157 (lv_at hl 0 rfl) ?_
                          refine lv_aload_n hx hb dX2_countWays_159 rfl (lv_at hl 1 rfl) ?_
                          refine g_get (ci := 2) (C := RX2) (T := TX2) (N := 9) (v := .ref q5) hx hb hfX2 (fun _ h9 => h9) hown hk hW hM.1 rfl 5 (by decide) (hts (.fieldLink RX2 38 "JugsAndGlasses$Search" "ways" "[J") (by decide +kernel)) rfl rfl dX2_countWays_160 ?_
                          refine g_lalen (n := n5) hx hb hk hW (hM.al 5 (by decide) rfl) (by omega) dX2_countWays_163 ?_
                          refine j_icmp_ge (x := t) (y := n5) (tgt := 207) hx hb ⟨by omega, by omega⟩ ⟨by omega, by omega⟩ dX2_countWays_164 (by decide) (fun c_164 => ?_) (fun c_164 => ?_)
                          · exfalso
                            omega
                          · refine lv_aload_n hx hb dX2_countWays_167 rfl (lv_at hl 1 rfl) ?_
                            refine g_get (ci := 2) (C := RX2) (T := TX2) (N := 9) (v := .ref (R 2)) hx hb hfX2 (fun _ h9 => h9) hown hk hW hM.1 rfl 2 (by decide) (hts (.fieldLink RX2 24 "JugsAndGlasses$Search" "all" "LJugsAndGlasses$Tour;") (by decide +kernel)) rfl rfl dX2_countWays_168 ?_
                            refine lv_iload hx hb dX2_countWays_171 (lv_at hl 0 rfl) ?_
                            refine g_callV (As := [.int (J t)]) (rest := []) (b := R 2) (ci := 4) (C := RX4) (T := TX4) (N := 4) ⟨hx, hb, hml, hown, hts⟩ (t_acts l g base sa h (R 2) Ra Ia La Aa t hT ⟨by omega, by omega⟩ ⟨hL.1, hL.2.1⟩ hlv9) (cwV 1 hts gX2_countWays_X4_acts rfl rfl rfl (by decide +kernel) ⟨Nat.le_of_ble_eq_true rfl, Nat.le_of_ble_eq_true rfl⟩) hk hW hS hT.1 rfl rfl hl.1 (Nat.le_of_ble_eq_true rfl) dX2_countWays_173 ⟨Nat.le_refl _, Nat.le_refl _⟩ (fun r9 h9 H locs hp hW hS => ?_)
                            obtain ⟨rfl, e9⟩ := hp
                            rw [e9] at hW
                            refine W.widen (k := (if L 5 < La 1 then 1 else 0)) (n := (if L 5 < La 1 then (La 1).toNat else 0)) (Nat.le_refl _) (Nat.le_refl _) ?_
                            refine W.eq (g2 := F0 m 176 ls [.int (J (if 0 ≤ t ∧ t < La 1 ∧ 0 ≤ Aa 1 t then Aa 1 t else -1))]) rfl ?_
                            obtain ⟨u, eu⟩ : ∃ u, u = (if 0 ≤ t ∧ t < La 1 ∧ 0 ≤ Aa 1 t then Aa 1 t else -1) := ⟨_, rfl⟩
                            refine W.eq (g2 := F0 m 176 ls [.int (J u)]) (by rw [eu]) ?_
                            have hu9 : (u = Aa 1 t ∧ 0 ≤ Aa 1 t) ∨ (u = -1 ∧ Aa 1 t < 0) := by
                              rw [eu]
                              split
                              · next w => exact Or.inl ⟨rfl, w.2.2⟩
                              · next w => exact Or.inr ⟨rfl, by omega⟩
                            have hlt9 := hlv9 t hnr.1 (by omega)
                            obtain ⟨hlt1, hlt2⟩ := id hlt9
                            refine lv_iload hx hb dX2_countWays_176 (lv_at hl 4 rfl) ?_
                            refine j_icmp_ne (x := u) (y := (Aa 1 y) + 1) (tgt := 207) hx hb ⟨by omega, by omega⟩ ⟨by omega, by omega⟩ dX2_countWays_178 (by decide) (fun c_178 => ?_) (fun c_178 => ?_)
                            · refine lv_iinc (v := J (a + 1)) (lv' := [(5, .int (J (a + 1))), (6, .int (J t)), (0, .ref o), (2, .int (J k)), (3, .int (J y)), (4, .int (J ((Aa 1 y) + 1)))]) hx hb dX2_countWays_207 hl (k := 5) rfl (J_inc (by omega)) (by decide) rfl (fun ls hl => ?_)
                              refine lv_goto (tgt := 132) hx hb dX2_countWays_210 (by decide) ?_
                              exact ih_132 (a + 1) w5 h H locs ls (by omega) (by omega) (fun z z0 z1 => by rw [wz_s _ _ _ _ hk9.1 ha9.1 (by omega), ← ey, ← et2, if_neg (show ¬ (Aa 1 t = Aa 1 y + 1) by omega)]; exact hw5y z z0 z1) hM hG hJ hT hF hW hS (lv_sub hl [2, 3, 4, 5, 0] rfl)
                            · have hwt := wz_r (nxC (Ij 0) (Ij 2) (Ij 3) (Aj 4)) (cC (Ij 0) (Aj 4) (Aj 5)) (Aa 0) (Aa 1) (24 * k + a).toNat t
                              have hwy := wz_r (nxC (Ij 0) (Ij 2) (Ij 3) (Aj 4)) (cC (Ij 0) (Aj 4) (Aj 5)) (Aa 0) (Aa 1) (24 * k + a).toNat y
                              rw [← hw5y t hnr.1 (by omega)] at hwt
                              rw [← hw5y y hyr.1 (by omega)] at hwy
                              refine lv_aload_n hx hb dX2_countWays_181 rfl (lv_at hl 1 rfl) ?_
                              refine g_get (ci := 2) (C := RX2) (T := TX2) (N := 9) (v := .ref q5) hx hb hfX2 (fun _ h9 => h9) hown hk hW hM.1 rfl 5 (by decide) (hts (.fieldLink RX2 38 "JugsAndGlasses$Search" "ways" "[J") (by decide +kernel)) rfl rfl dX2_countWays_182 ?_
                              refine lv_iload hx hb dX2_countWays_185 (lv_at hl 0 rfl) ?_
                              refine j_ldc2 (z := 1000000000000000000) hx hb (by decide) hown (hts (.constantLong RX2 96 (1000000000000000000)) (by decide +kernel)) dX2_countWays_187 ?_
                              refine lv_aload_n hx hb dX2_countWays_190 rfl (lv_at hl 1 rfl) ?_
                              refine g_get (ci := 2) (C := RX2) (T := TX2) (N := 9) (v := .ref q5) hx hb hfX2 (fun _ h9 => h9) hown hk hW hM.1 rfl 5 (by decide) (hts (.fieldLink RX2 38 "JugsAndGlasses$Search" "ways" "[J") (by decide +kernel)) rfl rfl dX2_countWays_191 ?_
                              refine lv_iload hx hb dX2_countWays_194 (lv_at hl 0 rfl) ?_
                              refine g_lald (n := n5) (f := w5) (i := t) hx hb hk hW (hM.al 5 (by decide) rfl) (by omega) (by omega) (by omega) dX2_countWays_196 ?_
                              refine lv_aload_n hx hb dX2_countWays_197 rfl (lv_at hl 1 rfl) ?_
                              refine lv_iload_n hx hb dX2_countWays_198 rfl (lv_at hl 3 rfl) ?_
                              refine g_callV (As := [.int (J y)]) (rest := [.long (JL (w5 t)), .long (JL 1000000000000000000), .int (J t), .ref q5]) (b := o) (ci := 2) (C := RX2) (T := TX2) (N := 9) ⟨hx, hb, hml, hown, hts⟩ (e_waysFor l g base sa h o (va_up R 5 (q5)) I (va_up L 5 (n5)) (va_up A 5 (w5)) y hM (show 0 ≤ n5 ∧ n5 < 2147483648 by omega) ⟨by omega, by omega⟩) (cwV 1 hts gX2_countWays_X2_waysFor rfl rfl rfl (by decide +kernel) ⟨Nat.le_of_ble_eq_true rfl, Nat.le_of_ble_eq_true rfl⟩) hk hW hS hM.1 rfl rfl hl.1 (Nat.le_of_ble_eq_true rfl) dX2_countWays_199 ⟨Nat.le_refl _, Nat.le_refl _⟩ (fun r9 h9 H locs hp hW hS => ?_)
                              have hp : r9 = some (.long (JL (if 0 ≤ y ∧ y < n5 then w5 y else 0))) ∧ h9 = h := hp
                              rw [if_pos (show 0 ≤ y ∧ y < n5 from ⟨hyr.1, by omega⟩)] at hp
                              obtain ⟨rfl, e9⟩ := hp
                              rw [e9] at hW
                              refine W.widen (k := (if L 5 < La 1 then 1 else 0)) (n := (if L 5 < La 1 then (La 1).toNat else 0)) (Nat.le_refl _) (Nat.le_refl _) ?_
                              refine W.eq (g2 := F0 m 202 ls [.long (JL (w5 y)), .long (JL (w5 t)), .long (JL 1000000000000000000), .int (J t), .ref q5]) rfl ?_
                              refine j_ladd hx hb dX2_countWays_202 ?_
                              refine j_mminl (x := 1000000000000000000) (y := (w5 t) + (w5 y)) hx hb (by rw [hml]; exact hl.1.symm) hown (hts (.methodLink RX2 102 Lib.MathLoose.min_long.x) (by decide +kernel)) (hts (.static Lib.MathLoose.min_long.x) (by decide +kernel)) (hts (.initialized "java/lang/Math") (by decide +kernel)) (hts (.code Lib.MathLoose.min_long.x Lib.MathLoose.min_long.code 4 (some .long)) (by decide +kernel)) (Nat.le_of_ble_eq_true rfl) (Nat.le_of_ble_eq_true rfl) (Nat.le_refl _) (Nat.le_refl _) ⟨by decide, by decide⟩ ⟨by unfold mM at *; omega, by unfold mM at *; omega⟩ dX2_countWays_203 ?_
                              refine o_last (A' := (va_up A 5 (uf w5 t (min 1000000000000000000 ((w5 t) + (w5 y)))))) (i := t) (x := min 1000000000000000000 ((w5 t) + (w5 y))) hx hb hk hW hS hM hF 5 (by decide) rfl (hP5) (by omega) (show t < n5 from by omega) (show n5 < 2147483648 from by omega) (bx_uu _ _ _ _) dX2_countWays_206 (fun h H locs hM hF hst hW hS => ?_)
                              have hG := hG.fr hst (fun q h1 h2 => (fun q a (b : FP 9 kd2 o (va_up R 5 q5) q) => aGS2 q a b) q h1 (by rw [h2]; exact FP.a 5 (by decide) ⟨by decide, by decide⟩))
                              have hJ := hJ.fr hst (fun q h1 h2 => (fun q a (b : FP 9 kd2 o (va_up R 5 q5) q) => aSK2 q b a) q h1 (by rw [h2]; exact FP.a 5 (by decide) ⟨by decide, by decide⟩))
                              have hT := hT.fr hst (fun q h1 h2 => (fun q a (b : FP 9 kd2 o (va_up R 5 q5) q) => aSA2 q b a) q h1 (by rw [h2]; exact FP.a 5 (by decide) ⟨by decide, by decide⟩))
                              refine lv_iinc (v := J (a + 1)) (lv' := [(5, .int (J (a + 1))), (6, .int (J t)), (0, .ref o), (2, .int (J k)), (3, .int (J y)), (4, .int (J ((Aa 1 y) + 1)))]) hx hb dX2_countWays_207 hl (k := 5) rfl (J_inc (by omega)) (by decide) rfl (fun ls hl => ?_)
                              refine lv_goto (tgt := 132) hx hb dX2_countWays_210 (by decide) ?_
                              exact ih_132 (a + 1) (uf w5 t (min 1000000000000000000 ((w5 t) + (w5 y)))) h H locs ls (by omega) (by omega) (fun z z0 z1 => by rw [wz_s _ _ _ _ hk9.1 ha9.1 (by omega), ← ey, ← et2, if_pos (show Aa 1 t = Aa 1 y + 1 by omega)]; unfold uf; split; (rw [hw5y t hnr.1 (by omega), hw5y y hyr.1 (by omega)]; rfl); exact hw5y z z0 z1) hM hG hJ hT hF hW hS (lv_sub hl [2, 3, 4, 5, 0] rfl)
                  exact loop_132 25 0 w5 h H locs ls (by omega) (by omega) (by rw [Int.add_zero]; exact hw5y) hM hG hJ hT hF hW hS (lv_sub hl [3, 4, 2, 1, 0] rfl)
          exact loop_76 ((Ia 3).toNat + 1) 0 (uf (cpN n5 (fun _ => 0) a5) (cC (Ij 0) (Aj 4) (Aj 5)) 1) f0 h H locs ls (by omega) (by omega) hf0 (fun y y0 y1 => by unfold uf; split; (next e9 => rw [e9]; exact (uf_same _ _ _).symm); (next e9 => rw [cpN_in y0 y1]; exact (show (0 : Int) = uf (fun _ => 0) (cC (Ij 0) (Aj 4) (Aj 5)) 1 y from by rw [uf_ne _ _ e9]))) hM hG hJ hT hF hW hS (lv_sub hl [2, 0] rfl)
    refine lv_aload_n hx hb dX2_countWays_8 rfl (lv_at hl 0 rfl) ?_
    refine g_get (ci := 2) (C := RX2) (T := TX2) (N := 9) (v := .ref (R 5)) hx hb hfX2 (fun _ h9 => h9) hown hk hW hM.1 rfl 5 (by decide) (hts (.fieldLink RX2 38 "JugsAndGlasses$Search" "ways" "[J") (by decide +kernel)) rfl rfl dX2_countWays_9 ?_
    refine g_lalen (n := L 5) hx hb hk hW (hM.al 5 (by decide) rfl) (by omega) dX2_countWays_12 ?_
    refine lv_aload_n hx hb dX2_countWays_13 rfl (lv_at hl 0 rfl) ?_
    refine g_get (ci := 2) (C := RX2) (T := TX2) (N := 9) (v := .ref (R 2)) hx hb hfX2 (fun _ h9 => h9) hown hk hW hM.1 rfl 2 (by decide) (hts (.fieldLink RX2 24 "JugsAndGlasses$Search" "all" "LJugsAndGlasses$Tour;") (by decide +kernel)) rfl rfl dX2_countWays_14 ?_
    refine g_get (ci := 4) (C := RX4) (T := TX4) (N := 4) (v := .ref (Ra 1)) hx hb hfX4 (fun _ h9 => h9) hown hk hW hT.1 rfl 1 (by decide) (hts (.fieldLink RX2 64 "JugsAndGlasses$Tour" "level" "[I") (by decide +kernel)) rfl rfl dX2_countWays_17 ?_
    refine g_alen (n := La 1) hx hb hk hW (hT.ai 1 (by decide) rfl) (by omega) dX2_countWays_20 ?_
    refine j_icmp_ge (x := L 5) (y := La 1) (tgt := 38) hx hb ⟨by omega, by omega⟩ ⟨by omega, by omega⟩ dX2_countWays_21 (by decide) (fun c_21 => ?_) (fun c_21 => ?_)
    · refine W.widen (k := (if L 5 < La 1 then 1 else 0)) (n := (if L 5 < La 1 then (La 1).toNat else 0)) (by (first | exact Nat.zero_le _ | (rw [if_pos (by omega)]; exact Nat.le_refl _))) (by (first | exact Nat.zero_le _ | (rw [if_pos (by omega)]; omega))) ?_
      exact cut_38 (R 5) (L 5) (A 5) h0 s.heap [] ls (by unfold sLen; rw [if_neg (by omega)]) (Or.inl rfl) (by first | exact hM | (rw [va_up_id, va_up_id, va_up_id]; exact hM)) hG hJ hT hF hW hS (lv_sub hl [0] rfl)
    · refine lv_aload_n hx hb dX2_countWays_24 rfl (lv_at hl 0 rfl) ?_
      refine lv_aload_n hx hb dX2_countWays_25 rfl (lv_at hl 0 rfl) ?_
      refine g_get (ci := 2) (C := RX2) (T := TX2) (N := 9) (v := .ref (R 2)) hx hb hfX2 (fun _ h9 => h9) hown hk hW hM.1 rfl 2 (by decide) (hts (.fieldLink RX2 24 "JugsAndGlasses$Search" "all" "LJugsAndGlasses$Tour;") (by decide +kernel)) rfl rfl dX2_countWays_26 ?_
      refine g_get (ci := 4) (C := RX4) (T := TX4) (N := 4) (v := .ref (Ra 1)) hx hb hfX4 (fun _ h9 => h9) hown hk hW hT.1 rfl 1 (by decide) (hts (.fieldLink RX2 64 "JugsAndGlasses$Tour" "level" "[I") (by decide +kernel)) rfl rfl dX2_countWays_29 ?_
      refine g_alen (n := La 1) hx hb hk hW (hT.ai 1 (by decide) rfl) (by omega) dX2_countWays_32 ?_
      refine g_newl (n := La 1) hx hb (hts (.arrayClass .long) (by decide +kernel)) hk hW hS (by omega) (by omega) (by show 0 + 1 ≤ (if L 5 < La 1 then 1 else 0); rw [if_pos (by omega)]; exact Nat.le_refl _) (by show 0 + (La 1).toNat ≤ (if L 5 < La 1 then (La 1).toNat else 0); rw [if_pos (by omega)]; omega) dX2_countWays_33 (fun q33 H hq33 hW hS => ?_)
      have f_q33 : h0 q33 = none := hF.none hq33
      have nq33_hM : ∀ j, j < 9 → isA kd2 j → R j ≠ q33 := fun j a b e => by have w := hM.2.1 j a b; rw [e, hq33] at w; cases w
      have hM := hM.new (e := al g (La 1) (fun _ => 0)) hq33
      have nq33_hG : ∀ j, j < 7 → isA kd1 j → Rj j ≠ q33 := fun j a b e => by have w := hG.2.1 j a b; rw [e, hq33] at w; cases w
      have hG := hG.new (e := al g (La 1) (fun _ => 0)) hq33
      have nq33_hJ : ∀ j, j < 7 → isA kd1 j → Rk j ≠ q33 := fun j a b e => by have w := hJ.2.1 j a b; rw [e, hq33] at w; cases w
      have hJ := hJ.new (e := al g (La 1) (fun _ => 0)) hq33
      have nq33_hT : ∀ j, j < 4 → isA kd4 j → Ra j ≠ q33 := fun j a b e => by have w := hT.2.1 j a b; rw [e, hq33] at w; cases w
      have hT := hT.new (e := al g (La 1) (fun _ => 0)) hq33
      have hF := Fr.new (e := al g (La 1) (fun _ => 0)) hF hq33
      have cq33 : uh h0 q33 (al g (La 1) (fun _ => 0)) q33 = some (al g (La 1) (fun _ => 0)) := uh_same _ _ _
      generalize uh h0 q33 (al g (La 1) (fun _ => 0)) = h at hM hG hJ hT hF hW cq33 
      refine g_put (ci := 2) (C := RX2) (T := TX2) (N := 9) (ty := .array .long) hx hb hfX2 (fun _ h9 => h9) tyX2 tyX2_ok nmX2 hown hk hW hS hM.1 rfl 5 (by decide) (hts (.fieldLink RX2 38 "JugsAndGlasses$Search" "ways" "[J") (by decide +kernel)) rfl rfl (by decide +kernel) rfl rfl (by rw [fls_len]; decide) dX2_countWays_35 (fun H locs hW hS => ?_)
      have hG : OB g 1 7 kd1 (uh h o (.inr (2, (fls 9 kd2 R I).set 5 (.ref q33)))) (R 0) Rj Ij L4 Aj := hG.fr (P := fun z => z = o) Fr.one (fun w h1 h2 => (fun q a b => aGS q a b) w h1 (by rw [h2]; exact FP.o))
      have hJ : OB g 1 7 kd1 (uh h o (.inr (2, (fls 9 kd2 R I).set 5 (.ref q33)))) (R 1) Rk Ij L4 (va_up Aj 5 (f0)) := hJ.fr (P := fun z => z = o) Fr.one (fun w h1 h2 => (fun q a b => aSK q b a) w h1 (by rw [h2]; exact FP.o))
      have hT : OB g 4 4 kd4 (uh h o (.inr (2, (fls 9 kd2 R I).set 5 (.ref q33)))) (R 2) Ra Ia La Aa := hT.fr (P := fun z => z = o) Fr.one (fun w h1 h2 => (fun q a b => aSA q b a) w h1 (by rw [h2]; exact FP.o))
      have hM := hM.putr (k := 5) (n := La 1) (f := fun _ => 0) ⟨by decide, by decide⟩ cq33 (fun j a b _ => nq33_hM j a b) rfl rfl rfl
      have hF := Fr.set (e := .inr (2, (fls 9 kd2 R I).set 5 (.ref q33))) hF (Or.inl FP.o)
      generalize uh h o (.inr (2, (fls 9 kd2 R I).set 5 (.ref q33))) = h at hM hG hJ hT hF hW
      refine W.widen (k := (if L 5 < La 1 then 1 else 0)) (n := (if L 5 < La 1 then (La 1).toNat else 0)) (by (first | exact Nat.zero_le _ | (rw [if_pos (by omega)]; exact Nat.le_refl _))) (by (first | exact Nat.zero_le _ | (rw [if_pos (by omega)]; omega))) ?_
      exact cut_38 q33 (La 1) (fun _ => 0) h H locs ls (by unfold sLen; rw [if_pos (by omega)]) (Or.inr f_q33) (by first | exact hM | (rw [va_up_id, va_up_id, va_up_id]; exact hM)) hG hJ hT hF hW hS (lv_sub hl [0] rfl)
  · refine W.widen (k := (if L 5 < La 1 then 1 else 0)) (n := (if L 5 < La 1 then (La 1).toNat else 0)) (by first | exact Nat.le_refl _ | exact Nat.zero_le _) (by first | exact Nat.le_refl _ | exact Nat.zero_le _) ?_
    exact g_vret hx hb hr hW hS dX2_countWays_7 hlocks (⟨rfl, Or.inl ⟨by omega, rfl⟩⟩)
