set_option maxHeartbeats 4000000 in
set_option maxRecDepth 100000 in
theorem k_fill (l : Launch) (g : GX) (base : Nat) (sa : Nat → Nat) (h0 : Hp) (q : Nat) (n v : Int) (f : Int → Int) (hc : h0 q = some (ai g n f)) (hn : 0 ≤ n ∧ n < 2147483648) : MC l g base sa yJ7_fill_53178 wsJ7_fill_53178 ({ frames := 0, cells := 0, slots := 0, locals := 0 }) ([.ref q, .int (J v)]) h0 (fun r h' => r = none ∧ h' = uh h0 q (ai g n (cpN n (fun _ => v) f))) := by
  refine Met.ofW (cc := cJ7_fill_53178) (maxL := 4) (ret := none) (by decide) rfl ?_
  intro p e s m args below meth c s₁ B hml hv
  obtain ⟨rfl, hk, hW⟩ := hv
  have hx := B.exec
  have hb := B.bytes
  have hr := B.returns
  have hts := atoms_spec (ws := wsJ7_fill_53178) B.pre
  have hown : s.vm.findClass RJ7 = some m.cls := findClass_of_methodNamed B.named
  have hlocks := B.notSynchronized
  have hS : va_S (Ab base) s.heap s.heap [] := va_S.rf
  have hl := lv_entry ([.ref q, .int (J v)]) (n := 4) (Nat.le_of_ble_eq_true rfl)
  rw [lg_entry_eq]
  generalize (lg_sl ([.ref q, .int (J v)]) ++ List.replicate (4 - (lg_sl ([.ref q, .int (J v)])).length) Slot.unset).toArray = ls at hl ⊢
  have hl : lv_has ls 4 [(0, .ref q), (1, .int (J v))] := hl
  refine lv_iconst (v := J (0)) hx hb dJ7_fill_53178_0 rfl ?_
  refine lv_istore_n (lv' := [(2, .int (J 0)), (0, .ref q), (1, .int (J v))]) hx hb dJ7_fill_53178_1 rfl hl (by decide) rfl (fun ls hl => ?_)
  refine lv_aload_n hx hb dJ7_fill_53178_2 rfl (lv_at hl 1 rfl) ?_
  refine g_alen (n := n) hx hb hk hW hc (by omega) dJ7_fill_53178_3 ?_
  refine lv_istore_n (lv' := [(3, .int (J n)), (2, .int (J 0)), (0, .ref q), (1, .int (J v))]) hx hb dJ7_fill_53178_4 rfl hl (by decide) rfl (fun ls hl => ?_)
  have loop_5 : ∀ (n9 : Nat) (i : Int) (h : Hp) (H : Heap) (locs : List Loc) (ls : Array Slot), n - i < (n9 : Int) → (0 ≤ i ∧ i ≤ n) → (h = uh h0 q (ai g n (cpN i (fun _ => v) f))) → (Wd g base h H) → (va_S (Ab base) s.heap H locs) → (lv_has ls 4 [(0, .ref q), (1, .int (J v)), (2, .int (J i)), (3, .int (J n))]) → W p l e (headSpec wsJ7_fill_53178 ({ frames := 0, cells := 0, slots := 0, locals := 0 })).room s m ([.ref q, .int (J v)]).toArray below meth c H locs 0 0 (MQ below (QcM g base (fun r h' => r = none ∧ h' = uh h0 q (ai g n (cpN n (fun _ => v) f)))) ([.ref q, .int (J v)]).toArray s (0) (0) (Ab base)) (F0 m 5 ls []) := by
    intro n9
    induction n9 with
    | zero =>
      intro i h H locs ls hmu hi eh hW hS hl
      exact absurd hmu (by omega)
    | succ n9 ih =>
      intro i h H locs ls hmu hi eh hW hS hl
      have ih_5 := ih
      refine lv_iload_n hx hb dJ7_fill_53178_5 rfl (lv_at hl 2 rfl) ?_
      refine lv_iload_n hx hb dJ7_fill_53178_6 rfl (lv_at hl 3 rfl) ?_
      refine j_icmp_ge (x := i) (y := n) (tgt := 20) hx hb ⟨by omega, by omega⟩ ⟨by omega, by omega⟩ dJ7_fill_53178_7 (by decide) (fun c_7 => ?_) (fun c_7 => ?_)
      · exact g_vret hx hb hr hW hS dJ7_fill_53178_20 hlocks (⟨rfl, by rw [eh, show i = n by omega]⟩)
      · refine lv_aload_n hx hb dJ7_fill_53178_10 rfl (lv_at hl 0 rfl) ?_
        refine lv_iload_n hx hb dJ7_fill_53178_11 rfl (lv_at hl 2 rfl) ?_
        refine lv_iload_n hx hb dJ7_fill_53178_12 rfl (lv_at hl 1 rfl) ?_
        refine g_iast (n := n) (i := i) (x := v) hx hb hk hW hS (by rw [eh]; exact uh_same _ _ _) (by omega) (by omega) (by omega) dJ7_fill_53178_13 (fun H locs hW hS => ?_)
        rw [eh, uh_uh, cpN_s (fun _ => v) f hi.1] at hW
        refine lv_iinc (v := J (i + 1)) (lv' := [(2, .int (J (i + 1))), (0, .ref q), (1, .int (J v)), (3, .int (J n))]) hx hb dJ7_fill_53178_14 hl (k := 2) rfl (J_inc (by omega)) (by decide) rfl (fun ls hl => ?_)
        refine lv_goto (tgt := 5) hx hb dJ7_fill_53178_17 (by decide) ?_
        exact ih_5 (i + 1) (uh h0 q (ai g n (cpN (i + 1) (fun _ => v) f))) H locs ls (by omega) (by omega) rfl hW hS (lv_sub hl [1, 2, 0, 3] rfl)
  exact loop_5 (n.toNat + 1) 0 h0 s.heap [] ls (by omega) (by omega) (by rw [cpN_0]; funext x; unfold uh; split; (next e => rw [e, hc]); rfl) hW hS (lv_sub hl [2, 3, 1, 0] rfl)

set_option maxHeartbeats 4000000 in
set_option maxRecDepth 100000 in
theorem k_lengthFor (l : Launch) (g : GX) (base : Nat) (sa : Nat → Nat) (h0 : Hp) (a b : Int) (ha : 0 ≤ a ∧ a ≤ 14641) (hb9 : 0 ≤ b ∧ b ≤ 14641) : MC l g base sa yX5_lengthFor wsX5_lengthFor ({ frames := 1, cells := 0, slots := 0, locals := 30 }) ([.int (J a), .int (J b)]) h0 (fun r h' => r = some (.int (J (min 14641 (max a (2 * b))))) ∧ h' = h0) := by
  refine Met.ofW (cc := cX5_lengthFor) (maxL := 2) (ret := (some .int)) (by decide) rfl ?_
  intro p e s m args below meth c s₁ B hml hv
  obtain ⟨rfl, hk, hW⟩ := hv
  have hx := B.exec
  have hb := B.bytes
  have hr := B.returns
  have hts := atoms_spec (ws := wsX5_lengthFor) B.pre
  have hown : s.vm.findClass RX5 = some m.cls := findClass_of_methodNamed B.named
  have hlocks := B.notSynchronized
  have hS : va_S (Ab base) s.heap s.heap [] := va_S.rf
  have hl := lv_entry ([.int (J a), .int (J b)]) (n := 2) (Nat.le_of_ble_eq_true rfl)
  rw [lg_entry_eq]
  generalize (lg_sl ([.int (J a), .int (J b)]) ++ List.replicate (2 - (lg_sl ([.int (J a), .int (J b)])).length) Slot.unset).toArray = ls at hl ⊢
  have hl : lv_has ls 2 [(0, .int (J a)), (1, .int (J b))] := hl
  refine lv_sipush (v := J (14641)) hx hb dX5_lengthFor_0 (by decide) ?_
  refine lv_iload_n hx hb dX5_lengthFor_3 rfl (lv_at hl 0 rfl) ?_
  refine lv_iconst (v := J (2)) hx hb dX5_lengthFor_4 rfl ?_
  refine lv_iload_n hx hb dX5_lengthFor_5 rfl (lv_at hl 1 rfl) ?_
  refine j_imul hx hb dX5_lengthFor_6 ?_
  refine j_mmax (x := a) (y := 2 * b) hx hb (by rw [hml]; exact hl.1.symm) hown (hts (.methodLink RX5 157 Lib.Math.max.name) (by decide +kernel)) (hts (.static Lib.Math.max.name) (by decide +kernel)) (hts (.initialized "java/lang/Math") (by decide +kernel)) (hts (.code Lib.Math.max.name Lib.Math.max.code 2 (some .int)) (by decide +kernel)) (Nat.le_of_ble_eq_true rfl) (Nat.le_of_ble_eq_true rfl) (Nat.le_of_ble_eq_true rfl) (Nat.le_of_ble_eq_true rfl) ⟨by omega, by omega⟩ ⟨by omega, by omega⟩ dX5_lengthFor_7 ?_
  refine j_mmin (x := 14641) (y := max a (2 * b)) hx hb (by rw [hml]; exact hl.1.symm) hown (hts (.methodLink RX5 152 Lib.Math.min.name) (by decide +kernel)) (hts (.static Lib.Math.min.name) (by decide +kernel)) (hts (.initialized "java/lang/Math") (by decide +kernel)) (hts (.code Lib.Math.min.name Lib.Math.min.code 2 (some .int)) (by decide +kernel)) (Nat.le_of_ble_eq_true rfl) (Nat.le_of_ble_eq_true rfl) (Nat.le_of_ble_eq_true rfl) (Nat.le_of_ble_eq_true rfl) ⟨by decide, by decide⟩ ⟨by omega, by omega⟩ dX5_lengthFor_10 ?_
  exact g_iret hx hb hr hW hS dX5_lengthFor_13 hlocks (⟨rfl, rfl⟩)

set_option maxHeartbeats 4000000 in
set_option maxRecDepth 100000 in
theorem t_knows (l : Launch) (g : GX) (base : Nat) (sa : Nat → Nat) (h0 : Hp) (o : Nat) (R : Nat → Nat) (I : Nat → Int) (L : Nat → Int) (A : Nat → Int → Int) (x : Int) (hM : OB g 4 4 kd4 h0 o R I L A) (hx9 : i32 x) (hL : 0 ≤ L 1 ∧ L 1 ≤ 14641) (hlv : ∀ j, 0 ≤ j → j < L 1 → i32 (A 1 j)) : MC l g base sa yX4_knows wsX4_knows ({ frames := 0, cells := 0, slots := 0, locals := 0 }) ([.ref o, .int (J x)]) h0 (fun r h' => r = some (.int (J (p_kn (L 1) (A 1) x))) ∧ h' = h0) := by
  refine Met.ofW (cc := cX4_knows) (maxL := 2) (ret := (some .boolean)) (by decide) rfl ?_
  intro p e s m args below meth c s₁ B hml hv
  obtain ⟨rfl, hk, hW⟩ := hv
  have hx := B.exec
  have hb := B.bytes
  have hr := B.returns
  have hts := atoms_spec (ws := wsX4_knows) B.pre
  have hown : s.vm.findClass RX4 = some m.cls := findClass_of_methodNamed B.named
  have hlocks := B.notSynchronized
  have hfX4 : ∀ w ∈ wsX40, w.before ([.ref o, .int (J x)]).toArray s = true := fun w h => hts w (List.mem_cons_of_mem _ (List.mem_append_right _ h))
  have hS : va_S (Ab base) s.heap s.heap [] := va_S.rf
  have hl := lv_entry ([.ref o, .int (J x)]) (n := 2) (Nat.le_of_ble_eq_true rfl)
  rw [lg_entry_eq]
  generalize (lg_sl ([.ref o, .int (J x)]) ++ List.replicate (2 - (lg_sl ([.ref o, .int (J x)])).length) Slot.unset).toArray = ls at hl ⊢
  have hl : lv_has ls 2 [(0, .ref o), (1, .int (J x))] := hl
  obtain ⟨hx1, hx2⟩ := id hx9
  refine lv_iload_n hx hb dX4_knows_0 rfl (lv_at hl 1 rfl) ?_
  refine j_if_lt (x := x) (tgt := 26) hx hb ⟨by omega, by omega⟩ dX4_knows_1 (by decide) (fun c_1 => ?_) (fun c_1 => ?_)
  · refine lv_iconst (v := J (0)) hx hb dX4_knows_26 rfl ?_
    exact g_zret hx hb hr (by omega) hW hS dX4_knows_27 hlocks (⟨congrArg (fun z : Int => some (Value.int (J z))) (show 0 = p_kn (L 1) (A 1) x from by unfold p_kn; (repeat' split) <;> omega), rfl⟩)
  · refine lv_iload_n hx hb dX4_knows_4 rfl (lv_at hl 1 rfl) ?_
    refine lv_aload_n hx hb dX4_knows_5 rfl (lv_at hl 0 rfl) ?_
    refine g_get (ci := 4) (C := RX4) (T := TX4) (N := 4) (v := .ref (R 1)) hx hb hfX4 (fun _ h9 => h9) hown hk hW hM.1 rfl 1 (by decide) (hts (.fieldLink RX4 15 "JugsAndGlasses$Tour" "level" "[I") (by decide +kernel)) rfl rfl dX4_knows_6 ?_
    refine g_alen (n := L 1) hx hb hk hW (hM.ai 1 (by decide) rfl) (by omega) dX4_knows_9 ?_
    refine j_icmp_ge (x := x) (y := L 1) (tgt := 26) hx hb ⟨by omega, by omega⟩ ⟨by omega, by omega⟩ dX4_knows_10 (by decide) (fun c_10 => ?_) (fun c_10 => ?_)
    · refine lv_iconst (v := J (0)) hx hb dX4_knows_26 rfl ?_
      exact g_zret hx hb hr (by omega) hW hS dX4_knows_27 hlocks (⟨congrArg (fun z : Int => some (Value.int (J z))) (show 0 = p_kn (L 1) (A 1) x from by unfold p_kn; (repeat' split) <;> omega), rfl⟩)
    · refine lv_aload_n hx hb dX4_knows_13 rfl (lv_at hl 0 rfl) ?_
      refine g_get (ci := 4) (C := RX4) (T := TX4) (N := 4) (v := .ref (R 1)) hx hb hfX4 (fun _ h9 => h9) hown hk hW hM.1 rfl 1 (by decide) (hts (.fieldLink RX4 15 "JugsAndGlasses$Tour" "level" "[I") (by decide +kernel)) rfl rfl dX4_knows_14 ?_
      refine lv_iload_n hx hb dX4_knows_17 rfl (lv_at hl 1 rfl) ?_
      refine g_iald (n := L 1) (f := A 1) (i := x) hx hb hk hW (hM.ai 1 (by decide) rfl) (by omega) (by omega) (by omega) dX4_knows_18 ?_
      refine j_if_lt (x := A 1 x) (tgt := 26) hx hb (hlv x (by omega) (by omega)) dX4_knows_19 (by decide) (fun c_19 => ?_) (fun c_19 => ?_)
      · refine lv_iconst (v := J (0)) hx hb dX4_knows_26 rfl ?_
        exact g_zret hx hb hr (by omega) hW hS dX4_knows_27 hlocks (⟨congrArg (fun z : Int => some (Value.int (J z))) (show 0 = p_kn (L 1) (A 1) x from by unfold p_kn; (repeat' split) <;> omega), rfl⟩)
      · refine lv_iconst (v := J (1)) hx hb dX4_knows_22 rfl ?_
        refine lv_goto (tgt := 27) hx hb dX4_knows_23 (by decide) ?_
        exact g_zret hx hb hr (by omega) hW hS dX4_knows_27 hlocks (⟨congrArg (fun z : Int => some (Value.int (J z))) (show 1 = p_kn (L 1) (A 1) x from by unfold p_kn; (repeat' split) <;> omega), rfl⟩)

set_option maxHeartbeats 4000000 in
set_option maxRecDepth 100000 in
theorem t_acts (l : Launch) (g : GX) (base : Nat) (sa : Nat → Nat) (h0 : Hp) (o : Nat) (R : Nat → Nat) (I : Nat → Int) (L : Nat → Int) (A : Nat → Int → Int) (x : Int) (hM : OB g 4 4 kd4 h0 o R I L A) (hx9 : i32 x) (hL : 0 ≤ L 1 ∧ L 1 ≤ 14641) (hlv : ∀ j, 0 ≤ j → j < L 1 → i32 (A 1 j)) : MC l g base sa yX4_acts wsX4_acts ({ frames := 1, cells := 0, slots := 0, locals := 21 }) ([.ref o, .int (J x)]) h0 (fun r h' => r = some (.int (J (if 0 ≤ x ∧ x < L 1 ∧ 0 ≤ A 1 x then A 1 x else -1))) ∧ h' = h0) := by
  refine Met.ofW (cc := cX4_acts) (maxL := 2) (ret := (some .int)) (by decide) rfl ?_
  intro p e s m args below meth c s₁ B hml hv
  obtain ⟨rfl, hk, hW⟩ := hv
  have hx := B.exec
  have hb := B.bytes
  have hr := B.returns
  have hts := atoms_spec (ws := wsX4_acts) B.pre
  have hown : s.vm.findClass RX4 = some m.cls := findClass_of_methodNamed B.named
  have hlocks := B.notSynchronized
  have hfX4 : ∀ w ∈ wsX40, w.before ([.ref o, .int (J x)]).toArray s = true := fun w h => hts w (List.mem_cons_of_mem _ (List.mem_append_right _ h))
  have hS : va_S (Ab base) s.heap s.heap [] := va_S.rf
  have hl := lv_entry ([.ref o, .int (J x)]) (n := 2) (Nat.le_of_ble_eq_true rfl)
  rw [lg_entry_eq]
  generalize (lg_sl ([.ref o, .int (J x)]) ++ List.replicate (2 - (lg_sl ([.ref o, .int (J x)])).length) Slot.unset).toArray = ls at hl ⊢
  have hl : lv_has ls 2 [(0, .ref o), (1, .int (J x))] := hl
  refine lv_aload_n hx hb dX4_acts_0 rfl (lv_at hl 0 rfl) ?_
  refine lv_iload_n hx hb dX4_acts_1 rfl (lv_at hl 1 rfl) ?_
  refine g_callV (As := [.int (J x)]) (rest := []) (b := o) (ci := 4) (C := RX4) (T := TX4) (N := 4) ⟨hx, hb, hml, hown, hts⟩ (t_knows l g base sa h0 o R I L A x hM hx9 hL hlv) (cwV 1 hts gX4_acts_X4_knows rfl rfl rfl (by decide +kernel) ⟨Nat.le_of_ble_eq_true rfl, Nat.le_of_ble_eq_true rfl⟩) hk hW hS hM.1 rfl rfl hl.1 (Nat.le_of_ble_eq_true rfl) dX4_acts_2 ⟨Nat.le_of_ble_eq_true rfl, Nat.le_of_ble_eq_true rfl⟩ (fun r9 h9 H locs hp hW hS => ?_)
  obtain ⟨rfl, e9⟩ := hp
  rw [e9] at hW
  refine W.eq (g2 := F0 m 5 ls [.int (J (p_kn (L 1) (A 1) x))]) rfl ?_
  have hkr := p_kn_r (L 1) (A 1) x
  refine j_if_eq (x := p_kn (L 1) (A 1) x) (tgt := 17) hx hb ⟨by omega, by omega⟩ dX4_acts_5 (by decide) (fun c_5 => ?_) (fun c_5 => ?_)
  · refine lv_iconst (v := J (-1)) hx hb dX4_acts_17 rfl ?_
    exact g_iret hx hb hr hW hS dX4_acts_18 hlocks (⟨congrArg (fun z : Int => some (Value.int (J z))) (show (-1) = (if 0 ≤ x ∧ x < L 1 ∧ 0 ≤ A 1 x then A 1 x else -1) from by first | rw [if_pos (by omega)] | (have := p_kn_0 c_5; rw [if_neg this])), rfl⟩)
  · have hq := p_kn_1 c_5
    refine lv_aload_n hx hb dX4_acts_8 rfl (lv_at hl 0 rfl) ?_
    refine g_get (ci := 4) (C := RX4) (T := TX4) (N := 4) (v := .ref (R 1)) hx hb hfX4 (fun _ h9 => h9) hown hk hW hM.1 rfl 1 (by decide) (hts (.fieldLink RX4 15 "JugsAndGlasses$Tour" "level" "[I") (by decide +kernel)) rfl rfl dX4_acts_9 ?_
    refine lv_iload_n hx hb dX4_acts_12 rfl (lv_at hl 1 rfl) ?_
    refine g_iald (n := L 1) (f := A 1) (i := x) hx hb hk hW (hM.ai 1 (by decide) rfl) (by omega) (by omega) (by omega) dX4_acts_13 ?_
    refine lv_goto (tgt := 18) hx hb dX4_acts_14 (by decide) ?_
    exact g_iret hx hb hr hW hS dX4_acts_18 hlocks (⟨congrArg (fun z : Int => some (Value.int (J z))) (show A 1 x = (if 0 ≤ x ∧ x < L 1 ∧ 0 ≤ A 1 x then A 1 x else -1) from by first | rw [if_pos (by omega)] | (have := p_kn_0 c_5; rw [if_neg this])), rfl⟩)

set_option maxHeartbeats 4000000 in
set_option maxRecDepth 100000 in
theorem t_enter (l : Launch) (g : GX) (base : Nat) (sa : Nat → Nat) (h0 : Hp) (o : Nat) (R : Nat → Nat) (I : Nat → Int) (L : Nat → Int) (A : Nat → Int → Int) (x a y : Int) (hM : OB g 4 4 kd4 h0 o R I L A) (hL : 0 ≤ L 1 ∧ L 1 ≤ 14641 ∧ L 0 = L 1 ∧ L 2 = L 1) (hr9 : 0 ≤ I 3 ∧ I 3 < L 0) (hx9 : 0 ≤ x ∧ x < L 1) (hy9 : 0 ≤ y ∧ y < L 1) (hlv : ∀ j, 0 ≤ j → j < L 1 → i32 (A 1 j)) (hlx : 0 ≤ A 1 x) : MC l g base sa yX4_enter wsX4_enter ({ frames := 1, cells := 0, slots := 0, locals := 21 }) ([.ref o, .int (J x), .int (J a), .int (J y)]) h0 (fun r h' => r = none ∧ OB g 4 4 kd4 h' o R (va_up I 3 (I 3 + 1)) L (va_up (va_up (va_up A 0 (uf (A 0) (I 3) y)) 1 (uf (A 1) y (A 1 x + 1))) 2 (uf (A 2) y (x * 32 + a))) ∧ Fr (FP 4 kd4 o R) h0 h') := by
  refine Met.ofW (cc := cX4_enter) (maxL := 4) (ret := none) (by decide) rfl ?_
  intro p e s m args below meth c s₁ B hml hv
  obtain ⟨rfl, hk, hW⟩ := hv
  have hx := B.exec
  have hb := B.bytes
  have hr := B.returns
  have hts := atoms_spec (ws := wsX4_enter) B.pre
  have hown : s.vm.findClass RX4 = some m.cls := findClass_of_methodNamed B.named
  have hlocks := B.notSynchronized
  have hfX4 : ∀ w ∈ wsX40, w.before ([.ref o, .int (J x), .int (J a), .int (J y)]).toArray s = true := fun w h => hts w (List.mem_cons_of_mem _ (List.mem_append_right _ h))
  have hS : va_S (Ab base) s.heap s.heap [] := va_S.rf
  have hl := lv_entry ([.ref o, .int (J x), .int (J a), .int (J y)]) (n := 4) (Nat.le_of_ble_eq_true rfl)
  rw [lg_entry_eq]
  generalize (lg_sl ([.ref o, .int (J x), .int (J a), .int (J y)]) ++ List.replicate (4 - (lg_sl ([.ref o, .int (J x), .int (J a), .int (J y)])).length) Slot.unset).toArray = ls at hl ⊢
  have hl : lv_has ls 4 [(0, .ref o), (1, .int (J x)), (2, .int (J a)), (3, .int (J y))] := hl
  have hF : Fr (FP 4 kd4 o R) h0 h0 := Fr.rf
  refine lv_aload_n hx hb dX4_enter_0 rfl (lv_at hl 0 rfl) ?_
  refine g_get (ci := 4) (C := RX4) (T := TX4) (N := 4) (v := .int (J (I 3))) hx hb hfX4 (fun _ h9 => h9) hown hk hW hM.1 rfl 3 (by decide) (hts (.fieldLink RX4 21 "JugsAndGlasses$Tour" "reached" "I") (by decide +kernel)) rfl rfl dX4_enter_1 ?_
  refine lv_aload_n hx hb dX4_enter_4 rfl (lv_at hl 0 rfl) ?_
  refine g_get (ci := 4) (C := RX4) (T := TX4) (N := 4) (v := .ref (R 0)) hx hb hfX4 (fun _ h9 => h9) hown hk hW hM.1 rfl 0 (by decide) (hts (.fieldLink RX4 9 "JugsAndGlasses$Tour" "found" "[I") (by decide +kernel)) rfl rfl dX4_enter_5 ?_
  refine g_alen (n := L 0) hx hb hk hW (hM.ai 0 (by decide) rfl) (by omega) dX4_enter_8 ?_
  refine j_icmp_ge (x := I 3) (y := L 0) (tgt := 33) hx hb ⟨by omega, by omega⟩ ⟨by omega, by omega⟩ dX4_enter_9 (by decide) (fun c_9 => ?_) (fun c_9 => ?_)
  · exfalso
    omega
  · refine lv_aload_n hx hb dX4_enter_12 rfl (lv_at hl 0 rfl) ?_
    refine lv_iload_n hx hb dX4_enter_13 rfl (lv_at hl 1 rfl) ?_
    refine g_callV (As := [.int (J x)]) (rest := []) (b := o) (ci := 4) (C := RX4) (T := TX4) (N := 4) ⟨hx, hb, hml, hown, hts⟩ (t_knows l g base sa h0 o R I L A x hM ⟨by omega, by omega⟩ ⟨hL.1, hL.2.1⟩ hlv) (cwV 1 hts gX4_enter_X4_knows rfl rfl rfl (by decide +kernel) ⟨Nat.le_of_ble_eq_true rfl, Nat.le_of_ble_eq_true rfl⟩) hk hW hS hM.1 rfl rfl hl.1 (Nat.le_of_ble_eq_true rfl) dX4_enter_14 ⟨Nat.le_of_ble_eq_true rfl, Nat.le_of_ble_eq_true rfl⟩ (fun r9 h9 H locs hp hW hS => ?_)
    obtain ⟨rfl, e9⟩ := hp
    rw [e9] at hW
    refine W.eq (g2 := F0 m 17 ls [.int (J (p_kn (L 1) (A 1) x))]) rfl ?_
    have hkr := p_kn_r (L 1) (A 1) x
    refine j_if_eq (x := p_kn (L 1) (A 1) x) (tgt := 33) hx hb ⟨by omega, by omega⟩ dX4_enter_17 (by decide) (fun c_17 => ?_) (fun c_17 => ?_)
    · exfalso
      have := p_kn_0 c_17; omega
    · refine lv_iload_n hx hb dX4_enter_20 rfl (lv_at hl 3 rfl) ?_
      refine j_if_lt (x := y) (tgt := 33) hx hb ⟨by omega, by omega⟩ dX4_enter_21 (by decide) (fun c_21 => ?_) (fun c_21 => ?_)
      · exfalso
        omega
      · refine lv_iload_n hx hb dX4_enter_24 rfl (lv_at hl 3 rfl) ?_
        refine lv_aload_n hx hb dX4_enter_25 rfl (lv_at hl 0 rfl) ?_
        refine g_get (ci := 4) (C := RX4) (T := TX4) (N := 4) (v := .ref (R 1)) hx hb hfX4 (fun _ h9 => h9) hown hk hW hM.1 rfl 1 (by decide) (hts (.fieldLink RX4 15 "JugsAndGlasses$Tour" "level" "[I") (by decide +kernel)) rfl rfl dX4_enter_26 ?_
        refine g_alen (n := L 1) hx hb hk hW (hM.ai 1 (by decide) rfl) (by omega) dX4_enter_29 ?_
        refine j_icmp_lt (x := y) (y := L 1) (tgt := 34) hx hb ⟨by omega, by omega⟩ ⟨by omega, by omega⟩ dX4_enter_30 (by decide) (fun c_30 => ?_) (fun c_30 => ?_)
        · refine lv_aload_n hx hb dX4_enter_34 rfl (lv_at hl 0 rfl) ?_
          refine g_get (ci := 4) (C := RX4) (T := TX4) (N := 4) (v := .ref (R 0)) hx hb hfX4 (fun _ h9 => h9) hown hk hW hM.1 rfl 0 (by decide) (hts (.fieldLink RX4 9 "JugsAndGlasses$Tour" "found" "[I") (by decide +kernel)) rfl rfl dX4_enter_35 ?_
          refine lv_aload_n hx hb dX4_enter_38 rfl (lv_at hl 0 rfl) ?_
          refine g_get (ci := 4) (C := RX4) (T := TX4) (N := 4) (v := .int (J (I 3))) hx hb hfX4 (fun _ h9 => h9) hown hk hW hM.1 rfl 3 (by decide) (hts (.fieldLink RX4 21 "JugsAndGlasses$Tour" "reached" "I") (by decide +kernel)) rfl rfl dX4_enter_39 ?_
          refine lv_iload_n hx hb dX4_enter_42 rfl (lv_at hl 3 rfl) ?_
          refine o_iast (A' := (va_up A 0 (uf (A 0) (I 3) y))) (i := I 3) (x := y) hx hb hk hW hS hM hF 0 (by decide) rfl (FP.a 0 (by decide) ⟨by decide, by decide⟩) (by omega) (show I 3 < L 0 from by omega) (show L 0 < 2147483648 from by omega) rfl dX4_enter_43 (fun h H locs hM hF hst hW hS => ?_)
          refine lv_aload_n hx hb dX4_enter_44 rfl (lv_at hl 0 rfl) ?_
          refine lv_dup hx hb dX4_enter_45 rfl ?_
          refine g_get (ci := 4) (C := RX4) (T := TX4) (N := 4) (v := .int (J (I 3))) hx hb hfX4 (fun _ h9 => h9) hown hk hW hM.1 rfl 3 (by decide) (hts (.fieldLink RX4 21 "JugsAndGlasses$Tour" "reached" "I") (by decide +kernel)) rfl rfl dX4_enter_46 ?_
          refine lv_iconst (v := J (1)) hx hb dX4_enter_49 rfl ?_
          refine j_iadd hx hb dX4_enter_50 ?_
          refine o_put (I' := (va_up I 3 ((I 3) + 1))) (ci := 4) (C := RX4) (T := TX4) (N := 4) (ty := .int) hx hb hfX4 (fun _ h9 => h9) tyX4 tyX4_ok nmX4 hown hk hW hS hM hF FP.o rfl 3 (by decide) rfl (hts (.fieldLink RX4 21 "JugsAndGlasses$Tour" "reached" "I") (by decide +kernel)) rfl rfl (by decide +kernel) rfl rfl rfl dX4_enter_51 (fun h H locs hM hF hst hW hS => ?_)
          refine lv_aload_n hx hb dX4_enter_54 rfl (lv_at hl 0 rfl) ?_
          refine g_get (ci := 4) (C := RX4) (T := TX4) (N := 4) (v := .ref (R 1)) hx hb hfX4 (fun _ h9 => h9) hown hk hW hM.1 rfl 1 (by decide) (hts (.fieldLink RX4 15 "JugsAndGlasses$Tour" "level" "[I") (by decide +kernel)) rfl rfl dX4_enter_55 ?_
          refine lv_iload_n hx hb dX4_enter_58 rfl (lv_at hl 3 rfl) ?_
          refine lv_aload_n hx hb dX4_enter_59 rfl (lv_at hl 0 rfl) ?_
          refine g_get (ci := 4) (C := RX4) (T := TX4) (N := 4) (v := .ref (R 1)) hx hb hfX4 (fun _ h9 => h9) hown hk hW hM.1 rfl 1 (by decide) (hts (.fieldLink RX4 15 "JugsAndGlasses$Tour" "level" "[I") (by decide +kernel)) rfl rfl dX4_enter_60 ?_
          refine lv_iload_n hx hb dX4_enter_63 rfl (lv_at hl 1 rfl) ?_
          refine g_iald (n := L 1) (f := A 1) (i := x) hx hb hk hW (hM.ai 1 (by decide) rfl) (by omega) (by omega) (by omega) dX4_enter_64 ?_
          refine lv_iconst (v := J (1)) hx hb dX4_enter_65 rfl ?_
          refine j_iadd hx hb dX4_enter_66 ?_
          refine o_iast (A' := (va_up (va_up A 0 (uf (A 0) (I 3) y)) 1 (uf (A 1) y ((A 1 x) + 1)))) (i := y) (x := (A 1 x) + 1) hx hb hk hW hS hM hF 1 (by decide) rfl (FP.a 1 (by decide) ⟨by decide, by decide⟩) (by omega) (show y < L 1 from by omega) (show L 1 < 2147483648 from by omega) rfl dX4_enter_67 (fun h H locs hM hF hst hW hS => ?_)
          refine lv_aload_n hx hb dX4_enter_68 rfl (lv_at hl 0 rfl) ?_
          refine g_get (ci := 4) (C := RX4) (T := TX4) (N := 4) (v := .ref (R 2)) hx hb hfX4 (fun _ h9 => h9) hown hk hW hM.1 rfl 2 (by decide) (hts (.fieldLink RX4 18 "JugsAndGlasses$Tour" "cause" "[I") (by decide +kernel)) rfl rfl dX4_enter_69 ?_
          refine lv_iload_n hx hb dX4_enter_72 rfl (lv_at hl 3 rfl) ?_
          refine lv_iload_n hx hb dX4_enter_73 rfl (lv_at hl 1 rfl) ?_
          refine lv_bipush (v := J (32)) hx hb dX4_enter_74 (by decide) ?_
          refine j_imul hx hb dX4_enter_76 ?_
          refine lv_iload_n hx hb dX4_enter_77 rfl (lv_at hl 2 rfl) ?_
          refine j_iadd hx hb dX4_enter_78 ?_
          refine o_iast (A' := (va_up (va_up (va_up A 0 (uf (A 0) (I 3) y)) 1 (uf (A 1) y ((A 1 x) + 1))) 2 (uf (A 2) y ((x * 32) + a)))) (i := y) (x := (x * 32) + a) hx hb hk hW hS hM hF 2 (by decide) rfl (FP.a 2 (by decide) ⟨by decide, by decide⟩) (by omega) (show y < L 2 from by omega) (show L 2 < 2147483648 from by omega) rfl dX4_enter_79 (fun h H locs hM hF hst hW hS => ?_)
          exact g_vret hx hb hr hW hS dX4_enter_80 hlocks (⟨rfl, hM, hF⟩)
        · exfalso
          omega

set_option maxHeartbeats 4000000 in
set_option maxRecDepth 100000 in
theorem t_actOfRow (l : Launch) (g : GX) (base : Nat) (sa : Nat → Nat) (h0 : Hp) (o : Nat) (R : Nat → Nat) (I : Nat → Int) (L : Nat → Int) (A : Nat → Int → Int) (x k : Int) (hM : OB g 4 4 kd4 h0 o R I L A) (hx9 : i32 x) (hk9 : i32 k) (hL : 0 ≤ L 1 ∧ L 1 ≤ 14641) (hL2 : L 2 = L 1) (hTI : TI (L 1) (A 1) (A 2)) : MC l g base sa yX4_actOfRow wsX4_actOfRow ({ frames := 1, cells := 0, slots := 0, locals := 21 }) ([.ref o, .int (J x), .int (J k)]) h0 (fun r h' => r = some (.int (J (p_row (L 1) (A 1) (A 2) x k))) ∧ h' = h0) := by
  refine Met.ofW (cc := cX4_actOfRow) (maxL := 5) (ret := (some .int)) (by decide) rfl ?_
  intro p e s m args below meth c s₁ B hml hv
  obtain ⟨rfl, hk, hW⟩ := hv
  have hx := B.exec
  have hb := B.bytes
  have hr := B.returns
  have hts := atoms_spec (ws := wsX4_actOfRow) B.pre
  have hown : s.vm.findClass RX4 = some m.cls := findClass_of_methodNamed B.named
  have hlocks := B.notSynchronized
  have hfX4 : ∀ w ∈ wsX40, w.before ([.ref o, .int (J x), .int (J k)]).toArray s = true := fun w h => hts w (List.mem_cons_of_mem _ (List.mem_append_right _ h))
  have hS : va_S (Ab base) s.heap s.heap [] := va_S.rf
  have hl := lv_entry ([.ref o, .int (J x), .int (J k)]) (n := 5) (Nat.le_of_ble_eq_true rfl)
  rw [lg_entry_eq]
  generalize (lg_sl ([.ref o, .int (J x), .int (J k)]) ++ List.replicate (5 - (lg_sl ([.ref o, .int (J x), .int (J k)])).length) Slot.unset).toArray = ls at hl ⊢
  have hl : lv_has ls 5 [(0, .ref o), (1, .int (J x)), (2, .int (J k))] := hl
  have hlv : ∀ j, 0 ≤ j → j < L 1 → i32 (A 1 j) := fun j a b => (hTI j a b).1
  obtain ⟨hk1, hk2⟩ := id hk9
  refine lv_aload_n hx hb dX4_actOfRow_0 rfl (lv_at hl 0 rfl) ?_
  refine lv_iload_n hx hb dX4_actOfRow_1 rfl (lv_at hl 1 rfl) ?_
  refine g_callV (As := [.int (J x)]) (rest := []) (b := o) (ci := 4) (C := RX4) (T := TX4) (N := 4) ⟨hx, hb, hml, hown, hts⟩ (t_knows l g base sa h0 o R I L A x hM hx9 hL hlv) (cwV 1 hts gX4_actOfRow_X4_knows rfl rfl rfl (by decide +kernel) ⟨Nat.le_of_ble_eq_true rfl, Nat.le_of_ble_eq_true rfl⟩) hk hW hS hM.1 rfl rfl hl.1 (Nat.le_of_ble_eq_true rfl) dX4_actOfRow_2 ⟨Nat.le_of_ble_eq_true rfl, Nat.le_of_ble_eq_true rfl⟩ (fun r9 h9 H locs hp hW hS => ?_)
  obtain ⟨rfl, e9⟩ := hp
  rw [e9] at hW
  refine W.eq (g2 := F0 m 5 ls [.int (J (p_kn (L 1) (A 1) x))]) rfl ?_
  have hkr := p_kn_r (L 1) (A 1) x
  refine j_if_eq (x := p_kn (L 1) (A 1) x) (tgt := 22) hx hb ⟨by omega, by omega⟩ dX4_actOfRow_5 (by decide) (fun c_5 => ?_) (fun c_5 => ?_)
  · refine lv_iconst (v := J (-1)) hx hb dX4_actOfRow_22 rfl ?_
    exact g_iret hx hb hr hW hS dX4_actOfRow_23 hlocks (⟨congrArg (fun z : Int => some (Value.int (J z))) (show -1 = p_row (L 1) (A 1) (A 2) x k from by unfold p_row; first | (have := p_kn_0 c_5; rw [if_neg (by omega)]) | (rw [if_neg (by omega)])), rfl⟩)
  · have hq := p_kn_1 c_5
    have hlx := hlv x (by omega) (by omega)
    obtain ⟨hlx1, hlx2⟩ := id hlx
    refine lv_iload_n hx hb dX4_actOfRow_8 rfl (lv_at hl 2 rfl) ?_
    refine j_if_lt (x := k) (tgt := 22) hx hb ⟨by omega, by omega⟩ dX4_actOfRow_9 (by decide) (fun c_9 => ?_) (fun c_9 => ?_)
    · refine lv_iconst (v := J (-1)) hx hb dX4_actOfRow_22 rfl ?_
      exact g_iret hx hb hr hW hS dX4_actOfRow_23 hlocks (⟨congrArg (fun z : Int => some (Value.int (J z))) (show -1 = p_row (L 1) (A 1) (A 2) x k from by unfold p_row; first | (have := p_kn_0 c_5; rw [if_neg (by omega)]) | (rw [if_neg (by omega)])), rfl⟩)
    · refine lv_iload_n hx hb dX4_actOfRow_12 rfl (lv_at hl 2 rfl) ?_
      refine lv_aload_n hx hb dX4_actOfRow_13 rfl (lv_at hl 0 rfl) ?_
      refine g_get (ci := 4) (C := RX4) (T := TX4) (N := 4) (v := .ref (R 1)) hx hb hfX4 (fun _ h9 => h9) hown hk hW hM.1 rfl 1 (by decide) (hts (.fieldLink RX4 15 "JugsAndGlasses$Tour" "level" "[I") (by decide +kernel)) rfl rfl dX4_actOfRow_14 ?_
      refine lv_iload_n hx hb dX4_actOfRow_17 rfl (lv_at hl 1 rfl) ?_
      refine g_iald (n := L 1) (f := A 1) (i := x) hx hb hk hW (hM.ai 1 (by decide) rfl) (by omega) (by omega) (by omega) dX4_actOfRow_18 ?_
      refine j_icmp_lt (x := k) (y := A 1 x) (tgt := 24) hx hb ⟨by omega, by omega⟩ ⟨by omega, by omega⟩ dX4_actOfRow_19 (by decide) (fun c_19 => ?_) (fun c_19 => ?_)
      · refine lv_iload_n hx hb dX4_actOfRow_24 rfl (lv_at hl 1 rfl) ?_
        refine lv_istore_n (lv' := [(3, .int (J x)), (0, .ref o), (1, .int (J x)), (2, .int (J k))]) hx hb dX4_actOfRow_25 rfl hl (by decide) rfl (fun ls hl => ?_)
        refine lv_aload_n hx hb dX4_actOfRow_26 rfl (lv_at hl 1 rfl) ?_
        refine g_get (ci := 4) (C := RX4) (T := TX4) (N := 4) (v := .ref (R 1)) hx hb hfX4 (fun _ h9 => h9) hown hk hW hM.1 rfl 1 (by decide) (hts (.fieldLink RX4 15 "JugsAndGlasses$Tour" "level" "[I") (by decide +kernel)) rfl rfl dX4_actOfRow_27 ?_
        refine lv_iload_n hx hb dX4_actOfRow_30 rfl (lv_at hl 2 rfl) ?_
        refine g_iald (n := L 1) (f := A 1) (i := x) hx hb hk hW (hM.ai 1 (by decide) rfl) (by omega) (by omega) (by omega) dX4_actOfRow_31 ?_
        refine lv_iconst (v := J (1)) hx hb dX4_actOfRow_32 rfl ?_
        refine j_isub hx hb dX4_actOfRow_33 ?_
        refine lv_istore (lv' := [(4, .int (J ((A 1 x) - 1))), (3, .int (J x)), (0, .ref o), (1, .int (J x)), (2, .int (J k))]) hx hb dX4_actOfRow_34 hl (by decide) rfl (fun ls hl => ?_)
        have loop_36 : ∀ (n9 : Nat) (y : Int) (j : Int) (h : Hp) (H : Heap) (locs : List Loc) (ls : Array Slot), j - k < (n9 : Int) → (0 ≤ y ∧ y < L 1) → (k ≤ j ∧ j < A 1 x) → (A 1 y = j + 1) → (upN (A 2) (A 1 x - 1 - k).toNat x = upN (A 2) (j - k).toNat y) → (h = h0) → (OB g 4 4 kd4 h o R I L A) → (Wd g base h H) → (va_S (Ab base) s.heap H locs) → (lv_has ls 5 [(0, .ref o), (1, .int (J x)), (2, .int (J k)), (3, .int (J y)), (4, .int (J j))]) → W p l e (headSpec wsX4_actOfRow ({ frames := 1, cells := 0, slots := 0, locals := 21 })).room s m ([.ref o, .int (J x), .int (J k)]).toArray below meth c H locs 0 0 (MQ below (QcM g base (fun r h' => r = some (.int (J (p_row (L 1) (A 1) (A 2) x k))) ∧ h' = h0)) ([.ref o, .int (J x), .int (J k)]).toArray s (0) (0) (Ab base)) (F0 m 36 ls []) := by
          intro n9
          induction n9 with
          | zero =>
            intro y j h H locs ls hmu hy9 hj9 ely eup eh hM hW hS hl
            exact absurd hmu (by omega)
          | succ n9 ih =>
            intro y j h H locs ls hmu hy9 hj9 ely eup eh hM hW hS hl
            have ih_36 := ih
            refine lv_iload hx hb dX4_actOfRow_36 (lv_at hl 4 rfl) ?_
            refine lv_iload_n hx hb dX4_actOfRow_38 rfl (lv_at hl 2 rfl) ?_
            refine j_icmp_le (x := j) (y := k) (tgt := 66) hx hb ⟨by omega, by omega⟩ ⟨by omega, by omega⟩ dX4_actOfRow_39 (by decide) (fun c_39 => ?_) (fun c_39 => ?_)
            · refine lv_aload_n hx hb dX4_actOfRow_66 rfl (lv_at hl 0 rfl) ?_
              refine lv_iload_n hx hb dX4_actOfRow_67 rfl (lv_at hl 3 rfl) ?_
              refine g_callV (As := [.int (J y)]) (rest := []) (b := o) (ci := 4) (C := RX4) (T := TX4) (N := 4) ⟨hx, hb, hml, hown, hts⟩ (t_knows l g base sa h o R I L A y hM ⟨by omega, by omega⟩ hL hlv) (cwV 1 hts gX4_actOfRow_X4_knows rfl rfl rfl (by decide +kernel) ⟨Nat.le_of_ble_eq_true rfl, Nat.le_of_ble_eq_true rfl⟩) hk hW hS hM.1 rfl rfl hl.1 (Nat.le_of_ble_eq_true rfl) dX4_actOfRow_68 ⟨Nat.le_of_ble_eq_true rfl, Nat.le_of_ble_eq_true rfl⟩ (fun r9 h9 H locs hp hW hS => ?_)
              obtain ⟨rfl, e9⟩ := hp
              rw [e9] at hW
              refine W.eq (g2 := F0 m 71 ls [.int (J (p_kn (L 1) (A 1) y))]) rfl ?_
              have hkr := p_kn_r (L 1) (A 1) y
              refine j_if_eq (x := p_kn (L 1) (A 1) y) (tgt := 86) hx hb ⟨by omega, by omega⟩ dX4_actOfRow_71 (by decide) (fun c_71 => ?_) (fun c_71 => ?_)
              · exfalso
                have := p_kn_0 c_71; omega
              · have hty := (hTI y hy9.1 hy9.2).2 (by omega)
                refine lv_aload_n hx hb dX4_actOfRow_74 rfl (lv_at hl 0 rfl) ?_
                refine g_get (ci := 4) (C := RX4) (T := TX4) (N := 4) (v := .ref (R 2)) hx hb hfX4 (fun _ h9 => h9) hown hk hW hM.1 rfl 2 (by decide) (hts (.fieldLink RX4 18 "JugsAndGlasses$Tour" "cause" "[I") (by decide +kernel)) rfl rfl dX4_actOfRow_75 ?_
                refine lv_iload_n hx hb dX4_actOfRow_78 rfl (lv_at hl 3 rfl) ?_
                refine g_iald (n := L 2) (f := A 2) (i := y) hx hb hk hW (hM.ai 2 (by decide) rfl) (by omega) (by omega) (by omega) dX4_actOfRow_79 ?_
                refine lv_bipush (v := J (32)) hx hb dX4_actOfRow_80 (by decide) ?_
                refine j_irem hx hb (by omega) (by omega) (by omega) (by omega) dX4_actOfRow_82 ?_
                refine lv_goto (tgt := 87) hx hb dX4_actOfRow_83 (by decide) ?_
                exact g_iret hx hb hr hW hS dX4_actOfRow_87 hlocks (⟨congrArg (fun z : Int => some (Value.int (J z))) (show (A 2 y) % 32 = p_row (L 1) (A 1) (A 2) x k from by unfold p_row; rw [if_pos (by omega), eup, show (j - k).toNat = 0 by omega]; rfl), eh⟩)
            · refine lv_aload_n hx hb dX4_actOfRow_42 rfl (lv_at hl 0 rfl) ?_
              refine lv_iload_n hx hb dX4_actOfRow_43 rfl (lv_at hl 3 rfl) ?_
              refine g_callV (As := [.int (J y)]) (rest := []) (b := o) (ci := 4) (C := RX4) (T := TX4) (N := 4) ⟨hx, hb, hml, hown, hts⟩ (t_knows l g base sa h o R I L A y hM ⟨by omega, by omega⟩ hL hlv) (cwV 1 hts gX4_actOfRow_X4_knows rfl rfl rfl (by decide +kernel) ⟨Nat.le_of_ble_eq_true rfl, Nat.le_of_ble_eq_true rfl⟩) hk hW hS hM.1 rfl rfl hl.1 (Nat.le_of_ble_eq_true rfl) dX4_actOfRow_44 ⟨Nat.le_of_ble_eq_true rfl, Nat.le_of_ble_eq_true rfl⟩ (fun r9 h9 H locs hp hW hS => ?_)
              obtain ⟨rfl, e9⟩ := hp
              rw [e9] at hW
              refine W.eq (g2 := F0 m 47 ls [.int (J (p_kn (L 1) (A 1) y))]) rfl ?_
              have hkr := p_kn_r (L 1) (A 1) y
              refine j_if_eq (x := p_kn (L 1) (A 1) y) (tgt := 66) hx hb ⟨by omega, by omega⟩ dX4_actOfRow_47 (by decide) (fun c_47 => ?_) (fun c_47 => ?_)
              · exfalso
                have := p_kn_0 c_47; omega
              · have hty := (hTI y hy9.1 hy9.2).2 (by omega)
                have hdv := Int.ediv_nonneg hty.1 (show (0 : Int) ≤ 32 by decide)
                refine lv_aload_n hx hb dX4_actOfRow_50 rfl (lv_at hl 0 rfl) ?_
                refine g_get (ci := 4) (C := RX4) (T := TX4) (N := 4) (v := .ref (R 2)) hx hb hfX4 (fun _ h9 => h9) hown hk hW hM.1 rfl 2 (by decide) (hts (.fieldLink RX4 18 "JugsAndGlasses$Tour" "cause" "[I") (by decide +kernel)) rfl rfl dX4_actOfRow_51 ?_
                refine lv_iload_n hx hb dX4_actOfRow_54 rfl (lv_at hl 3 rfl) ?_
                refine g_iald (n := L 2) (f := A 2) (i := y) hx hb hk hW (hM.ai 2 (by decide) rfl) (by omega) (by omega) (by omega) dX4_actOfRow_55 ?_
                refine lv_bipush (v := J (32)) hx hb dX4_actOfRow_56 (by decide) ?_
                refine j_idiv hx hb (by omega) (by omega) (by omega) (by omega) dX4_actOfRow_58 ?_
                refine lv_istore_n (lv' := [(3, .int (J ((A 2 y) / 32))), (0, .ref o), (1, .int (J x)), (2, .int (J k)), (4, .int (J j))]) hx hb dX4_actOfRow_59 rfl hl (by decide) rfl (fun ls hl => ?_)
                refine lv_iinc (v := J (j - 1)) (lv' := [(4, .int (J (j - 1))), (3, .int (J ((A 2 y) / 32))), (0, .ref o), (1, .int (J x)), (2, .int (J k))]) hx hb dX4_actOfRow_60 hl (k := 4) rfl (J_inc (by omega)) (by decide) rfl (fun ls hl => ?_)
                refine lv_goto (tgt := 36) hx hb dX4_actOfRow_63 (by decide) ?_
                exact ih_36 (A 2 y / 32) (j - 1) h H locs ls (by omega) (by omega) (by omega) (by rw [hty.2.2.2]; omega) (by rw [eup, upN_s _ (by omega), show j - k - 1 = j - 1 - k by omega]) eh hM hW hS (lv_sub hl [2, 3, 4, 1, 0] rfl)
        exact loop_36 ((A 1 x - 1 - k).toNat + 1) x (A 1 x - 1) h0 H locs ls (by omega) (by omega) (by omega) (by omega) rfl rfl hM hW hS (lv_sub hl [2, 3, 4, 1, 0] rfl)
      · refine lv_iconst (v := J (-1)) hx hb dX4_actOfRow_22 rfl ?_
        exact g_iret hx hb hr hW hS dX4_actOfRow_23 hlocks (⟨congrArg (fun z : Int => some (Value.int (J z))) (show -1 = p_row (L 1) (A 1) (A 2) x k from by unfold p_row; first | (have := p_kn_0 c_5; rw [if_neg (by omega)]) | (rw [if_neg (by omega)])), rfl⟩)
