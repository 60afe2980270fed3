theorem rA_min (si sj a b : Int) (h1 : ¬ b = sj) (h2 : ¬ a = 0) : a - min a (sj - b) = rA si sj a b ∧ b + min a (sj - b) = rB sj a b := by
  unfold rA rB
  rw [if_neg h1, if_neg h1, if_neg h2, if_neg h2]
  constructor <;> split <;> omega

set_option maxHeartbeats 4000000 in
set_option maxRecDepth 100000 in
theorem x_actsOfRoad (l : Launch) (g : GX) (base : Nat) (sa : Nat → Nat) (h0 : Hp) (si sj v : Int) (h1 : 1 ≤ si ∧ si ≤ 10) (h2 : 1 ≤ sj ∧ sj ≤ 10) (h3 : 1 ≤ v ∧ v ≤ 10) : MC l g base sa yX5_actsOfRoad wsX5_actsOfRoad ({ frames := 1, cells := 0, slots := 0, locals := 40 }) ([.int (J si), .int (J sj), .int (J v)]) h0 (fun r h' => r = some (.int (J (rdF si sj v 121 0 0 0))) ∧ h' = h0) := by
  refine Met.ofW (cc := cX5_actsOfRoad) (maxL := 7) (ret := (some .int)) (by decide) rfl ?_
  intro p e s m args below meth c s₁ B hml hv
  obtain ⟨rfl, hk, hW⟩ := hv
  have hx := B.exec
  have hb := B.bytes
  have hr := B.returns
  have hts := atoms_spec (ws := wsX5_actsOfRoad) B.pre
  have hown : s.vm.findClass RX5 = some m.cls := findClass_of_methodNamed B.named
  have hlocks := B.notSynchronized
  have hS : va_S (Ab base) s.heap s.heap [] := va_S.rf
  have hl := lv_entry ([.int (J si), .int (J sj), .int (J v)]) (n := 7) (Nat.le_of_ble_eq_true rfl)
  rw [lg_entry_eq]
  generalize (lg_sl ([.int (J si), .int (J sj), .int (J v)]) ++ List.replicate (7 - (lg_sl ([.int (J si), .int (J sj), .int (J v)])).length) Slot.unset).toArray = ls at hl ⊢
  have hl : lv_has ls 7 [(0, .int (J si)), (1, .int (J sj)), (2, .int (J v))] := hl
  have hok := rdF_ok h1 h2 h3
  refine lv_iconst (v := J (0)) hx hb dX5_actsOfRoad_0 rfl ?_
  refine lv_istore_n (lv' := [(3, .int (J 0)), (0, .int (J si)), (1, .int (J sj)), (2, .int (J v))]) hx hb dX5_actsOfRoad_1 rfl hl (by decide) rfl (fun ls hl => ?_)
  refine lv_iconst (v := J (0)) hx hb dX5_actsOfRoad_2 rfl ?_
  refine lv_istore (lv' := [(4, .int (J 0)), (3, .int (J 0)), (0, .int (J si)), (1, .int (J sj)), (2, .int (J v))]) hx hb dX5_actsOfRoad_3 hl (by decide) rfl (fun ls hl => ?_)
  refine lv_iconst (v := J (1)) hx hb dX5_actsOfRoad_5 rfl ?_
  refine lv_istore (lv' := [(5, .int (J 1)), (4, .int (J 0)), (3, .int (J 0)), (0, .int (J si)), (1, .int (J sj)), (2, .int (J v))]) hx hb dX5_actsOfRoad_6 hl (by decide) rfl (fun ls hl => ?_)
  have loop_8 : ∀ (n9 : Nat) (dn : Int) (a : Int) (b : Int) (h : Hp) (H : Heap) (locs : List Loc) (ls : Array Slot), 122 - dn < (n9 : Int) → (1 ≤ dn ∧ dn ≤ 122) → (0 ≤ a ∧ a ≤ si) → (0 ≤ b ∧ b ≤ sj) → (rdF si sj v (121 - (dn - 1)).toNat (dn - 1) a b = rdF si sj v 121 0 0 0) → (h = h0) → (Wd g base h H) → (va_S (Ab base) s.heap H locs) → (lv_has ls 7 [(0, .int (J si)), (1, .int (J sj)), (2, .int (J v)), (3, .int (J a)), (4, .int (J b)), (5, .int (J dn))]) → W p l e (headSpec wsX5_actsOfRoad ({ frames := 1, cells := 0, slots := 0, locals := 40 })).room s m ([.int (J si), .int (J sj), .int (J v)]).toArray below meth c H locs 0 0 (MQ below (QcM g base (fun r h' => r = some (.int (J (rdF si sj v 121 0 0 0))) ∧ h' = h0)) ([.int (J si), .int (J sj), .int (J v)]).toArray s (0) (0) (Ab base)) (F0 m 8 ls []) := by
    intro n9
    induction n9 with
    | zero =>
      intro dn a b h H locs ls hmu hk9 ha9 hb9 hrd eh hW hS hl
      exact absurd hmu (by omega)
    | succ n9 ih =>
      intro dn a b h H locs ls hmu hk9 ha9 hb9 hrd eh hW hS hl
      have hrs := rdF_s (si := si) (sj := sj) (v := v) (k := dn - 1) (a := a) (b := b) (by omega) (by rw [hrd]; exact hok)
      have hlt := hrs.1
      rw [hrs.2] at hrd
      have ih_8 := ih
      refine lv_iload hx hb dX5_actsOfRoad_8 (lv_at hl 5 rfl) ?_
      refine lv_bipush (v := J (121)) hx hb dX5_actsOfRoad_10 (by decide) ?_
      refine j_icmp_gt (x := dn) (y := 121) (tgt := 89) hx hb ⟨by omega, by omega⟩ ⟨by decide, by decide⟩ dX5_actsOfRoad_12 (by decide) (fun c_12 => ?_) (fun c_12 => ?_)
      · exfalso
        omega
      · refine lv_iload hx hb dX5_actsOfRoad_15 (lv_at hl 4 rfl) ?_
        refine lv_iload_n hx hb dX5_actsOfRoad_17 rfl (lv_at hl 1 rfl) ?_
        refine j_icmp_ne (x := b) (y := sj) (tgt := 27) hx hb ⟨by omega, by omega⟩ ⟨by omega, by omega⟩ dX5_actsOfRoad_18 (by decide) (fun c_18 => ?_) (fun c_18 => ?_)
        · refine lv_iload_n hx hb dX5_actsOfRoad_27 rfl (lv_at hl 3 rfl) ?_
          refine j_if_ne (x := a) (tgt := 36) hx hb ⟨by omega, by omega⟩ dX5_actsOfRoad_28 (by decide) (fun c_28 => ?_) (fun c_28 => ?_)
          · refine lv_iload_n hx hb dX5_actsOfRoad_36 rfl (lv_at hl 3 rfl) ?_
            refine lv_iload_n hx hb dX5_actsOfRoad_37 rfl (lv_at hl 1 rfl) ?_
            refine lv_iload hx hb dX5_actsOfRoad_38 (lv_at hl 4 rfl) ?_
            refine j_isub hx hb dX5_actsOfRoad_40 ?_
            refine j_mmin (x := a) (y := sj - b) hx hb (by rw [hml]; exact hl.1.symm) hown (hts (.methodLink RX5 152 Lib.Math.min.name) (by decide +kernel)) (hts (.static Lib.Math.min.name) (by decide +kernel)) (hts (.initialized "java/lang/Math") (by decide +kernel)) (hts (.code Lib.Math.min.name Lib.Math.min.code 2 (some .int)) (by decide +kernel)) (Nat.le_of_ble_eq_true rfl) (Nat.le_of_ble_eq_true rfl) (Nat.le_of_ble_eq_true rfl) (Nat.le_of_ble_eq_true rfl) ⟨by omega, by omega⟩ ⟨by omega, by omega⟩ dX5_actsOfRoad_41 ?_
            refine lv_istore (lv' := [(6, .int (J (min a (sj - b)))), (0, .int (J si)), (1, .int (J sj)), (2, .int (J v)), (3, .int (J a)), (4, .int (J b)), (5, .int (J dn))]) hx hb dX5_actsOfRoad_44 hl (by decide) rfl (fun ls hl => ?_)
            refine lv_iload_n hx hb dX5_actsOfRoad_46 rfl (lv_at hl 4 rfl) ?_
            refine lv_iload hx hb dX5_actsOfRoad_47 (lv_at hl 0 rfl) ?_
            refine j_isub hx hb dX5_actsOfRoad_49 ?_
            refine lv_istore_n (lv' := [(3, .int (J (a - (min a (sj - b))))), (6, .int (J (min a (sj - b)))), (0, .int (J si)), (1, .int (J sj)), (2, .int (J v)), (4, .int (J b)), (5, .int (J dn))]) hx hb dX5_actsOfRoad_50 rfl hl (by decide) rfl (fun ls hl => ?_)
            refine lv_iload hx hb dX5_actsOfRoad_51 (lv_at hl 5 rfl) ?_
            refine lv_iload hx hb dX5_actsOfRoad_53 (lv_at hl 1 rfl) ?_
            refine j_iadd hx hb dX5_actsOfRoad_55 ?_
            refine lv_istore (lv' := [(4, .int (J (b + (min a (sj - b))))), (3, .int (J (a - (min a (sj - b))))), (6, .int (J (min a (sj - b)))), (0, .int (J si)), (1, .int (J sj)), (2, .int (J v)), (5, .int (J dn))]) hx hb dX5_actsOfRoad_56 hl (by decide) rfl (fun ls hl => ?_)
            have ea : a - (min a (sj - b)) = rA si sj a b := (rA_min si sj a b c_18 c_28).1
            have eb : b + (min a (sj - b)) = rB sj a b := (rA_min si sj a b c_18 c_28).2
            have hrr := rd_r (si := si) (sj := sj) (a := a) (b := b) (by omega) (by omega) ha9 hb9
            rw [← ea, ← eb] at hrd hrr
            refine lv_iload_n hx hb dX5_actsOfRoad_58 rfl (lv_at hl 1 rfl) ?_
            refine lv_iload_n hx hb dX5_actsOfRoad_59 rfl (lv_at hl 5 rfl) ?_
            refine j_icmp_eq (x := a - (min a (sj - b))) (y := v) (tgt := 69) hx hb ⟨by omega, by omega⟩ ⟨by omega, by omega⟩ dX5_actsOfRoad_60 (by decide) (fun c_60 => ?_) (fun c_60 => ?_)
            · refine lv_iload hx hb dX5_actsOfRoad_69 (lv_at hl 6 rfl) ?_
              exact g_iret hx hb hr hW hS dX5_actsOfRoad_71 hlocks (⟨congrArg (fun q : Int => some (Value.int (J q))) (show dn = rdF si sj v 121 0 0 0 from by rw [← hrd, if_pos (by omega)]; omega), eh⟩)
            · refine lv_iload hx hb dX5_actsOfRoad_63 (lv_at hl 0 rfl) ?_
              refine lv_iload_n hx hb dX5_actsOfRoad_65 rfl (lv_at hl 5 rfl) ?_
              refine j_icmp_ne (x := b + (min a (sj - b))) (y := v) (tgt := 72) hx hb ⟨by omega, by omega⟩ ⟨by omega, by omega⟩ dX5_actsOfRoad_66 (by decide) (fun c_66 => ?_) (fun c_66 => ?_)
              · refine lv_iload_n hx hb dX5_actsOfRoad_72 rfl (lv_at hl 1 rfl) ?_
                refine j_if_ne (x := a - (min a (sj - b))) (tgt := 83) hx hb ⟨by omega, by omega⟩ dX5_actsOfRoad_73 (by decide) (fun c_73 => ?_) (fun c_73 => ?_)
                · refine lv_iinc (v := J (dn + 1)) (lv' := [(5, .int (J (dn + 1))), (4, .int (J (b + (min a (sj - b))))), (3, .int (J (a - (min a (sj - b))))), (6, .int (J (min a (sj - b)))), (0, .int (J si)), (1, .int (J sj)), (2, .int (J v))]) hx hb dX5_actsOfRoad_83 hl (k := 6) rfl (J_inc (by omega)) (by decide) rfl (fun ls hl => ?_)
                  refine lv_goto (tgt := 8) hx hb dX5_actsOfRoad_86 (by decide) ?_
                  exact ih_8 (dn + 1) (a - (min a (sj - b))) (b + (min a (sj - b))) h H locs ls (by omega) (by omega) (by omega) (by omega) (by rw [if_neg (by omega), if_neg (by omega)] at hrd; rw [show dn + 1 - 1 = dn - 1 + 1 by omega]; exact hrd) eh hW hS (lv_sub hl [4, 5, 6, 2, 1, 0] rfl)
                · refine lv_iload hx hb dX5_actsOfRoad_76 (lv_at hl 0 rfl) ?_
                  refine j_if_ne (x := b + (min a (sj - b))) (tgt := 83) hx hb ⟨by omega, by omega⟩ dX5_actsOfRoad_78 (by decide) (fun c_78 => ?_) (fun c_78 => ?_)
                  · refine lv_iinc (v := J (dn + 1)) (lv' := [(5, .int (J (dn + 1))), (4, .int (J (b + (min a (sj - b))))), (3, .int (J (a - (min a (sj - b))))), (6, .int (J (min a (sj - b)))), (0, .int (J si)), (1, .int (J sj)), (2, .int (J v))]) hx hb dX5_actsOfRoad_83 hl (k := 6) rfl (J_inc (by omega)) (by decide) rfl (fun ls hl => ?_)
                    refine lv_goto (tgt := 8) hx hb dX5_actsOfRoad_86 (by decide) ?_
                    exact ih_8 (dn + 1) (a - (min a (sj - b))) (b + (min a (sj - b))) h H locs ls (by omega) (by omega) (by omega) (by omega) (by rw [if_neg (by omega), if_neg (by omega)] at hrd; rw [show dn + 1 - 1 = dn - 1 + 1 by omega]; exact hrd) eh hW hS (lv_sub hl [4, 5, 6, 2, 1, 0] rfl)
                  · refine lv_iconst (v := J (-1)) hx hb dX5_actsOfRoad_81 rfl ?_
                    exact g_iret hx hb hr hW hS dX5_actsOfRoad_82 hlocks (⟨congrArg (fun q : Int => some (Value.int (J q))) (show -1 = rdF si sj v 121 0 0 0 from by rw [← hrd, if_neg (by omega), if_pos (by omega)]), eh⟩)
              · refine lv_iload hx hb dX5_actsOfRoad_69 (lv_at hl 6 rfl) ?_
                exact g_iret hx hb hr hW hS dX5_actsOfRoad_71 hlocks (⟨congrArg (fun q : Int => some (Value.int (J q))) (show dn = rdF si sj v 121 0 0 0 from by rw [← hrd, if_pos (by omega)]; omega), eh⟩)
          · refine lv_iload_n hx hb dX5_actsOfRoad_31 rfl (lv_at hl 0 rfl) ?_
            refine lv_istore_n (lv' := [(3, .int (J si)), (0, .int (J si)), (1, .int (J sj)), (2, .int (J v)), (4, .int (J b)), (5, .int (J dn))]) hx hb dX5_actsOfRoad_32 rfl hl (by decide) rfl (fun ls hl => ?_)
            refine lv_goto (tgt := 58) hx hb dX5_actsOfRoad_33 (by decide) ?_
            have ea : si = rA si sj a b := by unfold rA; rw [if_neg c_18, if_pos c_28]
            have eb : b = rB sj a b := by unfold rB; rw [if_neg c_18, if_pos c_28]
            have hrr := rd_r (si := si) (sj := sj) (a := a) (b := b) (by omega) (by omega) ha9 hb9
            rw [← ea, ← eb] at hrd hrr
            refine lv_iload_n hx hb dX5_actsOfRoad_58 rfl (lv_at hl 0 rfl) ?_
            refine lv_iload_n hx hb dX5_actsOfRoad_59 rfl (lv_at hl 3 rfl) ?_
            refine j_icmp_eq (x := si) (y := v) (tgt := 69) hx hb ⟨by omega, by omega⟩ ⟨by omega, by omega⟩ dX5_actsOfRoad_60 (by decide) (fun c_60 => ?_) (fun c_60 => ?_)
            · refine lv_iload hx hb dX5_actsOfRoad_69 (lv_at hl 5 rfl) ?_
              exact g_iret hx hb hr hW hS dX5_actsOfRoad_71 hlocks (⟨congrArg (fun q : Int => some (Value.int (J q))) (show dn = rdF si sj v 121 0 0 0 from by rw [← hrd, if_pos (by omega)]; omega), eh⟩)
            · refine lv_iload hx hb dX5_actsOfRoad_63 (lv_at hl 4 rfl) ?_
              refine lv_iload_n hx hb dX5_actsOfRoad_65 rfl (lv_at hl 3 rfl) ?_
              refine j_icmp_ne (x := b) (y := v) (tgt := 72) hx hb ⟨by omega, by omega⟩ ⟨by omega, by omega⟩ dX5_actsOfRoad_66 (by decide) (fun c_66 => ?_) (fun c_66 => ?_)
              · refine lv_iload_n hx hb dX5_actsOfRoad_72 rfl (lv_at hl 0 rfl) ?_
                refine j_if_ne (x := si) (tgt := 83) hx hb ⟨by omega, by omega⟩ dX5_actsOfRoad_73 (by decide) (fun c_73 => ?_) (fun c_73 => ?_)
                · refine lv_iinc (v := J (dn + 1)) (lv' := [(5, .int (J (dn + 1))), (3, .int (J si)), (0, .int (J si)), (1, .int (J sj)), (2, .int (J v)), (4, .int (J b))]) hx hb dX5_actsOfRoad_83 hl (k := 5) rfl (J_inc (by omega)) (by decide) rfl (fun ls hl => ?_)
                  refine lv_goto (tgt := 8) hx hb dX5_actsOfRoad_86 (by decide) ?_
                  exact ih_8 (dn + 1) si b h H locs ls (by omega) (by omega) (by omega) (by omega) (by rw [if_neg (by omega), if_neg (by omega)] at hrd; rw [show dn + 1 - 1 = dn - 1 + 1 by omega]; exact hrd) eh hW hS (lv_sub hl [2, 3, 4, 1, 5, 0] rfl)
                · refine lv_iload hx hb dX5_actsOfRoad_76 (lv_at hl 4 rfl) ?_
                  refine j_if_ne (x := b) (tgt := 83) hx hb ⟨by omega, by omega⟩ dX5_actsOfRoad_78 (by decide) (fun c_78 => ?_) (fun c_78 => ?_)
                  · refine lv_iinc (v := J (dn + 1)) (lv' := [(5, .int (J (dn + 1))), (3, .int (J si)), (0, .int (J si)), (1, .int (J sj)), (2, .int (J v)), (4, .int (J b))]) hx hb dX5_actsOfRoad_83 hl (k := 5) rfl (J_inc (by omega)) (by decide) rfl (fun ls hl => ?_)
                    refine lv_goto (tgt := 8) hx hb dX5_actsOfRoad_86 (by decide) ?_
                    exact ih_8 (dn + 1) si b h H locs ls (by omega) (by omega) (by omega) (by omega) (by rw [if_neg (by omega), if_neg (by omega)] at hrd; rw [show dn + 1 - 1 = dn - 1 + 1 by omega]; exact hrd) eh hW hS (lv_sub hl [2, 3, 4, 1, 5, 0] rfl)
                  · refine lv_iconst (v := J (-1)) hx hb dX5_actsOfRoad_81 rfl ?_
                    exact g_iret hx hb hr hW hS dX5_actsOfRoad_82 hlocks (⟨congrArg (fun q : Int => some (Value.int (J q))) (show -1 = rdF si sj v 121 0 0 0 from by rw [← hrd, if_neg (by omega), if_pos (by omega)]), eh⟩)
              · refine lv_iload hx hb dX5_actsOfRoad_69 (lv_at hl 5 rfl) ?_
                exact g_iret hx hb hr hW hS dX5_actsOfRoad_71 hlocks (⟨congrArg (fun q : Int => some (Value.int (J q))) (show dn = rdF si sj v 121 0 0 0 from by rw [← hrd, if_pos (by omega)]; omega), eh⟩)
        · refine lv_iconst (v := J (0)) hx hb dX5_actsOfRoad_21 rfl ?_
          refine lv_istore (lv' := [(4, .int (J 0)), (0, .int (J si)), (1, .int (J sj)), (2, .int (J v)), (3, .int (J a)), (5, .int (J dn))]) hx hb dX5_actsOfRoad_22 hl (by decide) rfl (fun ls hl => ?_)
          refine lv_goto (tgt := 58) hx hb dX5_actsOfRoad_24 (by decide) ?_
          have ea : a = rA si sj a b := by unfold rA; rw [if_pos c_18]
          have eb : (0 : Int) = rB sj a b := by unfold rB; rw [if_pos c_18]
          have hrr := rd_r (si := si) (sj := sj) (a := a) (b := b) (by omega) (by omega) ha9 hb9
          rw [← ea, ← eb] at hrd hrr
          refine lv_iload_n hx hb dX5_actsOfRoad_58 rfl (lv_at hl 4 rfl) ?_
          refine lv_iload_n hx hb dX5_actsOfRoad_59 rfl (lv_at hl 3 rfl) ?_
          refine j_icmp_eq (x := a) (y := v) (tgt := 69) hx hb ⟨by omega, by omega⟩ ⟨by omega, by omega⟩ dX5_actsOfRoad_60 (by decide) (fun c_60 => ?_) (fun c_60 => ?_)
          · refine lv_iload hx hb dX5_actsOfRoad_69 (lv_at hl 5 rfl) ?_
            exact g_iret hx hb hr hW hS dX5_actsOfRoad_71 hlocks (⟨congrArg (fun q : Int => some (Value.int (J q))) (show dn = rdF si sj v 121 0 0 0 from by rw [← hrd, if_pos (by omega)]; omega), eh⟩)
          · refine lv_iload hx hb dX5_actsOfRoad_63 (lv_at hl 0 rfl) ?_
            refine lv_iload_n hx hb dX5_actsOfRoad_65 rfl (lv_at hl 3 rfl) ?_
            refine j_icmp_ne (x := 0) (y := v) (tgt := 72) hx hb ⟨by decide, by decide⟩ ⟨by omega, by omega⟩ dX5_actsOfRoad_66 (by decide) (fun c_66 => ?_) (fun c_66 => ?_)
            · refine lv_iload_n hx hb dX5_actsOfRoad_72 rfl (lv_at hl 4 rfl) ?_
              refine j_if_ne (x := a) (tgt := 83) hx hb ⟨by omega, by omega⟩ dX5_actsOfRoad_73 (by decide) (fun c_73 => ?_) (fun c_73 => ?_)
              · refine lv_iinc (v := J (dn + 1)) (lv' := [(5, .int (J (dn + 1))), (4, .int (J 0)), (0, .int (J si)), (1, .int (J sj)), (2, .int (J v)), (3, .int (J a))]) hx hb dX5_actsOfRoad_83 hl (k := 5) rfl (J_inc (by omega)) (by decide) rfl (fun ls hl => ?_)
                refine lv_goto (tgt := 8) hx hb dX5_actsOfRoad_86 (by decide) ?_
                exact ih_8 (dn + 1) a 0 h H locs ls (by omega) (by omega) (by omega) (by omega) (by rw [if_neg (by omega), if_neg (by omega)] at hrd; rw [show dn + 1 - 1 = dn - 1 + 1 by omega]; exact hrd) eh hW hS (lv_sub hl [2, 3, 4, 5, 1, 0] rfl)
              · refine lv_iload hx hb dX5_actsOfRoad_76 (lv_at hl 0 rfl) ?_
                refine j_if_ne (x := 0) (tgt := 83) hx hb ⟨by decide, by decide⟩ dX5_actsOfRoad_78 (by decide) (fun c_78 => ?_) (fun c_78 => ?_)
                · refine lv_iinc (v := J (dn + 1)) (lv' := [(5, .int (J (dn + 1))), (4, .int (J 0)), (0, .int (J si)), (1, .int (J sj)), (2, .int (J v)), (3, .int (J a))]) hx hb dX5_actsOfRoad_83 hl (k := 5) rfl (J_inc (by omega)) (by decide) rfl (fun ls hl => ?_)
                  refine lv_goto (tgt := 8) hx hb dX5_actsOfRoad_86 (by decide) ?_
                  exact ih_8 (dn + 1) a 0 h H locs ls (by omega) (by omega) (by omega) (by omega) (by rw [if_neg (by omega), if_neg (by omega)] at hrd; rw [show dn + 1 - 1 = dn - 1 + 1 by omega]; exact hrd) eh hW hS (lv_sub hl [2, 3, 4, 5, 1, 0] rfl)
                · refine lv_iconst (v := J (-1)) hx hb dX5_actsOfRoad_81 rfl ?_
                  exact g_iret hx hb hr hW hS dX5_actsOfRoad_82 hlocks (⟨congrArg (fun q : Int => some (Value.int (J q))) (show -1 = rdF si sj v 121 0 0 0 from by rw [← hrd, if_neg (by omega), if_pos (by omega)]), eh⟩)
            · refine lv_iload hx hb dX5_actsOfRoad_69 (lv_at hl 5 rfl) ?_
              exact g_iret hx hb hr hW hS dX5_actsOfRoad_71 hlocks (⟨congrArg (fun q : Int => some (Value.int (J q))) (show dn = rdF si sj v 121 0 0 0 from by rw [← hrd, if_pos (by omega)]; omega), eh⟩)
  exact loop_8 122 1 0 0 h0 s.heap [] ls (by omega) (by omega) (by omega) (by omega) rfl rfl hW hS (lv_sub hl [3, 4, 5, 2, 1, 0] rfl)

set_option maxHeartbeats 4000000 in
set_option maxRecDepth 100000 in
theorem x_road (l : Launch) (g : GX) (base : Nat) (sa : Nat → Nat) (h0 : Hp) (o : Nat) (R : Nat → Nat) (I L : Nat → Int) (A : Nat → Int → Int) (DR : Nat → Nat → Nat) (DI DL : Nat → Nat → Int) (DA : Nat → Nat → Int → Int) (i v : Int) (hX : OB g 5 3 kd5 h0 o R I L A) (hB : QB g h0 (R 1) DR DI DL DA) (hV : QV DI DL DA) (hj0 : R 0 = DR 0 0) (aX : ∀ q, FP 3 kd5 o R q → ¬ FS (R 1) DR q) (hi9 : i32 i) (hv9 : i32 v) : MC l g base sa yX5_road wsX5_road ({ frames := 2, cells := 0, slots := 0, locals := 66 }) ([.ref o, .int (J i), .int (J v)]) h0 (fun r9 h' => r9 = some (.int (J (if (0 ≤ i ∧ i < DI 1 0 ∧ 1 ≤ v ∧ v ≤ 10) then (if DI 1 0 = 2 then rdF (DA 1 4 i) (DA 1 4 (1 - i)) v 121 0 0 0 else -3) else -2))) ∧ h' = h0) := by
  refine Met.ofW (cc := cX5_road) (maxL := 3) (ret := (some .int)) (by decide) rfl ?_
  intro p e s m args below meth c s₁ B hml hv
  obtain ⟨rfl, hk, hW⟩ := hv
  have hx := B.exec
  have hb := B.bytes
  have hr := B.returns
  have hts := atoms_spec (ws := wsX5_road) B.pre
  have hown : s.vm.findClass RX5 = some m.cls := findClass_of_methodNamed B.named
  have hlocks := B.notSynchronized
  have hfX1 : ∀ w ∈ wsX10, w.before ([.ref o, .int (J i), .int (J v)]).toArray s = true := fun w h => hts w (List.mem_cons_of_mem _ (List.mem_append_right _ h))
  have hfX5 : ∀ w ∈ wsX50, w.before ([.ref o, .int (J i), .int (J v)]).toArray s = true := fun w h => hts w (List.mem_cons_of_mem _ (List.mem_append_left _ (List.mem_append_right _ h)))
  have hS : va_S (Ab base) s.heap s.heap [] := va_S.rf
  have hl := lv_entry ([.ref o, .int (J i), .int (J v)]) (n := 3) (Nat.le_of_ble_eq_true rfl)
  rw [lg_entry_eq]
  generalize (lg_sl ([.ref o, .int (J i), .int (J v)]) ++ List.replicate (3 - (lg_sl ([.ref o, .int (J i), .int (J v)])).length) Slot.unset).toArray = ls at hl ⊢
  have hl : lv_has ls 3 [(0, .ref o), (1, .int (J i)), (2, .int (J v))] := hl
  obtain ⟨vW, vV, vZ, vF, vA, vT, vS, vg, f6, f7, f8⟩ := id hV
  have hn : 0 ≤ DI 1 0 ∧ DI 1 0 ≤ 4 := ⟨vW.1.1, vW.1.2.1⟩
  have hG : OB g 1 7 kd1 h0 (R 0) (DR 1) (DI 1) L4 (DA 1) := by rw [hj0]; exact hB.2.1
  obtain ⟨hi1, hi2⟩ := id hi9
  obtain ⟨hv1, hv2⟩ := id hv9
  refine lv_aload_n hx hb dX5_road_0 rfl (lv_at hl 0 rfl) ?_
  refine g_get (ci := 5) (C := RX5) (T := TX5) (N := 3) (v := .ref (R 0)) hx hb hfX5 (fun _ h9 => h9) hown hk hW hX.1 rfl 0 (by decide) (hts (.fieldLink RX5 20 "JugsAndGlasses" "jugs" "LJugsAndGlasses$Jugs;") (by decide +kernel)) rfl rfl dX5_road_1 ?_
  refine lv_iload_n hx hb dX5_road_4 rfl (lv_at hl 1 rfl) ?_
  refine g_callV (As := [.int (J i)]) (rest := []) (b := R 0) (ci := 1) (C := RX1) (T := TX1) (N := 7) ⟨hx, hb, hml, hown, hts⟩ (k_has l g base sa h0 (R 0) (DR 1) (DI 1) (DA 1) i hG hi9 hn) (cwV 1 hts gX5_road_X1_has rfl rfl rfl (by decide +kernel) ⟨Nat.le_of_ble_eq_true rfl, Nat.le_of_ble_eq_true rfl⟩) hk hW hS hG.1 rfl rfl hl.1 (Nat.le_of_ble_eq_true rfl) dX5_road_5 ⟨Nat.le_of_ble_eq_true rfl, Nat.le_of_ble_eq_true rfl⟩ (fun r9 h9 H locs hp hW hS => ?_)
  obtain ⟨rfl, e9⟩ := hp
  rw [e9] at hW
  refine W.eq (g2 := F0 m 8 ls [.int (J (p_has (DI 1 0) i))]) rfl ?_
  have hph := p_has_r (DI 1 0) i
  refine j_if_eq (x := p_has (DI 1 0) i) (tgt := 22) hx hb ⟨by omega, by omega⟩ dX5_road_8 (by decide) (fun c_8 => ?_) (fun c_8 => ?_)
  · refine lv_bipush (v := J (-2)) hx hb dX5_road_22 (by decide) ?_
    exact g_iret hx hb hr hW hS dX5_road_24 hlocks (⟨congrArg (fun q : Int => some (Value.int (J q))) (show -2 = (if (0 ≤ i ∧ i < DI 1 0 ∧ 1 ≤ v ∧ v ≤ 10) then (if DI 1 0 = 2 then rdF (DA 1 4 i) (DA 1 4 (1 - i)) v 121 0 0 0 else -3) else -2) from by rw [if_neg (by first | omega | (have := p_has_0 c_8; omega))]), rfl⟩)
  · have hq := p_has_1 c_8
    refine lv_iload_n hx hb dX5_road_11 rfl (lv_at hl 2 rfl) ?_
    refine lv_iconst (v := J (1)) hx hb dX5_road_12 rfl ?_
    refine j_icmp_lt (x := v) (y := 1) (tgt := 22) hx hb ⟨by omega, by omega⟩ ⟨by decide, by decide⟩ dX5_road_13 (by decide) (fun c_13 => ?_) (fun c_13 => ?_)
    · refine lv_bipush (v := J (-2)) hx hb dX5_road_22 (by decide) ?_
      exact g_iret hx hb hr hW hS dX5_road_24 hlocks (⟨congrArg (fun q : Int => some (Value.int (J q))) (show -2 = (if (0 ≤ i ∧ i < DI 1 0 ∧ 1 ≤ v ∧ v ≤ 10) then (if DI 1 0 = 2 then rdF (DA 1 4 i) (DA 1 4 (1 - i)) v 121 0 0 0 else -3) else -2) from by rw [if_neg (by first | omega | (have := p_has_0 c_8; omega))]), rfl⟩)
    · refine lv_iload_n hx hb dX5_road_16 rfl (lv_at hl 2 rfl) ?_
      refine lv_bipush (v := J (10)) hx hb dX5_road_17 (by decide) ?_
      refine j_icmp_le (x := v) (y := 10) (tgt := 25) hx hb ⟨by omega, by omega⟩ ⟨by decide, by decide⟩ dX5_road_19 (by decide) (fun c_19 => ?_) (fun c_19 => ?_)
      · refine lv_aload_n hx hb dX5_road_25 rfl (lv_at hl 0 rfl) ?_
        refine g_get (ci := 5) (C := RX5) (T := TX5) (N := 3) (v := .ref (R 0)) hx hb hfX5 (fun _ h9 => h9) hown hk hW hX.1 rfl 0 (by decide) (hts (.fieldLink RX5 20 "JugsAndGlasses" "jugs" "LJugsAndGlasses$Jugs;") (by decide +kernel)) rfl rfl dX5_road_26 ?_
        refine g_get (ci := 1) (C := RX1) (T := TX1) (N := 7) (v := .int (J ((DI 1) 0))) hx hb hfX1 (fun _ h9 => h9) hown hk hW hG.1 rfl 0 (by decide) (hts (.fieldLink RX5 28 "JugsAndGlasses$Jugs" "number" "I") (by decide +kernel)) rfl rfl dX5_road_29 ?_
        refine lv_iconst (v := J (2)) hx hb dX5_road_32 rfl ?_
        refine j_icmp_eq (x := (DI 1) 0) (y := 2) (tgt := 39) hx hb ⟨by omega, by omega⟩ ⟨by decide, by decide⟩ dX5_road_33 (by decide) (fun c_33 => ?_) (fun c_33 => ?_)
        · have hs1 := vW.1.2.2 i (by omega) (by omega)
          have hs2 := vW.1.2.2 (1 - i) (by omega) (by omega)
          refine lv_aload_n hx hb dX5_road_39 rfl (lv_at hl 0 rfl) ?_
          refine g_get (ci := 5) (C := RX5) (T := TX5) (N := 3) (v := .ref (R 0)) hx hb hfX5 (fun _ h9 => h9) hown hk hW hX.1 rfl 0 (by decide) (hts (.fieldLink RX5 20 "JugsAndGlasses" "jugs" "LJugsAndGlasses$Jugs;") (by decide +kernel)) rfl rfl dX5_road_40 ?_
          refine g_get (ci := 1) (C := RX1) (T := TX1) (N := 7) (v := .ref ((DR 1) 4)) hx hb hfX1 (fun _ h9 => h9) hown hk hW hG.1 rfl 4 (by decide) (hts (.fieldLink RX5 52 "JugsAndGlasses$Jugs" "size" "[I") (by decide +kernel)) rfl rfl dX5_road_43 ?_
          refine lv_iload_n hx hb dX5_road_46 rfl (lv_at hl 1 rfl) ?_
          refine g_iald (n := 4) (f := (DA 1) 4) (i := i) hx hb hk hW (hG.ai 4 (by decide) rfl) (by omega) (by omega) (by omega) dX5_road_47 ?_
          refine lv_aload_n hx hb dX5_road_48 rfl (lv_at hl 0 rfl) ?_
          refine g_get (ci := 5) (C := RX5) (T := TX5) (N := 3) (v := .ref (R 0)) hx hb hfX5 (fun _ h9 => h9) hown hk hW hX.1 rfl 0 (by decide) (hts (.fieldLink RX5 20 "JugsAndGlasses" "jugs" "LJugsAndGlasses$Jugs;") (by decide +kernel)) rfl rfl dX5_road_49 ?_
          refine g_get (ci := 1) (C := RX1) (T := TX1) (N := 7) (v := .ref ((DR 1) 4)) hx hb hfX1 (fun _ h9 => h9) hown hk hW hG.1 rfl 4 (by decide) (hts (.fieldLink RX5 52 "JugsAndGlasses$Jugs" "size" "[I") (by decide +kernel)) rfl rfl dX5_road_52 ?_
          refine lv_iconst (v := J (1)) hx hb dX5_road_55 rfl ?_
          refine lv_iload_n hx hb dX5_road_56 rfl (lv_at hl 1 rfl) ?_
          refine j_isub hx hb dX5_road_57 ?_
          refine g_iald (n := 4) (f := (DA 1) 4) (i := 1 - i) hx hb hk hW (hG.ai 4 (by decide) rfl) (by omega) (by omega) (by omega) dX5_road_58 ?_
          refine lv_iload_n hx hb dX5_road_59 rfl (lv_at hl 2 rfl) ?_
          refine g_callS (As := [.int (J ((DA 1) 4 i)), .int (J ((DA 1) 4 (1 - i))), .int (J v)]) (rest := []) ⟨hx, hb, hml, hown, hts⟩ (x_actsOfRoad l g base sa h0 (DA 1 4 i) (DA 1 4 (1 - i)) v (by omega) (by omega) ⟨by omega, by omega⟩) (va_cwS 3 hts gX5_road_X5_actsOfRoad rfl rfl rfl (by decide +kernel) ⟨Nat.le_of_ble_eq_true rfl, Nat.le_of_ble_eq_true rfl⟩) hk hW hS rfl hl.1 (Nat.le_of_ble_eq_true rfl) dX5_road_60 ⟨Nat.le_of_ble_eq_true rfl, Nat.le_of_ble_eq_true rfl⟩ (fun r9 h9 H locs hp hW hS => ?_)
          obtain ⟨rfl, e9⟩ := hp
          rw [e9] at hW
          refine W.eq (g2 := F0 m 63 ls [.int (J (rdF (DA 1 4 i) (DA 1 4 (1 - i)) v 121 0 0 0))]) rfl ?_
          exact g_iret hx hb hr hW hS dX5_road_63 hlocks (⟨congrArg (fun q : Int => some (Value.int (J q))) (show rdF (DA 1 4 i) (DA 1 4 (1 - i)) v 121 0 0 0 = (if (0 ≤ i ∧ i < DI 1 0 ∧ 1 ≤ v ∧ v ≤ 10) then (if DI 1 0 = 2 then rdF (DA 1 4 i) (DA 1 4 (1 - i)) v 121 0 0 0 else -3) else -2) from by rw [if_pos (by omega), if_pos (by omega)]), rfl⟩)
        · refine lv_bipush (v := J (-3)) hx hb dX5_road_36 (by decide) ?_
          exact g_iret hx hb hr hW hS dX5_road_38 hlocks (⟨congrArg (fun q : Int => some (Value.int (J q))) (show -3 = (if (0 ≤ i ∧ i < DI 1 0 ∧ 1 ≤ v ∧ v ≤ 10) then (if DI 1 0 = 2 then rdF (DA 1 4 i) (DA 1 4 (1 - i)) v 121 0 0 0 else -3) else -2) from by rw [if_pos (by omega), if_neg (by omega)]), rfl⟩)
      · refine lv_bipush (v := J (-2)) hx hb dX5_road_22 (by decide) ?_
        exact g_iret hx hb hr hW hS dX5_road_24 hlocks (⟨congrArg (fun q : Int => some (Value.int (J q))) (show -2 = (if (0 ≤ i ∧ i < DI 1 0 ∧ 1 ≤ v ∧ v ≤ 10) then (if DI 1 0 = 2 then rdF (DA 1 4 i) (DA 1 4 (1 - i)) v 121 0 0 0 else -3) else -2) from by rw [if_neg (by first | omega | (have := p_has_0 c_8; omega))]), rfl⟩)

set_option maxHeartbeats 4000000 in
set_option maxRecDepth 100000 in
theorem x_sizes (l : Launch) (g : GX) (base : Nat) (sa : Nat → Nat) (h0 : Hp) (o : Nat) (k b i : Int) (hk9 : i32 k) (hb9 : i32 b) (hi9 : i32 i) : MC l g base sa yX5_sizes wsX5_sizes ({ frames := 0, cells := 0, slots := 0, locals := 0 }) ([.ref o, .int (J k), .int (J b), .int (J i)]) h0 (fun r9 h' => r9 = some (.int (J (if 1 ≤ k ∧ k ≤ 3 ∧ 1 ≤ b ∧ b ≤ 10 ∧ 0 ≤ i ∧ i < k then (if k = 1 ∧ 1 < b then -1 else if i = k - 1 then b else 1) else -2))) ∧ h' = h0) := by
  refine Met.ofW (cc := cX5_sizes) (maxL := 4) (ret := (some .int)) (by decide) rfl ?_
  intro p e s m args below meth c s₁ B hml hv
  obtain ⟨rfl, hk, hW⟩ := hv
  have hx := B.exec
  have hb := B.bytes
  have hr := B.returns
  have hts := atoms_spec (ws := wsX5_sizes) B.pre
  have hown : s.vm.findClass RX5 = some m.cls := findClass_of_methodNamed B.named
  have hlocks := B.notSynchronized
  have hS : va_S (Ab base) s.heap s.heap [] := va_S.rf
  have hl := lv_entry ([.ref o, .int (J k), .int (J b), .int (J i)]) (n := 4) (Nat.le_of_ble_eq_true rfl)
  rw [lg_entry_eq]
  generalize (lg_sl ([.ref o, .int (J k), .int (J b), .int (J i)]) ++ List.replicate (4 - (lg_sl ([.ref o, .int (J k), .int (J b), .int (J i)])).length) Slot.unset).toArray = ls at hl ⊢
  have hl : lv_has ls 4 [(0, .ref o), (1, .int (J k)), (2, .int (J b)), (3, .int (J i))] := hl
  obtain ⟨hk1, hk2⟩ := id hk9
  obtain ⟨hb1, hb2⟩ := id hb9
  obtain ⟨hi1, hi2⟩ := id hi9
  refine lv_iload_n hx hb dX5_sizes_0 rfl (lv_at hl 1 rfl) ?_
  refine lv_iconst (v := J (1)) hx hb dX5_sizes_1 rfl ?_
  refine j_icmp_lt (x := k) (y := 1) (tgt := 30) hx hb ⟨by omega, by omega⟩ ⟨by decide, by decide⟩ dX5_sizes_2 (by decide) (fun c_2 => ?_) (fun c_2 => ?_)
  · refine lv_bipush (v := J (-2)) hx hb dX5_sizes_30 (by decide) ?_
    exact g_iret hx hb hr hW hS dX5_sizes_32 hlocks (⟨congrArg (fun q : Int => some (Value.int (J q))) (show (-2) = (if 1 ≤ k ∧ k ≤ 3 ∧ 1 ≤ b ∧ b ≤ 10 ∧ 0 ≤ i ∧ i < k then (if k = 1 ∧ 1 < b then -1 else if i = k - 1 then b else 1) else -2) from by (repeat' split) <;> omega), rfl⟩)
  · refine lv_iload_n hx hb dX5_sizes_5 rfl (lv_at hl 1 rfl) ?_
    refine lv_iconst (v := J (3)) hx hb dX5_sizes_6 rfl ?_
    refine j_icmp_gt (x := k) (y := 3) (tgt := 30) hx hb ⟨by omega, by omega⟩ ⟨by decide, by decide⟩ dX5_sizes_7 (by decide) (fun c_7 => ?_) (fun c_7 => ?_)
    · refine lv_bipush (v := J (-2)) hx hb dX5_sizes_30 (by decide) ?_
      exact g_iret hx hb hr hW hS dX5_sizes_32 hlocks (⟨congrArg (fun q : Int => some (Value.int (J q))) (show (-2) = (if 1 ≤ k ∧ k ≤ 3 ∧ 1 ≤ b ∧ b ≤ 10 ∧ 0 ≤ i ∧ i < k then (if k = 1 ∧ 1 < b then -1 else if i = k - 1 then b else 1) else -2) from by (repeat' split) <;> omega), rfl⟩)
    · refine lv_iload_n hx hb dX5_sizes_10 rfl (lv_at hl 2 rfl) ?_
      refine lv_iconst (v := J (1)) hx hb dX5_sizes_11 rfl ?_
      refine j_icmp_lt (x := b) (y := 1) (tgt := 30) hx hb ⟨by omega, by omega⟩ ⟨by decide, by decide⟩ dX5_sizes_12 (by decide) (fun c_12 => ?_) (fun c_12 => ?_)
      · refine lv_bipush (v := J (-2)) hx hb dX5_sizes_30 (by decide) ?_
        exact g_iret hx hb hr hW hS dX5_sizes_32 hlocks (⟨congrArg (fun q : Int => some (Value.int (J q))) (show (-2) = (if 1 ≤ k ∧ k ≤ 3 ∧ 1 ≤ b ∧ b ≤ 10 ∧ 0 ≤ i ∧ i < k then (if k = 1 ∧ 1 < b then -1 else if i = k - 1 then b else 1) else -2) from by (repeat' split) <;> omega), rfl⟩)
      · refine lv_iload_n hx hb dX5_sizes_15 rfl (lv_at hl 2 rfl) ?_
        refine lv_bipush (v := J (10)) hx hb dX5_sizes_16 (by decide) ?_
        refine j_icmp_gt (x := b) (y := 10) (tgt := 30) hx hb ⟨by omega, by omega⟩ ⟨by decide, by decide⟩ dX5_sizes_18 (by decide) (fun c_18 => ?_) (fun c_18 => ?_)
        · refine lv_bipush (v := J (-2)) hx hb dX5_sizes_30 (by decide) ?_
          exact g_iret hx hb hr hW hS dX5_sizes_32 hlocks (⟨congrArg (fun q : Int => some (Value.int (J q))) (show (-2) = (if 1 ≤ k ∧ k ≤ 3 ∧ 1 ≤ b ∧ b ≤ 10 ∧ 0 ≤ i ∧ i < k then (if k = 1 ∧ 1 < b then -1 else if i = k - 1 then b else 1) else -2) from by (repeat' split) <;> omega), rfl⟩)
        · refine lv_iload_n hx hb dX5_sizes_21 rfl (lv_at hl 3 rfl) ?_
          refine j_if_lt (x := i) (tgt := 30) hx hb ⟨by omega, by omega⟩ dX5_sizes_22 (by decide) (fun c_22 => ?_) (fun c_22 => ?_)
          · refine lv_bipush (v := J (-2)) hx hb dX5_sizes_30 (by decide) ?_
            exact g_iret hx hb hr hW hS dX5_sizes_32 hlocks (⟨congrArg (fun q : Int => some (Value.int (J q))) (show (-2) = (if 1 ≤ k ∧ k ≤ 3 ∧ 1 ≤ b ∧ b ≤ 10 ∧ 0 ≤ i ∧ i < k then (if k = 1 ∧ 1 < b then -1 else if i = k - 1 then b else 1) else -2) from by (repeat' split) <;> omega), rfl⟩)
          · refine lv_iload_n hx hb dX5_sizes_25 rfl (lv_at hl 3 rfl) ?_
            refine lv_iload_n hx hb dX5_sizes_26 rfl (lv_at hl 1 rfl) ?_
            refine j_icmp_lt (x := i) (y := k) (tgt := 33) hx hb ⟨by omega, by omega⟩ ⟨by omega, by omega⟩ dX5_sizes_27 (by decide) (fun c_27 => ?_) (fun c_27 => ?_)
            · refine lv_iload_n hx hb dX5_sizes_33 rfl (lv_at hl 1 rfl) ?_
              refine lv_iconst (v := J (1)) hx hb dX5_sizes_34 rfl ?_
              refine j_icmp_ne (x := k) (y := 1) (tgt := 45) hx hb ⟨by omega, by omega⟩ ⟨by decide, by decide⟩ dX5_sizes_35 (by decide) (fun c_35 => ?_) (fun c_35 => ?_)
              · refine lv_iload_n hx hb dX5_sizes_45 rfl (lv_at hl 3 rfl) ?_
                refine lv_iload_n hx hb dX5_sizes_46 rfl (lv_at hl 1 rfl) ?_
                refine lv_iconst (v := J (1)) hx hb dX5_sizes_47 rfl ?_
                refine j_isub hx hb dX5_sizes_48 ?_
                refine j_icmp_ne (x := i) (y := k - 1) (tgt := 56) hx hb ⟨by omega, by omega⟩ ⟨by omega, by omega⟩ dX5_sizes_49 (by decide) (fun c_49 => ?_) (fun c_49 => ?_)
                · refine lv_iconst (v := J (1)) hx hb dX5_sizes_56 rfl ?_
                  exact g_iret hx hb hr hW hS dX5_sizes_57 hlocks (⟨congrArg (fun q : Int => some (Value.int (J q))) (show 1 = (if 1 ≤ k ∧ k ≤ 3 ∧ 1 ≤ b ∧ b ≤ 10 ∧ 0 ≤ i ∧ i < k then (if k = 1 ∧ 1 < b then -1 else if i = k - 1 then b else 1) else -2) from by (repeat' split) <;> omega), rfl⟩)
                · refine lv_iload_n hx hb dX5_sizes_52 rfl (lv_at hl 2 rfl) ?_
                  refine lv_goto (tgt := 57) hx hb dX5_sizes_53 (by decide) ?_
                  exact g_iret hx hb hr hW hS dX5_sizes_57 hlocks (⟨congrArg (fun q : Int => some (Value.int (J q))) (show b = (if 1 ≤ k ∧ k ≤ 3 ∧ 1 ≤ b ∧ b ≤ 10 ∧ 0 ≤ i ∧ i < k then (if k = 1 ∧ 1 < b then -1 else if i = k - 1 then b else 1) else -2) from by (repeat' split) <;> omega), rfl⟩)
              · refine lv_iload_n hx hb dX5_sizes_38 rfl (lv_at hl 2 rfl) ?_
                refine lv_iconst (v := J (1)) hx hb dX5_sizes_39 rfl ?_
                refine j_icmp_le (x := b) (y := 1) (tgt := 45) hx hb ⟨by omega, by omega⟩ ⟨by decide, by decide⟩ dX5_sizes_40 (by decide) (fun c_40 => ?_) (fun c_40 => ?_)
                · refine lv_iload_n hx hb dX5_sizes_45 rfl (lv_at hl 3 rfl) ?_
                  refine lv_iload_n hx hb dX5_sizes_46 rfl (lv_at hl 1 rfl) ?_
                  refine lv_iconst (v := J (1)) hx hb dX5_sizes_47 rfl ?_
                  refine j_isub hx hb dX5_sizes_48 ?_
                  refine j_icmp_ne (x := i) (y := k - 1) (tgt := 56) hx hb ⟨by omega, by omega⟩ ⟨by omega, by omega⟩ dX5_sizes_49 (by decide) (fun c_49 => ?_) (fun c_49 => ?_)
                  · refine lv_iconst (v := J (1)) hx hb dX5_sizes_56 rfl ?_
                    exact g_iret hx hb hr hW hS dX5_sizes_57 hlocks (⟨congrArg (fun q : Int => some (Value.int (J q))) (show 1 = (if 1 ≤ k ∧ k ≤ 3 ∧ 1 ≤ b ∧ b ≤ 10 ∧ 0 ≤ i ∧ i < k then (if k = 1 ∧ 1 < b then -1 else if i = k - 1 then b else 1) else -2) from by (repeat' split) <;> omega), rfl⟩)
                  · refine lv_iload_n hx hb dX5_sizes_52 rfl (lv_at hl 2 rfl) ?_
                    refine lv_goto (tgt := 57) hx hb dX5_sizes_53 (by decide) ?_
                    exact g_iret hx hb hr hW hS dX5_sizes_57 hlocks (⟨congrArg (fun q : Int => some (Value.int (J q))) (show b = (if 1 ≤ k ∧ k ≤ 3 ∧ 1 ≤ b ∧ b ≤ 10 ∧ 0 ≤ i ∧ i < k then (if k = 1 ∧ 1 < b then -1 else if i = k - 1 then b else 1) else -2) from by (repeat' split) <;> omega), rfl⟩)
                · refine lv_iconst (v := J (-1)) hx hb dX5_sizes_43 rfl ?_
                  exact g_iret hx hb hr hW hS dX5_sizes_44 hlocks (⟨congrArg (fun q : Int => some (Value.int (J q))) (show (-1) = (if 1 ≤ k ∧ k ≤ 3 ∧ 1 ≤ b ∧ b ≤ 10 ∧ 0 ≤ i ∧ i < k then (if k = 1 ∧ 1 < b then -1 else if i = k - 1 then b else 1) else -2) from by (repeat' split) <;> omega), rfl⟩)
            · refine lv_bipush (v := J (-2)) hx hb dX5_sizes_30 (by decide) ?_
              exact g_iret hx hb hr hW hS dX5_sizes_32 hlocks (⟨congrArg (fun q : Int => some (Value.int (J q))) (show (-2) = (if 1 ≤ k ∧ k ≤ 3 ∧ 1 ≤ b ∧ b ≤ 10 ∧ 0 ≤ i ∧ i < k then (if k = 1 ∧ 1 < b then -1 else if i = k - 1 then b else 1) else -2) from by (repeat' split) <;> omega), rfl⟩)

set_option maxHeartbeats 4000000 in
set_option maxRecDepth 100000 in
theorem x_glass (l : Launch) (g : GX) (base : Nat) (sa : Nat → Nat) (h0 : Hp) (o : Nat) (R : Nat → Nat) (I L : Nat → Int) (A : Nat → Int → Int) (Rg : Nat → Nat) (Ig Lg : Nat → Int) (Ag : Nat → Int → Int) (a : Int) (hX : OB g 5 3 kd5 h0 o R I L A) (hGB : GB g h0 (R 2) Rg Ig Lg Ag) (hGV : GV Ig Lg Ag) (aXG : ∀ q, FP 3 kd5 o R q → ¬ FG (R 2) Rg q) (ha9 : i32 a) : MC l g base sa yX5_glass wsX5_glass ({ frames := 1, cells := 0, slots := 0, locals := 21 }) ([.ref o, .int (J a)]) h0 (fun r9 h' => Fr (FG (R 2) Rg) h0 h' ∧ ((¬ (1 ≤ a ∧ a ≤ 12) ∧ r9 = some (.int (J (-2))) ∧ h' = h0) ∨ ((1 ≤ a ∧ a ≤ 12) ∧ Ig 0 = 3 ∧ r9 = some (.int (J (-4))) ∧ h' = h0) ∨ ((1 ≤ a ∧ a ≤ 12) ∧ Ig 0 < 3 ∧ r9 = some (.int (J (Ig 0))) ∧ ∃ Ig' Ag', GB g h' (R 2) Rg Ig' Lg Ag' ∧ GV Ig' Lg Ag' ∧ Ig' 0 = Ig 0 + 1 ∧ Ag' 1 = uf (Ag 1) (Ig 0) a))) := by
  refine Met.ofW (cc := cX5_glass) (maxL := 2) (ret := (some .int)) (by decide) rfl ?_
  intro p e s m args below meth c s₁ B hml hv
  obtain ⟨rfl, hk, hW⟩ := hv
  have hx := B.exec
  have hb := B.bytes
  have hr := B.returns
  have hts := atoms_spec (ws := wsX5_glass) B.pre
  have hown : s.vm.findClass RX5 = some m.cls := findClass_of_methodNamed B.named
  have hlocks := B.notSynchronized
  have hfX0 : ∀ w ∈ wsX00, w.before ([.ref o, .int (J a)]).toArray s = true := fun w h => hts w (List.mem_cons_of_mem _ (List.mem_append_right _ h))
  have hfX5 : ∀ w ∈ wsX50, w.before ([.ref o, .int (J a)]).toArray s = true := fun w h => hts w (List.mem_cons_of_mem _ (List.mem_append_left _ (List.mem_append_right _ h)))
  have hS : va_S (Ab base) s.heap s.heap [] := va_S.rf
  have hl := lv_entry ([.ref o, .int (J a)]) (n := 2) (Nat.le_of_ble_eq_true rfl)
  rw [lg_entry_eq]
  generalize (lg_sl ([.ref o, .int (J a)]) ++ List.replicate (2 - (lg_sl ([.ref o, .int (J a)])).length) Slot.unset).toArray = ls at hl ⊢
  have hl : lv_has ls 2 [(0, .ref o), (1, .int (J a))] := hl
  have hF : Fr (FG (R 2) Rg) h0 h0 := Fr.rf
  obtain ⟨hGl, hLG⟩ := id hGB
  obtain ⟨hsk, hg4, hkn, hg5, hg6⟩ := id hGV
  have hn1 := hsk.1
  have hn2 := hsk.2.1
  obtain ⟨g1, g2, g3, g4, g5, g6, g7, g8, g9, g10⟩ := id hLG
  obtain ⟨ha1, ha2⟩ := id ha9
  refine lv_iload_n hx hb dX5_glass_0 rfl (lv_at hl 1 rfl) ?_
  refine lv_iconst (v := J (1)) hx hb dX5_glass_1 rfl ?_
  refine j_icmp_lt (x := a) (y := 1) (tgt := 11) hx hb ⟨by omega, by omega⟩ ⟨by decide, by decide⟩ dX5_glass_2 (by decide) (fun c_2 => ?_) (fun c_2 => ?_)
  · refine lv_bipush (v := J (-2)) hx hb dX5_glass_11 (by decide) ?_
    exact g_iret hx hb hr hW hS dX5_glass_13 hlocks (⟨hF, Or.inl ⟨by omega, rfl, rfl⟩⟩)
  · refine lv_iload_n hx hb dX5_glass_5 rfl (lv_at hl 1 rfl) ?_
    refine lv_bipush (v := J (12)) hx hb dX5_glass_6 (by decide) ?_
    refine j_icmp_le (x := a) (y := 12) (tgt := 14) hx hb ⟨by omega, by omega⟩ ⟨by decide, by decide⟩ dX5_glass_8 (by decide) (fun c_8 => ?_) (fun c_8 => ?_)
    · refine lv_aload_n hx hb dX5_glass_14 rfl (lv_at hl 0 rfl) ?_
      refine g_get (ci := 5) (C := RX5) (T := TX5) (N := 3) (v := .ref (R 2)) hx hb hfX5 (fun _ h9 => h9) hown hk hW hX.1 rfl 2 (by decide) (hts (.fieldLink RX5 24 "JugsAndGlasses" "glasses" "LJugsAndGlasses$Glasses;") (by decide +kernel)) rfl rfl dX5_glass_15 ?_
      refine g_get (ci := 0) (C := RX0) (T := TX0) (N := 12) (v := .int (J (Ig 0))) hx hb hfX0 (fun _ h9 => h9) hown hk hW hGl.1 rfl 0 (by decide) (hts (.fieldLink RX5 133 "JugsAndGlasses$Glasses" "number" "I") (by decide +kernel)) rfl rfl dX5_glass_18 ?_
      refine lv_iconst (v := J (3)) hx hb dX5_glass_21 rfl ?_
      refine j_icmp_lt (x := Ig 0) (y := 3) (tgt := 30) hx hb ⟨by omega, by omega⟩ ⟨by decide, by decide⟩ dX5_glass_22 (by decide) (fun c_22 => ?_) (fun c_22 => ?_)
      · refine lv_aload_n hx hb dX5_glass_30 rfl (lv_at hl 0 rfl) ?_
        refine g_get (ci := 5) (C := RX5) (T := TX5) (N := 3) (v := .ref (R 2)) hx hb hfX5 (fun _ h9 => h9) hown hk hW hX.1 rfl 2 (by decide) (hts (.fieldLink RX5 24 "JugsAndGlasses" "glasses" "LJugsAndGlasses$Glasses;") (by decide +kernel)) rfl rfl dX5_glass_31 ?_
        refine lv_iload_n hx hb dX5_glass_34 rfl (lv_at hl 1 rfl) ?_
        refine g_callV (As := [.int (J a)]) (rest := []) (b := R 2) (ci := 0) (C := RX0) (T := TX0) (N := 12) ⟨hx, hb, hml, hown, hts⟩ (g_add l g base sa h0 (R 2) Rg Ig Lg Ag a hGl g1 ⟨by omega, by omega⟩) (cwV 1 hts gX5_glass_X0_add rfl rfl rfl (by decide +kernel) ⟨Nat.le_of_ble_eq_true rfl, Nat.le_of_ble_eq_true rfl⟩) hk hW hS hGl.1 rfl rfl hl.1 (Nat.le_of_ble_eq_true rfl) dX5_glass_35 ⟨Nat.le_of_ble_eq_true rfl, Nat.le_of_ble_eq_true rfl⟩ (fun r9 h9 H locs hp hW hS => ?_)
        rcases hp with ⟨w9, -⟩ | ⟨-, rfl, hGl, hF9⟩
        · omega
        refine W.eq (g2 := F0 m 38 ls [.int (J (Ig 0))]) rfl ?_
        have hF := hF.tr hF9 (fun q w _ => w)
        generalize h9 = h at hGl hF hW
        exact g_iret hx hb hr hW hS dX5_glass_38 hlocks (⟨hF, Or.inr (Or.inr ⟨by omega, by omega, rfl, _, _, ⟨hGl, hLG⟩, ⟨Sok_add hsk (by omega) ⟨by omega, by omega⟩, Or.inl rfl, fun w => absurd (show (0 : Int) = 1 from w) (by decide), hg5, fun w => absurd (show (0 : Int) = 1 from w) (by decide)⟩, rfl, rfl⟩)⟩)
      · refine lv_bipush (v := J (-4)) hx hb dX5_glass_25 (by decide) ?_
        refine lv_goto (tgt := 38) hx hb dX5_glass_27 (by decide) ?_
        exact g_iret hx hb hr hW hS dX5_glass_38 hlocks (⟨hF, Or.inr (Or.inl ⟨by omega, by omega, rfl, rfl⟩)⟩)
    · refine lv_bipush (v := J (-2)) hx hb dX5_glass_11 (by decide) ?_
      exact g_iret hx hb hr hW hS dX5_glass_13 hlocks (⟨hF, Or.inl ⟨by omega, rfl, rfl⟩⟩)

set_option maxHeartbeats 4000000 in
set_option maxRecDepth 100000 in
theorem x_smash (l : Launch) (g : GX) (base : Nat) (sa : Nat → Nat) (h0 : Hp) (o : Nat) (R : Nat → Nat) (I L : Nat → Int) (A : Nat → Int → Int) (Rg : Nat → Nat) (Ig Lg : Nat → Int) (Ag : Nat → Int → Int) (hX : OB g 5 3 kd5 h0 o R I L A) (hGB : GB g h0 (R 2) Rg Ig Lg Ag) (hGV : GV Ig Lg Ag) (aXG : ∀ q, FP 3 kd5 o R q → ¬ FG (R 2) Rg q) : MC l g base sa yX5_smash wsX5_smash ({ frames := 1, cells := 0, slots := 0, locals := 21 }) ([.ref o]) h0 (fun r9 h' => Fr (FG (R 2) Rg) h0 h' ∧ r9 = some (.int (J (Ig 0))) ∧ ∃ Ig' Ag', GB g h' (R 2) Rg Ig' Lg Ag' ∧ GV Ig' Lg Ag' ∧ Ig' 0 = 0 ∧ Ag' 1 = Ag 1) := by
  refine Met.ofW (cc := cX5_smash) (maxL := 1) (ret := (some .int)) (by decide) rfl ?_
  intro p e s m args below meth c s₁ B hml hv
  obtain ⟨rfl, hk, hW⟩ := hv
  have hx := B.exec
  have hb := B.bytes
  have hr := B.returns
  have hts := atoms_spec (ws := wsX5_smash) B.pre
  have hown : s.vm.findClass RX5 = some m.cls := findClass_of_methodNamed B.named
  have hlocks := B.notSynchronized
  have hfX0 : ∀ w ∈ wsX00, w.before ([.ref o]).toArray s = true := fun w h => hts w (List.mem_cons_of_mem _ (List.mem_append_right _ h))
  have hfX5 : ∀ w ∈ wsX50, w.before ([.ref o]).toArray s = true := fun w h => hts w (List.mem_cons_of_mem _ (List.mem_append_left _ (List.mem_append_right _ h)))
  have hS : va_S (Ab base) s.heap s.heap [] := va_S.rf
  have hl := lv_entry ([.ref o]) (n := 1) (Nat.le_of_ble_eq_true rfl)
  rw [lg_entry_eq]
  generalize (lg_sl ([.ref o]) ++ List.replicate (1 - (lg_sl ([.ref o])).length) Slot.unset).toArray = ls at hl ⊢
  have hl : lv_has ls 1 [(0, .ref o)] := hl
  have hF : Fr (FG (R 2) Rg) h0 h0 := Fr.rf
  obtain ⟨hGl, hLG⟩ := id hGB
  obtain ⟨hsk, hg4, hkn, hg5, hg6⟩ := id hGV
  have hn1 := hsk.1
  have hn2 := hsk.2.1
  obtain ⟨g1, g2, g3, g4, g5, g6, g7, g8, g9, g10⟩ := id hLG
  refine lv_aload_n hx hb dX5_smash_0 rfl (lv_at hl 0 rfl) ?_
  refine g_get (ci := 5) (C := RX5) (T := TX5) (N := 3) (v := .ref (R 2)) hx hb hfX5 (fun _ h9 => h9) hown hk hW hX.1 rfl 2 (by decide) (hts (.fieldLink RX5 24 "JugsAndGlasses" "glasses" "LJugsAndGlasses$Glasses;") (by decide +kernel)) rfl rfl dX5_smash_1 ?_
  refine g_callV (As := []) (rest := []) (b := R 2) (ci := 0) (C := RX0) (T := TX0) (N := 12) ⟨hx, hb, hml, hown, hts⟩ (g_removeAll l g base sa h0 (R 2) Rg Ig Lg Ag hGl) (cwV 0 hts gX5_smash_X0_removeAll rfl rfl rfl (by decide +kernel) ⟨Nat.le_of_ble_eq_true rfl, Nat.le_of_ble_eq_true rfl⟩) hk hW hS hGl.1 rfl rfl hl.1 (Nat.le_of_ble_eq_true rfl) dX5_smash_4 ⟨Nat.le_of_ble_eq_true rfl, Nat.le_of_ble_eq_true rfl⟩ (fun r9 h9 H locs hp hW hS => ?_)
  obtain ⟨rfl, hGl, hF9⟩ := hp
  refine W.eq (g2 := F0 m 7 ls [.int (J (Ig 0))]) rfl ?_
  have hF := hF.tr hF9 (fun q w _ => w)
  generalize h9 = h at hGl hF hW
  exact g_iret hx hb hr hW hS dX5_smash_7 hlocks (⟨hF, rfl, _, _, ⟨hGl, hLG⟩, ⟨⟨show (0 : Int) ≤ 0 by omega, show (0 : Int) ≤ 3 by omega, fun k k0 k1 => absurd (show k < 0 from k1) (by omega)⟩, Or.inl rfl, fun w => absurd (show (0 : Int) = 1 from w) (by decide), hg5, fun w => absurd (show (0 : Int) = 1 from w) (by decide)⟩, rfl, rfl⟩)

set_option maxHeartbeats 4000000 in
set_option maxRecDepth 100000 in
theorem x_await (l : Launch) (g : GX) (base : Nat) (sa : Nat → Nat) (h0 : Hp) (o : Nat) (R : Nat → Nat) (I L : Nat → Int) (A : Nat → Int → Int) (Rg : Nat → Nat) (Ig Lg : Nat → Int) (Ag : Nat → Int → Int) (rc rs : Nat) (a : Int) (hX : OB g 5 3 kd5 h0 o R I L A) (hGB : GB g h0 (R 2) Rg Ig Lg Ag) (hGV : GV Ig Lg Ag) (aXG : ∀ q, FP 3 kd5 o R q → ¬ FG (R 2) Rg q) (ha9 : i32 a) (hrm : (1 ≤ a ∧ a ≤ 40) → Lg 5 < k_states (Ig 0) → 19 ≤ rc ∧ 25 * (k_states (Ig 0)).toNat + 13 ≤ rs) : MC l g base sa yX5_await wsX5_await ({ frames := 5, cells := rc, slots := rs, locals := 151 }) ([.ref o, .int (J a)]) h0 (fun r9 h' => Fr (FG (R 2) Rg) h0 h' ∧ ((¬ (1 ≤ a ∧ a ≤ 40) ∧ r9 = some (.int (J (-2))) ∧ h' = h0) ∨ ((1 ≤ a ∧ a ≤ 40) ∧ ∃ w t Rg1 Ig1 Lg1 Ag1, GB g h' (R 2) Rg1 Ig1 Lg1 Ag1 ∧ GV Ig1 Lg1 Ag1 ∧ Ig1 0 = Ig 0 ∧ Ag1 1 = Ag 1 ∧ (∀ q, FG (R 2) Rg1 q → FG (R 2) Rg q ∨ h0 q = none) ∧ Lg1 5 = max (Lg 5) (k_states (Ig 0)) ∧ WT (lp (Ig 0) (Ag 1)) (2 ^ (Ig 0).toNat) a w t ∧ r9 = some (.int (J w))))) := by
  refine Met.ofW (cc := cX5_await) (maxL := 2) (ret := (some .int)) (by decide) rfl ?_
  intro p e s m args below meth c s₁ B hml hv
  obtain ⟨rfl, hk, hW⟩ := hv
  have hx := B.exec
  have hb := B.bytes
  have hr := B.returns
  have hts := atoms_spec (ws := wsX5_await) B.pre
  have hown : s.vm.findClass RX5 = some m.cls := findClass_of_methodNamed B.named
  have hlocks := B.notSynchronized
  have hfX0 : ∀ w ∈ wsX00, w.before ([.ref o, .int (J a)]).toArray s = true := fun w h => hts w (List.mem_cons_of_mem _ (List.mem_append_right _ h))
  have hfX5 : ∀ w ∈ wsX50, w.before ([.ref o, .int (J a)]).toArray s = true := fun w h => hts w (List.mem_cons_of_mem _ (List.mem_append_left _ (List.mem_append_right _ h)))
  have hS : va_S (Ab base) s.heap s.heap [] := va_S.rf
  have hl := lv_entry ([.ref o, .int (J a)]) (n := 2) (Nat.le_of_ble_eq_true rfl)
  rw [lg_entry_eq]
  generalize (lg_sl ([.ref o, .int (J a)]) ++ List.replicate (2 - (lg_sl ([.ref o, .int (J a)])).length) Slot.unset).toArray = ls at hl ⊢
  have hl : lv_has ls 2 [(0, .ref o), (1, .int (J a))] := hl
  have hF : Fr (FG (R 2) Rg) h0 h0 := Fr.rf
  obtain ⟨hGl, hLG⟩ := id hGB
  obtain ⟨hsk, hg4, hkn, hg5, hg6⟩ := id hGV
  have hn1 := hsk.1
  have hn2 := hsk.2.1
  obtain ⟨g1, g2, g3, g4, g5, g6, g7, g8, g9, g10⟩ := id hLG
  obtain ⟨ha1, ha2⟩ := id ha9
  refine lv_iload_n hx hb dX5_await_0 rfl (lv_at hl 1 rfl) ?_
  refine lv_iconst (v := J (1)) hx hb dX5_await_1 rfl ?_
  refine j_icmp_lt (x := a) (y := 1) (tgt := 11) hx hb ⟨by omega, by omega⟩ ⟨by decide, by decide⟩ dX5_await_2 (by decide) (fun c_2 => ?_) (fun c_2 => ?_)
  · refine lv_bipush (v := J (-2)) hx hb dX5_await_11 (by decide) ?_
    refine W.widen (k := rc) (n := rs) (by omega) (by omega) ?_
    exact g_iret hx hb hr hW hS dX5_await_13 hlocks (⟨hF, Or.inl ⟨by omega, rfl, rfl⟩⟩)
  · refine lv_iload_n hx hb dX5_await_5 rfl (lv_at hl 1 rfl) ?_
    refine lv_bipush (v := J (40)) hx hb dX5_await_6 (by decide) ?_
    refine j_icmp_le (x := a) (y := 40) (tgt := 14) hx hb ⟨by omega, by omega⟩ ⟨by decide, by decide⟩ dX5_await_8 (by decide) (fun c_8 => ?_) (fun c_8 => ?_)
    · refine lv_aload_n hx hb dX5_await_14 rfl (lv_at hl 0 rfl) ?_
      refine g_get (ci := 5) (C := RX5) (T := TX5) (N := 3) (v := .ref (R 2)) hx hb hfX5 (fun _ h9 => h9) hown hk hW hX.1 rfl 2 (by decide) (hts (.fieldLink RX5 24 "JugsAndGlasses" "glasses" "LJugsAndGlasses$Glasses;") (by decide +kernel)) rfl rfl dX5_await_15 ?_
      refine g_callV (As := []) (rest := []) (b := R 2) (ci := 0) (C := RX0) (T := TX0) (N := 12) ⟨hx, hb, hml, hown, hts⟩ (g_workOut l g base sa h0 (R 2) Rg Ig Lg Ag rc rs hGl hLG hsk hg4 hkn (fun _ w => by have w2 := hrm (by omega) w; omega)) (cwV 0 hts gX5_await_X0_workOut rfl rfl rfl (by decide +kernel) ⟨Nat.le_of_ble_eq_true rfl, Nat.le_of_ble_eq_true rfl⟩) hk hW hS hGl.1 rfl rfl hl.1 (Nat.le_of_ble_eq_true rfl) dX5_await_18 ⟨Nat.le_of_eq (Nat.zero_add _), Nat.le_of_eq (Nat.zero_add _)⟩ (fun r9 h9 H locs hp hW hS => ?_)
      obtain ⟨rfl, hF9, Rg1, Ig1, Lg1, Ag1, hGB1, e0, e4, e1, hWT, hsub, e5⟩ := hp
      refine W.widen (k := rc) (n := rs) (Nat.le_of_eq (Nat.zero_add _)) (Nat.le_of_eq (Nat.zero_add _)) ?_
      refine W.eq (g2 := F0 m 21 ls []) rfl ?_
      have hF := hF.tr hF9 (fun q w _ => w)
      have hX := hX.fr hF9 aXG
      generalize h9 = h at hX hGB1 hF hW
      have hGl := hGB1.1
      obtain ⟨m1, m2, m3, m4, m5, m6, m7, m8, m9, m10⟩ := id hGB1.2
      have hGV1 : GV Ig1 Lg1 Ag1 := ⟨by rw [e0, e1]; exact hsk, Or.inr e4, fun _ sn s0 s1 => by rw [e0, e1]; exact hWT sn s0 s1, by have := st_v hn1 hn2; omega, fun _ => by rw [e0]; omega⟩
      refine lv_aload_n hx hb dX5_await_21 rfl (lv_at hl 0 rfl) ?_
      refine g_get (ci := 5) (C := RX5) (T := TX5) (N := 3) (v := .ref (R 2)) hx hb hfX5 (fun _ h9 => h9) hown hk hW hX.1 rfl 2 (by decide) (hts (.fieldLink RX5 24 "JugsAndGlasses" "glasses" "LJugsAndGlasses$Glasses;") (by decide +kernel)) rfl rfl dX5_await_22 ?_
      refine g_get (ci := 0) (C := RX0) (T := TX0) (N := 12) (v := .ref (Rg1 2)) hx hb hfX0 (fun _ h9 => h9) hown hk hW hGl.1 rfl 2 (by decide) (hts (.fieldLink RX5 140 "JugsAndGlasses$Glasses" "waitOf" "[I") (by decide +kernel)) rfl rfl dX5_await_25 ?_
      refine lv_iload_n hx hb dX5_await_28 rfl (lv_at hl 1 rfl) ?_
      refine g_iald (n := Lg1 2) (f := Ag1 2) (i := a) hx hb hk hW (hGl.ai 2 (by decide) rfl) (by omega) (by omega) (by omega) dX5_await_29 ?_
      refine W.widen (k := rc) (n := rs) (by omega) (by omega) ?_
      exact g_iret hx hb hr hW hS dX5_await_30 hlocks (⟨hF, Or.inr ⟨by omega, Ag1 2 a, Ag1 3 a, Rg1, Ig1, Lg1, Ag1, hGB1, hGV1, e0, e1, hsub, by omega, hWT a (by omega) (by omega), rfl⟩⟩)
    · refine lv_bipush (v := J (-2)) hx hb dX5_await_11 (by decide) ?_
      refine W.widen (k := rc) (n := rs) (by omega) (by omega) ?_
      exact g_iret hx hb hr hW hS dX5_await_13 hlocks (⟨hF, Or.inl ⟨by omega, rfl, rfl⟩⟩)

set_option maxHeartbeats 4000000 in
set_option maxRecDepth 100000 in
theorem x_turns (l : Launch) (g : GX) (base : Nat) (sa : Nat → Nat) (h0 : Hp) (o : Nat) (R : Nat → Nat) (I L : Nat → Int) (A : Nat → Int → Int) (Rg : Nat → Nat) (Ig Lg : Nat → Int) (Ag : Nat → Int → Int) (rc rs : Nat) (a : Int) (hX : OB g 5 3 kd5 h0 o R I L A) (hGB : GB g h0 (R 2) Rg Ig Lg Ag) (hGV : GV Ig Lg Ag) (aXG : ∀ q, FP 3 kd5 o R q → ¬ FG (R 2) Rg q) (ha9 : i32 a) (hrm : (1 ≤ a ∧ a ≤ 40) → Lg 5 < k_states (Ig 0) → 19 ≤ rc ∧ 25 * (k_states (Ig 0)).toNat + 13 ≤ rs) : MC l g base sa yX5_turns wsX5_turns ({ frames := 5, cells := rc, slots := rs, locals := 151 }) ([.ref o, .int (J a)]) h0 (fun r9 h' => Fr (FG (R 2) Rg) h0 h' ∧ ((¬ (1 ≤ a ∧ a ≤ 40) ∧ r9 = some (.int (J (-2))) ∧ h' = h0) ∨ ((1 ≤ a ∧ a ≤ 40) ∧ ∃ w t Rg1 Ig1 Lg1 Ag1, GB g h' (R 2) Rg1 Ig1 Lg1 Ag1 ∧ GV Ig1 Lg1 Ag1 ∧ Ig1 0 = Ig 0 ∧ Ag1 1 = Ag 1 ∧ (∀ q, FG (R 2) Rg1 q → FG (R 2) Rg q ∨ h0 q = none) ∧ Lg1 5 = max (Lg 5) (k_states (Ig 0)) ∧ WT (lp (Ig 0) (Ag 1)) (2 ^ (Ig 0).toNat) a w t ∧ r9 = some (.int (J t))))) := by
  refine Met.ofW (cc := cX5_turns) (maxL := 2) (ret := (some .int)) (by decide) rfl ?_
  intro p e s m args below meth c s₁ B hml hv
  obtain ⟨rfl, hk, hW⟩ := hv
  have hx := B.exec
  have hb := B.bytes
  have hr := B.returns
  have hts := atoms_spec (ws := wsX5_turns) B.pre
  have hown : s.vm.findClass RX5 = some m.cls := findClass_of_methodNamed B.named
  have hlocks := B.notSynchronized
  have hfX0 : ∀ w ∈ wsX00, w.before ([.ref o, .int (J a)]).toArray s = true := fun w h => hts w (List.mem_cons_of_mem _ (List.mem_append_right _ h))
  have hfX5 : ∀ w ∈ wsX50, w.before ([.ref o, .int (J a)]).toArray s = true := fun w h => hts w (List.mem_cons_of_mem _ (List.mem_append_left _ (List.mem_append_right _ h)))
  have hS : va_S (Ab base) s.heap s.heap [] := va_S.rf
  have hl := lv_entry ([.ref o, .int (J a)]) (n := 2) (Nat.le_of_ble_eq_true rfl)
  rw [lg_entry_eq]
  generalize (lg_sl ([.ref o, .int (J a)]) ++ List.replicate (2 - (lg_sl ([.ref o, .int (J a)])).length) Slot.unset).toArray = ls at hl ⊢
  have hl : lv_has ls 2 [(0, .ref o), (1, .int (J a))] := hl
  have hF : Fr (FG (R 2) Rg) h0 h0 := Fr.rf
  obtain ⟨hGl, hLG⟩ := id hGB
  obtain ⟨hsk, hg4, hkn, hg5, hg6⟩ := id hGV
  have hn1 := hsk.1
  have hn2 := hsk.2.1
  obtain ⟨g1, g2, g3, g4, g5, g6, g7, g8, g9, g10⟩ := id hLG
  obtain ⟨ha1, ha2⟩ := id ha9
  refine lv_iload_n hx hb dX5_turns_0 rfl (lv_at hl 1 rfl) ?_
  refine lv_iconst (v := J (1)) hx hb dX5_turns_1 rfl ?_
  refine j_icmp_lt (x := a) (y := 1) (tgt := 11) hx hb ⟨by omega, by omega⟩ ⟨by decide, by decide⟩ dX5_turns_2 (by decide) (fun c_2 => ?_) (fun c_2 => ?_)
  · refine lv_bipush (v := J (-2)) hx hb dX5_turns_11 (by decide) ?_
    refine W.widen (k := rc) (n := rs) (by omega) (by omega) ?_
    exact g_iret hx hb hr hW hS dX5_turns_13 hlocks (⟨hF, Or.inl ⟨by omega, rfl, rfl⟩⟩)
  · refine lv_iload_n hx hb dX5_turns_5 rfl (lv_at hl 1 rfl) ?_
    refine lv_bipush (v := J (40)) hx hb dX5_turns_6 (by decide) ?_
    refine j_icmp_le (x := a) (y := 40) (tgt := 14) hx hb ⟨by omega, by omega⟩ ⟨by decide, by decide⟩ dX5_turns_8 (by decide) (fun c_8 => ?_) (fun c_8 => ?_)
    · refine lv_aload_n hx hb dX5_turns_14 rfl (lv_at hl 0 rfl) ?_
      refine g_get (ci := 5) (C := RX5) (T := TX5) (N := 3) (v := .ref (R 2)) hx hb hfX5 (fun _ h9 => h9) hown hk hW hX.1 rfl 2 (by decide) (hts (.fieldLink RX5 24 "JugsAndGlasses" "glasses" "LJugsAndGlasses$Glasses;") (by decide +kernel)) rfl rfl dX5_turns_15 ?_
      refine g_callV (As := []) (rest := []) (b := R 2) (ci := 0) (C := RX0) (T := TX0) (N := 12) ⟨hx, hb, hml, hown, hts⟩ (g_workOut l g base sa h0 (R 2) Rg Ig Lg Ag rc rs hGl hLG hsk hg4 hkn (fun _ w => by have w2 := hrm (by omega) w; omega)) (cwV 0 hts gX5_turns_X0_workOut rfl rfl rfl (by decide +kernel) ⟨Nat.le_of_ble_eq_true rfl, Nat.le_of_ble_eq_true rfl⟩) hk hW hS hGl.1 rfl rfl hl.1 (Nat.le_of_ble_eq_true rfl) dX5_turns_18 ⟨Nat.le_of_eq (Nat.zero_add _), Nat.le_of_eq (Nat.zero_add _)⟩ (fun r9 h9 H locs hp hW hS => ?_)
      obtain ⟨rfl, hF9, Rg1, Ig1, Lg1, Ag1, hGB1, e0, e4, e1, hWT, hsub, e5⟩ := hp
      refine W.widen (k := rc) (n := rs) (Nat.le_of_eq (Nat.zero_add _)) (Nat.le_of_eq (Nat.zero_add _)) ?_
      refine W.eq (g2 := F0 m 21 ls []) rfl ?_
      have hF := hF.tr hF9 (fun q w _ => w)
      have hX := hX.fr hF9 aXG
      generalize h9 = h at hX hGB1 hF hW
      have hGl := hGB1.1
      obtain ⟨m1, m2, m3, m4, m5, m6, m7, m8, m9, m10⟩ := id hGB1.2
      have hGV1 : GV Ig1 Lg1 Ag1 := ⟨by rw [e0, e1]; exact hsk, Or.inr e4, fun _ sn s0 s1 => by rw [e0, e1]; exact hWT sn s0 s1, by have := st_v hn1 hn2; omega, fun _ => by rw [e0]; omega⟩
      refine lv_aload_n hx hb dX5_turns_21 rfl (lv_at hl 0 rfl) ?_
      refine g_get (ci := 5) (C := RX5) (T := TX5) (N := 3) (v := .ref (R 2)) hx hb hfX5 (fun _ h9 => h9) hown hk hW hX.1 rfl 2 (by decide) (hts (.fieldLink RX5 24 "JugsAndGlasses" "glasses" "LJugsAndGlasses$Glasses;") (by decide +kernel)) rfl rfl dX5_turns_22 ?_
      refine g_get (ci := 0) (C := RX0) (T := TX0) (N := 12) (v := .ref (Rg1 3)) hx hb hfX0 (fun _ h9 => h9) hown hk hW hGl.1 rfl 3 (by decide) (hts (.fieldLink RX5 143 "JugsAndGlasses$Glasses" "turnsOf" "[I") (by decide +kernel)) rfl rfl dX5_turns_25 ?_
      refine lv_iload_n hx hb dX5_turns_28 rfl (lv_at hl 1 rfl) ?_
      refine g_iald (n := Lg1 3) (f := Ag1 3) (i := a) hx hb hk hW (hGl.ai 3 (by decide) rfl) (by omega) (by omega) (by omega) dX5_turns_29 ?_
      refine W.widen (k := rc) (n := rs) (by omega) (by omega) ?_
      exact g_iret hx hb hr hW hS dX5_turns_30 hlocks (⟨hF, Or.inr ⟨by omega, Ag1 2 a, Ag1 3 a, Rg1, Ig1, Lg1, Ag1, hGB1, hGV1, e0, e1, hsub, by omega, hWT a (by omega) (by omega), rfl⟩⟩)
    · refine lv_bipush (v := J (-2)) hx hb dX5_turns_11 (by decide) ?_
      refine W.widen (k := rc) (n := rs) (by omega) (by omega) ?_
      exact g_iret hx hb hr hW hS dX5_turns_13 hlocks (⟨hF, Or.inl ⟨by omega, rfl, rfl⟩⟩)

set_option maxHeartbeats 4000000 in
set_option maxRecDepth 100000 in
theorem x_spans (l : Launch) (g : GX) (base : Nat) (sa : Nat → Nat) (h0 : Hp) (o : Nat) (R : Nat → Nat) (I L : Nat → Int) (A : Nat → Int → Int) (Rg : Nat → Nat) (Ig Lg : Nat → Int) (Ag : Nat → Int → Int) (rc rs : Nat) (a : Int) (hX : OB g 5 3 kd5 h0 o R I L A) (hGB : GB g h0 (R 2) Rg Ig Lg Ag) (hGV : GV Ig Lg Ag) (aXG : ∀ q, FP 3 kd5 o R q → ¬ FG (R 2) Rg q) (ha9 : i32 a) (hrm : (0 ≤ a ∧ a ≤ 60) → Lg 5 < k_states (Ig 0) → 19 ≤ rc ∧ 25 * (k_states (Ig 0)).toNat + 13 ≤ rs) : MC l g base sa yX5_spans wsX5_spans ({ frames := 5, cells := rc, slots := rs, locals := 151 }) ([.ref o, .int (J a)]) h0 (fun r9 h' => Fr (FG (R 2) Rg) h0 h' ∧ ((¬ (0 ≤ a ∧ a ≤ 60) ∧ r9 = some (.long (JL (-2))) ∧ h' = h0) ∨ ((0 ≤ a ∧ a ≤ 60) ∧ ∃ f Rg1 Ig1 Lg1 Ag1, GB g h' (R 2) Rg1 Ig1 Lg1 Ag1 ∧ GV Ig1 Lg1 Ag1 ∧ Ig1 0 = Ig 0 ∧ Ag1 1 = Ag 1 ∧ (∀ q, FG (R 2) Rg1 q → FG (R 2) Rg q ∨ h0 q = none) ∧ Lg1 5 = max (Lg 5) (k_states (Ig 0)) ∧ (∀ j, 1 ≤ j → j ≤ 40 → ∃ t, WT (lp (Ig 0) (Ag 1)) (2 ^ (Ig 0).toNat) j (f j) t) ∧ r9 = some (.long (JL (sB f a 40)))))) := by
  refine Met.ofW (cc := cX5_spans) (maxL := 5) (ret := (some .long)) (by decide) rfl ?_
  intro p e s m args below meth c s₁ B hml hv
  obtain ⟨rfl, hk, hW⟩ := hv
  have hx := B.exec
  have hb := B.bytes
  have hr := B.returns
  have hts := atoms_spec (ws := wsX5_spans) B.pre
  have hown : s.vm.findClass RX5 = some m.cls := findClass_of_methodNamed B.named
  have hlocks := B.notSynchronized
  have hfX0 : ∀ w ∈ wsX00, w.before ([.ref o, .int (J a)]).toArray s = true := fun w h => hts w (List.mem_cons_of_mem _ (List.mem_append_right _ h))
  have hfX5 : ∀ w ∈ wsX50, w.before ([.ref o, .int (J a)]).toArray s = true := fun w h => hts w (List.mem_cons_of_mem _ (List.mem_append_left _ (List.mem_append_right _ h)))
  have hS : va_S (Ab base) s.heap s.heap [] := va_S.rf
  have hl := lv_entry ([.ref o, .int (J a)]) (n := 5) (Nat.le_of_ble_eq_true rfl)
  rw [lg_entry_eq]
  generalize (lg_sl ([.ref o, .int (J a)]) ++ List.replicate (5 - (lg_sl ([.ref o, .int (J a)])).length) Slot.unset).toArray = ls at hl ⊢
  have hl : lv_has ls 5 [(0, .ref o), (1, .int (J a))] := hl
  have hF : Fr (FG (R 2) Rg) h0 h0 := Fr.rf
  obtain ⟨hGl, hLG⟩ := id hGB
  obtain ⟨hsk, hg4, hkn, hg5, hg6⟩ := id hGV
  have hn1 := hsk.1
  have hn2 := hsk.2.1
  obtain ⟨g1, g2, g3, g4, g5, g6, g7, g8, g9, g10⟩ := id hLG
  obtain ⟨ha1, ha2⟩ := id ha9
  refine lv_iload_n hx hb dX5_spans_0 rfl (lv_at hl 1 rfl) ?_
  refine j_if_lt (x := a) (tgt := 10) hx hb ⟨by omega, by omega⟩ dX5_spans_1 (by decide) (fun c_1 => ?_) (fun c_1 => ?_)
  · refine j_ldc2 (z := -2) hx hb (by decide) hown (hts (.constantLong RX5 93 (-2)) (by decide +kernel)) dX5_spans_10 ?_
    refine W.widen (k := rc) (n := rs) (by omega) (by omega) ?_
    exact g_lret hx hb hr hW hS dX5_spans_13 hlocks (⟨hF, Or.inl ⟨by omega, rfl, rfl⟩⟩)
  · refine lv_iload_n hx hb dX5_spans_4 rfl (lv_at hl 1 rfl) ?_
    refine lv_bipush (v := J (60)) hx hb dX5_spans_5 (by decide) ?_
    refine j_icmp_le (x := a) (y := 60) (tgt := 14) hx hb ⟨by omega, by omega⟩ ⟨by decide, by decide⟩ dX5_spans_7 (by decide) (fun c_7 => ?_) (fun c_7 => ?_)
    · refine lv_aload_n hx hb dX5_spans_14 rfl (lv_at hl 0 rfl) ?_
      refine g_get (ci := 5) (C := RX5) (T := TX5) (N := 3) (v := .ref (R 2)) hx hb hfX5 (fun _ h9 => h9) hown hk hW hX.1 rfl 2 (by decide) (hts (.fieldLink RX5 24 "JugsAndGlasses" "glasses" "LJugsAndGlasses$Glasses;") (by decide +kernel)) rfl rfl dX5_spans_15 ?_
      refine g_callV (As := []) (rest := []) (b := R 2) (ci := 0) (C := RX0) (T := TX0) (N := 12) ⟨hx, hb, hml, hown, hts⟩ (g_workOut l g base sa h0 (R 2) Rg Ig Lg Ag rc rs hGl hLG hsk hg4 hkn (fun _ w => by have w2 := hrm (by omega) w; omega)) (cwV 0 hts gX5_spans_X0_workOut rfl rfl rfl (by decide +kernel) ⟨Nat.le_of_ble_eq_true rfl, Nat.le_of_ble_eq_true rfl⟩) hk hW hS hGl.1 rfl rfl hl.1 (Nat.le_of_ble_eq_true rfl) dX5_spans_18 ⟨Nat.le_of_eq (Nat.zero_add _), Nat.le_of_eq (Nat.zero_add _)⟩ (fun r9 h9 H locs hp hW hS => ?_)
      obtain ⟨rfl, hF9, Rg1, Ig1, Lg1, Ag1, hGB1, e0, e4, e1, hWT, hsub, e5⟩ := hp
      refine W.widen (k := rc) (n := rs) (Nat.le_of_eq (Nat.zero_add _)) (Nat.le_of_eq (Nat.zero_add _)) ?_
      refine W.eq (g2 := F0 m 21 ls []) rfl ?_
      have hF := hF.tr hF9 (fun q w _ => w)
      have hX := hX.fr hF9 aXG
      generalize h9 = h at hX hGB1 hF hW
      have hGl := hGB1.1
      obtain ⟨m1, m2, m3, m4, m5, m6, m7, m8, m9, m10⟩ := id hGB1.2
      have hGV1 : GV Ig1 Lg1 Ag1 := ⟨by rw [e0, e1]; exact hsk, Or.inr e4, fun _ sn s0 s1 => by rw [e0, e1]; exact hWT sn s0 s1, by have := st_v hn1 hn2; omega, fun _ => by rw [e0]; omega⟩
      refine lv_lconst (v := JL (0)) hx hb dX5_spans_21 (by decide) ?_
      refine lv_lstore_n (lv' := [(2, .long (JL 0)), (0, .ref o), (1, .int (J a))]) hx hb dX5_spans_22 rfl hl (by decide) rfl (fun ls hl => ?_)
      refine lv_iconst (v := J (1)) hx hb dX5_spans_23 rfl ?_
      refine lv_istore (lv' := [(4, .int (J 1)), (2, .long (JL 0)), (0, .ref o), (1, .int (J a))]) hx hb dX5_spans_24 hl (by decide) rfl (fun ls hl => ?_)
      have loop_26 : ∀ (n9 : Nat) (z : Int) (sn : Int) (h : Hp) (H : Heap) (locs : List Loc) (ls : Array Slot), 41 - sn < (n9 : Int) → (1 ≤ sn ∧ sn ≤ 41) → (z = sB (Ag1 2) a (sn - 1).toNat) → (OB g 5 3 kd5 h o R I L A) → (OB g 0 12 kd0 h (R 2) Rg1 Ig1 Lg1 Ag1) → (Fr (FG (R 2) Rg) h0 h) → (GB g h (R 2) Rg1 Ig1 Lg1 Ag1) → (Wd g base h H) → (va_S (Ab base) s.heap H locs) → (lv_has ls 5 [(0, .ref o), (1, .int (J a)), (2, .long (JL z)), (4, .int (J sn))]) → W p l e (headSpec wsX5_spans ({ frames := 5, cells := rc, slots := rs, locals := 151 })).room s m ([.ref o, .int (J a)]).toArray below meth c H locs rc rs (MQ below (QcM g base (fun r9 h' => Fr (FG (R 2) Rg) h0 h' ∧ ((¬ (0 ≤ a ∧ a ≤ 60) ∧ r9 = some (.long (JL (-2))) ∧ h' = h0) ∨ ((0 ≤ a ∧ a ≤ 60) ∧ ∃ f Rg1 Ig1 Lg1 Ag1, GB g h' (R 2) Rg1 Ig1 Lg1 Ag1 ∧ GV Ig1 Lg1 Ag1 ∧ Ig1 0 = Ig 0 ∧ Ag1 1 = Ag 1 ∧ (∀ q, FG (R 2) Rg1 q → FG (R 2) Rg q ∨ h0 q = none) ∧ Lg1 5 = max (Lg 5) (k_states (Ig 0)) ∧ (∀ j, 1 ≤ j → j ≤ 40 → ∃ t, WT (lp (Ig 0) (Ag 1)) (2 ^ (Ig 0).toNat) j (f j) t) ∧ r9 = some (.long (JL (sB f a 40))))))) ([.ref o, .int (J a)]).toArray s (rc) (rs) (Ab base)) (F0 m 26 ls []) := by
        intro n9
        induction n9 with
        | zero =>
          intro z sn h H locs ls hmu hs9 ez hX hGl hF hGB1 hW hS hl
          exact absurd hmu (by omega)
        | succ n9 ih =>
          intro z sn h H locs ls hmu hs9 ez hX hGl hF hGB1 hW hS hl
          have ih_26 := ih
          refine lv_iload hx hb dX5_spans_26 (lv_at hl 3 rfl) ?_
          refine lv_bipush (v := J (40)) hx hb dX5_spans_28 (by decide) ?_
          refine j_icmp_gt (x := sn) (y := 40) (tgt := 74) hx hb ⟨by omega, by omega⟩ ⟨by decide, by decide⟩ dX5_spans_30 (by decide) (fun c_30 => ?_) (fun c_30 => ?_)
          · refine lv_lload_n hx hb dX5_spans_74 rfl (lv_at hl 2 rfl) ?_
            refine W.widen (k := rc) (n := rs) (by omega) (by omega) ?_
            exact g_lret hx hb hr hW hS dX5_spans_75 hlocks (⟨hF, Or.inr ⟨by omega, Ag1 2, Rg1, Ig1, Lg1, Ag1, hGB1, hGV1, e0, e1, hsub, by omega, fun j j0 j1 => ⟨Ag1 3 j, hWT j (by omega) (by omega)⟩, by rw [ez, show sn = 41 by omega]; rfl⟩⟩)
          · have hwr : -1 ≤ Ag1 2 sn ∧ Ag1 2 sn ≤ 60 := by
              rcases hWT sn (by omega) (by omega) with v9 | v9
              · omega
              · exact ⟨by omega, by omega⟩
            refine lv_aload_n hx hb dX5_spans_33 rfl (lv_at hl 0 rfl) ?_
            refine g_get (ci := 5) (C := RX5) (T := TX5) (N := 3) (v := .ref (R 2)) hx hb hfX5 (fun _ h9 => h9) hown hk hW hX.1 rfl 2 (by decide) (hts (.fieldLink RX5 24 "JugsAndGlasses" "glasses" "LJugsAndGlasses$Glasses;") (by decide +kernel)) rfl rfl dX5_spans_34 ?_
            refine g_get (ci := 0) (C := RX0) (T := TX0) (N := 12) (v := .ref (Rg1 2)) hx hb hfX0 (fun _ h9 => h9) hown hk hW hGl.1 rfl 2 (by decide) (hts (.fieldLink RX5 140 "JugsAndGlasses$Glasses" "waitOf" "[I") (by decide +kernel)) rfl rfl dX5_spans_37 ?_
            refine lv_iload hx hb dX5_spans_40 (lv_at hl 3 rfl) ?_
            refine g_iald (n := Lg1 2) (f := Ag1 2) (i := sn) hx hb hk hW (hGl.ai 2 (by decide) rfl) (by omega) (by omega) (by omega) dX5_spans_42 ?_
            refine lv_iconst (v := J (-1)) hx hb dX5_spans_43 rfl ?_
            refine j_icmp_eq (x := Ag1 2 sn) (y := (-1)) (tgt := 68) hx hb ⟨by omega, by omega⟩ ⟨by omega, by omega⟩ dX5_spans_44 (by decide) (fun c_44 => ?_) (fun c_44 => ?_)
            · refine lv_iinc (v := J (sn + 1)) (lv' := [(4, .int (J (sn + 1))), (0, .ref o), (1, .int (J a)), (2, .long (JL z))]) hx hb dX5_spans_68 hl (k := 3) rfl (J_inc (by omega)) (by decide) rfl (fun ls hl => ?_)
              refine lv_goto (tgt := 26) hx hb dX5_spans_71 (by decide) ?_
              exact ih_26 z (sn + 1) h H locs ls (by omega) (by omega) (by rw [show sn + 1 - 1 = sn by omega, sB_s _ _ (by omega), if_neg (by omega), orL_0, sB_id]; exact ez) hX hGl hF hGB1 hW hS (lv_sub hl [1, 2, 3, 0] rfl)
            · refine lv_aload_n hx hb dX5_spans_47 rfl (lv_at hl 0 rfl) ?_
              refine g_get (ci := 5) (C := RX5) (T := TX5) (N := 3) (v := .ref (R 2)) hx hb hfX5 (fun _ h9 => h9) hown hk hW hX.1 rfl 2 (by decide) (hts (.fieldLink RX5 24 "JugsAndGlasses" "glasses" "LJugsAndGlasses$Glasses;") (by decide +kernel)) rfl rfl dX5_spans_48 ?_
              refine g_get (ci := 0) (C := RX0) (T := TX0) (N := 12) (v := .ref (Rg1 2)) hx hb hfX0 (fun _ h9 => h9) hown hk hW hGl.1 rfl 2 (by decide) (hts (.fieldLink RX5 140 "JugsAndGlasses$Glasses" "waitOf" "[I") (by decide +kernel)) rfl rfl dX5_spans_51 ?_
              refine lv_iload hx hb dX5_spans_54 (lv_at hl 3 rfl) ?_
              refine g_iald (n := Lg1 2) (f := Ag1 2) (i := sn) hx hb hk hW (hGl.ai 2 (by decide) rfl) (by omega) (by omega) (by omega) dX5_spans_56 ?_
              refine lv_iload_n hx hb dX5_spans_57 rfl (lv_at hl 1 rfl) ?_
              refine j_icmp_gt (x := Ag1 2 sn) (y := a) (tgt := 68) hx hb ⟨by omega, by omega⟩ ⟨by omega, by omega⟩ dX5_spans_58 (by decide) (fun c_58 => ?_) (fun c_58 => ?_)
              · refine lv_iinc (v := J (sn + 1)) (lv' := [(4, .int (J (sn + 1))), (0, .ref o), (1, .int (J a)), (2, .long (JL z))]) hx hb dX5_spans_68 hl (k := 3) rfl (J_inc (by omega)) (by decide) rfl (fun ls hl => ?_)
                refine lv_goto (tgt := 26) hx hb dX5_spans_71 (by decide) ?_
                exact ih_26 z (sn + 1) h H locs ls (by omega) (by omega) (by rw [show sn + 1 - 1 = sn by omega, sB_s _ _ (by omega), if_neg (by omega), orL_0, sB_id]; exact ez) hX hGl hF hGB1 hW hS (lv_sub hl [1, 2, 3, 0] rfl)
              · refine lv_lload_n hx hb dX5_spans_61 rfl (lv_at hl 2 rfl) ?_
                refine lv_lconst (v := JL (1)) hx hb dX5_spans_62 (by decide) ?_
                refine lv_iload hx hb dX5_spans_63 (lv_at hl 3 rfl) ?_
                refine j_lshl (x := 1) (y := sn) hx hb dX5_spans_65 ?_
                refine j_lor (x := z) (y := shL 1 sn) hx hb dX5_spans_66 ?_
                refine lv_lstore_n (lv' := [(2, .long (JL (orL z (shL 1 sn)))), (0, .ref o), (1, .int (J a)), (4, .int (J sn))]) hx hb dX5_spans_67 rfl hl (by decide) rfl (fun ls hl => ?_)
                refine lv_iinc (v := J (sn + 1)) (lv' := [(4, .int (J (sn + 1))), (2, .long (JL (orL z (shL 1 sn)))), (0, .ref o), (1, .int (J a))]) hx hb dX5_spans_68 hl (k := 3) rfl (J_inc (by omega)) (by decide) rfl (fun ls hl => ?_)
                refine lv_goto (tgt := 26) hx hb dX5_spans_71 (by decide) ?_
                exact ih_26 (orL z (shL 1 sn)) (sn + 1) h H locs ls (by omega) (by omega) (by rw [show sn + 1 - 1 = sn by omega, sB_s _ _ (by omega), if_pos ⟨by omega, by omega⟩, ← ez]) hX hGl hF hGB1 hW hS (lv_sub hl [2, 3, 1, 0] rfl)
      exact loop_26 42 0 1 h H locs ls (by omega) (by omega) rfl hX hGl hF hGB1 hW hS (lv_sub hl [2, 3, 1, 0] rfl)
    · refine j_ldc2 (z := -2) hx hb (by decide) hown (hts (.constantLong RX5 93 (-2)) (by decide +kernel)) dX5_spans_10 ?_
      refine W.widen (k := rc) (n := rs) (by omega) (by omega) ?_
      exact g_lret hx hb hr hW hS dX5_spans_13 hlocks (⟨hF, Or.inl ⟨by omega, rfl, rfl⟩⟩)

set_option maxHeartbeats 4000000 in
set_option maxRecDepth 100000 in
theorem x_count (l : Launch) (g : GX) (base : Nat) (sa : Nat → Nat) (h0 : Hp) (o : Nat) (R : Nat → Nat) (I L : Nat → Int) (A : Nat → Int → Int) (DR : Nat → Nat → Nat) (DI DL : Nat → Nat → Int) (DA : Nat → Nat → Int → Int) (Rg : Nat → Nat) (Ig Lg : Nat → Int) (Ag : Nat → Int → Int) (a : Int) (hX : OB g 5 3 kd5 h0 o R I L A) (hB : QB g h0 (R 1) DR DI DL DA) (hV : QV DI DL DA) (hj0 : R 0 = DR 0 0) (aX : ∀ q, FP 3 kd5 o R q → ¬ FS (R 1) DR q) (hGl : OB g 0 12 kd0 h0 (R 2) Rg Ig Lg Ag) (ha9 : i32 a) : MC l g base sa yX5_count wsX5_count ({ frames := 2, cells := 0, slots := 0, locals := 47 }) ([.ref o, .int (J a)]) h0 (fun r9 h' => r9 = some (.int (J (if a = 0 then DI 1 0 else if a = 1 then Ig 0 else if a = 2 then sT (DA 1 5) (DI 1 0) else if a = 3 then sT (fun b => if 0 < p_mv (DI 1 0) (DI 1 2) (DI 1 3) (DA 1 4) (DA 1 5) b then 1 else 0) 24 else -2))) ∧ h' = h0) := by
  refine Met.ofW (cc := cX5_count) (maxL := 2) (ret := (some .int)) (by decide) rfl ?_
  intro p e s m args below meth c s₁ B hml hv
  obtain ⟨rfl, hk, hW⟩ := hv
  have hx := B.exec
  have hb := B.bytes
  have hr := B.returns
  have hts := atoms_spec (ws := wsX5_count) B.pre
  have hown : s.vm.findClass RX5 = some m.cls := findClass_of_methodNamed B.named
  have hlocks := B.notSynchronized
  have hfX0 : ∀ w ∈ wsX00, w.before ([.ref o, .int (J a)]).toArray s = true := fun w h => hts w (List.mem_cons_of_mem _ (List.mem_append_right _ h))
  have hfX1 : ∀ w ∈ wsX10, w.before ([.ref o, .int (J a)]).toArray s = true := fun w h => hts w (List.mem_cons_of_mem _ (List.mem_append_left _ (List.mem_append_right _ h)))
  have hfX5 : ∀ w ∈ wsX50, w.before ([.ref o, .int (J a)]).toArray s = true := fun w h => hts w (List.mem_cons_of_mem _ (List.mem_append_left _ (List.mem_append_left _ (List.mem_append_right _ h))))
  have hS : va_S (Ab base) s.heap s.heap [] := va_S.rf
  have hl := lv_entry ([.ref o, .int (J a)]) (n := 2) (Nat.le_of_ble_eq_true rfl)
  rw [lg_entry_eq]
  generalize (lg_sl ([.ref o, .int (J a)]) ++ List.replicate (2 - (lg_sl ([.ref o, .int (J a)])).length) Slot.unset).toArray = ls at hl ⊢
  have hl : lv_has ls 2 [(0, .ref o), (1, .int (J a))] := hl
  obtain ⟨vW, vV, vZ, vF, vA, vT, vS, vg, f6, f7, f8⟩ := id hV
  have hn : 0 ≤ DI 1 0 ∧ DI 1 0 ≤ 4 := ⟨vW.1.1, vW.1.2.1⟩
  have hG : OB g 1 7 kd1 h0 (R 0) (DR 1) (DI 1) L4 (DA 1) := by rw [hj0]; exact hB.2.1
  have hjok := Wok_Jok vW vV
  refine lv_iload_n hx hb dX5_count_0 rfl (lv_at hl 1 rfl) ?_
  by_cases c_1 : 0 ≤ a ∧ a ≤ 3
  · rcases (show a = 0 ∨ a = 1 ∨ a = 2 ∨ a = 3 by omega) with e_1 | e_1 | e_1 | e_1
    · refine lv_tableIn (off := 31) (tgt := 32) hx hb dX5_count_1 (by rw [J_toInt ha9]; omega) (by rw [J_toInt ha9]; omega) (by rw [J_toInt ha9, e_1]; rfl) (by decide) ?_
      refine lv_aload_n hx hb dX5_count_32 rfl (lv_at hl 0 rfl) ?_
      refine g_get (ci := 5) (C := RX5) (T := TX5) (N := 3) (v := .ref (R 0)) hx hb hfX5 (fun _ h9 => h9) hown hk hW hX.1 rfl 0 (by decide) (hts (.fieldLink RX5 20 "JugsAndGlasses" "jugs" "LJugsAndGlasses$Jugs;") (by decide +kernel)) rfl rfl dX5_count_33 ?_
      refine g_get (ci := 1) (C := RX1) (T := TX1) (N := 7) (v := .int (J ((DI 1) 0))) hx hb hfX1 (fun _ h9 => h9) hown hk hW hG.1 rfl 0 (by decide) (hts (.fieldLink RX5 28 "JugsAndGlasses$Jugs" "number" "I") (by decide +kernel)) rfl rfl dX5_count_36 ?_
      exact g_iret hx hb hr hW hS dX5_count_39 hlocks (⟨by rw [e_1]; rfl, rfl⟩)
    · refine lv_tableIn (off := 39) (tgt := 40) hx hb dX5_count_1 (by rw [J_toInt ha9]; omega) (by rw [J_toInt ha9]; omega) (by rw [J_toInt ha9, e_1]; rfl) (by decide) ?_
      refine lv_aload_n hx hb dX5_count_40 rfl (lv_at hl 0 rfl) ?_
      refine g_get (ci := 5) (C := RX5) (T := TX5) (N := 3) (v := .ref (R 2)) hx hb hfX5 (fun _ h9 => h9) hown hk hW hX.1 rfl 2 (by decide) (hts (.fieldLink RX5 24 "JugsAndGlasses" "glasses" "LJugsAndGlasses$Glasses;") (by decide +kernel)) rfl rfl dX5_count_41 ?_
      refine g_get (ci := 0) (C := RX0) (T := TX0) (N := 12) (v := .int (J (Ig 0))) hx hb hfX0 (fun _ h9 => h9) hown hk hW hGl.1 rfl 0 (by decide) (hts (.fieldLink RX5 133 "JugsAndGlasses$Glasses" "number" "I") (by decide +kernel)) rfl rfl dX5_count_44 ?_
      exact g_iret hx hb hr hW hS dX5_count_47 hlocks (⟨by rw [e_1]; rfl, rfl⟩)
    · refine lv_tableIn (off := 47) (tgt := 48) hx hb dX5_count_1 (by rw [J_toInt ha9]; omega) (by rw [J_toInt ha9]; omega) (by rw [J_toInt ha9, e_1]; rfl) (by decide) ?_
      refine lv_aload_n hx hb dX5_count_48 rfl (lv_at hl 0 rfl) ?_
      refine g_get (ci := 5) (C := RX5) (T := TX5) (N := 3) (v := .ref (R 0)) hx hb hfX5 (fun _ h9 => h9) hown hk hW hX.1 rfl 0 (by decide) (hts (.fieldLink RX5 20 "JugsAndGlasses" "jugs" "LJugsAndGlasses$Jugs;") (by decide +kernel)) rfl rfl dX5_count_49 ?_
      refine g_callV (As := []) (rest := []) (b := R 0) (ci := 1) (C := RX1) (T := TX1) (N := 7) ⟨hx, hb, hml, hown, hts⟩ (k_heldTogether l g base sa h0 (R 0) (DR 1) (DI 1) (DA 1) hG hn) (cwV 0 hts gX5_count_X1_heldTogether rfl rfl rfl (by decide +kernel) ⟨Nat.le_of_ble_eq_true rfl, Nat.le_of_ble_eq_true rfl⟩) hk hW hS hG.1 rfl rfl hl.1 (Nat.le_of_ble_eq_true rfl) dX5_count_52 ⟨Nat.le_of_ble_eq_true rfl, Nat.le_of_ble_eq_true rfl⟩ (fun r9 h9 H locs hp hW hS => ?_)
      obtain ⟨rfl, e9⟩ := hp
      rw [e9] at hW
      refine W.eq (g2 := F0 m 55 ls [.int (J (sT (DA 1 5) (DI 1 0)))]) rfl ?_
      exact g_iret hx hb hr hW hS dX5_count_55 hlocks (⟨by rw [e_1]; rfl, rfl⟩)
    · refine lv_tableIn (off := 55) (tgt := 56) hx hb dX5_count_1 (by rw [J_toInt ha9]; omega) (by rw [J_toInt ha9]; omega) (by rw [J_toInt ha9, e_1]; rfl) (by decide) ?_
      refine lv_aload_n hx hb dX5_count_56 rfl (lv_at hl 0 rfl) ?_
      refine g_get (ci := 5) (C := RX5) (T := TX5) (N := 3) (v := .ref (R 0)) hx hb hfX5 (fun _ h9 => h9) hown hk hW hX.1 rfl 0 (by decide) (hts (.fieldLink RX5 20 "JugsAndGlasses" "jugs" "LJugsAndGlasses$Jugs;") (by decide +kernel)) rfl rfl dX5_count_57 ?_
      refine g_callV (As := []) (rest := []) (b := R 0) (ci := 1) (C := RX1) (T := TX1) (N := 7) ⟨hx, hb, hml, hown, hts⟩ (k_actsNow l g base sa h0 (R 0) (DR 1) (DI 1) (DA 1) hG hjok) (cwV 0 hts gX5_count_X1_actsNow rfl rfl rfl (by decide +kernel) ⟨Nat.le_of_ble_eq_true rfl, Nat.le_of_ble_eq_true rfl⟩) hk hW hS hG.1 rfl rfl hl.1 (Nat.le_of_ble_eq_true rfl) dX5_count_60 ⟨Nat.le_of_ble_eq_true rfl, Nat.le_of_ble_eq_true rfl⟩ (fun r9 h9 H locs hp hW hS => ?_)
      obtain ⟨rfl, e9⟩ := hp
      rw [e9] at hW
      refine W.eq (g2 := F0 m 63 ls [.int (J (sT (fun b => if 0 < p_mv (DI 1 0) (DI 1 2) (DI 1 3) (DA 1 4) (DA 1 5) b then 1 else 0) 24))]) rfl ?_
      exact g_iret hx hb hr hW hS dX5_count_63 hlocks (⟨by rw [e_1]; rfl, rfl⟩)
  · refine lv_tableOut (tgt := 64) hx hb dX5_count_1 (by rw [J_toInt ha9]; omega) (by decide) ?_
    refine lv_bipush (v := J (-2)) hx hb dX5_count_64 (by decide) ?_
    exact g_iret hx hb hr hW hS dX5_count_66 hlocks (⟨by rw [if_neg (by omega), if_neg (by omega), if_neg (by omega), if_neg (by omega)], rfl⟩)
