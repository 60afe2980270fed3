set_option maxHeartbeats 4000000 in
set_option maxRecDepth 100000 in
theorem k_bits_0 (l : Launch) (g : GX) (base : Nat) (sa : Nat → Nat) (h0 : Hp)   : MC l g base sa yJ6_bitCount_0f7a4 wsJ6_bitCount_0f7a4 ({ frames := 0, cells := 0, slots := 0, locals := 0 }) ([.int (J 0)]) h0 (fun r h' => r = some (.int (J (bc 0))) ∧ h' = h0) := by
  refine Met.ofW (cc := cJ6_bitCount_0f7a4) (maxL := 1) (ret := (some .int)) (by decide) rfl ?_
  intro p e s m args below meth c s₁ B hml hv
  obtain ⟨rfl, hk, hW⟩ := hv
  have hx := B.exec
  have hb := B.bytes
  have hr := B.returns
  have hts := atoms_spec (ws := wsJ6_bitCount_0f7a4) B.pre
  have hown : s.vm.findClass RJ6 = some m.cls := findClass_of_methodNamed B.named
  have hlocks := B.notSynchronized
  have hS : va_S (Ab base) s.heap s.heap [] := va_S.rf
  have hl := lv_entry ([.int (J 0)]) (n := 1) (Nat.le_of_ble_eq_true rfl)
  rw [lg_entry_eq]
  generalize (lg_sl ([.int (J 0)]) ++ List.replicate (1 - (lg_sl ([.int (J 0)])).length) Slot.unset).toArray = ls at hl ⊢
  have hl : lv_has ls 1 [(0, .int (J 0))] := hl
  refine lv_iload_n hx hb dJ6_bitCount_0f7a4_0 rfl (lv_at hl 0 rfl) ?_
  refine lv_iload_n hx hb dJ6_bitCount_0f7a4_1 rfl (lv_at hl 0 rfl) ?_
  refine lv_iconst (v := J (1)) hx hb dJ6_bitCount_0f7a4_2 rfl ?_
  refine lv_iushr (v := J 0) hx hb dJ6_bitCount_0f7a4_3 (by decide) ?_
  refine lv_ldcw hx hb hown (hts (.constant RJ6 265 (1431655765)) (by decide +kernel)) dJ6_bitCount_0f7a4_4 ?_
  refine W.eq (g2 := F0 m 7 ls [.int (J 1431655765), .int (J 0), .int (J 0)]) rfl ?_
  refine lv_iand hx hb dJ6_bitCount_0f7a4_7 ?_
  refine W.eq (g2 := F0 m 8 ls [.int (J 0), .int (J 0)]) (by rw [show (J 0 &&& J 1431655765 : Int32) = J 0 by decide]) ?_
  refine lv_isub hx hb dJ6_bitCount_0f7a4_8 ?_
  refine W.eq (g2 := F0 m 9 ls [.int (J 0)]) (by rw [show (J 0 - J 0 : Int32) = J 0 by decide]) ?_
  refine lv_istore_n (lv' := [(0, .int (J 0))]) hx hb dJ6_bitCount_0f7a4_9 rfl hl (by decide) rfl (fun ls hl => ?_)
  refine lv_iload_n hx hb dJ6_bitCount_0f7a4_10 rfl (lv_at hl 0 rfl) ?_
  refine lv_ldcw hx hb hown (hts (.constant RJ6 266 (858993459)) (by decide +kernel)) dJ6_bitCount_0f7a4_11 ?_
  refine W.eq (g2 := F0 m 14 ls [.int (J 858993459), .int (J 0)]) rfl ?_
  refine lv_iand hx hb dJ6_bitCount_0f7a4_14 ?_
  refine W.eq (g2 := F0 m 15 ls [.int (J 0)]) (by rw [show (J 0 &&& J 858993459 : Int32) = J 0 by decide]) ?_
  refine lv_iload_n hx hb dJ6_bitCount_0f7a4_15 rfl (lv_at hl 0 rfl) ?_
  refine lv_iconst (v := J (2)) hx hb dJ6_bitCount_0f7a4_16 rfl ?_
  refine lv_iushr (v := J 0) hx hb dJ6_bitCount_0f7a4_17 (by decide) ?_
  refine lv_ldcw hx hb hown (hts (.constant RJ6 266 (858993459)) (by decide +kernel)) dJ6_bitCount_0f7a4_18 ?_
  refine W.eq (g2 := F0 m 21 ls [.int (J 858993459), .int (J 0), .int (J 0)]) rfl ?_
  refine lv_iand hx hb dJ6_bitCount_0f7a4_21 ?_
  refine W.eq (g2 := F0 m 22 ls [.int (J 0), .int (J 0)]) (by rw [show (J 0 &&& J 858993459 : Int32) = J 0 by decide]) ?_
  refine lv_iadd hx hb dJ6_bitCount_0f7a4_22 ?_
  refine W.eq (g2 := F0 m 23 ls [.int (J 0)]) (by rw [show (J 0 + J 0 : Int32) = J 0 by decide]) ?_
  refine lv_istore_n (lv' := [(0, .int (J 0))]) hx hb dJ6_bitCount_0f7a4_23 rfl hl (by decide) rfl (fun ls hl => ?_)
  refine lv_iload_n hx hb dJ6_bitCount_0f7a4_24 rfl (lv_at hl 0 rfl) ?_
  refine lv_iload_n hx hb dJ6_bitCount_0f7a4_25 rfl (lv_at hl 0 rfl) ?_
  refine lv_iconst (v := J (4)) hx hb dJ6_bitCount_0f7a4_26 rfl ?_
  refine lv_iushr (v := J 0) hx hb dJ6_bitCount_0f7a4_27 (by decide) ?_
  refine lv_iadd hx hb dJ6_bitCount_0f7a4_28 ?_
  refine W.eq (g2 := F0 m 29 ls [.int (J 0)]) (by rw [show (J 0 + J 0 : Int32) = J 0 by decide]) ?_
  refine lv_ldcw hx hb hown (hts (.constant RJ6 267 (252645135)) (by decide +kernel)) dJ6_bitCount_0f7a4_29 ?_
  refine W.eq (g2 := F0 m 32 ls [.int (J 252645135), .int (J 0)]) rfl ?_
  refine lv_iand hx hb dJ6_bitCount_0f7a4_32 ?_
  refine W.eq (g2 := F0 m 33 ls [.int (J 0)]) (by rw [show (J 0 &&& J 252645135 : Int32) = J 0 by decide]) ?_
  refine lv_istore_n (lv' := [(0, .int (J 0))]) hx hb dJ6_bitCount_0f7a4_33 rfl hl (by decide) rfl (fun ls hl => ?_)
  refine lv_iload_n hx hb dJ6_bitCount_0f7a4_34 rfl (lv_at hl 0 rfl) ?_
  refine lv_iload_n hx hb dJ6_bitCount_0f7a4_35 rfl (lv_at hl 0 rfl) ?_
  refine lv_bipush (v := J (8)) hx hb dJ6_bitCount_0f7a4_36 (by decide) ?_
  refine lv_iushr (v := J 0) hx hb dJ6_bitCount_0f7a4_38 (by decide) ?_
  refine lv_iadd hx hb dJ6_bitCount_0f7a4_39 ?_
  refine W.eq (g2 := F0 m 40 ls [.int (J 0)]) (by rw [show (J 0 + J 0 : Int32) = J 0 by decide]) ?_
  refine lv_istore_n (lv' := [(0, .int (J 0))]) hx hb dJ6_bitCount_0f7a4_40 rfl hl (by decide) rfl (fun ls hl => ?_)
  refine lv_iload_n hx hb dJ6_bitCount_0f7a4_41 rfl (lv_at hl 0 rfl) ?_
  refine lv_iload_n hx hb dJ6_bitCount_0f7a4_42 rfl (lv_at hl 0 rfl) ?_
  refine lv_bipush (v := J (16)) hx hb dJ6_bitCount_0f7a4_43 (by decide) ?_
  refine lv_iushr (v := J 0) hx hb dJ6_bitCount_0f7a4_45 (by decide) ?_
  refine lv_iadd hx hb dJ6_bitCount_0f7a4_46 ?_
  refine W.eq (g2 := F0 m 47 ls [.int (J 0)]) (by rw [show (J 0 + J 0 : Int32) = J 0 by decide]) ?_
  refine lv_istore_n (lv' := [(0, .int (J 0))]) hx hb dJ6_bitCount_0f7a4_47 rfl hl (by decide) rfl (fun ls hl => ?_)
  refine lv_iload_n hx hb dJ6_bitCount_0f7a4_48 rfl (lv_at hl 0 rfl) ?_
  refine lv_bipush (v := J (63)) hx hb dJ6_bitCount_0f7a4_49 (by decide) ?_
  refine lv_iand hx hb dJ6_bitCount_0f7a4_51 ?_
  refine W.eq (g2 := F0 m 52 ls [.int (J 0)]) (by rw [show (J 0 &&& J 63 : Int32) = J 0 by decide]) ?_
  exact g_iret hx hb hr hW hS dJ6_bitCount_0f7a4_52 hlocks (⟨rfl, rfl⟩)

set_option maxHeartbeats 4000000 in
set_option maxRecDepth 100000 in
theorem k_bits_1 (l : Launch) (g : GX) (base : Nat) (sa : Nat → Nat) (h0 : Hp)   : MC l g base sa yJ6_bitCount_0f7a4 wsJ6_bitCount_0f7a4 ({ frames := 0, cells := 0, slots := 0, locals := 0 }) ([.int (J 1)]) h0 (fun r h' => r = some (.int (J (bc 1))) ∧ h' = h0) := by
  refine Met.ofW (cc := cJ6_bitCount_0f7a4) (maxL := 1) (ret := (some .int)) (by decide) rfl ?_
  intro p e s m args below meth c s₁ B hml hv
  obtain ⟨rfl, hk, hW⟩ := hv
  have hx := B.exec
  have hb := B.bytes
  have hr := B.returns
  have hts := atoms_spec (ws := wsJ6_bitCount_0f7a4) B.pre
  have hown : s.vm.findClass RJ6 = some m.cls := findClass_of_methodNamed B.named
  have hlocks := B.notSynchronized
  have hS : va_S (Ab base) s.heap s.heap [] := va_S.rf
  have hl := lv_entry ([.int (J 1)]) (n := 1) (Nat.le_of_ble_eq_true rfl)
  rw [lg_entry_eq]
  generalize (lg_sl ([.int (J 1)]) ++ List.replicate (1 - (lg_sl ([.int (J 1)])).length) Slot.unset).toArray = ls at hl ⊢
  have hl : lv_has ls 1 [(0, .int (J 1))] := hl
  refine lv_iload_n hx hb dJ6_bitCount_0f7a4_0 rfl (lv_at hl 0 rfl) ?_
  refine lv_iload_n hx hb dJ6_bitCount_0f7a4_1 rfl (lv_at hl 0 rfl) ?_
  refine lv_iconst (v := J (1)) hx hb dJ6_bitCount_0f7a4_2 rfl ?_
  refine lv_iushr (v := J 0) hx hb dJ6_bitCount_0f7a4_3 (by decide) ?_
  refine lv_ldcw hx hb hown (hts (.constant RJ6 265 (1431655765)) (by decide +kernel)) dJ6_bitCount_0f7a4_4 ?_
  refine W.eq (g2 := F0 m 7 ls [.int (J 1431655765), .int (J 0), .int (J 1)]) rfl ?_
  refine lv_iand hx hb dJ6_bitCount_0f7a4_7 ?_
  refine W.eq (g2 := F0 m 8 ls [.int (J 0), .int (J 1)]) (by rw [show (J 0 &&& J 1431655765 : Int32) = J 0 by decide]) ?_
  refine lv_isub hx hb dJ6_bitCount_0f7a4_8 ?_
  refine W.eq (g2 := F0 m 9 ls [.int (J 1)]) (by rw [show (J 1 - J 0 : Int32) = J 1 by decide]) ?_
  refine lv_istore_n (lv' := [(0, .int (J 1))]) hx hb dJ6_bitCount_0f7a4_9 rfl hl (by decide) rfl (fun ls hl => ?_)
  refine lv_iload_n hx hb dJ6_bitCount_0f7a4_10 rfl (lv_at hl 0 rfl) ?_
  refine lv_ldcw hx hb hown (hts (.constant RJ6 266 (858993459)) (by decide +kernel)) dJ6_bitCount_0f7a4_11 ?_
  refine W.eq (g2 := F0 m 14 ls [.int (J 858993459), .int (J 1)]) rfl ?_
  refine lv_iand hx hb dJ6_bitCount_0f7a4_14 ?_
  refine W.eq (g2 := F0 m 15 ls [.int (J 1)]) (by rw [show (J 1 &&& J 858993459 : Int32) = J 1 by decide]) ?_
  refine lv_iload_n hx hb dJ6_bitCount_0f7a4_15 rfl (lv_at hl 0 rfl) ?_
  refine lv_iconst (v := J (2)) hx hb dJ6_bitCount_0f7a4_16 rfl ?_
  refine lv_iushr (v := J 0) hx hb dJ6_bitCount_0f7a4_17 (by decide) ?_
  refine lv_ldcw hx hb hown (hts (.constant RJ6 266 (858993459)) (by decide +kernel)) dJ6_bitCount_0f7a4_18 ?_
  refine W.eq (g2 := F0 m 21 ls [.int (J 858993459), .int (J 0), .int (J 1)]) rfl ?_
  refine lv_iand hx hb dJ6_bitCount_0f7a4_21 ?_
  refine W.eq (g2 := F0 m 22 ls [.int (J 0), .int (J 1)]) (by rw [show (J 0 &&& J 858993459 : Int32) = J 0 by decide]) ?_
  refine lv_iadd hx hb dJ6_bitCount_0f7a4_22 ?_
  refine W.eq (g2 := F0 m 23 ls [.int (J 1)]) (by rw [show (J 1 + J 0 : Int32) = J 1 by decide]) ?_
  refine lv_istore_n (lv' := [(0, .int (J 1))]) hx hb dJ6_bitCount_0f7a4_23 rfl hl (by decide) rfl (fun ls hl => ?_)
  refine lv_iload_n hx hb dJ6_bitCount_0f7a4_24 rfl (lv_at hl 0 rfl) ?_
  refine lv_iload_n hx hb dJ6_bitCount_0f7a4_25 rfl (lv_at hl 0 rfl) ?_
  refine lv_iconst (v := J (4)) hx hb dJ6_bitCount_0f7a4_26 rfl ?_
  refine lv_iushr (v := J 0) hx hb dJ6_bitCount_0f7a4_27 (by decide) ?_
  refine lv_iadd hx hb dJ6_bitCount_0f7a4_28 ?_
  refine W.eq (g2 := F0 m 29 ls [.int (J 1)]) (by rw [show (J 1 + J 0 : Int32) = J 1 by decide]) ?_
  refine lv_ldcw hx hb hown (hts (.constant RJ6 267 (252645135)) (by decide +kernel)) dJ6_bitCount_0f7a4_29 ?_
  refine W.eq (g2 := F0 m 32 ls [.int (J 252645135), .int (J 1)]) rfl ?_
  refine lv_iand hx hb dJ6_bitCount_0f7a4_32 ?_
  refine W.eq (g2 := F0 m 33 ls [.int (J 1)]) (by rw [show (J 1 &&& J 252645135 : Int32) = J 1 by decide]) ?_
  refine lv_istore_n (lv' := [(0, .int (J 1))]) hx hb dJ6_bitCount_0f7a4_33 rfl hl (by decide) rfl (fun ls hl => ?_)
  refine lv_iload_n hx hb dJ6_bitCount_0f7a4_34 rfl (lv_at hl 0 rfl) ?_
  refine lv_iload_n hx hb dJ6_bitCount_0f7a4_35 rfl (lv_at hl 0 rfl) ?_
  refine lv_bipush (v := J (8)) hx hb dJ6_bitCount_0f7a4_36 (by decide) ?_
  refine lv_iushr (v := J 0) hx hb dJ6_bitCount_0f7a4_38 (by decide) ?_
  refine lv_iadd hx hb dJ6_bitCount_0f7a4_39 ?_
  refine W.eq (g2 := F0 m 40 ls [.int (J 1)]) (by rw [show (J 1 + J 0 : Int32) = J 1 by decide]) ?_
  refine lv_istore_n (lv' := [(0, .int (J 1))]) hx hb dJ6_bitCount_0f7a4_40 rfl hl (by decide) rfl (fun ls hl => ?_)
  refine lv_iload_n hx hb dJ6_bitCount_0f7a4_41 rfl (lv_at hl 0 rfl) ?_
  refine lv_iload_n hx hb dJ6_bitCount_0f7a4_42 rfl (lv_at hl 0 rfl) ?_
  refine lv_bipush (v := J (16)) hx hb dJ6_bitCount_0f7a4_43 (by decide) ?_
  refine lv_iushr (v := J 0) hx hb dJ6_bitCount_0f7a4_45 (by decide) ?_
  refine lv_iadd hx hb dJ6_bitCount_0f7a4_46 ?_
  refine W.eq (g2 := F0 m 47 ls [.int (J 1)]) (by rw [show (J 1 + J 0 : Int32) = J 1 by decide]) ?_
  refine lv_istore_n (lv' := [(0, .int (J 1))]) hx hb dJ6_bitCount_0f7a4_47 rfl hl (by decide) rfl (fun ls hl => ?_)
  refine lv_iload_n hx hb dJ6_bitCount_0f7a4_48 rfl (lv_at hl 0 rfl) ?_
  refine lv_bipush (v := J (63)) hx hb dJ6_bitCount_0f7a4_49 (by decide) ?_
  refine lv_iand hx hb dJ6_bitCount_0f7a4_51 ?_
  refine W.eq (g2 := F0 m 52 ls [.int (J 1)]) (by rw [show (J 1 &&& J 63 : Int32) = J 1 by decide]) ?_
  exact g_iret hx hb hr hW hS dJ6_bitCount_0f7a4_52 hlocks (⟨rfl, rfl⟩)

set_option maxHeartbeats 4000000 in
set_option maxRecDepth 100000 in
theorem k_bits_2 (l : Launch) (g : GX) (base : Nat) (sa : Nat → Nat) (h0 : Hp)   : MC l g base sa yJ6_bitCount_0f7a4 wsJ6_bitCount_0f7a4 ({ frames := 0, cells := 0, slots := 0, locals := 0 }) ([.int (J 2)]) h0 (fun r h' => r = some (.int (J (bc 2))) ∧ h' = h0) := by
  refine Met.ofW (cc := cJ6_bitCount_0f7a4) (maxL := 1) (ret := (some .int)) (by decide) rfl ?_
  intro p e s m args below meth c s₁ B hml hv
  obtain ⟨rfl, hk, hW⟩ := hv
  have hx := B.exec
  have hb := B.bytes
  have hr := B.returns
  have hts := atoms_spec (ws := wsJ6_bitCount_0f7a4) B.pre
  have hown : s.vm.findClass RJ6 = some m.cls := findClass_of_methodNamed B.named
  have hlocks := B.notSynchronized
  have hS : va_S (Ab base) s.heap s.heap [] := va_S.rf
  have hl := lv_entry ([.int (J 2)]) (n := 1) (Nat.le_of_ble_eq_true rfl)
  rw [lg_entry_eq]
  generalize (lg_sl ([.int (J 2)]) ++ List.replicate (1 - (lg_sl ([.int (J 2)])).length) Slot.unset).toArray = ls at hl ⊢
  have hl : lv_has ls 1 [(0, .int (J 2))] := hl
  refine lv_iload_n hx hb dJ6_bitCount_0f7a4_0 rfl (lv_at hl 0 rfl) ?_
  refine lv_iload_n hx hb dJ6_bitCount_0f7a4_1 rfl (lv_at hl 0 rfl) ?_
  refine lv_iconst (v := J (1)) hx hb dJ6_bitCount_0f7a4_2 rfl ?_
  refine lv_iushr (v := J 1) hx hb dJ6_bitCount_0f7a4_3 (by decide) ?_
  refine lv_ldcw hx hb hown (hts (.constant RJ6 265 (1431655765)) (by decide +kernel)) dJ6_bitCount_0f7a4_4 ?_
  refine W.eq (g2 := F0 m 7 ls [.int (J 1431655765), .int (J 1), .int (J 2)]) rfl ?_
  refine lv_iand hx hb dJ6_bitCount_0f7a4_7 ?_
  refine W.eq (g2 := F0 m 8 ls [.int (J 1), .int (J 2)]) (by rw [show (J 1 &&& J 1431655765 : Int32) = J 1 by decide]) ?_
  refine lv_isub hx hb dJ6_bitCount_0f7a4_8 ?_
  refine W.eq (g2 := F0 m 9 ls [.int (J 1)]) (by rw [show (J 2 - J 1 : Int32) = J 1 by decide]) ?_
  refine lv_istore_n (lv' := [(0, .int (J 1))]) hx hb dJ6_bitCount_0f7a4_9 rfl hl (by decide) rfl (fun ls hl => ?_)
  refine lv_iload_n hx hb dJ6_bitCount_0f7a4_10 rfl (lv_at hl 0 rfl) ?_
  refine lv_ldcw hx hb hown (hts (.constant RJ6 266 (858993459)) (by decide +kernel)) dJ6_bitCount_0f7a4_11 ?_
  refine W.eq (g2 := F0 m 14 ls [.int (J 858993459), .int (J 1)]) rfl ?_
  refine lv_iand hx hb dJ6_bitCount_0f7a4_14 ?_
  refine W.eq (g2 := F0 m 15 ls [.int (J 1)]) (by rw [show (J 1 &&& J 858993459 : Int32) = J 1 by decide]) ?_
  refine lv_iload_n hx hb dJ6_bitCount_0f7a4_15 rfl (lv_at hl 0 rfl) ?_
  refine lv_iconst (v := J (2)) hx hb dJ6_bitCount_0f7a4_16 rfl ?_
  refine lv_iushr (v := J 0) hx hb dJ6_bitCount_0f7a4_17 (by decide) ?_
  refine lv_ldcw hx hb hown (hts (.constant RJ6 266 (858993459)) (by decide +kernel)) dJ6_bitCount_0f7a4_18 ?_
  refine W.eq (g2 := F0 m 21 ls [.int (J 858993459), .int (J 0), .int (J 1)]) rfl ?_
  refine lv_iand hx hb dJ6_bitCount_0f7a4_21 ?_
  refine W.eq (g2 := F0 m 22 ls [.int (J 0), .int (J 1)]) (by rw [show (J 0 &&& J 858993459 : Int32) = J 0 by decide]) ?_
  refine lv_iadd hx hb dJ6_bitCount_0f7a4_22 ?_
  refine W.eq (g2 := F0 m 23 ls [.int (J 1)]) (by rw [show (J 1 + J 0 : Int32) = J 1 by decide]) ?_
  refine lv_istore_n (lv' := [(0, .int (J 1))]) hx hb dJ6_bitCount_0f7a4_23 rfl hl (by decide) rfl (fun ls hl => ?_)
  refine lv_iload_n hx hb dJ6_bitCount_0f7a4_24 rfl (lv_at hl 0 rfl) ?_
  refine lv_iload_n hx hb dJ6_bitCount_0f7a4_25 rfl (lv_at hl 0 rfl) ?_
  refine lv_iconst (v := J (4)) hx hb dJ6_bitCount_0f7a4_26 rfl ?_
  refine lv_iushr (v := J 0) hx hb dJ6_bitCount_0f7a4_27 (by decide) ?_
  refine lv_iadd hx hb dJ6_bitCount_0f7a4_28 ?_
  refine W.eq (g2 := F0 m 29 ls [.int (J 1)]) (by rw [show (J 1 + J 0 : Int32) = J 1 by decide]) ?_
  refine lv_ldcw hx hb hown (hts (.constant RJ6 267 (252645135)) (by decide +kernel)) dJ6_bitCount_0f7a4_29 ?_
  refine W.eq (g2 := F0 m 32 ls [.int (J 252645135), .int (J 1)]) rfl ?_
  refine lv_iand hx hb dJ6_bitCount_0f7a4_32 ?_
  refine W.eq (g2 := F0 m 33 ls [.int (J 1)]) (by rw [show (J 1 &&& J 252645135 : Int32) = J 1 by decide]) ?_
  refine lv_istore_n (lv' := [(0, .int (J 1))]) hx hb dJ6_bitCount_0f7a4_33 rfl hl (by decide) rfl (fun ls hl => ?_)
  refine lv_iload_n hx hb dJ6_bitCount_0f7a4_34 rfl (lv_at hl 0 rfl) ?_
  refine lv_iload_n hx hb dJ6_bitCount_0f7a4_35 rfl (lv_at hl 0 rfl) ?_
  refine lv_bipush (v := J (8)) hx hb dJ6_bitCount_0f7a4_36 (by decide) ?_
  refine lv_iushr (v := J 0) hx hb dJ6_bitCount_0f7a4_38 (by decide) ?_
  refine lv_iadd hx hb dJ6_bitCount_0f7a4_39 ?_
  refine W.eq (g2 := F0 m 40 ls [.int (J 1)]) (by rw [show (J 1 + J 0 : Int32) = J 1 by decide]) ?_
  refine lv_istore_n (lv' := [(0, .int (J 1))]) hx hb dJ6_bitCount_0f7a4_40 rfl hl (by decide) rfl (fun ls hl => ?_)
  refine lv_iload_n hx hb dJ6_bitCount_0f7a4_41 rfl (lv_at hl 0 rfl) ?_
  refine lv_iload_n hx hb dJ6_bitCount_0f7a4_42 rfl (lv_at hl 0 rfl) ?_
  refine lv_bipush (v := J (16)) hx hb dJ6_bitCount_0f7a4_43 (by decide) ?_
  refine lv_iushr (v := J 0) hx hb dJ6_bitCount_0f7a4_45 (by decide) ?_
  refine lv_iadd hx hb dJ6_bitCount_0f7a4_46 ?_
  refine W.eq (g2 := F0 m 47 ls [.int (J 1)]) (by rw [show (J 1 + J 0 : Int32) = J 1 by decide]) ?_
  refine lv_istore_n (lv' := [(0, .int (J 1))]) hx hb dJ6_bitCount_0f7a4_47 rfl hl (by decide) rfl (fun ls hl => ?_)
  refine lv_iload_n hx hb dJ6_bitCount_0f7a4_48 rfl (lv_at hl 0 rfl) ?_
  refine lv_bipush (v := J (63)) hx hb dJ6_bitCount_0f7a4_49 (by decide) ?_
  refine lv_iand hx hb dJ6_bitCount_0f7a4_51 ?_
  refine W.eq (g2 := F0 m 52 ls [.int (J 1)]) (by rw [show (J 1 &&& J 63 : Int32) = J 1 by decide]) ?_
  exact g_iret hx hb hr hW hS dJ6_bitCount_0f7a4_52 hlocks (⟨rfl, rfl⟩)

set_option maxHeartbeats 4000000 in
set_option maxRecDepth 100000 in
theorem k_bits_3 (l : Launch) (g : GX) (base : Nat) (sa : Nat → Nat) (h0 : Hp)   : MC l g base sa yJ6_bitCount_0f7a4 wsJ6_bitCount_0f7a4 ({ frames := 0, cells := 0, slots := 0, locals := 0 }) ([.int (J 3)]) h0 (fun r h' => r = some (.int (J (bc 3))) ∧ h' = h0) := by
  refine Met.ofW (cc := cJ6_bitCount_0f7a4) (maxL := 1) (ret := (some .int)) (by decide) rfl ?_
  intro p e s m args below meth c s₁ B hml hv
  obtain ⟨rfl, hk, hW⟩ := hv
  have hx := B.exec
  have hb := B.bytes
  have hr := B.returns
  have hts := atoms_spec (ws := wsJ6_bitCount_0f7a4) B.pre
  have hown : s.vm.findClass RJ6 = some m.cls := findClass_of_methodNamed B.named
  have hlocks := B.notSynchronized
  have hS : va_S (Ab base) s.heap s.heap [] := va_S.rf
  have hl := lv_entry ([.int (J 3)]) (n := 1) (Nat.le_of_ble_eq_true rfl)
  rw [lg_entry_eq]
  generalize (lg_sl ([.int (J 3)]) ++ List.replicate (1 - (lg_sl ([.int (J 3)])).length) Slot.unset).toArray = ls at hl ⊢
  have hl : lv_has ls 1 [(0, .int (J 3))] := hl
  refine lv_iload_n hx hb dJ6_bitCount_0f7a4_0 rfl (lv_at hl 0 rfl) ?_
  refine lv_iload_n hx hb dJ6_bitCount_0f7a4_1 rfl (lv_at hl 0 rfl) ?_
  refine lv_iconst (v := J (1)) hx hb dJ6_bitCount_0f7a4_2 rfl ?_
  refine lv_iushr (v := J 1) hx hb dJ6_bitCount_0f7a4_3 (by decide) ?_
  refine lv_ldcw hx hb hown (hts (.constant RJ6 265 (1431655765)) (by decide +kernel)) dJ6_bitCount_0f7a4_4 ?_
  refine W.eq (g2 := F0 m 7 ls [.int (J 1431655765), .int (J 1), .int (J 3)]) rfl ?_
  refine lv_iand hx hb dJ6_bitCount_0f7a4_7 ?_
  refine W.eq (g2 := F0 m 8 ls [.int (J 1), .int (J 3)]) (by rw [show (J 1 &&& J 1431655765 : Int32) = J 1 by decide]) ?_
  refine lv_isub hx hb dJ6_bitCount_0f7a4_8 ?_
  refine W.eq (g2 := F0 m 9 ls [.int (J 2)]) (by rw [show (J 3 - J 1 : Int32) = J 2 by decide]) ?_
  refine lv_istore_n (lv' := [(0, .int (J 2))]) hx hb dJ6_bitCount_0f7a4_9 rfl hl (by decide) rfl (fun ls hl => ?_)
  refine lv_iload_n hx hb dJ6_bitCount_0f7a4_10 rfl (lv_at hl 0 rfl) ?_
  refine lv_ldcw hx hb hown (hts (.constant RJ6 266 (858993459)) (by decide +kernel)) dJ6_bitCount_0f7a4_11 ?_
  refine W.eq (g2 := F0 m 14 ls [.int (J 858993459), .int (J 2)]) rfl ?_
  refine lv_iand hx hb dJ6_bitCount_0f7a4_14 ?_
  refine W.eq (g2 := F0 m 15 ls [.int (J 2)]) (by rw [show (J 2 &&& J 858993459 : Int32) = J 2 by decide]) ?_
  refine lv_iload_n hx hb dJ6_bitCount_0f7a4_15 rfl (lv_at hl 0 rfl) ?_
  refine lv_iconst (v := J (2)) hx hb dJ6_bitCount_0f7a4_16 rfl ?_
  refine lv_iushr (v := J 0) hx hb dJ6_bitCount_0f7a4_17 (by decide) ?_
  refine lv_ldcw hx hb hown (hts (.constant RJ6 266 (858993459)) (by decide +kernel)) dJ6_bitCount_0f7a4_18 ?_
  refine W.eq (g2 := F0 m 21 ls [.int (J 858993459), .int (J 0), .int (J 2)]) rfl ?_
  refine lv_iand hx hb dJ6_bitCount_0f7a4_21 ?_
  refine W.eq (g2 := F0 m 22 ls [.int (J 0), .int (J 2)]) (by rw [show (J 0 &&& J 858993459 : Int32) = J 0 by decide]) ?_
  refine lv_iadd hx hb dJ6_bitCount_0f7a4_22 ?_
  refine W.eq (g2 := F0 m 23 ls [.int (J 2)]) (by rw [show (J 2 + J 0 : Int32) = J 2 by decide]) ?_
  refine lv_istore_n (lv' := [(0, .int (J 2))]) hx hb dJ6_bitCount_0f7a4_23 rfl hl (by decide) rfl (fun ls hl => ?_)
  refine lv_iload_n hx hb dJ6_bitCount_0f7a4_24 rfl (lv_at hl 0 rfl) ?_
  refine lv_iload_n hx hb dJ6_bitCount_0f7a4_25 rfl (lv_at hl 0 rfl) ?_
  refine lv_iconst (v := J (4)) hx hb dJ6_bitCount_0f7a4_26 rfl ?_
  refine lv_iushr (v := J 0) hx hb dJ6_bitCount_0f7a4_27 (by decide) ?_
  refine lv_iadd hx hb dJ6_bitCount_0f7a4_28 ?_
  refine W.eq (g2 := F0 m 29 ls [.int (J 2)]) (by rw [show (J 2 + J 0 : Int32) = J 2 by decide]) ?_
  refine lv_ldcw hx hb hown (hts (.constant RJ6 267 (252645135)) (by decide +kernel)) dJ6_bitCount_0f7a4_29 ?_
  refine W.eq (g2 := F0 m 32 ls [.int (J 252645135), .int (J 2)]) rfl ?_
  refine lv_iand hx hb dJ6_bitCount_0f7a4_32 ?_
  refine W.eq (g2 := F0 m 33 ls [.int (J 2)]) (by rw [show (J 2 &&& J 252645135 : Int32) = J 2 by decide]) ?_
  refine lv_istore_n (lv' := [(0, .int (J 2))]) hx hb dJ6_bitCount_0f7a4_33 rfl hl (by decide) rfl (fun ls hl => ?_)
  refine lv_iload_n hx hb dJ6_bitCount_0f7a4_34 rfl (lv_at hl 0 rfl) ?_
  refine lv_iload_n hx hb dJ6_bitCount_0f7a4_35 rfl (lv_at hl 0 rfl) ?_
  refine lv_bipush (v := J (8)) hx hb dJ6_bitCount_0f7a4_36 (by decide) ?_
  refine lv_iushr (v := J 0) hx hb dJ6_bitCount_0f7a4_38 (by decide) ?_
  refine lv_iadd hx hb dJ6_bitCount_0f7a4_39 ?_
  refine W.eq (g2 := F0 m 40 ls [.int (J 2)]) (by rw [show (J 2 + J 0 : Int32) = J 2 by decide]) ?_
  refine lv_istore_n (lv' := [(0, .int (J 2))]) hx hb dJ6_bitCount_0f7a4_40 rfl hl (by decide) rfl (fun ls hl => ?_)
  refine lv_iload_n hx hb dJ6_bitCount_0f7a4_41 rfl (lv_at hl 0 rfl) ?_
  refine lv_iload_n hx hb dJ6_bitCount_0f7a4_42 rfl (lv_at hl 0 rfl) ?_
  refine lv_bipush (v := J (16)) hx hb dJ6_bitCount_0f7a4_43 (by decide) ?_
  refine lv_iushr (v := J 0) hx hb dJ6_bitCount_0f7a4_45 (by decide) ?_
  refine lv_iadd hx hb dJ6_bitCount_0f7a4_46 ?_
  refine W.eq (g2 := F0 m 47 ls [.int (J 2)]) (by rw [show (J 2 + J 0 : Int32) = J 2 by decide]) ?_
  refine lv_istore_n (lv' := [(0, .int (J 2))]) hx hb dJ6_bitCount_0f7a4_47 rfl hl (by decide) rfl (fun ls hl => ?_)
  refine lv_iload_n hx hb dJ6_bitCount_0f7a4_48 rfl (lv_at hl 0 rfl) ?_
  refine lv_bipush (v := J (63)) hx hb dJ6_bitCount_0f7a4_49 (by decide) ?_
  refine lv_iand hx hb dJ6_bitCount_0f7a4_51 ?_
  refine W.eq (g2 := F0 m 52 ls [.int (J 2)]) (by rw [show (J 2 &&& J 63 : Int32) = J 2 by decide]) ?_
  exact g_iret hx hb hr hW hS dJ6_bitCount_0f7a4_52 hlocks (⟨rfl, rfl⟩)

set_option maxHeartbeats 4000000 in
set_option maxRecDepth 100000 in
theorem k_bits_4 (l : Launch) (g : GX) (base : Nat) (sa : Nat → Nat) (h0 : Hp)   : MC l g base sa yJ6_bitCount_0f7a4 wsJ6_bitCount_0f7a4 ({ frames := 0, cells := 0, slots := 0, locals := 0 }) ([.int (J 4)]) h0 (fun r h' => r = some (.int (J (bc 4))) ∧ h' = h0) := by
  refine Met.ofW (cc := cJ6_bitCount_0f7a4) (maxL := 1) (ret := (some .int)) (by decide) rfl ?_
  intro p e s m args below meth c s₁ B hml hv
  obtain ⟨rfl, hk, hW⟩ := hv
  have hx := B.exec
  have hb := B.bytes
  have hr := B.returns
  have hts := atoms_spec (ws := wsJ6_bitCount_0f7a4) B.pre
  have hown : s.vm.findClass RJ6 = some m.cls := findClass_of_methodNamed B.named
  have hlocks := B.notSynchronized
  have hS : va_S (Ab base) s.heap s.heap [] := va_S.rf
  have hl := lv_entry ([.int (J 4)]) (n := 1) (Nat.le_of_ble_eq_true rfl)
  rw [lg_entry_eq]
  generalize (lg_sl ([.int (J 4)]) ++ List.replicate (1 - (lg_sl ([.int (J 4)])).length) Slot.unset).toArray = ls at hl ⊢
  have hl : lv_has ls 1 [(0, .int (J 4))] := hl
  refine lv_iload_n hx hb dJ6_bitCount_0f7a4_0 rfl (lv_at hl 0 rfl) ?_
  refine lv_iload_n hx hb dJ6_bitCount_0f7a4_1 rfl (lv_at hl 0 rfl) ?_
  refine lv_iconst (v := J (1)) hx hb dJ6_bitCount_0f7a4_2 rfl ?_
  refine lv_iushr (v := J 2) hx hb dJ6_bitCount_0f7a4_3 (by decide) ?_
  refine lv_ldcw hx hb hown (hts (.constant RJ6 265 (1431655765)) (by decide +kernel)) dJ6_bitCount_0f7a4_4 ?_
  refine W.eq (g2 := F0 m 7 ls [.int (J 1431655765), .int (J 2), .int (J 4)]) rfl ?_
  refine lv_iand hx hb dJ6_bitCount_0f7a4_7 ?_
  refine W.eq (g2 := F0 m 8 ls [.int (J 0), .int (J 4)]) (by rw [show (J 2 &&& J 1431655765 : Int32) = J 0 by decide]) ?_
  refine lv_isub hx hb dJ6_bitCount_0f7a4_8 ?_
  refine W.eq (g2 := F0 m 9 ls [.int (J 4)]) (by rw [show (J 4 - J 0 : Int32) = J 4 by decide]) ?_
  refine lv_istore_n (lv' := [(0, .int (J 4))]) hx hb dJ6_bitCount_0f7a4_9 rfl hl (by decide) rfl (fun ls hl => ?_)
  refine lv_iload_n hx hb dJ6_bitCount_0f7a4_10 rfl (lv_at hl 0 rfl) ?_
  refine lv_ldcw hx hb hown (hts (.constant RJ6 266 (858993459)) (by decide +kernel)) dJ6_bitCount_0f7a4_11 ?_
  refine W.eq (g2 := F0 m 14 ls [.int (J 858993459), .int (J 4)]) rfl ?_
  refine lv_iand hx hb dJ6_bitCount_0f7a4_14 ?_
  refine W.eq (g2 := F0 m 15 ls [.int (J 0)]) (by rw [show (J 4 &&& J 858993459 : Int32) = J 0 by decide]) ?_
  refine lv_iload_n hx hb dJ6_bitCount_0f7a4_15 rfl (lv_at hl 0 rfl) ?_
  refine lv_iconst (v := J (2)) hx hb dJ6_bitCount_0f7a4_16 rfl ?_
  refine lv_iushr (v := J 1) hx hb dJ6_bitCount_0f7a4_17 (by decide) ?_
  refine lv_ldcw hx hb hown (hts (.constant RJ6 266 (858993459)) (by decide +kernel)) dJ6_bitCount_0f7a4_18 ?_
  refine W.eq (g2 := F0 m 21 ls [.int (J 858993459), .int (J 1), .int (J 0)]) rfl ?_
  refine lv_iand hx hb dJ6_bitCount_0f7a4_21 ?_
  refine W.eq (g2 := F0 m 22 ls [.int (J 1), .int (J 0)]) (by rw [show (J 1 &&& J 858993459 : Int32) = J 1 by decide]) ?_
  refine lv_iadd hx hb dJ6_bitCount_0f7a4_22 ?_
  refine W.eq (g2 := F0 m 23 ls [.int (J 1)]) (by rw [show (J 0 + J 1 : Int32) = J 1 by decide]) ?_
  refine lv_istore_n (lv' := [(0, .int (J 1))]) hx hb dJ6_bitCount_0f7a4_23 rfl hl (by decide) rfl (fun ls hl => ?_)
  refine lv_iload_n hx hb dJ6_bitCount_0f7a4_24 rfl (lv_at hl 0 rfl) ?_
  refine lv_iload_n hx hb dJ6_bitCount_0f7a4_25 rfl (lv_at hl 0 rfl) ?_
  refine lv_iconst (v := J (4)) hx hb dJ6_bitCount_0f7a4_26 rfl ?_
  refine lv_iushr (v := J 0) hx hb dJ6_bitCount_0f7a4_27 (by decide) ?_
  refine lv_iadd hx hb dJ6_bitCount_0f7a4_28 ?_
  refine W.eq (g2 := F0 m 29 ls [.int (J 1)]) (by rw [show (J 1 + J 0 : Int32) = J 1 by decide]) ?_
  refine lv_ldcw hx hb hown (hts (.constant RJ6 267 (252645135)) (by decide +kernel)) dJ6_bitCount_0f7a4_29 ?_
  refine W.eq (g2 := F0 m 32 ls [.int (J 252645135), .int (J 1)]) rfl ?_
  refine lv_iand hx hb dJ6_bitCount_0f7a4_32 ?_
  refine W.eq (g2 := F0 m 33 ls [.int (J 1)]) (by rw [show (J 1 &&& J 252645135 : Int32) = J 1 by decide]) ?_
  refine lv_istore_n (lv' := [(0, .int (J 1))]) hx hb dJ6_bitCount_0f7a4_33 rfl hl (by decide) rfl (fun ls hl => ?_)
  refine lv_iload_n hx hb dJ6_bitCount_0f7a4_34 rfl (lv_at hl 0 rfl) ?_
  refine lv_iload_n hx hb dJ6_bitCount_0f7a4_35 rfl (lv_at hl 0 rfl) ?_
  refine lv_bipush (v := J (8)) hx hb dJ6_bitCount_0f7a4_36 (by decide) ?_
  refine lv_iushr (v := J 0) hx hb dJ6_bitCount_0f7a4_38 (by decide) ?_
  refine lv_iadd hx hb dJ6_bitCount_0f7a4_39 ?_
  refine W.eq (g2 := F0 m 40 ls [.int (J 1)]) (by rw [show (J 1 + J 0 : Int32) = J 1 by decide]) ?_
  refine lv_istore_n (lv' := [(0, .int (J 1))]) hx hb dJ6_bitCount_0f7a4_40 rfl hl (by decide) rfl (fun ls hl => ?_)
  refine lv_iload_n hx hb dJ6_bitCount_0f7a4_41 rfl (lv_at hl 0 rfl) ?_
  refine lv_iload_n hx hb dJ6_bitCount_0f7a4_42 rfl (lv_at hl 0 rfl) ?_
  refine lv_bipush (v := J (16)) hx hb dJ6_bitCount_0f7a4_43 (by decide) ?_
  refine lv_iushr (v := J 0) hx hb dJ6_bitCount_0f7a4_45 (by decide) ?_
  refine lv_iadd hx hb dJ6_bitCount_0f7a4_46 ?_
  refine W.eq (g2 := F0 m 47 ls [.int (J 1)]) (by rw [show (J 1 + J 0 : Int32) = J 1 by decide]) ?_
  refine lv_istore_n (lv' := [(0, .int (J 1))]) hx hb dJ6_bitCount_0f7a4_47 rfl hl (by decide) rfl (fun ls hl => ?_)
  refine lv_iload_n hx hb dJ6_bitCount_0f7a4_48 rfl (lv_at hl 0 rfl) ?_
  refine lv_bipush (v := J (63)) hx hb dJ6_bitCount_0f7a4_49 (by decide) ?_
  refine lv_iand hx hb dJ6_bitCount_0f7a4_51 ?_
  refine W.eq (g2 := F0 m 52 ls [.int (J 1)]) (by rw [show (J 1 &&& J 63 : Int32) = J 1 by decide]) ?_
  exact g_iret hx hb hr hW hS dJ6_bitCount_0f7a4_52 hlocks (⟨rfl, rfl⟩)

set_option maxHeartbeats 4000000 in
set_option maxRecDepth 100000 in
theorem k_bits_5 (l : Launch) (g : GX) (base : Nat) (sa : Nat → Nat) (h0 : Hp)   : MC l g base sa yJ6_bitCount_0f7a4 wsJ6_bitCount_0f7a4 ({ frames := 0, cells := 0, slots := 0, locals := 0 }) ([.int (J 5)]) h0 (fun r h' => r = some (.int (J (bc 5))) ∧ h' = h0) := by
  refine Met.ofW (cc := cJ6_bitCount_0f7a4) (maxL := 1) (ret := (some .int)) (by decide) rfl ?_
  intro p e s m args below meth c s₁ B hml hv
  obtain ⟨rfl, hk, hW⟩ := hv
  have hx := B.exec
  have hb := B.bytes
  have hr := B.returns
  have hts := atoms_spec (ws := wsJ6_bitCount_0f7a4) B.pre
  have hown : s.vm.findClass RJ6 = some m.cls := findClass_of_methodNamed B.named
  have hlocks := B.notSynchronized
  have hS : va_S (Ab base) s.heap s.heap [] := va_S.rf
  have hl := lv_entry ([.int (J 5)]) (n := 1) (Nat.le_of_ble_eq_true rfl)
  rw [lg_entry_eq]
  generalize (lg_sl ([.int (J 5)]) ++ List.replicate (1 - (lg_sl ([.int (J 5)])).length) Slot.unset).toArray = ls at hl ⊢
  have hl : lv_has ls 1 [(0, .int (J 5))] := hl
  refine lv_iload_n hx hb dJ6_bitCount_0f7a4_0 rfl (lv_at hl 0 rfl) ?_
  refine lv_iload_n hx hb dJ6_bitCount_0f7a4_1 rfl (lv_at hl 0 rfl) ?_
  refine lv_iconst (v := J (1)) hx hb dJ6_bitCount_0f7a4_2 rfl ?_
  refine lv_iushr (v := J 2) hx hb dJ6_bitCount_0f7a4_3 (by decide) ?_
  refine lv_ldcw hx hb hown (hts (.constant RJ6 265 (1431655765)) (by decide +kernel)) dJ6_bitCount_0f7a4_4 ?_
  refine W.eq (g2 := F0 m 7 ls [.int (J 1431655765), .int (J 2), .int (J 5)]) rfl ?_
  refine lv_iand hx hb dJ6_bitCount_0f7a4_7 ?_
  refine W.eq (g2 := F0 m 8 ls [.int (J 0), .int (J 5)]) (by rw [show (J 2 &&& J 1431655765 : Int32) = J 0 by decide]) ?_
  refine lv_isub hx hb dJ6_bitCount_0f7a4_8 ?_
  refine W.eq (g2 := F0 m 9 ls [.int (J 5)]) (by rw [show (J 5 - J 0 : Int32) = J 5 by decide]) ?_
  refine lv_istore_n (lv' := [(0, .int (J 5))]) hx hb dJ6_bitCount_0f7a4_9 rfl hl (by decide) rfl (fun ls hl => ?_)
  refine lv_iload_n hx hb dJ6_bitCount_0f7a4_10 rfl (lv_at hl 0 rfl) ?_
  refine lv_ldcw hx hb hown (hts (.constant RJ6 266 (858993459)) (by decide +kernel)) dJ6_bitCount_0f7a4_11 ?_
  refine W.eq (g2 := F0 m 14 ls [.int (J 858993459), .int (J 5)]) rfl ?_
  refine lv_iand hx hb dJ6_bitCount_0f7a4_14 ?_
  refine W.eq (g2 := F0 m 15 ls [.int (J 1)]) (by rw [show (J 5 &&& J 858993459 : Int32) = J 1 by decide]) ?_
  refine lv_iload_n hx hb dJ6_bitCount_0f7a4_15 rfl (lv_at hl 0 rfl) ?_
  refine lv_iconst (v := J (2)) hx hb dJ6_bitCount_0f7a4_16 rfl ?_
  refine lv_iushr (v := J 1) hx hb dJ6_bitCount_0f7a4_17 (by decide) ?_
  refine lv_ldcw hx hb hown (hts (.constant RJ6 266 (858993459)) (by decide +kernel)) dJ6_bitCount_0f7a4_18 ?_
  refine W.eq (g2 := F0 m 21 ls [.int (J 858993459), .int (J 1), .int (J 1)]) rfl ?_
  refine lv_iand hx hb dJ6_bitCount_0f7a4_21 ?_
  refine W.eq (g2 := F0 m 22 ls [.int (J 1), .int (J 1)]) (by rw [show (J 1 &&& J 858993459 : Int32) = J 1 by decide]) ?_
  refine lv_iadd hx hb dJ6_bitCount_0f7a4_22 ?_
  refine W.eq (g2 := F0 m 23 ls [.int (J 2)]) (by rw [show (J 1 + J 1 : Int32) = J 2 by decide]) ?_
  refine lv_istore_n (lv' := [(0, .int (J 2))]) hx hb dJ6_bitCount_0f7a4_23 rfl hl (by decide) rfl (fun ls hl => ?_)
  refine lv_iload_n hx hb dJ6_bitCount_0f7a4_24 rfl (lv_at hl 0 rfl) ?_
  refine lv_iload_n hx hb dJ6_bitCount_0f7a4_25 rfl (lv_at hl 0 rfl) ?_
  refine lv_iconst (v := J (4)) hx hb dJ6_bitCount_0f7a4_26 rfl ?_
  refine lv_iushr (v := J 0) hx hb dJ6_bitCount_0f7a4_27 (by decide) ?_
  refine lv_iadd hx hb dJ6_bitCount_0f7a4_28 ?_
  refine W.eq (g2 := F0 m 29 ls [.int (J 2)]) (by rw [show (J 2 + J 0 : Int32) = J 2 by decide]) ?_
  refine lv_ldcw hx hb hown (hts (.constant RJ6 267 (252645135)) (by decide +kernel)) dJ6_bitCount_0f7a4_29 ?_
  refine W.eq (g2 := F0 m 32 ls [.int (J 252645135), .int (J 2)]) rfl ?_
  refine lv_iand hx hb dJ6_bitCount_0f7a4_32 ?_
  refine W.eq (g2 := F0 m 33 ls [.int (J 2)]) (by rw [show (J 2 &&& J 252645135 : Int32) = J 2 by decide]) ?_
  refine lv_istore_n (lv' := [(0, .int (J 2))]) hx hb dJ6_bitCount_0f7a4_33 rfl hl (by decide) rfl (fun ls hl => ?_)
  refine lv_iload_n hx hb dJ6_bitCount_0f7a4_34 rfl (lv_at hl 0 rfl) ?_
  refine lv_iload_n hx hb dJ6_bitCount_0f7a4_35 rfl (lv_at hl 0 rfl) ?_
  refine lv_bipush (v := J (8)) hx hb dJ6_bitCount_0f7a4_36 (by decide) ?_
  refine lv_iushr (v := J 0) hx hb dJ6_bitCount_0f7a4_38 (by decide) ?_
  refine lv_iadd hx hb dJ6_bitCount_0f7a4_39 ?_
  refine W.eq (g2 := F0 m 40 ls [.int (J 2)]) (by rw [show (J 2 + J 0 : Int32) = J 2 by decide]) ?_
  refine lv_istore_n (lv' := [(0, .int (J 2))]) hx hb dJ6_bitCount_0f7a4_40 rfl hl (by decide) rfl (fun ls hl => ?_)
  refine lv_iload_n hx hb dJ6_bitCount_0f7a4_41 rfl (lv_at hl 0 rfl) ?_
  refine lv_iload_n hx hb dJ6_bitCount_0f7a4_42 rfl (lv_at hl 0 rfl) ?_
  refine lv_bipush (v := J (16)) hx hb dJ6_bitCount_0f7a4_43 (by decide) ?_
  refine lv_iushr (v := J 0) hx hb dJ6_bitCount_0f7a4_45 (by decide) ?_
  refine lv_iadd hx hb dJ6_bitCount_0f7a4_46 ?_
  refine W.eq (g2 := F0 m 47 ls [.int (J 2)]) (by rw [show (J 2 + J 0 : Int32) = J 2 by decide]) ?_
  refine lv_istore_n (lv' := [(0, .int (J 2))]) hx hb dJ6_bitCount_0f7a4_47 rfl hl (by decide) rfl (fun ls hl => ?_)
  refine lv_iload_n hx hb dJ6_bitCount_0f7a4_48 rfl (lv_at hl 0 rfl) ?_
  refine lv_bipush (v := J (63)) hx hb dJ6_bitCount_0f7a4_49 (by decide) ?_
  refine lv_iand hx hb dJ6_bitCount_0f7a4_51 ?_
  refine W.eq (g2 := F0 m 52 ls [.int (J 2)]) (by rw [show (J 2 &&& J 63 : Int32) = J 2 by decide]) ?_
  exact g_iret hx hb hr hW hS dJ6_bitCount_0f7a4_52 hlocks (⟨rfl, rfl⟩)

set_option maxHeartbeats 4000000 in
set_option maxRecDepth 100000 in
theorem k_bits_6 (l : Launch) (g : GX) (base : Nat) (sa : Nat → Nat) (h0 : Hp)   : MC l g base sa yJ6_bitCount_0f7a4 wsJ6_bitCount_0f7a4 ({ frames := 0, cells := 0, slots := 0, locals := 0 }) ([.int (J 6)]) h0 (fun r h' => r = some (.int (J (bc 6))) ∧ h' = h0) := by
  refine Met.ofW (cc := cJ6_bitCount_0f7a4) (maxL := 1) (ret := (some .int)) (by decide) rfl ?_
  intro p e s m args below meth c s₁ B hml hv
  obtain ⟨rfl, hk, hW⟩ := hv
  have hx := B.exec
  have hb := B.bytes
  have hr := B.returns
  have hts := atoms_spec (ws := wsJ6_bitCount_0f7a4) B.pre
  have hown : s.vm.findClass RJ6 = some m.cls := findClass_of_methodNamed B.named
  have hlocks := B.notSynchronized
  have hS : va_S (Ab base) s.heap s.heap [] := va_S.rf
  have hl := lv_entry ([.int (J 6)]) (n := 1) (Nat.le_of_ble_eq_true rfl)
  rw [lg_entry_eq]
  generalize (lg_sl ([.int (J 6)]) ++ List.replicate (1 - (lg_sl ([.int (J 6)])).length) Slot.unset).toArray = ls at hl ⊢
  have hl : lv_has ls 1 [(0, .int (J 6))] := hl
  refine lv_iload_n hx hb dJ6_bitCount_0f7a4_0 rfl (lv_at hl 0 rfl) ?_
  refine lv_iload_n hx hb dJ6_bitCount_0f7a4_1 rfl (lv_at hl 0 rfl) ?_
  refine lv_iconst (v := J (1)) hx hb dJ6_bitCount_0f7a4_2 rfl ?_
  refine lv_iushr (v := J 3) hx hb dJ6_bitCount_0f7a4_3 (by decide) ?_
  refine lv_ldcw hx hb hown (hts (.constant RJ6 265 (1431655765)) (by decide +kernel)) dJ6_bitCount_0f7a4_4 ?_
  refine W.eq (g2 := F0 m 7 ls [.int (J 1431655765), .int (J 3), .int (J 6)]) rfl ?_
  refine lv_iand hx hb dJ6_bitCount_0f7a4_7 ?_
  refine W.eq (g2 := F0 m 8 ls [.int (J 1), .int (J 6)]) (by rw [show (J 3 &&& J 1431655765 : Int32) = J 1 by decide]) ?_
  refine lv_isub hx hb dJ6_bitCount_0f7a4_8 ?_
  refine W.eq (g2 := F0 m 9 ls [.int (J 5)]) (by rw [show (J 6 - J 1 : Int32) = J 5 by decide]) ?_
  refine lv_istore_n (lv' := [(0, .int (J 5))]) hx hb dJ6_bitCount_0f7a4_9 rfl hl (by decide) rfl (fun ls hl => ?_)
  refine lv_iload_n hx hb dJ6_bitCount_0f7a4_10 rfl (lv_at hl 0 rfl) ?_
  refine lv_ldcw hx hb hown (hts (.constant RJ6 266 (858993459)) (by decide +kernel)) dJ6_bitCount_0f7a4_11 ?_
  refine W.eq (g2 := F0 m 14 ls [.int (J 858993459), .int (J 5)]) rfl ?_
  refine lv_iand hx hb dJ6_bitCount_0f7a4_14 ?_
  refine W.eq (g2 := F0 m 15 ls [.int (J 1)]) (by rw [show (J 5 &&& J 858993459 : Int32) = J 1 by decide]) ?_
  refine lv_iload_n hx hb dJ6_bitCount_0f7a4_15 rfl (lv_at hl 0 rfl) ?_
  refine lv_iconst (v := J (2)) hx hb dJ6_bitCount_0f7a4_16 rfl ?_
  refine lv_iushr (v := J 1) hx hb dJ6_bitCount_0f7a4_17 (by decide) ?_
  refine lv_ldcw hx hb hown (hts (.constant RJ6 266 (858993459)) (by decide +kernel)) dJ6_bitCount_0f7a4_18 ?_
  refine W.eq (g2 := F0 m 21 ls [.int (J 858993459), .int (J 1), .int (J 1)]) rfl ?_
  refine lv_iand hx hb dJ6_bitCount_0f7a4_21 ?_
  refine W.eq (g2 := F0 m 22 ls [.int (J 1), .int (J 1)]) (by rw [show (J 1 &&& J 858993459 : Int32) = J 1 by decide]) ?_
  refine lv_iadd hx hb dJ6_bitCount_0f7a4_22 ?_
  refine W.eq (g2 := F0 m 23 ls [.int (J 2)]) (by rw [show (J 1 + J 1 : Int32) = J 2 by decide]) ?_
  refine lv_istore_n (lv' := [(0, .int (J 2))]) hx hb dJ6_bitCount_0f7a4_23 rfl hl (by decide) rfl (fun ls hl => ?_)
  refine lv_iload_n hx hb dJ6_bitCount_0f7a4_24 rfl (lv_at hl 0 rfl) ?_
  refine lv_iload_n hx hb dJ6_bitCount_0f7a4_25 rfl (lv_at hl 0 rfl) ?_
  refine lv_iconst (v := J (4)) hx hb dJ6_bitCount_0f7a4_26 rfl ?_
  refine lv_iushr (v := J 0) hx hb dJ6_bitCount_0f7a4_27 (by decide) ?_
  refine lv_iadd hx hb dJ6_bitCount_0f7a4_28 ?_
  refine W.eq (g2 := F0 m 29 ls [.int (J 2)]) (by rw [show (J 2 + J 0 : Int32) = J 2 by decide]) ?_
  refine lv_ldcw hx hb hown (hts (.constant RJ6 267 (252645135)) (by decide +kernel)) dJ6_bitCount_0f7a4_29 ?_
  refine W.eq (g2 := F0 m 32 ls [.int (J 252645135), .int (J 2)]) rfl ?_
  refine lv_iand hx hb dJ6_bitCount_0f7a4_32 ?_
  refine W.eq (g2 := F0 m 33 ls [.int (J 2)]) (by rw [show (J 2 &&& J 252645135 : Int32) = J 2 by decide]) ?_
  refine lv_istore_n (lv' := [(0, .int (J 2))]) hx hb dJ6_bitCount_0f7a4_33 rfl hl (by decide) rfl (fun ls hl => ?_)
  refine lv_iload_n hx hb dJ6_bitCount_0f7a4_34 rfl (lv_at hl 0 rfl) ?_
  refine lv_iload_n hx hb dJ6_bitCount_0f7a4_35 rfl (lv_at hl 0 rfl) ?_
  refine lv_bipush (v := J (8)) hx hb dJ6_bitCount_0f7a4_36 (by decide) ?_
  refine lv_iushr (v := J 0) hx hb dJ6_bitCount_0f7a4_38 (by decide) ?_
  refine lv_iadd hx hb dJ6_bitCount_0f7a4_39 ?_
  refine W.eq (g2 := F0 m 40 ls [.int (J 2)]) (by rw [show (J 2 + J 0 : Int32) = J 2 by decide]) ?_
  refine lv_istore_n (lv' := [(0, .int (J 2))]) hx hb dJ6_bitCount_0f7a4_40 rfl hl (by decide) rfl (fun ls hl => ?_)
  refine lv_iload_n hx hb dJ6_bitCount_0f7a4_41 rfl (lv_at hl 0 rfl) ?_
  refine lv_iload_n hx hb dJ6_bitCount_0f7a4_42 rfl (lv_at hl 0 rfl) ?_
  refine lv_bipush (v := J (16)) hx hb dJ6_bitCount_0f7a4_43 (by decide) ?_
  refine lv_iushr (v := J 0) hx hb dJ6_bitCount_0f7a4_45 (by decide) ?_
  refine lv_iadd hx hb dJ6_bitCount_0f7a4_46 ?_
  refine W.eq (g2 := F0 m 47 ls [.int (J 2)]) (by rw [show (J 2 + J 0 : Int32) = J 2 by decide]) ?_
  refine lv_istore_n (lv' := [(0, .int (J 2))]) hx hb dJ6_bitCount_0f7a4_47 rfl hl (by decide) rfl (fun ls hl => ?_)
  refine lv_iload_n hx hb dJ6_bitCount_0f7a4_48 rfl (lv_at hl 0 rfl) ?_
  refine lv_bipush (v := J (63)) hx hb dJ6_bitCount_0f7a4_49 (by decide) ?_
  refine lv_iand hx hb dJ6_bitCount_0f7a4_51 ?_
  refine W.eq (g2 := F0 m 52 ls [.int (J 2)]) (by rw [show (J 2 &&& J 63 : Int32) = J 2 by decide]) ?_
  exact g_iret hx hb hr hW hS dJ6_bitCount_0f7a4_52 hlocks (⟨rfl, rfl⟩)

set_option maxHeartbeats 4000000 in
set_option maxRecDepth 100000 in
theorem k_bits_7 (l : Launch) (g : GX) (base : Nat) (sa : Nat → Nat) (h0 : Hp)   : MC l g base sa yJ6_bitCount_0f7a4 wsJ6_bitCount_0f7a4 ({ frames := 0, cells := 0, slots := 0, locals := 0 }) ([.int (J 7)]) h0 (fun r h' => r = some (.int (J (bc 7))) ∧ h' = h0) := by
  refine Met.ofW (cc := cJ6_bitCount_0f7a4) (maxL := 1) (ret := (some .int)) (by decide) rfl ?_
  intro p e s m args below meth c s₁ B hml hv
  obtain ⟨rfl, hk, hW⟩ := hv
  have hx := B.exec
  have hb := B.bytes
  have hr := B.returns
  have hts := atoms_spec (ws := wsJ6_bitCount_0f7a4) B.pre
  have hown : s.vm.findClass RJ6 = some m.cls := findClass_of_methodNamed B.named
  have hlocks := B.notSynchronized
  have hS : va_S (Ab base) s.heap s.heap [] := va_S.rf
  have hl := lv_entry ([.int (J 7)]) (n := 1) (Nat.le_of_ble_eq_true rfl)
  rw [lg_entry_eq]
  generalize (lg_sl ([.int (J 7)]) ++ List.replicate (1 - (lg_sl ([.int (J 7)])).length) Slot.unset).toArray = ls at hl ⊢
  have hl : lv_has ls 1 [(0, .int (J 7))] := hl
  refine lv_iload_n hx hb dJ6_bitCount_0f7a4_0 rfl (lv_at hl 0 rfl) ?_
  refine lv_iload_n hx hb dJ6_bitCount_0f7a4_1 rfl (lv_at hl 0 rfl) ?_
  refine lv_iconst (v := J (1)) hx hb dJ6_bitCount_0f7a4_2 rfl ?_
  refine lv_iushr (v := J 3) hx hb dJ6_bitCount_0f7a4_3 (by decide) ?_
  refine lv_ldcw hx hb hown (hts (.constant RJ6 265 (1431655765)) (by decide +kernel)) dJ6_bitCount_0f7a4_4 ?_
  refine W.eq (g2 := F0 m 7 ls [.int (J 1431655765), .int (J 3), .int (J 7)]) rfl ?_
  refine lv_iand hx hb dJ6_bitCount_0f7a4_7 ?_
  refine W.eq (g2 := F0 m 8 ls [.int (J 1), .int (J 7)]) (by rw [show (J 3 &&& J 1431655765 : Int32) = J 1 by decide]) ?_
  refine lv_isub hx hb dJ6_bitCount_0f7a4_8 ?_
  refine W.eq (g2 := F0 m 9 ls [.int (J 6)]) (by rw [show (J 7 - J 1 : Int32) = J 6 by decide]) ?_
  refine lv_istore_n (lv' := [(0, .int (J 6))]) hx hb dJ6_bitCount_0f7a4_9 rfl hl (by decide) rfl (fun ls hl => ?_)
  refine lv_iload_n hx hb dJ6_bitCount_0f7a4_10 rfl (lv_at hl 0 rfl) ?_
  refine lv_ldcw hx hb hown (hts (.constant RJ6 266 (858993459)) (by decide +kernel)) dJ6_bitCount_0f7a4_11 ?_
  refine W.eq (g2 := F0 m 14 ls [.int (J 858993459), .int (J 6)]) rfl ?_
  refine lv_iand hx hb dJ6_bitCount_0f7a4_14 ?_
  refine W.eq (g2 := F0 m 15 ls [.int (J 2)]) (by rw [show (J 6 &&& J 858993459 : Int32) = J 2 by decide]) ?_
  refine lv_iload_n hx hb dJ6_bitCount_0f7a4_15 rfl (lv_at hl 0 rfl) ?_
  refine lv_iconst (v := J (2)) hx hb dJ6_bitCount_0f7a4_16 rfl ?_
  refine lv_iushr (v := J 1) hx hb dJ6_bitCount_0f7a4_17 (by decide) ?_
  refine lv_ldcw hx hb hown (hts (.constant RJ6 266 (858993459)) (by decide +kernel)) dJ6_bitCount_0f7a4_18 ?_
  refine W.eq (g2 := F0 m 21 ls [.int (J 858993459), .int (J 1), .int (J 2)]) rfl ?_
  refine lv_iand hx hb dJ6_bitCount_0f7a4_21 ?_
  refine W.eq (g2 := F0 m 22 ls [.int (J 1), .int (J 2)]) (by rw [show (J 1 &&& J 858993459 : Int32) = J 1 by decide]) ?_
  refine lv_iadd hx hb dJ6_bitCount_0f7a4_22 ?_
  refine W.eq (g2 := F0 m 23 ls [.int (J 3)]) (by rw [show (J 2 + J 1 : Int32) = J 3 by decide]) ?_
  refine lv_istore_n (lv' := [(0, .int (J 3))]) hx hb dJ6_bitCount_0f7a4_23 rfl hl (by decide) rfl (fun ls hl => ?_)
  refine lv_iload_n hx hb dJ6_bitCount_0f7a4_24 rfl (lv_at hl 0 rfl) ?_
  refine lv_iload_n hx hb dJ6_bitCount_0f7a4_25 rfl (lv_at hl 0 rfl) ?_
  refine lv_iconst (v := J (4)) hx hb dJ6_bitCount_0f7a4_26 rfl ?_
  refine lv_iushr (v := J 0) hx hb dJ6_bitCount_0f7a4_27 (by decide) ?_
  refine lv_iadd hx hb dJ6_bitCount_0f7a4_28 ?_
  refine W.eq (g2 := F0 m 29 ls [.int (J 3)]) (by rw [show (J 3 + J 0 : Int32) = J 3 by decide]) ?_
  refine lv_ldcw hx hb hown (hts (.constant RJ6 267 (252645135)) (by decide +kernel)) dJ6_bitCount_0f7a4_29 ?_
  refine W.eq (g2 := F0 m 32 ls [.int (J 252645135), .int (J 3)]) rfl ?_
  refine lv_iand hx hb dJ6_bitCount_0f7a4_32 ?_
  refine W.eq (g2 := F0 m 33 ls [.int (J 3)]) (by rw [show (J 3 &&& J 252645135 : Int32) = J 3 by decide]) ?_
  refine lv_istore_n (lv' := [(0, .int (J 3))]) hx hb dJ6_bitCount_0f7a4_33 rfl hl (by decide) rfl (fun ls hl => ?_)
  refine lv_iload_n hx hb dJ6_bitCount_0f7a4_34 rfl (lv_at hl 0 rfl) ?_
  refine lv_iload_n hx hb dJ6_bitCount_0f7a4_35 rfl (lv_at hl 0 rfl) ?_
  refine lv_bipush (v := J (8)) hx hb dJ6_bitCount_0f7a4_36 (by decide) ?_
  refine lv_iushr (v := J 0) hx hb dJ6_bitCount_0f7a4_38 (by decide) ?_
  refine lv_iadd hx hb dJ6_bitCount_0f7a4_39 ?_
  refine W.eq (g2 := F0 m 40 ls [.int (J 3)]) (by rw [show (J 3 + J 0 : Int32) = J 3 by decide]) ?_
  refine lv_istore_n (lv' := [(0, .int (J 3))]) hx hb dJ6_bitCount_0f7a4_40 rfl hl (by decide) rfl (fun ls hl => ?_)
  refine lv_iload_n hx hb dJ6_bitCount_0f7a4_41 rfl (lv_at hl 0 rfl) ?_
  refine lv_iload_n hx hb dJ6_bitCount_0f7a4_42 rfl (lv_at hl 0 rfl) ?_
  refine lv_bipush (v := J (16)) hx hb dJ6_bitCount_0f7a4_43 (by decide) ?_
  refine lv_iushr (v := J 0) hx hb dJ6_bitCount_0f7a4_45 (by decide) ?_
  refine lv_iadd hx hb dJ6_bitCount_0f7a4_46 ?_
  refine W.eq (g2 := F0 m 47 ls [.int (J 3)]) (by rw [show (J 3 + J 0 : Int32) = J 3 by decide]) ?_
  refine lv_istore_n (lv' := [(0, .int (J 3))]) hx hb dJ6_bitCount_0f7a4_47 rfl hl (by decide) rfl (fun ls hl => ?_)
  refine lv_iload_n hx hb dJ6_bitCount_0f7a4_48 rfl (lv_at hl 0 rfl) ?_
  refine lv_bipush (v := J (63)) hx hb dJ6_bitCount_0f7a4_49 (by decide) ?_
  refine lv_iand hx hb dJ6_bitCount_0f7a4_51 ?_
  refine W.eq (g2 := F0 m 52 ls [.int (J 3)]) (by rw [show (J 3 &&& J 63 : Int32) = J 3 by decide]) ?_
  exact g_iret hx hb hr hW hS dJ6_bitCount_0f7a4_52 hlocks (⟨rfl, rfl⟩)

theorem k_bits (l : Launch) (g : GX) (base : Nat) (sa : Nat → Nat) (h0 : Hp) (ch : Int) (hc : 0 ≤ ch ∧ ch < 8) : MC l g base sa yJ6_bitCount_0f7a4 wsJ6_bitCount_0f7a4 ({ frames := 0, cells := 0, slots := 0, locals := 0 }) ([.int (J ch)]) h0 (fun r h' => r = some (.int (J (bc ch))) ∧ h' = h0) := by
  have : ch = 0 ∨ ch = 1 ∨ ch = 2 ∨ ch = 3 ∨ ch = 4 ∨ ch = 5 ∨ ch = 6 ∨ ch = 7 := by omega
  rcases this with rfl | rfl | rfl | rfl | rfl | rfl | rfl | rfl
  · exact k_bits_0 l g base sa h0
  · exact k_bits_1 l g base sa h0
  · exact k_bits_2 l g base sa h0
  · exact k_bits_3 l g base sa h0
  · exact k_bits_4 l g base sa h0
  · exact k_bits_5 l g base sa h0
  · exact k_bits_6 l g base sa h0
  · exact k_bits_7 l g base sa h0
