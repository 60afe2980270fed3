set_option maxHeartbeats 4000000 in
set_option maxRecDepth 100000 in
theorem m_does (l : Launch) (g : GX) (base : Nat) (sa : Nat → Nat) (h0 : Hp) (o : Nat) (R : Nat → Nat) (I : Nat → Int) (A : Nat → Int → Int) (a : Int) (hM : OB g 6 28 kd6 h0 o R I mL A) (ha : 0 ≤ a ∧ a < 24) (ht : Tok I A) : MC l g base sa yX6_does wsX6_does ({ frames := 0, cells := 0, slots := 0, locals := 0 }) ([.ref o, .int (J a)]) h0 (fun r h' => ∃ I', r = some (.int (J (if 0 < p_mv (I 7) (I 10) (I 11) (A 8) (A 9) a then 1 else 0))) ∧ Fr (FP 28 kd6 o R) h0 h' ∧ OB g 6 28 kd6 h' o R I' mL (va_up A 9 (p_do (A 9) a (p_mv (I 7) (I 10) (I 11) (A 8) (A 9) a))) ∧ (∀ k, k ≠ 12 → k ≠ 13 → I' k = I k) ∧ (0 < p_mv (I 7) (I 10) (I 11) (A 8) (A 9) a → I' 12 = p_mv (I 7) (I 10) (I 11) (A 8) (A 9) a ∧ I' 13 = (if 4 ≤ a ∧ a < 8 then p_mv (I 7) (I 10) (I 11) (A 8) (A 9) a else 0))) := by
  refine Met.ofW (cc := cX6_does) (maxL := 4) (ret := (some .boolean)) (by decide) rfl ?_
  intro p e s m args below meth c s₁ B hml hv
  obtain ⟨rfl, hk, hW⟩ := hv
  have hx := B.exec
  have hb := B.bytes
  have hr := B.returns
  have hts := atoms_spec (ws := wsX6_does) B.pre
  have hown : s.vm.findClass RX6 = some m.cls := findClass_of_methodNamed B.named
  have hlocks := B.notSynchronized
  have hfX6 : ∀ w ∈ wsX60, w.before ([.ref o, .int (J a)]).toArray s = true := fun w h => hts w (List.mem_cons_of_mem _ (List.mem_append_right _ h))
  have hS : va_S (Ab base) s.heap s.heap [] := va_S.rf
  have hl := lv_entry ([.ref o, .int (J a)]) (n := 4) (Nat.le_of_ble_eq_true rfl)
  rw [lg_entry_eq]
  generalize (lg_sl ([.ref o, .int (J a)]) ++ List.replicate (4 - (lg_sl ([.ref o, .int (J a)])).length) Slot.unset).toArray = ls at hl ⊢
  have hl : lv_has ls 4 [(0, .ref o), (1, .int (J a))] := hl
  have hF : Fr (FP 28 kd6 o R) h0 h0 := Fr.rf
  obtain ⟨ht1, ht2, ht3, ht4, ht5, ht6⟩ := ht
  obtain ⟨ka1, ka2, ka3⟩ := k_acts ha.1 ha.2
  have cut_18 : ∀ (i : Int) (ls : Array Slot), (i = if a < 8 then a % 4 else (a - 8) / 4) → (0 ≤ i ∧ i ≤ 3) → (lv_has ls 4 [(0, .ref o), (1, .int (J a))]) → W p l e (headSpec wsX6_does ({ frames := 0, cells := 0, slots := 0, locals := 0 })).room s m ([.ref o, .int (J a)]).toArray below meth c s.heap [] 0 0 (MQ below (QcM g base (fun r h' => ∃ I', r = some (.int (J (if 0 < p_mv (I 7) (I 10) (I 11) (A 8) (A 9) a then 1 else 0))) ∧ Fr (FP 28 kd6 o R) h0 h' ∧ OB g 6 28 kd6 h' o R I' mL (va_up A 9 (p_do (A 9) a (p_mv (I 7) (I 10) (I 11) (A 8) (A 9) a))) ∧ (∀ k, k ≠ 12 → k ≠ 13 → I' k = I k) ∧ (0 < p_mv (I 7) (I 10) (I 11) (A 8) (A 9) a → I' 12 = p_mv (I 7) (I 10) (I 11) (A 8) (A 9) a ∧ I' 13 = (if 4 ≤ a ∧ a < 8 then p_mv (I 7) (I 10) (I 11) (A 8) (A 9) a else 0)))) ([.ref o, .int (J a)]).toArray s (0) (0) (Ab base)) (F0 m 18 ls [.int (J i)]) := by
    intro i  ls ei ir hl
    refine lv_istore_n (lv' := [(2, .int (J i)), (0, .ref o), (1, .int (J a))]) hx hb dX6_does_18 rfl hl (by decide) rfl (fun ls hl => ?_)
    have cut_32 : ∀ (j : Int) (ls : Array Slot), (j = if a < 8 then i else a % 4) → (0 ≤ j ∧ j ≤ 3) → (lv_has ls 4 [(2, .int (J i)), (0, .ref o), (1, .int (J a))]) → W p l e (headSpec wsX6_does ({ frames := 0, cells := 0, slots := 0, locals := 0 })).room s m ([.ref o, .int (J a)]).toArray below meth c s.heap [] 0 0 (MQ below (QcM g base (fun r h' => ∃ I', r = some (.int (J (if 0 < p_mv (I 7) (I 10) (I 11) (A 8) (A 9) a then 1 else 0))) ∧ Fr (FP 28 kd6 o R) h0 h' ∧ OB g 6 28 kd6 h' o R I' mL (va_up A 9 (p_do (A 9) a (p_mv (I 7) (I 10) (I 11) (A 8) (A 9) a))) ∧ (∀ k, k ≠ 12 → k ≠ 13 → I' k = I k) ∧ (0 < p_mv (I 7) (I 10) (I 11) (A 8) (A 9) a → I' 12 = p_mv (I 7) (I 10) (I 11) (A 8) (A 9) a ∧ I' 13 = (if 4 ≤ a ∧ a < 8 then p_mv (I 7) (I 10) (I 11) (A 8) (A 9) a else 0)))) ([.ref o, .int (J a)]).toArray s (0) (0) (Ab base)) (F0 m 32 ls [.int (J j)]) := by
      intro j  ls ej jr hl
      have hi4 : a < 8 → i = a % 4 := fun q => by rw [ei, if_pos q]
      have hi8 : 8 ≤ a → i = (a - 8) / 4 := fun q => by rw [ei, if_neg (by omega)]
      have hjl : a < 8 → j = i := fun q => by rw [ej, if_pos q]
      have hj4 : 8 ≤ a → j = a % 4 := fun q => by rw [ej, if_neg (by omega)]
      refine lv_istore_n (lv' := [(3, .int (J j)), (2, .int (J i)), (0, .ref o), (1, .int (J a))]) hx hb dX6_does_32 rfl hl (by decide) rfl (fun ls hl => ?_)
      have cut_62 : ∀ (ls : Array Slot), (p_act (I 7) a) → (i < I 7 ∧ j < I 7 ∧ (8 ≤ a → i ≠ j)) → (lv_has ls 4 [(3, .int (J j)), (2, .int (J i)), (0, .ref o), (1, .int (J a))]) → W p l e (headSpec wsX6_does ({ frames := 0, cells := 0, slots := 0, locals := 0 })).room s m ([.ref o, .int (J a)]).toArray below meth c s.heap [] 0 0 (MQ below (QcM g base (fun r h' => ∃ I', r = some (.int (J (if 0 < p_mv (I 7) (I 10) (I 11) (A 8) (A 9) a then 1 else 0))) ∧ Fr (FP 28 kd6 o R) h0 h' ∧ OB g 6 28 kd6 h' o R I' mL (va_up A 9 (p_do (A 9) a (p_mv (I 7) (I 10) (I 11) (A 8) (A 9) a))) ∧ (∀ k, k ≠ 12 → k ≠ 13 → I' k = I k) ∧ (0 < p_mv (I 7) (I 10) (I 11) (A 8) (A 9) a → I' 12 = p_mv (I 7) (I 10) (I 11) (A 8) (A 9) a ∧ I' 13 = (if 4 ≤ a ∧ a < 8 then p_mv (I 7) (I 10) (I 11) (A 8) (A 9) a else 0)))) ([.ref o, .int (J a)]).toArray s (0) (0) (Ab base)) (F0 m 62 ls []) := by
        intro   ls hact hij hl
        have hu := p_mv_act (tp := I 10) (dr := I 11) (sz := A 8) (hd := A 9) ha.1 ha.2 hact
        have hri := ht5 i (by omega) (by omega)
        have hhi := ht6 i (by omega) (by omega)
        have hrj := ht5 j (by omega) (by omega)
        have hhj := ht6 j (by omega) (by omega)
        refine lv_aload_n hx hb dX6_does_62 rfl (lv_at hl 2 rfl) ?_
        refine lv_iconst (v := J (0)) hx hb dX6_does_63 rfl ?_
        refine o_put (I' := (va_up I 13 (0))) (ci := 6) (C := RX6) (T := TX6) (N := 28) (ty := .int) hx hb hfX6 (fun _ h9 => h9) tyX6 tyX6_ok nmX6 hown hk hW hS hM hF FP.o rfl 13 (by decide) rfl (hts (.fieldLink RX6 88 "JugsAndGlassesModel" "spilt" "I") (by decide +kernel)) rfl rfl (by decide +kernel) rfl rfl rfl dX6_does_64 (fun h H locs hM hF hst hW hS => ?_)
        refine lv_iload_n hx hb dX6_does_67 rfl (lv_at hl 3 rfl) ?_
        refine lv_iconst (v := J (4)) hx hb dX6_does_68 rfl ?_
        refine j_icmp_ge (x := a) (y := 4) (tgt := 116) hx hb ⟨by omega, by omega⟩ ⟨by decide, by decide⟩ dX6_does_69 (by decide) (fun c_69 => ?_) (fun c_69 => ?_)
        · refine lv_iload_n hx hb dX6_does_116 rfl (lv_at hl 3 rfl) ?_
          refine lv_bipush (v := J (8)) hx hb dX6_does_117 (by decide) ?_
          refine j_icmp_ge (x := a) (y := 8) (tgt := 167) hx hb ⟨by omega, by omega⟩ ⟨by decide, by decide⟩ dX6_does_119 (by decide) (fun c_119 => ?_) (fun c_119 => ?_)
          · have cut_212 : ∀ (t : Int) (ls : Array Slot), (t = p_mv (I 7) (I 10) (I 11) (A 8) (A 9) a) → (0 ≤ t ∧ t ≤ 10) → (lv_has ls 4 [(3, .int (J j)), (2, .int (J i)), (0, .ref o), (1, .int (J a))]) → W p l e (headSpec wsX6_does ({ frames := 0, cells := 0, slots := 0, locals := 0 })).room s m ([.ref o, .int (J a)]).toArray below meth c H locs 0 0 (MQ below (QcM g base (fun r h' => ∃ I', r = some (.int (J (if 0 < p_mv (I 7) (I 10) (I 11) (A 8) (A 9) a then 1 else 0))) ∧ Fr (FP 28 kd6 o R) h0 h' ∧ OB g 6 28 kd6 h' o R I' mL (va_up A 9 (p_do (A 9) a (p_mv (I 7) (I 10) (I 11) (A 8) (A 9) a))) ∧ (∀ k, k ≠ 12 → k ≠ 13 → I' k = I k) ∧ (0 < p_mv (I 7) (I 10) (I 11) (A 8) (A 9) a → I' 12 = p_mv (I 7) (I 10) (I 11) (A 8) (A 9) a ∧ I' 13 = (if 4 ≤ a ∧ a < 8 then p_mv (I 7) (I 10) (I 11) (A 8) (A 9) a else 0)))) ([.ref o, .int (J a)]).toArray s (0) (0) (Ab base)) (F0 m 212 ls [.int (J t), .ref o]) := by
              intro t  ls et tr hl
              replace hi8 := hi8 (by omega)
              replace hj4 := hj4 (by omega)
              refine o_put (I' := (va_up (va_up I 13 (0)) 12 (t))) (ci := 6) (C := RX6) (T := TX6) (N := 28) (ty := .int) hx hb hfX6 (fun _ h9 => h9) tyX6 tyX6_ok nmX6 hown hk hW hS hM hF FP.o rfl 12 (by decide) rfl (hts (.fieldLink RX6 91 "JugsAndGlassesModel" "moved" "I") (by decide +kernel)) rfl rfl (by decide +kernel) rfl rfl rfl dX6_does_212 (fun h H locs hM hF hst hW hS => ?_)
              refine lv_aload_n hx hb dX6_does_215 rfl (lv_at hl 2 rfl) ?_
              refine g_get (ci := 6) (C := RX6) (T := TX6) (N := 28) (v := .ref (R 9)) hx hb hfX6 (fun _ h9 => h9) hown hk hW hM.1 rfl 9 (by decide) (hts (.fieldLink RX6 29 "JugsAndGlassesModel" "has" "[I") (by decide +kernel)) rfl rfl dX6_does_216 ?_
              refine lv_iload_n hx hb dX6_does_219 rfl (lv_at hl 1 rfl) ?_
              refine lv_dup2_11 hx hb dX6_does_220 rfl rfl ?_
              refine g_iald (n := 4) (f := A 9) (i := i) hx hb hk hW (hM.ai 9 (by decide) rfl) (by omega) (by omega) (by omega) dX6_does_221 ?_
              refine lv_aload_n hx hb dX6_does_222 rfl (lv_at hl 2 rfl) ?_
              refine g_get (ci := 6) (C := RX6) (T := TX6) (N := 28) (v := .int (J t)) hx hb hfX6 (fun _ h9 => h9) hown hk hW hM.1 rfl 12 (by decide) (hts (.fieldLink RX6 91 "JugsAndGlassesModel" "moved" "I") (by decide +kernel)) rfl rfl dX6_does_223 ?_
              refine j_isub hx hb dX6_does_226 ?_
              refine o_iast (A' := (va_up A 9 (uf (A 9) i ((A 9 i) - t)))) (i := i) (x := (A 9 i) - t) hx hb hk hW hS hM hF 9 (by decide) rfl (FP.a 9 (by decide) ⟨by decide, by decide⟩) (by omega) (show i < 4 from by omega) (show 4 < 2147483648 from by omega) rfl dX6_does_227 (fun h H locs hM hF hst hW hS => ?_)
              refine lv_aload_n hx hb dX6_does_228 rfl (lv_at hl 2 rfl) ?_
              refine g_get (ci := 6) (C := RX6) (T := TX6) (N := 28) (v := .ref (R 9)) hx hb hfX6 (fun _ h9 => h9) hown hk hW hM.1 rfl 9 (by decide) (hts (.fieldLink RX6 29 "JugsAndGlassesModel" "has" "[I") (by decide +kernel)) rfl rfl dX6_does_229 ?_
              refine lv_iload_n hx hb dX6_does_232 rfl (lv_at hl 0 rfl) ?_
              refine lv_dup2_11 hx hb dX6_does_233 rfl rfl ?_
              refine g_iald (n := 4) (f := uf (A 9) i ((A 9 i) - t)) (i := j) hx hb hk hW (hM.ai 9 (by decide) rfl) (by omega) (by omega) (by omega) dX6_does_234 ?_
              refine lv_aload_n hx hb dX6_does_235 rfl (lv_at hl 2 rfl) ?_
              refine g_get (ci := 6) (C := RX6) (T := TX6) (N := 28) (v := .int (J t)) hx hb hfX6 (fun _ h9 => h9) hown hk hW hM.1 rfl 12 (by decide) (hts (.fieldLink RX6 91 "JugsAndGlassesModel" "moved" "I") (by decide +kernel)) rfl rfl dX6_does_236 ?_
              refine j_iadd hx hb dX6_does_239 ?_
              refine o_iast (A' := (va_up A 9 (uf (uf (A 9) i ((A 9 i) - t)) j (((uf (A 9) i ((A 9 i) - t)) j) + t)))) (i := j) (x := ((uf (A 9) i ((A 9 i) - t)) j) + t) hx hb hk hW hS hM hF 9 (by decide) rfl (FP.a 9 (by decide) ⟨by decide, by decide⟩) (by omega) (show j < 4 from by omega) (show 4 < 2147483648 from by omega) (bx_uu _ _ _ _) dX6_does_240 (fun h H locs hM hF hst hW hS => ?_)
              refine lv_aload_n hx hb dX6_does_241 rfl (lv_at hl 2 rfl) ?_
              refine g_get (ci := 6) (C := RX6) (T := TX6) (N := 28) (v := .int (J t)) hx hb hfX6 (fun _ h9 => h9) hown hk hW hM.1 rfl 12 (by decide) (hts (.fieldLink RX6 91 "JugsAndGlassesModel" "moved" "I") (by decide +kernel)) rfl rfl dX6_does_242 ?_
              refine j_if_le (x := t) (tgt := 252) hx hb ⟨by omega, by omega⟩ dX6_does_245 (by decide) (fun c_245 => ?_) (fun c_245 => ?_)
              · refine lv_iconst (v := J (0)) hx hb dX6_does_252 rfl ?_
                exact g_zret hx hb hr (by omega) hW hS dX6_does_253 hlocks (⟨_, by rw [← et, if_neg (by omega)], hF, by rw [← et, ← do_pour (A 9) (a := a) (by omega) (by omega) (by omega) (show 0 ≤ t by omega), ← hi8, ← hj4]; exact hM, fun k h1 h2 => by simp [va_up, h1, h2], fun h9 => ⟨show t = p_mv (I 7) (I 10) (I 11) (A 8) (A 9) a from et, show 0 = (if 4 ≤ a ∧ a < 8 then p_mv (I 7) (I 10) (I 11) (A 8) (A 9) a else 0) from by rw [if_neg (by omega)]⟩⟩)
              · refine lv_iconst (v := J (1)) hx hb dX6_does_248 rfl ?_
                refine lv_goto (tgt := 253) hx hb dX6_does_249 (by decide) ?_
                exact g_zret hx hb hr (by omega) hW hS dX6_does_253 hlocks (⟨_, by rw [← et, if_pos (by omega)], hF, by rw [← et, ← do_pour (A 9) (a := a) (by omega) (by omega) (by omega) (show 0 ≤ t by omega), ← hi8, ← hj4]; exact hM, fun k h1 h2 => by simp [va_up, h1, h2], fun h9 => ⟨show t = p_mv (I 7) (I 10) (I 11) (A 8) (A 9) a from et, show 0 = (if 4 ≤ a ∧ a < 8 then p_mv (I 7) (I 10) (I 11) (A 8) (A 9) a else 0) from by rw [if_neg (by omega)]⟩⟩)
            refine lv_aload_n hx hb dX6_does_167 rfl (lv_at hl 2 rfl) ?_
            refine lv_aload_n hx hb dX6_does_168 rfl (lv_at hl 2 rfl) ?_
            refine g_get (ci := 6) (C := RX6) (T := TX6) (N := 28) (v := .ref (R 9)) hx hb hfX6 (fun _ h9 => h9) hown hk hW hM.1 rfl 9 (by decide) (hts (.fieldLink RX6 29 "JugsAndGlassesModel" "has" "[I") (by decide +kernel)) rfl rfl dX6_does_169 ?_
            refine lv_iload_n hx hb dX6_does_172 rfl (lv_at hl 1 rfl) ?_
            refine g_iald (n := 4) (f := A 9) (i := i) hx hb hk hW (hM.ai 9 (by decide) rfl) (by omega) (by omega) (by omega) dX6_does_173 ?_
            refine lv_aload_n hx hb dX6_does_174 rfl (lv_at hl 2 rfl) ?_
            refine g_get (ci := 6) (C := RX6) (T := TX6) (N := 28) (v := .ref (R 8)) hx hb hfX6 (fun _ h9 => h9) hown hk hW hM.1 rfl 8 (by decide) (hts (.fieldLink RX6 26 "JugsAndGlassesModel" "room" "[I") (by decide +kernel)) rfl rfl dX6_does_175 ?_
            refine lv_iload_n hx hb dX6_does_178 rfl (lv_at hl 0 rfl) ?_
            refine g_iald (n := 4) (f := A 8) (i := j) hx hb hk hW (hM.ai 8 (by decide) rfl) (by omega) (by omega) (by omega) dX6_does_179 ?_
            refine lv_aload_n hx hb dX6_does_180 rfl (lv_at hl 2 rfl) ?_
            refine g_get (ci := 6) (C := RX6) (T := TX6) (N := 28) (v := .ref (R 9)) hx hb hfX6 (fun _ h9 => h9) hown hk hW hM.1 rfl 9 (by decide) (hts (.fieldLink RX6 29 "JugsAndGlassesModel" "has" "[I") (by decide +kernel)) rfl rfl dX6_does_181 ?_
            refine lv_iload_n hx hb dX6_does_184 rfl (lv_at hl 0 rfl) ?_
            refine g_iald (n := 4) (f := A 9) (i := j) hx hb hk hW (hM.ai 9 (by decide) rfl) (by omega) (by omega) (by omega) dX6_does_185 ?_
            refine j_isub hx hb dX6_does_186 ?_
            refine j_icmp_ge (x := A 9 i) (y := (A 8 j) - (A 9 j)) (tgt := 199) hx hb ⟨by omega, by omega⟩ ⟨by omega, by omega⟩ dX6_does_187 (by decide) (fun c_187 => ?_) (fun c_187 => ?_)
            · refine lv_aload_n hx hb dX6_does_199 rfl (lv_at hl 2 rfl) ?_
              refine g_get (ci := 6) (C := RX6) (T := TX6) (N := 28) (v := .ref (R 8)) hx hb hfX6 (fun _ h9 => h9) hown hk hW hM.1 rfl 8 (by decide) (hts (.fieldLink RX6 26 "JugsAndGlassesModel" "room" "[I") (by decide +kernel)) rfl rfl dX6_does_200 ?_
              refine lv_iload_n hx hb dX6_does_203 rfl (lv_at hl 0 rfl) ?_
              refine g_iald (n := 4) (f := A 8) (i := j) hx hb hk hW (hM.ai 8 (by decide) rfl) (by omega) (by omega) (by omega) dX6_does_204 ?_
              refine lv_aload_n hx hb dX6_does_205 rfl (lv_at hl 2 rfl) ?_
              refine g_get (ci := 6) (C := RX6) (T := TX6) (N := 28) (v := .ref (R 9)) hx hb hfX6 (fun _ h9 => h9) hown hk hW hM.1 rfl 9 (by decide) (hts (.fieldLink RX6 29 "JugsAndGlassesModel" "has" "[I") (by decide +kernel)) rfl rfl dX6_does_206 ?_
              refine lv_iload_n hx hb dX6_does_209 rfl (lv_at hl 0 rfl) ?_
              refine g_iald (n := 4) (f := A 9) (i := j) hx hb hk hW (hM.ai 9 (by decide) rfl) (by omega) (by omega) (by omega) dX6_does_210 ?_
              refine j_isub hx hb dX6_does_211 ?_
              exact cut_212 _  ls (by rw [hu, (ka3 (by omega)).1, (ka3 (by omega)).2, ← hi8 (by omega), ← hj4 (by omega)]; unfold p_there p_room; (repeat' split) <;> omega) (by omega) (lv_sub hl [0, 1, 2, 3] rfl)
            · refine lv_aload_n hx hb dX6_does_190 rfl (lv_at hl 2 rfl) ?_
              refine g_get (ci := 6) (C := RX6) (T := TX6) (N := 28) (v := .ref (R 9)) hx hb hfX6 (fun _ h9 => h9) hown hk hW hM.1 rfl 9 (by decide) (hts (.fieldLink RX6 29 "JugsAndGlassesModel" "has" "[I") (by decide +kernel)) rfl rfl dX6_does_191 ?_
              refine lv_iload_n hx hb dX6_does_194 rfl (lv_at hl 1 rfl) ?_
              refine g_iald (n := 4) (f := A 9) (i := i) hx hb hk hW (hM.ai 9 (by decide) rfl) (by omega) (by omega) (by omega) dX6_does_195 ?_
              refine lv_goto (tgt := 212) hx hb dX6_does_196 (by decide) ?_
              exact cut_212 _  ls (by rw [hu, (ka3 (by omega)).1, (ka3 (by omega)).2, ← hi8 (by omega), ← hj4 (by omega)]; unfold p_there p_room; (repeat' split) <;> omega) (by omega) (lv_sub hl [0, 1, 2, 3] rfl)
          · have cut_140 : ∀ (t : Int) (ls : Array Slot), (t = p_mv (I 7) (I 10) (I 11) (A 8) (A 9) a) → (0 ≤ t ∧ t ≤ 10) → (lv_has ls 4 [(3, .int (J j)), (2, .int (J i)), (0, .ref o), (1, .int (J a))]) → W p l e (headSpec wsX6_does ({ frames := 0, cells := 0, slots := 0, locals := 0 })).room s m ([.ref o, .int (J a)]).toArray below meth c H locs 0 0 (MQ below (QcM g base (fun r h' => ∃ I', r = some (.int (J (if 0 < p_mv (I 7) (I 10) (I 11) (A 8) (A 9) a then 1 else 0))) ∧ Fr (FP 28 kd6 o R) h0 h' ∧ OB g 6 28 kd6 h' o R I' mL (va_up A 9 (p_do (A 9) a (p_mv (I 7) (I 10) (I 11) (A 8) (A 9) a))) ∧ (∀ k, k ≠ 12 → k ≠ 13 → I' k = I k) ∧ (0 < p_mv (I 7) (I 10) (I 11) (A 8) (A 9) a → I' 12 = p_mv (I 7) (I 10) (I 11) (A 8) (A 9) a ∧ I' 13 = (if 4 ≤ a ∧ a < 8 then p_mv (I 7) (I 10) (I 11) (A 8) (A 9) a else 0)))) ([.ref o, .int (J a)]).toArray s (0) (0) (Ab base)) (F0 m 140 ls [.int (J t), .ref o]) := by
              intro t  ls et tr hl
              replace hi4 := hi4 (by omega)
              refine o_put (I' := (va_up (va_up I 13 (0)) 12 (t))) (ci := 6) (C := RX6) (T := TX6) (N := 28) (ty := .int) hx hb hfX6 (fun _ h9 => h9) tyX6 tyX6_ok nmX6 hown hk hW hS hM hF FP.o rfl 12 (by decide) rfl (hts (.fieldLink RX6 91 "JugsAndGlassesModel" "moved" "I") (by decide +kernel)) rfl rfl (by decide +kernel) rfl rfl rfl dX6_does_140 (fun h H locs hM hF hst hW hS => ?_)
              refine lv_aload_n hx hb dX6_does_143 rfl (lv_at hl 2 rfl) ?_
              refine lv_aload_n hx hb dX6_does_144 rfl (lv_at hl 2 rfl) ?_
              refine g_get (ci := 6) (C := RX6) (T := TX6) (N := 28) (v := .int (J t)) hx hb hfX6 (fun _ h9 => h9) hown hk hW hM.1 rfl 12 (by decide) (hts (.fieldLink RX6 91 "JugsAndGlassesModel" "moved" "I") (by decide +kernel)) rfl rfl dX6_does_145 ?_
              refine o_put (I' := (va_up (va_up I 12 (t)) 13 (t))) (ci := 6) (C := RX6) (T := TX6) (N := 28) (ty := .int) hx hb hfX6 (fun _ h9 => h9) tyX6 tyX6_ok nmX6 hown hk hW hS hM hF FP.o rfl 13 (by decide) rfl (hts (.fieldLink RX6 88 "JugsAndGlassesModel" "spilt" "I") (by decide +kernel)) rfl rfl (by decide +kernel) rfl rfl (by funext j9; by_cases q9 : j9 = 13 <;> simp [q9, va_up]) dX6_does_148 (fun h H locs hM hF hst hW hS => ?_)
              refine lv_aload_n hx hb dX6_does_151 rfl (lv_at hl 2 rfl) ?_
              refine g_get (ci := 6) (C := RX6) (T := TX6) (N := 28) (v := .ref (R 9)) hx hb hfX6 (fun _ h9 => h9) hown hk hW hM.1 rfl 9 (by decide) (hts (.fieldLink RX6 29 "JugsAndGlassesModel" "has" "[I") (by decide +kernel)) rfl rfl dX6_does_152 ?_
              refine lv_iload_n hx hb dX6_does_155 rfl (lv_at hl 1 rfl) ?_
              refine lv_dup2_11 hx hb dX6_does_156 rfl rfl ?_
              refine g_iald (n := 4) (f := A 9) (i := i) hx hb hk hW (hM.ai 9 (by decide) rfl) (by omega) (by omega) (by omega) dX6_does_157 ?_
              refine lv_aload_n hx hb dX6_does_158 rfl (lv_at hl 2 rfl) ?_
              refine g_get (ci := 6) (C := RX6) (T := TX6) (N := 28) (v := .int (J t)) hx hb hfX6 (fun _ h9 => h9) hown hk hW hM.1 rfl 12 (by decide) (hts (.fieldLink RX6 91 "JugsAndGlassesModel" "moved" "I") (by decide +kernel)) rfl rfl dX6_does_159 ?_
              refine j_isub hx hb dX6_does_162 ?_
              refine o_iast (A' := (va_up A 9 (uf (A 9) i ((A 9 i) - t)))) (i := i) (x := (A 9 i) - t) hx hb hk hW hS hM hF 9 (by decide) rfl (FP.a 9 (by decide) ⟨by decide, by decide⟩) (by omega) (show i < 4 from by omega) (show 4 < 2147483648 from by omega) rfl dX6_does_163 (fun h H locs hM hF hst hW hS => ?_)
              refine lv_goto (tgt := 241) hx hb dX6_does_164 (by decide) ?_
              refine lv_aload_n hx hb dX6_does_241 rfl (lv_at hl 2 rfl) ?_
              refine g_get (ci := 6) (C := RX6) (T := TX6) (N := 28) (v := .int (J t)) hx hb hfX6 (fun _ h9 => h9) hown hk hW hM.1 rfl 12 (by decide) (hts (.fieldLink RX6 91 "JugsAndGlassesModel" "moved" "I") (by decide +kernel)) rfl rfl dX6_does_242 ?_
              refine j_if_le (x := t) (tgt := 252) hx hb ⟨by omega, by omega⟩ dX6_does_245 (by decide) (fun c_245 => ?_) (fun c_245 => ?_)
              · refine lv_iconst (v := J (0)) hx hb dX6_does_252 rfl ?_
                exact g_zret hx hb hr (by omega) hW hS dX6_does_253 hlocks (⟨_, by rw [← et, if_neg (by omega)], hF, by rw [← et, ← do_empty (A 9) (a := a) (by omega) (by omega) (show 0 ≤ t by omega), ← hi4]; exact hM, fun k h1 h2 => by simp [va_up, h1, h2], fun h9 => ⟨show t = p_mv (I 7) (I 10) (I 11) (A 8) (A 9) a from et, show t = (if 4 ≤ a ∧ a < 8 then p_mv (I 7) (I 10) (I 11) (A 8) (A 9) a else 0) from by rw [if_pos (by omega)]; exact et⟩⟩)
              · refine lv_iconst (v := J (1)) hx hb dX6_does_248 rfl ?_
                refine lv_goto (tgt := 253) hx hb dX6_does_249 (by decide) ?_
                exact g_zret hx hb hr (by omega) hW hS dX6_does_253 hlocks (⟨_, by rw [← et, if_pos (by omega)], hF, by rw [← et, ← do_empty (A 9) (a := a) (by omega) (by omega) (show 0 ≤ t by omega), ← hi4]; exact hM, fun k h1 h2 => by simp [va_up, h1, h2], fun h9 => ⟨show t = p_mv (I 7) (I 10) (I 11) (A 8) (A 9) a from et, show t = (if 4 ≤ a ∧ a < 8 then p_mv (I 7) (I 10) (I 11) (A 8) (A 9) a else 0) from by rw [if_pos (by omega)]; exact et⟩⟩)
            refine lv_aload_n hx hb dX6_does_122 rfl (lv_at hl 2 rfl) ?_
            refine lv_aload_n hx hb dX6_does_123 rfl (lv_at hl 2 rfl) ?_
            refine g_get (ci := 6) (C := RX6) (T := TX6) (N := 28) (v := .int (J (I 11))) hx hb hfX6 (fun _ h9 => h9) hown hk hW hM.1 rfl 11 (by decide) (hts (.fieldLink RX6 85 "JugsAndGlassesModel" "drain" "Z") (by decide +kernel)) rfl rfl dX6_does_124 ?_
            refine j_if_eq (x := I 11) (tgt := 139) hx hb ⟨by omega, by omega⟩ dX6_does_127 (by decide) (fun c_127 => ?_) (fun c_127 => ?_)
            · refine lv_iconst (v := J (0)) hx hb dX6_does_139 rfl ?_
              exact cut_140 _  ls (by rw [hu, (ka2 (by omega) (by omega)).1, (ka2 (by omega) (by omega)).2, ← hi4 (by omega)]; unfold p_there p_room; (repeat' split) <;> omega) (by omega) (lv_sub hl [0, 1, 2, 3] rfl)
            · refine lv_aload_n hx hb dX6_does_130 rfl (lv_at hl 2 rfl) ?_
              refine g_get (ci := 6) (C := RX6) (T := TX6) (N := 28) (v := .ref (R 9)) hx hb hfX6 (fun _ h9 => h9) hown hk hW hM.1 rfl 9 (by decide) (hts (.fieldLink RX6 29 "JugsAndGlassesModel" "has" "[I") (by decide +kernel)) rfl rfl dX6_does_131 ?_
              refine lv_iload_n hx hb dX6_does_134 rfl (lv_at hl 1 rfl) ?_
              refine g_iald (n := 4) (f := A 9) (i := i) hx hb hk hW (hM.ai 9 (by decide) rfl) (by omega) (by omega) (by omega) dX6_does_135 ?_
              refine lv_goto (tgt := 140) hx hb dX6_does_136 (by decide) ?_
              exact cut_140 _  ls (by rw [hu, (ka2 (by omega) (by omega)).1, (ka2 (by omega) (by omega)).2, ← hi4 (by omega)]; unfold p_there p_room; (repeat' split) <;> omega) (by omega) (lv_sub hl [0, 1, 2, 3] rfl)
        · have cut_97 : ∀ (t : Int) (ls : Array Slot), (t = p_mv (I 7) (I 10) (I 11) (A 8) (A 9) a) → (0 ≤ t ∧ t ≤ 10) → (lv_has ls 4 [(3, .int (J j)), (2, .int (J i)), (0, .ref o), (1, .int (J a))]) → W p l e (headSpec wsX6_does ({ frames := 0, cells := 0, slots := 0, locals := 0 })).room s m ([.ref o, .int (J a)]).toArray below meth c H locs 0 0 (MQ below (QcM g base (fun r h' => ∃ I', r = some (.int (J (if 0 < p_mv (I 7) (I 10) (I 11) (A 8) (A 9) a then 1 else 0))) ∧ Fr (FP 28 kd6 o R) h0 h' ∧ OB g 6 28 kd6 h' o R I' mL (va_up A 9 (p_do (A 9) a (p_mv (I 7) (I 10) (I 11) (A 8) (A 9) a))) ∧ (∀ k, k ≠ 12 → k ≠ 13 → I' k = I k) ∧ (0 < p_mv (I 7) (I 10) (I 11) (A 8) (A 9) a → I' 12 = p_mv (I 7) (I 10) (I 11) (A 8) (A 9) a ∧ I' 13 = (if 4 ≤ a ∧ a < 8 then p_mv (I 7) (I 10) (I 11) (A 8) (A 9) a else 0)))) ([.ref o, .int (J a)]).toArray s (0) (0) (Ab base)) (F0 m 97 ls [.int (J t), .ref o]) := by
            intro t  ls et tr hl
            replace hi4 := hi4 (by omega)
            refine o_put (I' := (va_up (va_up I 13 (0)) 12 (t))) (ci := 6) (C := RX6) (T := TX6) (N := 28) (ty := .int) hx hb hfX6 (fun _ h9 => h9) tyX6 tyX6_ok nmX6 hown hk hW hS hM hF FP.o rfl 12 (by decide) rfl (hts (.fieldLink RX6 91 "JugsAndGlassesModel" "moved" "I") (by decide +kernel)) rfl rfl (by decide +kernel) rfl rfl rfl dX6_does_97 (fun h H locs hM hF hst hW hS => ?_)
            refine lv_aload_n hx hb dX6_does_100 rfl (lv_at hl 2 rfl) ?_
            refine g_get (ci := 6) (C := RX6) (T := TX6) (N := 28) (v := .ref (R 9)) hx hb hfX6 (fun _ h9 => h9) hown hk hW hM.1 rfl 9 (by decide) (hts (.fieldLink RX6 29 "JugsAndGlassesModel" "has" "[I") (by decide +kernel)) rfl rfl dX6_does_101 ?_
            refine lv_iload_n hx hb dX6_does_104 rfl (lv_at hl 1 rfl) ?_
            refine lv_dup2_11 hx hb dX6_does_105 rfl rfl ?_
            refine g_iald (n := 4) (f := A 9) (i := i) hx hb hk hW (hM.ai 9 (by decide) rfl) (by omega) (by omega) (by omega) dX6_does_106 ?_
            refine lv_aload_n hx hb dX6_does_107 rfl (lv_at hl 2 rfl) ?_
            refine g_get (ci := 6) (C := RX6) (T := TX6) (N := 28) (v := .int (J t)) hx hb hfX6 (fun _ h9 => h9) hown hk hW hM.1 rfl 12 (by decide) (hts (.fieldLink RX6 91 "JugsAndGlassesModel" "moved" "I") (by decide +kernel)) rfl rfl dX6_does_108 ?_
            refine j_iadd hx hb dX6_does_111 ?_
            refine o_iast (A' := (va_up A 9 (uf (A 9) i ((A 9 i) + t)))) (i := i) (x := (A 9 i) + t) hx hb hk hW hS hM hF 9 (by decide) rfl (FP.a 9 (by decide) ⟨by decide, by decide⟩) (by omega) (show i < 4 from by omega) (show 4 < 2147483648 from by omega) rfl dX6_does_112 (fun h H locs hM hF hst hW hS => ?_)
            refine lv_goto (tgt := 241) hx hb dX6_does_113 (by decide) ?_
            refine lv_aload_n hx hb dX6_does_241 rfl (lv_at hl 2 rfl) ?_
            refine g_get (ci := 6) (C := RX6) (T := TX6) (N := 28) (v := .int (J t)) hx hb hfX6 (fun _ h9 => h9) hown hk hW hM.1 rfl 12 (by decide) (hts (.fieldLink RX6 91 "JugsAndGlassesModel" "moved" "I") (by decide +kernel)) rfl rfl dX6_does_242 ?_
            refine j_if_le (x := t) (tgt := 252) hx hb ⟨by omega, by omega⟩ dX6_does_245 (by decide) (fun c_245 => ?_) (fun c_245 => ?_)
            · refine lv_iconst (v := J (0)) hx hb dX6_does_252 rfl ?_
              exact g_zret hx hb hr (by omega) hW hS dX6_does_253 hlocks (⟨_, by rw [← et, if_neg (by omega)], hF, by rw [← et, ← do_fill (A 9) (a := a) (by omega) (by omega) (show 0 ≤ t by omega), ← hi4]; exact hM, fun k h1 h2 => by simp [va_up, h1, h2], fun h9 => ⟨show t = p_mv (I 7) (I 10) (I 11) (A 8) (A 9) a from et, show 0 = (if 4 ≤ a ∧ a < 8 then p_mv (I 7) (I 10) (I 11) (A 8) (A 9) a else 0) from by rw [if_neg (by omega)]⟩⟩)
            · refine lv_iconst (v := J (1)) hx hb dX6_does_248 rfl ?_
              refine lv_goto (tgt := 253) hx hb dX6_does_249 (by decide) ?_
              exact g_zret hx hb hr (by omega) hW hS dX6_does_253 hlocks (⟨_, by rw [← et, if_pos (by omega)], hF, by rw [← et, ← do_fill (A 9) (a := a) (by omega) (by omega) (show 0 ≤ t by omega), ← hi4]; exact hM, fun k h1 h2 => by simp [va_up, h1, h2], fun h9 => ⟨show t = p_mv (I 7) (I 10) (I 11) (A 8) (A 9) a from et, show 0 = (if 4 ≤ a ∧ a < 8 then p_mv (I 7) (I 10) (I 11) (A 8) (A 9) a else 0) from by rw [if_neg (by omega)]⟩⟩)
          refine lv_aload_n hx hb dX6_does_72 rfl (lv_at hl 2 rfl) ?_
          refine lv_aload_n hx hb dX6_does_73 rfl (lv_at hl 2 rfl) ?_
          refine g_get (ci := 6) (C := RX6) (T := TX6) (N := 28) (v := .int (J (I 10))) hx hb hfX6 (fun _ h9 => h9) hown hk hW hM.1 rfl 10 (by decide) (hts (.fieldLink RX6 82 "JugsAndGlassesModel" "tap" "Z") (by decide +kernel)) rfl rfl dX6_does_74 ?_
          refine j_if_eq (x := I 10) (tgt := 96) hx hb ⟨by omega, by omega⟩ dX6_does_77 (by decide) (fun c_77 => ?_) (fun c_77 => ?_)
          · refine lv_iconst (v := J (0)) hx hb dX6_does_96 rfl ?_
            exact cut_97 _  ls (by rw [hu, (ka1 (by omega)).1, (ka1 (by omega)).2, ← hi4 (by omega)]; unfold p_there p_room; (repeat' split) <;> omega) (by omega) (lv_sub hl [0, 1, 2, 3] rfl)
          · refine lv_aload_n hx hb dX6_does_80 rfl (lv_at hl 2 rfl) ?_
            refine g_get (ci := 6) (C := RX6) (T := TX6) (N := 28) (v := .ref (R 8)) hx hb hfX6 (fun _ h9 => h9) hown hk hW hM.1 rfl 8 (by decide) (hts (.fieldLink RX6 26 "JugsAndGlassesModel" "room" "[I") (by decide +kernel)) rfl rfl dX6_does_81 ?_
            refine lv_iload_n hx hb dX6_does_84 rfl (lv_at hl 1 rfl) ?_
            refine g_iald (n := 4) (f := A 8) (i := i) hx hb hk hW (hM.ai 8 (by decide) rfl) (by omega) (by omega) (by omega) dX6_does_85 ?_
            refine lv_aload_n hx hb dX6_does_86 rfl (lv_at hl 2 rfl) ?_
            refine g_get (ci := 6) (C := RX6) (T := TX6) (N := 28) (v := .ref (R 9)) hx hb hfX6 (fun _ h9 => h9) hown hk hW hM.1 rfl 9 (by decide) (hts (.fieldLink RX6 29 "JugsAndGlassesModel" "has" "[I") (by decide +kernel)) rfl rfl dX6_does_87 ?_
            refine lv_iload_n hx hb dX6_does_90 rfl (lv_at hl 1 rfl) ?_
            refine g_iald (n := 4) (f := A 9) (i := i) hx hb hk hW (hM.ai 9 (by decide) rfl) (by omega) (by omega) (by omega) dX6_does_91 ?_
            refine j_isub hx hb dX6_does_92 ?_
            refine lv_goto (tgt := 97) hx hb dX6_does_93 (by decide) ?_
            exact cut_97 _  ls (by rw [hu, (ka1 (by omega)).1, (ka1 (by omega)).2, ← hi4 (by omega)]; unfold p_there p_room; (repeat' split) <;> omega) (by omega) (lv_sub hl [0, 1, 2, 3] rfl)
      refine lv_iload_n hx hb dX6_does_33 rfl (lv_at hl 1 rfl) ?_
      refine lv_aload_n hx hb dX6_does_34 rfl (lv_at hl 2 rfl) ?_
      refine g_get (ci := 6) (C := RX6) (T := TX6) (N := 28) (v := .int (J (I 7))) hx hb hfX6 (fun _ h9 => h9) hown hk hW hM.1 rfl 7 (by decide) (hts (.fieldLink RX6 79 "JugsAndGlassesModel" "tried" "I") (by decide +kernel)) rfl rfl dX6_does_35 ?_
      refine j_icmp_ge (x := i) (y := I 7) (tgt := 60) hx hb ⟨by omega, by omega⟩ ⟨by omega, by omega⟩ dX6_does_38 (by decide) (fun c_38 => ?_) (fun c_38 => ?_)
      · refine lv_iconst (v := J (0)) hx hb dX6_does_60 rfl ?_
        exact g_zret hx hb hr (by omega) hW hS dX6_does_61 hlocks (⟨I, by rw [p_mv_no (by unfold p_act; omega)]; rfl, hF, by rw [p_mv_no (by unfold p_act; omega)]; unfold p_do; rw [if_neg (by omega), va_up_id]; exact hM, fun _ _ _ => rfl, fun h9 => absurd h9 (by rw [p_mv_no (by unfold p_act; omega)]; omega)⟩)
      · refine lv_iload_n hx hb dX6_does_41 rfl (lv_at hl 0 rfl) ?_
        refine lv_aload_n hx hb dX6_does_42 rfl (lv_at hl 2 rfl) ?_
        refine g_get (ci := 6) (C := RX6) (T := TX6) (N := 28) (v := .int (J (I 7))) hx hb hfX6 (fun _ h9 => h9) hown hk hW hM.1 rfl 7 (by decide) (hts (.fieldLink RX6 79 "JugsAndGlassesModel" "tried" "I") (by decide +kernel)) rfl rfl dX6_does_43 ?_
        refine j_icmp_ge (x := j) (y := I 7) (tgt := 60) hx hb ⟨by omega, by omega⟩ ⟨by omega, by omega⟩ dX6_does_46 (by decide) (fun c_46 => ?_) (fun c_46 => ?_)
        · refine lv_iconst (v := J (0)) hx hb dX6_does_60 rfl ?_
          exact g_zret hx hb hr (by omega) hW hS dX6_does_61 hlocks (⟨I, by rw [p_mv_no (by unfold p_act; omega)]; rfl, hF, by rw [p_mv_no (by unfold p_act; omega)]; unfold p_do; rw [if_neg (by omega), va_up_id]; exact hM, fun _ _ _ => rfl, fun h9 => absurd h9 (by rw [p_mv_no (by unfold p_act; omega)]; omega)⟩)
        · refine lv_iload_n hx hb dX6_does_49 rfl (lv_at hl 3 rfl) ?_
          refine lv_bipush (v := J (8)) hx hb dX6_does_50 (by decide) ?_
          refine j_icmp_lt (x := a) (y := 8) (tgt := 62) hx hb ⟨by omega, by omega⟩ ⟨by decide, by decide⟩ dX6_does_52 (by decide) (fun c_52 => ?_) (fun c_52 => ?_)
          · exact cut_62   ls (by unfold p_act; omega) (by omega) (lv_sub hl [0, 1, 2, 3] rfl)
          · refine lv_iload_n hx hb dX6_does_55 rfl (lv_at hl 1 rfl) ?_
            refine lv_iload_n hx hb dX6_does_56 rfl (lv_at hl 0 rfl) ?_
            refine j_icmp_ne (x := i) (y := j) (tgt := 62) hx hb ⟨by omega, by omega⟩ ⟨by omega, by omega⟩ dX6_does_57 (by decide) (fun c_57 => ?_) (fun c_57 => ?_)
            · exact cut_62   ls (by unfold p_act; omega) (by omega) (lv_sub hl [0, 1, 2, 3] rfl)
            · refine lv_iconst (v := J (0)) hx hb dX6_does_60 rfl ?_
              exact g_zret hx hb hr (by omega) hW hS dX6_does_61 hlocks (⟨I, by rw [p_mv_no (by unfold p_act; omega)]; rfl, hF, by rw [p_mv_no (by unfold p_act; omega)]; unfold p_do; rw [if_neg (by omega), va_up_id]; exact hM, fun _ _ _ => rfl, fun h9 => absurd h9 (by rw [p_mv_no (by unfold p_act; omega)]; omega)⟩)
    refine lv_iload_n hx hb dX6_does_19 rfl (lv_at hl 2 rfl) ?_
    refine lv_bipush (v := J (8)) hx hb dX6_does_20 (by decide) ?_
    refine j_icmp_ge (x := a) (y := 8) (tgt := 29) hx hb ⟨by omega, by omega⟩ ⟨by decide, by decide⟩ dX6_does_22 (by decide) (fun c_22 => ?_) (fun c_22 => ?_)
    · refine lv_iload_n hx hb dX6_does_29 rfl (lv_at hl 2 rfl) ?_
      refine lv_iconst (v := J (4)) hx hb dX6_does_30 rfl ?_
      refine j_irem hx hb (by omega) (by omega) (by omega) (by omega) dX6_does_31 ?_
      exact cut_32 _  ls (by split <;> omega) (by omega) (lv_sub hl [0, 1, 2] rfl)
    · refine lv_iload_n hx hb dX6_does_25 rfl (lv_at hl 0 rfl) ?_
      refine lv_goto (tgt := 32) hx hb dX6_does_26 (by decide) ?_
      exact cut_32 _  ls (by split <;> omega) (by omega) (lv_sub hl [0, 1, 2] rfl)
  refine lv_iload_n hx hb dX6_does_0 rfl (lv_at hl 1 rfl) ?_
  refine lv_bipush (v := J (8)) hx hb dX6_does_1 (by decide) ?_
  refine j_icmp_ge (x := a) (y := 8) (tgt := 12) hx hb ⟨by omega, by omega⟩ ⟨by decide, by decide⟩ dX6_does_3 (by decide) (fun c_3 => ?_) (fun c_3 => ?_)
  · refine lv_iload_n hx hb dX6_does_12 rfl (lv_at hl 1 rfl) ?_
    refine lv_bipush (v := J (8)) hx hb dX6_does_13 (by decide) ?_
    refine j_isub hx hb dX6_does_15 ?_
    refine lv_iconst (v := J (4)) hx hb dX6_does_16 rfl ?_
    refine j_idiv hx hb (by omega) (by omega) (by omega) (by omega) dX6_does_17 ?_
    exact cut_18 _  ls (by split <;> omega) (by omega) (lv_sub hl [0, 1] rfl)
  · refine lv_iload_n hx hb dX6_does_6 rfl (lv_at hl 1 rfl) ?_
    refine lv_iconst (v := J (4)) hx hb dX6_does_7 rfl ?_
    refine j_irem hx hb (by omega) (by omega) (by omega) (by omega) dX6_does_8 ?_
    refine lv_goto (tgt := 18) hx hb dX6_does_9 (by decide) ?_
    exact cut_18 _  ls (by split <;> omega) (by omega) (lv_sub hl [0, 1] rfl)

set_option maxHeartbeats 4000000 in
set_option maxRecDepth 100000 in
theorem m_isAim (l : Launch) (g : GX) (base : Nat) (sa : Nat → Nat) (h0 : Hp) (o : Nat) (R : Nat → Nat) (I : Nat → Int) (A : Nat → Int → Int) (a b : Int) (hM : OB g 6 28 kd6 h0 o R I mL A) (ha : i32 a) (hb9 : i32 b) (hn : 0 ≤ I 0 ∧ I 0 ≤ 4) : MC l g base sa yX6_isAim wsX6_isAim ({ frames := 2, cells := 0, slots := 0, locals := 43 }) ([.ref o, .int (J a), .int (J b)]) h0 (fun r h' => r = some (.int (J (if (a = -1 ∨ (0 ≤ a ∧ a < I 0)) ∧ 0 ≤ b ∧ b ≤ 10 then 1 else 0))) ∧ h' = h0) := by
  refine Met.ofW (cc := cX6_isAim) (maxL := 3) (ret := (some .boolean)) (by decide) rfl ?_
  intro p e s m args below meth c s₁ B hml hv
  obtain ⟨rfl, hk, hW⟩ := hv
  have hx := B.exec
  have hb := B.bytes
  have hr := B.returns
  have hts := atoms_spec (ws := wsX6_isAim) B.pre
  have hown : s.vm.findClass RX6 = some m.cls := findClass_of_methodNamed B.named
  have hlocks := B.notSynchronized
  have hfX6 : ∀ w ∈ wsX60, w.before ([.ref o, .int (J a), .int (J b)]).toArray s = true := fun w h => hts w (List.mem_cons_of_mem _ (List.mem_append_right _ h))
  have hS : va_S (Ab base) s.heap s.heap [] := va_S.rf
  have hl := lv_entry ([.ref o, .int (J a), .int (J b)]) (n := 3) (Nat.le_of_ble_eq_true rfl)
  rw [lg_entry_eq]
  generalize (lg_sl ([.ref o, .int (J a), .int (J b)]) ++ List.replicate (3 - (lg_sl ([.ref o, .int (J a), .int (J b)])).length) Slot.unset).toArray = ls at hl ⊢
  have hl : lv_has ls 3 [(0, .ref o), (1, .int (J a)), (2, .int (J b))] := hl
  obtain ⟨ha1, ha2⟩ := id ha
  refine lv_iload_n hx hb dX6_isAim_0 rfl (lv_at hl 1 rfl) ?_
  refine lv_iconst (v := J (-1)) hx hb dX6_isAim_1 rfl ?_
  refine j_icmp_eq (x := a) (y := (-1)) (tgt := 13) hx hb ⟨by omega, by omega⟩ ⟨by omega, by omega⟩ dX6_isAim_2 (by decide) (fun c_2 => ?_) (fun c_2 => ?_)
  · refine lv_iload_n hx hb dX6_isAim_13 rfl (lv_at hl 2 rfl) ?_
    refine lv_iconst (v := J (0)) hx hb dX6_isAim_14 rfl ?_
    refine lv_bipush (v := J (10)) hx hb dX6_isAim_15 (by decide) ?_
    refine g_callS (As := [.int (J b), .int (J 0), .int (J 10)]) (rest := []) ⟨hx, hb, hml, hown, hts⟩ (m_in l g base sa h0 b 0 10 hb9 ⟨by decide, by decide⟩ ⟨by decide, by decide⟩) (va_cwS 3 hts gX6_isAim_X6_in rfl rfl rfl (by decide +kernel) ⟨Nat.le_of_ble_eq_true rfl, Nat.le_of_ble_eq_true rfl⟩) hk hW hS rfl hl.1 (Nat.le_of_ble_eq_true rfl) dX6_isAim_17 ⟨Nat.le_of_ble_eq_true rfl, Nat.le_of_ble_eq_true rfl⟩ (fun r9 h9 H locs hp hW hS => ?_)
    obtain ⟨rfl, e9⟩ := hp
    rw [e9] at hW
    refine W.eq (g2 := F0 m 20 ls [.int (J (p_in b 0 10))]) rfl ?_
    have hpr_20 := p_in_r b 0 10
    refine j_if_eq (x := p_in b 0 10) (tgt := 27) hx hb ⟨by omega, by omega⟩ dX6_isAim_20 (by decide) (fun c_20 => ?_) (fun c_20 => ?_)
    · refine lv_iconst (v := J (0)) hx hb dX6_isAim_27 rfl ?_
      exact g_zret hx hb hr (by omega) hW hS dX6_isAim_28 hlocks (⟨congrArg (fun z : Int => some (Value.int (J z))) (show 0 = (if (a = -1 ∨ (0 ≤ a ∧ a < I 0)) ∧ 0 ≤ b ∧ b ≤ 10 then 1 else 0) from by first | (have q1 := p_in_1 c_20; rw [if_pos ⟨by omega, by omega, by omega⟩]) | (have q1 := p_in_1 c_20; have q2 := p_in_1 c_10; rw [if_pos ⟨by omega, by omega, by omega⟩]) | (have q1 := p_in_0 c_20; rw [if_neg (by omega)]) | (have q1 := p_in_0 c_10; rw [if_neg (by omega)])), rfl⟩)
    · refine lv_iconst (v := J (1)) hx hb dX6_isAim_23 rfl ?_
      refine lv_goto (tgt := 28) hx hb dX6_isAim_24 (by decide) ?_
      exact g_zret hx hb hr (by omega) hW hS dX6_isAim_28 hlocks (⟨congrArg (fun z : Int => some (Value.int (J z))) (show 1 = (if (a = -1 ∨ (0 ≤ a ∧ a < I 0)) ∧ 0 ≤ b ∧ b ≤ 10 then 1 else 0) from by first | (have q1 := p_in_1 c_20; rw [if_pos ⟨by omega, by omega, by omega⟩]) | (have q1 := p_in_1 c_20; have q2 := p_in_1 c_10; rw [if_pos ⟨by omega, by omega, by omega⟩]) | (have q1 := p_in_0 c_20; rw [if_neg (by omega)]) | (have q1 := p_in_0 c_10; rw [if_neg (by omega)])), rfl⟩)
  · refine lv_aload_n hx hb dX6_isAim_5 rfl (lv_at hl 0 rfl) ?_
    refine lv_iload_n hx hb dX6_isAim_6 rfl (lv_at hl 1 rfl) ?_
    refine g_callV (As := [.int (J a)]) (rest := []) (b := o) (ci := 6) (C := RX6) (T := TX6) (N := 28) ⟨hx, hb, hml, hown, hts⟩ (m_isJug l g base sa h0 o R I A a hM ha hn) (cwV 1 hts gX6_isAim_X6_isJug rfl rfl rfl (by decide +kernel) ⟨Nat.le_of_ble_eq_true rfl, Nat.le_of_ble_eq_true rfl⟩) hk hW hS hM.1 rfl rfl hl.1 (Nat.le_of_ble_eq_true rfl) dX6_isAim_7 ⟨Nat.le_of_ble_eq_true rfl, Nat.le_of_ble_eq_true rfl⟩ (fun r9 h9 H locs hp hW hS => ?_)
    obtain ⟨rfl, e9⟩ := hp
    rw [e9] at hW
    refine W.eq (g2 := F0 m 10 ls [.int (J (p_in a 0 (I 0 - 1)))]) rfl ?_
    have hpr_10 := p_in_r a 0 (I 0 - 1)
    refine j_if_eq (x := p_in a 0 (I 0 - 1)) (tgt := 27) hx hb ⟨by omega, by omega⟩ dX6_isAim_10 (by decide) (fun c_10 => ?_) (fun c_10 => ?_)
    · refine lv_iconst (v := J (0)) hx hb dX6_isAim_27 rfl ?_
      exact g_zret hx hb hr (by omega) hW hS dX6_isAim_28 hlocks (⟨congrArg (fun z : Int => some (Value.int (J z))) (show 0 = (if (a = -1 ∨ (0 ≤ a ∧ a < I 0)) ∧ 0 ≤ b ∧ b ≤ 10 then 1 else 0) from by first | (have q1 := p_in_1 c_20; rw [if_pos ⟨by omega, by omega, by omega⟩]) | (have q1 := p_in_1 c_20; have q2 := p_in_1 c_10; rw [if_pos ⟨by omega, by omega, by omega⟩]) | (have q1 := p_in_0 c_20; rw [if_neg (by omega)]) | (have q1 := p_in_0 c_10; rw [if_neg (by omega)])), rfl⟩)
    · refine lv_iload_n hx hb dX6_isAim_13 rfl (lv_at hl 2 rfl) ?_
      refine lv_iconst (v := J (0)) hx hb dX6_isAim_14 rfl ?_
      refine lv_bipush (v := J (10)) hx hb dX6_isAim_15 (by decide) ?_
      refine g_callS (As := [.int (J b), .int (J 0), .int (J 10)]) (rest := []) ⟨hx, hb, hml, hown, hts⟩ (m_in l g base sa h0 b 0 10 hb9 ⟨by decide, by decide⟩ ⟨by decide, by decide⟩) (va_cwS 3 hts gX6_isAim_X6_in rfl rfl rfl (by decide +kernel) ⟨Nat.le_of_ble_eq_true rfl, Nat.le_of_ble_eq_true rfl⟩) hk hW hS rfl hl.1 (Nat.le_of_ble_eq_true rfl) dX6_isAim_17 ⟨Nat.le_of_ble_eq_true rfl, Nat.le_of_ble_eq_true rfl⟩ (fun r9 h9 H locs hp hW hS => ?_)
      obtain ⟨rfl, e9⟩ := hp
      rw [e9] at hW
      refine W.eq (g2 := F0 m 20 ls [.int (J (p_in b 0 10))]) rfl ?_
      have hpr_20 := p_in_r b 0 10
      refine j_if_eq (x := p_in b 0 10) (tgt := 27) hx hb ⟨by omega, by omega⟩ dX6_isAim_20 (by decide) (fun c_20 => ?_) (fun c_20 => ?_)
      · refine lv_iconst (v := J (0)) hx hb dX6_isAim_27 rfl ?_
        exact g_zret hx hb hr (by omega) hW hS dX6_isAim_28 hlocks (⟨congrArg (fun z : Int => some (Value.int (J z))) (show 0 = (if (a = -1 ∨ (0 ≤ a ∧ a < I 0)) ∧ 0 ≤ b ∧ b ≤ 10 then 1 else 0) from by first | (have q1 := p_in_1 c_20; rw [if_pos ⟨by omega, by omega, by omega⟩]) | (have q1 := p_in_1 c_20; have q2 := p_in_1 c_10; rw [if_pos ⟨by omega, by omega, by omega⟩]) | (have q1 := p_in_0 c_20; rw [if_neg (by omega)]) | (have q1 := p_in_0 c_10; rw [if_neg (by omega)])), rfl⟩)
      · refine lv_iconst (v := J (1)) hx hb dX6_isAim_23 rfl ?_
        refine lv_goto (tgt := 28) hx hb dX6_isAim_24 (by decide) ?_
        exact g_zret hx hb hr (by omega) hW hS dX6_isAim_28 hlocks (⟨congrArg (fun z : Int => some (Value.int (J z))) (show 1 = (if (a = -1 ∨ (0 ≤ a ∧ a < I 0)) ∧ 0 ≤ b ∧ b ≤ 10 then 1 else 0) from by first | (have q1 := p_in_1 c_20; rw [if_pos ⟨by omega, by omega, by omega⟩]) | (have q1 := p_in_1 c_20; have q2 := p_in_1 c_10; rw [if_pos ⟨by omega, by omega, by omega⟩]) | (have q1 := p_in_0 c_20; rw [if_neg (by omega)]) | (have q1 := p_in_0 c_10; rw [if_neg (by omega)])), rfl⟩)

set_option maxHeartbeats 4000000 in
set_option maxRecDepth 100000 in
theorem m_act (l : Launch) (g : GX) (base : Nat) (sa : Nat → Nat) (h0 : Hp) (o : Nat) (R : Nat → Nat) (I : Nat → Int) (A : Nat → Int → Int) (a : Int) (hM : OB g 6 28 kd6 h0 o R I mL A) (ha : i32 a) (hm : Mok I A) : MC l g base sa yX6_act wsX6_act ({ frames := 2, cells := 0, slots := 0, locals := 43 }) ([.ref o, .int (J a)]) h0 (fun r h' => Fr (FP 28 kd6 o R) h0 h' ∧ ((¬ (0 ≤ a ∧ a < 24 ∧ p_act (I 0) a) ∧ r = some (.int (J (-2))) ∧ OB g 6 28 kd6 h' o R I mL A) ∨ ((0 ≤ a ∧ a < 24 ∧ p_act (I 0) a) ∧ p_mv (I 0) (I 3) (I 4) (A 1) (A 2) a = 0 ∧ r = some (.int (J (-3))) ∧ ∃ I' A', OB g 6 28 kd6 h' o R I' mL A' ∧ RS I I' A A') ∨ ((0 ≤ a ∧ a < 24 ∧ p_act (I 0) a) ∧ 0 < p_mv (I 0) (I 3) (I 4) (A 1) (A 2) a ∧ r = some (.int (J (p_mv (I 0) (I 3) (I 4) (A 1) (A 2) a))) ∧ ∃ I' A', OB g 6 28 kd6 h' o R I' mL A' ∧ RS I I' (va_up A 2 (cpN (I 0) (p_move (A 2) a (p_mv (I 0) (I 3) (I 4) (A 1) (A 2) a)) (A 2))) A'))) := by
  refine Met.ofW (cc := cX6_act) (maxL := 5) (ret := (some .int)) (by decide) rfl ?_
  intro p e s m args below meth c s₁ B hml hv
  obtain ⟨rfl, hk, hW⟩ := hv
  have hx := B.exec
  have hb := B.bytes
  have hr := B.returns
  have hts := atoms_spec (ws := wsX6_act) B.pre
  have hown : s.vm.findClass RX6 = some m.cls := findClass_of_methodNamed B.named
  have hlocks := B.notSynchronized
  have hfX6 : ∀ w ∈ wsX60, w.before ([.ref o, .int (J a)]).toArray s = true := fun w h => hts w (List.mem_cons_of_mem _ (List.mem_append_right _ h))
  have hS : va_S (Ab base) s.heap s.heap [] := va_S.rf
  have hl := lv_entry ([.ref o, .int (J a)]) (n := 5) (Nat.le_of_ble_eq_true rfl)
  rw [lg_entry_eq]
  generalize (lg_sl ([.ref o, .int (J a)]) ++ List.replicate (5 - (lg_sl ([.ref o, .int (J a)])).length) Slot.unset).toArray = ls at hl ⊢
  have hl : lv_has ls 5 [(0, .ref o), (1, .int (J a))] := hl
  have hF : Fr (FP 28 kd6 o R) h0 h0 := Fr.rf
  obtain ⟨ha1, ha2⟩ := id ha
  obtain ⟨hm1, hm2, hm3, hm4, hm5, hm6, hm7, hm8, hm9⟩ := id hm
  have hn : 0 ≤ I 0 ∧ I 0 ≤ 4 := ⟨hm1, hm2⟩
  have cut_18 : ∀ (i : Int) (ls : Array Slot), (0 ≤ a → i = if a < 8 then a % 4 else (a - 8) / 4) → (i32 i) → (lv_has ls 5 [(0, .ref o), (1, .int (J a))]) → W p l e (headSpec wsX6_act ({ frames := 2, cells := 0, slots := 0, locals := 43 })).room s m ([.ref o, .int (J a)]).toArray below meth c s.heap [] 0 0 (MQ below (QcM g base (fun r h' => Fr (FP 28 kd6 o R) h0 h' ∧ ((¬ (0 ≤ a ∧ a < 24 ∧ p_act (I 0) a) ∧ r = some (.int (J (-2))) ∧ OB g 6 28 kd6 h' o R I mL A) ∨ ((0 ≤ a ∧ a < 24 ∧ p_act (I 0) a) ∧ p_mv (I 0) (I 3) (I 4) (A 1) (A 2) a = 0 ∧ r = some (.int (J (-3))) ∧ ∃ I' A', OB g 6 28 kd6 h' o R I' mL A' ∧ RS I I' A A') ∨ ((0 ≤ a ∧ a < 24 ∧ p_act (I 0) a) ∧ 0 < p_mv (I 0) (I 3) (I 4) (A 1) (A 2) a ∧ r = some (.int (J (p_mv (I 0) (I 3) (I 4) (A 1) (A 2) a))) ∧ ∃ I' A', OB g 6 28 kd6 h' o R I' mL A' ∧ RS I I' (va_up A 2 (cpN (I 0) (p_move (A 2) a (p_mv (I 0) (I 3) (I 4) (A 1) (A 2) a)) (A 2))) A')))) ([.ref o, .int (J a)]).toArray s (0) (0) (Ab base)) (F0 m 18 ls [.int (J i)]) := by
    intro i  ls ei ir hl
    refine lv_istore_n (lv' := [(2, .int (J i)), (0, .ref o), (1, .int (J a))]) hx hb dX6_act_18 rfl hl (by decide) rfl (fun ls hl => ?_)
    have cut_32 : ∀ (j : Int) (ls : Array Slot), (0 ≤ a → j = if a < 8 then i else a % 4) → (i32 j) → (lv_has ls 5 [(2, .int (J i)), (0, .ref o), (1, .int (J a))]) → W p l e (headSpec wsX6_act ({ frames := 2, cells := 0, slots := 0, locals := 43 })).room s m ([.ref o, .int (J a)]).toArray below meth c s.heap [] 0 0 (MQ below (QcM g base (fun r h' => Fr (FP 28 kd6 o R) h0 h' ∧ ((¬ (0 ≤ a ∧ a < 24 ∧ p_act (I 0) a) ∧ r = some (.int (J (-2))) ∧ OB g 6 28 kd6 h' o R I mL A) ∨ ((0 ≤ a ∧ a < 24 ∧ p_act (I 0) a) ∧ p_mv (I 0) (I 3) (I 4) (A 1) (A 2) a = 0 ∧ r = some (.int (J (-3))) ∧ ∃ I' A', OB g 6 28 kd6 h' o R I' mL A' ∧ RS I I' A A') ∨ ((0 ≤ a ∧ a < 24 ∧ p_act (I 0) a) ∧ 0 < p_mv (I 0) (I 3) (I 4) (A 1) (A 2) a ∧ r = some (.int (J (p_mv (I 0) (I 3) (I 4) (A 1) (A 2) a))) ∧ ∃ I' A', OB g 6 28 kd6 h' o R I' mL A' ∧ RS I I' (va_up A 2 (cpN (I 0) (p_move (A 2) a (p_mv (I 0) (I 3) (I 4) (A 1) (A 2) a)) (A 2))) A')))) ([.ref o, .int (J a)]).toArray s (0) (0) (Ab base)) (F0 m 32 ls [.int (J j)]) := by
      intro j  ls ej jr hl
      obtain ⟨ir1, ir2⟩ := id ir
      obtain ⟨jr1, jr2⟩ := id jr
      refine lv_istore_n (lv' := [(3, .int (J j)), (2, .int (J i)), (0, .ref o), (1, .int (J a))]) hx hb dX6_act_32 rfl hl (by decide) rfl (fun ls hl => ?_)
      have cut_73 : ∀ (h : Hp) (H : Heap) (locs : List Loc) (ls : Array Slot), (0 ≤ a ∧ a < 24) → (p_act (I 0) a) → (OB g 6 28 kd6 h o R I mL A) → (Fr (FP 28 kd6 o R) h0 h) → (Wd g base h H) → (va_S (Ab base) s.heap H locs) → (lv_has ls 5 [(3, .int (J j)), (2, .int (J i)), (0, .ref o), (1, .int (J a))]) → W p l e (headSpec wsX6_act ({ frames := 2, cells := 0, slots := 0, locals := 43 })).room s m ([.ref o, .int (J a)]).toArray below meth c H locs 0 0 (MQ below (QcM g base (fun r h' => Fr (FP 28 kd6 o R) h0 h' ∧ ((¬ (0 ≤ a ∧ a < 24 ∧ p_act (I 0) a) ∧ r = some (.int (J (-2))) ∧ OB g 6 28 kd6 h' o R I mL A) ∨ ((0 ≤ a ∧ a < 24 ∧ p_act (I 0) a) ∧ p_mv (I 0) (I 3) (I 4) (A 1) (A 2) a = 0 ∧ r = some (.int (J (-3))) ∧ ∃ I' A', OB g 6 28 kd6 h' o R I' mL A' ∧ RS I I' A A') ∨ ((0 ≤ a ∧ a < 24 ∧ p_act (I 0) a) ∧ 0 < p_mv (I 0) (I 3) (I 4) (A 1) (A 2) a ∧ r = some (.int (J (p_mv (I 0) (I 3) (I 4) (A 1) (A 2) a))) ∧ ∃ I' A', OB g 6 28 kd6 h' o R I' mL A' ∧ RS I I' (va_up A 2 (cpN (I 0) (p_move (A 2) a (p_mv (I 0) (I 3) (I 4) (A 1) (A 2) a)) (A 2))) A')))) ([.ref o, .int (J a)]).toArray s (0) (0) (Ab base)) (F0 m 73 ls []) := by
        intro  h H locs ls hac hact hM hF hW hS hl
        have hu0 : 0 ≤ p_mv (I 0) (I 3) (I 4) (A 1) (A 2) a := p_mv_nn hm a
        refine lv_aload_n hx hb dX6_act_73 rfl (lv_at hl 2 rfl) ?_
        refine g_callV (As := []) (rest := []) (b := o) (ci := 6) (C := RX6) (T := TX6) (N := 28) ⟨hx, hb, hml, hown, hts⟩ (m_tryOwn l g base sa h o R I A hM hn hm3 hm4) (cwV 0 hts gX6_act_X6_tryOwn rfl rfl rfl (by decide +kernel) ⟨Nat.le_of_ble_eq_true rfl, Nat.le_of_ble_eq_true rfl⟩) hk hW hS hM.1 rfl rfl hl.1 (Nat.le_of_ble_eq_true rfl) dX6_act_74 ⟨Nat.le_of_ble_eq_true rfl, Nat.le_of_ble_eq_true rfl⟩ (fun r9 h9 H locs hp hW hS => ?_)
        obtain ⟨rfl, hF9, hM⟩ := hp
        refine W.eq (g2 := F0 m 77 ls []) rfl ?_
        have hF := hF.tr hF9 (fun q h1 _ => h1)
        generalize h9 = h at hM hF hW
        refine lv_aload_n hx hb dX6_act_77 rfl (lv_at hl 2 rfl) ?_
        refine lv_iload_n hx hb dX6_act_78 rfl (lv_at hl 3 rfl) ?_
        refine g_callV (As := [.int (J a)]) (rest := []) (b := o) (ci := 6) (C := RX6) (T := TX6) (N := 28) ⟨hx, hb, hml, hown, hts⟩ (m_does l g base sa h o R (va_up (va_up (va_up I 7 (I 0)) 10 (I 3)) 11 (I 4)) (va_up (va_up A 8 (cpN (I 0) (A 1) (A 8))) 9 (cpN (I 0) (A 2) (A 9))) a hM hac (Tok_own hm)) (cwV 1 hts gX6_act_X6_does rfl rfl rfl (by decide +kernel) ⟨Nat.le_of_ble_eq_true rfl, Nat.le_of_ble_eq_true rfl⟩) hk hW hS hM.1 rfl rfl hl.1 (Nat.le_of_ble_eq_true rfl) dX6_act_79 ⟨Nat.le_of_ble_eq_true rfl, Nat.le_of_ble_eq_true rfl⟩ (fun r9 h9 H locs hp hW hS => ?_)
        have hp : ∃ I', r9 = some (.int (J (if 0 < p_mv (I 0) (I 3) (I 4) (cpN (I 0) (A 1) (A 8)) (cpN (I 0) (A 2) (A 9)) a then 1 else 0))) ∧ Fr (FP 28 kd6 o R) h h9 ∧ OB g 6 28 kd6 h9 o R I' mL (va_up (va_up (va_up A 8 (cpN (I 0) (A 1) (A 8))) 9 (cpN (I 0) (A 2) (A 9))) 9 (p_do (cpN (I 0) (A 2) (A 9)) a (p_mv (I 0) (I 3) (I 4) (cpN (I 0) (A 1) (A 8)) (cpN (I 0) (A 2) (A 9)) a))) ∧ (∀ k, k ≠ 12 → k ≠ 13 → I' k = (va_up (va_up (va_up I 7 (I 0)) 10 (I 3)) 11 (I 4)) k) ∧ (0 < p_mv (I 0) (I 3) (I 4) (cpN (I 0) (A 1) (A 8)) (cpN (I 0) (A 2) (A 9)) a → I' 12 = p_mv (I 0) (I 3) (I 4) (cpN (I 0) (A 1) (A 8)) (cpN (I 0) (A 2) (A 9)) a ∧ I' 13 = (if 4 ≤ a ∧ a < 8 then p_mv (I 0) (I 3) (I 4) (cpN (I 0) (A 1) (A 8)) (cpN (I 0) (A 2) (A 9)) a else 0)) := hp
        rw [p_mv_cp, bx_uu] at hp
        obtain ⟨I1, rfl, hF9, hM, hI, hsp⟩ := hp
        refine W.eq (g2 := F0 m 82 ls [.int (J (if 0 < p_mv (I 0) (I 3) (I 4) (A 1) (A 2) a then 1 else 0))]) rfl ?_
        have hF := hF.tr hF9 (fun q h1 _ => h1)
        generalize h9 = h at hM hF hW
        have hI0 : I1 0 = I 0 := hI 0 (by decide) (by decide)
        have hI3 : I1 3 = I 3 := hI 3 (by decide) (by decide)
        have hI4 : I1 4 = I 4 := hI 4 (by decide) (by decide)
        have hI5 : I1 5 = I 5 := hI 5 (by decide) (by decide)
        refine j_if_ne (x := if 0 < p_mv (I 0) (I 3) (I 4) (A 1) (A 2) a then 1 else 0) (tgt := 88) hx hb (if01_r _) dX6_act_82 (by decide) (fun c_82 => ?_) (fun c_82 => ?_)
        · have hup : 0 < p_mv (I 0) (I 3) (I 4) (A 1) (A 2) a := if01_p c_82
          refine lv_iconst (v := J (0)) hx hb dX6_act_88 rfl ?_
          refine lv_istore (lv' := [(4, .int (J 0)), (3, .int (J j)), (2, .int (J i)), (0, .ref o), (1, .int (J a))]) hx hb dX6_act_89 hl (by decide) rfl (fun ls hl => ?_)
          have loop_91 : ∀ (n : Nat) (k : Int) (f : Int → Int) (h : Hp) (H : Heap) (locs : List Loc) (ls : Array Slot), I 0 - k < (n : Int) → (0 ≤ k ∧ k ≤ I 0) → (f = cpN k (p_move (A 2) a (p_mv (I 0) (I 3) (I 4) (A 1) (A 2) a)) (A 2)) → (OB g 6 28 kd6 h o R I1 mL (va_up (va_up (va_up A 8 (cpN (I 0) (A 1) (A 8))) 9 (p_do (cpN (I 0) (A 2) (A 9)) a (p_mv (I 0) (I 3) (I 4) (A 1) (A 2) a))) 2 (f))) → (Fr (FP 28 kd6 o R) h0 h) → (Wd g base h H) → (va_S (Ab base) s.heap H locs) → (lv_has ls 5 [(0, .ref o), (1, .int (J a)), (4, .int (J k))]) → W p l e (headSpec wsX6_act ({ frames := 2, cells := 0, slots := 0, locals := 43 })).room s m ([.ref o, .int (J a)]).toArray below meth c H locs 0 0 (MQ below (QcM g base (fun r h' => Fr (FP 28 kd6 o R) h0 h' ∧ ((¬ (0 ≤ a ∧ a < 24 ∧ p_act (I 0) a) ∧ r = some (.int (J (-2))) ∧ OB g 6 28 kd6 h' o R I mL A) ∨ ((0 ≤ a ∧ a < 24 ∧ p_act (I 0) a) ∧ p_mv (I 0) (I 3) (I 4) (A 1) (A 2) a = 0 ∧ r = some (.int (J (-3))) ∧ ∃ I' A', OB g 6 28 kd6 h' o R I' mL A' ∧ RS I I' A A') ∨ ((0 ≤ a ∧ a < 24 ∧ p_act (I 0) a) ∧ 0 < p_mv (I 0) (I 3) (I 4) (A 1) (A 2) a ∧ r = some (.int (J (p_mv (I 0) (I 3) (I 4) (A 1) (A 2) a))) ∧ ∃ I' A', OB g 6 28 kd6 h' o R I' mL A' ∧ RS I I' (va_up A 2 (cpN (I 0) (p_move (A 2) a (p_mv (I 0) (I 3) (I 4) (A 1) (A 2) a)) (A 2))) A')))) ([.ref o, .int (J a)]).toArray s (0) (0) (Ab base)) (F0 m 91 ls []) := by
            intro n
            induction n with
            | zero =>
              intro k f h H locs ls hmu hk9 ef hM hF hW hS hl
              exact absurd hmu (by omega)
            | succ n ih =>
              intro k f h H locs ls hmu hk9 ef hM hF hW hS hl
              have ih_91 := ih
              refine lv_iload hx hb dX6_act_91 (lv_at hl 2 rfl) ?_
              refine lv_aload_n hx hb dX6_act_93 rfl (lv_at hl 0 rfl) ?_
              refine g_get (ci := 6) (C := RX6) (T := TX6) (N := 28) (v := .int (J (I1 0))) hx hb hfX6 (fun _ h9 => h9) hown hk hW hM.1 rfl 0 (by decide) (hts (.fieldLink RX6 67 "JugsAndGlassesModel" "jugs" "I") (by decide +kernel)) rfl rfl dX6_act_94 ?_
              refine j_icmp_ge (x := k) (y := I1 0) (tgt := 120) hx hb ⟨by omega, by omega⟩ ⟨by omega, by omega⟩ dX6_act_97 (by decide) (fun c_97 => ?_) (fun c_97 => ?_)
              · refine lv_aload_n hx hb dX6_act_120 rfl (lv_at hl 0 rfl) ?_
                refine g_get (ci := 6) (C := RX6) (T := TX6) (N := 28) (v := .int (J (I1 12))) hx hb hfX6 (fun _ h9 => h9) hown hk hW hM.1 rfl 12 (by decide) (hts (.fieldLink RX6 91 "JugsAndGlassesModel" "moved" "I") (by decide +kernel)) rfl rfl dX6_act_121 ?_
                exact g_iret hx hb hr hW hS dX6_act_124 hlocks (⟨hF, Or.inr (Or.inr ⟨⟨hac.1, hac.2, hact⟩, hup, congrArg (fun z : Int => some (Value.int (J z))) (hsp hup).1, _, _, hM, hI0, hI3, hI4, hI5, rfl, by have e9 : k = I 0 := (by omega); show f = _; rw [ef, e9]; rfl, rfl⟩)⟩)
              · refine lv_aload_n hx hb dX6_act_100 rfl (lv_at hl 0 rfl) ?_
                refine g_get (ci := 6) (C := RX6) (T := TX6) (N := 28) (v := .ref (R 2)) hx hb hfX6 (fun _ h9 => h9) hown hk hW hM.1 rfl 2 (by decide) (hts (.fieldLink RX6 13 "JugsAndGlassesModel" "held" "[I") (by decide +kernel)) rfl rfl dX6_act_101 ?_
                refine lv_iload hx hb dX6_act_104 (lv_at hl 2 rfl) ?_
                refine lv_aload_n hx hb dX6_act_106 rfl (lv_at hl 0 rfl) ?_
                refine g_get (ci := 6) (C := RX6) (T := TX6) (N := 28) (v := .ref (R 9)) hx hb hfX6 (fun _ h9 => h9) hown hk hW hM.1 rfl 9 (by decide) (hts (.fieldLink RX6 29 "JugsAndGlassesModel" "has" "[I") (by decide +kernel)) rfl rfl dX6_act_107 ?_
                refine lv_iload hx hb dX6_act_110 (lv_at hl 2 rfl) ?_
                refine g_iald (n := 4) (f := p_do (cpN (I 0) (A 2) (A 9)) a (p_mv (I 0) (I 3) (I 4) (A 1) (A 2) a)) (i := k) hx hb hk hW (hM.ai 9 (by decide) rfl) (by omega) (by omega) (by omega) dX6_act_112 ?_
                refine o_iast (A' := (va_up (va_up (va_up A 8 (cpN (I 0) (A 1) (A 8))) 9 (p_do (cpN (I 0) (A 2) (A 9)) a (p_mv (I 0) (I 3) (I 4) (A 1) (A 2) a))) 2 (uf f k ((p_do (cpN (I 0) (A 2) (A 9)) a (p_mv (I 0) (I 3) (I 4) (A 1) (A 2) a)) k)))) (i := k) (x := (p_do (cpN (I 0) (A 2) (A 9)) a (p_mv (I 0) (I 3) (I 4) (A 1) (A 2) a)) k) hx hb hk hW hS hM hF 2 (by decide) rfl (FP.a 2 (by decide) ⟨by decide, by decide⟩) (by omega) (show k < 4 from by omega) (show 4 < 2147483648 from by omega) (bx_uu _ _ _ _) dX6_act_113 (fun h H locs hM hF hst hW hS => ?_)
                refine lv_iinc (v := J (k + 1)) (lv' := [(4, .int (J (k + 1))), (0, .ref o), (1, .int (J a))]) hx hb dX6_act_114 hl (k := 2) rfl (J_inc (by omega)) (by decide) rfl (fun ls hl => ?_)
                refine lv_goto (tgt := 91) hx hb dX6_act_117 (by decide) ?_
                exact ih_91 (k + 1) (uf f k ((p_do (cpN (I 0) (A 2) (A 9)) a (p_mv (I 0) (I 3) (I 4) (A 1) (A 2) a)) k)) h H locs ls (by omega) (by omega) (by rw [ef, ← cpN_s _ _ hk9.1]; congr 1; unfold p_do; rw [if_pos (by omega)]; exact p_move_congr (fun _ h1 h2 => cpN_in h1 h2) hact hk9.1 (by omega)) hM hF hW hS (lv_sub hl [1, 2, 0] rfl)
          exact loop_91 ((I 0).toNat + 1) 0 (A 2) h H locs ls (by omega) (by omega) ((cpN_0 _ _).symm) (by have e8 : ∀ f2 f3 : Int → Int, va_up (va_up (va_up A 8 f2) 9 f3) 2 (A 2) = va_up (va_up A 8 f2) 9 f3 := (fun f2 f3 => by funext q; by_cases q2 : q = 2 <;> simp [va_up, q2]); rw [e8]; exact hM) hF hW hS (lv_sub hl [3, 4, 0] rfl)
        · refine lv_bipush (v := J (-3)) hx hb dX6_act_85 (by decide) ?_
          exact g_iret hx hb hr hW hS dX6_act_87 hlocks (⟨hF, Or.inr (Or.inl ⟨⟨hac.1, hac.2, hact⟩, by have := if01_n c_82; omega, rfl, _, _, hM, hI0, hI3, hI4, hI5, rfl, rfl, rfl⟩)⟩)
      refine lv_iload_n hx hb dX6_act_33 rfl (lv_at hl 3 rfl) ?_
      refine lv_iconst (v := J (0)) hx hb dX6_act_34 rfl ?_
      refine lv_bipush (v := J (23)) hx hb dX6_act_35 (by decide) ?_
      refine g_callS (As := [.int (J a), .int (J 0), .int (J 23)]) (rest := []) ⟨hx, hb, hml, hown, hts⟩ (m_in l g base sa h0 a 0 23 ha ⟨by decide, by decide⟩ ⟨by decide, by decide⟩) (va_cwS 3 hts gX6_act_X6_in rfl rfl rfl (by decide +kernel) ⟨Nat.le_of_ble_eq_true rfl, Nat.le_of_ble_eq_true rfl⟩) hk hW hS rfl hl.1 (Nat.le_of_ble_eq_true rfl) dX6_act_37 ⟨Nat.le_of_ble_eq_true rfl, Nat.le_of_ble_eq_true rfl⟩ (fun r9 h9 H locs hp hW hS => ?_)
      obtain ⟨rfl, e9⟩ := hp
      rw [e9] at hW
      refine W.eq (g2 := F0 m 40 ls [.int (J (p_in a 0 23))]) rfl ?_
      have hpr_40 := p_in_r a 0 23
      refine j_if_eq (x := p_in a 0 23) (tgt := 70) hx hb ⟨by omega, by omega⟩ dX6_act_40 (by decide) (fun c_40 => ?_) (fun c_40 => ?_)
      · refine lv_bipush (v := J (-2)) hx hb dX6_act_70 (by decide) ?_
        exact g_iret hx hb hr hW hS dX6_act_72 hlocks (⟨hF, Or.inl ⟨by first | (have := p_in_0 c_40; omega) | (have q0 := p_in_1 c_40; have := p_in_0 c_48; obtain ⟨k1, k2, k3⟩ := k_acts (a := a) (by omega) (by omega); have e1 := ei (by omega); have e2 := ej (by omega); unfold p_act; split at e1 <;> split at e2 <;> omega) | (have q0 := p_in_1 c_40; have := p_in_0 c_56; obtain ⟨k1, k2, k3⟩ := k_acts (a := a) (by omega) (by omega); have e1 := ei (by omega); have e2 := ej (by omega); unfold p_act; split at e1 <;> split at e2 <;> omega) | (have q0 := p_in_1 c_40; obtain ⟨k1, k2, k3⟩ := k_acts (a := a) (by omega) (by omega); have e1 := ei (by omega); have e2 := ej (by omega); unfold p_act; split at e1 <;> split at e2 <;> omega), rfl, hM⟩⟩)
      · refine lv_aload_n hx hb dX6_act_43 rfl (lv_at hl 2 rfl) ?_
        refine lv_iload_n hx hb dX6_act_44 rfl (lv_at hl 1 rfl) ?_
        refine g_callV (As := [.int (J i)]) (rest := []) (b := o) (ci := 6) (C := RX6) (T := TX6) (N := 28) ⟨hx, hb, hml, hown, hts⟩ (m_isJug l g base sa h0 o R I A i hM ir hn) (cwV 1 hts gX6_act_X6_isJug rfl rfl rfl (by decide +kernel) ⟨Nat.le_of_ble_eq_true rfl, Nat.le_of_ble_eq_true rfl⟩) hk hW hS hM.1 rfl rfl hl.1 (Nat.le_of_ble_eq_true rfl) dX6_act_45 ⟨Nat.le_of_ble_eq_true rfl, Nat.le_of_ble_eq_true rfl⟩ (fun r9 h9 H locs hp hW hS => ?_)
        obtain ⟨rfl, e9⟩ := hp
        rw [e9] at hW
        refine W.eq (g2 := F0 m 48 ls [.int (J (p_in i 0 (I 0 - 1)))]) rfl ?_
        have hpr_48 := p_in_r i 0 (I 0 - 1)
        refine j_if_eq (x := p_in i 0 (I 0 - 1)) (tgt := 70) hx hb ⟨by omega, by omega⟩ dX6_act_48 (by decide) (fun c_48 => ?_) (fun c_48 => ?_)
        · refine lv_bipush (v := J (-2)) hx hb dX6_act_70 (by decide) ?_
          exact g_iret hx hb hr hW hS dX6_act_72 hlocks (⟨hF, Or.inl ⟨by first | (have := p_in_0 c_40; omega) | (have q0 := p_in_1 c_40; have := p_in_0 c_48; obtain ⟨k1, k2, k3⟩ := k_acts (a := a) (by omega) (by omega); have e1 := ei (by omega); have e2 := ej (by omega); unfold p_act; split at e1 <;> split at e2 <;> omega) | (have q0 := p_in_1 c_40; have := p_in_0 c_56; obtain ⟨k1, k2, k3⟩ := k_acts (a := a) (by omega) (by omega); have e1 := ei (by omega); have e2 := ej (by omega); unfold p_act; split at e1 <;> split at e2 <;> omega) | (have q0 := p_in_1 c_40; obtain ⟨k1, k2, k3⟩ := k_acts (a := a) (by omega) (by omega); have e1 := ei (by omega); have e2 := ej (by omega); unfold p_act; split at e1 <;> split at e2 <;> omega), rfl, hM⟩⟩)
        · refine lv_aload_n hx hb dX6_act_51 rfl (lv_at hl 2 rfl) ?_
          refine lv_iload_n hx hb dX6_act_52 rfl (lv_at hl 0 rfl) ?_
          refine g_callV (As := [.int (J j)]) (rest := []) (b := o) (ci := 6) (C := RX6) (T := TX6) (N := 28) ⟨hx, hb, hml, hown, hts⟩ (m_isJug l g base sa h0 o R I A j hM jr hn) (cwV 1 hts gX6_act_X6_isJug rfl rfl rfl (by decide +kernel) ⟨Nat.le_of_ble_eq_true rfl, Nat.le_of_ble_eq_true rfl⟩) hk hW hS hM.1 rfl rfl hl.1 (Nat.le_of_ble_eq_true rfl) dX6_act_53 ⟨Nat.le_of_ble_eq_true rfl, Nat.le_of_ble_eq_true rfl⟩ (fun r9 h9 H locs hp hW hS => ?_)
          obtain ⟨rfl, e9⟩ := hp
          rw [e9] at hW
          refine W.eq (g2 := F0 m 56 ls [.int (J (p_in j 0 (I 0 - 1)))]) rfl ?_
          have hpr_56 := p_in_r j 0 (I 0 - 1)
          refine j_if_eq (x := p_in j 0 (I 0 - 1)) (tgt := 70) hx hb ⟨by omega, by omega⟩ dX6_act_56 (by decide) (fun c_56 => ?_) (fun c_56 => ?_)
          · refine lv_bipush (v := J (-2)) hx hb dX6_act_70 (by decide) ?_
            exact g_iret hx hb hr hW hS dX6_act_72 hlocks (⟨hF, Or.inl ⟨by first | (have := p_in_0 c_40; omega) | (have q0 := p_in_1 c_40; have := p_in_0 c_48; obtain ⟨k1, k2, k3⟩ := k_acts (a := a) (by omega) (by omega); have e1 := ei (by omega); have e2 := ej (by omega); unfold p_act; split at e1 <;> split at e2 <;> omega) | (have q0 := p_in_1 c_40; have := p_in_0 c_56; obtain ⟨k1, k2, k3⟩ := k_acts (a := a) (by omega) (by omega); have e1 := ei (by omega); have e2 := ej (by omega); unfold p_act; split at e1 <;> split at e2 <;> omega) | (have q0 := p_in_1 c_40; obtain ⟨k1, k2, k3⟩ := k_acts (a := a) (by omega) (by omega); have e1 := ei (by omega); have e2 := ej (by omega); unfold p_act; split at e1 <;> split at e2 <;> omega), rfl, hM⟩⟩)
          · refine lv_iload_n hx hb dX6_act_59 rfl (lv_at hl 3 rfl) ?_
            refine lv_bipush (v := J (8)) hx hb dX6_act_60 (by decide) ?_
            refine j_icmp_lt (x := a) (y := 8) (tgt := 73) hx hb ⟨by omega, by omega⟩ ⟨by decide, by decide⟩ dX6_act_62 (by decide) (fun c_62 => ?_) (fun c_62 => ?_)
            · exact cut_73  h0 H locs ls (by have := p_in_1 c_40; omega) (by have q1 := p_in_1 c_40; have q2 := p_in_1 c_48; have q3 := p_in_1 c_56; obtain ⟨k1, k2, k3⟩ := k_acts (a := a) (by omega) (by omega); have e1 := ei (by omega); have e2 := ej (by omega); unfold p_act; split at e1 <;> split at e2 <;> omega) hM hF hW hS (lv_sub hl [0, 1, 2, 3] rfl)
            · refine lv_iload_n hx hb dX6_act_65 rfl (lv_at hl 1 rfl) ?_
              refine lv_iload_n hx hb dX6_act_66 rfl (lv_at hl 0 rfl) ?_
              refine j_icmp_ne (x := i) (y := j) (tgt := 73) hx hb ⟨by omega, by omega⟩ ⟨by omega, by omega⟩ dX6_act_67 (by decide) (fun c_67 => ?_) (fun c_67 => ?_)
              · exact cut_73  h0 H locs ls (by have := p_in_1 c_40; omega) (by have q1 := p_in_1 c_40; have q2 := p_in_1 c_48; have q3 := p_in_1 c_56; obtain ⟨k1, k2, k3⟩ := k_acts (a := a) (by omega) (by omega); have e1 := ei (by omega); have e2 := ej (by omega); unfold p_act; split at e1 <;> split at e2 <;> omega) hM hF hW hS (lv_sub hl [0, 1, 2, 3] rfl)
              · refine lv_bipush (v := J (-2)) hx hb dX6_act_70 (by decide) ?_
                exact g_iret hx hb hr hW hS dX6_act_72 hlocks (⟨hF, Or.inl ⟨by first | (have := p_in_0 c_40; omega) | (have q0 := p_in_1 c_40; have := p_in_0 c_48; obtain ⟨k1, k2, k3⟩ := k_acts (a := a) (by omega) (by omega); have e1 := ei (by omega); have e2 := ej (by omega); unfold p_act; split at e1 <;> split at e2 <;> omega) | (have q0 := p_in_1 c_40; have := p_in_0 c_56; obtain ⟨k1, k2, k3⟩ := k_acts (a := a) (by omega) (by omega); have e1 := ei (by omega); have e2 := ej (by omega); unfold p_act; split at e1 <;> split at e2 <;> omega) | (have q0 := p_in_1 c_40; obtain ⟨k1, k2, k3⟩ := k_acts (a := a) (by omega) (by omega); have e1 := ei (by omega); have e2 := ej (by omega); unfold p_act; split at e1 <;> split at e2 <;> omega), rfl, hM⟩⟩)
    refine lv_iload_n hx hb dX6_act_19 rfl (lv_at hl 2 rfl) ?_
    refine lv_bipush (v := J (8)) hx hb dX6_act_20 (by decide) ?_
    refine j_icmp_ge (x := a) (y := 8) (tgt := 29) hx hb ⟨by omega, by omega⟩ ⟨by decide, by decide⟩ dX6_act_22 (by decide) (fun c_22 => ?_) (fun c_22 => ?_)
    · refine lv_iload_n hx hb dX6_act_29 rfl (lv_at hl 2 rfl) ?_
      refine lv_iconst (v := J (4)) hx hb dX6_act_30 rfl ?_
      refine j_irem hx hb (by omega) (by omega) (by omega) (by omega) dX6_act_31 ?_
      exact cut_32 _  ls (by intro q; split <;> omega) (by first | exact ir | exact ⟨by omega, by omega⟩) (lv_sub hl [0, 1, 2] rfl)
    · refine lv_iload_n hx hb dX6_act_25 rfl (lv_at hl 0 rfl) ?_
      refine lv_goto (tgt := 32) hx hb dX6_act_26 (by decide) ?_
      exact cut_32 _  ls (by intro q; split <;> omega) (by first | exact ir | exact ⟨by omega, by omega⟩) (lv_sub hl [0, 1, 2] rfl)
  refine lv_iload_n hx hb dX6_act_0 rfl (lv_at hl 1 rfl) ?_
  refine lv_bipush (v := J (8)) hx hb dX6_act_1 (by decide) ?_
  refine j_icmp_ge (x := a) (y := 8) (tgt := 12) hx hb ⟨by omega, by omega⟩ ⟨by decide, by decide⟩ dX6_act_3 (by decide) (fun c_3 => ?_) (fun c_3 => ?_)
  · refine lv_iload_n hx hb dX6_act_12 rfl (lv_at hl 1 rfl) ?_
    refine lv_bipush (v := J (8)) hx hb dX6_act_13 (by decide) ?_
    refine j_isub hx hb dX6_act_15 ?_
    refine lv_iconst (v := J (4)) hx hb dX6_act_16 rfl ?_
    refine j_idiv hx hb (by omega) (by omega) (by omega) (by omega) dX6_act_17 ?_
    exact cut_18 _  ls (by intro q; first | (rw [if_pos (by omega)]; exact ez q (by omega)) | (rw [if_neg (by omega)])) (by first | exact hz | exact ⟨by omega, by omega⟩) (lv_sub hl [0, 1] rfl)
  · refine lv_iload_n hx hb dX6_act_6 rfl (lv_at hl 1 rfl) ?_
    refine lv_iconst (v := J (4)) hx hb dX6_act_7 rfl ?_
    refine j_irem_any hx hb (by decide) (by decide) dX6_act_8 (fun z hz ez => ?_)
    refine lv_goto (tgt := 18) hx hb dX6_act_9 (by decide) ?_
    exact cut_18 _  ls (by intro q; first | (rw [if_pos (by omega)]; exact ez q (by omega)) | (rw [if_neg (by omega)])) (by first | exact hz | exact ⟨by omega, by omega⟩) (lv_sub hl [0, 1] rfl)
