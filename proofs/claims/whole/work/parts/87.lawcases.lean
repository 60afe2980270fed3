/-! ===== the law's cases ===== -/
def Xr (xs : Nat → Int32) (j : Int) : Int := (xs j.toNat).toInt
theorem Xr_J (xs : Nat → Int32) (j : Int) : J (Xr xs j) = xs j.toNat := by unfold J Xr; exact Int32.ofInt_toInt _
theorem Xr_i (xs : Nat → Int32) (j : Int) : i32 (Xr xs j) := by
  unfold Xr i32
  have h1 := Int32.le_toInt (xs j.toNat)
  have h2 := Int32.toInt_lt (xs j.toNat)
  omega
def bz (x : Int) : Int := if x = 0 then 0 else 1
theorem bz_01 (x : Int) : bz x = 0 ∨ bz x = 1 := by unfold bz; split <;> simp
def LVs (b ox om : Nat) (i : Int) : List (Nat × Value) := [(0, .ref b), (1, .ref ox), (2, .ref om), (3, .int (J i))]
section LAWC
variable {p : Program} {l : Launch} {e : Env} {s : State} {m : MethodId} {below : List Frame} {meth : Method} {c : Code} {b L : Nat} {xs : Nat → Int32} {g : GX} {sa : Nat → Nat} {ox om cC cS : Nat} {i : Int} {R Ro : Nat → Nat} {DR : Nat → Nat → Nat} {DI DL : Nat → Nat → Int} {DA : Nat → Nat → Int → Int} {Rg : Nat → Nat} {Ig Lg : Nat → Int} {Ag : Nat → Int → Int} {I : Nat → Int} {A : Nat → Int → Int} {h : Hp} {H : Heap} {locs : List Loc} {ls : Array Slot} {cells slots : Nat} {rest : List Value} {pc : Nat} {Q : State → Prop} {Rm : Room} {args : Array Value}
theorem lw_arg (hx : p.tables.exec = Jvm.exec) (hb : c.code = code) (hX : va_X b L xs s s.heap) (hbl : b < s.heap.size) (hS : va_S (Ab s.heap.size) s.heap H locs) (hi : 0 ≤ i ∧ i + 4 ≤ L ∧ L ≤ 2048) (hl : lv_has ls 4 (LVs b ox om i)) (k : Int) (hk : 0 ≤ k ∧ k < 4) (h0 : decode code pc = .ok (.aload_n 0, 1)) (h1 : decode code (pc + 1) = .ok (.iload_n 3, 1)) (h2 : decode code (pc + 1 + 1) = .ok (.iconst k, 1)) (h3 : decode code (pc + 1 + 1 + 1) = .ok (.iadd, 1)) (h4 : decode code (pc + 1 + 1 + 1 + 1) = .ok (.iaload, 1))
    (kk : W p l e Rm s m args below meth c H locs cells slots Q (F0 m (pc + 5) ls (.int (J (Xr xs (i + k))) :: rest))) : W p l e Rm s m args below meth c H locs cells slots Q (F0 m pc ls rest) := by
  have hbA : ¬ Ab s.heap.size b := Nat.not_le.mpr hbl
  refine lv_aload_n hx hb h0 rfl (lv_at hl 0 rfl) ?_
  refine lv_iload_n hx hb h1 rfl (lv_at hl 3 rfl) ?_
  refine lv_iconst (v := J k) hx hb h2 rfl ?_
  refine j_iadd hx hb h3 ?_
  have hin : vp_in (J (i + k)) L := by
    have h9 := J_in (i := i + k) (n := (L : Int)) (by omega) (by omega) (by omega)
    exact h9
  refine va_sld hx hb hX hbl hbA hS hin h4 ?_
  rw [J_clamp (i := i + k) (by omega) (by omega), ← Xr_J xs (i + k)]
  exact kk
theorem lw_bool (hx : p.tables.exec = Jvm.exec) (hb : c.code = code) {x : Int} (hi : i32 x) (h0 : decode code pc = .ok (.ifCond .eq 7, 3)) (h1 : decode code (pc + 3) = .ok (.iconst 1, 1)) (h2 : decode code (pc + 3 + 1) = .ok (.goto 4, 3)) (h3 : decode code (pc + 7) = .ok (.iconst 0, 1))
    (kk : W p l e Rm s m args below meth c H locs cells slots Q (F0 m (pc + 8) ls (.int (J (bz x)) :: rest))) : W p l e Rm s m args below meth c H locs cells slots Q (F0 m pc ls (.int (J x) :: rest)) := by
  refine j_if_eq (x := x) (tgt := pc + 7) hx hb hi h0 (by omega) (fun q => ?_) (fun q => ?_)
  · refine lv_iconst (v := J 0) hx hb h3 rfl ?_
    have e9 : bz x = 0 := if_pos q
    rw [e9] at kk
    exact kk
  · refine lv_iconst (v := J 1) hx hb h1 rfl ?_
    refine lv_goto (tgt := pc + 8) hx hb h2 (by omega) ?_
    have e9 : bz x = 1 := if_neg q
    rw [e9] at kk
    exact kk
/-- two answers that are the same -/
theorem lw_same (hx : p.tables.exec = Jvm.exec) (hb : c.code = code) {z z2 : Int} (hz : z = z2) {off : Int} (h0 : decode code pc = .ok (.if_icmp .eq off, 3)) (ht : (pc : Int) + off = ((733 : Nat) : Int))
    (kk : W p l e Rm s m args below meth c H locs cells slots Q (F0 m 733 ls rest)) : W p l e Rm s m args below meth c H locs cells slots Q (F0 m pc ls (.int (J z2) :: .int (J z) :: rest)) :=
  lv_icmp_eq (tgt := 733) hx hb h0 ht (fun _ => kk) (fun q => absurd (by rw [hz]) q)
theorem lw_sameL (hx : p.tables.exec = Jvm.exec) (hb : c.code = code) {z z2 : Int} (hz : z = z2) {off : Int} (h1 : decode code pc = .ok (.lcmp, 1)) (h0 : decode code (pc + 1) = .ok (.ifCond .eq off, 3)) (ht : ((pc + 1 : Nat) : Int) + off = ((733 : Nat) : Int))
    (kk : W p l e Rm s m args below meth c H locs cells slots Q (F0 m 733 ls rest)) : W p l e Rm s m args below meth c H locs cells slots Q (F0 m pc ls (.long (JL z2) :: .long (JL z) :: rest)) := by
  refine W.lcmp hx hb h1 ?_
  subst hz
  have e9 : lg_cmp (JL z) (JL z) = 0 := by
    unfold lg_cmp
    rw [if_neg (Int64.lt_irrefl), if_pos rfl]
  rw [e9]
  exact lv_if_eq (tgt := 733) hx hb h0 ht (fun _ => kk) (fun q => absurd rfl q)
def K733 (p : Program) (l : Launch) (e : Env) (s : State) (m : MethodId) (below : List Frame) (meth : Method) (c : Code) (b : Nat) (g : GX) (ox om : Nat) (R Ro : Nat → Nat) (cC cS : Nat) (i : Int) : Prop :=
  ∀ (DR : Nat → Nat → Nat) (DI DL : Nat → Nat → Int) (DA : Nat → Nat → Int → Int) (Rg : Nat → Nat) (Ig Lg : Nat → Int) (Ag : Nat → Int → Int) (I : Nat → Int) (A : Nat → Int → Int) (h : Hp) (H : Heap) (locs : List Loc) (ls : Array Slot), LX g h ox om R DR DI DL DA Rg Ig Lg Ag Ro I A → SM DI DA Ig Ag I A → Wd g s.heap.size h H → va_S (Ab s.heap.size) s.heap H locs → lv_has ls 4 (LVs b ox om i) → W p l e room_1 s m #[Value.ref b] below meth c H locs (cC + pC DL Lg) (cS + pS DL Lg) (lw_Z below #[Value.ref b] s) (F0 m 733 ls [])
theorem ite_le (P : Prop) [Decidable P] (a : Nat) : (if P then a else 0) ≤ a := by split <;> omega
theorem f3 (hL : LX g h ox om R DR DI DL DA Rg Ig Lg Ag Ro I A) : pC DL Lg ≤ 165000 ∧ pS DL Lg ≤ 527000 ∧ tCel (DL 3 1) (jN DI DA) ≤ 3 ∧ tSlo (DL 3 1) (jN DI DA) ≤ 43923 ∧ cCel (DL 0 5) (tLen (DL 3 1) (jN DI DA)) ≤ 1 ∧ cSlo (DL 0 5) (tLen (DL 3 1) (jN DI DA)) ≤ 14641 ∧ sCel (DL 5 0) (tLen (DL 3 1) (jN DI DA)) ≤ 2 ∧ sSlo (DL 5 0) (tLen (DL 3 1) (jN DI DA)) ≤ 29282 ∧ tCel (DL 4 1) (jN DI DA) ≤ 3 ∧ tSlo (DL 4 1) (jN DI DA) ≤ 43923 ∧ 25 * (k_states (Ig 0)).toNat + 13 ≤ 43300 := by
  obtain ⟨l1, l2, l3, l4, l5, l6, l7, l8, l9, l10, l11, l12⟩ := id hL
  have hpb := p_bd l4 l6
  have hN := Wok_N l4.1
  obtain ⟨vW, vV, vZ, vF, vA, vT, vS, vg, f6, f7, f8⟩ := id l4
  have hr := t_room ⟨vA.1, vA.2.1⟩ hN
  have ht := t_room ⟨vT.1, vT.2.1⟩ hN
  have hs2 := s_room (gw_len vg.2 vA.2.1 hN) hr.2.2.2.2.2.1
  have hs3 := s_room (gw_len vg.1 vA.2.1 hN) hr.2.2.2.2.2.1
  have hst := st_v l6.1.1 l6.1.2.1
  unfold jN at *
  omega

set_option maxHeartbeats 4000000 in
set_option maxRecDepth 100000 in
theorem cs_jug (C0 : lw_At p s m meth c b L xs) (hk : KK g s.heap.size sa s) (hcC : cC ≤ 400000) (hcS : cS ≤ 6000000) (hi : 0 ≤ i ∧ i + 4 ≤ L ∧ L ≤ 2048) (hK : K733 p l e s m below meth c b g ox om R Ro cC cS i) (hL : LX g h ox om R DR DI DL DA Rg Ig Lg Ag Ro I A) (hM : SM DI DA Ig Ag I A) (hW : Wd g s.heap.size h H) (hS : va_S (Ab s.heap.size) s.heap H locs) (hl : lv_has ls 4 (LVs b ox om i)) : W p l e room_1 s m #[Value.ref b] below meth c H locs (cC + pC DL Lg) (cS + pS DL Lg) (lw_Z below #[Value.ref b] s) (F0 m 132 ls []) := by
  obtain ⟨hx, hb, hr, hml, hown, hts0, hX, hbl, hlocks, hgv⟩ := id C0
  have hts : ∀ w ∈ wsL_law, w.before #[Value.ref b] s = true := fun w h => hts0 w (wsL_law_in w h)
  have hf3 := f3 hL
  refine lv_aload_n hx hb dL_law_132 rfl (lv_at hl 1 rfl) ?_
  refine lw_arg hx hb hX hbl hS hi hl 1 (by decide) dL_law_133 dL_law_134 dL_law_135 dL_law_136 dL_law_137 ?_
  refine lw_arg hx hb hX hbl hS hi hl 2 (by decide) dL_law_138 dL_law_139 dL_law_140 dL_law_141 dL_law_142 ?_
  refine g_callV (As := [.int (J (Xr xs (i + 1))), .int (J (Xr xs (i + 2)))]) (rest := []) (b := ox) (ci := 5) (C := RX5) (T := TX5) (N := 3) ⟨hx, hb, hml, hown, hts⟩ (w5_jug l g s.heap.size sa h ox om R DR DI DL DA Rg Ig Lg Ag Ro I A (Xr xs (i + 1)) (Xr xs (i + 2)) hL (Xr_i _ _) (Xr_i _ _)) (cwV 2 hts gL_law_X5_jug rfl rfl rfl (by decide +kernel) ⟨Nat.le_of_ble_eq_true rfl, Nat.le_of_ble_eq_true rfl⟩) hk hW hS hL.1.1 rfl rfl hl.1 (Nat.le_of_ble_eq_true rfl) dL_law_143 (show cC + pC DL Lg + 0 ≤ 600000 ∧ cS + pS DL Lg + 0 ≤ 7302250 from ?_) (fun r9 h9 H locs hp hW hS => ?_)
  · omega
  obtain ⟨z, DI', DA', rfl, hL, h5⟩ := hp
  refine W.widen (k := cC + pC DL Lg) (n := cS + pS DL Lg) (Nat.le_refl _) (Nat.le_refl _) ?_
  refine W.eq (g2 := F0 m 146 ls [.int (J z)]) rfl ?_
  have hf4 := f3 hL
  refine lv_aload_n hx hb dL_law_146 rfl (lv_at hl 2 rfl) ?_
  refine lw_arg hx hb hX hbl hS hi hl 1 (by decide) dL_law_147 dL_law_148 dL_law_149 dL_law_150 dL_law_151 ?_
  refine lw_arg hx hb hX hbl hS hi hl 2 (by decide) dL_law_152 dL_law_153 dL_law_154 dL_law_155 dL_law_156 ?_
  refine g_callV (As := [.int (J (Xr xs (i + 1))), .int (J (Xr xs (i + 2)))]) (rest := [.int (J z)]) (b := om) (ci := 6) (C := RX6) (T := TX6) (N := 28) ⟨hx, hb, hml, hown, hts⟩ (w6_jug l g s.heap.size sa h9 ox om R DR DI' DL DA' Rg Ig Lg Ag Ro I A (Xr xs (i + 1)) (Xr xs (i + 2)) hL (Xr_i _ _) (Xr_i _ _)) (cwV 2 hts gL_law_X6_jug rfl rfl rfl (by decide +kernel) ⟨Nat.le_of_ble_eq_true rfl, Nat.le_of_ble_eq_true rfl⟩) hk hW hS hL.2.2.2.2.2.2.1.1 rfl rfl hl.1 (Nat.le_of_ble_eq_true rfl) dL_law_157 (show cC + pC DL Lg + 0 ≤ 600000 ∧ cS + pS DL Lg + 0 ≤ 7302250 from ?_) (fun r8 h8 H locs hp hW hS => ?_)
  · omega
  obtain ⟨z2, I', A', rfl, hL, h6⟩ := hp
  refine W.widen (k := cC + pC DL Lg) (n := cS + pS DL Lg) (Nat.le_refl _) (Nat.le_refl _) ?_
  refine W.eq (g2 := F0 m 160 ls [.int (J z2), .int (J z)]) rfl ?_
  obtain ⟨hz, hM⟩ := pr_jug hM h5 h6
  refine lw_same hx hb hz dL_law_160 (by decide) ?_
  exact hK _ _ _ _ _ _ _ _ _ _ _ _ _ _ hL hM hW hS hl
set_option maxHeartbeats 4000000 in
set_option maxRecDepth 100000 in
theorem cs_set (C0 : lw_At p s m meth c b L xs) (hk : KK g s.heap.size sa s) (hcC : cC ≤ 400000) (hcS : cS ≤ 6000000) (hi : 0 ≤ i ∧ i + 4 ≤ L ∧ L ≤ 2048) (hK : K733 p l e s m below meth c b g ox om R Ro cC cS i) (hL : LX g h ox om R DR DI DL DA Rg Ig Lg Ag Ro I A) (hM : SM DI DA Ig Ag I A) (hW : Wd g s.heap.size h H) (hS : va_S (Ab s.heap.size) s.heap H locs) (hl : lv_has ls 4 (LVs b ox om i)) : W p l e room_1 s m #[Value.ref b] below meth c H locs (cC + pC DL Lg) (cS + pS DL Lg) (lw_Z below #[Value.ref b] s) (F0 m 165 ls []) := by
  obtain ⟨hx, hb, hr, hml, hown, hts0, hX, hbl, hlocks, hgv⟩ := id C0
  have hts : ∀ w ∈ wsL_law, w.before #[Value.ref b] s = true := fun w h => hts0 w (wsL_law_in w h)
  have hf3 := f3 hL
  refine lv_aload_n hx hb dL_law_165 rfl (lv_at hl 1 rfl) ?_
  refine lw_arg hx hb hX hbl hS hi hl 1 (by decide) dL_law_166 dL_law_167 dL_law_168 dL_law_169 dL_law_170 ?_
  refine lw_arg hx hb hX hbl hS hi hl 2 (by decide) dL_law_171 dL_law_172 dL_law_173 dL_law_174 dL_law_175 ?_
  refine lw_bool hx hb (Xr_i _ _) dL_law_176 dL_law_179 dL_law_180 dL_law_183 ?_
  refine g_callV (As := [.int (J (Xr xs (i + 1))), .int (J (bz (Xr xs (i + 2))))]) (rest := []) (b := ox) (ci := 5) (C := RX5) (T := TX5) (N := 3) ⟨hx, hb, hml, hown, hts⟩ (w5_set l g s.heap.size sa h ox om R DR DI DL DA Rg Ig Lg Ag Ro I A (Xr xs (i + 1)) (bz (Xr xs (i + 2))) hL (Xr_i _ _) (bz_01 _)) (cwV 2 hts gL_law_X5_set rfl rfl rfl (by decide +kernel) ⟨Nat.le_of_ble_eq_true rfl, Nat.le_of_ble_eq_true rfl⟩) hk hW hS hL.1.1 rfl rfl hl.1 (Nat.le_of_ble_eq_true rfl) dL_law_184 (show cC + pC DL Lg + 0 ≤ 600000 ∧ cS + pS DL Lg + 0 ≤ 7302250 from ?_) (fun r9 h9 H locs hp hW hS => ?_)
  · omega
  obtain ⟨z, DI', DA', rfl, hL, h5⟩ := hp
  refine W.widen (k := cC + pC DL Lg) (n := cS + pS DL Lg) (Nat.le_refl _) (Nat.le_refl _) ?_
  refine W.eq (g2 := F0 m 187 ls [.int (J z)]) rfl ?_
  have hf4 := f3 hL
  refine lv_aload_n hx hb dL_law_187 rfl (lv_at hl 2 rfl) ?_
  refine lw_arg hx hb hX hbl hS hi hl 1 (by decide) dL_law_188 dL_law_189 dL_law_190 dL_law_191 dL_law_192 ?_
  refine lw_arg hx hb hX hbl hS hi hl 2 (by decide) dL_law_193 dL_law_194 dL_law_195 dL_law_196 dL_law_197 ?_
  refine lw_bool hx hb (Xr_i _ _) dL_law_198 dL_law_201 dL_law_202 dL_law_205 ?_
  refine g_callV (As := [.int (J (Xr xs (i + 1))), .int (J (bz (Xr xs (i + 2))))]) (rest := [.int (J z)]) (b := om) (ci := 6) (C := RX6) (T := TX6) (N := 28) ⟨hx, hb, hml, hown, hts⟩ (w6_set l g s.heap.size sa h9 ox om R DR DI' DL DA' Rg Ig Lg Ag Ro I A (Xr xs (i + 1)) (bz (Xr xs (i + 2))) hL (Xr_i _ _) (bz_01 _)) (cwV 2 hts gL_law_X6_set rfl rfl rfl (by decide +kernel) ⟨Nat.le_of_ble_eq_true rfl, Nat.le_of_ble_eq_true rfl⟩) hk hW hS hL.2.2.2.2.2.2.1.1 rfl rfl hl.1 (Nat.le_of_ble_eq_true rfl) dL_law_206 (show cC + pC DL Lg + 0 ≤ 600000 ∧ cS + pS DL Lg + 0 ≤ 7302250 from ?_) (fun r8 h8 H locs hp hW hS => ?_)
  · omega
  obtain ⟨z2, I', A', rfl, hL, h6⟩ := hp
  refine W.widen (k := cC + pC DL Lg) (n := cS + pS DL Lg) (Nat.le_refl _) (Nat.le_refl _) ?_
  refine W.eq (g2 := F0 m 209 ls [.int (J z2), .int (J z)]) rfl ?_
  obtain ⟨hz, hM⟩ := pr_set hM h5 h6
  refine lw_same hx hb hz dL_law_209 (by decide) ?_
  exact hK _ _ _ _ _ _ _ _ _ _ _ _ _ _ hL hM hW hS hl
set_option maxHeartbeats 4000000 in
set_option maxRecDepth 100000 in
theorem cs_put (C0 : lw_At p s m meth c b L xs) (hk : KK g s.heap.size sa s) (hcC : cC ≤ 400000) (hcS : cS ≤ 6000000) (hi : 0 ≤ i ∧ i + 4 ≤ L ∧ L ≤ 2048) (hK : K733 p l e s m below meth c b g ox om R Ro cC cS i) (hL : LX g h ox om R DR DI DL DA Rg Ig Lg Ag Ro I A) (hM : SM DI DA Ig Ag I A) (hW : Wd g s.heap.size h H) (hS : va_S (Ab s.heap.size) s.heap H locs) (hl : lv_has ls 4 (LVs b ox om i)) : W p l e room_1 s m #[Value.ref b] below meth c H locs (cC + pC DL Lg) (cS + pS DL Lg) (lw_Z below #[Value.ref b] s) (F0 m 214 ls []) := by
  obtain ⟨hx, hb, hr, hml, hown, hts0, hX, hbl, hlocks, hgv⟩ := id C0
  have hts : ∀ w ∈ wsL_law, w.before #[Value.ref b] s = true := fun w h => hts0 w (wsL_law_in w h)
  have hf3 := f3 hL
  refine lv_aload_n hx hb dL_law_214 rfl (lv_at hl 1 rfl) ?_
  refine lw_arg hx hb hX hbl hS hi hl 1 (by decide) dL_law_215 dL_law_216 dL_law_217 dL_law_218 dL_law_219 ?_
  refine lw_arg hx hb hX hbl hS hi hl 2 (by decide) dL_law_220 dL_law_221 dL_law_222 dL_law_223 dL_law_224 ?_
  refine g_callV (As := [.int (J (Xr xs (i + 1))), .int (J (Xr xs (i + 2)))]) (rest := []) (b := ox) (ci := 5) (C := RX5) (T := TX5) (N := 3) ⟨hx, hb, hml, hown, hts⟩ (w5_put l g s.heap.size sa h ox om R DR DI DL DA Rg Ig Lg Ag Ro I A (Xr xs (i + 1)) (Xr xs (i + 2)) hL (Xr_i _ _) (Xr_i _ _)) (cwV 2 hts gL_law_X5_put rfl rfl rfl (by decide +kernel) ⟨Nat.le_of_ble_eq_true rfl, Nat.le_of_ble_eq_true rfl⟩) hk hW hS hL.1.1 rfl rfl hl.1 (Nat.le_of_ble_eq_true rfl) dL_law_225 (show cC + pC DL Lg + 0 ≤ 600000 ∧ cS + pS DL Lg + 0 ≤ 7302250 from ?_) (fun r9 h9 H locs hp hW hS => ?_)
  · omega
  obtain ⟨z, DI', DA', rfl, hL, h5⟩ := hp
  refine W.widen (k := cC + pC DL Lg) (n := cS + pS DL Lg) (Nat.le_refl _) (Nat.le_refl _) ?_
  refine W.eq (g2 := F0 m 228 ls [.int (J z)]) rfl ?_
  have hf4 := f3 hL
  refine lv_aload_n hx hb dL_law_228 rfl (lv_at hl 2 rfl) ?_
  refine lw_arg hx hb hX hbl hS hi hl 1 (by decide) dL_law_229 dL_law_230 dL_law_231 dL_law_232 dL_law_233 ?_
  refine lw_arg hx hb hX hbl hS hi hl 2 (by decide) dL_law_234 dL_law_235 dL_law_236 dL_law_237 dL_law_238 ?_
  refine g_callV (As := [.int (J (Xr xs (i + 1))), .int (J (Xr xs (i + 2)))]) (rest := [.int (J z)]) (b := om) (ci := 6) (C := RX6) (T := TX6) (N := 28) ⟨hx, hb, hml, hown, hts⟩ (w6_put l g s.heap.size sa h9 ox om R DR DI' DL DA' Rg Ig Lg Ag Ro I A (Xr xs (i + 1)) (Xr xs (i + 2)) hL (Xr_i _ _) (Xr_i _ _)) (cwV 2 hts gL_law_X6_put rfl rfl rfl (by decide +kernel) ⟨Nat.le_of_ble_eq_true rfl, Nat.le_of_ble_eq_true rfl⟩) hk hW hS hL.2.2.2.2.2.2.1.1 rfl rfl hl.1 (Nat.le_of_ble_eq_true rfl) dL_law_239 (show cC + pC DL Lg + 0 ≤ 600000 ∧ cS + pS DL Lg + 0 ≤ 7302250 from ?_) (fun r8 h8 H locs hp hW hS => ?_)
  · omega
  obtain ⟨z2, I', A', rfl, hL, h6⟩ := hp
  refine W.widen (k := cC + pC DL Lg) (n := cS + pS DL Lg) (Nat.le_refl _) (Nat.le_refl _) ?_
  refine W.eq (g2 := F0 m 242 ls [.int (J z2), .int (J z)]) rfl ?_
  obtain ⟨hz, hM⟩ := pr_put hM h5 h6
  refine lw_same hx hb hz dL_law_242 (by decide) ?_
  exact hK _ _ _ _ _ _ _ _ _ _ _ _ _ _ hL hM hW hS hl
set_option maxHeartbeats 4000000 in
set_option maxRecDepth 100000 in
theorem cs_holds (C0 : lw_At p s m meth c b L xs) (hk : KK g s.heap.size sa s) (hcC : cC ≤ 400000) (hcS : cS ≤ 6000000) (hi : 0 ≤ i ∧ i + 4 ≤ L ∧ L ≤ 2048) (hK : K733 p l e s m below meth c b g ox om R Ro cC cS i) (hL : LX g h ox om R DR DI DL DA Rg Ig Lg Ag Ro I A) (hM : SM DI DA Ig Ag I A) (hW : Wd g s.heap.size h H) (hS : va_S (Ab s.heap.size) s.heap H locs) (hl : lv_has ls 4 (LVs b ox om i)) : W p l e room_1 s m #[Value.ref b] below meth c H locs (cC + pC DL Lg) (cS + pS DL Lg) (lw_Z below #[Value.ref b] s) (F0 m 247 ls []) := by
  obtain ⟨hx, hb, hr, hml, hown, hts0, hX, hbl, hlocks, hgv⟩ := id C0
  have hts : ∀ w ∈ wsL_law, w.before #[Value.ref b] s = true := fun w h => hts0 w (wsL_law_in w h)
  have hf3 := f3 hL
  refine lv_aload_n hx hb dL_law_247 rfl (lv_at hl 1 rfl) ?_
  refine lw_arg hx hb hX hbl hS hi hl 1 (by decide) dL_law_248 dL_law_249 dL_law_250 dL_law_251 dL_law_252 ?_
  refine g_callV (As := [.int (J (Xr xs (i + 1)))]) (rest := []) (b := ox) (ci := 5) (C := RX5) (T := TX5) (N := 3) ⟨hx, hb, hml, hown, hts⟩ (w5_holds l g s.heap.size sa h ox om R DR DI DL DA Rg Ig Lg Ag Ro I A (Xr xs (i + 1)) hL (Xr_i _ _)) (cwV 1 hts gL_law_X5_holds rfl rfl rfl (by decide +kernel) ⟨Nat.le_of_ble_eq_true rfl, Nat.le_of_ble_eq_true rfl⟩) hk hW hS hL.1.1 rfl rfl hl.1 (Nat.le_of_ble_eq_true rfl) dL_law_253 (show cC + pC DL Lg + 0 ≤ 600000 ∧ cS + pS DL Lg + 0 ≤ 7302250 from ?_) (fun r9 h9 H locs hp hW hS => ?_)
  · omega
  obtain ⟨z, rfl, hL, h5⟩ := hp
  refine W.widen (k := cC + pC DL Lg) (n := cS + pS DL Lg) (Nat.le_refl _) (Nat.le_refl _) ?_
  refine W.eq (g2 := F0 m 256 ls [.int (J z)]) rfl ?_
  have hf4 := f3 hL
  refine lv_aload_n hx hb dL_law_256 rfl (lv_at hl 2 rfl) ?_
  refine lw_arg hx hb hX hbl hS hi hl 1 (by decide) dL_law_257 dL_law_258 dL_law_259 dL_law_260 dL_law_261 ?_
  refine g_callV (As := [.int (J (Xr xs (i + 1)))]) (rest := [.int (J z)]) (b := om) (ci := 6) (C := RX6) (T := TX6) (N := 28) ⟨hx, hb, hml, hown, hts⟩ (w6_holds l g s.heap.size sa h9 ox om R DR DI DL DA Rg Ig Lg Ag Ro I A (Xr xs (i + 1)) hL (Xr_i _ _)) (cwV 1 hts gL_law_X6_holds rfl rfl rfl (by decide +kernel) ⟨Nat.le_of_ble_eq_true rfl, Nat.le_of_ble_eq_true rfl⟩) hk hW hS hL.2.2.2.2.2.2.1.1 rfl rfl hl.1 (Nat.le_of_ble_eq_true rfl) dL_law_262 (show cC + pC DL Lg + 0 ≤ 600000 ∧ cS + pS DL Lg + 0 ≤ 7302250 from ?_) (fun r8 h8 H locs hp hW hS => ?_)
  · omega
  obtain ⟨z2, I', A', rfl, hL, h6⟩ := hp
  refine W.widen (k := cC + pC DL Lg) (n := cS + pS DL Lg) (Nat.le_refl _) (Nat.le_refl _) ?_
  refine W.eq (g2 := F0 m 265 ls [.int (J z2), .int (J z)]) rfl ?_
  obtain ⟨e1, e2, h6⟩ := h6
  have hz : z = z2 := by rw [h5, h6]; exact pr_holds hM _
  have hM := SM_id hM rfl rfl e1 e2
  refine lw_same hx hb hz dL_law_265 (by decide) ?_
  exact hK _ _ _ _ _ _ _ _ _ _ _ _ _ _ hL hM hW hS hl
set_option maxHeartbeats 4000000 in
set_option maxRecDepth 100000 in
theorem cs_act (C0 : lw_At p s m meth c b L xs) (hk : KK g s.heap.size sa s) (hcC : cC ≤ 400000) (hcS : cS ≤ 6000000) (hi : 0 ≤ i ∧ i + 4 ≤ L ∧ L ≤ 2048) (hK : K733 p l e s m below meth c b g ox om R Ro cC cS i) (hL : LX g h ox om R DR DI DL DA Rg Ig Lg Ag Ro I A) (hM : SM DI DA Ig Ag I A) (hW : Wd g s.heap.size h H) (hS : va_S (Ab s.heap.size) s.heap H locs) (hl : lv_has ls 4 (LVs b ox om i)) : W p l e room_1 s m #[Value.ref b] below meth c H locs (cC + pC DL Lg) (cS + pS DL Lg) (lw_Z below #[Value.ref b] s) (F0 m 270 ls []) := by
  obtain ⟨hx, hb, hr, hml, hown, hts0, hX, hbl, hlocks, hgv⟩ := id C0
  have hts : ∀ w ∈ wsL_law, w.before #[Value.ref b] s = true := fun w h => hts0 w (wsL_law_in w h)
  have hf3 := f3 hL
  refine lv_aload_n hx hb dL_law_270 rfl (lv_at hl 1 rfl) ?_
  refine lw_arg hx hb hX hbl hS hi hl 1 (by decide) dL_law_271 dL_law_272 dL_law_273 dL_law_274 dL_law_275 ?_
  refine g_callV (As := [.int (J (Xr xs (i + 1)))]) (rest := []) (b := ox) (ci := 5) (C := RX5) (T := TX5) (N := 3) ⟨hx, hb, hml, hown, hts⟩ (w5_act l g s.heap.size sa h ox om R DR DI DL DA Rg Ig Lg Ag Ro I A (Xr xs (i + 1)) hL (Xr_i _ _)) (cwV 1 hts gL_law_X5_act rfl rfl rfl (by decide +kernel) ⟨Nat.le_of_ble_eq_true rfl, Nat.le_of_ble_eq_true rfl⟩) hk hW hS hL.1.1 rfl rfl hl.1 (Nat.le_of_ble_eq_true rfl) dL_law_276 (show cC + pC DL Lg + 0 ≤ 600000 ∧ cS + pS DL Lg + 0 ≤ 7302250 from ?_) (fun r9 h9 H locs hp hW hS => ?_)
  · omega
  obtain ⟨z, DI', DA', rfl, hL, h5⟩ := hp
  refine W.widen (k := cC + pC DL Lg) (n := cS + pS DL Lg) (Nat.le_refl _) (Nat.le_refl _) ?_
  refine W.eq (g2 := F0 m 279 ls [.int (J z)]) rfl ?_
  have hf4 := f3 hL
  refine lv_aload_n hx hb dL_law_279 rfl (lv_at hl 2 rfl) ?_
  refine lw_arg hx hb hX hbl hS hi hl 1 (by decide) dL_law_280 dL_law_281 dL_law_282 dL_law_283 dL_law_284 ?_
  refine g_callV (As := [.int (J (Xr xs (i + 1)))]) (rest := [.int (J z)]) (b := om) (ci := 6) (C := RX6) (T := TX6) (N := 28) ⟨hx, hb, hml, hown, hts⟩ (w6_act l g s.heap.size sa h9 ox om R DR DI' DL DA' Rg Ig Lg Ag Ro I A (Xr xs (i + 1)) hL (Xr_i _ _)) (cwV 1 hts gL_law_X6_act rfl rfl rfl (by decide +kernel) ⟨Nat.le_of_ble_eq_true rfl, Nat.le_of_ble_eq_true rfl⟩) hk hW hS hL.2.2.2.2.2.2.1.1 rfl rfl hl.1 (Nat.le_of_ble_eq_true rfl) dL_law_285 (show cC + pC DL Lg + 0 ≤ 600000 ∧ cS + pS DL Lg + 0 ≤ 7302250 from ?_) (fun r8 h8 H locs hp hW hS => ?_)
  · omega
  obtain ⟨z2, I', A', rfl, hL, h6⟩ := hp
  refine W.widen (k := cC + pC DL Lg) (n := cS + pS DL Lg) (Nat.le_refl _) (Nat.le_refl _) ?_
  refine W.eq (g2 := F0 m 288 ls [.int (J z2), .int (J z)]) rfl ?_
  obtain ⟨hz, hM⟩ := pr_act hM h5 h6
  refine lw_same hx hb hz dL_law_288 (by decide) ?_
  exact hK _ _ _ _ _ _ _ _ _ _ _ _ _ _ hL hM hW hS hl
set_option maxHeartbeats 4000000 in
set_option maxRecDepth 100000 in
theorem cs_clear (C0 : lw_At p s m meth c b L xs) (hk : KK g s.heap.size sa s) (hcC : cC ≤ 400000) (hcS : cS ≤ 6000000) (hi : 0 ≤ i ∧ i + 4 ≤ L ∧ L ≤ 2048) (hK : K733 p l e s m below meth c b g ox om R Ro cC cS i) (hL : LX g h ox om R DR DI DL DA Rg Ig Lg Ag Ro I A) (hM : SM DI DA Ig Ag I A) (hW : Wd g s.heap.size h H) (hS : va_S (Ab s.heap.size) s.heap H locs) (hl : lv_has ls 4 (LVs b ox om i)) : W p l e room_1 s m #[Value.ref b] below meth c H locs (cC + pC DL Lg) (cS + pS DL Lg) (lw_Z below #[Value.ref b] s) (F0 m 293 ls []) := by
  obtain ⟨hx, hb, hr, hml, hown, hts0, hX, hbl, hlocks, hgv⟩ := id C0
  have hts : ∀ w ∈ wsL_law, w.before #[Value.ref b] s = true := fun w h => hts0 w (wsL_law_in w h)
  have hf3 := f3 hL
  refine lv_aload_n hx hb dL_law_293 rfl (lv_at hl 1 rfl) ?_
  refine g_callV (As := []) (rest := []) (b := ox) (ci := 5) (C := RX5) (T := TX5) (N := 3) ⟨hx, hb, hml, hown, hts⟩ (w5_clear l g s.heap.size sa h ox om R DR DI DL DA Rg Ig Lg Ag Ro I A  hL ) (cwV 0 hts gL_law_X5_clear rfl rfl rfl (by decide +kernel) ⟨Nat.le_of_ble_eq_true rfl, Nat.le_of_ble_eq_true rfl⟩) hk hW hS hL.1.1 rfl rfl hl.1 (Nat.le_of_ble_eq_true rfl) dL_law_294 (show cC + pC DL Lg + 0 ≤ 600000 ∧ cS + pS DL Lg + 0 ≤ 7302250 from ?_) (fun r9 h9 H locs hp hW hS => ?_)
  · omega
  obtain ⟨z, DI', DA', rfl, hL, h5⟩ := hp
  refine W.widen (k := cC + pC DL Lg) (n := cS + pS DL Lg) (Nat.le_refl _) (Nat.le_refl _) ?_
  refine W.eq (g2 := F0 m 297 ls [.int (J z)]) rfl ?_
  have hf4 := f3 hL
  refine lv_aload_n hx hb dL_law_297 rfl (lv_at hl 2 rfl) ?_
  refine g_callV (As := []) (rest := [.int (J z)]) (b := om) (ci := 6) (C := RX6) (T := TX6) (N := 28) ⟨hx, hb, hml, hown, hts⟩ (w6_clear l g s.heap.size sa h9 ox om R DR DI' DL DA' Rg Ig Lg Ag Ro I A  hL ) (cwV 0 hts gL_law_X6_clear rfl rfl rfl (by decide +kernel) ⟨Nat.le_of_ble_eq_true rfl, Nat.le_of_ble_eq_true rfl⟩) hk hW hS hL.2.2.2.2.2.2.1.1 rfl rfl hl.1 (Nat.le_of_ble_eq_true rfl) dL_law_298 (show cC + pC DL Lg + 0 ≤ 600000 ∧ cS + pS DL Lg + 0 ≤ 7302250 from ?_) (fun r8 h8 H locs hp hW hS => ?_)
  · omega
  obtain ⟨z2, I', A', rfl, hL, h6⟩ := hp
  refine W.widen (k := cC + pC DL Lg) (n := cS + pS DL Lg) (Nat.le_refl _) (Nat.le_refl _) ?_
  refine W.eq (g2 := F0 m 301 ls [.int (J z2), .int (J z)]) rfl ?_
  obtain ⟨hz, hM⟩ := pr_clear hM h5 h6
  refine lw_same hx hb hz dL_law_301 (by decide) ?_
  exact hK _ _ _ _ _ _ _ _ _ _ _ _ _ _ hL hM hW hS hl
set_option maxHeartbeats 4000000 in
set_option maxRecDepth 100000 in
theorem cs_fewest (C0 : lw_At p s m meth c b L xs) (hk : KK g s.heap.size sa s) (hcC : cC ≤ 400000) (hcS : cS ≤ 6000000) (hi : 0 ≤ i ∧ i + 4 ≤ L ∧ L ≤ 2048) (hK : K733 p l e s m below meth c b g ox om R Ro cC cS i) (hL : LX g h ox om R DR DI DL DA Rg Ig Lg Ag Ro I A) (hM : SM DI DA Ig Ag I A) (hW : Wd g s.heap.size h H) (hS : va_S (Ab s.heap.size) s.heap H locs) (hl : lv_has ls 4 (LVs b ox om i)) : W p l e room_1 s m #[Value.ref b] below meth c H locs (cC + pC DL Lg) (cS + pS DL Lg) (lw_Z below #[Value.ref b] s) (F0 m 306 ls []) := by
  obtain ⟨hx, hb, hr, hml, hown, hts0, hX, hbl, hlocks, hgv⟩ := id C0
  have hts : ∀ w ∈ wsL_law, w.before #[Value.ref b] s = true := fun w h => hts0 w (wsL_law_in w h)
  have hf3 := f3 hL
  refine lv_aload_n hx hb dL_law_306 rfl (lv_at hl 1 rfl) ?_
  refine lw_arg hx hb hX hbl hS hi hl 1 (by decide) dL_law_307 dL_law_308 dL_law_309 dL_law_310 dL_law_311 ?_
  refine lw_arg hx hb hX hbl hS hi hl 2 (by decide) dL_law_312 dL_law_313 dL_law_314 dL_law_315 dL_law_316 ?_
  refine g_callV (As := [.int (J (Xr xs (i + 1))), .int (J (Xr xs (i + 2)))]) (rest := []) (b := ox) (ci := 5) (C := RX5) (T := TX5) (N := 3) ⟨hx, hb, hml, hown, hts⟩ (w5_fewest l g s.heap.size sa h ox om R DR DI DL DA Rg Ig Lg Ag Ro I A (Xr xs (i + 1)) (Xr xs (i + 2)) hL (Xr_i _ _) (Xr_i _ _)) (cwV 2 hts gL_law_X5_fewest rfl rfl rfl (by decide +kernel) ⟨Nat.le_of_ble_eq_true rfl, Nat.le_of_ble_eq_true rfl⟩) hk hW hS hL.1.1 rfl rfl hl.1 (Nat.le_of_ble_eq_true rfl) dL_law_317 (show cC + pC DL Lg + (if ((Xr xs (i + 1) = -1 ∨ (0 ≤ Xr xs (i + 1) ∧ Xr xs (i + 1) < DI 1 0)) ∧ 0 ≤ Xr xs (i + 2) ∧ Xr xs (i + 2) ≤ 10) then tCel (DL 3 1) (jN DI DA) else 0) ≤ 600000 ∧ cS + pS DL Lg + (if ((Xr xs (i + 1) = -1 ∨ (0 ≤ Xr xs (i + 1) ∧ Xr xs (i + 1) < DI 1 0)) ∧ 0 ≤ Xr xs (i + 2) ∧ Xr xs (i + 2) ≤ 10) then tSlo (DL 3 1) (jN DI DA) else 0) ≤ 7302250 from ?_) (fun r9 h9 H locs hp hW hS => ?_)
  · exact ⟨by have h8 := ite_le (((Xr xs (i + 1) = -1 ∨ (0 ≤ Xr xs (i + 1) ∧ Xr xs (i + 1) < DI 1 0)) ∧ 0 ≤ Xr xs (i + 2) ∧ Xr xs (i + 2) ≤ 10)) (tCel (DL 3 1) (jN DI DA)); omega, by have h8 := ite_le (((Xr xs (i + 1) = -1 ∨ (0 ≤ Xr xs (i + 1) ∧ Xr xs (i + 1) < DI 1 0)) ∧ 0 ≤ Xr xs (i + 2) ∧ Xr xs (i + 2) ≤ 10)) (tSlo (DL 3 1) (jN DI DA)); omega⟩
  obtain ⟨z, DR', DI', DL', DA', rfl, hL, ed1, ed2, hpc, h5⟩ := hp
  refine W.widen (k := cC + pC DL' Lg) (n := cS + pS DL' Lg) (show cC + pC DL Lg + (if ((Xr xs (i + 1) = -1 ∨ (0 ≤ Xr xs (i + 1) ∧ Xr xs (i + 1) < DI 1 0)) ∧ 0 ≤ Xr xs (i + 2) ∧ Xr xs (i + 2) ≤ 10) then tCel (DL 3 1) (jN DI DA) else 0) ≤ _ by have h8 := hpc.1; omega) (show cS + pS DL Lg + (if ((Xr xs (i + 1) = -1 ∨ (0 ≤ Xr xs (i + 1) ∧ Xr xs (i + 1) < DI 1 0)) ∧ 0 ≤ Xr xs (i + 2) ∧ Xr xs (i + 2) ≤ 10) then tSlo (DL 3 1) (jN DI DA) else 0) ≤ _ by have h8 := hpc.2; omega) ?_
  refine W.eq (g2 := F0 m 320 ls [.int (J z)]) rfl ?_
  have hf4 := f3 hL
  refine lv_aload_n hx hb dL_law_320 rfl (lv_at hl 2 rfl) ?_
  refine lw_arg hx hb hX hbl hS hi hl 1 (by decide) dL_law_321 dL_law_322 dL_law_323 dL_law_324 dL_law_325 ?_
  refine lw_arg hx hb hX hbl hS hi hl 2 (by decide) dL_law_326 dL_law_327 dL_law_328 dL_law_329 dL_law_330 ?_
  refine g_callV (As := [.int (J (Xr xs (i + 1))), .int (J (Xr xs (i + 2)))]) (rest := [.int (J z)]) (b := om) (ci := 6) (C := RX6) (T := TX6) (N := 28) ⟨hx, hb, hml, hown, hts⟩ (w6_fewest l g s.heap.size sa h9 ox om R DR' DI' DL' DA' Rg Ig Lg Ag Ro I A (Xr xs (i + 1)) (Xr xs (i + 2)) hL (Xr_i _ _) (Xr_i _ _)) (cwV 2 hts gL_law_X6_fewest rfl rfl rfl (by decide +kernel) ⟨Nat.le_of_ble_eq_true rfl, Nat.le_of_ble_eq_true rfl⟩) hk hW hS hL.2.2.2.2.2.2.1.1 rfl rfl hl.1 (Nat.le_of_ble_eq_true rfl) dL_law_331 (show cC + pC DL' Lg + 0 ≤ 600000 ∧ cS + pS DL' Lg + 0 ≤ 7302250 from ?_) (fun r8 h8 H locs hp hW hS => ?_)
  · omega
  obtain ⟨z2, I', A', rfl, hL, h6⟩ := hp
  refine W.widen (k := cC + pC DL' Lg) (n := cS + pS DL' Lg) (Nat.le_refl _) (Nat.le_refl _) ?_
  refine W.eq (g2 := F0 m 334 ls [.int (J z2), .int (J z)]) rfl ?_
  obtain ⟨hR, h6⟩ := h6
  have hz : z = z2 := pr_q (aim_SM hM _ _) h5 h6 (fun q1 q2 => by rw [q2.2]; exact eqF hM q1 q2.1)
  have hM := SM_q hM ed1 ed2 hR
  refine lw_same hx hb hz dL_law_334 (by decide) ?_
  exact hK _ _ _ _ _ _ _ _ _ _ _ _ _ _ hL hM hW hS hl
set_option maxHeartbeats 4000000 in
set_option maxRecDepth 100000 in
theorem cs_rows (C0 : lw_At p s m meth c b L xs) (hk : KK g s.heap.size sa s) (hcC : cC ≤ 400000) (hcS : cS ≤ 6000000) (hi : 0 ≤ i ∧ i + 4 ≤ L ∧ L ≤ 2048) (hK : K733 p l e s m below meth c b g ox om R Ro cC cS i) (hL : LX g h ox om R DR DI DL DA Rg Ig Lg Ag Ro I A) (hM : SM DI DA Ig Ag I A) (hW : Wd g s.heap.size h H) (hS : va_S (Ab s.heap.size) s.heap H locs) (hl : lv_has ls 4 (LVs b ox om i)) : W p l e room_1 s m #[Value.ref b] below meth c H locs (cC + pC DL Lg) (cS + pS DL Lg) (lw_Z below #[Value.ref b] s) (F0 m 339 ls []) := by
  obtain ⟨hx, hb, hr, hml, hown, hts0, hX, hbl, hlocks, hgv⟩ := id C0
  have hts : ∀ w ∈ wsL_law, w.before #[Value.ref b] s = true := fun w h => hts0 w (wsL_law_in w h)
  have hf3 := f3 hL
  refine lv_aload_n hx hb dL_law_339 rfl (lv_at hl 1 rfl) ?_
  refine lw_arg hx hb hX hbl hS hi hl 1 (by decide) dL_law_340 dL_law_341 dL_law_342 dL_law_343 dL_law_344 ?_
  refine lw_arg hx hb hX hbl hS hi hl 2 (by decide) dL_law_345 dL_law_346 dL_law_347 dL_law_348 dL_law_349 ?_
  refine g_callV (As := [.int (J (Xr xs (i + 1))), .int (J (Xr xs (i + 2)))]) (rest := []) (b := ox) (ci := 5) (C := RX5) (T := TX5) (N := 3) ⟨hx, hb, hml, hown, hts⟩ (w5_rows l g s.heap.size sa h ox om R DR DI DL DA Rg Ig Lg Ag Ro I A (Xr xs (i + 1)) (Xr xs (i + 2)) hL (Xr_i _ _) (Xr_i _ _)) (cwV 2 hts gL_law_X5_rows rfl rfl rfl (by decide +kernel) ⟨Nat.le_of_ble_eq_true rfl, Nat.le_of_ble_eq_true rfl⟩) hk hW hS hL.1.1 rfl rfl hl.1 (Nat.le_of_ble_eq_true rfl) dL_law_350 (show cC + pC DL Lg + (if ((Xr xs (i + 1) = -1 ∨ (0 ≤ Xr xs (i + 1) ∧ Xr xs (i + 1) < DI 1 0)) ∧ 0 ≤ Xr xs (i + 2) ∧ Xr xs (i + 2) ≤ 10) then tCel (DL 3 1) (jN DI DA) + cCel (DL 0 5) (tLen (DL 3 1) (jN DI DA)) else 0) ≤ 600000 ∧ cS + pS DL Lg + (if ((Xr xs (i + 1) = -1 ∨ (0 ≤ Xr xs (i + 1) ∧ Xr xs (i + 1) < DI 1 0)) ∧ 0 ≤ Xr xs (i + 2) ∧ Xr xs (i + 2) ≤ 10) then tSlo (DL 3 1) (jN DI DA) + cSlo (DL 0 5) (tLen (DL 3 1) (jN DI DA)) else 0) ≤ 7302250 from ?_) (fun r9 h9 H locs hp hW hS => ?_)
  · exact ⟨by have h8 := ite_le (((Xr xs (i + 1) = -1 ∨ (0 ≤ Xr xs (i + 1) ∧ Xr xs (i + 1) < DI 1 0)) ∧ 0 ≤ Xr xs (i + 2) ∧ Xr xs (i + 2) ≤ 10)) (tCel (DL 3 1) (jN DI DA) + cCel (DL 0 5) (tLen (DL 3 1) (jN DI DA))); omega, by have h8 := ite_le (((Xr xs (i + 1) = -1 ∨ (0 ≤ Xr xs (i + 1) ∧ Xr xs (i + 1) < DI 1 0)) ∧ 0 ≤ Xr xs (i + 2) ∧ Xr xs (i + 2) ≤ 10)) (tSlo (DL 3 1) (jN DI DA) + cSlo (DL 0 5) (tLen (DL 3 1) (jN DI DA))); omega⟩
  obtain ⟨z, DR', DI', DL', DA', rfl, hL, ed1, ed2, hpc, h5⟩ := hp
  refine W.widen (k := cC + pC DL' Lg) (n := cS + pS DL' Lg) (show cC + pC DL Lg + (if ((Xr xs (i + 1) = -1 ∨ (0 ≤ Xr xs (i + 1) ∧ Xr xs (i + 1) < DI 1 0)) ∧ 0 ≤ Xr xs (i + 2) ∧ Xr xs (i + 2) ≤ 10) then tCel (DL 3 1) (jN DI DA) + cCel (DL 0 5) (tLen (DL 3 1) (jN DI DA)) else 0) ≤ _ by have h8 := hpc.1; omega) (show cS + pS DL Lg + (if ((Xr xs (i + 1) = -1 ∨ (0 ≤ Xr xs (i + 1) ∧ Xr xs (i + 1) < DI 1 0)) ∧ 0 ≤ Xr xs (i + 2) ∧ Xr xs (i + 2) ≤ 10) then tSlo (DL 3 1) (jN DI DA) + cSlo (DL 0 5) (tLen (DL 3 1) (jN DI DA)) else 0) ≤ _ by have h8 := hpc.2; omega) ?_
  refine W.eq (g2 := F0 m 353 ls [.long (JL z)]) rfl ?_
  have hf4 := f3 hL
  refine lv_aload_n hx hb dL_law_353 rfl (lv_at hl 2 rfl) ?_
  refine lw_arg hx hb hX hbl hS hi hl 1 (by decide) dL_law_354 dL_law_355 dL_law_356 dL_law_357 dL_law_358 ?_
  refine lw_arg hx hb hX hbl hS hi hl 2 (by decide) dL_law_359 dL_law_360 dL_law_361 dL_law_362 dL_law_363 ?_
  refine g_callV (As := [.int (J (Xr xs (i + 1))), .int (J (Xr xs (i + 2)))]) (rest := [.long (JL z)]) (b := om) (ci := 6) (C := RX6) (T := TX6) (N := 28) ⟨hx, hb, hml, hown, hts⟩ (w6_rows l g s.heap.size sa h9 ox om R DR' DI' DL' DA' Rg Ig Lg Ag Ro I A (Xr xs (i + 1)) (Xr xs (i + 2)) hL (Xr_i _ _) (Xr_i _ _)) (cwV 2 hts gL_law_X6_rows rfl rfl rfl (by decide +kernel) ⟨Nat.le_of_ble_eq_true rfl, Nat.le_of_ble_eq_true rfl⟩) hk hW hS hL.2.2.2.2.2.2.1.1 rfl rfl hl.1 (Nat.le_of_ble_eq_true rfl) dL_law_364 (show cC + pC DL' Lg + 0 ≤ 600000 ∧ cS + pS DL' Lg + 0 ≤ 7302250 from ?_) (fun r8 h8 H locs hp hW hS => ?_)
  · omega
  obtain ⟨z2, I', A', rfl, hL, h6⟩ := hp
  refine W.widen (k := cC + pC DL' Lg) (n := cS + pS DL' Lg) (Nat.le_refl _) (Nat.le_refl _) ?_
  refine W.eq (g2 := F0 m 367 ls [.long (JL z2), .long (JL z)]) rfl ?_
  obtain ⟨hR, h6⟩ := h6
  have hz : z = z2 := pr_q (aim_SM hM _ _) h5 h6 (fun q1 q2 => by rw [q2.2]; exact eqW hM q1 q2.1)
  have hM := SM_q hM ed1 ed2 hR
  refine lw_sameL hx hb hz dL_law_367 dL_law_368 (by decide) ?_
  exact hK _ _ _ _ _ _ _ _ _ _ _ _ _ _ hL hM hW hS hl
set_option maxHeartbeats 4000000 in
set_option maxRecDepth 100000 in
theorem cs_best (C0 : lw_At p s m meth c b L xs) (hk : KK g s.heap.size sa s) (hcC : cC ≤ 400000) (hcS : cS ≤ 6000000) (hi : 0 ≤ i ∧ i + 4 ≤ L ∧ L ≤ 2048) (hK : K733 p l e s m below meth c b g ox om R Ro cC cS i) (hL : LX g h ox om R DR DI DL DA Rg Ig Lg Ag Ro I A) (hM : SM DI DA Ig Ag I A) (hW : Wd g s.heap.size h H) (hS : va_S (Ab s.heap.size) s.heap H locs) (hl : lv_has ls 4 (LVs b ox om i)) : W p l e room_1 s m #[Value.ref b] below meth c H locs (cC + pC DL Lg) (cS + pS DL Lg) (lw_Z below #[Value.ref b] s) (F0 m 373 ls []) := by
  obtain ⟨hx, hb, hr, hml, hown, hts0, hX, hbl, hlocks, hgv⟩ := id C0
  have hts : ∀ w ∈ wsL_law, w.before #[Value.ref b] s = true := fun w h => hts0 w (wsL_law_in w h)
  have hf3 := f3 hL
  refine lv_aload_n hx hb dL_law_373 rfl (lv_at hl 1 rfl) ?_
  refine lw_arg hx hb hX hbl hS hi hl 1 (by decide) dL_law_374 dL_law_375 dL_law_376 dL_law_377 dL_law_378 ?_
  refine lw_arg hx hb hX hbl hS hi hl 2 (by decide) dL_law_379 dL_law_380 dL_law_381 dL_law_382 dL_law_383 ?_
  refine lw_arg hx hb hX hbl hS hi hl 3 (by decide) dL_law_384 dL_law_385 dL_law_386 dL_law_387 dL_law_388 ?_
  refine g_callV (As := [.int (J (Xr xs (i + 1))), .int (J (Xr xs (i + 2))), .int (J (Xr xs (i + 3)))]) (rest := []) (b := ox) (ci := 5) (C := RX5) (T := TX5) (N := 3) ⟨hx, hb, hml, hown, hts⟩ (w5_best l g s.heap.size sa h ox om R DR DI DL DA Rg Ig Lg Ag Ro I A (Xr xs (i + 1)) (Xr xs (i + 2)) (Xr xs (i + 3)) hL (Xr_i _ _) (Xr_i _ _) (Xr_i _ _)) (cwV 3 hts gL_law_X5_best rfl rfl rfl (by decide +kernel) ⟨Nat.le_of_ble_eq_true rfl, Nat.le_of_ble_eq_true rfl⟩) hk hW hS hL.1.1 rfl rfl hl.1 (Nat.le_of_ble_eq_true rfl) dL_law_389 (show cC + pC DL Lg + (if (((Xr xs (i + 1) = -1 ∨ (0 ≤ Xr xs (i + 1) ∧ Xr xs (i + 1) < DI 1 0)) ∧ 0 ≤ Xr xs (i + 2) ∧ Xr xs (i + 2) ≤ 10) ∧ 0 ≤ Xr xs (i + 3)) then tCel (DL 3 1) (jN DI DA) else 0) ≤ 600000 ∧ cS + pS DL Lg + (if (((Xr xs (i + 1) = -1 ∨ (0 ≤ Xr xs (i + 1) ∧ Xr xs (i + 1) < DI 1 0)) ∧ 0 ≤ Xr xs (i + 2) ∧ Xr xs (i + 2) ≤ 10) ∧ 0 ≤ Xr xs (i + 3)) then tSlo (DL 3 1) (jN DI DA) else 0) ≤ 7302250 from ?_) (fun r9 h9 H locs hp hW hS => ?_)
  · exact ⟨by have h8 := ite_le ((((Xr xs (i + 1) = -1 ∨ (0 ≤ Xr xs (i + 1) ∧ Xr xs (i + 1) < DI 1 0)) ∧ 0 ≤ Xr xs (i + 2) ∧ Xr xs (i + 2) ≤ 10) ∧ 0 ≤ Xr xs (i + 3))) (tCel (DL 3 1) (jN DI DA)); omega, by have h8 := ite_le ((((Xr xs (i + 1) = -1 ∨ (0 ≤ Xr xs (i + 1) ∧ Xr xs (i + 1) < DI 1 0)) ∧ 0 ≤ Xr xs (i + 2) ∧ Xr xs (i + 2) ≤ 10) ∧ 0 ≤ Xr xs (i + 3))) (tSlo (DL 3 1) (jN DI DA)); omega⟩
  obtain ⟨z, DR', DI', DL', DA', rfl, hL, ed1, ed2, hpc, h5⟩ := hp
  refine W.widen (k := cC + pC DL' Lg) (n := cS + pS DL' Lg) (show cC + pC DL Lg + (if (((Xr xs (i + 1) = -1 ∨ (0 ≤ Xr xs (i + 1) ∧ Xr xs (i + 1) < DI 1 0)) ∧ 0 ≤ Xr xs (i + 2) ∧ Xr xs (i + 2) ≤ 10) ∧ 0 ≤ Xr xs (i + 3)) then tCel (DL 3 1) (jN DI DA) else 0) ≤ _ by have h8 := hpc.1; omega) (show cS + pS DL Lg + (if (((Xr xs (i + 1) = -1 ∨ (0 ≤ Xr xs (i + 1) ∧ Xr xs (i + 1) < DI 1 0)) ∧ 0 ≤ Xr xs (i + 2) ∧ Xr xs (i + 2) ≤ 10) ∧ 0 ≤ Xr xs (i + 3)) then tSlo (DL 3 1) (jN DI DA) else 0) ≤ _ by have h8 := hpc.2; omega) ?_
  refine W.eq (g2 := F0 m 392 ls [.int (J z)]) rfl ?_
  have hf4 := f3 hL
  refine lv_aload_n hx hb dL_law_392 rfl (lv_at hl 2 rfl) ?_
  refine lw_arg hx hb hX hbl hS hi hl 1 (by decide) dL_law_393 dL_law_394 dL_law_395 dL_law_396 dL_law_397 ?_
  refine lw_arg hx hb hX hbl hS hi hl 2 (by decide) dL_law_398 dL_law_399 dL_law_400 dL_law_401 dL_law_402 ?_
  refine lw_arg hx hb hX hbl hS hi hl 3 (by decide) dL_law_403 dL_law_404 dL_law_405 dL_law_406 dL_law_407 ?_
  refine g_callV (As := [.int (J (Xr xs (i + 1))), .int (J (Xr xs (i + 2))), .int (J (Xr xs (i + 3)))]) (rest := [.int (J z)]) (b := om) (ci := 6) (C := RX6) (T := TX6) (N := 28) ⟨hx, hb, hml, hown, hts⟩ (w6_best l g s.heap.size sa h9 ox om R DR' DI' DL' DA' Rg Ig Lg Ag Ro I A (Xr xs (i + 1)) (Xr xs (i + 2)) (Xr xs (i + 3)) hL (Xr_i _ _) (Xr_i _ _) (Xr_i _ _)) (cwV 3 hts gL_law_X6_best rfl rfl rfl (by decide +kernel) ⟨Nat.le_of_ble_eq_true rfl, Nat.le_of_ble_eq_true rfl⟩) hk hW hS hL.2.2.2.2.2.2.1.1 rfl rfl hl.1 (Nat.le_of_ble_eq_true rfl) dL_law_408 (show cC + pC DL' Lg + 0 ≤ 600000 ∧ cS + pS DL' Lg + 0 ≤ 7302250 from ?_) (fun r8 h8 H locs hp hW hS => ?_)
  · omega
  obtain ⟨z2, I', A', rfl, hL, h6⟩ := hp
  refine W.widen (k := cC + pC DL' Lg) (n := cS + pS DL' Lg) (Nat.le_refl _) (Nat.le_refl _) ?_
  refine W.eq (g2 := F0 m 411 ls [.int (J z2), .int (J z)]) rfl ?_
  obtain ⟨hR, h6⟩ := h6
  have hz : z = z2 := pr_q (and_congr (aim_SM hM _ _) Iff.rfl) h5 h6 (fun q1 q2 => by rw [q2.2]; exact eqB hM q1 q2.1)
  have hM := SM_q hM ed1 ed2 hR
  refine lw_same hx hb hz dL_law_411 (by decide) ?_
  exact hK _ _ _ _ _ _ _ _ _ _ _ _ _ _ hL hM hW hS hl
set_option maxHeartbeats 4000000 in
set_option maxRecDepth 100000 in
theorem cs_sparing (C0 : lw_At p s m meth c b L xs) (hk : KK g s.heap.size sa s) (hcC : cC ≤ 400000) (hcS : cS ≤ 6000000) (hi : 0 ≤ i ∧ i + 4 ≤ L ∧ L ≤ 2048) (hK : K733 p l e s m below meth c b g ox om R Ro cC cS i) (hL : LX g h ox om R DR DI DL DA Rg Ig Lg Ag Ro I A) (hM : SM DI DA Ig Ag I A) (hW : Wd g s.heap.size h H) (hS : va_S (Ab s.heap.size) s.heap H locs) (hl : lv_has ls 4 (LVs b ox om i)) : W p l e room_1 s m #[Value.ref b] below meth c H locs (cC + pC DL Lg) (cS + pS DL Lg) (lw_Z below #[Value.ref b] s) (F0 m 416 ls []) := by
  obtain ⟨hx, hb, hr, hml, hown, hts0, hX, hbl, hlocks, hgv⟩ := id C0
  have hts : ∀ w ∈ wsL_law, w.before #[Value.ref b] s = true := fun w h => hts0 w (wsL_law_in w h)
  have hf3 := f3 hL
  refine lv_aload_n hx hb dL_law_416 rfl (lv_at hl 1 rfl) ?_
  refine lw_arg hx hb hX hbl hS hi hl 1 (by decide) dL_law_417 dL_law_418 dL_law_419 dL_law_420 dL_law_421 ?_
  refine lw_arg hx hb hX hbl hS hi hl 2 (by decide) dL_law_422 dL_law_423 dL_law_424 dL_law_425 dL_law_426 ?_
  refine lw_arg hx hb hX hbl hS hi hl 3 (by decide) dL_law_427 dL_law_428 dL_law_429 dL_law_430 dL_law_431 ?_
  refine g_callV (As := [.int (J (Xr xs (i + 1))), .int (J (Xr xs (i + 2))), .int (J (Xr xs (i + 3)))]) (rest := []) (b := ox) (ci := 5) (C := RX5) (T := TX5) (N := 3) ⟨hx, hb, hml, hown, hts⟩ (w5_sparing l g s.heap.size sa h ox om R DR DI DL DA Rg Ig Lg Ag Ro I A (Xr xs (i + 1)) (Xr xs (i + 2)) (Xr xs (i + 3)) hL (Xr_i _ _) (Xr_i _ _) (Xr_i _ _)) (cwV 3 hts gL_law_X5_sparing rfl rfl rfl (by decide +kernel) ⟨Nat.le_of_ble_eq_true rfl, Nat.le_of_ble_eq_true rfl⟩) hk hW hS hL.1.1 rfl rfl hl.1 (Nat.le_of_ble_eq_true rfl) dL_law_432 (show cC + pC DL Lg + (if (((Xr xs (i + 1) = -1 ∨ (0 ≤ Xr xs (i + 1) ∧ Xr xs (i + 1) < DI 1 0)) ∧ 0 ≤ Xr xs (i + 2) ∧ Xr xs (i + 2) ≤ 10) ∧ 0 ≤ Xr xs (i + 3) ∧ Xr xs (i + 3) ≤ 1) then tCel (DL 3 1) (jN DI DA) + (sCel (DL 5 0) (tLen (DL 3 1) (jN DI DA)) + tCel (DL 4 1) (jN DI DA)) else 0) ≤ 600000 ∧ cS + pS DL Lg + (if (((Xr xs (i + 1) = -1 ∨ (0 ≤ Xr xs (i + 1) ∧ Xr xs (i + 1) < DI 1 0)) ∧ 0 ≤ Xr xs (i + 2) ∧ Xr xs (i + 2) ≤ 10) ∧ 0 ≤ Xr xs (i + 3) ∧ Xr xs (i + 3) ≤ 1) then tSlo (DL 3 1) (jN DI DA) + (sSlo (DL 5 0) (tLen (DL 3 1) (jN DI DA)) + tSlo (DL 4 1) (jN DI DA)) else 0) ≤ 7302250 from ?_) (fun r9 h9 H locs hp hW hS => ?_)
  · exact ⟨by have h8 := ite_le ((((Xr xs (i + 1) = -1 ∨ (0 ≤ Xr xs (i + 1) ∧ Xr xs (i + 1) < DI 1 0)) ∧ 0 ≤ Xr xs (i + 2) ∧ Xr xs (i + 2) ≤ 10) ∧ 0 ≤ Xr xs (i + 3) ∧ Xr xs (i + 3) ≤ 1)) (tCel (DL 3 1) (jN DI DA) + (sCel (DL 5 0) (tLen (DL 3 1) (jN DI DA)) + tCel (DL 4 1) (jN DI DA))); omega, by have h8 := ite_le ((((Xr xs (i + 1) = -1 ∨ (0 ≤ Xr xs (i + 1) ∧ Xr xs (i + 1) < DI 1 0)) ∧ 0 ≤ Xr xs (i + 2) ∧ Xr xs (i + 2) ≤ 10) ∧ 0 ≤ Xr xs (i + 3) ∧ Xr xs (i + 3) ≤ 1)) (tSlo (DL 3 1) (jN DI DA) + (sSlo (DL 5 0) (tLen (DL 3 1) (jN DI DA)) + tSlo (DL 4 1) (jN DI DA))); omega⟩
  obtain ⟨z, DR', DI', DL', DA', rfl, hL, ed1, ed2, hpc, h5⟩ := hp
  refine W.widen (k := cC + pC DL' Lg) (n := cS + pS DL' Lg) (show cC + pC DL Lg + (if (((Xr xs (i + 1) = -1 ∨ (0 ≤ Xr xs (i + 1) ∧ Xr xs (i + 1) < DI 1 0)) ∧ 0 ≤ Xr xs (i + 2) ∧ Xr xs (i + 2) ≤ 10) ∧ 0 ≤ Xr xs (i + 3) ∧ Xr xs (i + 3) ≤ 1) then tCel (DL 3 1) (jN DI DA) + (sCel (DL 5 0) (tLen (DL 3 1) (jN DI DA)) + tCel (DL 4 1) (jN DI DA)) else 0) ≤ _ by have h8 := hpc.1; omega) (show cS + pS DL Lg + (if (((Xr xs (i + 1) = -1 ∨ (0 ≤ Xr xs (i + 1) ∧ Xr xs (i + 1) < DI 1 0)) ∧ 0 ≤ Xr xs (i + 2) ∧ Xr xs (i + 2) ≤ 10) ∧ 0 ≤ Xr xs (i + 3) ∧ Xr xs (i + 3) ≤ 1) then tSlo (DL 3 1) (jN DI DA) + (sSlo (DL 5 0) (tLen (DL 3 1) (jN DI DA)) + tSlo (DL 4 1) (jN DI DA)) else 0) ≤ _ by have h8 := hpc.2; omega) ?_
  refine W.eq (g2 := F0 m 435 ls [.int (J z)]) rfl ?_
  have hf4 := f3 hL
  refine lv_aload_n hx hb dL_law_435 rfl (lv_at hl 2 rfl) ?_
  refine lw_arg hx hb hX hbl hS hi hl 1 (by decide) dL_law_436 dL_law_437 dL_law_438 dL_law_439 dL_law_440 ?_
  refine lw_arg hx hb hX hbl hS hi hl 2 (by decide) dL_law_441 dL_law_442 dL_law_443 dL_law_444 dL_law_445 ?_
  refine lw_arg hx hb hX hbl hS hi hl 3 (by decide) dL_law_446 dL_law_447 dL_law_448 dL_law_449 dL_law_450 ?_
  refine g_callV (As := [.int (J (Xr xs (i + 1))), .int (J (Xr xs (i + 2))), .int (J (Xr xs (i + 3)))]) (rest := [.int (J z)]) (b := om) (ci := 6) (C := RX6) (T := TX6) (N := 28) ⟨hx, hb, hml, hown, hts⟩ (w6_sparing l g s.heap.size sa h9 ox om R DR' DI' DL' DA' Rg Ig Lg Ag Ro I A (Xr xs (i + 1)) (Xr xs (i + 2)) (Xr xs (i + 3)) hL (Xr_i _ _) (Xr_i _ _) (Xr_i _ _)) (cwV 3 hts gL_law_X6_sparing rfl rfl rfl (by decide +kernel) ⟨Nat.le_of_ble_eq_true rfl, Nat.le_of_ble_eq_true rfl⟩) hk hW hS hL.2.2.2.2.2.2.1.1 rfl rfl hl.1 (Nat.le_of_ble_eq_true rfl) dL_law_451 (show cC + pC DL' Lg + 0 ≤ 600000 ∧ cS + pS DL' Lg + 0 ≤ 7302250 from ?_) (fun r8 h8 H locs hp hW hS => ?_)
  · omega
  obtain ⟨z2, I', A', rfl, hL, h6⟩ := hp
  refine W.widen (k := cC + pC DL' Lg) (n := cS + pS DL' Lg) (Nat.le_refl _) (Nat.le_refl _) ?_
  refine W.eq (g2 := F0 m 454 ls [.int (J z2), .int (J z)]) rfl ?_
  obtain ⟨hR, h6⟩ := h6
  have hz : z = z2 := pr_q (and_congr (aim_SM hM _ _) Iff.rfl) h5 h6 (fun q1 q2 => by rw [q2.2]; exact eqS hM q1 q2.1)
  have hM := SM_q hM ed1 ed2 hR
  refine lw_same hx hb hz dL_law_454 (by decide) ?_
  exact hK _ _ _ _ _ _ _ _ _ _ _ _ _ _ hL hM hW hS hl
set_option maxHeartbeats 4000000 in
set_option maxRecDepth 100000 in
theorem cs_spare (C0 : lw_At p s m meth c b L xs) (hk : KK g s.heap.size sa s) (hcC : cC ≤ 400000) (hcS : cS ≤ 6000000) (hi : 0 ≤ i ∧ i + 4 ≤ L ∧ L ≤ 2048) (hK : K733 p l e s m below meth c b g ox om R Ro cC cS i) (hL : LX g h ox om R DR DI DL DA Rg Ig Lg Ag Ro I A) (hM : SM DI DA Ig Ag I A) (hW : Wd g s.heap.size h H) (hS : va_S (Ab s.heap.size) s.heap H locs) (hl : lv_has ls 4 (LVs b ox om i)) : W p l e room_1 s m #[Value.ref b] below meth c H locs (cC + pC DL Lg) (cS + pS DL Lg) (lw_Z below #[Value.ref b] s) (F0 m 459 ls []) := by
  obtain ⟨hx, hb, hr, hml, hown, hts0, hX, hbl, hlocks, hgv⟩ := id C0
  have hts : ∀ w ∈ wsL_law, w.before #[Value.ref b] s = true := fun w h => hts0 w (wsL_law_in w h)
  have hf3 := f3 hL
  refine lv_aload_n hx hb dL_law_459 rfl (lv_at hl 1 rfl) ?_
  refine lw_arg hx hb hX hbl hS hi hl 1 (by decide) dL_law_460 dL_law_461 dL_law_462 dL_law_463 dL_law_464 ?_
  refine lw_arg hx hb hX hbl hS hi hl 2 (by decide) dL_law_465 dL_law_466 dL_law_467 dL_law_468 dL_law_469 ?_
  refine lw_arg hx hb hX hbl hS hi hl 3 (by decide) dL_law_470 dL_law_471 dL_law_472 dL_law_473 dL_law_474 ?_
  refine g_callV (As := [.int (J (Xr xs (i + 1))), .int (J (Xr xs (i + 2))), .int (J (Xr xs (i + 3)))]) (rest := []) (b := ox) (ci := 5) (C := RX5) (T := TX5) (N := 3) ⟨hx, hb, hml, hown, hts⟩ (w5_spare l g s.heap.size sa h ox om R DR DI DL DA Rg Ig Lg Ag Ro I A (Xr xs (i + 1)) (Xr xs (i + 2)) (Xr xs (i + 3)) hL (Xr_i _ _) (Xr_i _ _) (Xr_i _ _)) (cwV 3 hts gL_law_X5_spare rfl rfl rfl (by decide +kernel) ⟨Nat.le_of_ble_eq_true rfl, Nat.le_of_ble_eq_true rfl⟩) hk hW hS hL.1.1 rfl rfl hl.1 (Nat.le_of_ble_eq_true rfl) dL_law_475 (show cC + pC DL Lg + (if (((Xr xs (i + 1) = -1 ∨ (0 ≤ Xr xs (i + 1) ∧ Xr xs (i + 1) < DI 1 0)) ∧ 0 ≤ Xr xs (i + 2) ∧ Xr xs (i + 2) ≤ 10) ∧ 0 ≤ Xr xs (i + 3)) then tCel (DL 3 1) (jN DI DA) + (sCel (DL 5 0) (tLen (DL 3 1) (jN DI DA)) + tCel (DL 4 1) (jN DI DA)) else 0) ≤ 600000 ∧ cS + pS DL Lg + (if (((Xr xs (i + 1) = -1 ∨ (0 ≤ Xr xs (i + 1) ∧ Xr xs (i + 1) < DI 1 0)) ∧ 0 ≤ Xr xs (i + 2) ∧ Xr xs (i + 2) ≤ 10) ∧ 0 ≤ Xr xs (i + 3)) then tSlo (DL 3 1) (jN DI DA) + (sSlo (DL 5 0) (tLen (DL 3 1) (jN DI DA)) + tSlo (DL 4 1) (jN DI DA)) else 0) ≤ 7302250 from ?_) (fun r9 h9 H locs hp hW hS => ?_)
  · exact ⟨by have h8 := ite_le ((((Xr xs (i + 1) = -1 ∨ (0 ≤ Xr xs (i + 1) ∧ Xr xs (i + 1) < DI 1 0)) ∧ 0 ≤ Xr xs (i + 2) ∧ Xr xs (i + 2) ≤ 10) ∧ 0 ≤ Xr xs (i + 3))) (tCel (DL 3 1) (jN DI DA) + (sCel (DL 5 0) (tLen (DL 3 1) (jN DI DA)) + tCel (DL 4 1) (jN DI DA))); omega, by have h8 := ite_le ((((Xr xs (i + 1) = -1 ∨ (0 ≤ Xr xs (i + 1) ∧ Xr xs (i + 1) < DI 1 0)) ∧ 0 ≤ Xr xs (i + 2) ∧ Xr xs (i + 2) ≤ 10) ∧ 0 ≤ Xr xs (i + 3))) (tSlo (DL 3 1) (jN DI DA) + (sSlo (DL 5 0) (tLen (DL 3 1) (jN DI DA)) + tSlo (DL 4 1) (jN DI DA))); omega⟩
  obtain ⟨z, DR', DI', DL', DA', rfl, hL, ed1, ed2, hpc, h5⟩ := hp
  refine W.widen (k := cC + pC DL' Lg) (n := cS + pS DL' Lg) (show cC + pC DL Lg + (if (((Xr xs (i + 1) = -1 ∨ (0 ≤ Xr xs (i + 1) ∧ Xr xs (i + 1) < DI 1 0)) ∧ 0 ≤ Xr xs (i + 2) ∧ Xr xs (i + 2) ≤ 10) ∧ 0 ≤ Xr xs (i + 3)) then tCel (DL 3 1) (jN DI DA) + (sCel (DL 5 0) (tLen (DL 3 1) (jN DI DA)) + tCel (DL 4 1) (jN DI DA)) else 0) ≤ _ by have h8 := hpc.1; omega) (show cS + pS DL Lg + (if (((Xr xs (i + 1) = -1 ∨ (0 ≤ Xr xs (i + 1) ∧ Xr xs (i + 1) < DI 1 0)) ∧ 0 ≤ Xr xs (i + 2) ∧ Xr xs (i + 2) ≤ 10) ∧ 0 ≤ Xr xs (i + 3)) then tSlo (DL 3 1) (jN DI DA) + (sSlo (DL 5 0) (tLen (DL 3 1) (jN DI DA)) + tSlo (DL 4 1) (jN DI DA)) else 0) ≤ _ by have h8 := hpc.2; omega) ?_
  refine W.eq (g2 := F0 m 478 ls [.int (J z)]) rfl ?_
  have hf4 := f3 hL
  refine lv_aload_n hx hb dL_law_478 rfl (lv_at hl 2 rfl) ?_
  refine lw_arg hx hb hX hbl hS hi hl 1 (by decide) dL_law_479 dL_law_480 dL_law_481 dL_law_482 dL_law_483 ?_
  refine lw_arg hx hb hX hbl hS hi hl 2 (by decide) dL_law_484 dL_law_485 dL_law_486 dL_law_487 dL_law_488 ?_
  refine lw_arg hx hb hX hbl hS hi hl 3 (by decide) dL_law_489 dL_law_490 dL_law_491 dL_law_492 dL_law_493 ?_
  refine g_callV (As := [.int (J (Xr xs (i + 1))), .int (J (Xr xs (i + 2))), .int (J (Xr xs (i + 3)))]) (rest := [.int (J z)]) (b := om) (ci := 6) (C := RX6) (T := TX6) (N := 28) ⟨hx, hb, hml, hown, hts⟩ (w6_spare l g s.heap.size sa h9 ox om R DR' DI' DL' DA' Rg Ig Lg Ag Ro I A (Xr xs (i + 1)) (Xr xs (i + 2)) (Xr xs (i + 3)) hL (Xr_i _ _) (Xr_i _ _) (Xr_i _ _)) (cwV 3 hts gL_law_X6_spare rfl rfl rfl (by decide +kernel) ⟨Nat.le_of_ble_eq_true rfl, Nat.le_of_ble_eq_true rfl⟩) hk hW hS hL.2.2.2.2.2.2.1.1 rfl rfl hl.1 (Nat.le_of_ble_eq_true rfl) dL_law_494 (show cC + pC DL' Lg + 0 ≤ 600000 ∧ cS + pS DL' Lg + 0 ≤ 7302250 from ?_) (fun r8 h8 H locs hp hW hS => ?_)
  · omega
  obtain ⟨z2, I', A', rfl, hL, h6⟩ := hp
  refine W.widen (k := cC + pC DL' Lg) (n := cS + pS DL' Lg) (Nat.le_refl _) (Nat.le_refl _) ?_
  refine W.eq (g2 := F0 m 497 ls [.int (J z2), .int (J z)]) rfl ?_
  obtain ⟨hR, h6⟩ := h6
  have hz : z = z2 := pr_q (and_congr (aim_SM hM _ _) Iff.rfl) h5 h6 (fun q1 q2 => by rw [q2.2]; exact eqP hM q1 q2.1)
  have hM := SM_q hM ed1 ed2 hR
  refine lw_same hx hb hz dL_law_497 (by decide) ?_
  exact hK _ _ _ _ _ _ _ _ _ _ _ _ _ _ hL hM hW hS hl
set_option maxHeartbeats 4000000 in
set_option maxRecDepth 100000 in
theorem cs_makes (C0 : lw_At p s m meth c b L xs) (hk : KK g s.heap.size sa s) (hcC : cC ≤ 400000) (hcS : cS ≤ 6000000) (hi : 0 ≤ i ∧ i + 4 ≤ L ∧ L ≤ 2048) (hK : K733 p l e s m below meth c b g ox om R Ro cC cS i) (hL : LX g h ox om R DR DI DL DA Rg Ig Lg Ag Ro I A) (hM : SM DI DA Ig Ag I A) (hW : Wd g s.heap.size h H) (hS : va_S (Ab s.heap.size) s.heap H locs) (hl : lv_has ls 4 (LVs b ox om i)) : W p l e room_1 s m #[Value.ref b] below meth c H locs (cC + pC DL Lg) (cS + pS DL Lg) (lw_Z below #[Value.ref b] s) (F0 m 502 ls []) := by
  obtain ⟨hx, hb, hr, hml, hown, hts0, hX, hbl, hlocks, hgv⟩ := id C0
  have hts : ∀ w ∈ wsL_law, w.before #[Value.ref b] s = true := fun w h => hts0 w (wsL_law_in w h)
  have hf3 := f3 hL
  refine lv_aload_n hx hb dL_law_502 rfl (lv_at hl 1 rfl) ?_
  refine g_callV (As := []) (rest := []) (b := ox) (ci := 5) (C := RX5) (T := TX5) (N := 3) ⟨hx, hb, hml, hown, hts⟩ (w5_makes l g s.heap.size sa h ox om R DR DI DL DA Rg Ig Lg Ag Ro I A  hL ) (cwV 0 hts gL_law_X5_makes rfl rfl rfl (by decide +kernel) ⟨Nat.le_of_ble_eq_true rfl, Nat.le_of_ble_eq_true rfl⟩) hk hW hS hL.1.1 rfl rfl hl.1 (Nat.le_of_ble_eq_true rfl) dL_law_503 (show cC + pC DL Lg + (tCel (DL 3 1) (jN DI DA)) ≤ 600000 ∧ cS + pS DL Lg + (tSlo (DL 3 1) (jN DI DA)) ≤ 7302250 from ?_) (fun r9 h9 H locs hp hW hS => ?_)
  · omega
  obtain ⟨z, DR', DI', DL', DA', rfl, hL, ed1, ed2, hpc, h5⟩ := hp
  refine W.widen (k := cC + pC DL' Lg) (n := cS + pS DL' Lg) (show cC + pC DL Lg + (tCel (DL 3 1) (jN DI DA)) ≤ _ by have h8 := hpc.1; omega) (show cS + pS DL Lg + (tSlo (DL 3 1) (jN DI DA)) ≤ _ by have h8 := hpc.2; omega) ?_
  refine W.eq (g2 := F0 m 506 ls [.int (J z)]) rfl ?_
  have hf4 := f3 hL
  refine lv_aload_n hx hb dL_law_506 rfl (lv_at hl 2 rfl) ?_
  refine g_callV (As := []) (rest := [.int (J z)]) (b := om) (ci := 6) (C := RX6) (T := TX6) (N := 28) ⟨hx, hb, hml, hown, hts⟩ (w6_makes l g s.heap.size sa h9 ox om R DR' DI' DL' DA' Rg Ig Lg Ag Ro I A  hL ) (cwV 0 hts gL_law_X6_makes rfl rfl rfl (by decide +kernel) ⟨Nat.le_of_ble_eq_true rfl, Nat.le_of_ble_eq_true rfl⟩) hk hW hS hL.2.2.2.2.2.2.1.1 rfl rfl hl.1 (Nat.le_of_ble_eq_true rfl) dL_law_507 (show cC + pC DL' Lg + 0 ≤ 600000 ∧ cS + pS DL' Lg + 0 ≤ 7302250 from ?_) (fun r8 h8 H locs hp hW hS => ?_)
  · omega
  obtain ⟨z2, I', A', rfl, hL, h6⟩ := hp
  refine W.widen (k := cC + pC DL' Lg) (n := cS + pS DL' Lg) (Nat.le_refl _) (Nat.le_refl _) ?_
  refine W.eq (g2 := F0 m 510 ls [.int (J z2), .int (J z)]) rfl ?_
  obtain ⟨hR, rm, q, k, h61, h62, h6⟩ := h6
  have hz : z = z2 := by rw [h6]; exact eqM hM h5 h61 h62
  have hM := SM_q hM ed1 ed2 hR
  refine lw_same hx hb hz dL_law_510 (by decide) ?_
  exact hK _ _ _ _ _ _ _ _ _ _ _ _ _ _ hL hM hW hS hl
set_option maxHeartbeats 4000000 in
set_option maxRecDepth 100000 in
theorem cs_reaches (C0 : lw_At p s m meth c b L xs) (hk : KK g s.heap.size sa s) (hcC : cC ≤ 400000) (hcS : cS ≤ 6000000) (hi : 0 ≤ i ∧ i + 4 ≤ L ∧ L ≤ 2048) (hK : K733 p l e s m below meth c b g ox om R Ro cC cS i) (hL : LX g h ox om R DR DI DL DA Rg Ig Lg Ag Ro I A) (hM : SM DI DA Ig Ag I A) (hW : Wd g s.heap.size h H) (hS : va_S (Ab s.heap.size) s.heap H locs) (hl : lv_has ls 4 (LVs b ox om i)) : W p l e room_1 s m #[Value.ref b] below meth c H locs (cC + pC DL Lg) (cS + pS DL Lg) (lw_Z below #[Value.ref b] s) (F0 m 515 ls []) := by
  obtain ⟨hx, hb, hr, hml, hown, hts0, hX, hbl, hlocks, hgv⟩ := id C0
  have hts : ∀ w ∈ wsL_law, w.before #[Value.ref b] s = true := fun w h => hts0 w (wsL_law_in w h)
  have hf3 := f3 hL
  refine lv_aload_n hx hb dL_law_515 rfl (lv_at hl 1 rfl) ?_
  refine g_callV (As := []) (rest := []) (b := ox) (ci := 5) (C := RX5) (T := TX5) (N := 3) ⟨hx, hb, hml, hown, hts⟩ (w5_reaches l g s.heap.size sa h ox om R DR DI DL DA Rg Ig Lg Ag Ro I A  hL ) (cwV 0 hts gL_law_X5_reaches rfl rfl rfl (by decide +kernel) ⟨Nat.le_of_ble_eq_true rfl, Nat.le_of_ble_eq_true rfl⟩) hk hW hS hL.1.1 rfl rfl hl.1 (Nat.le_of_ble_eq_true rfl) dL_law_516 (show cC + pC DL Lg + (tCel (DL 3 1) (jN DI DA)) ≤ 600000 ∧ cS + pS DL Lg + (tSlo (DL 3 1) (jN DI DA)) ≤ 7302250 from ?_) (fun r9 h9 H locs hp hW hS => ?_)
  · omega
  obtain ⟨z, DR', DI', DL', DA', rfl, hL, ed1, ed2, hpc, h5⟩ := hp
  refine W.widen (k := cC + pC DL' Lg) (n := cS + pS DL' Lg) (show cC + pC DL Lg + (tCel (DL 3 1) (jN DI DA)) ≤ _ by have h8 := hpc.1; omega) (show cS + pS DL Lg + (tSlo (DL 3 1) (jN DI DA)) ≤ _ by have h8 := hpc.2; omega) ?_
  refine W.eq (g2 := F0 m 519 ls [.int (J z)]) rfl ?_
  have hf4 := f3 hL
  refine lv_aload_n hx hb dL_law_519 rfl (lv_at hl 2 rfl) ?_
  refine g_callV (As := []) (rest := [.int (J z)]) (b := om) (ci := 6) (C := RX6) (T := TX6) (N := 28) ⟨hx, hb, hml, hown, hts⟩ (w6_reaches l g s.heap.size sa h9 ox om R DR' DI' DL' DA' Rg Ig Lg Ag Ro I A  hL ) (cwV 0 hts gL_law_X6_reaches rfl rfl rfl (by decide +kernel) ⟨Nat.le_of_ble_eq_true rfl, Nat.le_of_ble_eq_true rfl⟩) hk hW hS hL.2.2.2.2.2.2.1.1 rfl rfl hl.1 (Nat.le_of_ble_eq_true rfl) dL_law_520 (show cC + pC DL' Lg + 0 ≤ 600000 ∧ cS + pS DL' Lg + 0 ≤ 7302250 from ?_) (fun r8 h8 H locs hp hW hS => ?_)
  · omega
  obtain ⟨z2, I', A', rfl, hL, h6⟩ := hp
  refine W.widen (k := cC + pC DL' Lg) (n := cS + pS DL' Lg) (Nat.le_refl _) (Nat.le_refl _) ?_
  refine W.eq (g2 := F0 m 523 ls [.int (J z2), .int (J z)]) rfl ?_
  obtain ⟨hR, rm, q, k, h61, h62, h6⟩ := h6
  have hz : z = z2 := by rw [h6]; exact eqR hM h5 h61 h62
  have hM := SM_q hM ed1 ed2 hR
  refine lw_same hx hb hz dL_law_523 (by decide) ?_
  exact hK _ _ _ _ _ _ _ _ _ _ _ _ _ _ hL hM hW hS hl
set_option maxHeartbeats 4000000 in
set_option maxRecDepth 100000 in
theorem cs_road (C0 : lw_At p s m meth c b L xs) (hk : KK g s.heap.size sa s) (hcC : cC ≤ 400000) (hcS : cS ≤ 6000000) (hi : 0 ≤ i ∧ i + 4 ≤ L ∧ L ≤ 2048) (hK : K733 p l e s m below meth c b g ox om R Ro cC cS i) (hL : LX g h ox om R DR DI DL DA Rg Ig Lg Ag Ro I A) (hM : SM DI DA Ig Ag I A) (hW : Wd g s.heap.size h H) (hS : va_S (Ab s.heap.size) s.heap H locs) (hl : lv_has ls 4 (LVs b ox om i)) : W p l e room_1 s m #[Value.ref b] below meth c H locs (cC + pC DL Lg) (cS + pS DL Lg) (lw_Z below #[Value.ref b] s) (F0 m 528 ls []) := by
  obtain ⟨hx, hb, hr, hml, hown, hts0, hX, hbl, hlocks, hgv⟩ := id C0
  have hts : ∀ w ∈ wsL_law, w.before #[Value.ref b] s = true := fun w h => hts0 w (wsL_law_in w h)
  have hf3 := f3 hL
  refine lv_aload_n hx hb dL_law_528 rfl (lv_at hl 1 rfl) ?_
  refine lw_arg hx hb hX hbl hS hi hl 1 (by decide) dL_law_529 dL_law_530 dL_law_531 dL_law_532 dL_law_533 ?_
  refine lw_arg hx hb hX hbl hS hi hl 2 (by decide) dL_law_534 dL_law_535 dL_law_536 dL_law_537 dL_law_538 ?_
  refine g_callV (As := [.int (J (Xr xs (i + 1))), .int (J (Xr xs (i + 2)))]) (rest := []) (b := ox) (ci := 5) (C := RX5) (T := TX5) (N := 3) ⟨hx, hb, hml, hown, hts⟩ (w5_road l g s.heap.size sa h ox om R DR DI DL DA Rg Ig Lg Ag Ro I A (Xr xs (i + 1)) (Xr xs (i + 2)) hL (Xr_i _ _) (Xr_i _ _)) (cwV 2 hts gL_law_X5_road rfl rfl rfl (by decide +kernel) ⟨Nat.le_of_ble_eq_true rfl, Nat.le_of_ble_eq_true rfl⟩) hk hW hS hL.1.1 rfl rfl hl.1 (Nat.le_of_ble_eq_true rfl) dL_law_539 (show cC + pC DL Lg + 0 ≤ 600000 ∧ cS + pS DL Lg + 0 ≤ 7302250 from ?_) (fun r9 h9 H locs hp hW hS => ?_)
  · omega
  obtain ⟨z, rfl, hL, h5⟩ := hp
  refine W.widen (k := cC + pC DL Lg) (n := cS + pS DL Lg) (Nat.le_refl _) (Nat.le_refl _) ?_
  refine W.eq (g2 := F0 m 542 ls [.int (J z)]) rfl ?_
  have hf4 := f3 hL
  refine lv_aload_n hx hb dL_law_542 rfl (lv_at hl 2 rfl) ?_
  refine lw_arg hx hb hX hbl hS hi hl 1 (by decide) dL_law_543 dL_law_544 dL_law_545 dL_law_546 dL_law_547 ?_
  refine lw_arg hx hb hX hbl hS hi hl 2 (by decide) dL_law_548 dL_law_549 dL_law_550 dL_law_551 dL_law_552 ?_
  refine g_callV (As := [.int (J (Xr xs (i + 1))), .int (J (Xr xs (i + 2)))]) (rest := [.int (J z)]) (b := om) (ci := 6) (C := RX6) (T := TX6) (N := 28) ⟨hx, hb, hml, hown, hts⟩ (w6_road l g s.heap.size sa h9 ox om R DR DI DL DA Rg Ig Lg Ag Ro I A (Xr xs (i + 1)) (Xr xs (i + 2)) hL (Xr_i _ _) (Xr_i _ _)) (cwV 2 hts gL_law_X6_road rfl rfl rfl (by decide +kernel) ⟨Nat.le_of_ble_eq_true rfl, Nat.le_of_ble_eq_true rfl⟩) hk hW hS hL.2.2.2.2.2.2.1.1 rfl rfl hl.1 (Nat.le_of_ble_eq_true rfl) dL_law_553 (show cC + pC DL Lg + 0 ≤ 600000 ∧ cS + pS DL Lg + 0 ≤ 7302250 from ?_) (fun r8 h8 H locs hp hW hS => ?_)
  · omega
  obtain ⟨z2, I', A', rfl, hL, h6⟩ := hp
  refine W.widen (k := cC + pC DL Lg) (n := cS + pS DL Lg) (Nat.le_refl _) (Nat.le_refl _) ?_
  refine W.eq (g2 := F0 m 556 ls [.int (J z2), .int (J z)]) rfl ?_
  obtain ⟨e1, e2, h6⟩ := h6
  have hz : z = z2 := by rw [h5, h6]; exact pr_road hM _ _
  have hM := SM_id hM rfl rfl e1 e2
  refine lw_same hx hb hz dL_law_556 (by decide) ?_
  exact hK _ _ _ _ _ _ _ _ _ _ _ _ _ _ hL hM hW hS hl
set_option maxHeartbeats 4000000 in
set_option maxRecDepth 100000 in
theorem cs_sizes (C0 : lw_At p s m meth c b L xs) (hk : KK g s.heap.size sa s) (hcC : cC ≤ 400000) (hcS : cS ≤ 6000000) (hi : 0 ≤ i ∧ i + 4 ≤ L ∧ L ≤ 2048) (hK : K733 p l e s m below meth c b g ox om R Ro cC cS i) (hL : LX g h ox om R DR DI DL DA Rg Ig Lg Ag Ro I A) (hM : SM DI DA Ig Ag I A) (hW : Wd g s.heap.size h H) (hS : va_S (Ab s.heap.size) s.heap H locs) (hl : lv_has ls 4 (LVs b ox om i)) : W p l e room_1 s m #[Value.ref b] below meth c H locs (cC + pC DL Lg) (cS + pS DL Lg) (lw_Z below #[Value.ref b] s) (F0 m 561 ls []) := by
  obtain ⟨hx, hb, hr, hml, hown, hts0, hX, hbl, hlocks, hgv⟩ := id C0
  have hts : ∀ w ∈ wsL_law, w.before #[Value.ref b] s = true := fun w h => hts0 w (wsL_law_in w h)
  have hf3 := f3 hL
  refine lv_aload_n hx hb dL_law_561 rfl (lv_at hl 1 rfl) ?_
  refine lw_arg hx hb hX hbl hS hi hl 1 (by decide) dL_law_562 dL_law_563 dL_law_564 dL_law_565 dL_law_566 ?_
  refine lw_arg hx hb hX hbl hS hi hl 2 (by decide) dL_law_567 dL_law_568 dL_law_569 dL_law_570 dL_law_571 ?_
  refine lw_arg hx hb hX hbl hS hi hl 3 (by decide) dL_law_572 dL_law_573 dL_law_574 dL_law_575 dL_law_576 ?_
  refine g_callV (As := [.int (J (Xr xs (i + 1))), .int (J (Xr xs (i + 2))), .int (J (Xr xs (i + 3)))]) (rest := []) (b := ox) (ci := 5) (C := RX5) (T := TX5) (N := 3) ⟨hx, hb, hml, hown, hts⟩ (w5_sizes l g s.heap.size sa h ox om R DR DI DL DA Rg Ig Lg Ag Ro I A (Xr xs (i + 1)) (Xr xs (i + 2)) (Xr xs (i + 3)) hL (Xr_i _ _) (Xr_i _ _) (Xr_i _ _)) (cwV 3 hts gL_law_X5_sizes rfl rfl rfl (by decide +kernel) ⟨Nat.le_of_ble_eq_true rfl, Nat.le_of_ble_eq_true rfl⟩) hk hW hS hL.1.1 rfl rfl hl.1 (Nat.le_of_ble_eq_true rfl) dL_law_577 (show cC + pC DL Lg + 0 ≤ 600000 ∧ cS + pS DL Lg + 0 ≤ 7302250 from ?_) (fun r9 h9 H locs hp hW hS => ?_)
  · omega
  obtain ⟨z, rfl, hL, h5⟩ := hp
  refine W.widen (k := cC + pC DL Lg) (n := cS + pS DL Lg) (Nat.le_refl _) (Nat.le_refl _) ?_
  refine W.eq (g2 := F0 m 580 ls [.int (J z)]) rfl ?_
  have hf4 := f3 hL
  refine lv_aload_n hx hb dL_law_580 rfl (lv_at hl 2 rfl) ?_
  refine lw_arg hx hb hX hbl hS hi hl 1 (by decide) dL_law_581 dL_law_582 dL_law_583 dL_law_584 dL_law_585 ?_
  refine lw_arg hx hb hX hbl hS hi hl 2 (by decide) dL_law_586 dL_law_587 dL_law_588 dL_law_589 dL_law_590 ?_
  refine lw_arg hx hb hX hbl hS hi hl 3 (by decide) dL_law_591 dL_law_592 dL_law_593 dL_law_594 dL_law_595 ?_
  refine g_callV (As := [.int (J (Xr xs (i + 1))), .int (J (Xr xs (i + 2))), .int (J (Xr xs (i + 3)))]) (rest := [.int (J z)]) (b := om) (ci := 6) (C := RX6) (T := TX6) (N := 28) ⟨hx, hb, hml, hown, hts⟩ (w6_sizes l g s.heap.size sa h9 ox om R DR DI DL DA Rg Ig Lg Ag Ro I A (Xr xs (i + 1)) (Xr xs (i + 2)) (Xr xs (i + 3)) hL (Xr_i _ _) (Xr_i _ _) (Xr_i _ _)) (cwV 3 hts gL_law_X6_sizes rfl rfl rfl (by decide +kernel) ⟨Nat.le_of_ble_eq_true rfl, Nat.le_of_ble_eq_true rfl⟩) hk hW hS hL.2.2.2.2.2.2.1.1 rfl rfl hl.1 (Nat.le_of_ble_eq_true rfl) dL_law_596 (show cC + pC DL Lg + 0 ≤ 600000 ∧ cS + pS DL Lg + 0 ≤ 7302250 from ?_) (fun r8 h8 H locs hp hW hS => ?_)
  · omega
  obtain ⟨z2, I', A', rfl, hL, h6⟩ := hp
  refine W.widen (k := cC + pC DL Lg) (n := cS + pS DL Lg) (Nat.le_refl _) (Nat.le_refl _) ?_
  refine W.eq (g2 := F0 m 599 ls [.int (J z2), .int (J z)]) rfl ?_
  obtain ⟨hR, h6⟩ := h6
  have hz : z = z2 := by rw [h5, h6]
  have hM := SM_rs hM hR
  refine lw_same hx hb hz dL_law_599 (by decide) ?_
  exact hK _ _ _ _ _ _ _ _ _ _ _ _ _ _ hL hM hW hS hl
set_option maxHeartbeats 4000000 in
set_option maxRecDepth 100000 in
theorem cs_glass (C0 : lw_At p s m meth c b L xs) (hk : KK g s.heap.size sa s) (hcC : cC ≤ 400000) (hcS : cS ≤ 6000000) (hi : 0 ≤ i ∧ i + 4 ≤ L ∧ L ≤ 2048) (hK : K733 p l e s m below meth c b g ox om R Ro cC cS i) (hL : LX g h ox om R DR DI DL DA Rg Ig Lg Ag Ro I A) (hM : SM DI DA Ig Ag I A) (hW : Wd g s.heap.size h H) (hS : va_S (Ab s.heap.size) s.heap H locs) (hl : lv_has ls 4 (LVs b ox om i)) : W p l e room_1 s m #[Value.ref b] below meth c H locs (cC + pC DL Lg) (cS + pS DL Lg) (lw_Z below #[Value.ref b] s) (F0 m 604 ls []) := by
  obtain ⟨hx, hb, hr, hml, hown, hts0, hX, hbl, hlocks, hgv⟩ := id C0
  have hts : ∀ w ∈ wsL_law, w.before #[Value.ref b] s = true := fun w h => hts0 w (wsL_law_in w h)
  have hf3 := f3 hL
  refine lv_aload_n hx hb dL_law_604 rfl (lv_at hl 1 rfl) ?_
  refine lw_arg hx hb hX hbl hS hi hl 1 (by decide) dL_law_605 dL_law_606 dL_law_607 dL_law_608 dL_law_609 ?_
  refine g_callV (As := [.int (J (Xr xs (i + 1)))]) (rest := []) (b := ox) (ci := 5) (C := RX5) (T := TX5) (N := 3) ⟨hx, hb, hml, hown, hts⟩ (w5_glass l g s.heap.size sa h ox om R DR DI DL DA Rg Ig Lg Ag Ro I A (Xr xs (i + 1)) hL (Xr_i _ _)) (cwV 1 hts gL_law_X5_glass rfl rfl rfl (by decide +kernel) ⟨Nat.le_of_ble_eq_true rfl, Nat.le_of_ble_eq_true rfl⟩) hk hW hS hL.1.1 rfl rfl hl.1 (Nat.le_of_ble_eq_true rfl) dL_law_610 (show cC + pC DL Lg + 0 ≤ 600000 ∧ cS + pS DL Lg + 0 ≤ 7302250 from ?_) (fun r9 h9 H locs hp hW hS => ?_)
  · omega
  obtain ⟨z, Ig', Ag', rfl, hL, h5⟩ := hp
  refine W.widen (k := cC + pC DL Lg) (n := cS + pS DL Lg) (Nat.le_refl _) (Nat.le_refl _) ?_
  refine W.eq (g2 := F0 m 613 ls [.int (J z)]) rfl ?_
  have hf4 := f3 hL
  refine lv_aload_n hx hb dL_law_613 rfl (lv_at hl 2 rfl) ?_
  refine lw_arg hx hb hX hbl hS hi hl 1 (by decide) dL_law_614 dL_law_615 dL_law_616 dL_law_617 dL_law_618 ?_
  refine g_callV (As := [.int (J (Xr xs (i + 1)))]) (rest := [.int (J z)]) (b := om) (ci := 6) (C := RX6) (T := TX6) (N := 28) ⟨hx, hb, hml, hown, hts⟩ (w6_glass l g s.heap.size sa h9 ox om R DR DI DL DA Rg Ig' Lg Ag' Ro I A (Xr xs (i + 1)) hL (Xr_i _ _)) (cwV 1 hts gL_law_X6_glass rfl rfl rfl (by decide +kernel) ⟨Nat.le_of_ble_eq_true rfl, Nat.le_of_ble_eq_true rfl⟩) hk hW hS hL.2.2.2.2.2.2.1.1 rfl rfl hl.1 (Nat.le_of_ble_eq_true rfl) dL_law_619 (show cC + pC DL Lg + 0 ≤ 600000 ∧ cS + pS DL Lg + 0 ≤ 7302250 from ?_) (fun r8 h8 H locs hp hW hS => ?_)
  · omega
  obtain ⟨z2, I', A', rfl, hL, h6⟩ := hp
  refine W.widen (k := cC + pC DL Lg) (n := cS + pS DL Lg) (Nat.le_refl _) (Nat.le_refl _) ?_
  refine W.eq (g2 := F0 m 622 ls [.int (J z2), .int (J z)]) rfl ?_
  obtain ⟨hz, hM⟩ := pr_glass hM h5 h6
  refine lw_same hx hb hz dL_law_622 (by decide) ?_
  exact hK _ _ _ _ _ _ _ _ _ _ _ _ _ _ hL hM hW hS hl
set_option maxHeartbeats 4000000 in
set_option maxRecDepth 100000 in
theorem cs_smash (C0 : lw_At p s m meth c b L xs) (hk : KK g s.heap.size sa s) (hcC : cC ≤ 400000) (hcS : cS ≤ 6000000) (hi : 0 ≤ i ∧ i + 4 ≤ L ∧ L ≤ 2048) (hK : K733 p l e s m below meth c b g ox om R Ro cC cS i) (hL : LX g h ox om R DR DI DL DA Rg Ig Lg Ag Ro I A) (hM : SM DI DA Ig Ag I A) (hW : Wd g s.heap.size h H) (hS : va_S (Ab s.heap.size) s.heap H locs) (hl : lv_has ls 4 (LVs b ox om i)) : W p l e room_1 s m #[Value.ref b] below meth c H locs (cC + pC DL Lg) (cS + pS DL Lg) (lw_Z below #[Value.ref b] s) (F0 m 627 ls []) := by
  obtain ⟨hx, hb, hr, hml, hown, hts0, hX, hbl, hlocks, hgv⟩ := id C0
  have hts : ∀ w ∈ wsL_law, w.before #[Value.ref b] s = true := fun w h => hts0 w (wsL_law_in w h)
  have hf3 := f3 hL
  refine lv_aload_n hx hb dL_law_627 rfl (lv_at hl 1 rfl) ?_
  refine g_callV (As := []) (rest := []) (b := ox) (ci := 5) (C := RX5) (T := TX5) (N := 3) ⟨hx, hb, hml, hown, hts⟩ (w5_smash l g s.heap.size sa h ox om R DR DI DL DA Rg Ig Lg Ag Ro I A  hL ) (cwV 0 hts gL_law_X5_smash rfl rfl rfl (by decide +kernel) ⟨Nat.le_of_ble_eq_true rfl, Nat.le_of_ble_eq_true rfl⟩) hk hW hS hL.1.1 rfl rfl hl.1 (Nat.le_of_ble_eq_true rfl) dL_law_628 (show cC + pC DL Lg + 0 ≤ 600000 ∧ cS + pS DL Lg + 0 ≤ 7302250 from ?_) (fun r9 h9 H locs hp hW hS => ?_)
  · omega
  obtain ⟨z, Ig', Ag', rfl, hL, h5⟩ := hp
  refine W.widen (k := cC + pC DL Lg) (n := cS + pS DL Lg) (Nat.le_refl _) (Nat.le_refl _) ?_
  refine W.eq (g2 := F0 m 631 ls [.int (J z)]) rfl ?_
  have hf4 := f3 hL
  refine lv_aload_n hx hb dL_law_631 rfl (lv_at hl 2 rfl) ?_
  refine g_callV (As := []) (rest := [.int (J z)]) (b := om) (ci := 6) (C := RX6) (T := TX6) (N := 28) ⟨hx, hb, hml, hown, hts⟩ (w6_smash l g s.heap.size sa h9 ox om R DR DI DL DA Rg Ig' Lg Ag' Ro I A  hL ) (cwV 0 hts gL_law_X6_smash rfl rfl rfl (by decide +kernel) ⟨Nat.le_of_ble_eq_true rfl, Nat.le_of_ble_eq_true rfl⟩) hk hW hS hL.2.2.2.2.2.2.1.1 rfl rfl hl.1 (Nat.le_of_ble_eq_true rfl) dL_law_632 (show cC + pC DL Lg + 0 ≤ 600000 ∧ cS + pS DL Lg + 0 ≤ 7302250 from ?_) (fun r8 h8 H locs hp hW hS => ?_)
  · omega
  obtain ⟨z2, I', A', rfl, hL, h6⟩ := hp
  refine W.widen (k := cC + pC DL Lg) (n := cS + pS DL Lg) (Nat.le_refl _) (Nat.le_refl _) ?_
  refine W.eq (g2 := F0 m 635 ls [.int (J z2), .int (J z)]) rfl ?_
  obtain ⟨hz, hM⟩ := pr_smash hM h5 h6
  refine lw_same hx hb hz dL_law_635 (by decide) ?_
  exact hK _ _ _ _ _ _ _ _ _ _ _ _ _ _ hL hM hW hS hl
set_option maxHeartbeats 4000000 in
set_option maxRecDepth 100000 in
theorem cs_await (C0 : lw_At p s m meth c b L xs) (hk : KK g s.heap.size sa s) (hcC : cC ≤ 400000) (hcS : cS ≤ 6000000) (hi : 0 ≤ i ∧ i + 4 ≤ L ∧ L ≤ 2048) (hK : K733 p l e s m below meth c b g ox om R Ro cC cS i) (hL : LX g h ox om R DR DI DL DA Rg Ig Lg Ag Ro I A) (hM : SM DI DA Ig Ag I A) (hW : Wd g s.heap.size h H) (hS : va_S (Ab s.heap.size) s.heap H locs) (hl : lv_has ls 4 (LVs b ox om i)) : W p l e room_1 s m #[Value.ref b] below meth c H locs (cC + pC DL Lg) (cS + pS DL Lg) (lw_Z below #[Value.ref b] s) (F0 m 640 ls []) := by
  obtain ⟨hx, hb, hr, hml, hown, hts0, hX, hbl, hlocks, hgv⟩ := id C0
  have hts : ∀ w ∈ wsL_law, w.before #[Value.ref b] s = true := fun w h => hts0 w (wsL_law_in w h)
  have hf3 := f3 hL
  have hL0 := hL
  refine lv_aload_n hx hb dL_law_640 rfl (lv_at hl 1 rfl) ?_
  refine lw_arg hx hb hX hbl hS hi hl 1 (by decide) dL_law_641 dL_law_642 dL_law_643 dL_law_644 dL_law_645 ?_
  refine g_callV (As := [.int (J (Xr xs (i + 1)))]) (rest := []) (b := ox) (ci := 5) (C := RX5) (T := TX5) (N := 3) ⟨hx, hb, hml, hown, hts⟩ (w5_await l g s.heap.size sa h ox om R DR DI DL DA Rg Ig Lg Ag Ro I A (Xr xs (i + 1)) hL (Xr_i _ _)) (cwV 1 hts gL_law_X5_await rfl rfl rfl (by decide +kernel) ⟨Nat.le_of_ble_eq_true rfl, Nat.le_of_ble_eq_true rfl⟩) hk hW hS hL.1.1 rfl rfl hl.1 (Nat.le_of_ble_eq_true rfl) dL_law_646 (show cC + pC DL Lg + (if (1 ≤ Xr xs (i + 1) ∧ Xr xs (i + 1) ≤ 40) ∧ Lg 5 < k_states (Ig 0) then 19 else 0) ≤ 600000 ∧ cS + pS DL Lg + (if (1 ≤ Xr xs (i + 1) ∧ Xr xs (i + 1) ≤ 40) ∧ Lg 5 < k_states (Ig 0) then 25 * (k_states (Ig 0)).toNat + 13 else 0) ≤ 7302250 from ?_) (fun r9 h9 H locs hp hW hS => ?_)
  · exact ⟨by have h8 := ite_le ((1 ≤ Xr xs (i + 1) ∧ Xr xs (i + 1) ≤ 40) ∧ Lg 5 < k_states (Ig 0)) (19); omega, by have h8 := ite_le ((1 ≤ Xr xs (i + 1) ∧ Xr xs (i + 1) ≤ 40) ∧ Lg 5 < k_states (Ig 0)) (25 * (k_states (Ig 0)).toNat + 13); omega⟩
  obtain ⟨z, Rg', Ig', Lg', Ag', rfl, hL, ed1, ed2, hpc, h5⟩ := hp
  refine W.widen (k := cC + pC DL Lg') (n := cS + pS DL Lg') (show cC + pC DL Lg + (if (1 ≤ Xr xs (i + 1) ∧ Xr xs (i + 1) ≤ 40) ∧ Lg 5 < k_states (Ig 0) then 19 else 0) ≤ _ by have h8 := hpc.1; omega) (show cS + pS DL Lg + (if (1 ≤ Xr xs (i + 1) ∧ Xr xs (i + 1) ≤ 40) ∧ Lg 5 < k_states (Ig 0) then 25 * (k_states (Ig 0)).toNat + 13 else 0) ≤ _ by have h8 := hpc.2; omega) ?_
  refine W.eq (g2 := F0 m 649 ls [.int (J z)]) rfl ?_
  have hf4 := f3 hL
  refine lv_aload_n hx hb dL_law_649 rfl (lv_at hl 2 rfl) ?_
  refine lw_arg hx hb hX hbl hS hi hl 1 (by decide) dL_law_650 dL_law_651 dL_law_652 dL_law_653 dL_law_654 ?_
  refine g_callV (As := [.int (J (Xr xs (i + 1)))]) (rest := [.int (J z)]) (b := om) (ci := 6) (C := RX6) (T := TX6) (N := 28) ⟨hx, hb, hml, hown, hts⟩ (w6_await l g s.heap.size sa h9 ox om R DR DI DL DA Rg' Ig' Lg' Ag' Ro I A (Xr xs (i + 1)) hL (Xr_i _ _)) (cwV 1 hts gL_law_X6_await rfl rfl rfl (by decide +kernel) ⟨Nat.le_of_ble_eq_true rfl, Nat.le_of_ble_eq_true rfl⟩) hk hW hS hL.2.2.2.2.2.2.1.1 rfl rfl hl.1 (Nat.le_of_ble_eq_true rfl) dL_law_655 (show cC + pC DL Lg' + 0 ≤ 600000 ∧ cS + pS DL Lg' + 0 ≤ 7302250 from ?_) (fun r8 h8 H locs hp hW hS => ?_)
  · omega
  obtain ⟨z2, I', A', rfl, hL, h6⟩ := hp
  refine W.widen (k := cC + pC DL Lg') (n := cS + pS DL Lg') (Nat.le_refl _) (Nat.le_refl _) ?_
  refine W.eq (g2 := F0 m 658 ls [.int (J z2), .int (J z)]) rfl ?_
  obtain ⟨hR, h6⟩ := h6
  obtain ⟨l1, l2, l3, l4, l5, l6, l7, l8, l9, l10, l11, l12⟩ := id hL0
  have hz : z = z2 := pr_q Iff.rfl h5 h6 (fun q1 q2 => by obtain ⟨t, q1⟩ := q1; obtain ⟨t2, q2⟩ := q2; exact (WT_SM hM l6 q1 q2).1)
  have hM : SM DI DA Ig' Ag' I' A' := by
    have hM := SM_rs hM hR
    unfold SM at hM ⊢
    rw [ed1, ed2]
    exact hM
  refine lw_same hx hb hz dL_law_658 (by decide) ?_
  exact hK _ _ _ _ _ _ _ _ _ _ _ _ _ _ hL hM hW hS hl
set_option maxHeartbeats 4000000 in
set_option maxRecDepth 100000 in
theorem cs_turns (C0 : lw_At p s m meth c b L xs) (hk : KK g s.heap.size sa s) (hcC : cC ≤ 400000) (hcS : cS ≤ 6000000) (hi : 0 ≤ i ∧ i + 4 ≤ L ∧ L ≤ 2048) (hK : K733 p l e s m below meth c b g ox om R Ro cC cS i) (hL : LX g h ox om R DR DI DL DA Rg Ig Lg Ag Ro I A) (hM : SM DI DA Ig Ag I A) (hW : Wd g s.heap.size h H) (hS : va_S (Ab s.heap.size) s.heap H locs) (hl : lv_has ls 4 (LVs b ox om i)) : W p l e room_1 s m #[Value.ref b] below meth c H locs (cC + pC DL Lg) (cS + pS DL Lg) (lw_Z below #[Value.ref b] s) (F0 m 663 ls []) := by
  obtain ⟨hx, hb, hr, hml, hown, hts0, hX, hbl, hlocks, hgv⟩ := id C0
  have hts : ∀ w ∈ wsL_law, w.before #[Value.ref b] s = true := fun w h => hts0 w (wsL_law_in w h)
  have hf3 := f3 hL
  have hL0 := hL
  refine lv_aload_n hx hb dL_law_663 rfl (lv_at hl 1 rfl) ?_
  refine lw_arg hx hb hX hbl hS hi hl 1 (by decide) dL_law_664 dL_law_665 dL_law_666 dL_law_667 dL_law_668 ?_
  refine g_callV (As := [.int (J (Xr xs (i + 1)))]) (rest := []) (b := ox) (ci := 5) (C := RX5) (T := TX5) (N := 3) ⟨hx, hb, hml, hown, hts⟩ (w5_turns l g s.heap.size sa h ox om R DR DI DL DA Rg Ig Lg Ag Ro I A (Xr xs (i + 1)) hL (Xr_i _ _)) (cwV 1 hts gL_law_X5_turns rfl rfl rfl (by decide +kernel) ⟨Nat.le_of_ble_eq_true rfl, Nat.le_of_ble_eq_true rfl⟩) hk hW hS hL.1.1 rfl rfl hl.1 (Nat.le_of_ble_eq_true rfl) dL_law_669 (show cC + pC DL Lg + (if (1 ≤ Xr xs (i + 1) ∧ Xr xs (i + 1) ≤ 40) ∧ Lg 5 < k_states (Ig 0) then 19 else 0) ≤ 600000 ∧ cS + pS DL Lg + (if (1 ≤ Xr xs (i + 1) ∧ Xr xs (i + 1) ≤ 40) ∧ Lg 5 < k_states (Ig 0) then 25 * (k_states (Ig 0)).toNat + 13 else 0) ≤ 7302250 from ?_) (fun r9 h9 H locs hp hW hS => ?_)
  · exact ⟨by have h8 := ite_le ((1 ≤ Xr xs (i + 1) ∧ Xr xs (i + 1) ≤ 40) ∧ Lg 5 < k_states (Ig 0)) (19); omega, by have h8 := ite_le ((1 ≤ Xr xs (i + 1) ∧ Xr xs (i + 1) ≤ 40) ∧ Lg 5 < k_states (Ig 0)) (25 * (k_states (Ig 0)).toNat + 13); omega⟩
  obtain ⟨z, Rg', Ig', Lg', Ag', rfl, hL, ed1, ed2, hpc, h5⟩ := hp
  refine W.widen (k := cC + pC DL Lg') (n := cS + pS DL Lg') (show cC + pC DL Lg + (if (1 ≤ Xr xs (i + 1) ∧ Xr xs (i + 1) ≤ 40) ∧ Lg 5 < k_states (Ig 0) then 19 else 0) ≤ _ by have h8 := hpc.1; omega) (show cS + pS DL Lg + (if (1 ≤ Xr xs (i + 1) ∧ Xr xs (i + 1) ≤ 40) ∧ Lg 5 < k_states (Ig 0) then 25 * (k_states (Ig 0)).toNat + 13 else 0) ≤ _ by have h8 := hpc.2; omega) ?_
  refine W.eq (g2 := F0 m 672 ls [.int (J z)]) rfl ?_
  have hf4 := f3 hL
  refine lv_aload_n hx hb dL_law_672 rfl (lv_at hl 2 rfl) ?_
  refine lw_arg hx hb hX hbl hS hi hl 1 (by decide) dL_law_673 dL_law_674 dL_law_675 dL_law_676 dL_law_677 ?_
  refine g_callV (As := [.int (J (Xr xs (i + 1)))]) (rest := [.int (J z)]) (b := om) (ci := 6) (C := RX6) (T := TX6) (N := 28) ⟨hx, hb, hml, hown, hts⟩ (w6_turns l g s.heap.size sa h9 ox om R DR DI DL DA Rg' Ig' Lg' Ag' Ro I A (Xr xs (i + 1)) hL (Xr_i _ _)) (cwV 1 hts gL_law_X6_turns rfl rfl rfl (by decide +kernel) ⟨Nat.le_of_ble_eq_true rfl, Nat.le_of_ble_eq_true rfl⟩) hk hW hS hL.2.2.2.2.2.2.1.1 rfl rfl hl.1 (Nat.le_of_ble_eq_true rfl) dL_law_678 (show cC + pC DL Lg' + 0 ≤ 600000 ∧ cS + pS DL Lg' + 0 ≤ 7302250 from ?_) (fun r8 h8 H locs hp hW hS => ?_)
  · omega
  obtain ⟨z2, I', A', rfl, hL, h6⟩ := hp
  refine W.widen (k := cC + pC DL Lg') (n := cS + pS DL Lg') (Nat.le_refl _) (Nat.le_refl _) ?_
  refine W.eq (g2 := F0 m 681 ls [.int (J z2), .int (J z)]) rfl ?_
  obtain ⟨hR, h6⟩ := h6
  obtain ⟨l1, l2, l3, l4, l5, l6, l7, l8, l9, l10, l11, l12⟩ := id hL0
  have hz : z = z2 := pr_q Iff.rfl h5 h6 (fun q1 q2 => by obtain ⟨t, q1⟩ := q1; obtain ⟨t2, q2⟩ := q2; exact (WT_SM hM l6 q1 q2).2)
  have hM : SM DI DA Ig' Ag' I' A' := by
    have hM := SM_rs hM hR
    unfold SM at hM ⊢
    rw [ed1, ed2]
    exact hM
  refine lw_same hx hb hz dL_law_681 (by decide) ?_
  exact hK _ _ _ _ _ _ _ _ _ _ _ _ _ _ hL hM hW hS hl
set_option maxHeartbeats 4000000 in
set_option maxRecDepth 100000 in
theorem cs_spans (C0 : lw_At p s m meth c b L xs) (hk : KK g s.heap.size sa s) (hcC : cC ≤ 400000) (hcS : cS ≤ 6000000) (hi : 0 ≤ i ∧ i + 4 ≤ L ∧ L ≤ 2048) (hK : K733 p l e s m below meth c b g ox om R Ro cC cS i) (hL : LX g h ox om R DR DI DL DA Rg Ig Lg Ag Ro I A) (hM : SM DI DA Ig Ag I A) (hW : Wd g s.heap.size h H) (hS : va_S (Ab s.heap.size) s.heap H locs) (hl : lv_has ls 4 (LVs b ox om i)) : W p l e room_1 s m #[Value.ref b] below meth c H locs (cC + pC DL Lg) (cS + pS DL Lg) (lw_Z below #[Value.ref b] s) (F0 m 686 ls []) := by
  obtain ⟨hx, hb, hr, hml, hown, hts0, hX, hbl, hlocks, hgv⟩ := id C0
  have hts : ∀ w ∈ wsL_law, w.before #[Value.ref b] s = true := fun w h => hts0 w (wsL_law_in w h)
  have hf3 := f3 hL
  have hL0 := hL
  refine lv_aload_n hx hb dL_law_686 rfl (lv_at hl 1 rfl) ?_
  refine lw_arg hx hb hX hbl hS hi hl 1 (by decide) dL_law_687 dL_law_688 dL_law_689 dL_law_690 dL_law_691 ?_
  refine g_callV (As := [.int (J (Xr xs (i + 1)))]) (rest := []) (b := ox) (ci := 5) (C := RX5) (T := TX5) (N := 3) ⟨hx, hb, hml, hown, hts⟩ (w5_spans l g s.heap.size sa h ox om R DR DI DL DA Rg Ig Lg Ag Ro I A (Xr xs (i + 1)) hL (Xr_i _ _)) (cwV 1 hts gL_law_X5_spans rfl rfl rfl (by decide +kernel) ⟨Nat.le_of_ble_eq_true rfl, Nat.le_of_ble_eq_true rfl⟩) hk hW hS hL.1.1 rfl rfl hl.1 (Nat.le_of_ble_eq_true rfl) dL_law_692 (show cC + pC DL Lg + (if (0 ≤ Xr xs (i + 1) ∧ Xr xs (i + 1) ≤ 60) ∧ Lg 5 < k_states (Ig 0) then 19 else 0) ≤ 600000 ∧ cS + pS DL Lg + (if (0 ≤ Xr xs (i + 1) ∧ Xr xs (i + 1) ≤ 60) ∧ Lg 5 < k_states (Ig 0) then 25 * (k_states (Ig 0)).toNat + 13 else 0) ≤ 7302250 from ?_) (fun r9 h9 H locs hp hW hS => ?_)
  · exact ⟨by have h8 := ite_le ((0 ≤ Xr xs (i + 1) ∧ Xr xs (i + 1) ≤ 60) ∧ Lg 5 < k_states (Ig 0)) (19); omega, by have h8 := ite_le ((0 ≤ Xr xs (i + 1) ∧ Xr xs (i + 1) ≤ 60) ∧ Lg 5 < k_states (Ig 0)) (25 * (k_states (Ig 0)).toNat + 13); omega⟩
  obtain ⟨z, Rg', Ig', Lg', Ag', rfl, hL, ed1, ed2, hpc, h5⟩ := hp
  refine W.widen (k := cC + pC DL Lg') (n := cS + pS DL Lg') (show cC + pC DL Lg + (if (0 ≤ Xr xs (i + 1) ∧ Xr xs (i + 1) ≤ 60) ∧ Lg 5 < k_states (Ig 0) then 19 else 0) ≤ _ by have h8 := hpc.1; omega) (show cS + pS DL Lg + (if (0 ≤ Xr xs (i + 1) ∧ Xr xs (i + 1) ≤ 60) ∧ Lg 5 < k_states (Ig 0) then 25 * (k_states (Ig 0)).toNat + 13 else 0) ≤ _ by have h8 := hpc.2; omega) ?_
  refine W.eq (g2 := F0 m 695 ls [.long (JL z)]) rfl ?_
  have hf4 := f3 hL
  refine lv_aload_n hx hb dL_law_695 rfl (lv_at hl 2 rfl) ?_
  refine lw_arg hx hb hX hbl hS hi hl 1 (by decide) dL_law_696 dL_law_697 dL_law_698 dL_law_699 dL_law_700 ?_
  refine g_callV (As := [.int (J (Xr xs (i + 1)))]) (rest := [.long (JL z)]) (b := om) (ci := 6) (C := RX6) (T := TX6) (N := 28) ⟨hx, hb, hml, hown, hts⟩ (w6_spans l g s.heap.size sa h9 ox om R DR DI DL DA Rg' Ig' Lg' Ag' Ro I A (Xr xs (i + 1)) hL (Xr_i _ _)) (cwV 1 hts gL_law_X6_spans rfl rfl rfl (by decide +kernel) ⟨Nat.le_of_ble_eq_true rfl, Nat.le_of_ble_eq_true rfl⟩) hk hW hS hL.2.2.2.2.2.2.1.1 rfl rfl hl.1 (Nat.le_of_ble_eq_true rfl) dL_law_701 (show cC + pC DL Lg' + 0 ≤ 600000 ∧ cS + pS DL Lg' + 0 ≤ 7302250 from ?_) (fun r8 h8 H locs hp hW hS => ?_)
  · omega
  obtain ⟨z2, I', A', rfl, hL, h6⟩ := hp
  refine W.widen (k := cC + pC DL Lg') (n := cS + pS DL Lg') (Nat.le_refl _) (Nat.le_refl _) ?_
  refine W.eq (g2 := F0 m 704 ls [.long (JL z2), .long (JL z)]) rfl ?_
  obtain ⟨hR, h6⟩ := h6
  obtain ⟨l1, l2, l3, l4, l5, l6, l7, l8, l9, l10, l11, l12⟩ := id hL0
  have hz : z = z2 := pr_q Iff.rfl h5 h6 (fun q1 q2 => by obtain ⟨f, q1, e1⟩ := q1; obtain ⟨f2, q2, e2⟩ := q2; rw [e1, e2]; exact sB_eq hM l6 q1 q2)
  have hM : SM DI DA Ig' Ag' I' A' := by
    have hM := SM_rs hM hR
    unfold SM at hM ⊢
    rw [ed1, ed2]
    exact hM
  refine lw_sameL hx hb hz dL_law_704 dL_law_705 (by decide) ?_
  exact hK _ _ _ _ _ _ _ _ _ _ _ _ _ _ hL hM hW hS hl
set_option maxHeartbeats 4000000 in
set_option maxRecDepth 100000 in
theorem cs_count (C0 : lw_At p s m meth c b L xs) (hk : KK g s.heap.size sa s) (hcC : cC ≤ 400000) (hcS : cS ≤ 6000000) (hi : 0 ≤ i ∧ i + 4 ≤ L ∧ L ≤ 2048) (hK : K733 p l e s m below meth c b g ox om R Ro cC cS i) (hL : LX g h ox om R DR DI DL DA Rg Ig Lg Ag Ro I A) (hM : SM DI DA Ig Ag I A) (hW : Wd g s.heap.size h H) (hS : va_S (Ab s.heap.size) s.heap H locs) (hl : lv_has ls 4 (LVs b ox om i)) : W p l e room_1 s m #[Value.ref b] below meth c H locs (cC + pC DL Lg) (cS + pS DL Lg) (lw_Z below #[Value.ref b] s) (F0 m 710 ls []) := by
  obtain ⟨hx, hb, hr, hml, hown, hts0, hX, hbl, hlocks, hgv⟩ := id C0
  have hts : ∀ w ∈ wsL_law, w.before #[Value.ref b] s = true := fun w h => hts0 w (wsL_law_in w h)
  have hf3 := f3 hL
  refine lv_aload_n hx hb dL_law_710 rfl (lv_at hl 1 rfl) ?_
  refine lw_arg hx hb hX hbl hS hi hl 1 (by decide) dL_law_711 dL_law_712 dL_law_713 dL_law_714 dL_law_715 ?_
  refine g_callV (As := [.int (J (Xr xs (i + 1)))]) (rest := []) (b := ox) (ci := 5) (C := RX5) (T := TX5) (N := 3) ⟨hx, hb, hml, hown, hts⟩ (w5_count l g s.heap.size sa h ox om R DR DI DL DA Rg Ig Lg Ag Ro I A (Xr xs (i + 1)) hL (Xr_i _ _)) (cwV 1 hts gL_law_X5_count rfl rfl rfl (by decide +kernel) ⟨Nat.le_of_ble_eq_true rfl, Nat.le_of_ble_eq_true rfl⟩) hk hW hS hL.1.1 rfl rfl hl.1 (Nat.le_of_ble_eq_true rfl) dL_law_716 (show cC + pC DL Lg + 0 ≤ 600000 ∧ cS + pS DL Lg + 0 ≤ 7302250 from ?_) (fun r9 h9 H locs hp hW hS => ?_)
  · omega
  obtain ⟨z, rfl, hL, h5⟩ := hp
  refine W.widen (k := cC + pC DL Lg) (n := cS + pS DL Lg) (Nat.le_refl _) (Nat.le_refl _) ?_
  refine W.eq (g2 := F0 m 719 ls [.int (J z)]) rfl ?_
  have hf4 := f3 hL
  refine lv_aload_n hx hb dL_law_719 rfl (lv_at hl 2 rfl) ?_
  refine lw_arg hx hb hX hbl hS hi hl 1 (by decide) dL_law_720 dL_law_721 dL_law_722 dL_law_723 dL_law_724 ?_
  refine g_callV (As := [.int (J (Xr xs (i + 1)))]) (rest := [.int (J z)]) (b := om) (ci := 6) (C := RX6) (T := TX6) (N := 28) ⟨hx, hb, hml, hown, hts⟩ (w6_count l g s.heap.size sa h9 ox om R DR DI DL DA Rg Ig Lg Ag Ro I A (Xr xs (i + 1)) hL (Xr_i _ _)) (cwV 1 hts gL_law_X6_count rfl rfl rfl (by decide +kernel) ⟨Nat.le_of_ble_eq_true rfl, Nat.le_of_ble_eq_true rfl⟩) hk hW hS hL.2.2.2.2.2.2.1.1 rfl rfl hl.1 (Nat.le_of_ble_eq_true rfl) dL_law_725 (show cC + pC DL Lg + 0 ≤ 600000 ∧ cS + pS DL Lg + 0 ≤ 7302250 from ?_) (fun r8 h8 H locs hp hW hS => ?_)
  · omega
  obtain ⟨z2, I', A', rfl, hL, h6⟩ := hp
  refine W.widen (k := cC + pC DL Lg) (n := cS + pS DL Lg) (Nat.le_refl _) (Nat.le_refl _) ?_
  refine W.eq (g2 := F0 m 728 ls [.int (J z2), .int (J z)]) rfl ?_
  obtain ⟨hR, h6⟩ := h6
  have hz : z = z2 := by rw [h5, h6]; exact pr_count hM _
  have hM := SM_rs hM hR
  refine lw_same hx hb hz dL_law_728 (by decide) ?_
  exact hK _ _ _ _ _ _ _ _ _ _ _ _ _ _ hL hM hW hS hl
set_option maxHeartbeats 4000000 in
set_option maxRecDepth 100000 in
/-- the law's loop: the class and the reference hold the same at its head -/
theorem law_loop (C0 : lw_At p s m meth c b L xs) (hk : KK g s.heap.size sa s) (hcC : cC ≤ 400000) (hcS : cS ≤ 6000000) (hLL : L ≤ 2048) :
    ∀ (n : Nat) (i : Int), 0 ≤ i → i ≤ 2048 → 2048 - i < n → ∀ (DR : Nat → Nat → Nat) (DI DL : Nat → Nat → Int) (DA : Nat → Nat → Int → Int) (Rg : Nat → Nat) (Ig Lg : Nat → Int) (Ag : Nat → Int → Int) (I : Nat → Int) (A : Nat → Int → Int) (h : Hp) (H : Heap) (locs : List Loc) (ls : Array Slot), LX g h ox om R DR DI DL DA Rg Ig Lg Ag Ro I A → SM DI DA Ig Ag I A → Wd g s.heap.size h H → va_S (Ab s.heap.size) s.heap H locs → lv_has ls 4 (LVs b ox om i) → W p l e room_1 s m #[Value.ref b] below meth c H locs (cC + pC DL Lg) (cS + pS DL Lg) (lw_Z below #[Value.ref b] s) (F0 m 18 ls []) := by
  obtain ⟨hx, hb, hr, hml, hown, hts0, hX, hbl, hlocks, hgv⟩ := id C0
  have hbA : ¬ Ab s.heap.size b := Nat.not_le.mpr hbl
  intro n
  induction n with
  | zero =>
    intro i i0 i1 hmu
    exact absurd hmu (by omega)
  | succ n ih =>
    intro i i0 i1 hmu DR DI DL DA Rg Ig Lg Ag I A h H locs ls hL hM hW hS hl
    have hpb := f3 hL
    refine lv_iload_n hx hb dL_law_18 rfl (lv_at hl 3 rfl) ?_
    refine lv_aload_n hx hb dL_law_19 rfl (lv_at hl 0 rfl) ?_
    refine va_slen hx hb hX hbl hbA hS dL_law_20 ?_
    rw [show Int32.ofNat L = J (L : Int) from nI_J L]
    refine lv_iconst (v := J 4) hx hb dL_law_21 rfl ?_
    refine j_isub hx hb dL_law_22 ?_
    refine j_icmp_gt (x := i) (y := (L : Int) - 4) (tgt := 739) hx hb ⟨by omega, by omega⟩ ⟨by omega, by omega⟩ dL_law_23 (by decide) (fun c_23 => ?_) (fun c_23 => ?_)
    · refine lv_iconst (v := 1) hx hb dL_law_739 (by decide) ?_
      refine va_forget (fun q hq => hS.2.2 q hq) ?_
      refine W.widen (k := 600000) (n := 7302250) (by omega) (by omega) ?_
      exact lw_ret hx hb hr hlocks dL_law_740
    · have hi : 0 ≤ i ∧ i + 4 ≤ L ∧ L ≤ 2048 := ⟨i0, by omega, hLL⟩
      have hK : K733 p l e s m below meth c b g ox om R Ro cC cS i := by
        intro DR DI DL DA Rg Ig Lg Ag I A h H locs ls hL hM hW hS hl
        refine lv_iinc (v := J (i + 4)) (lv' := [(3, .int (J (i + 4))), (0, .ref b), (1, .ref ox), (2, .ref om)]) hx hb dL_law_733 hl (k := 3) rfl (J_inc (by omega)) (by decide) rfl (fun ls hl => ?_)
        refine lv_goto (tgt := 18) hx hb dL_law_736 (by decide) ?_
        exact ih (i + 4) (by omega) (by omega) (by omega) DR DI DL DA Rg Ig Lg Ag I A h H locs ls hL hM hW hS (lv_sub hl [1, 2, 3, 0] rfl)
      refine lv_aload_n hx hb dL_law_26 rfl (lv_at hl 0 rfl) ?_
      refine lv_iload_n hx hb dL_law_27 rfl (lv_at hl 3 rfl) ?_
      have hin : vp_in (J i) L := J_in (i := i) (n := (L : Int)) (by omega) (by omega) (by omega)
      refine va_sld hx hb hX hbl hbA hS hin dL_law_28 ?_
      refine lv_bipush (v := J 31) hx hb dL_law_29 (by decide) ?_
      refine lv_iand hx hb dL_law_31 ?_
      refine lv_topi (fun t et => ?_)
      by_cases q : t.toInt < 0 ∨ 20 < t.toInt
      · refine lv_tableOut (tgt := 733) hx hb dL_law_32 q (by decide) ?_
        exact hK _ _ _ _ _ _ _ _ _ _ _ _ _ _ hL hM hW hS hl
      · have q0 : ¬ t.toInt < 0 := fun z => q (Or.inl z)
        have q1 : ¬ 20 < t.toInt := fun z => q (Or.inr z)
        have q2 : ∃ k : Nat, k ≤ 20 ∧ t.toInt = (k : Int) := ⟨t.toInt.toNat, by omega, by omega⟩
        obtain ⟨k, k1, k2⟩ := q2
        match k, k1, k2 with
        | 0, _, k2 => exact lv_tableIn (off := 100) (tgt := 132) hx hb dL_law_32 q0 q1 (by rw [k2]; rfl) (by decide) (cs_jug C0 hk hcC hcS hi hK hL hM hW hS hl)
        | 1, _, k2 => exact lv_tableIn (off := 133) (tgt := 165) hx hb dL_law_32 q0 q1 (by rw [k2]; rfl) (by decide) (cs_set C0 hk hcC hcS hi hK hL hM hW hS hl)
        | 2, _, k2 => exact lv_tableIn (off := 182) (tgt := 214) hx hb dL_law_32 q0 q1 (by rw [k2]; rfl) (by decide) (cs_put C0 hk hcC hcS hi hK hL hM hW hS hl)
        | 3, _, k2 => exact lv_tableIn (off := 215) (tgt := 247) hx hb dL_law_32 q0 q1 (by rw [k2]; rfl) (by decide) (cs_holds C0 hk hcC hcS hi hK hL hM hW hS hl)
        | 4, _, k2 => exact lv_tableIn (off := 238) (tgt := 270) hx hb dL_law_32 q0 q1 (by rw [k2]; rfl) (by decide) (cs_act C0 hk hcC hcS hi hK hL hM hW hS hl)
        | 5, _, k2 => exact lv_tableIn (off := 261) (tgt := 293) hx hb dL_law_32 q0 q1 (by rw [k2]; rfl) (by decide) (cs_clear C0 hk hcC hcS hi hK hL hM hW hS hl)
        | 6, _, k2 => exact lv_tableIn (off := 274) (tgt := 306) hx hb dL_law_32 q0 q1 (by rw [k2]; rfl) (by decide) (cs_fewest C0 hk hcC hcS hi hK hL hM hW hS hl)
        | 7, _, k2 => exact lv_tableIn (off := 307) (tgt := 339) hx hb dL_law_32 q0 q1 (by rw [k2]; rfl) (by decide) (cs_rows C0 hk hcC hcS hi hK hL hM hW hS hl)
        | 8, _, k2 => exact lv_tableIn (off := 341) (tgt := 373) hx hb dL_law_32 q0 q1 (by rw [k2]; rfl) (by decide) (cs_best C0 hk hcC hcS hi hK hL hM hW hS hl)
        | 9, _, k2 => exact lv_tableIn (off := 384) (tgt := 416) hx hb dL_law_32 q0 q1 (by rw [k2]; rfl) (by decide) (cs_sparing C0 hk hcC hcS hi hK hL hM hW hS hl)
        | 10, _, k2 => exact lv_tableIn (off := 427) (tgt := 459) hx hb dL_law_32 q0 q1 (by rw [k2]; rfl) (by decide) (cs_spare C0 hk hcC hcS hi hK hL hM hW hS hl)
        | 11, _, k2 => exact lv_tableIn (off := 470) (tgt := 502) hx hb dL_law_32 q0 q1 (by rw [k2]; rfl) (by decide) (cs_makes C0 hk hcC hcS hi hK hL hM hW hS hl)
        | 12, _, k2 => exact lv_tableIn (off := 483) (tgt := 515) hx hb dL_law_32 q0 q1 (by rw [k2]; rfl) (by decide) (cs_reaches C0 hk hcC hcS hi hK hL hM hW hS hl)
        | 13, _, k2 => exact lv_tableIn (off := 496) (tgt := 528) hx hb dL_law_32 q0 q1 (by rw [k2]; rfl) (by decide) (cs_road C0 hk hcC hcS hi hK hL hM hW hS hl)
        | 14, _, k2 => exact lv_tableIn (off := 529) (tgt := 561) hx hb dL_law_32 q0 q1 (by rw [k2]; rfl) (by decide) (cs_sizes C0 hk hcC hcS hi hK hL hM hW hS hl)
        | 15, _, k2 => exact lv_tableIn (off := 572) (tgt := 604) hx hb dL_law_32 q0 q1 (by rw [k2]; rfl) (by decide) (cs_glass C0 hk hcC hcS hi hK hL hM hW hS hl)
        | 16, _, k2 => exact lv_tableIn (off := 595) (tgt := 627) hx hb dL_law_32 q0 q1 (by rw [k2]; rfl) (by decide) (cs_smash C0 hk hcC hcS hi hK hL hM hW hS hl)
        | 17, _, k2 => exact lv_tableIn (off := 608) (tgt := 640) hx hb dL_law_32 q0 q1 (by rw [k2]; rfl) (by decide) (cs_await C0 hk hcC hcS hi hK hL hM hW hS hl)
        | 18, _, k2 => exact lv_tableIn (off := 631) (tgt := 663) hx hb dL_law_32 q0 q1 (by rw [k2]; rfl) (by decide) (cs_turns C0 hk hcC hcS hi hK hL hM hW hS hl)
        | 19, _, k2 => exact lv_tableIn (off := 654) (tgt := 686) hx hb dL_law_32 q0 q1 (by rw [k2]; rfl) (by decide) (cs_spans C0 hk hcC hcS hi hK hL hM hW hS hl)
        | 20, _, k2 => exact lv_tableIn (off := 678) (tgt := 710) hx hb dL_law_32 q0 q1 (by rw [k2]; rfl) (by decide) (cs_count C0 hk hcC hcS hi hK hL hM hW hS hl)
        | k + 21, k1, _ => exact absurd k1 (by omega)

end LAWC