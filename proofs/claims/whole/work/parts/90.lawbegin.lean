/-! ===== the law, from its entry ===== -/
theorem Mok_0 : Mok (va_up (va_up i0 3 1) 4 1) a0 := ⟨show (0 : Int) ≤ 0 by omega, show (0 : Int) ≤ 4 by omega, Or.inr rfl, Or.inr rfl, fun i a b => absurd (show i < 0 from b) (by omega), fun i a b => absurd (show i < 0 from b) (by omega), show (0 : Int) ≤ 0 by omega, show (0 : Int) ≤ 3 by omega, fun i a b => absurd (show i < 0 from b) (by omega)⟩
theorem SM_0 : SM DI0 DA0 i0 a0 (va_up (va_up i0 3 1) 4 1) a0 := ⟨rfl, rfl, rfl, fun _ _ _ => rfl, fun _ _ _ => rfl, rfl, fun _ _ _ => rfl⟩
theorem pC_0 : pC DL0 LG0 = 0 := rfl
theorem pS_0 : pS DL0 LG0 = 0 := rfl
set_option maxHeartbeats 4000000 in
set_option maxRecDepth 100000 in
theorem whole_start {p : Program} {e : Env} {s : State} {m : MethodId} {below : List Frame} {meth : Method} {c : Code} (l : Launch) {b L : Nat} {xs : Nat → Int32} (hL : L ≤ 2048) (C0 : lw_At p s m meth c b L xs) : W p l e room_1 s m #[Value.ref b] below meth c s.heap [] 0 0 (lw_Z below #[Value.ref b] s) (entryFrame m ([Value.ref b] : List Value).toArray 4) := by
  obtain ⟨hx, hb, hr, hml, hown, hts0, hX, hbl, hlocks, hgv⟩ := id C0
  obtain ⟨g, sa, hk⟩ := kk_start C0
  have hts : ∀ w ∈ wsL_law, w.before #[Value.ref b] s = true := fun w h => hts0 w (wsL_law_in w h)
  have hfX5 : ∀ w ∈ wsX50, w.before #[Value.ref b] s = true := fun w h => hts0 w (wsX50_in w h)
  have hfX6 : ∀ w ∈ wsX60, w.before #[Value.ref b] s = true := fun w h => hts0 w (wsX60_in w h)
  have hS : va_S (Ab s.heap.size) s.heap s.heap [] := va_S.rf
  have hW : Wd g s.heap.size (fun _ => none) s.heap := fun q e h => by cases h
  have hl := lv_entry ([.ref b]) (n := 4) (Nat.le_of_ble_eq_true rfl)
  rw [lg_entry_eq]
  generalize (lg_sl ([.ref b]) ++ List.replicate (4 - (lg_sl ([.ref b])).length) Slot.unset).toArray = ls at hl ⊢
  have hl : lv_has ls 4 [(0, .ref b)] := hl
  refine g_new (ci := 5) (C := RX5) (T := TX5) (N := 3) (fs := [.null, .null, .null]) hx hb hfX5 (fun _ h9 => h9) tyX5 tyX5_ok hown (hts (.classLink RL 7 RX5) (by decide +kernel)) (hts (.instantiable RX5 3) (by decide +kernel)) (hts (.initialized RX5) (by decide +kernel)) hk hW hS rfl (by intro j hj; match j, hj with | 0, _ => rfl | 1, _ => rfl | 2, _ => rfl) (Nat.le_of_ble_eq_true rfl) (Nat.le_of_ble_eq_true rfl) dL_law_0 (fun ox H hq5 hW hS => ?_)
  refine W.eq (g2 := F0 m 3 ls [.ref ox]) rfl ?_
  have ho5 : uh (fun _ => none) ox (.inr (5, [.null, .null, .null])) ox = some (.inr (5, [.null, .null, .null])) := uh_same _ _ _
  generalize uh (fun _ => none) ox (.inr (5, [.null, .null, .null])) = h at hW ho5
  refine lv_dup hx hb dL_law_3 rfl ?_
  refine g_callI (As := []) (rest := [.ref ox]) (b := ox) ⟨hx, hb, hml, hown, hts⟩ (i_top l g s.heap.size sa h ox ho5) (cwI 0 hts gL_law_X5_init rfl rfl rfl (hts (.initialized RX5) (by decide +kernel)) (hts (.methodLink RL 9 yX5_init) (by decide +kernel)) (hts (.instanceMethod yX5_init) (by decide +kernel)) rfl (by decide +kernel) ⟨Nat.le_of_ble_eq_true rfl, Nat.le_of_ble_eq_true rfl⟩) hk hW hS rfl hl.1 (Nat.le_of_ble_eq_true rfl) dL_law_4 ⟨Nat.le_of_ble_eq_true rfl, Nat.le_of_ble_eq_true rfl⟩ (fun r9 h9 H locs hp hW hS => ?_)
  obtain ⟨rfl, hF5, R, DR, Rg, t1, t2, t3, t4, t5, t6, t7, t8⟩ := hp
  refine W.widen (k := 32) (n := 157) (Nat.le_refl _) (Nat.le_refl _) ?_
  refine W.eq (g2 := F0 m 7 ls [.ref ox]) rfl ?_
  refine lv_astore_n (lv' := [(1, .ref ox), (0, .ref b)]) hx hb dL_law_7 rfl hl (by decide) rfl (fun ls hl => ?_)
  refine g_new (ci := 6) (C := RX6) (T := TX6) (N := 28) (fs := [.int (J 0), .null, .null, .int (J 0), .int (J 0), .int (J 0), .null, .int (J 0), .null, .null, .int (J 0), .int (J 0), .int (J 0), .int (J 0), .null, .null, .null, .int (J 0), .null, .null, .null, .int (J 0), .int (J 0), .null, .null, .null, .null, .int (J 0)]) hx hb hfX6 (fun _ h9 => h9) tyX6 tyX6_ok hown (hts (.classLink RL 10 RX6) (by decide +kernel)) (hts (.instantiable RX6 28) (by decide +kernel)) (hts (.initialized RX6) (by decide +kernel)) hk hW hS rfl (by intro j hj; match j, hj with | 0, _ => rfl | 1, _ => rfl | 2, _ => rfl | 3, _ => rfl | 4, _ => rfl | 5, _ => rfl | 6, _ => rfl | 7, _ => rfl | 8, _ => rfl | 9, _ => rfl | 10, _ => rfl | 11, _ => rfl | 12, _ => rfl | 13, _ => rfl | 14, _ => rfl | 15, _ => rfl | 16, _ => rfl | 17, _ => rfl | 18, _ => rfl | 19, _ => rfl | 20, _ => rfl | 21, _ => rfl | 22, _ => rfl | 23, _ => rfl | 24, _ => rfl | 25, _ => rfl | 26, _ => rfl | 27, _ => rfl | j + 28, hj => exact absurd hj (by omega)) (Nat.le_of_ble_eq_true rfl) (Nat.le_of_ble_eq_true rfl) dL_law_8 (fun om H hq6 hW hS => ?_)
  refine W.eq (g2 := F0 m 11 ls [.ref om]) rfl ?_
  have n5 : ∀ q, FP 3 kd5 ox R q → q ≠ om := fun q w e => t1.ex w (by rw [e]; exact hq6)
  have nS : ∀ q, FS (R 1) DR q → q ≠ om := fun q w e => QB_exS t3 w (by rw [e]; exact hq6)
  have nG : ∀ q, FG (R 2) Rg q → q ≠ om := fun q w e => GB_ex t4 w (by rw [e]; exact hq6)
  have u1 := t1.fr (P := fun z => z = om) (Fr.one (e := .inr (6, [.int (J 0), .null, .null, .int (J 0), .int (J 0), .int (J 0), .null, .int (J 0), .null, .null, .int (J 0), .int (J 0), .int (J 0), .int (J 0), .null, .null, .null, .int (J 0), .null, .null, .null, .int (J 0), .int (J 0), .null, .null, .null, .null, .int (J 0)]))) n5
  have u3 := t3.fr (P := fun z => z = om) (Fr.one (e := .inr (6, [.int (J 0), .null, .null, .int (J 0), .int (J 0), .int (J 0), .null, .int (J 0), .null, .null, .int (J 0), .int (J 0), .int (J 0), .int (J 0), .null, .null, .null, .int (J 0), .null, .null, .null, .int (J 0), .int (J 0), .null, .null, .null, .null, .int (J 0)]))) nS
  have u4 := t4.fr (P := fun z => z = om) (Fr.one (e := .inr (6, [.int (J 0), .null, .null, .int (J 0), .int (J 0), .int (J 0), .null, .int (J 0), .null, .null, .int (J 0), .int (J 0), .int (J 0), .int (J 0), .null, .null, .null, .int (J 0), .null, .null, .null, .int (J 0), .int (J 0), .null, .null, .null, .null, .int (J 0)]))) nG
  have ho6 : uh h9 om (.inr (6, [.int (J 0), .null, .null, .int (J 0), .int (J 0), .int (J 0), .null, .int (J 0), .null, .null, .int (J 0), .int (J 0), .int (J 0), .int (J 0), .null, .null, .null, .int (J 0), .null, .null, .null, .int (J 0), .int (J 0), .null, .null, .null, .null, .int (J 0)])) om = some (.inr (6, [.int (J 0), .null, .null, .int (J 0), .int (J 0), .int (J 0), .null, .int (J 0), .null, .null, .int (J 0), .int (J 0), .int (J 0), .int (J 0), .null, .null, .null, .int (J 0), .null, .null, .null, .int (J 0), .int (J 0), .null, .null, .null, .null, .int (J 0)])) := uh_same _ _ _
  generalize uh h9 om (.inr (6, [.int (J 0), .null, .null, .int (J 0), .int (J 0), .int (J 0), .null, .int (J 0), .null, .null, .int (J 0), .int (J 0), .int (J 0), .int (J 0), .null, .null, .null, .int (J 0), .null, .null, .null, .int (J 0), .int (J 0), .null, .null, .null, .null, .int (J 0)])) = h2 at hW ho6 u1 u3 u4
  refine lv_dup hx hb dL_law_11 rfl ?_
  refine g_callI (As := []) (rest := [.ref om]) (b := om) ⟨hx, hb, hml, hown, hts⟩ (i_model l g s.heap.size sa h2 om ho6) (cwI 0 hts gL_law_X6_init rfl rfl rfl (hts (.initialized RX6) (by decide +kernel)) (hts (.methodLink RL 12 yX6_init) (by decide +kernel)) (hts (.instanceMethod yX6_init) (by decide +kernel)) rfl (by decide +kernel) ⟨Nat.le_of_ble_eq_true rfl, Nat.le_of_ble_eq_true rfl⟩) hk hW hS rfl hl.1 (Nat.le_of_ble_eq_true rfl) dL_law_12 ⟨Nat.le_of_ble_eq_true rfl, Nat.le_of_ble_eq_true rfl⟩ (fun r9 h3 H locs hp hW hS => ?_)
  obtain ⟨rfl, hF6, Ro, v1, v2⟩ := hp
  refine W.widen (k := 48) (n := 1020782) (Nat.le_refl _) (Nat.le_refl _) ?_
  refine W.eq (g2 := F0 m 15 ls [.ref om]) rfl ?_
  have w1 := u1.fr hF6 n5
  have w3 := u3.fr hF6 nS
  have w4 := u4.fr hF6 nG
  have hap : ∀ q, FP 28 kd6 om Ro q → ¬ FP 3 kd5 ox R q ∧ ¬ FS (R 1) DR q ∧ ¬ FG (R 2) Rg q := fun q w => by
    rcases w with w | ⟨k, k1, k2, w⟩
    · exact ⟨fun z => n5 q z w, fun z => nS q z w, fun z => nG q z w⟩
    · have h7 := v2 k k1 k2
      rw [← w] at h7
      exact ⟨fun z => u1.ex z h7, fun z => QB_exS u3 z h7, fun z => GB_ex u4 z h7⟩
  have hLX : LX g h3 ox om R DR DI0 DL0 DA0 Rg i0 LG0 a0 Ro (va_up (va_up i0 3 1) 4 1) a0 := ⟨w1, t2, w3, QV0, w4, GV0, v1, Mok_0, t5, t6, t7, hap⟩
  refine lv_astore_n (lv' := [(2, .ref om), (1, .ref ox), (0, .ref b)]) hx hb dL_law_15 rfl hl (by decide) rfl (fun ls hl => ?_)
  refine lv_iconst (v := J 0) hx hb dL_law_16 rfl ?_
  refine lv_istore_n (lv' := [(3, .int (J 0)), (2, .ref om), (1, .ref ox), (0, .ref b)]) hx hb dL_law_17 rfl hl (by decide) rfl (fun ls hl => ?_)
  refine W.widen (k := 48 + pC DL0 LG0) (n := 1020782 + pS DL0 LG0) (by omega) (by omega) ?_
  exact law_loop (cC := 48) (cS := 1020782) C0 hk (by decide) (by decide) hL 2049 0 (by decide) (by decide) (by decide) DR DI0 DL0 DA0 Rg i0 LG0 a0 (va_up (va_up i0 3 1) 4 1) a0 h3 H locs ls hLX SM_0 hW hS (lv_sub hl [3, 2, 1, 0] rfl)
