/-! ===== the other methods of the search, over the bundle ===== -/
theorem up_up {α : Type} (f : Nat → α) (k : Nat) (a b : α) : va_up (va_up f k a) k b = va_up f k b := by
  funext j
  by_cases e : j = k <;> simp [va_up, e]
theorem QB_tr {g : GX} {h0 h' : Hp} {os : Nat} {DR : Nat → Nat → Nat} {DI DL : Nat → Nat → Int} {DA : Nat → Nat → Int → Int} (hB : QB g h0 os DR DI DL DA) (hF : Fr (FP 7 kd1 (DR 0 1) (DR 2)) h0 h') {f : Int → Int} (kJ : OB g 1 7 kd1 h' (DR 0 1) (DR 2) (DI 2) L4 (va_up (DA 2) 5 f)) : QB g h' os DR DI DL (va_up DA 2 (va_up (DA 2) 5 f)) ∧ Fr (FS os DR) h0 h' := by
  obtain ⟨hM, hG, hJ, hT, hU, hP, hap⟩ := id hB
  have hd : ∀ i, i < 6 → i ≠ 2 → ∀ q, QF os DR i q → ¬ FP 7 kd1 (DR 0 1) (DR 2) q := fun i hi hne q w z => hap i 2 hi (by omega) hne q w z
  exact ⟨⟨hM.fr hF (hd 0 (by omega) (by omega)), hG.fr hF (hd 1 (by omega) (by omega)), kJ, hT.fr hF (hd 3 (by omega) (by omega)), hU.fr hF (hd 4 (by omega) (by omega)), hP.fr hF (hd 5 (by omega) (by omega)), hap⟩, hF.mono (fun q w => ⟨2, by omega, w⟩)⟩
theorem QE_tr {DI DL : Nat → Nat → Int} {DA : Nat → Nat → Int → Int} (h : QE DI DL DA) {f : Int → Int} (hf : ∀ i, 0 ≤ i → i < 4 → 0 ≤ f i ∧ f i ≤ 10) : QE DI DL (va_up DA 2 (va_up (DA 2) 5 f)) := by
  obtain ⟨⟨f0, a1, a2, a3⟩, b, c⟩ := h
  refine ⟨⟨f, a1, ?_, hf⟩, b, c⟩
  show va_up (DA 2) 5 f = va_up (DA 1) 5 f
  rw [a2, up_up]
theorem QV_tr {DI DL : Nat → Nat → Int} {DA : Nat → Nat → Int → Int} (h : QV DI DL DA) {f : Int → Int} (hf : ∀ i, 0 ≤ i → i < 4 → 0 ≤ f i ∧ f i ≤ 10) : QV DI DL (va_up DA 2 (va_up (DA 2) 5 f)) := by
  obtain ⟨vW, vV, vZ, vF, vA, vT, vS, vg, f6, f7, f8⟩ := h
  exact ⟨vW, vV, vZ, vF, vA, vT, vS, vg, fun w => QE_tr (f6 w) hf, f7, f8⟩
theorem TB_fo {N M : Int} {nx : Int → Int → Int} {ok : Int → Int → Bool} {x0 : Int} {fo lv ca pp : Int → Int} {r z : Int} (h : TB N M nx ok x0 fo lv ca r z pp) (hN : N ≤ 14641) (hM : N ≤ M) : (0 ≤ r ∧ r ≤ M) ∧ ∀ k, 0 ≤ k → k < r → 0 ≤ fo k ∧ fo k < 14641 := by
  have h1 := h.1
  have h2 := h.2.1
  refine ⟨by omega, fun k k0 k1 => ?_⟩
  have := h.2.2.2.2.1 k k0 k1
  omega
theorem TB_lv {N M : Int} {nx : Int → Int → Int} {ok : Int → Int → Bool} {x0 : Int} {fo lv ca pp : Int → Int} {r z : Int} (h : TB N M nx ok x0 fo lv ca r z pp) (hN : N ≤ 14641) : ∀ j, 0 ≤ j → j < M → i32 (lv j) := fun j j0 j1 => by
  rcases h.2.2.2.2.2.1 j j0 j1 with w | ⟨k, k0, k1, k2⟩
  · rw [w]; exact ⟨by decide, by decide⟩
  · have h2 := h.2.1
    have := h.2.2.2.2.1 k k0 k1
    rw [k2] at this
    exact ⟨by omega, by omega⟩
theorem TB_TI {N M : Int} {nx : Int → Int → Int} {ok : Int → Int → Bool} {x0 : Int} {fo lv ca pp : Int → Int} {r : Int} (h : TB N M nx ok x0 fo lv ca r (24 * r) pp) (hN : N ≤ 14641) (hM : N ≤ M) : TI M lv ca := fun x x0' x1 => by
  refine ⟨TB_lv h hN x x0' x1, fun hp => ?_⟩
  rcases h.2.2.2.2.2.1 x x0' x1 with w | ⟨k, k0, k1, k2⟩
  · omega
  · have hk1 : 1 ≤ k := by
      rcases Int.lt_or_le k 1 with q | q
      · have e : k = 0 := by omega
        rw [e, h.2.2.1] at k2
        rw [← k2, h.2.2.2.1] at hp
        omega
      · exact q
    have hq := h.2.2.2.2.2.2.2.1 k hk1 k1
    have hpar := TB_par h hk1 k1
    have hr := h.2.2.2.2.1 (pp k / 24) hpar.1 (by omega)
    rw [k2] at hq
    obtain ⟨-, -, -, -, -, q6, q7⟩ := hq
    rw [q7, show (fo (pp k / 24) * 32 + pp k % 24) / 32 = fo (pp k / 24) by omega]
    omega
set_option maxHeartbeats 4000000 in
theorem q_nearest (l : Launch) (g : GX) (base : Nat) (sa : Nat → Nat) (h0 : Hp) (os : Nat) (DR : Nat → Nat → Nat) (DI DL : Nat → Nat → Int) (DA : Nat → Nat → Int → Int) (i v : Int) (hB : QB g h0 os DR DI DL DA) (hV : QV DI DL DA) (h6 : DI 0 6 = 1) (hi9 : i32 i) (hv9 : i32 v) : MC l g base sa yX2_nearest wsX2_nearest ({ frames := 2, cells := 0, slots := 0, locals := 44 }) ([.ref os, .int (J i), .int (J v)]) h0 (fun r h' => r = some (.int (J (fnd (DA 3 0) (goC (DI 1 0) (DA 1 4) i v) (DI 3 3).toNat 0))) ∧ Fr (FS os DR) h0 h' ∧ ∃ f, QB g h' os DR DI DL (va_up DA 2 (va_up (DA 2) 5 f)) ∧ QV DI DL (va_up DA 2 (va_up (DA 2) 5 f))) := by
  obtain ⟨hM, hG, hJ, hT, hU, hP, hap⟩ := id hB
  obtain ⟨vW, vV, vZ, vF, vA, vT, vS, vg, f6, f7, f8⟩ := id hV
  have hN := Wok_N vW
  obtain ⟨⟨f0, e1, e2, e3⟩, b, pp, c⟩ := f6 h6
  have hw2 : Wok (DI 2) (DA 2) := by rw [e1, e2]; exact Wok_up vW e3
  have hfo := TB_fo c hN.2 b
  refine MC.imp (e_nearest l g base sa h0 os (DR 0) (DI 0) (DL 0) (DA 0) (DR 3) (DI 3) (DL 3) (DA 3) (DR 2) (DI 2) (DA 2) i v hM hT hJ hw2 (hap 0 2 (by omega) (by omega) (by omega)) (hap 3 2 (by omega) (by omega) (by omega)) (by omega) (by have := hfo.1; omega) hfo.2 hi9 hv9) (fun r9 h' hp => ?_)
  obtain ⟨r1, r2, f, r3, r4⟩ := hp
  have hq := QB_tr hB r2 r3
  refine ⟨?_, hq.2, f, hq.1, QV_tr hV r4⟩
  rw [r1, e1, e2]
  rfl
set_option maxHeartbeats 4000000 in
theorem q_allHeld (l : Launch) (g : GX) (base : Nat) (sa : Nat → Nat) (h0 : Hp) (os : Nat) (DR : Nat → Nat → Nat) (DI DL : Nat → Nat → Int) (DA : Nat → Nat → Int → Int) (hB : QB g h0 os DR DI DL DA) (hV : QV DI DL DA) (h6 : DI 0 6 = 1) : MC l g base sa yX2_allHeld wsX2_allHeld ({ frames := 1, cells := 0, slots := 0, locals := 24 }) ([.ref os]) h0 (fun r h' => r = some (.int (J (mqC (DI 1 0) (DA 1 4) (DA 3 0) (DI 3 3).toNat))) ∧ Fr (FS os DR) h0 h' ∧ ∃ f, QB g h' os DR DI DL (va_up DA 2 (va_up (DA 2) 5 f)) ∧ QV DI DL (va_up DA 2 (va_up (DA 2) 5 f))) := by
  obtain ⟨hM, hG, hJ, hT, hU, hP, hap⟩ := id hB
  obtain ⟨vW, vV, vZ, vF, vA, vT, vS, vg, f6, f7, f8⟩ := id hV
  have hN := Wok_N vW
  obtain ⟨⟨f0, e1, e2, e3⟩, b, pp, c⟩ := f6 h6
  have hw2 : Wok (DI 2) (DA 2) := by rw [e1, e2]; exact Wok_up vW e3
  have hfo := TB_fo c hN.2 b
  refine MC.imp (e_allHeld l g base sa h0 os (DR 0) (DI 0) (DL 0) (DA 0) (DR 3) (DI 3) (DL 3) (DA 3) (DR 2) (DI 2) (DA 2) hM hT hJ hw2 (hap 0 2 (by omega) (by omega) (by omega)) (hap 3 2 (by omega) (by omega) (by omega)) (by omega) (by have := hfo.1; omega) hfo.2) (fun r9 h' hp => ?_)
  obtain ⟨r1, r2, f, r3, r4⟩ := hp
  have hq := QB_tr hB r2 r3
  refine ⟨?_, hq.2, f, hq.1, QV_tr hV r4⟩
  rw [r1, e1, e2]
  rfl
set_option maxHeartbeats 4000000 in
theorem q_thriftiest (l : Launch) (g : GX) (base : Nat) (sa : Nat → Nat) (h0 : Hp) (os : Nat) (DR : Nat → Nat → Nat) (DI DL : Nat → Nat → Int) (DA : Nat → Nat → Int → Int) (i v : Int) (hB : QB g h0 os DR DI DL DA) (hV : QV DI DL DA) (h8 : DI 0 8 = 1) (hi9 : i32 i) (hv9 : i32 v) : MC l g base sa yX2_thriftiest wsX2_thriftiest ({ frames := 2, cells := 0, slots := 0, locals := 44 }) ([.ref os, .int (J i), .int (J v)]) h0 (fun r h' => r = some (.int (J (thF (DA 4 0) (goC (DI 1 0) (DA 1 4) i v) (DA 5 0) (DI 4 3).toNat))) ∧ Fr (FS os DR) h0 h' ∧ ∃ f, QB g h' os DR DI DL (va_up DA 2 (va_up (DA 2) 5 f)) ∧ QV DI DL (va_up DA 2 (va_up (DA 2) 5 f))) := by
  obtain ⟨hM, hG, hJ, hT, hU, hP, hap⟩ := id hB
  obtain ⟨vW, vV, vZ, vF, vA, vT, vS, vg, f6, f7, f8⟩ := id hV
  have hN := Wok_N vW
  obtain ⟨h6, s1, s2, s3, pp2, s4⟩ := f8 h8
  obtain ⟨⟨f0, e1, e2, e3⟩, b, pp, c⟩ := f6 h6
  have hw2 : Wok (DI 2) (DA 2) := by rw [e1, e2]; exact Wok_up vW e3
  have hfo := TB_fo s4 hN.2 s2
  refine MC.imp (e_thriftiest l g base sa h0 os (DR 0) (DI 0) (DL 0) (DA 0) (DR 4) (DI 4) (DL 4) (DA 4) (DR 2) (DI 2) (DA 2) (DR 5) (DI 5) (DL 5) (DA 5) i v hM hU hJ hw2 (hap 0 2 (by omega) (by omega) (by omega)) (hap 4 2 (by omega) (by omega) (by omega)) (by omega) (by have := hfo.1; omega) hfo.2 hP (hap 5 2 (by omega) (by omega) (by omega)) ⟨vS.1, vS.2.1⟩ hi9 hv9 (fun k k0 k1 => by have := (s4.2.2.2.2.1 k k0 k1).2.1; omega) (fun j j0 j1 => by have := s3.1 j j0 j1; exact ⟨by omega, by omega⟩)) (fun r9 h' hp => ?_)
  obtain ⟨r1, r2, f, r3, r4⟩ := hp
  have hq := QB_tr hB r2 r3
  refine ⟨?_, hq.2, f, hq.1, QV_tr hV r4⟩
  rw [r1, e1, e2]
  rfl
set_option maxHeartbeats 4000000 in
theorem q_waysTo (l : Launch) (g : GX) (base : Nat) (sa : Nat → Nat) (h0 : Hp) (os : Nat) (DR : Nat → Nat → Nat) (DI DL : Nat → Nat → Int) (DA : Nat → Nat → Int → Int) (i v : Int) (hB : QB g h0 os DR DI DL DA) (hV : QV DI DL DA) (h7 : DI 0 7 = 1) (hi9 : i32 i) (hv9 : i32 v) : MC l g base sa yX2_waysTo wsX2_waysTo ({ frames := 3, cells := 0, slots := 0, locals := 67 }) ([.ref os, .int (J i), .int (J v)]) h0 (fun r h' => (∃ d, d = (if 0 ≤ fnd (DA 3 0) (goC (DI 1 0) (DA 1 4) i v) (DI 3 3).toNat 0 ∧ fnd (DA 3 0) (goC (DI 1 0) (DA 1 4) i v) (DI 3 3).toNat 0 < DL 3 1 ∧ 0 ≤ DA 3 1 (fnd (DA 3 0) (goC (DI 1 0) (DA 1 4) i v) (DI 3 3).toNat 0) then DA 3 1 (fnd (DA 3 0) (goC (DI 1 0) (DA 1 4) i v) (DI 3 3).toNat 0) else -1) ∧ r = some (.long (JL (wyF (DA 3 0) (DA 3 1) (goC (DI 1 0) (DA 1 4) i v) (DA 0 5) d (DI 3 3).toNat)))) ∧ Fr (FS os DR) h0 h' ∧ ∃ f, QB g h' os DR DI DL (va_up DA 2 (va_up (DA 2) 5 f)) ∧ QV DI DL (va_up DA 2 (va_up (DA 2) 5 f))) := by
  obtain ⟨hM, hG, hJ, hT, hU, hP, hap⟩ := id hB
  obtain ⟨vW, vV, vZ, vF, vA, vT, vS, vg, f6, f7, f8⟩ := id hV
  have hN := Wok_N vW
  obtain ⟨h6, s1, s2⟩ := f7 h7
  obtain ⟨⟨f0, e1, e2, e3⟩, b, pp, c⟩ := f6 h6
  have hw2 : Wok (DI 2) (DA 2) := by rw [e1, e2]; exact Wok_up vW e3
  have hfo := TB_fo c hN.2 b
  have hg2 := vg.2.2.1
  refine MC.imp (e_waysTo l g base sa h0 os (DR 0) (DI 0) (DL 0) (DA 0) (DR 3) (DI 3) (DL 3) (DA 3) (DR 2) (DI 2) (DA 2) i v hM hT hJ hw2 (hap 0 2 (by omega) (by omega) (by omega)) (hap 3 2 (by omega) (by omega) (by omega)) (by omega) (by have := hfo.1; omega) hfo.2 hi9 hv9 ⟨vA.1, vA.2.1⟩ (TB_lv c hN.2) (fun k k0 k1 => by have := c.2.2.2.2.1 k k0 k1; omega) (by omega) (fun j j0 j1 => by rw [s2 j j0 j1]; exact wz_r _ _ _ _ _ _)) (fun r9 h' hp => ?_)
  obtain ⟨d, d1, r1, r2, f, r3, r4⟩ := hp
  have hq := QB_tr hB r2 r3
  rw [e1, e2] at d1 r1
  exact ⟨⟨d, d1, r1⟩, hq.2, f, hq.1, QV_tr hV r4⟩
theorem q_forget (l : Launch) (g : GX) (base : Nat) (sa : Nat → Nat) (h0 : Hp) (os : Nat) (DR : Nat → Nat → Nat) (DI DL : Nat → Nat → Int) (DA : Nat → Nat → Int → Int) (hB : QB g h0 os DR DI DL DA) : MC l g base sa yX2_forget wsX2_forget ({ frames := 0, cells := 0, slots := 0, locals := 0 }) ([.ref os]) h0 (fun r h' => r = none ∧ Fr (QF os DR 0) h0 h' ∧ QB g h' os DR (va_up DI 0 (va_up (va_up (va_up (DI 0) 6 0) 7 0) 8 0)) DL DA) := by
  obtain ⟨hM, hG, hJ, hT, hU, hP, hap⟩ := id hB
  refine MC.imp (e_forget l g base sa h0 os (DR 0) (DI 0) (DL 0) (DA 0) hM) (fun r9 h' hp => ?_)
  obtain ⟨r1, r2, r3⟩ := hp
  have hd : ∀ i, i < 6 → i ≠ 0 → ∀ q, QF os DR i q → ¬ FP 9 kd2 os (DR 0) q := fun i hi hne q w z => hap i 0 hi (by omega) hne q w z
  exact ⟨r1, r3, r2, hG.fr r3 (hd 1 (by omega) (by omega)), hJ.fr r3 (hd 2 (by omega) (by omega)), hT.fr r3 (hd 3 (by omega) (by omega)), hU.fr r3 (hd 4 (by omega) (by omega)), hP.fr r3 (hd 5 (by omega) (by omega)), hap⟩
theorem QB_j {g : GX} {h0 h' : Hp} {os : Nat} {DR : Nat → Nat → Nat} {DI DL : Nat → Nat → Int} {DA : Nat → Nat → Int → Int} (hB : QB g h0 os DR DI DL DA) (hF : Fr (QF os DR 1) h0 h') {I' : Nat → Int} {A' : Nat → Int → Int} (kJ : OB g 1 7 kd1 h' (DR 0 0) (DR 1) I' L4 A') : QB g h' os DR (va_up DI 1 I') DL (va_up DA 1 A') := by
  obtain ⟨hM, hG, hJ, hT, hU, hP, hap⟩ := id hB
  have hd : ∀ i, i < 6 → i ≠ 1 → ∀ q, QF os DR i q → ¬ QF os DR 1 q := fun i hi hne q w z => hap i 1 hi (by omega) hne q w z
  exact ⟨hM.fr hF (hd 0 (by omega) (by omega)), kJ, hJ.fr hF (hd 2 (by omega) (by omega)), hT.fr hF (hd 3 (by omega) (by omega)), hU.fr hF (hd 4 (by omega) (by omega)), hP.fr hF (hd 5 (by omega) (by omega)), hap⟩
/-- after a change of the jugs, with all forgotten -/
theorem QV_j {DI DL : Nat → Nat → Int} {DA : Nat → Nat → Int → Int} (h : QV DI DL DA) {I' : Nat → Int} {A' : Nat → Int → Int} {F : Nat → Int} (hF : F 6 = 0 ∧ F 7 = 0 ∧ F 8 = 0) (hW : Wok I' A') (hv : Vh (I' 0) (A' 4) (A' 5)) (hz : Zo (A' 4) ∧ Zo (A' 6)) : QV (va_up (va_up DI 0 F) 1 I') DL (va_up DA 1 A') := by
  obtain ⟨vW, vV, vZ, vF, vA, vT, vS, vg, f6, f7, f8⟩ := h
  refine ⟨hW, hv, ⟨vZ.1, hz.1, vZ.2.2.1, hz.2⟩, ⟨Or.inl hF.1, Or.inl hF.2.1, Or.inl hF.2.2⟩, vA, vT, vS, vg, fun w => ?_, fun w => ?_, fun w => ?_⟩
  · exact absurd (show F 6 = 1 from w) (by omega)
  · exact absurd (show F 7 = 1 from w) (by omega)
  · exact absurd (show F 8 = 1 from w) (by omega)
def cCel (M cd : Int) : Nat := if M < cd then 1 else 0
def cSlo (M cd : Int) : Nat := if M < cd then cd.toNat else 0
set_option maxHeartbeats 4000000 in
theorem q_count (l : Launch) (g : GX) (base : Nat) (sa : Nat → Nat) (h0 : Hp) (os : Nat) (DR : Nat → Nat → Nat) (DI DL : Nat → Nat → Int) (DA : Nat → Nat → Int → Int) (hB : QB g h0 os DR DI DL DA) (hV : QV DI DL DA) (h6 : DI 0 6 = 1) : MC l g base sa yX2_countWays wsX2_countWays ({ frames := 2, cells := cCel (DL 0 5) (DL 3 1), slots := cSlo (DL 0 5) (DL 3 1), locals := 49 }) ([.ref os]) h0 (fun r9 h' => r9 = none ∧ Fr (FS os DR) h0 h' ∧ ∃ DR' DI' DL' DA', QB g h' os DR' DI' DL' DA' ∧ QV DI' DL' DA' ∧ DI' 0 7 = 1 ∧ QK DR DR' DI DI' DA DA' ∧ (∀ q, FS os DR' q → FS os DR q ∨ h0 q = none) ∧ DL' = va_up DL 0 (DL' 0) ∧ DL' 0 5 = sLen (DL 0 5) (DL 3 1)) := by
  obtain ⟨hM, hG, hJ, hT, hU, hP, hap⟩ := id hB
  obtain ⟨vW, vV, vZ, vF, vA, vT, vS, vg, f6, f7, f8⟩ := id hV
  have hN := Wok_N vW
  obtain ⟨⟨f0, e1, e2, e3⟩, b, pp, c⟩ := f6 h6
  have hJ2 : OB g 1 7 kd1 h0 (DR 0 1) (DR 2) (DI 1) L4 (va_up (DA 1) 5 f0) := by rw [← e1, ← e2]; exact hJ
  have hg2 := vg.2
  refine MC.imp (e_count l g base sa h0 os (DR 0) (DI 0) (DL 0) (DA 0) (DR 1) (DI 1) (DA 1) (DR 2) (DI 2) (DA 2) (DR 3) (DI 3) (DL 3) (DA 3) pp f0 hM hG hJ2 hT vW vV vZ (hap 0 2 (by omega) (by omega) (by omega)) (hap 0 3 (by omega) (by omega) (by omega)) (hap 1 2 (by omega) (by omega) (by omega)) (hap 3 2 (by omega) (by omega) (by omega)) (hap 1 3 (by omega) (by omega) (by omega)) (hap 1 0 (by omega) (by omega) (by omega)) vA e3 ⟨hg2.1, by have := hg2.2.1; omega⟩ b c vF.2.1) (fun r9 h' hp => ?_)
  obtain ⟨e0, hp⟩ := hp
  rcases hp with ⟨w7, e⟩ | ⟨w7, hF, q5, w5, f, kM, kG, kJ, kT, kq, kf, kw⟩
  · subst e
    refine ⟨e0, Fr.rf, DR, DI, DL, DA, hB, hV, w7, ⟨rfl, rfl, fun _ _ => rfl⟩, fun q w => Or.inl w, (va_up_id DL 0).symm, ?_⟩
    have := (f7 w7).2.1
    unfold sLen
    rw [if_neg (by omega)]
  · have hd : ∀ i, i < 6 → i ≠ 0 → i ≠ 2 → ∀ q, QF os DR i q → ¬ (FP 9 kd2 os (DR 0) q ∨ FP 7 kd1 (DR 0 1) (DR 2) q) := fun i hi a1 a2 q w z => by
      rcases z with z | z
      · exact hap i 0 hi (by omega) a1 q w z
      · exact hap i 2 hi (by omega) a2 q w z
    have he : ∀ i, i < 6 → i ≠ 0 → ∀ q, QF os (va_up DR 0 (va_up (DR 0) 5 q5)) i q → QF os DR i q := fun i hi hi3 q w => by
      match i, hi with
      | 0, _ => exact absurd rfl hi3
      | 1, _ => exact w
      | 2, _ => exact w
      | 3, _ => exact w
      | 4, _ => exact w
      | 5, _ => exact w
    have hn : ∀ q, QF os (va_up DR 0 (va_up (DR 0) 5 q5)) 0 q → QF os DR 0 q ∨ h0 q = none := fun q w => by
      rcases w with w | ⟨k, hk, ha, w⟩
      · exact Or.inl (Or.inl w)
      · have hk5 : k = 5 := by
          unfold isA at ha
          match k, hk with
          | 0, _ => exact absurd ha.2 (by decide)
          | 1, _ => exact absurd ha.2 (by decide)
          | 2, _ => exact absurd ha.2 (by decide)
          | 3, _ => exact absurd ha.2 (by decide)
          | 4, _ => exact absurd ha.2 (by decide)
          | 5, _ => rfl
          | 6, _ => exact absurd ha.1 (by decide)
          | 7, _ => exact absurd ha.1 (by decide)
          | 8, _ => exact absurd ha.1 (by decide)
        subst hk5
        have w' : q = q5 := w
        rcases kq with z | z
        · exact Or.inl (Or.inr ⟨5, hk, ha, by rw [w']; exact z⟩)
        · right; rw [w']; exact z
    have hFS : Fr (FS os DR) h0 h' := hF.mono (fun q w => by
      rcases w with w | w
      · exact ⟨0, by omega, w⟩
      · exact ⟨2, by omega, w⟩)
    refine ⟨e0, hFS, va_up DR 0 (va_up (DR 0) 5 q5), va_up (va_up DI 0 (va_up (DI 0) 7 1)) 2 (DI 1), va_up DL 0 (va_up (DL 0) 5 (sLen (DL 0 5) (DL 3 1))), va_up (va_up DA 0 (va_up (DA 0) 5 w5)) 2 (va_up (DA 1) 5 f), ⟨kM, kG, kJ, kT, hU.fr hF (hd 4 (by omega) (by omega) (by omega)), hP.fr hF (hd 5 (by omega) (by omega) (by omega)), QA_one 0 (fun i q hi w => hB.ex hi w) hap he (by omega) hn⟩, ⟨vW, vV, ⟨vZ.2.1, vZ.2.1, vZ.2.2.2, vZ.2.2.2⟩, ⟨vF.1, Or.inr rfl, vF.2.2⟩, vA, vT, vS, ⟨vg.1, gw_s vg.2⟩, fun _ => ⟨⟨f, rfl, rfl, kf⟩, b, pp, c⟩, fun _ => ⟨h6, ?_, kw⟩, f8⟩, rfl, ⟨rfl, rfl, fun k hk => ?_⟩, FS_one 0 he (by omega) hn, rfl, rfl⟩
    · show DL 3 1 ≤ sLen (DL 0 5) (DL 3 1)
      unfold sLen
      split <;> omega
    · show va_up (DR 0) 5 q5 k = DR 0 k
      simp [va_up, show k ≠ 5 by omega]
set_option maxHeartbeats 4000000 in
theorem q_sparing (l : Launch) (g : GX) (base : Nat) (sa : Nat → Nat) (h0 : Hp) (os : Nat) (DR : Nat → Nat → Nat) (DI DL : Nat → Nat → Int) (DA : Nat → Nat → Int → Int) (hB : QB g h0 os DR DI DL DA) (hV : QV DI DL DA) (h6 : DI 0 6 = 1) : MC l g base sa yX2_exploreSparing wsX2_exploreSparing ({ frames := 4, cells := sCel (DL 5 0) (DL 3 1) + tCel (DL 4 1) (jN DI DA), slots := sSlo (DL 5 0) (DL 3 1) + tSlo (DL 4 1) (jN DI DA), locals := 103 }) ([.ref os]) h0 (fun r9 h' => r9 = none ∧ Fr (FS os DR) h0 h' ∧ ∃ DR' DI' DL' DA', QB g h' os DR' DI' DL' DA' ∧ QV DI' DL' DA' ∧ DI' 0 8 = 1 ∧ QK DR DR' DI DI' DA DA' ∧ (∀ q, FS os DR' q → FS os DR q ∨ h0 q = none) ∧ DL' = va_up (va_up DL 4 (DL' 4)) 5 (DL' 5) ∧ DL' 4 1 = tLen (DL 4 1) (jN DI DA) ∧ DL' 5 0 = sLen (DL 5 0) (DL 3 1)) := by
  obtain ⟨hM, hG, hJ, hT, hU, hP, hap⟩ := id hB
  obtain ⟨vW, vV, vZ, vF, vA, vT, vS, vg, f6, f7, f8⟩ := id hV
  have hN := Wok_N vW
  obtain ⟨⟨f0, e1, e2, e3⟩, b, pp, c⟩ := f6 h6
  refine MC.imp (e_sparing l g base sa h0 os (DR 0) (DI 0) (DL 0) (DA 0) (DR 1) (DI 1) (DA 1) (DR 2) (DI 2) (DA 2) (DR 3) (DI 3) (DL 3) (DA 3) (DR 4) (DI 4) (DL 4) (DA 4) (DR 5) (DI 5) (DL 5) (DA 5) pp hM hG hJ hT vW vV vZ (hap 0 2 (by omega) (by omega) (by omega)) (hap 0 3 (by omega) (by omega) (by omega)) (hap 1 2 (by omega) (by omega) (by omega)) (hap 3 2 (by omega) (by omega) (by omega)) (hap 1 3 (by omega) (by omega) (by omega)) (hap 1 0 (by omega) (by omega) (by omega)) vA hU hP (hap 0 4 (by omega) (by omega) (by omega)) (hap 0 5 (by omega) (by omega) (by omega)) (hap 4 2 (by omega) (by omega) (by omega)) (hap 5 2 (by omega) (by omega) (by omega)) (hap 1 4 (by omega) (by omega) (by omega)) (hap 1 5 (by omega) (by omega) (by omega)) (hap 3 4 (by omega) (by omega) (by omega)) (hap 3 5 (by omega) (by omega) (by omega)) (hap 4 5 (by omega) (by omega) (by omega)) vT vS b c vF.2.2) (fun r9 h' hp => ?_)
  obtain ⟨e0, hp⟩ := hp
  rcases hp with ⟨w8, e⟩ | ⟨w8, hF, Rt', Lt', fo, lv, ca, r, pp2, f, Rs', Ls', le, wk, kM, kG, kJ, kT, kU, kP, kLt, kLs, kRt, kRs, kap, kf, kLZ, kTB⟩
  · subst e
    obtain ⟨-, s1, s2, -⟩ := f8 w8
    refine ⟨e0, Fr.rf, DR, DI, DL, DA, hB, hV, w8, ⟨rfl, rfl, fun _ _ => rfl⟩, fun q w => Or.inl w, by rw [va_up_id, va_up_id], ?_, ?_⟩
    · unfold tLen
      rw [if_neg (by omega)]
    · unfold sLen
      rw [if_neg (by omega)]
  · have he : ∀ i, i < 6 → i ≠ 4 → i ≠ 5 → ∀ q, QF os (va_up (va_up DR 4 Rt') 5 Rs') i q → QF os DR i q := fun i hi h4 h5 q w => by
      match i, hi with
      | 0, _ => exact w
      | 1, _ => exact w
      | 2, _ => exact w
      | 3, _ => exact w
      | 4, _ => exact absurd rfl h4
      | 5, _ => exact absurd rfl h5
    have hn4 : ∀ q, QF os (va_up (va_up DR 4 Rt') 5 Rs') 4 q → QF os DR 4 q ∨ h0 q = none := fun q w => by
      rcases w with w | ⟨k, hk, ha, w⟩
      · exact Or.inl (Or.inl w)
      · have hk3 : k < 3 := by
          have : k ≠ 3 := fun e => by subst e; exact absurd ha.1 (by decide)
          omega
        rcases kRt k hk3 with z | z
        · exact Or.inl (Or.inr ⟨k, hk, ha, by rw [w]; exact z⟩)
        · right; rw [w]; exact z
    have hn5 : ∀ q, QF os (va_up (va_up DR 4 Rt') 5 Rs') 5 q → QF os DR 5 q ∨ h0 q = none := fun q w => by
      rcases w with w | ⟨k, hk, ha, w⟩
      · exact Or.inl (Or.inl w)
      · rcases kRs k hk with z | z
        · exact Or.inl (Or.inr ⟨k, hk, ha, by rw [w]; exact z⟩)
        · right; rw [w]; exact z
    have hall : ∀ i q, i < 6 → QF os (va_up (va_up DR 4 Rt') 5 Rs') i q → QF os DR i q ∨ (h0 q = none ∧ (i = 4 ∨ i = 5)) := fun i q hi w => by
      by_cases h4 : i = 4
      · subst h4; exact (hn4 q w).imp id (fun z => ⟨z, Or.inl rfl⟩)
      · by_cases h5 : i = 5
        · subst h5; exact (hn5 q w).imp id (fun z => ⟨z, Or.inr rfl⟩)
        · exact Or.inl (he i hi h4 h5 q w)
    have hQA : QA os (va_up (va_up DR 4 Rt') 5 Rs') := fun i j hi hj hij q w1 w2 => by
      by_cases h45 : (i = 4 ∧ j = 5) ∨ (i = 5 ∧ j = 4)
      · rcases h45 with ⟨a1, a2⟩ | ⟨a1, a2⟩
        · subst a1; subst a2; exact kap q w1 w2
        · subst a1; subst a2; exact kap q w2 w1
      · rcases hall i q hi w1 with z1 | ⟨z1, y1⟩ <;> rcases hall j q hj w2 with z2 | ⟨z2, y2⟩
        · exact hap i j hi hj hij q z1 z2
        · exact hB.ex hi z1 z2
        · exact hB.ex hj z2 z1
        · omega
    have hFS : Fr (FS os DR) h0 h' := hF.mono (fun q w => by
      rcases w with w | w | w | w
      · exact ⟨0, by omega, w⟩
      · exact ⟨2, by omega, w⟩
      · exact ⟨4, by omega, w⟩
      · exact ⟨5, by omega, w⟩)
    have hlen := tLen_r ⟨vT.1, vT.2.1⟩ hN
    have hg1 := vg.1
    have hgs := gw_s vg.1
    refine ⟨e0, hFS, va_up (va_up DR 4 Rt') 5 Rs', va_up (va_up (va_up DI 0 (va_up (DI 0) 8 1)) 2 (DI 1)) 4 (va_up (DI 4) 3 r), va_up (va_up DL 4 Lt') 5 Ls', va_up (va_up (va_up DA 2 (va_up (DA 1) 5 f)) 4 (va_up (va_up (va_up (fun _ _ => 0) 0 fo) 1 lv) 2 ca)) 5 (va_up (va_up (fun _ _ => 0) 0 le) 1 wk), ⟨kM, kG, kJ, kT, kU, kP, hQA⟩, ⟨vW, vV, ⟨vZ.2.1, vZ.2.1, vZ.2.2.2, vZ.2.2.2⟩, ⟨vF.1, vF.2.1, Or.inr rfl⟩, vA, ?_, ?_, ⟨?_, vg.2⟩, fun _ => ⟨⟨f, rfl, rfl, kf⟩, b, pp, c⟩, f7, fun _ => ⟨h6, ?_, ?_, ?_, pp2, ?_⟩⟩, rfl, ⟨rfl, rfl, fun _ _ => rfl⟩, ?_, rfl, kLt.2.1, kLs.1⟩
    · show 0 ≤ Lt' 1 ∧ Lt' 1 ≤ 14641 ∧ Lt' 0 = Lt' 1 ∧ Lt' 2 = Lt' 1
      rw [kLt.1, kLt.2.1, kLt.2.2]
      have := hlen
      unfold jN at this
      exact ⟨by omega, by omega, rfl, rfl⟩
    · show 0 ≤ Ls' 0 ∧ Ls' 0 ≤ 14641 ∧ Ls' 1 = Ls' 0
      rw [kLs.1, kLs.2]
      exact ⟨hgs.1, by have := hgs.2.1; omega, rfl⟩
    · show gw (Ls' 0) (DL 3 1)
      rw [kLs.1]
      exact hgs
    · show DL 3 1 ≤ Ls' 0
      rw [kLs.1]
      unfold sLen
      split <;> omega
    · show mT (DA 1 4) (DI 1 0) ≤ Lt' 1
      rw [kLt.2.1]
      exact hlen.1
    · show LZ (mT (DA 1 4) (DI 1 0)) (Ls' 0) (nxC (DI 1 0) (DI 1 2) (DI 1 3) (DA 1 4)) (spC (DA 1 4)) (cC (DI 1 0) (DA 1 4) (DA 1 5)) le
      rw [kLs.1]
      exact kLZ
    · show TB (mT (DA 1 4) (DI 1 0)) (Lt' 1) (nxC (DI 1 0) (DI 1 2) (DI 1 3) (DA 1 4)) (fun x a => decide (le (nxC (DI 1 0) (DI 1 2) (DI 1 3) (DA 1 4) x a) = le x + spC (DA 1 4) x a)) (cC (DI 1 0) (DA 1 4) (DA 1 5)) fo lv ca r (24 * r) pp2
      rw [kLt.2.1]
      exact kTB
    · intro q ⟨i, hi, w⟩
      exact (hall i q hi w).imp (fun z => ⟨i, hi, z⟩) (fun z => z.1)
