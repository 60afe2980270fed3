/-! ===== the search and what it has, in one bundle: 0 the search, 1 the jugs, 2 the trial, 3 all, 4 the thrifty, 5 the spilling ===== -/
def QF (os : Nat) (DR : Nat → Nat → Nat) (i q : Nat) : Prop := match i with
  | 0 => FP 9 kd2 os (DR 0) q
  | 1 => FP 7 kd1 (DR 0 0) (DR 1) q
  | 2 => FP 7 kd1 (DR 0 1) (DR 2) q
  | 3 => FP 4 kd4 (DR 0 2) (DR 3) q
  | 4 => FP 4 kd4 (DR 0 3) (DR 4) q
  | _ => FP 2 kd3 (DR 0 4) (DR 5) q
def QA (os : Nat) (DR : Nat → Nat → Nat) : Prop := ∀ i j, i < 6 → j < 6 → i ≠ j → ∀ q, QF os DR i q → ¬ QF os DR j q
def QB (g : GX) (h : Hp) (os : Nat) (DR : Nat → Nat → Nat) (DI DL : Nat → Nat → Int) (DA : Nat → Nat → Int → Int) : Prop :=
  OB g 2 9 kd2 h os (DR 0) (DI 0) (DL 0) (DA 0) ∧ OB g 1 7 kd1 h (DR 0 0) (DR 1) (DI 1) L4 (DA 1) ∧ OB g 1 7 kd1 h (DR 0 1) (DR 2) (DI 2) L4 (DA 2) ∧ OB g 4 4 kd4 h (DR 0 2) (DR 3) (DI 3) (DL 3) (DA 3) ∧ OB g 4 4 kd4 h (DR 0 3) (DR 4) (DI 4) (DL 4) (DA 4) ∧ OB g 3 2 kd3 h (DR 0 4) (DR 5) (DI 5) (DL 5) (DA 5) ∧ QA os DR
def FS (os : Nat) (DR : Nat → Nat → Nat) (q : Nat) : Prop := ∃ i, i < 6 ∧ QF os DR i q
theorem OB.ex {g : GX} {ci N : Nat} {kd : Nat → Nat} {h : Hp} {o : Nat} {R : Nat → Nat} {I : Nat → Int} {L : Nat → Int} {A : Nat → Int → Int} (hM : OB g ci N kd h o R I L A) {q : Nat} (hq : FP N kd o R q) : h q ≠ none := by
  rcases hq with e | ⟨k, hk, ha, e⟩
  · rw [e, hM.1]; exact fun w => by cases w
  · rw [e, hM.2.1 k hk ha]; exact fun w => by cases w
theorem QB.ex {g : GX} {h : Hp} {os : Nat} {DR : Nat → Nat → Nat} {DI DL : Nat → Nat → Int} {DA : Nat → Nat → Int → Int} (hB : QB g h os DR DI DL DA) {i q : Nat} (hi : i < 6) (hq : QF os DR i q) : h q ≠ none := by
  obtain ⟨h0, h1, h2, h3, h4, h5, -⟩ := hB
  match i, hi with
  | 0, _ => exact h0.ex hq
  | 1, _ => exact h1.ex hq
  | 2, _ => exact h2.ex hq
  | 3, _ => exact h3.ex hq
  | 4, _ => exact h4.ex hq
  | 5, _ => exact h5.ex hq
theorem QB.fr {g : GX} {h h1 : Hp} {os : Nat} {DR : Nat → Nat → Nat} {DI DL : Nat → Nat → Int} {DA : Nat → Nat → Int → Int} {P : Nat → Prop} (hB : QB g h os DR DI DL DA) (hF : Fr P h h1) (hd : ∀ q, FS os DR q → ¬ P q) : QB g h1 os DR DI DL DA := by
  obtain ⟨h0, h1, h2, h3, h4, h5, h6⟩ := hB
  exact ⟨h0.fr hF (fun q w => hd q ⟨0, by omega, w⟩), h1.fr hF (fun q w => hd q ⟨1, by omega, w⟩), h2.fr hF (fun q w => hd q ⟨2, by omega, w⟩), h3.fr hF (fun q w => hd q ⟨3, by omega, w⟩), h4.fr hF (fun q w => hd q ⟨4, by omega, w⟩), h5.fr hF (fun q w => hd q ⟨5, by omega, w⟩), h6⟩
/-- one of them has new cells -/
theorem QA_one {h0 : Hp} {os : Nat} {DR DR' : Nat → Nat → Nat} (c : Nat) (hex : ∀ i q, i < 6 → QF os DR i q → h0 q ≠ none) (hap : QA os DR) (he : ∀ i, i < 6 → i ≠ c → ∀ q, QF os DR' i q → QF os DR i q) (hc : c < 6) (hn : ∀ q, QF os DR' c q → QF os DR c q ∨ h0 q = none) : QA os DR' := fun i j hi hj hij q w1 w2 => by
  by_cases e1 : i = c
  · subst e1
    have w3 := he j hj (fun e => hij e.symm) q w2
    rcases hn q w1 with w | w
    · exact hap i j hi hj hij q w w3
    · exact hex j q hj w3 w
  · have w3 := he i hi e1 q w1
    by_cases e2 : j = c
    · subst e2
      rcases hn q w2 with w | w
      · exact hap i j hi hj hij q w3 w
      · exact hex i q hi w3 w
    · exact hap i j hi hj hij q w3 (he j hj e2 q w2)
theorem FS_one {h0 : Hp} {os : Nat} {DR DR' : Nat → Nat → Nat} (c : Nat) (he : ∀ i, i < 6 → i ≠ c → ∀ q, QF os DR' i q → QF os DR i q) (hc : c < 6) (hn : ∀ q, QF os DR' c q → QF os DR c q ∨ h0 q = none) : ∀ q, FS os DR' q → FS os DR q ∨ h0 q = none := fun q ⟨i, hi, w⟩ => by
  by_cases e1 : i = c
  · subst e1
    exact (hn q w).imp (fun z => ⟨i, hi, z⟩) id
  · exact Or.inl ⟨i, hi, he i hi e1 q w⟩
def jN (DI : Nat → Nat → Int) (DA : Nat → Nat → Int → Int) : Int := mT (DA 1 4) (DI 1 0)
def jX (DI : Nat → Nat → Int) (DA : Nat → Nat → Int → Int) : Int := cC (DI 1 0) (DA 1 4) (DA 1 5)
def jC (DI : Nat → Nat → Int) (DA : Nat → Nat → Int → Int) : Int → Int → Int := nxC (DI 1 0) (DI 1 2) (DI 1 3) (DA 1 4)
def QE (DI DL : Nat → Nat → Int) (DA : Nat → Nat → Int → Int) : Prop := (∃ f, DI 2 = DI 1 ∧ DA 2 = va_up (DA 1) 5 f ∧ ∀ i, 0 ≤ i → i < 4 → 0 ≤ f i ∧ f i ≤ 10) ∧ jN DI DA ≤ DL 3 1 ∧ ∃ pp, TB (jN DI DA) (DL 3 1) (jC DI DA) (fun _ _ => true) (jX DI DA) (DA 3 0) (DA 3 1) (DA 3 2) (DI 3 3) (24 * DI 3 3) pp
def QW (DI DL : Nat → Nat → Int) (DA : Nat → Nat → Int → Int) : Prop := DL 3 1 ≤ DL 0 5 ∧ ∀ y, 0 ≤ y → y < DL 0 5 → DA 0 5 y = wz (jC DI DA) (jX DI DA) (DA 3 0) (DA 3 1) (24 * DI 3 3).toNat y
def QS (DI DL : Nat → Nat → Int) (DA : Nat → Nat → Int → Int) : Prop := DL 3 1 ≤ DL 5 0 ∧ jN DI DA ≤ DL 4 1 ∧ LZ (jN DI DA) (DL 5 0) (jC DI DA) (spC (DA 1 4)) (jX DI DA) (DA 5 0) ∧ ∃ pp, TB (jN DI DA) (DL 4 1) (jC DI DA) (fun x a => decide (DA 5 0 (jC DI DA x a) = DA 5 0 x + spC (DA 1 4) x a)) (jX DI DA) (DA 4 0) (DA 4 1) (DA 4 2) (DI 4 3) (24 * DI 4 3) pp
def gw (a b : Int) : Prop := 0 ≤ a ∧ a ≤ b ∧ (a < b → b = 14641 ∨ 2 * a ≤ b)
def QV (DI DL : Nat → Nat → Int) (DA : Nat → Nat → Int → Int) : Prop :=
  Wok (DI 1) (DA 1) ∧ Vh (DI 1 0) (DA 1 4) (DA 1 5) ∧ (Zo (DA 2 4) ∧ Zo (DA 1 4) ∧ Zo (DA 2 6) ∧ Zo (DA 1 6)) ∧ ((DI 0 6 = 0 ∨ DI 0 6 = 1) ∧ (DI 0 7 = 0 ∨ DI 0 7 = 1) ∧ (DI 0 8 = 0 ∨ DI 0 8 = 1)) ∧
  (0 ≤ DL 3 1 ∧ DL 3 1 ≤ 14641 ∧ DL 3 0 = DL 3 1 ∧ DL 3 2 = DL 3 1) ∧ (0 ≤ DL 4 1 ∧ DL 4 1 ≤ 14641 ∧ DL 4 0 = DL 4 1 ∧ DL 4 2 = DL 4 1) ∧ (0 ≤ DL 5 0 ∧ DL 5 0 ≤ 14641 ∧ DL 5 1 = DL 5 0) ∧ (gw (DL 5 0) (DL 3 1) ∧ gw (DL 0 5) (DL 3 1)) ∧
  (DI 0 6 = 1 → QE DI DL DA) ∧ (DI 0 7 = 1 → DI 0 6 = 1 ∧ QW DI DL DA) ∧ (DI 0 8 = 1 → DI 0 6 = 1 ∧ QS DI DL DA)
theorem gw_len {a b cd : Int} (h : gw a b) (hb : b ≤ 14641) (hc : 1 ≤ cd ∧ cd ≤ 14641) : gw a (tLen b cd) := by
  obtain ⟨h1, h2, h3⟩ := h
  unfold tLen
  split
  · refine ⟨h1, by omega, fun _ => by omega⟩
  · exact ⟨h1, h2, h3⟩
theorem gw_s {a b : Int} (h : gw a b) : gw (sLen a b) b := by
  obtain ⟨h1, h2, h3⟩ := h
  unfold sLen
  split
  · exact ⟨by omega, by omega, fun w => by omega⟩
  · exact ⟨h1, h2, h3⟩
theorem Wok_N {I : Nat → Int} {A : Nat → Int → Int} (h : Wok I A) : 1 ≤ mT (A 4) (I 0) ∧ mT (A 4) (I 0) ≤ 14641 := mT_r h.1
/-- what every one of these leaves: the jugs as they were -/
def QK (DR DR' : Nat → Nat → Nat) (DI DI' : Nat → Nat → Int) (DA DA' : Nat → Nat → Int → Int) : Prop := DI' 1 = DI 1 ∧ DA' 1 = DA 1 ∧ ∀ k, k < 5 → DR' 0 k = DR 0 k
set_option maxHeartbeats 4000000 in
theorem q_explore (l : Launch) (g : GX) (base : Nat) (sa : Nat → Nat) (h0 : Hp) (os : Nat) (DR : Nat → Nat → Nat) (DI DL : Nat → Nat → Int) (DA : Nat → Nat → Int → Int) (hB : QB g h0 os DR DI DL DA) (hV : QV DI DL DA) : MC l g base sa yX2_explore wsX2_explore ({ frames := 4, cells := tCel (DL 3 1) (jN DI DA), slots := tSlo (DL 3 1) (jN DI DA), locals := 100 }) ([.ref os]) h0 (fun r9 h' => r9 = none ∧ Fr (FS os DR) h0 h' ∧ ∃ DR' DI' DL' DA', QB g h' os DR' DI' DL' DA' ∧ QV DI' DL' DA' ∧ DI' 0 6 = 1 ∧ QK DR DR' DI DI' DA DA' ∧ (∀ q, FS os DR' q → FS os DR q ∨ h0 q = none) ∧ DL' = va_up DL 3 (DL' 3) ∧ DL' 3 1 = tLen (DL 3 1) (jN DI DA)) := by
  obtain ⟨hM, hG, hJ, hT, hU, hP, hap⟩ := id hB
  obtain ⟨vW, vV, vZ, vF, vA, vT, vS, vg, f6, f7, f8⟩ := id hV
  have hN := Wok_N vW
  refine MC.imp (e_explore l g base sa h0 os (DR 0) (DI 0) (DL 0) (DA 0) (DR 1) (DI 1) (DA 1) (DR 2) (DI 2) (DA 2) (DR 3) (DI 3) (DL 3) (DA 3) hM hG hJ hT vW vV vZ (hap 0 2 (by omega) (by omega) (by omega)) (hap 0 3 (by omega) (by omega) (by omega)) (hap 1 2 (by omega) (by omega) (by omega)) (hap 3 2 (by omega) (by omega) (by omega)) (hap 1 3 (by omega) (by omega) (by omega)) (hap 1 0 (by omega) (by omega) (by omega)) vA vF.1) (fun r9 h' hp => ?_)
  obtain ⟨e0, hp⟩ := hp
  rcases hp with ⟨w6, e⟩ | ⟨w6, hF, R', L', fo, lv, ca, r, pp, f, kM, kG, kJ, kT, kL, kR, kf, kTB⟩
  · subst e
    refine ⟨e0, Fr.rf, DR, DI, DL, DA, hB, hV, w6, ⟨rfl, rfl, fun _ _ => rfl⟩, fun q w => Or.inl w, (va_up_id DL 3).symm, ?_⟩
    have := (f6 w6).2.1
    unfold tLen
    rw [if_neg (by omega)]
  · have hFS : Fr (FS os DR) h0 h' := hF.mono (fun q w => by
      rcases w with w | w | w
      · exact ⟨0, by omega, w⟩
      · exact ⟨2, by omega, w⟩
      · exact ⟨3, by omega, w⟩)
    have hd : ∀ i, i < 6 → i ≠ 0 → i ≠ 2 → i ≠ 3 → ∀ q, QF os DR i q → ¬ (FP 9 kd2 os (DR 0) q ∨ FP 7 kd1 (DR 0 1) (DR 2) q ∨ FP 4 kd4 (DR 0 2) (DR 3) q) := fun i hi a1 a2 a3 q w z => by
      rcases z with z | z | z
      · exact hap i 0 hi (by omega) a1 q w z
      · exact hap i 2 hi (by omega) a2 q w z
      · exact hap i 3 hi (by omega) a3 q w z
    have kU := hU.fr hF (hd 4 (by omega) (by omega) (by omega) (by omega))
    have kP := hP.fr hF (hd 5 (by omega) (by omega) (by omega) (by omega))
    have he : ∀ i, i < 6 → i ≠ 3 → ∀ q, QF os (va_up DR 3 R') i q → QF os DR i q := fun i hi hi3 q w => by
      match i, hi with
      | 0, _ => exact w
      | 1, _ => exact w
      | 2, _ => exact w
      | 3, _ => exact absurd rfl hi3
      | 4, _ => exact w
      | 5, _ => exact w
    have hn : ∀ q, QF os (va_up DR 3 R') 3 q → QF os DR 3 q ∨ h0 q = none := fun q w => by
      rcases w with w | ⟨k, hk, ha, w⟩
      · exact Or.inl (Or.inl w)
      · have hk3 : k < 3 := by
          have : k ≠ 3 := fun e => by subst e; exact absurd ha.1 (by decide)
          omega
        rcases kR k hk3 with z | z
        · exact Or.inl (Or.inr ⟨k, hk, ha, by rw [w]; exact z⟩)
        · right; rw [w]; exact z
    have hlen := tLen_r ⟨vA.1, vA.2.1⟩ hN
    have w7 : DI 0 7 = 0 := by
      rcases vF.2.1 with w | w
      · exact w
      · have := (f7 w).1; omega
    have w8 : DI 0 8 = 0 := by
      rcases vF.2.2 with w | w
      · exact w
      · have := (f8 w).1; omega
    refine ⟨e0, hFS, va_up DR 3 R', va_up (va_up (va_up DI 0 (va_up (DI 0) 6 1)) 2 (DI 1)) 3 (va_up (DI 3) 3 r), va_up DL 3 L', va_up (va_up DA 2 (va_up (DA 1) 5 f)) 3 (va_up (va_up (va_up (fun _ _ => 0) 0 fo) 1 lv) 2 ca), ⟨kM, kG, kJ, kT, kU, kP, QA_one 3 (fun i q hi w => hB.ex hi w) hap he (by omega) hn⟩, ⟨vW, vV, ⟨vZ.2.1, vZ.2.1, vZ.2.2.2, vZ.2.2.2⟩, ⟨Or.inr rfl, Or.inl w7, Or.inl w8⟩, ?_, vT, vS, ⟨?_, ?_⟩, fun _ => ⟨⟨f, rfl, rfl, kf⟩, ?_, ?_⟩, fun w => ?_, fun w => ?_⟩, rfl, ⟨rfl, rfl, fun _ _ => rfl⟩, FS_one 3 he (by omega) hn, rfl, kL.2.1⟩
    · show 0 ≤ L' 1 ∧ L' 1 ≤ 14641 ∧ L' 0 = L' 1 ∧ L' 2 = L' 1
      rw [kL.1, kL.2.1, kL.2.2]
      exact ⟨by omega, by omega, rfl, rfl⟩
    · show gw (DL 5 0) (L' 1)
      rw [kL.2.1]
      exact gw_len vg.1 vA.2.1 hN
    · show gw (DL 0 5) (L' 1)
      rw [kL.2.1]
      exact gw_len vg.2 vA.2.1 hN
    · show mT (DA 1 4) (DI 1 0) ≤ L' 1
      rw [kL.2.1]
      exact hlen.1
    · refine ⟨pp, ?_⟩
      show TB (mT (DA 1 4) (DI 1 0)) (L' 1) (nxC (DI 1 0) (DI 1 2) (DI 1 3) (DA 1 4)) (fun _ _ => true) (cC (DI 1 0) (DA 1 4) (DA 1 5)) fo lv ca r (24 * r) pp
      rw [kL.2.1]
      exact kTB
    · exact absurd (show DI 0 7 = 1 from w) (by omega)
    · exact absurd (show DI 0 8 = 1 from w) (by omega)
