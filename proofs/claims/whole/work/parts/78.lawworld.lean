/-! ===== the class and the reference side by side ===== -/
def LX (g : GX) (h : Hp) (ox om : Nat) (R : Nat → Nat) (DR : Nat → Nat → Nat) (DI DL : Nat → Nat → Int) (DA : Nat → Nat → Int → Int) (Rg : Nat → Nat) (Ig Lg : Nat → Int) (Ag : Nat → Int → Int) (Ro : Nat → Nat) (I : Nat → Int) (A : Nat → Int → Int) : Prop :=
  OB g 5 3 kd5 h ox R i0 i0 a0 ∧ R 0 = DR 0 0 ∧ QB g h (R 1) DR DI DL DA ∧ QV DI DL DA ∧ GB g h (R 2) Rg Ig Lg Ag ∧ GV Ig Lg Ag ∧ OB g 6 28 kd6 h om Ro I mL A ∧ Mok I A ∧ (∀ q, FP 3 kd5 ox R q → ¬ FS (R 1) DR q) ∧ (∀ q, FP 3 kd5 ox R q → ¬ FG (R 2) Rg q) ∧ (∀ q, FS (R 1) DR q → ¬ FG (R 2) Rg q) ∧ (∀ q, FP 28 kd6 om Ro q → ¬ FP 3 kd5 ox R q ∧ ¬ FS (R 1) DR q ∧ ¬ FG (R 2) Rg q)
def SM (DI : Nat → Nat → Int) (DA : Nat → Nat → Int → Int) (Ig : Nat → Int) (Ag : Nat → Int → Int) (I : Nat → Int) (A : Nat → Int → Int) : Prop := DI 1 0 = I 0 ∧ DI 1 2 = I 3 ∧ DI 1 3 = I 4 ∧ (∀ j, 0 ≤ j → j < I 0 → DA 1 4 j = A 1 j) ∧ (∀ j, 0 ≤ j → j < I 0 → DA 1 5 j = A 2 j) ∧ Ig 0 = I 5 ∧ (∀ j, 0 ≤ j → j < I 5 → Ag 1 j = A 6 j)
section LXS
variable {g : GX} {h h1 : Hp} {ox om : Nat} {R : Nat → Nat} {DR DR' : Nat → Nat → Nat} {DI DL DI' DL' : Nat → Nat → Int} {DA DA' : Nat → Nat → Int → Int} {Rg Rg' : Nat → Nat} {Ig Lg Ig' Lg' : Nat → Int} {Ag Ag' : Nat → Int → Int} {Ro : Nat → Nat} {I I' : Nat → Int} {A A' : Nat → Int → Int}
theorem LX_s (hL : LX g h ox om R DR DI DL DA Rg Ig Lg Ag Ro I A) (hF : Fr (FS (R 1) DR) h h1) (hB : QB g h1 (R 1) DR' DI' DL' DA') (hV : QV DI' DL' DA') (h0 : DR' 0 0 = DR 0 0) (hs : ∀ q, FS (R 1) DR' q → FS (R 1) DR q ∨ h q = none) : LX g h1 ox om R DR' DI' DL' DA' Rg Ig Lg Ag Ro I A := by
  obtain ⟨l1, l2, l3, l4, l5, l6, l7, l8, l9, l10, l11, l12⟩ := hL
  refine ⟨l1.fr hF l9, l2.trans h0.symm, hB, hV, l5.fr hF (fun q w z => l11 q z w), l6, l7.fr hF (fun q w z => (l12 q w).2.1 z), l8, fun q w z => ?_, l10, fun q w z => ?_, fun q w => ⟨(l12 q w).1, fun z => ?_, (l12 q w).2.2⟩⟩
  · rcases hs q z with y | y
    · exact l9 q w y
    · exact l1.ex w y
  · rcases hs q w with y | y
    · exact l11 q y z
    · exact GB_ex l5 z y
  · rcases hs q z with y | y
    · exact (l12 q w).2.1 y
    · exact l7.ex w y
theorem LX_g (hL : LX g h ox om R DR DI DL DA Rg Ig Lg Ag Ro I A) (hF : Fr (FG (R 2) Rg) h h1) (hB : GB g h1 (R 2) Rg' Ig' Lg' Ag') (hV : GV Ig' Lg' Ag') (hs : ∀ q, FG (R 2) Rg' q → FG (R 2) Rg q ∨ h q = none) : LX g h1 ox om R DR DI DL DA Rg' Ig' Lg' Ag' Ro I A := by
  obtain ⟨l1, l2, l3, l4, l5, l6, l7, l8, l9, l10, l11, l12⟩ := hL
  refine ⟨l1.fr hF l10, l2, l3.fr hF l11, l4, hB, hV, l7.fr hF (fun q w z => (l12 q w).2.2 z), l8, l9, fun q w z => ?_, fun q w z => ?_, fun q w => ⟨(l12 q w).1, (l12 q w).2.1, fun z => ?_⟩⟩
  · rcases hs q z with y | y
    · exact l10 q w y
    · exact l1.ex w y
  · rcases hs q z with y | y
    · exact l11 q w y
    · exact QB_exS l3 w y
  · rcases hs q z with y | y
    · exact (l12 q w).2.2 y
    · exact l7.ex w y
theorem LX_m (hL : LX g h ox om R DR DI DL DA Rg Ig Lg Ag Ro I A) (hF : Fr (FP 28 kd6 om Ro) h h1) (hM : OB g 6 28 kd6 h1 om Ro I' mL A') (hm : Mok I' A') : LX g h1 ox om R DR DI DL DA Rg Ig Lg Ag Ro I' A' := by
  obtain ⟨l1, l2, l3, l4, l5, l6, l7, l8, l9, l10, l11, l12⟩ := hL
  exact ⟨l1.fr hF (fun q w z => (l12 q z).1 w), l2, l3.fr hF (fun q w z => (l12 q z).2.1 w), l4, l5.fr hF (fun q w z => (l12 q z).2.2 w), l6, hM, hm, l9, l10, l11, l12⟩
theorem SM_q (hS : SM DI DA Ig Ag I A) (h1 : DI' 1 = DI 1) (h2 : DA' 1 = DA 1) (hR : RS I I' A A') : SM DI' DA' Ig Ag I' A' := by
  obtain ⟨a1, a2, a3, a4, a5, a6, a7⟩ := hS
  obtain ⟨b1, b2, b3, b4, b5, b6, b7⟩ := hR
  unfold SM
  rw [h1, h2, b1, b2, b3, b4, b5, b6, b7]
  exact ⟨a1, a2, a3, a4, a5, a6, a7⟩
theorem nT_SM (hS : SM DI DA Ig Ag I A) (rm : Int → Int) : nT rm (DA 1 5) (I 0) = nT rm (A 2) (I 0) := nT_congr (fun j a b => hS.2.2.2.2.1 j a b)
theorem ag_SM (hS : SM DI DA Ig Ag I A) {rm : Int → Int} (h : ∀ j, 0 ≤ j → j < I 0 → rm j = A 1 j) : Agr (I 0) rm (DA 1 4) := fun j a b => (h j a b).trans (hS.2.2.2.1 j a b).symm
theorem eqF (hS : SM DI DA Ig Ag I A) {i v z : Int} (hz : AnF (DI 1 0) (DI 1 2) (DI 1 3) (DA 1 4) (DA 1 5) i v z) (hF : FCO I I' A A' i v 0) : z = if A' 16 (I' 17) = 1000000000 then -1 else A' 16 (I' 17) := by
  obtain ⟨f1, f2, f3, f4, f5, f6, f7, f8, f9⟩ := hF
  rw [hS.1, hS.2.1, hS.2.2.1] at hz
  rw [hz (A' 8) (A' 16) (ag_SM hS f6) f9, nT_SM hS, f7]
theorem eqB (hS : SM DI DA Ig Ag I A) {i v k z : Int} (hz : AnB (DI 1 0) (DI 1 2) (DI 1 3) (DA 1 4) (DA 1 5) i v k z) (hF : FCO I I' A A' i v 0) : z = if 14641 ≤ k then -1 else gr (nxM (I 0) (I 3) (I 4) (A' 8)) (spM (I 0) (I 3) (I 4) (A' 8)) 0 (A' 16) k.toNat (I' 17) := by
  obtain ⟨f1, f2, f3, f4, f5, f6, f7, f8, f9⟩ := hF
  rw [hS.1, hS.2.1, hS.2.2.1] at hz
  rw [hz (A' 8) (A' 16) (ag_SM hS f6) f9, nT_SM hS, f7]
theorem eqW (hS : SM DI DA Ig Ag I A) {i v z : Int} (hz : AnW (DI 1 0) (DI 1 2) (DI 1 3) (DA 1 4) (DA 1 5) i v z) (hF : FCO I I' A A' i v 0) : z = if A' 16 (I' 17) = 1000000000 then 0 else min mM (ct (nxM (I 0) (I 3) (I 4) (A' 8)) (goM (I 0) (A' 8) i v) (A' 16 (I' 17)).toNat (I' 17)) := by
  obtain ⟨f1, f2, f3, f4, f5, f6, f7, f8, f9⟩ := hF
  rw [hS.1, hS.2.1, hS.2.2.1] at hz
  rw [hz (A' 8) (A' 16) (ag_SM hS f6) f9, nT_SM hS, f7]
theorem eqS (hS : SM DI DA Ig Ag I A) {i v k z : Int} (hz : AnS (DI 1 0) (DI 1 2) (DI 1 3) (DA 1 4) (DA 1 5) i v k z) (hF : FCO I I' A A' i v 20000) : z = if A' 16 (I' 17) = 1000000000 then -1 else if k = 0 then A' 16 (I' 17) / 20000 else A' 16 (I' 17) % 20000 := by
  obtain ⟨f1, f2, f3, f4, f5, f6, f7, f8, f9⟩ := hF
  rw [hS.1, hS.2.1, hS.2.2.1] at hz
  rw [hz (A' 8) (A' 16) (ag_SM hS f6) f9, nT_SM hS, f7]
theorem eqP (hS : SM DI DA Ig Ag I A) {i v k z : Int} (hz : AnP (DI 1 0) (DI 1 2) (DI 1 3) (DA 1 4) (DA 1 5) i v k z) (hF : FCO I I' A A' i v 20000) : z = if 14641 ≤ k then -1 else gr (nxM (I 0) (I 3) (I 4) (A' 8)) (spM (I 0) (I 3) (I 4) (A' 8)) 20000 (A' 16) k.toNat (I' 17) := by
  obtain ⟨f1, f2, f3, f4, f5, f6, f7, f8, f9⟩ := hF
  rw [hS.1, hS.2.1, hS.2.2.1] at hz
  rw [hz (A' 8) (A' 16) (ag_SM hS f6) f9, nT_SM hS, f7]
theorem eqR (hS : SM DI DA Ig Ag I A) {z k : Int} {rm q : Int → Int} (hz : AnR (DI 1 0) (DI 1 2) (DI 1 3) (DA 1 4) (DA 1 5) z) (h6 : ∀ j, 0 ≤ j → j < I 0 → rm j = A 1 j) (hR : RE (mT rm (I 0)) (nxM (I 0) (I 3) (I 4) rm) (nT rm (A 2) (I 0)) q k) : z = k := by
  rw [hS.1, hS.2.1, hS.2.2.1] at hz
  exact hz rm q k (ag_SM hS h6) (by rw [nT_SM hS]; exact hR)
theorem eqM (hS : SM DI DA Ig Ag I A) {z k : Int} {rm q : Int → Int} (hz : AnM (DI 1 0) (DI 1 2) (DI 1 3) (DA 1 4) (DA 1 5) z) (h6 : ∀ j, 0 ≤ j → j < I 0 → rm j = A 1 j) (hR : RE (mT rm (I 0)) (nxM (I 0) (I 3) (I 4) rm) (nT rm (A 2) (I 0)) q k) : z = mq (I 0) rm q k.toNat := by
  rw [hS.1, hS.2.1, hS.2.2.1] at hz
  exact hz rm q k (ag_SM hS h6) (by rw [nT_SM hS]; exact hR)
/-- the glasses of both, by their ways -/
theorem lp_cg {n : Int} {sp sp2 : Int → Int} (h : ∀ j, 0 ≤ j → j < n → sp j = sp2 j) (h0 : 0 ≤ n) (x ch : Int) : mp n sp x ch = mp n sp2 x ch := by
  have htv : ∀ k, 0 ≤ k → k < n → tv sp (Dg 13 x) ch k = tv sp2 (Dg 13 x) ch k := fun k k0 k1 => by unfold tv; rw [h k k0 k1]
  have hff : ∀ k : Nat, (k : Int) ≤ n → ff (tv sp (Dg 13 x) ch) 1000000000 k = ff (tv sp2 (Dg 13 x) ch) 1000000000 k := by
    intro k
    induction k with
    | zero => intro _; rfl
    | succ k ih => intro hk; rw [ff, ff, ih (by omega), htv k (by omega) (by omega)]
  have hmf : mf n sp x ch = mf n sp2 x ch := hff n.toNat (by omega)
  have his : ∀ k : Nat, iS n sp x k = iS n sp2 x k := by
    intro k
    induction k with
    | zero => rfl
    | succ k ih =>
      rw [iS, iS, ih]
      by_cases q : (k : Int) < n
      · rw [if_pos q, if_pos q, h k (by omega) q]
      · rw [if_neg q, if_neg q]
  have hec : ∀ k : Nat, (k : Int) ≤ n → ec 13 (fun k => max 0 (tv sp (Dg 13 x) ch k - mf n sp x ch)) k = ec 13 (fun k => max 0 (tv sp2 (Dg 13 x) ch k - mf n sp2 x ch)) k := by
    intro k
    induction k with
    | zero => intro _; rfl
    | succ k ih =>
      intro hk
      rw [ec, ec, ih (by omega)]
      show _ + max 0 (tv sp (Dg 13 x) ch k - mf n sp x ch) * _ = _ + max 0 (tv sp2 (Dg 13 x) ch k - mf n sp2 x ch) * _
      rw [htv k (by omega) (by omega), hmf]
  have hmz : mz n sp x ch = mz n sp2 x ch := hec n.toNat (by omega)
  unfold mp
  rw [his 3, hmf, hmz]
theorem GP_cg {lp lp2 : Int → Int → Int} {C : Int} (h : ∀ x a, lp x a = lp2 x a) : GP lp C = GP lp2 C := by
  have : lp = lp2 := by funext x a; exact h x a
  rw [this]
theorem WT_SM (hS : SM DI DA Ig Ag I A) (hG : GV Ig Lg Ag) {s w t w2 t2 : Int} (h1 : WT (lp (Ig 0) (Ag 1)) (2 ^ (Ig 0).toNat) s w t) (h2 : WT (mp (I 5) (A 6)) 8 s w2 t2) : w = w2 ∧ t = t2 := by
  have h3 := WT_lm hG.1 h1
  have e : mp (Ig 0) (Ag 1) = mp (I 5) (A 6) := by
    funext x a
    rw [hS.2.2.2.2.2.1]
    exact lp_cg hS.2.2.2.2.2.2 (by rw [← hS.2.2.2.2.2.1]; exact hG.1.1) x a
  rw [e] at h3
  exact WT_one h3 h2
end LXS
/-! ===== the room ===== -/
def ph3 (M : Int) : Int := if M < 14641 then 2 * M else 43923
def pC (DL : Nat → Nat → Int) (Lg : Nat → Int) : Nat := (3 * DL 3 1 + 3 * DL 4 1 + 2 * DL 5 0 + DL 0 5 + 19 * Lg 5).toNat
def pS (DL : Nat → Nat → Int) (Lg : Nat → Int) : Nat := (3 * ph3 (DL 3 1) + 3 * ph3 (DL 4 1) + 2 * ph3 (DL 5 0) + ph3 (DL 0 5) + 76 * Lg 5).toNat
theorem t_room {M cd : Int} (hM : 0 ≤ M ∧ M ≤ 14641) (hc : 1 ≤ cd ∧ cd ≤ 14641) : (tCel M cd : Int) ≤ 3 * (tLen M cd - M) ∧ (tSlo M cd : Int) ≤ 3 * (ph3 (tLen M cd) - ph3 M) ∧ tCel M cd ≤ 3 ∧ tSlo M cd ≤ 43923 ∧ 0 ≤ tLen M cd ∧ tLen M cd ≤ 14641 ∧ M ≤ tLen M cd := by
  unfold tCel tSlo tLen
  by_cases q : M < cd
  · simp only [if_pos q]
    have h1 : max cd (2 * M) ≥ 2 * M := by omega
    unfold ph3
    rw [if_pos (show M < 14641 by omega)]
    split <;> omega
  · simp only [if_neg q]
    omega
theorem s_room {M cd : Int} (h : gw M cd) (hc : cd ≤ 14641) : (sCel M cd : Int) ≤ 2 * (sLen M cd - M) ∧ (sSlo M cd : Int) ≤ 2 * (ph3 (sLen M cd) - ph3 M) ∧ (cCel M cd : Int) ≤ sLen M cd - M ∧ (cSlo M cd : Int) ≤ ph3 (sLen M cd) - ph3 M ∧ sCel M cd ≤ 2 ∧ sSlo M cd ≤ 29282 ∧ cCel M cd ≤ 1 ∧ cSlo M cd ≤ 14641 ∧ M ≤ sLen M cd := by
  obtain ⟨h1, h2, h3⟩ := h
  unfold sCel sSlo sLen cCel cSlo
  by_cases q : M < cd
  · have h4 := h3 q
    simp only [if_pos q]
    unfold ph3
    rw [if_pos (show M < 14641 by omega)]
    split <;> omega
  · simp only [if_neg q]
    omega
theorem ph3_r {M : Int} (h : 0 ≤ M ∧ M ≤ 14641) : 0 ≤ ph3 M ∧ ph3 M ≤ 43923 := by
  unfold ph3
  split <;> omega
theorem p_bd {DI DL : Nat → Nat → Int} {DA : Nat → Nat → Int → Int} {Ig Lg : Nat → Int} {Ag : Nat → Int → Int} (hV : QV DI DL DA) (hG : GV Ig Lg Ag) : pC DL Lg ≤ 165000 ∧ pS DL Lg ≤ 527000 := by
  obtain ⟨vW, vV, vZ, vF, vA, vT, vS, vg, f6, f7, f8⟩ := hV
  have g5 := hG.2.2.2.1
  have a1 := ph3_r ⟨vA.1, vA.2.1⟩
  have a2 := ph3_r ⟨vT.1, vT.2.1⟩
  have a3 := ph3_r ⟨vS.1, vS.2.1⟩
  have l5 := vg.2
  have l5a := l5.1
  have l5b := l5.2.1
  have a4 := ph3_r ⟨l5a, (show DL 0 5 ≤ 14641 by omega)⟩
  unfold pC pS
  omega
theorem g_room {Lg : Nat → Int} {n : Int} (h0 : 0 ≤ n) (h3 : n ≤ 3) (h5 : Lg 5 = 0 ∨ Lg 5 = 1 ∨ Lg 5 = 12 ∨ Lg 5 = 144 ∨ Lg 5 = 1728) (hq : Lg 5 < k_states n) : (19 : Int) ≤ 19 * (max (Lg 5) (k_states n) - Lg 5) ∧ (25 * (k_states n).toNat + 13 : Int) ≤ 76 * (max (Lg 5) (k_states n) - Lg 5) := by
  have := st_v h0 h3
  omega
