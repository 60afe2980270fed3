/-! ===== objects with their arrays: what a field is (kd: 0 a number, 1 int[], 2 long[], 3 boolean[], 4 and more: another reference) ===== -/
def Fr (P : Nat → Prop) (h h' : Hp) : Prop := (∀ (q : Nat) (e : va_E), h q = some e → ¬ P q → h' q = some e) ∧ ∀ q : Nat, h q ≠ none → h' q ≠ none
theorem Fr.rf {P : Nat → Prop} {h : Hp} : Fr P h h := ⟨fun _ _ e _ => e, fun _ e => e⟩
theorem Fr.tr {P P1 : Nat → Prop} {h h1 h2 : Hp} (a : Fr P h h1) (b : Fr P1 h1 h2) (c : ∀ q, P1 q → h q ≠ none → P q) : Fr P h h2 := ⟨fun q e hq hn => b.1 q e (a.1 q e hq hn) (fun z => hn (c q z (by rw [hq]; exact fun w => by cases w))), fun q hq => b.2 q (a.2 q hq)⟩
theorem uh_dom {h : Hp} {o q : Nat} {e : va_E} (hq : h q ≠ none) : uh h o e q ≠ none := by
  unfold uh
  split
  · exact fun w => by cases w
  · exact hq
theorem Fr.set {P : Nat → Prop} {h h1 : Hp} {o : Nat} {e : va_E} (a : Fr P h h1) (ho : P o) : Fr P h (uh h1 o e) := ⟨fun q x hq hn => by
  have hne : q ≠ o := fun z => hn (by rw [z]; exact ho)
  rw [uh_ne _ _ hne]
  exact a.1 q x hq hn, fun q hq => uh_dom (a.2 q hq)⟩
theorem Fr.new {P : Nat → Prop} {h h1 : Hp} {o : Nat} {e : va_E} (a : Fr P h h1) (ho : h1 o = none) : Fr P h (uh h1 o e) := ⟨fun q x hq hn => by
  have hq1 := a.1 q x hq hn
  have hne : q ≠ o := fun z => by rw [z, ho] at hq1; cases hq1
  rw [uh_ne _ _ hne]
  exact hq1, fun q hq => uh_dom (a.2 q hq)⟩
theorem Fr.mono {P P1 : Nat → Prop} {h h1 : Hp} (a : Fr P1 h h1) (c : ∀ q, P1 q → P q) : Fr P h h1 := ⟨fun q e hq hn => a.1 q e hq (fun z => hn (c q z)), a.2⟩
theorem Fr.none {P : Nat → Prop} {h h1 : Hp} {q : Nat} (a : Fr P h h1) (hq : h1 q = Option.none) : h q = Option.none := by
  cases hz : h q with
  | none => rfl
  | some z => exact absurd hq (a.2 q (by rw [hz]; exact fun w => by cases w))
/-- what was not there before doesn't count -/
theorem Fr.weak {P : Nat → Prop} {h h1 : Hp} (a : Fr (fun q => P q ∨ h q = Option.none) h h1) : Fr P h h1 := ⟨fun q e hq hn => a.1 q e hq (fun z => z.elim hn (fun w => by rw [hq] at w; cases w)), a.2⟩
def fvl (kd : Nat → Nat) (R : Nat → Nat) (I : Nat → Int) (k : Nat) : Value := if kd k = 0 then .int (J (I k)) else .ref (R k)
def fls (N : Nat) (kd : Nat → Nat) (R : Nat → Nat) (I : Nat → Int) : List Value := (List.range N).map (fvl kd R I)
def acell (g : GX) (t : Nat) (n : Int) (f : Int → Int) : va_E := if t = 1 then ai g n f else if t = 2 then al g n f else az g n f
def isA (kd : Nat → Nat) (k : Nat) : Prop := 1 ≤ kd k ∧ kd k ≤ 3
def OB (g : GX) (ci N : Nat) (kd : Nat → Nat) (h : Hp) (o : Nat) (R : Nat → Nat) (I : Nat → Int) (L : Nat → Int) (A : Nat → Int → Int) : Prop :=
  h o = some (.inr (ci, fls N kd R I)) ∧ (∀ k, k < N → isA kd k → h (R k) = some (acell g (kd k) (L k) (A k))) ∧ (∀ i j, i < N → j < N → isA kd i → isA kd j → R i = R j → i = j)
def FP (N : Nat) (kd : Nat → Nat) (o : Nat) (R : Nat → Nat) (q : Nat) : Prop := q = o ∨ ∃ k, k < N ∧ isA kd k ∧ q = R k
theorem FP.o {N : Nat} {kd : Nat → Nat} {o : Nat} {R : Nat → Nat} : FP N kd o R o := Or.inl rfl
theorem FP.a {N : Nat} {kd : Nat → Nat} {o : Nat} {R : Nat → Nat} (k : Nat) (hk : k < N) (ha : isA kd k) : FP N kd o R (R k) := Or.inr ⟨k, hk, ha, rfl⟩
theorem acell_inl (g : GX) (t : Nat) (n : Int) (f : Int → Int) : ∃ x, acell g t n f = .inl x := by
  unfold acell ai al az
  split
  · exact ⟨_, rfl⟩
  · split <;> exact ⟨_, rfl⟩
theorem fls_len (N : Nat) (kd : Nat → Nat) (R : Nat → Nat) (I : Nat → Int) : (fls N kd R I).length = N := by simp [fls]
theorem fls_at {N : Nat} {kd : Nat → Nat} {R : Nat → Nat} {I : Nat → Int} {k : Nat} (hk : k < N) : (fls N kd R I)[k]? = some (fvl kd R I k) := by simp [fls, hk]
theorem fls_set {N : Nat} {kd : Nat → Nat} {R R' : Nat → Nat} {I I' : Nat → Int} {k : Nat} {v : Value} (hv : fvl kd R' I' k = v) (ho : ∀ j, j < N → j ≠ k → fvl kd R' I' j = fvl kd R I j) : (fls N kd R I).set k v = fls N kd R' I' := by
  apply List.ext_getElem?
  intro j
  by_cases hj : j < N
  · by_cases hjk : j = k
    · subst hjk
      rw [List.getElem?_set_self (by rw [fls_len]; exact hj), fls_at hj, hv]
    · rw [List.getElem?_set_ne (Ne.symm hjk), fls_at hj, fls_at hj, ho j hj hjk]
  · rw [List.getElem?_eq_none (by simp [fls]; omega), List.getElem?_eq_none (by simp [fls]; omega)]
theorem OB.ne {g : GX} {ci N : Nat} {kd : Nat → Nat} {h : Hp} {o : Nat} {R : Nat → Nat} {I : Nat → Int} {L : Nat → Int} {A : Nat → Int → Int} (hM : OB g ci N kd h o R I L A) {k : Nat} (hk : k < N) (ha : isA kd k) : R k ≠ o := by
  intro z
  have h1 := hM.2.1 k hk ha
  rw [z, hM.1] at h1
  obtain ⟨x, hx⟩ := acell_inl g (kd k) (L k) (A k)
  rw [hx] at h1
  cases h1
theorem OB.fr {g : GX} {ci N : Nat} {kd : Nat → Nat} {h h1 : Hp} {o : Nat} {R : Nat → Nat} {I : Nat → Int} {L : Nat → Int} {A : Nat → Int → Int} {P : Nat → Prop} (hM : OB g ci N kd h o R I L A) (hF : Fr P h h1) (hd : ∀ q, FP N kd o R q → ¬ P q) : OB g ci N kd h1 o R I L A :=
  ⟨hF.1 _ _ hM.1 (hd _ FP.o), fun k hk ha => hF.1 _ _ (hM.2.1 k hk ha) (hd _ (FP.a k hk ha)), hM.2.2⟩
theorem OB.put {g : GX} {ci N : Nat} {kd : Nat → Nat} {h : Hp} {o : Nat} {R : Nat → Nat} {I I' : Nat → Int} {L : Nat → Int} {A : Nat → Int → Int} (hM : OB g ci N kd h o R I L A) {k : Nat} {z : Int} (h0 : kd k = 0) (hI : va_up I k z = I') : OB g ci N kd (uh h o (.inr (ci, (fls N kd R I).set k (.int (J z))))) o R I' L A := by
  subst hI
  refine ⟨?_, fun j hj ha => ?_, hM.2.2⟩
  · rw [uh_same, fls_set (R' := R) (I' := va_up I k z)]
    · simp [fvl, h0, va_up]
    · intro j hj hjk
      simp [fvl, va_up, hjk]
  · rw [uh_ne _ _ (hM.ne hj ha)]
    exact hM.2.1 j hj ha
theorem OB.ast {g : GX} {ci N : Nat} {kd : Nat → Nat} {h : Hp} {o : Nat} {R : Nat → Nat} {I : Nat → Int} {L : Nat → Int} {A A' : Nat → Int → Int} (hM : OB g ci N kd h o R I L A) {k : Nat} {f : Int → Int} (hk : k < N) (ha : isA kd k) (hA : va_up A k f = A') : OB g ci N kd (uh h (R k) (acell g (kd k) (L k) f)) o R I L A' := by
  subst hA
  refine ⟨?_, fun j hj hja => ?_, hM.2.2⟩
  · rw [uh_ne _ _ (Ne.symm (hM.ne hk ha))]
    exact hM.1
  · by_cases e : j = k
    · subst e
      rw [uh_same]
      simp [va_up]
    · rw [uh_ne _ _ (fun z => e (hM.2.2 j k hj hk hja ha z)), hM.2.1 j hj hja]
      simp [va_up, e]
/-- a field is given a new array -/
theorem OB.putr {g : GX} {ci N : Nat} {kd : Nat → Nat} {h : Hp} {o q : Nat} {R R' : Nat → Nat} {I : Nat → Int} {L L' : Nat → Int} {A A' : Nat → Int → Int} {n : Int} {f : Int → Int} (hM : OB g ci N kd h o R I L A) {k : Nat} (ha : isA kd k) (hq : h q = some (acell g (kd k) n f)) (hn : ∀ j, j < N → isA kd j → j ≠ k → R j ≠ q) (hR : va_up R k q = R') (hL : va_up L k n = L') (hA : va_up A k f = A') : OB g ci N kd (uh h o (.inr (ci, (fls N kd R I).set k (.ref q)))) o R' I L' A' := by
  subst hR; subst hL; subst hA
  have h0 : ¬ kd k = 0 := fun z => by unfold isA at ha; omega
  have hqo : q ≠ o := fun z => by
    rw [z, hM.1] at hq
    obtain ⟨x, hx⟩ := acell_inl g (kd k) n f
    rw [hx] at hq
    cases hq
  refine ⟨?_, fun j hj hja => ?_, fun i j hi hj hia hja e => ?_⟩
  · rw [uh_same, fls_set (R' := va_up R k q) (I' := I)]
    · simp [fvl, h0, va_up]
    · intro j hj hjk
      simp [fvl, va_up, hjk]
  · by_cases e : j = k
    · subst e
      simp only [va_up, if_pos]
      rw [uh_ne _ _ hqo]
      exact hq
    · simp only [va_up, if_neg e]
      rw [uh_ne _ _ (hM.ne hj hja)]
      exact hM.2.1 j hj hja
  · by_cases e1 : i = k <;> by_cases e2 : j = k
    · rw [e1, e2]
    · simp only [va_up, if_pos e1, if_neg e2] at e
      exact absurd e.symm (hn j hj hja e2)
    · simp only [va_up, if_neg e1, if_pos e2] at e
      exact absurd e (hn i hi hia e1)
    · simp only [va_up, if_neg e1, if_neg e2] at e
      exact hM.2.2 i j hi hj hia hja e
theorem OB.ai {g : GX} {ci N : Nat} {kd : Nat → Nat} {h : Hp} {o : Nat} {R : Nat → Nat} {I : Nat → Int} {L : Nat → Int} {A : Nat → Int → Int} (hM : OB g ci N kd h o R I L A) (k : Nat) (hk : k < N) (h1 : kd k = 1) : h (R k) = some (ai g (L k) (A k)) := by
  rw [hM.2.1 k hk ⟨by omega, by omega⟩, acell, if_pos h1]
theorem OB.al {g : GX} {ci N : Nat} {kd : Nat → Nat} {h : Hp} {o : Nat} {R : Nat → Nat} {I : Nat → Int} {L : Nat → Int} {A : Nat → Int → Int} (hM : OB g ci N kd h o R I L A) (k : Nat) (hk : k < N) (h1 : kd k = 2) : h (R k) = some (al g (L k) (A k)) := by
  rw [hM.2.1 k hk ⟨by omega, by omega⟩, acell, if_neg (by omega), if_pos h1]
theorem OB.az {g : GX} {ci N : Nat} {kd : Nat → Nat} {h : Hp} {o : Nat} {R : Nat → Nat} {I : Nat → Int} {L : Nat → Int} {A : Nat → Int → Int} (hM : OB g ci N kd h o R I L A) (k : Nat) (hk : k < N) (h1 : kd k = 3) : h (R k) = some (az g (L k) (A k)) := by
  rw [hM.2.1 k hk ⟨by omega, by omega⟩, acell, if_neg (by omega), if_neg (by omega)]
theorem Fr.one {h : Hp} {o : Nat} {e : va_E} : Fr (fun q => q = o) h (uh h o e) := ⟨fun q x hq hn => by rw [uh_ne _ _ hn]; exact hq, fun q hq => uh_dom hq⟩
section OR
variable {p : Program} {l : Launch} {e : Env} {Rm : Room} {s : State} {m : MethodId} {args : Array Value} {below : List Frame} {meth : Method} {c : Code} {H : Heap} {locs : List Loc} {cells slots : Nat} {Q : State → Prop}
variable {cc : ByteArray} {pc : Nat} {ls : Array Slot} {rest : List Value} {g : GX} {base : Nat} {sa : Nat → Nat} {h h0 : Hp} {o : Nat} {ci N : Nat} {kd : Nat → Nat} {R : Nat → Nat} {I I' : Nat → Int} {L : Nat → Int} {A A' : Nat → Int → Int} {P : Nat → Prop}
theorem o_put (hexec : p.tables.exec = Jvm.exec) (hb : c.code = cc) {own ref C : String} {T : u_T} {index : Nat} {Ts : List Cond} (hts : ∀ w ∈ Ts, w.before args s = true) (hin : ∀ w ∈ u_ws C T N, w ∈ Ts) (ty0 : Nat → FieldType) (hty : ∀ k, k < N → parseFieldDescriptor (T k).2.2.1 = some (ty0 k)) (hnm : ∀ a, a < N → ∀ b, b < N → a ≠ b → (T a).2.1 ≠ (T b).2.1) (hown : s.vm.findClass own = some m.cls) (hK : KK g base sa s) (hW : Wd g base h H) (hS : va_S (Ab base) s.heap H locs) (hM : OB g ci N kd h o R I L A) (hF : Fr P h0 h) (hPo : P o) (hc : vwCl[ci]? = some (C, T, N)) (k : Nat) (hk : k < N) (hkd : kd k = 0) (hlink : (Cond.fieldLink own index ref (T k).2.1 (T k).2.2.1).before args s = true) (hsame : (T k).1 = ref) (hfin : (T k).2.2.2 = false) {ty : FieldType} {z : Int} (hd : parseFieldDescriptor (T k).2.2.1 = some ty) (hn : narrow ty (.int (J z)) = .int (J z)) (hfit : fits ty (.int (J z)) = true) (hI : va_up I k z = I')
    (hdg : decode cc pc = .ok (.putfield index, 3)) (kk : ∀ (h1 : Hp) (H1 : Heap) (locs1 : List Loc), OB g ci N kd h1 o R I' L A → Fr P h0 h1 → Fr (fun q => q = o) h h1 → Wd g base h1 H1 → va_S (Ab base) s.heap H1 locs1 → W p l e Rm s m args below meth c H1 locs1 cells slots Q (F0 m (pc + 3) ls rest)) : W p l e Rm s m args below meth c H locs cells slots Q (F0 m pc ls (.int (J z) :: .ref o :: rest)) :=
  g_put hexec hb hts hin ty0 hty hnm hown hK hW hS hM.1 hc k hk hlink hsame hfin hd hn hfit (by rw [fls_len]; exact hk) hdg (fun H1 locs1 hW1 hS1 => kk _ H1 locs1 (hM.put hkd hI) (hF.set hPo) Fr.one hW1 hS1)
theorem o_iast (hexec : p.tables.exec = Jvm.exec) (hb : c.code = cc) (hK : KK g base sa s) (hW : Wd g base h H) (hS : va_S (Ab base) s.heap H locs) (hM : OB g ci N kd h o R I L A) (hF : Fr P h0 h) (k : Nat) (hk : k < N) (hkd : kd k = 1) (hP : P (R k)) {i x : Int} (h0i : 0 ≤ i) (hi : i < L k) (hn : L k < 2147483648) (hA : va_up A k (uf (A k) i x) = A') (hdg : decode cc pc = .ok (.iastore, 1))
    (kk : ∀ (h1 : Hp) (H1 : Heap) (locs1 : List Loc), OB g ci N kd h1 o R I L A' → Fr P h0 h1 → Fr (fun q => q = R k) h h1 → Wd g base h1 H1 → va_S (Ab base) s.heap H1 locs1 → W p l e Rm s m args below meth c H1 locs1 cells slots Q (F0 m (pc + 1) ls rest)) : W p l e Rm s m args below meth c H locs cells slots Q (F0 m pc ls (.int (J x) :: .int (J i) :: .ref (R k) :: rest)) :=
  g_iast hexec hb hK hW hS (hM.ai k hk hkd) h0i hi hn hdg (fun H1 locs1 hW1 hS1 => kk _ H1 locs1 (by have h9 := hM.ast (f := uf (A k) i x) hk ⟨by omega, by omega⟩ hA; rwa [acell, if_pos hkd] at h9) (hF.set hP) Fr.one hW1 hS1)
theorem o_last (hexec : p.tables.exec = Jvm.exec) (hb : c.code = cc) (hK : KK g base sa s) (hW : Wd g base h H) (hS : va_S (Ab base) s.heap H locs) (hM : OB g ci N kd h o R I L A) (hF : Fr P h0 h) (k : Nat) (hk : k < N) (hkd : kd k = 2) (hP : P (R k)) {i x : Int} (h0i : 0 ≤ i) (hi : i < L k) (hn : L k < 2147483648) (hA : va_up A k (uf (A k) i x) = A') (hdg : decode cc pc = .ok (.lastore, 1))
    (kk : ∀ (h1 : Hp) (H1 : Heap) (locs1 : List Loc), OB g ci N kd h1 o R I L A' → Fr P h0 h1 → Fr (fun q => q = R k) h h1 → Wd g base h1 H1 → va_S (Ab base) s.heap H1 locs1 → W p l e Rm s m args below meth c H1 locs1 cells slots Q (F0 m (pc + 1) ls rest)) : W p l e Rm s m args below meth c H locs cells slots Q (F0 m pc ls (.long (JL x) :: .int (J i) :: .ref (R k) :: rest)) :=
  g_last hexec hb hK hW hS (hM.al k hk hkd) h0i hi hn hdg (fun H1 locs1 hW1 hS1 => kk _ H1 locs1 (by have h9 := hM.ast (f := uf (A k) i x) hk ⟨by omega, by omega⟩ hA; rwa [acell, if_neg (by omega), if_pos hkd] at h9) (hF.set hP) Fr.one hW1 hS1)
theorem o_zast (hexec : p.tables.exec = Jvm.exec) (hb : c.code = cc) (hK : KK g base sa s) (hW : Wd g base h H) (hS : va_S (Ab base) s.heap H locs) (hM : OB g ci N kd h o R I L A) (hF : Fr P h0 h) (k : Nat) (hk : k < N) (hkd : kd k = 3) (hP : P (R k)) {i x : Int} (h0i : 0 ≤ i) (hi : i < L k) (hn : L k < 2147483648) (hx : x = 0 ∨ x = 1) (hA : va_up A k (uf (A k) i x) = A') (hdg : decode cc pc = .ok (.bastore, 1))
    (kk : ∀ (h1 : Hp) (H1 : Heap) (locs1 : List Loc), OB g ci N kd h1 o R I L A' → Fr P h0 h1 → Fr (fun q => q = R k) h h1 → Wd g base h1 H1 → va_S (Ab base) s.heap H1 locs1 → W p l e Rm s m args below meth c H1 locs1 cells slots Q (F0 m (pc + 1) ls rest)) : W p l e Rm s m args below meth c H locs cells slots Q (F0 m pc ls (.int (J x) :: .int (J i) :: .ref (R k) :: rest)) :=
  g_zast hexec hb hK hW hS (hM.az k hk hkd) h0i hi hn hx hdg (fun H1 locs1 hW1 hS1 => kk _ H1 locs1 (by have h9 := hM.ast (f := uf (A k) i x) hk ⟨by omega, by omega⟩ hA; rwa [acell, if_neg (by omega), if_neg (by omega)] at h9) (hF.set hP) Fr.one hW1 hS1)
theorem j_ldc (hexec : p.tables.exec = Jvm.exec) (hb : c.code = cc) {own : String} {index : Nat} {v : Int32} {z : Int} (hv : v = J z) (hown : s.vm.findClass own = some m.cls) (hconst : (Jvm.Cond.constant own index v).before args s = true) (hdg : decode cc pc = .ok (.ldc index, 2)) (k : W p l e Rm s m args below meth c H locs cells slots Q (F0 m (pc + 2) ls (.int (J z) :: rest))) : W p l e Rm s m args below meth c H locs cells slots Q (F0 m pc ls rest) := by
  subst hv
  exact lv_ldc hexec hb hown hconst hdg k
theorem j_ldc2 (hexec : p.tables.exec = Jvm.exec) (hb : c.code = cc) {own : String} {index : Nat} {v : Int64} {z : Int} (hv : v = JL z) (hown : s.vm.findClass own = some m.cls) (hconst : (Jvm.Cond.constantLong own index v).before args s = true) (hdg : decode cc pc = .ok (.ldc2_w index, 3)) (k : W p l e Rm s m args below meth c H locs cells slots Q (F0 m (pc + 3) ls (.long (JL z) :: rest))) : W p l e Rm s m args below meth c H locs cells slots Q (F0 m pc ls rest) := by
  subst hv
  exact lv_ldc2 hexec hb hown hconst hdg k
end OR
/-! ===== the classes ===== -/
def kd0 (k : Nat) : Nat := match k with | 0 => 0 | 1 => 1 | 2 => 1 | 3 => 1 | 4 => 0 | 5 => 1 | 6 => 3 | 7 => 0 | 8 => 1 | 9 => 1 | _ => 1
def kd1 (k : Nat) : Nat := match k with | 0 => 0 | 1 => 0 | 2 => 0 | 3 => 0 | _ => 1
def kd2 (k : Nat) : Nat := match k with | 0 => 5 | 1 => 5 | 2 => 5 | 3 => 5 | 4 => 5 | 5 => 2 | _ => 0
def kd3 (_ : Nat) : Nat := 1
def kd4 (k : Nat) : Nat := match k with | 3 => 0 | _ => 1
def kd5 (_ : Nat) : Nat := 5
def kd6 (k : Nat) : Nat := match k with | 1 => 1 | 2 => 1 | 6 => 1 | 8 => 1 | 9 => 1 | 14 => 1 | 15 => 1 | 16 => 1 | 18 => 2 | 19 => 3 | 20 => 1 | 23 => 1 | 24 => 1 | 25 => 1 | 26 => 1 | _ => 0
def mL (k : Nat) : Int := match k with | 1 => 4 | 2 => 4 | 6 => 3 | 8 => 4 | 9 => 4 | 14 => 351384 | 15 => 351384 | 16 => 14641 | 18 => 14641 | 19 => 14641 | 20 => 14641 | 23 => 17576 | 24 => 17576 | 25 => 134017 | 26 => 90077 | _ => 0
def L4 (_ : Nat) : Int := 4
theorem J_inc {x n v : Int} (h : x + n = v) : J x + Int32.ofInt n = J v := by
  subst h
  exact J_add x n
theorem nb_n {z : Int} (h : z = 0 ∨ z = 1) : narrow .boolean (.int (J z)) = .int (J z) := by rcases h with rfl | rfl <;> rfl
theorem nb_f {z : Int} (h : z = 0 ∨ z = 1) : fits .boolean (.int (J z)) = true := by rcases h with rfl | rfl <;> rfl
section MR
variable {p : Program} {l : Launch} {e : Env} {R : Room} {s : State} {m : MethodId} {args : Array Value} {below : List Frame} {meth : Method} {c : Code} {H : Heap} {locs : List Loc} {cells slots : Nat} {Q : State → Prop}
variable {cc : ByteArray} {pc : Nat} {ls : Array Slot} {rest : List Value}
theorem min_if (x y : Int) : (if y < x then y else x) = min x y := by
  rw [Int.min_def]
  split <;> split <;> omega
theorem max_if (x y : Int) : (if x < y then y else x) = max x y := by
  rw [Int.max_def]
  split <;> split <;> omega
theorem j_mmin (hexec : p.tables.exec = Jvm.exec) (hb : c.code = cc) (hml : c.maxLocals = ls.size) {own : String} {index : Nat} (hown : s.vm.findClass own = some m.cls) (hlink : (Cond.methodLink own index Lib.Math.min.name).before args s = true) (hstat : (Cond.static Lib.Math.min.name).before args s = true) (hini : (Cond.initialized "java/lang/Math").before args s = true) (hcode : (Cond.code Lib.Math.min.name Lib.Math.min.code 2 (some .int)).before args s = true)
    (hframes : 1 ≤ R.frames) (hlocals : (rest.map fun v => v.category).sum + 13 ≤ R.locals) (hc : cells ≤ R.cells) (hs : slots ≤ R.slots) {x y : Int} (hx : i32 x) (hy : i32 y) (hdg : decode cc pc = .ok (.invokestatic index, 3))
    (kk : W p l e R s m args below meth c H locs cells slots Q (F0 m (pc + 3) ls (.int (J (min x y)) :: rest))) : W p l e R s m args below meth c H locs cells slots Q (F0 m pc ls (.int (J y) :: .int (J x) :: rest)) := by
  refine va_mmin hexec hb hml hown hlink hstat hini hcode hframes hlocals hc hs hdg ?_
  have h9 : (if J y < J x then J y else J x) = J (min x y) := by
    rw [← min_if]
    by_cases q : y < x
    · rw [if_pos ((J_lt hy hx).mpr q), if_pos q]
    · rw [if_neg (fun z => q ((J_lt hy hx).mp z)), if_neg q]
  rw [h9]
  exact kk
theorem j_mmax (hexec : p.tables.exec = Jvm.exec) (hb : c.code = cc) (hml : c.maxLocals = ls.size) {own : String} {index : Nat} (hown : s.vm.findClass own = some m.cls) (hlink : (Cond.methodLink own index Lib.Math.max.name).before args s = true) (hstat : (Cond.static Lib.Math.max.name).before args s = true) (hini : (Cond.initialized "java/lang/Math").before args s = true) (hcode : (Cond.code Lib.Math.max.name Lib.Math.max.code 2 (some .int)).before args s = true)
    (hframes : 1 ≤ R.frames) (hlocals : (rest.map fun v => v.category).sum + 13 ≤ R.locals) (hc : cells ≤ R.cells) (hs : slots ≤ R.slots) {x y : Int} (hx : i32 x) (hy : i32 y) (hdg : decode cc pc = .ok (.invokestatic index, 3))
    (kk : W p l e R s m args below meth c H locs cells slots Q (F0 m (pc + 3) ls (.int (J (max x y)) :: rest))) : W p l e R s m args below meth c H locs cells slots Q (F0 m pc ls (.int (J y) :: .int (J x) :: rest)) := by
  refine va_mmax hexec hb hml hown hlink hstat hini hcode hframes hlocals hc hs hdg ?_
  have h9 : (if J x < J y then J y else J x) = J (max x y) := by
    rw [← max_if]
    by_cases q : x < y
    · rw [if_pos ((J_lt hx hy).mpr q), if_pos q]
    · rw [if_neg (fun z => q ((J_lt hx hy).mp z)), if_neg q]
  rw [h9]
  exact kk
theorem j_mminl (hexec : p.tables.exec = Jvm.exec) (hb : c.code = cc) (hml : c.maxLocals = ls.size) {own : String} {index : Nat} (hown : s.vm.findClass own = some m.cls) (hlink : (Cond.methodLink own index Lib.MathLoose.min_long.x).before args s = true) (hstat : (Cond.static Lib.MathLoose.min_long.x).before args s = true) (hini : (Cond.initialized "java/lang/Math").before args s = true) (hcode : (Cond.code Lib.MathLoose.min_long.x Lib.MathLoose.min_long.code 4 (some .long)).before args s = true)
    (hframes : 1 ≤ R.frames) (hlocals : (rest.map fun v => v.category).sum + 15 ≤ R.locals) (hc : cells ≤ R.cells) (hs : slots ≤ R.slots) {x y : Int} (hx : i64 x) (hy : i64 y) (hdg : decode cc pc = .ok (.invokestatic index, 3))
    (kk : W p l e R s m args below meth c H locs cells slots Q (F0 m (pc + 3) ls (.long (JL (min x y)) :: rest))) : W p l e R s m args below meth c H locs cells slots Q (F0 m pc ls (.long (JL y) :: .long (JL x) :: rest)) := by
  refine va_mmin_long hexec hb hml hown hlink hstat hini hcode hframes hlocals hc hs hdg ?_
  have h9 : (if JL y < JL x then JL y else JL x) = JL (min x y) := by
    rw [← min_if]
    by_cases q : y < x
    · rw [if_pos ((JL_lt hy hx).mpr q), if_pos q]
    · rw [if_neg (fun z => q ((JL_lt hy hx).mp z)), if_neg q]
  rw [h9]
  exact kk
end MR
