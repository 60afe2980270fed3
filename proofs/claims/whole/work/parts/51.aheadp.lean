/-! ===== the array of arrays ===== -/
theorem arrV_cg {c : ClassId} {N : Nat} {f f' : Nat → Value} (h : ∀ j, j < N → f j = f' j) : arrV c N f = arrV c N f' := by
  unfold arrV
  congr 1
  apply Array.ext
  · simp
  · intro i h1 h2
    simp at h1
    simp [h i h1]
/-- thirteen new arrays, and the array of them -/
def mh (g : GX) (h : Hp) (q : Nat) (n : Int) : Hp := fun a => if a = q then some (aq g 13 (fun i => q + 1 + i.toNat)) else if q < a ∧ a ≤ q + 13 then some (ai g n (fun _ => 0)) else h a
section GMN
variable {p : Program} {l : Launch} {e : Env} {R : Room} {s : State} {m : MethodId} {args : Array Value} {below : List Frame} {meth : Method} {c : Code} {H : Heap} {locs : List Loc} {cells slots : Nat} {Q : State → Prop}
variable {cc : ByteArray} {pc : Nat} {ls : Array Slot} {rest : List Value} {g : GX} {base : Nat} {sa : Nat → Nat} {h : Hp}
theorem g_mna (hexec : p.tables.exec = Jvm.exec) (hb : c.code = cc) {own : String} {index : Nat} (hown : s.vm.findClass own = some m.cls) (hclink : (Cond.classLink own index "[[I").before args s = true) (harr : (Cond.arrayClass .int).before args s = true) (hK : KK g base sa s) (hW : Wd g base h H) (hS : va_S (Ab base) s.heap H locs) {n : Int} (h0 : 0 ≤ n) (hn : n ≤ 1000000) (hcells : cells + 14 ≤ R.cells) (hslots : slots + (13 + 13 * n.toNat) ≤ R.slots) (hdg : decode cc pc = .ok (.multianewarray index 2, 4))
    (kk : ∀ (q : Nat) (H1 : Heap), (∀ a, q ≤ a → h a = none) → Wd g base (mh g h q n) H1 → va_S (Ab base) s.heap H1 locs → W p l e R s m args below meth c H1 locs (cells + 14) (slots + (13 + 13 * n.toNat)) Q (F0 m (pc + 4) ls (.ref q :: rest))) : W p l e R s m args below meth c H locs cells slots Q (F0 m pc ls (.int (J n) :: .int (J 13) :: rest)) := by
  intro T hT Xs
  have e13 : (J 13).toNatClampNeg = 13 := by decide
  have en : (J n).toNatClampNeg = n.toNat := J_clamp h0 (by omega)
  have hnn : n.toNat ≤ 1000000 := by omega
  obtain ⟨v, cA, cI, fA, fC, X', step⟩ := mw_step (N := 13) (M := n.toNat) Xs hexec hown hclink hK.2.1.2 harr (f := F0 m pc ls (.int (J n) :: .int (J 13) :: rest)) rfl (by rw [hb]; exact hdg) rfl (by decide) (by rw [J_zero, J_lt ⟨by omega, by omega⟩ i32_0]; omega) e13 en (by decide) hnn (by omega) hslots
  have ecA : cA = g.2 3 := by
    have h9 : s.vm.findClass ("[" ++ (FieldType.toString (.array .int))) = some (g.2 3) := (hK.1.2 3 _ rfl).2
    exact Option.some.inj (fA.symm.trans h9)
  have eco : cI = g.2 0 := by
    have h9 : s.vm.findClass ("[" ++ (FieldType.toString .int)) = some (g.2 0) := (hK.1.2 0 _ rfl).2
    exact Option.some.inj (fC.symm.trans h9)
  subst ecA
  subst eco
  obtain ⟨f1, f2, hold, hrow, -⟩ := mw_f (T.setVm v) (g.2 3) (g.2 0) 13 n.toNat 13
  generalize hF : mw_t (T.setVm v) (g.2 3) (g.2 0) 13 n.toNat 13 = F at X' step f1 f2 hold hrow
  have hTh : (T.setVm v).heap = H := hT
  rw [hTh] at f1 f2 hold hrow
  have hrow : ∀ j : Nat, j < 13 → F.heap[H.size + 1 + j]? = some (vp_cell (g.2 0) (n.toNat, .inl (fun _ => J 0))) := fun j hj => by
    rw [hrow j hj, vp_cell_i]
    rfl
  have hout : mw_o (g.2 3) 13 H.size 13 = vp_cell (g.2 3) ((13 : Int).toNat, .inr (.inr (.inr (.inr (fun k : Nat => some ((fun i : Int => H.size + 1 + i.toNat) k)))))) := by
    rw [vp_cell_q]
    refine arrV_cg (fun j hj => ?_)
    rw [if_pos hj]
    simp
  rw [hout] at f2
  have hbs : base ≤ H.size := Nat.le_trans hK.2.1.1 hS.1
  have hnone : ∀ a, H.size ≤ a → h a = none := fun a ha => by
    cases hh : h a with
    | none => rfl
    | some x => exact absurd (hW.lt hh) (by omega)
  have hW1 : Wd g base (mh g h H.size n) F.heap := fun a x hx => by
    unfold mh at hx
    split at hx
    · next ea =>
      cases hx
      subst ea
      exact ⟨hbs, f2⟩
    · split at hx
      · next ea =>
        cases hx
        refine ⟨by omega, ?_⟩
        have := hrow (a - (H.size + 1)) (by omega)
        rw [show H.size + 1 + (a - (H.size + 1)) = a by omega] at this
        exact this
      · exact ⟨(hW a x hx).1, (hW a x hx).2.kept (hold a (hW.lt hx))⟩
  obtain ⟨t, a1, b1⟩ := kk H.size F.heap hnone hW1 ⟨by rw [f1]; have := hS.1; omega, fun x h1 h2 => (hold x (Nat.lt_of_lt_of_le h1 hS.1)).trans (hS.2.1 x h1 h2), hS.2.2⟩ F rfl (by rw [show cells + 14 = cells + 1 + 13 by omega, show slots + (13 + 13 * n.toNat) = slots + 13 + 13 * n.toNat by omega]; exact X')
  refine ⟨t, step t ?_, b1⟩
  have e9 : T.heap.size = H.size := by rw [hT]
  rw [e9]
  exact a1
end GMN
def AH (g : GX) (h : Hp) (q : Nat) (n : Int) (ad : Int → Nat) (B : Int → Int → Int) : Prop := h q = some (aq g 13 ad) ∧ (∀ i, 0 ≤ i → i < 13 → h (ad i) = some (ai g n (B i))) ∧ ∀ i j, 0 ≤ i → i < 13 → 0 ≤ j → j < 13 → ad i = ad j → i = j
def FA (q : Nat) (ad : Int → Nat) (a : Nat) : Prop := a = q ∨ ∃ i, 0 ≤ i ∧ i < 13 ∧ a = ad i
theorem AH.fr {g : GX} {h h1 : Hp} {q : Nat} {n : Int} {ad : Int → Nat} {B : Int → Int → Int} {P : Nat → Prop} (hA : AH g h q n ad B) (hF : Fr P h h1) (hd : ∀ a, FA q ad a → ¬ P a) : AH g h1 q n ad B :=
  ⟨hF.1 _ _ hA.1 (hd _ (Or.inl rfl)), fun i i0 i1 => hF.1 _ _ (hA.2.1 i i0 i1) (hd _ (Or.inr ⟨i, i0, i1, rfl⟩)), hA.2.2⟩
theorem AH.st {g : GX} {h : Hp} {q : Nat} {n : Int} {ad : Int → Nat} {B : Int → Int → Int} (hA : AH g h q n ad B) {i : Int} (i0 : 0 ≤ i) (i1 : i < 13) (f : Int → Int) : AH g (uh h (ad i) (ai g n f)) q n ad (uf B i f) := by
  refine ⟨?_, fun j j0 j1 => ?_, hA.2.2⟩
  · rw [uh_ne _ _ (fun e => by
      have h1 := hA.2.1 i i0 i1
      rw [← e, hA.1] at h1
      unfold aq ai at h1
      injection h1 with h1
      injection h1 with h1
      injection h1 with _ h1
      injection h1 with _ h1
      cases h1)]
    exact hA.1
  · by_cases e : j = i
    · subst e
      rw [uh_same, uf_same]
    · rw [uf_ne _ _ e, uh_ne _ _ (fun w => e (hA.2.2 j i j0 j1 i0 i1 w))]
      exact hA.2.1 j j0 j1
theorem AH.new {g : GX} {h : Hp} {q : Nat} {n : Int} : AH g (mh g h q n) q n (fun i => q + 1 + i.toNat) (fun _ _ => 0) := by
  refine ⟨if_pos rfl, fun i i0 i1 => ?_, fun i j i0 _ j0 _ e => by have e9 : q + 1 + i.toNat = q + 1 + j.toNat := e; omega⟩
  show (if q + 1 + i.toNat = q then _ else if q < q + 1 + i.toNat ∧ q + 1 + i.toNat ≤ q + 13 then _ else _) = _
  rw [if_neg (by omega), if_pos (by omega)]
theorem Fr_mh {g : GX} {h h1 : Hp} {q : Nat} {n : Int} {P : Nat → Prop} (hF : Fr P h h1) (hn : ∀ a, q ≤ a → h1 a = Option.none) : Fr P h (mh g h1 q n) := by
  refine ⟨fun a x hx hp => ?_, fun a ha => ?_⟩
  · have h9 := hF.1 a x hx hp
    have : a < q := by
      rcases Nat.lt_or_ge a q with w | w
      · exact w
      · rw [hn a w] at h9; cases h9
    unfold mh
    rw [if_neg (by omega), if_neg (by omega)]
    exact h9
  · have h9 := hF.2 a ha
    unfold mh
    split
    · exact fun w => by cases w
    · split
      · exact fun w => by cases w
      · exact h9
/-! ===== pure: ways of the glasses, the fewest turned ===== -/
theorem GP_n {lp : Int → Int → Int} {C : Int} : ∀ (l : List Int) (x y t c : Int), GP lp C l x y t c → 0 ≤ t ∧ 0 ≤ c
  | [], x, y, t, c, h => by
    obtain ⟨-, e2, e3⟩ := h
    omega
  | b :: l, x, y, t, c, h => by
    obtain ⟨-, -, -, t', c', h2, h3, h4⟩ := h
    have := GP_n l _ _ _ _ h2
    have := bc_r b
    have := Int.emod_nonneg (lp x b) (show (16 : Int) ≠ 0 by decide)
    omega
def BQ (fr : Int) (lp : Int → Int → Int) (C x s v : Int) : Prop := (v = fr ∧ ∀ l y c, ¬ GP lp C l x y s c) ∨ (0 ≤ v ∧ v ≤ 3 * s ∧ (∃ l y, GP lp C l x y s v) ∧ ∀ l y c, GP lp C l x y s c → v ≤ c)
def FT (fr : Int) (lp : Int → Int → Int) (C x s k v : Int) : Prop := (v = fr ∧ ∀ a l y c, a < k → ¬ GP lp C (a :: l) x y s c) ∨ (0 ≤ v ∧ v ≤ 3 * s ∧ (∃ a l y, a < k ∧ GP lp C (a :: l) x y s v) ∧ ∀ a l y c, a < k → GP lp C (a :: l) x y s c → v ≤ c)
theorem BQ_0 (fr : Int) (lp : Int → Int → Int) (C x : Int) : BQ fr lp C x 0 0 := Or.inr ⟨by omega, by omega, ⟨[], x, rfl, rfl, rfl⟩, fun l y c h => (GP_n l _ _ _ _ h).2⟩
theorem FT_0 (fr : Int) (lp : Int → Int → Int) (C x s : Int) : FT fr lp C x s 0 fr := Or.inl ⟨rfl, fun a l y c ha h => by have := h.1; omega⟩
theorem FT_r {fr : Int} {lp : Int → Int → Int} {C x s k v : Int} (h : FT fr lp C x s k v) : v = fr ∨ (0 ≤ v ∧ v ≤ 3 * s) := h.imp (fun w => w.1) (fun w => ⟨w.1, w.2.1⟩)
theorem BQ_r {fr : Int} {lp : Int → Int → Int} {C x s v : Int} (h : BQ fr lp C x s v) : v = fr ∨ (0 ≤ v ∧ v ≤ 3 * s) := h.imp (fun w => w.1) (fun w => ⟨w.1, w.2.1⟩)
theorem FT_skip {fr : Int} {lp : Int → Int → Int} {C x s a v : Int} (h : FT fr lp C x s a v) (hn : ∀ l y c, ¬ GP lp C (a :: l) x y s c) : FT fr lp C x s (a + 1) v := by
  rcases h with ⟨h1, h2⟩ | ⟨h1, h2, ⟨b, l, y, hb, hl⟩, h4⟩
  · refine Or.inl ⟨h1, fun b l y c hb => ?_⟩
    by_cases e : b = a
    · subst e; exact hn l y c
    · exact h2 b l y c (by omega)
  · refine Or.inr ⟨h1, h2, ⟨b, l, y, by omega, hl⟩, fun b l y c hb hl => ?_⟩
    by_cases e : b = a
    · subst e; exact absurd hl (hn l y c)
    · exact h4 b l y c (by omega) hl
theorem FT_no {fr : Int} {lp : Int → Int → Int} {C x s a v : Int} (h : FT fr lp C x s a v) (hc : lp x a = -1 ∨ s < lp x a % 16 ∨ (lp x a ≠ -1 ∧ BQ fr lp C (lp x a / 16) (s - lp x a % 16) fr ∧ 3 * s < fr)) : FT fr lp C x s (a + 1) v :=
  FT_skip h (fun l y c hg => by
    obtain ⟨-, -, b2, t', c', h2, h3, h4⟩ := hg
    have hn := GP_n l _ _ _ _ h2
    rcases hc with w | w | ⟨-, w, w2⟩
    · exact b2 w
    · omega
    · have e : t' = s - lp x a % 16 := by omega
      have := Int.emod_nonneg (lp x a) (show (16 : Int) ≠ 0 by decide)
      rw [e] at h2
      rcases w with ⟨-, w⟩ | ⟨w3, w4, w5, w6⟩
      · exact w l y c' h2
      · omega)
theorem FT_min {fr : Int} {lp : Int → Int → Int} {C x s a v w : Int} (h : FT fr lp C x s a v) (a0 : 0 ≤ a) (a1 : a < C) (hn : lp x a ≠ -1) (hd : 1 ≤ lp x a % 16) (hs : 3 * s < fr) (hw : BQ fr lp C (lp x a / 16) (s - lp x a % 16) w) (hf : w < fr) : FT fr lp C x s (a + 1) (min v (w + bc a)) := by
  rcases hw with ⟨w1, -⟩ | ⟨w1, w2, ⟨l, y, hl⟩, w4⟩
  · omega
  · have hb := bc_r a
    have hgo : GP lp C (a :: l) x y s (w + bc a) := ⟨a0, a1, hn, _, _, hl, by omega, by omega⟩
    have hall : ∀ l y c, GP lp C (a :: l) x y s c → w + bc a ≤ c := fun l y c hg => by
      obtain ⟨-, -, -, t', c', h2, h3, h4⟩ := hg
      rw [show t' = s - lp x a % 16 by omega] at h2
      have := w4 l y c' h2
      omega
    right
    rcases h with ⟨h1, h2⟩ | ⟨h1, h2, ⟨b, l', y', hb', hl'⟩, h4⟩
    · rw [show min v (w + bc a) = w + bc a by omega]
      refine ⟨by omega, by omega, ⟨a, l, y, by omega, hgo⟩, fun b l y c hb hg => ?_⟩
      by_cases e : b = a
      · subst e; exact hall l y c hg
      · exact absurd hg (h2 b l y c (by omega))
    · refine ⟨by omega, by omega, ?_, fun b l y c hb hg => ?_⟩
      · by_cases q : v ≤ w + bc a
        · rw [show min v (w + bc a) = v by omega]
          exact ⟨b, l', y', by omega, hl'⟩
        · rw [show min v (w + bc a) = w + bc a by omega]
          exact ⟨a, l, y, by omega, hgo⟩
      · by_cases e : b = a
        · subst e
          have := hall l y c hg
          omega
        · have := h4 b l y c (by omega) hg
          omega
theorem FT_end {fr : Int} {lp : Int → Int → Int} {C x s v : Int} (h : FT fr lp C x s C v) (hs : 0 < s) : BQ fr lp C x s v := by
  have hcons : ∀ l y c, GP lp C l x y s c → ∃ a l', l = a :: l' ∧ a < C := fun l y c hg => by
    cases l with
    | nil => obtain ⟨-, e, -⟩ := hg; omega
    | cons a l' => exact ⟨a, l', rfl, hg.2.1⟩
  rcases h with ⟨h1, h2⟩ | ⟨h1, h2, ⟨b, l, y, hb, hl⟩, h4⟩
  · refine Or.inl ⟨h1, fun l y c hg => ?_⟩
    obtain ⟨a, l', e, ha⟩ := hcons l y c hg
    subst e
    exact h2 a l' y c ha hg
  · refine Or.inr ⟨h1, h2, ⟨_, y, hl⟩, fun l y c hg => ?_⟩
    obtain ⟨a, l', e, ha⟩ := hcons l y c hg
    subst e
    exact h4 a l' y c ha hg
/-- the rows of the ring: those of the last twelve spans, and of this one up to k -/
def RG (lp : Int → Int → Int) (C : Int) (ev : Int → Int) (r : Int) (B : Int → Int → Int) (s k : Int) : Prop := (∀ j i, 0 ≤ j → s - 13 < j → j < s → 0 ≤ i → i < r → BQ 1000000 lp C (ev i) j (B (j % 13) (ev i))) ∧ ∀ i, 0 ≤ i → i < k → BQ 1000000 lp C (ev i) s (B (s % 13) (ev i))
theorem RG_next {lp : Int → Int → Int} {C : Int} {ev : Int → Int} {r : Int} {B : Int → Int → Int} {s : Int} (h : RG lp C ev r B s r) : RG lp C ev r B (s + 1) 0 :=
  ⟨fun j i j0 j1 j2 i0 i1 => by
    by_cases e : j = s
    · subst e; exact h.2 i i0 i1
    · exact h.1 j i j0 (by omega) (by omega) i0 i1, fun i i0 i1 => by omega⟩
theorem RG_st {lp : Int → Int → Int} {C : Int} {ev : Int → Int} {r : Int} {B : Int → Int → Int} {s k v : Int} (hd : ∀ i j, 0 ≤ i → i < j → j < r → ev i ≠ ev j) (h : RG lp C ev r B s k) (s0 : 0 ≤ s) (k0 : 0 ≤ k) (k1 : k < r) (hv : BQ 1000000 lp C (ev k) s v) : RG lp C ev r (uf B (s % 13) (uf (B (s % 13)) (ev k) v)) s (k + 1) := by
  refine ⟨fun j i j0 j1 j2 i0 i1 => ?_, fun i i0 i1 => ?_⟩
  · rw [uf_ne _ _ (show j % 13 ≠ s % 13 by omega)]
    exact h.1 j i j0 j1 j2 i0 i1
  · rw [uf_same]
    by_cases e : i = k
    · subst e; rw [uf_same]; exact hv
    · rw [uf_ne _ _ (hd i k i0 (by omega) k1)]
      exact h.2 i i0 (by omega)
/-- the answers: the least time from which such a span can be measured, and the fewest turned then -/
def AN (ev : Int → Int) (ea tu b : Int → Int) (k le su : Int) : Prop := (le = 1000000 ∧ su = 1000000 ∧ ∀ i, 0 ≤ i → i < k → b (ev i) ≠ 1000000 → 60 < ea (ev i)) ∨
  (0 ≤ le ∧ le ≤ 60 ∧ 0 ≤ su ∧ su ≤ 1000 ∧ (∃ i, 0 ≤ i ∧ i < k ∧ ea (ev i) = le ∧ b (ev i) ≠ 1000000 ∧ su = tu (ev i) + b (ev i)) ∧ ∀ i, 0 ≤ i → i < k → b (ev i) ≠ 1000000 → ea (ev i) ≤ 60 → le ≤ ea (ev i) ∧ (ea (ev i) = le → su ≤ tu (ev i) + b (ev i)))
theorem AN_0 (ev ea tu b : Int → Int) : AN ev ea tu b 0 1000000 1000000 := Or.inl ⟨rfl, rfl, fun i i0 i1 => by omega⟩
theorem AN_r {ev ea tu b : Int → Int} {k le su : Int} (h : AN ev ea tu b k le su) : (le = 1000000 ∧ su = 1000000) ∨ (0 ≤ le ∧ le ≤ 60 ∧ 0 ≤ su ∧ su ≤ 1000) := h.imp (fun w => ⟨w.1, w.2.1⟩) (fun w => ⟨w.1, w.2.1, w.2.2.1, w.2.2.2.1⟩)
theorem AN_no {ev ea tu b : Int → Int} {k le su : Int} (h : AN ev ea tu b k le su) (hk : 0 ≤ k) (hc : b (ev k) = 1000000 ∨ 60 < ea (ev k) ∨ le < ea (ev k)) : AN ev ea tu b (k + 1) le su := by
  rcases h with ⟨h1, h2, h3⟩ | ⟨h1, h2, h2a, h2b, ⟨i, i0, i1, i2⟩, h4⟩
  · refine Or.inl ⟨h1, h2, fun i i0 i1 hb => ?_⟩
    by_cases e : i = k
    · subst e; omega
    · exact h3 i i0 (by omega) hb
  · refine Or.inr ⟨h1, h2, h2a, h2b, ⟨i, i0, by omega, i2⟩, fun i i0 i1 hb he => ?_⟩
    by_cases e : i = k
    · subst e; omega
    · exact h4 i i0 (by omega) hb he
theorem AN_new {ev ea tu b : Int → Int} {k le su : Int} (h : AN ev ea tu b k le su) (hk : 0 ≤ k) (hb : b (ev k) ≠ 1000000) (he0 : 0 ≤ ea (ev k)) (he : ea (ev k) ≤ 60) (hr : 0 ≤ tu (ev k) + b (ev k) ∧ tu (ev k) + b (ev k) ≤ 1000) (hl : ea (ev k) < le) : AN ev ea tu b (k + 1) (ea (ev k)) (min 1000000 (tu (ev k) + b (ev k))) := by
  rw [show min 1000000 (tu (ev k) + b (ev k)) = tu (ev k) + b (ev k) by omega]
  refine Or.inr ⟨he0, he, hr.1, hr.2, ⟨k, hk, by omega, rfl, hb, rfl⟩, fun i i0 i1 hbi hei => ?_⟩
  by_cases e : i = k
  · subst e; exact ⟨by omega, fun _ => by omega⟩
  · rcases h with ⟨h1, h2, h3⟩ | ⟨h1, h2, h2a, h2b, -, h4⟩
    · have := h3 i i0 (by omega) hbi
      omega
    · have := h4 i i0 (by omega) hbi hei
      omega
theorem AN_more {ev ea tu b : Int → Int} {k le su : Int} (h : AN ev ea tu b k le su) (hk : 0 ≤ k) (hb : b (ev k) ≠ 1000000) (he : ea (ev k) ≤ 60) (hr : 0 ≤ tu (ev k) + b (ev k) ∧ tu (ev k) + b (ev k) ≤ 1000) (hl : ea (ev k) = le) : AN ev ea tu b (k + 1) le (min su (tu (ev k) + b (ev k))) := by
  rcases h with ⟨h1, h2, h3⟩ | ⟨h1, h2, h2a, h2b, ⟨i, i0, i1, i2, i3, i4⟩, h4⟩
  · omega
  · refine Or.inr ⟨h1, h2, by omega, by omega, ?_, fun i i0 i1 hbi hei => ?_⟩
    · by_cases q : su ≤ tu (ev k) + b (ev k)
      · rw [show min su (tu (ev k) + b (ev k)) = su by omega]
        exact ⟨i, i0, by omega, i2, i3, i4⟩
      · rw [show min su (tu (ev k) + b (ev k)) = tu (ev k) + b (ev k) by omega]
        exact ⟨k, hk, by omega, hl, hb, rfl⟩
    · by_cases e : i = k
      · subst e; exact ⟨by omega, fun _ => by omega⟩
      · have := h4 i i0 (by omega) hbi hei
        exact ⟨this.1, fun q => by have := this.2 q; omega⟩
/-- what is asked of the two answers, in terms of the ways alone -/
def WT (lp : Int → Int → Int) (C s w t : Int) : Prop := (w = -1 ∧ t = -1 ∧ ∀ l1 x t1 c1 l2 y c2, GP lp C l1 0 x t1 c1 → t1 ≤ 60 → ¬ GP lp C l2 x y s c2) ∨
  (0 ≤ w ∧ w ≤ 60 ∧ 0 ≤ t ∧ t ≤ 1000 ∧ (∃ l1 x c1 l2 y c2, GP lp C l1 0 x w c1 ∧ GP lp C l2 x y s c2 ∧ t = c1 + c2) ∧ ∀ l1 x t1 c1 l2 y c2, GP lp C l1 0 x t1 c1 → t1 ≤ 60 → GP lp C l2 x y s c2 → w ≤ t1 ∧ (t1 = w → t ≤ c1 + c2))
theorem WT_one {lp : Int → Int → Int} {C s w t w' t' : Int} (h : WT lp C s w t) (h' : WT lp C s w' t') : w = w' ∧ t = t' := by
  rcases h with ⟨h1, h2, h3⟩ | ⟨h1, h2, -, -, ⟨l1, x, c1, l2, y, c2, g1, g2, g3⟩, h4⟩ <;> rcases h' with ⟨k1, k2, k3⟩ | ⟨k1, k2, -, -, ⟨m1, x', d1, m2, y', d2, f1, f2, f3⟩, k4⟩
  · omega
  · exact absurd f2 (h3 _ _ _ _ _ _ _ f1 (by omega))
  · exact absurd g2 (k3 _ _ _ _ _ _ _ g1 (by omega))
  · have a1 := h4 _ _ _ _ _ _ _ f1 (by omega) f2
    have a2 := k4 _ _ _ _ _ _ _ g1 (by omega) g2
    have e : w = w' := by omega
    have a3 := a1.2 e.symm
    have a4 := a2.2 e
    omega
theorem EF_way {N M : Int} {lp : Int → Int → Int} {C : Int} {ev li lq ea tu : Int → Int} {r z : Int} (hL : LE N M lp C ev li lq r z) (hz : 8 * r ≤ z) (hC : C ≤ 8) (h : EF lp C ev r ea tu 61 0 0) : ∀ (l : List Int) (i t0 c0 y t c : Int), 0 ≤ i → i < r → ea (ev i) ≤ t0 → (ea (ev i) = t0 → tu (ev i) ≤ c0) → 0 ≤ t0 → GP lp C l (ev i) y t c → t0 + t ≤ 60 → ∃ j, 0 ≤ j ∧ j < r ∧ ev j = y ∧ ea y ≤ t0 + t ∧ (ea y = t0 + t → tu y ≤ c0 + c)
  | [], i, t0, c0, y, t, c, i0, i1, he, ht, _, hg, hs => by
    obtain ⟨e1, e2, e3⟩ := hg
    subst e1; subst e2; subst e3
    exact ⟨i, i0, i1, rfl, by omega, fun q => by have := ht (by omega); omega⟩
  | a :: l, i, t0, c0, y, t, c, i0, i1, he, ht, ht0, hg, hs => by
    obtain ⟨a0, a1, a2, t', c', h2, h3, h4⟩ := hg
    obtain ⟨-, j, j0, j1, j2⟩ := (hL.2.2.2.2.2.2 i a i0 i1 a0 a1 (by omega)).imp id (fun w => w a2)
    have hn := GP_n l _ _ _ _ h2
    have hm := Int.emod_nonneg (lp (ev i) a) (show (16 : Int) ≠ 0 by decide)
    have h5 := h.2.2.2 i a i0 i1 a0 a1 (Or.inl (by omega)) a2
    rw [← j2] at h2 h5
    obtain ⟨k, k0, k1, k2, k3, k4⟩ := EF_way hL hz hC h l j (t0 + lp (ev i) a % 16) (c0 + bc a) y t' c' j0 j1 (by omega) (fun q => by
      have q2 : ea (ev i) = t0 := by omega
      have := ht q2
      have := h5.2 (by omega)
      omega) (by omega) h2 (by omega)
    exact ⟨k, k0, k1, k2, by omega, fun q => by have := k4 (by omega); omega⟩
theorem AN_WT {N M : Int} {lp : Int → Int → Int} {C : Int} {ev li lq ea tu : Int → Int} {r z s le su : Int} {b : Int → Int} (hL : LE N M lp C ev li lq r z) (hz : 8 * r ≤ z) (hC : C ≤ 8) (h : EF lp C ev r ea tu 61 0 0) (hb : ∀ i, 0 ≤ i → i < r → BQ 1000000 lp C (ev i) s (b (ev i))) (hs : 3 * s < 1000000) (hA : AN ev ea tu b r le su) : WT lp C s (if le = 1000000 then -1 else le) (if le = 1000000 then -1 else su) := by
  have hr1 := hL.1
  have h00 := hL.2.2.1
  have key : ∀ l1 x t1 c1 l2 y c2, GP lp C l1 0 x t1 c1 → t1 ≤ 60 → GP lp C l2 x y s c2 → ∃ j, 0 ≤ j ∧ j < r ∧ ev j = x ∧ ea x ≤ t1 ∧ (ea x = t1 → tu x ≤ c1) ∧ b x ≠ 1000000 ∧ b x ≤ c2 := fun l1 x t1 c1 l2 y c2 g1 ht g2 => by
    rw [← h00] at g1
    obtain ⟨j, j0, j1, j2, j3, j4⟩ := EF_way hL hz hC h l1 0 0 0 x t1 c1 (by omega) (by omega) (by rw [h00, h.2.1]; omega) (fun _ => by rw [h00, h.2.2.1]; omega) (by omega) g1 (by omega)
    have hq := hb j j0 j1
    rw [j2] at hq
    refine ⟨j, j0, j1, j2, by omega, fun q => by have := j4 (by omega); omega, ?_⟩
    rcases hq with ⟨-, w⟩ | ⟨w1, w2, -, w4⟩
    · exact absurd g2 (w l2 y c2)
    · exact ⟨by omega, w4 l2 y c2 g2⟩
  rcases hA with ⟨a1, a2, a3⟩ | ⟨a1, a2, a2a, a2b, ⟨i, i0, i1, i2, i3, i4⟩, a4⟩
  · rw [if_pos a1, if_pos a1]
    refine Or.inl ⟨rfl, rfl, fun l1 x t1 c1 l2 y c2 g1 ht g2 => ?_⟩
    obtain ⟨j, j0, j1, j2, j3, j4, j5, j6⟩ := key l1 x t1 c1 l2 y c2 g1 ht g2
    have := a3 j j0 j1 (by rw [j2]; exact j5)
    rw [j2] at this
    omega
  · rw [if_neg (by omega), if_neg (by omega)]
    refine Or.inr ⟨a1, a2, a2a, a2b, ?_, fun l1 x t1 c1 l2 y c2 g1 ht g2 => ?_⟩
    · rcases h.1 i i0 i1 with w | ⟨-, -, -, -, l1, w⟩
      · omega
      · rcases hb i i0 i1 with v | ⟨-, -, ⟨l2, y, v⟩, -⟩
        · exact absurd v.1 i3
        · rw [i2] at w
          exact ⟨l1, ev i, tu (ev i), l2, y, b (ev i), w, v, i4⟩
    · obtain ⟨j, j0, j1, j2, j3, j4, j5, j6⟩ := key l1 x t1 c1 l2 y c2 g1 ht g2
      have h9 := a4 j j0 j1 (by rw [j2]; exact j5) (by rw [j2]; omega)
      rw [j2] at h9
      refine ⟨by omega, fun q => ?_⟩
      have e : ea x = le := by omega
      have := h9.2 e
      have := j4 (by omega)
      omega
theorem OB.putq {g : GX} {ci N : Nat} {kd : Nat → Nat} {h : Hp} {o q : Nat} {R R' : Nat → Nat} {I : Nat → Int} {L : Nat → Int} {A : Nat → Int → Int} (hM : OB g ci N kd h o R I L A) {k : Nat} (h0 : 3 < kd k) (hR : va_up R k q = R') : OB g ci N kd (uh h o (.inr (ci, (fls N kd R I).set k (.ref q)))) o R' I L A := by
  subst hR
  have hne : ∀ j, isA kd j → j ≠ k := fun j hj e => by subst e; unfold isA at hj; omega
  refine ⟨?_, fun j hj hja => ?_, fun i j hi hj hia hja e => ?_⟩
  · rw [uh_same, fls_set (R' := va_up R k q) (I' := I)]
    · simp only [fvl, va_up, if_pos]
      rw [if_neg (by omega)]
    · intro j hj hjk
      simp [fvl, va_up, hjk]
  · simp only [va_up, if_neg (hne j hja)]
    rw [uh_ne _ _ (hM.ne hj hja)]
    exact hM.2.1 j hj hja
  · simp only [va_up, if_neg (hne i hia), if_neg (hne j hja)] at e
    exact hM.2.2 i j hi hj hia hja e
theorem OB.lt {g : GX} {ci N : Nat} {kd : Nat → Nat} {h : Hp} {o : Nat} {R : Nat → Nat} {I : Nat → Int} {L : Nat → Int} {A : Nat → Int → Int} (hM : OB g ci N kd h o R I L A) {q : Nat} (hq : ∀ a, q ≤ a → h a = none) : ∀ z, FP N kd o R z → z < q := fun z hz => by
  have hs : h z ≠ none := by
    rcases hz with e | ⟨k, hk, ha, e⟩
    · rw [e, hM.1]; exact fun w => by cases w
    · rw [e, hM.2.1 k hk ha]; exact fun w => by cases w
  rcases Nat.lt_or_ge z q with w | w
  · exact w
  · exact absurd (hq z w) hs
/-- the glasses: the object with its arrays, and the array of arrays -/
def FG (o : Nat) (R : Nat → Nat) (ad : Int → Nat) (q : Nat) : Prop := FP 12 kd0 o R q ∨ FA (R 11) ad q
def LG (L : Nat → Int) : Prop := L 1 = 3 ∧ L 2 = 41 ∧ L 3 = 41 ∧ 0 ≤ L 5 ∧ L 5 ≤ 1728 ∧ L 6 = L 5 ∧ L 8 = 8 * L 5 ∧ L 9 = L 5 ∧ L 10 = L 5
def GB (g : GX) (h : Hp) (o : Nat) (R : Nat → Nat) (I : Nat → Int) (L : Nat → Int) (A : Nat → Int → Int) (ad : Int → Nat) (B : Int → Int → Int) : Prop := OB g 0 12 kd0 h o R I L A ∧ AH g h (R 11) (L 5) ad B ∧ (∀ q, FP 12 kd0 o R q → ¬ FA (R 11) ad q) ∧ LG L
theorem GB.fr {g : GX} {h h1 : Hp} {o : Nat} {R : Nat → Nat} {I : Nat → Int} {L : Nat → Int} {A : Nat → Int → Int} {ad : Int → Nat} {B : Int → Int → Int} {P : Nat → Prop} (hG : GB g h o R I L A ad B) (hF : Fr P h h1) (hd : ∀ q, FG o R ad q → ¬ P q) : GB g h1 o R I L A ad B :=
  ⟨hG.1.fr hF (fun q w => hd q (Or.inl w)), hG.2.1.fr hF (fun q w => hd q (Or.inr w)), hG.2.2⟩
