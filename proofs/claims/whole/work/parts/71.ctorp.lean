/-! ===== constructors ===== -/
theorem nd_inj : ∀ {l : List Nat}, l.Nodup → ∀ {i j : Nat}, i < l.length → j < l.length → l.getD i 0 = l.getD j 0 → i = j
  | [], _, i, j, hi, _, _ => absurd hi (by simp)
  | a :: l, h, i, j, hi, hj, e => by
    have h1 := List.nodup_cons.mp h
    have hm : ∀ k, k < l.length → l.getD k 0 ∈ l := fun k hk => by
      rw [List.getD_eq_getElem?_getD, List.getElem?_eq_getElem hk]
      exact List.getElem_mem hk
    cases i with
    | zero =>
      cases j with
      | zero => rfl
      | succ j =>
        have e : a = l.getD j 0 := e
        exact absurd (by rw [e]; exact hm j (by simpa using hj)) h1.1
    | succ i =>
      cases j with
      | zero =>
        have e : l.getD i 0 = a := e
        exact absurd (by rw [← e]; exact hm i (by simpa using hi)) h1.1
      | succ j =>
        have e : l.getD i 0 = l.getD j 0 := e
        rw [nd_inj h1.2 (by simpa using hi) (by simpa using hj) e]
theorem nd_new {l : List Nat} {h : Hp} {q : Nat} (hl : l.Nodup) (ha : ∀ a ∈ l, h a ≠ none) (hq : h q = none) : (q :: l).Nodup := List.nodup_cons.mpr ⟨fun w => ha q w hq, hl⟩
theorem al_new {l : List Nat} {h : Hp} {q : Nat} {e : va_E} (ha : ∀ a ∈ l, h a ≠ none) : ∀ a ∈ q :: l, uh h q e a ≠ none := fun a w => by
  rcases List.mem_cons.mp w with w | w
  · rw [w, uh_same]; exact fun z => by cases z
  · exact uh_dom (ha a w)
theorem al_set {l : List Nat} {h : Hp} {o : Nat} {e : va_E} (ha : ∀ a ∈ l, h a ≠ none) : ∀ a ∈ l, uh h o e a ≠ none := fun a w => uh_dom (ha a w)
theorem raw_set {h : Hp} {o q : Nat} {e x : va_E} (hq : h q = some x) (hn : q ≠ o) : uh h o e q = some x := by rw [uh_ne _ _ hn]; exact hq
theorem raw_ne {h : Hp} {o q : Nat} {x : va_E} (ho : h o = some x) (hq : h q = none) : q ≠ o := fun e => by rw [e, ho] at hq; cases hq
theorem raw_fr {h h1 : Hp} {P : Nat → Prop} {q : Nat} {x : va_E} (hF : Fr P h h1) (hq : h q = some x) (hn : ¬ P q) : h1 q = some x := hF.1 q x hq hn
def i0 : Nat → Int := fun _ => 0
def a0 : Nat → Int → Int := fun _ _ => 0
