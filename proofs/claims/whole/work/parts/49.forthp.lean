/-! ===== pure: how early each state of the glasses comes ===== -/
/-- a way from one state to another: so much time, so many turned -/
def GP (lp : Int → Int → Int) (C : Int) : List Int → Int → Int → Int → Int → Prop
  | [], x, y, t, c => x = y ∧ t = 0 ∧ c = 0
  | a :: l, x, y, t, c => 0 ≤ a ∧ a < C ∧ lp x a ≠ -1 ∧ ∃ t' c', GP lp C l (lp x a / 16) y t' c' ∧ t = lp x a % 16 + t' ∧ c = bc a + c'
theorem GP_app {lp : Int → Int → Int} {C a : Int} (a0 : 0 ≤ a) (a1 : a < C) : ∀ (l : List Int) (x y t c : Int), GP lp C l x y t c → lp y a ≠ -1 → GP lp C (l ++ [a]) x (lp y a / 16) (t + lp y a % 16) (c + bc a)
  | [], x, y, t, c, h, hn => by
    obtain ⟨e, e2, e3⟩ := h
    subst e; subst e2; subst e3
    exact ⟨a0, a1, hn, 0, 0, ⟨rfl, rfl, rfl⟩, by omega, by omega⟩
  | b :: l, x, y, t, c, h, hn => by
    obtain ⟨b0, b1, b2, t', c', h2, h3, h4⟩ := h
    exact ⟨b0, b1, b2, t' + lp y a % 16, c' + bc a, GP_app a0 a1 l _ y t' c' h2 hn, by omega, by omega⟩
def EF (lp : Int → Int → Int) (C : Int) (ev : Int → Int) (r : Int) (ea tu : Int → Int) (T k a : Int) : Prop :=
  (∀ j, 0 ≤ j → j < r → (ea (ev j) = 1000000 ∧ tu (ev j) = 1000000) ∨ (0 ≤ ea (ev j) ∧ ea (ev j) ≤ T + 12 ∧ 0 ≤ tu (ev j) ∧ tu (ev j) ≤ 3 * ea (ev j) ∧ ∃ l, GP lp C l 0 (ev j) (ea (ev j)) (tu (ev j)))) ∧ ea 0 = 0 ∧ tu 0 = 0 ∧
  (∀ j b, 0 ≤ j → j < r → 0 ≤ b → b < C → (ea (ev j) < T ∨ (ea (ev j) = T ∧ (j < k ∨ (j = k ∧ b < a)))) → lp (ev j) b ≠ -1 → ea (lp (ev j) b / 16) ≤ ea (ev j) + lp (ev j) b % 16 ∧ (ea (lp (ev j) b / 16) = ea (ev j) + lp (ev j) b % 16 → tu (lp (ev j) b / 16) ≤ tu (ev j) + bc b))
theorem EF_0 {lp : Int → Int → Int} {C : Int} {ev : Int → Int} {r : Int} {ea tu : Int → Int} (he : ∀ j, 0 ≤ j → j < r → ea (ev j) = if ev j = 0 then 0 else 1000000) (ht : ∀ j, 0 ≤ j → j < r → tu (ev j) = if ev j = 0 then 0 else 1000000) (h0 : ea 0 = 0) (h1 : tu 0 = 0) : EF lp C ev r ea tu 0 0 0 := by
  refine ⟨fun j j0 j1 => ?_, h0, h1, fun j b j0 j1 b0 b1 hc => ?_⟩
  · by_cases e : ev j = 0
    · rw [e, h0, h1]
      exact Or.inr ⟨by omega, by omega, by omega, by omega, [], rfl, rfl, rfl⟩
    · rw [he j j0 j1, ht j j0 j1, if_neg e]
      exact Or.inl ⟨rfl, rfl⟩
  · have := he j j0 j1
    split at this <;> omega
theorem EF_no {lp : Int → Int → Int} {C : Int} {ev : Int → Int} {r : Int} {ea tu : Int → Int} {T k a : Int} (h : EF lp C ev r ea tu T k a) (hc : lp (ev k) a ≠ -1 → ea (lp (ev k) a / 16) ≤ ea (ev k) + lp (ev k) a % 16 ∧ (ea (lp (ev k) a / 16) = ea (ev k) + lp (ev k) a % 16 → tu (lp (ev k) a / 16) ≤ tu (ev k) + bc a)) : EF lp C ev r ea tu T k (a + 1) := by
  obtain ⟨h1, h2, h3, h4⟩ := h
  refine ⟨h1, h2, h3, fun j b j0 j1 b0 b1 hq hn => ?_⟩
  by_cases e : j = k ∧ b = a
  · obtain ⟨e1, e2⟩ := e
    subst e1; subst e2
    exact hc hn
  · exact h4 j b j0 j1 b0 b1 (by omega) hn
theorem EF_yes {lp : Int → Int → Int} {C : Int} {ev : Int → Int} {r : Int} {ea tu : Int → Int} {T k a : Int} (h : EF lp C ev r ea tu T k a) (k0 : 0 ≤ k) (k1 : k < r) (a0 : 0 ≤ a) (a1 : a < C) (hT0 : 0 ≤ T) (hT : ea (ev k) = T) (hT2 : T + 12 < 1000000) (hn : lp (ev k) a ≠ -1) (hd : 1 ≤ lp (ev k) a % 16 ∧ lp (ev k) a % 16 ≤ 12)
    (hu : T + lp (ev k) a % 16 < ea (lp (ev k) a / 16) ∨ (T + lp (ev k) a % 16 = ea (lp (ev k) a / 16) ∧ tu (ev k) + bc a < tu (lp (ev k) a / 16))) : EF lp C ev r (uf ea (lp (ev k) a / 16) (T + lp (ev k) a % 16)) (uf tu (lp (ev k) a / 16) (tu (ev k) + bc a)) T k (a + 1) := by
  obtain ⟨h1, h2, h3, h4⟩ := h
  have hgt : T < ea (lp (ev k) a / 16) := by omega
  have hlow : ∀ y, ea y ≤ T → y ≠ lp (ev k) a / 16 := fun y hy e => by rw [e] at hy; omega
  have hb := bc_r a
  have hk : 0 ≤ tu (ev k) ∧ tu (ev k) ≤ 3 * ea (ev k) ∧ ∃ l, GP lp C l 0 (ev k) (ea (ev k)) (tu (ev k)) := by
    rcases h1 k k0 k1 with w | w
    · omega
    · exact ⟨w.2.2.1, w.2.2.2.1, w.2.2.2.2⟩
  obtain ⟨hk1, hk2, l, hl⟩ := hk
  have hw := GP_app a0 a1 l 0 (ev k) _ _ hl hn
  rw [hT] at hw
  refine ⟨fun j j0 j1 => ?_, ?_, ?_, fun j b j0 j1 b0 b1 hq hj => ?_⟩
  · by_cases e : ev j = lp (ev k) a / 16
    · rw [e, uf_same, uf_same]
      exact Or.inr ⟨by omega, by omega, by omega, by omega, _, hw⟩
    · rw [uf_ne _ _ e, uf_ne _ _ e]
      exact h1 j j0 j1
  · rw [uf_ne _ _ (hlow 0 (by omega))]; exact h2
  · rw [uf_ne _ _ (hlow 0 (by omega))]; exact h3
  · have hjT : ea (ev j) ≤ T := by
      by_cases e : ev j = lp (ev k) a / 16
      · rw [e, uf_same] at hq; omega
      · rw [uf_ne _ _ e] at hq; omega
    have hne := hlow _ hjT
    rw [uf_ne _ _ hne] at hq
    rw [uf_ne _ _ hne, uf_ne _ _ hne]
    by_cases e : j = k ∧ b = a
    · obtain ⟨e1, e2⟩ := e
      subst e1; subst e2
      rw [uf_same, uf_same, hT]
      exact ⟨by omega, fun _ => by omega⟩
    · have h5 := h4 j b j0 j1 b0 b1 (by omega) hj
      by_cases e9 : lp (ev j) b / 16 = lp (ev k) a / 16
      · rw [e9] at h5 ⊢
        rw [uf_same, uf_same]
        exact ⟨by omega, fun q => by omega⟩
      · rw [uf_ne _ _ e9, uf_ne _ _ e9]
        exact h5
theorem EF_k {lp : Int → Int → Int} {C : Int} {ev : Int → Int} {r : Int} {ea tu : Int → Int} {T k : Int} (h : EF lp C ev r ea tu T k C) : EF lp C ev r ea tu T (k + 1) 0 := by
  obtain ⟨h1, h2, h3, h4⟩ := h
  exact ⟨h1, h2, h3, fun j b j0 j1 b0 b1 hq hn => h4 j b j0 j1 b0 b1 (by omega) hn⟩
theorem EF_skip {lp : Int → Int → Int} {C : Int} {ev : Int → Int} {r : Int} {ea tu : Int → Int} {T k : Int} (h : EF lp C ev r ea tu T k 0) (hne : ea (ev k) ≠ T) : EF lp C ev r ea tu T (k + 1) 0 := by
  obtain ⟨h1, h2, h3, h4⟩ := h
  exact ⟨h1, h2, h3, fun j b j0 j1 b0 b1 hq hn => h4 j b j0 j1 b0 b1 (by
    rcases hq with w | ⟨w, w2⟩
    · exact Or.inl w
    · by_cases e : j = k
      · rw [e] at w; exact absurd w hne
      · exact Or.inr ⟨w, Or.inl (by omega)⟩) hn⟩
theorem EF_T {lp : Int → Int → Int} {C : Int} {ev : Int → Int} {r : Int} {ea tu : Int → Int} {T : Int} (h : EF lp C ev r ea tu T r 0) : EF lp C ev r ea tu (T + 1) 0 0 := by
  obtain ⟨h1, h2, h3, h4⟩ := h
  refine ⟨fun j j0 j1 => ?_, h2, h3, fun j b j0 j1 b0 b1 hq hn => h4 j b j0 j1 b0 b1 (by omega) hn⟩
  rcases h1 j j0 j1 with w | ⟨w1, w2, w3⟩
  · exact Or.inl w
  · exact Or.inr ⟨w1, by omega, w3⟩
