/-! ===== pure: ways of the glasses, the fewest turned ===== -/
theorem GP_n {lp : Int → Int → Int} {C : Int} : ∀ (l : List Int) (x y t c : Int), GP lp C l x y t c → 0 ≤ t ∧ 0 ≤ c
  | [], x, y, t, c, h => by
    obtain ⟨-, e2, e3⟩ := h
    omega
  | b :: l, x, y, t, c, h => by
    obtain ⟨-, -, -, t', c', h2, h3, h4⟩ := h
    have := GP_n l _ _ _ _ h2
    have := bc_r b
    have := Int.emod_nonneg (lp x b) (show (16 : Int) ≠ 0 by decide)
    omega
def BQ (fr : Int) (lp : Int → Int → Int) (C x s v : Int) : Prop := (v = fr ∧ ∀ l y c, ¬ GP lp C l x y s c) ∨ (0 ≤ v ∧ v ≤ 3 * s ∧ (∃ l y, GP lp C l x y s v) ∧ ∀ l y c, GP lp C l x y s c → v ≤ c)
def FT (fr : Int) (lp : Int → Int → Int) (C x s k v : Int) : Prop := (v = fr ∧ ∀ a l y c, a < k → ¬ GP lp C (a :: l) x y s c) ∨ (0 ≤ v ∧ v ≤ 3 * s ∧ (∃ a l y, a < k ∧ GP lp C (a :: l) x y s v) ∧ ∀ a l y c, a < k → GP lp C (a :: l) x y s c → v ≤ c)
theorem BQ_0 (fr : Int) (lp : Int → Int → Int) (C x : Int) : BQ fr lp C x 0 0 := Or.inr ⟨by omega, by omega, ⟨[], x, rfl, rfl, rfl⟩, fun l y c h => (GP_n l _ _ _ _ h).2⟩
theorem FT_0 (fr : Int) (lp : Int → Int → Int) (C x s : Int) : FT fr lp C x s 0 fr := Or.inl ⟨rfl, fun a l y c ha h => by have := h.1; omega⟩
theorem FT_r {fr : Int} {lp : Int → Int → Int} {C x s k v : Int} (h : FT fr lp C x s k v) : v = fr ∨ (0 ≤ v ∧ v ≤ 3 * s) := h.imp (fun w => w.1) (fun w => ⟨w.1, w.2.1⟩)
theorem BQ_r {fr : Int} {lp : Int → Int → Int} {C x s v : Int} (h : BQ fr lp C x s v) : v = fr ∨ (0 ≤ v ∧ v ≤ 3 * s) := h.imp (fun w => w.1) (fun w => ⟨w.1, w.2.1⟩)
theorem FT_skip {fr : Int} {lp : Int → Int → Int} {C x s a v : Int} (h : FT fr lp C x s a v) (hn : ∀ l y c, ¬ GP lp C (a :: l) x y s c) : FT fr lp C x s (a + 1) v := by
  rcases h with ⟨h1, h2⟩ | ⟨h1, h2, ⟨b, l, y, hb, hl⟩, h4⟩
  · refine Or.inl ⟨h1, fun b l y c hb => ?_⟩
    by_cases e : b = a
    · subst e; exact hn l y c
    · exact h2 b l y c (by omega)
  · refine Or.inr ⟨h1, h2, ⟨b, l, y, by omega, hl⟩, fun b l y c hb hl => ?_⟩
    by_cases e : b = a
    · subst e; exact absurd hl (hn l y c)
    · exact h4 b l y c (by omega) hl
theorem FT_no {fr : Int} {lp : Int → Int → Int} {C x s a v : Int} (h : FT fr lp C x s a v) (hc : lp x a = -1 ∨ s < lp x a % 16 ∨ (lp x a ≠ -1 ∧ BQ fr lp C (lp x a / 16) (s - lp x a % 16) fr ∧ 3 * s < fr)) : FT fr lp C x s (a + 1) v :=
  FT_skip h (fun l y c hg => by
    obtain ⟨-, -, b2, t', c', h2, h3, h4⟩ := hg
    have hn := GP_n l _ _ _ _ h2
    rcases hc with w | w | ⟨-, w, w2⟩
    · exact b2 w
    · omega
    · have e : t' = s - lp x a % 16 := by omega
      have := Int.emod_nonneg (lp x a) (show (16 : Int) ≠ 0 by decide)
      rw [e] at h2
      rcases w with ⟨-, w⟩ | ⟨w3, w4, w5, w6⟩
      · exact w l y c' h2
      · omega)
theorem FT_min {fr : Int} {lp : Int → Int → Int} {C x s a v w : Int} (h : FT fr lp C x s a v) (a0 : 0 ≤ a) (a1 : a < C) (hn : lp x a ≠ -1) (hd : 1 ≤ lp x a % 16) (hs : 3 * s < fr) (hw : BQ fr lp C (lp x a / 16) (s - lp x a % 16) w) (hf : w < fr) : FT fr lp C x s (a + 1) (min v (w + bc a)) := by
  rcases hw with ⟨w1, -⟩ | ⟨w1, w2, ⟨l, y, hl⟩, w4⟩
  · omega
  · have hb := bc_r a
    have hgo : GP lp C (a :: l) x y s (w + bc a) := ⟨a0, a1, hn, _, _, hl, by omega, by omega⟩
    have hall : ∀ l y c, GP lp C (a :: l) x y s c → w + bc a ≤ c := fun l y c hg => by
      obtain ⟨-, -, -, t', c', h2, h3, h4⟩ := hg
      rw [show t' = s - lp x a % 16 by omega] at h2
      have := w4 l y c' h2
      omega
    right
    rcases h with ⟨h1, h2⟩ | ⟨h1, h2, ⟨b, l', y', hb', hl'⟩, h4⟩
    · rw [show min v (w + bc a) = w + bc a by omega]
      refine ⟨by omega, by omega, ⟨a, l, y, by omega, hgo⟩, fun b l y c hb hg => ?_⟩
      by_cases e : b = a
      · subst e; exact hall l y c hg
      · exact absurd hg (h2 b l y c (by omega))
    · refine ⟨by omega, by omega, ?_, fun b l y c hb hg => ?_⟩
      · by_cases q : v ≤ w + bc a
        · rw [show min v (w + bc a) = v by omega]
          exact ⟨b, l', y', by omega, hl'⟩
        · rw [show min v (w + bc a) = w + bc a by omega]
          exact ⟨a, l, y, by omega, hgo⟩
      · by_cases e : b = a
        · subst e
          have := hall l y c hg
          omega
        · have := h4 b l y c (by omega) hg
          omega
theorem FT_end {fr : Int} {lp : Int → Int → Int} {C x s v : Int} (h : FT fr lp C x s C v) (hs : 0 < s) : BQ fr lp C x s v := by
  have hcons : ∀ l y c, GP lp C l x y s c → ∃ a l', l = a :: l' ∧ a < C := fun l y c hg => by
    cases l with
    | nil => obtain ⟨-, e, -⟩ := hg; omega
    | cons a l' => exact ⟨a, l', rfl, hg.2.1⟩
  rcases h with ⟨h1, h2⟩ | ⟨h1, h2, ⟨b, l, y, hb, hl⟩, h4⟩
  · refine Or.inl ⟨h1, fun l y c hg => ?_⟩
    obtain ⟨a, l', e, ha⟩ := hcons l y c hg
    subst e
    exact h2 a l' y c ha hg
  · refine Or.inr ⟨h1, h2, ⟨_, y, hl⟩, fun l y c hg => ?_⟩
    obtain ⟨a, l', e, ha⟩ := hcons l y c hg
    subst e
    exact h4 a l' y c ha hg
/-- the rows of the ring: those of the last twelve spans, and of this one up to k -/
def RG (lp : Int → Int → Int) (C : Int) (ev : Int → Int) (r : Int) (B : Int → Int → Int) (s k : Int) : Prop := (∀ j i, 0 ≤ j → s - 13 < j → j < s → 0 ≤ i → i < r → BQ 1000000 lp C (ev i) j (B (j % 13) (ev i))) ∧ ∀ i, 0 ≤ i → i < k → BQ 1000000 lp C (ev i) s (B (s % 13) (ev i))
theorem RG_next {lp : Int → Int → Int} {C : Int} {ev : Int → Int} {r : Int} {B : Int → Int → Int} {s : Int} (h : RG lp C ev r B s r) : RG lp C ev r B (s + 1) 0 :=
  ⟨fun j i j0 j1 j2 i0 i1 => by
    by_cases e : j = s
    · subst e; exact h.2 i i0 i1
    · exact h.1 j i j0 (by omega) (by omega) i0 i1, fun i i0 i1 => by omega⟩
/-- the row kept by state and span, read by span and state -/
def Bf (f : Int → Int) (j x : Int) : Int := f (x * 13 + j)
theorem RG_st {lp : Int → Int → Int} {C : Int} {ev : Int → Int} {r : Int} {f : Int → Int} {s k v : Int} (hd : ∀ i j, 0 ≤ i → i < j → j < r → ev i ≠ ev j) (h : RG lp C ev r (Bf f) s k) (s0 : 0 ≤ s) (k0 : 0 ≤ k) (k1 : k < r) (hv : BQ 1000000 lp C (ev k) s v) : RG lp C ev r (Bf (uf f (ev k * 13 + s % 13) v)) s (k + 1) := by
  refine ⟨fun j i j0 j1 j2 i0 i1 => ?_, fun i i0 i1 => ?_⟩
  · show BQ _ _ _ _ _ (uf f (ev k * 13 + s % 13) v (ev i * 13 + j % 13))
    rw [uf_ne _ _ (show ev i * 13 + j % 13 ≠ ev k * 13 + s % 13 by omega)]
    exact h.1 j i j0 j1 j2 i0 i1
  · show BQ _ _ _ _ _ (uf f (ev k * 13 + s % 13) v (ev i * 13 + s % 13))
    by_cases e : i = k
    · subst e; rw [uf_same]; exact hv
    · rw [uf_ne _ _ (by have := hd i k i0 (by omega) k1; omega)]
      exact h.2 i i0 (by omega)
/-- the answers: the least time from which such a span can be measured, and the fewest turned then -/
def AN (ev : Int → Int) (ea tu b : Int → Int) (k le su : Int) : Prop := (le = 1000000 ∧ su = 1000000 ∧ ∀ i, 0 ≤ i → i < k → b (ev i) ≠ 1000000 → 60 < ea (ev i)) ∨
  (0 ≤ le ∧ le ≤ 60 ∧ 0 ≤ su ∧ su ≤ 1000 ∧ (∃ i, 0 ≤ i ∧ i < k ∧ ea (ev i) = le ∧ b (ev i) ≠ 1000000 ∧ su = tu (ev i) + b (ev i)) ∧ ∀ i, 0 ≤ i → i < k → b (ev i) ≠ 1000000 → ea (ev i) ≤ 60 → le ≤ ea (ev i) ∧ (ea (ev i) = le → su ≤ tu (ev i) + b (ev i)))
theorem AN_0 (ev ea tu b : Int → Int) : AN ev ea tu b 0 1000000 1000000 := Or.inl ⟨rfl, rfl, fun i i0 i1 => by omega⟩
theorem AN_r {ev ea tu b : Int → Int} {k le su : Int} (h : AN ev ea tu b k le su) : (le = 1000000 ∧ su = 1000000) ∨ (0 ≤ le ∧ le ≤ 60 ∧ 0 ≤ su ∧ su ≤ 1000) := h.imp (fun w => ⟨w.1, w.2.1⟩) (fun w => ⟨w.1, w.2.1, w.2.2.1, w.2.2.2.1⟩)
theorem AN_no {ev ea tu b : Int → Int} {k le su : Int} (h : AN ev ea tu b k le su) (hk : 0 ≤ k) (hc : b (ev k) = 1000000 ∨ 60 < ea (ev k) ∨ le < ea (ev k)) : AN ev ea tu b (k + 1) le su := by
  rcases h with ⟨h1, h2, h3⟩ | ⟨h1, h2, h2a, h2b, ⟨i, i0, i1, i2⟩, h4⟩
  · refine Or.inl ⟨h1, h2, fun i i0 i1 hb => ?_⟩
    by_cases e : i = k
    · subst e; omega
    · exact h3 i i0 (by omega) hb
  · refine Or.inr ⟨h1, h2, h2a, h2b, ⟨i, i0, by omega, i2⟩, fun i i0 i1 hb he => ?_⟩
    by_cases e : i = k
    · subst e; omega
    · exact h4 i i0 (by omega) hb he
theorem AN_new {ev ea tu b : Int → Int} {k le su : Int} (h : AN ev ea tu b k le su) (hk : 0 ≤ k) (hb : b (ev k) ≠ 1000000) (he0 : 0 ≤ ea (ev k)) (he : ea (ev k) ≤ 60) (hr : 0 ≤ tu (ev k) + b (ev k) ∧ tu (ev k) + b (ev k) ≤ 1000) (hl : ea (ev k) < le) : AN ev ea tu b (k + 1) (ea (ev k)) (min 1000000 (tu (ev k) + b (ev k))) := by
  rw [show min 1000000 (tu (ev k) + b (ev k)) = tu (ev k) + b (ev k) by omega]
  refine Or.inr ⟨he0, he, hr.1, hr.2, ⟨k, hk, by omega, rfl, hb, rfl⟩, fun i i0 i1 hbi hei => ?_⟩
  by_cases e : i = k
  · subst e; exact ⟨by omega, fun _ => by omega⟩
  · rcases h with ⟨h1, h2, h3⟩ | ⟨h1, h2, h2a, h2b, -, h4⟩
    · have := h3 i i0 (by omega) hbi
      omega
    · have := h4 i i0 (by omega) hbi hei
      omega
theorem AN_more {ev ea tu b : Int → Int} {k le su : Int} (h : AN ev ea tu b k le su) (hk : 0 ≤ k) (hb : b (ev k) ≠ 1000000) (he : ea (ev k) ≤ 60) (hr : 0 ≤ tu (ev k) + b (ev k) ∧ tu (ev k) + b (ev k) ≤ 1000) (hl : ea (ev k) = le) : AN ev ea tu b (k + 1) le (min su (tu (ev k) + b (ev k))) := by
  rcases h with ⟨h1, h2, h3⟩ | ⟨h1, h2, h2a, h2b, ⟨i, i0, i1, i2, i3, i4⟩, h4⟩
  · omega
  · refine Or.inr ⟨h1, h2, by omega, by omega, ?_, fun i i0 i1 hbi hei => ?_⟩
    · by_cases q : su ≤ tu (ev k) + b (ev k)
      · rw [show min su (tu (ev k) + b (ev k)) = su by omega]
        exact ⟨i, i0, by omega, i2, i3, i4⟩
      · rw [show min su (tu (ev k) + b (ev k)) = tu (ev k) + b (ev k) by omega]
        exact ⟨k, hk, by omega, hl, hb, rfl⟩
    · by_cases e : i = k
      · subst e; exact ⟨by omega, fun _ => by omega⟩
      · have := h4 i i0 (by omega) hbi hei
        exact ⟨this.1, fun q => by have := this.2 q; omega⟩
/-- what is asked of the two answers, in terms of the ways alone -/
def WT (lp : Int → Int → Int) (C s w t : Int) : Prop := (w = -1 ∧ t = -1 ∧ ∀ l1 x t1 c1 l2 y c2, GP lp C l1 0 x t1 c1 → t1 ≤ 60 → ¬ GP lp C l2 x y s c2) ∨
  (0 ≤ w ∧ w ≤ 60 ∧ 0 ≤ t ∧ t ≤ 1000 ∧ (∃ l1 x c1 l2 y c2, GP lp C l1 0 x w c1 ∧ GP lp C l2 x y s c2 ∧ t = c1 + c2) ∧ ∀ l1 x t1 c1 l2 y c2, GP lp C l1 0 x t1 c1 → t1 ≤ 60 → GP lp C l2 x y s c2 → w ≤ t1 ∧ (t1 = w → t ≤ c1 + c2))
theorem WT_one {lp : Int → Int → Int} {C s w t w' t' : Int} (h : WT lp C s w t) (h' : WT lp C s w' t') : w = w' ∧ t = t' := by
  rcases h with ⟨h1, h2, h3⟩ | ⟨h1, h2, -, -, ⟨l1, x, c1, l2, y, c2, g1, g2, g3⟩, h4⟩ <;> rcases h' with ⟨k1, k2, k3⟩ | ⟨k1, k2, -, -, ⟨m1, x', d1, m2, y', d2, f1, f2, f3⟩, k4⟩
  · omega
  · exact absurd f2 (h3 _ _ _ _ _ _ _ f1 (by omega))
  · exact absurd g2 (k3 _ _ _ _ _ _ _ g1 (by omega))
  · have a1 := h4 _ _ _ _ _ _ _ f1 (by omega) f2
    have a2 := k4 _ _ _ _ _ _ _ g1 (by omega) g2
    have e : w = w' := by omega
    have a3 := a1.2 e.symm
    have a4 := a2.2 e
    omega
theorem EF_way {N M : Int} {lp : Int → Int → Int} {C : Int} {ev li lq ea tu : Int → Int} {r z : Int} (hL : LE N M lp C ev li lq r z) (hz : 8 * r ≤ z) (hC : C ≤ 8) (h : EF lp C ev r ea tu 61 0 0) : ∀ (l : List Int) (i t0 c0 y t c : Int), 0 ≤ i → i < r → ea (ev i) ≤ t0 → (ea (ev i) = t0 → tu (ev i) ≤ c0) → 0 ≤ t0 → GP lp C l (ev i) y t c → t0 + t ≤ 60 → ∃ j, 0 ≤ j ∧ j < r ∧ ev j = y ∧ ea y ≤ t0 + t ∧ (ea y = t0 + t → tu y ≤ c0 + c)
  | [], i, t0, c0, y, t, c, i0, i1, he, ht, _, hg, hs => by
    obtain ⟨e1, e2, e3⟩ := hg
    subst e1; subst e2; subst e3
    exact ⟨i, i0, i1, rfl, by omega, fun q => by have := ht (by omega); omega⟩
  | a :: l, i, t0, c0, y, t, c, i0, i1, he, ht, ht0, hg, hs => by
    obtain ⟨a0, a1, a2, t', c', h2, h3, h4⟩ := hg
    obtain ⟨-, j, j0, j1, j2⟩ := (hL.2.2.2.2.2.2 i a i0 i1 a0 a1 (by omega)).imp id (fun w => w a2)
    have hn := GP_n l _ _ _ _ h2
    have hm := Int.emod_nonneg (lp (ev i) a) (show (16 : Int) ≠ 0 by decide)
    have h5 := h.2.2.2 i a i0 i1 a0 a1 (Or.inl (by omega)) a2
    rw [← j2] at h2 h5
    obtain ⟨k, k0, k1, k2, k3, k4⟩ := EF_way hL hz hC h l j (t0 + lp (ev i) a % 16) (c0 + bc a) y t' c' j0 j1 (by omega) (fun q => by
      have q2 : ea (ev i) = t0 := by omega
      have := ht q2
      have := h5.2 (by omega)
      omega) (by omega) h2 (by omega)
    exact ⟨k, k0, k1, k2, by omega, fun q => by have := k4 (by omega); omega⟩
theorem AN_WT {N M : Int} {lp : Int → Int → Int} {C : Int} {ev li lq ea tu : Int → Int} {r z s le su : Int} {b : Int → Int} (hL : LE N M lp C ev li lq r z) (hz : 8 * r ≤ z) (hC : C ≤ 8) (h : EF lp C ev r ea tu 61 0 0) (hb : ∀ i, 0 ≤ i → i < r → BQ 1000000 lp C (ev i) s (b (ev i))) (hs : 3 * s < 1000000) (hA : AN ev ea tu b r le su) : WT lp C s (if le = 1000000 then -1 else le) (if le = 1000000 then -1 else su) := by
  have hr1 := hL.1
  have h00 := hL.2.2.1
  have key : ∀ l1 x t1 c1 l2 y c2, GP lp C l1 0 x t1 c1 → t1 ≤ 60 → GP lp C l2 x y s c2 → ∃ j, 0 ≤ j ∧ j < r ∧ ev j = x ∧ ea x ≤ t1 ∧ (ea x = t1 → tu x ≤ c1) ∧ b x ≠ 1000000 ∧ b x ≤ c2 := fun l1 x t1 c1 l2 y c2 g1 ht g2 => by
    rw [← h00] at g1
    obtain ⟨j, j0, j1, j2, j3, j4⟩ := EF_way hL hz hC h l1 0 0 0 x t1 c1 (by omega) (by omega) (by rw [h00, h.2.1]; omega) (fun _ => by rw [h00, h.2.2.1]; omega) (by omega) g1 (by omega)
    have hq := hb j j0 j1
    rw [j2] at hq
    refine ⟨j, j0, j1, j2, by omega, fun q => by have := j4 (by omega); omega, ?_⟩
    rcases hq with ⟨-, w⟩ | ⟨w1, w2, -, w4⟩
    · exact absurd g2 (w l2 y c2)
    · exact ⟨by omega, w4 l2 y c2 g2⟩
  rcases hA with ⟨a1, a2, a3⟩ | ⟨a1, a2, a2a, a2b, ⟨i, i0, i1, i2, i3, i4⟩, a4⟩
  · rw [if_pos a1, if_pos a1]
    refine Or.inl ⟨rfl, rfl, fun l1 x t1 c1 l2 y c2 g1 ht g2 => ?_⟩
    obtain ⟨j, j0, j1, j2, j3, j4, j5, j6⟩ := key l1 x t1 c1 l2 y c2 g1 ht g2
    have := a3 j j0 j1 (by rw [j2]; exact j5)
    rw [j2] at this
    omega
  · rw [if_neg (by omega), if_neg (by omega)]
    refine Or.inr ⟨a1, a2, a2a, a2b, ?_, fun l1 x t1 c1 l2 y c2 g1 ht g2 => ?_⟩
    · rcases h.1 i i0 i1 with w | ⟨-, -, -, -, l1, w⟩
      · omega
      · rcases hb i i0 i1 with v | ⟨-, -, ⟨l2, y, v⟩, -⟩
        · exact absurd v.1 i3
        · rw [i2] at w
          exact ⟨l1, ev i, tu (ev i), l2, y, b (ev i), w, v, i4⟩
    · obtain ⟨j, j0, j1, j2, j3, j4, j5, j6⟩ := key l1 x t1 c1 l2 y c2 g1 ht g2
      have h9 := a4 j j0 j1 (by rw [j2]; exact j5) (by rw [j2]; omega)
      rw [j2] at h9
      refine ⟨by omega, fun q => ?_⟩
      have e : ea x = le := by omega
      have := h9.2 e
      have := j4 (by omega)
      omega
/-- the glasses: the object with its arrays -/
def FG (o : Nat) (R : Nat → Nat) (q : Nat) : Prop := FP 12 kd0 o R q
def LG (L : Nat → Int) : Prop := L 1 = 3 ∧ L 2 = 41 ∧ L 3 = 41 ∧ 0 ≤ L 5 ∧ L 5 ≤ 1728 ∧ L 6 = L 5 ∧ L 8 = 8 * L 5 ∧ L 9 = L 5 ∧ L 10 = L 5 ∧ L 11 = 13 * L 5
def GB (g : GX) (h : Hp) (o : Nat) (R : Nat → Nat) (I : Nat → Int) (L : Nat → Int) (A : Nat → Int → Int) : Prop := OB g 0 12 kd0 h o R I L A ∧ LG L
theorem GB.fr {g : GX} {h h1 : Hp} {o : Nat} {R : Nat → Nat} {I : Nat → Int} {L : Nat → Int} {A : Nat → Int → Int} {P : Nat → Prop} (hG : GB g h o R I L A) (hF : Fr P h h1) (hd : ∀ q, FG o R q → ¬ P q) : GB g h1 o R I L A :=
  ⟨hG.1.fr hF hd, hG.2⟩
