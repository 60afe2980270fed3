-- pasted from kit/laws: fb_holes, fa_and, fa_or
theorem fb_holes : ∀ (m n : Nat) (f : Nat → Nat), (∀ i, i < n → f i < m) → (∀ i j, i < j → j < n → f i ≠ f j) → n ≤ m := by
  intro m
  induction m with
  | zero =>
    intro n f h1 _
    rcases Nat.eq_zero_or_pos n with h | h
    · omega
    · exact absurd (h1 0 h) (Nat.not_lt_zero _)
  | succ m ih =>
    intro n f h1 h2
    by_cases hx : ∃ i, i < n ∧ f i = m
    · obtain ⟨a, ha, hfa⟩ := hx
      have hg := ih (n - 1) (fun i => if i < a then f i else f (i + 1)) (by
        intro i hi
        by_cases q : i < a
        · simp only [if_pos q]
          have b1 := h1 i (by omega)
          have b2 := h2 i a q ha
          omega
        · simp only [if_neg q]
          have b1 := h1 (i + 1) (by omega)
          have b2 := h2 a (i + 1) (by omega) (by omega)
          omega) (by
        intro i j hij hj
        by_cases q : i < a
        · by_cases r : j < a
          · simp only [if_pos q, if_pos r]
            exact h2 i j hij (by omega)
          · simp only [if_pos q, if_neg r]
            exact h2 i (j + 1) (by omega) (by omega)
        · have r : ¬ j < a := by omega
          simp only [if_neg q, if_neg r]
          exact h2 (i + 1) (j + 1) (by omega) (by omega))
      omega
    · have hg := ih n f (fun i hi => by
        have b1 := h1 i hi
        have b2 : f i ≠ m := fun e => hx ⟨i, hi, e⟩
        omega) h2
      omega
theorem fa_and (a b : Nat) : nI a &&& nI b = nI (a &&& b) := by
  apply Int32.toBitVec_inj.1
  show BitVec.ofNat 32 a &&& BitVec.ofNat 32 b = BitVec.ofNat 32 (a &&& b)
  apply BitVec.eq_of_getLsbD_eq
  intro i hi
  simp [hi]
theorem fa_or (a b : Nat) : nI a ||| nI b = nI (a ||| b) := by
  apply Int32.toBitVec_inj.1
  show BitVec.ofNat 32 a ||| BitVec.ofNat 32 b = BitVec.ofNat 32 (a ||| b)
  apply BitVec.eq_of_getLsbD_eq
  intro i hi
  simp [hi]
/-! ===== bits of whole numbers ===== -/
def orI (x y : Int) : Int := ((x.toNat ||| y.toNat : Nat) : Int)
def andI (x y : Int) : Int := ((x.toNat &&& y.toNat : Nat) : Int)
theorem J_or {x y : Int} (hx : 0 ≤ x) (hy : 0 ≤ y) : J x ||| J y = J (orI x y) := by
  rw [J_nI hx, J_nI hy, fa_or]
  unfold orI
  rw [nI_J]
theorem J_and {x y : Int} (hx : 0 ≤ x) (hy : 0 ≤ y) : J x &&& J y = J (andI x y) := by
  rw [J_nI hx, J_nI hy, fa_and]
  unfold andI
  rw [nI_J]
theorem orI_r {x y : Int} {k : Nat} (hx : 0 ≤ x) (hy : 0 ≤ y) (hx2 : x < 2 ^ k) (hy2 : y < 2 ^ k) : 0 ≤ orI x y ∧ orI x y < 2 ^ k := by
  unfold orI
  have h1 : x.toNat < 2 ^ k := by have : ((2 ^ k : Nat) : Int) = 2 ^ k := by simp
                                  omega
  have h2 : y.toNat < 2 ^ k := by have : ((2 ^ k : Nat) : Int) = 2 ^ k := by simp
                                  omega
  have h3 := Nat.or_lt_two_pow h1 h2
  have h4 : ((2 ^ k : Nat) : Int) = 2 ^ k := by simp
  omega
theorem shl_1 : ∀ k : Nat, k < 31 → ((J 1 <<< (J (k : Int) &&& 31)) : Int32) = J (2 ^ k) := by decide
section BR
variable {p : Program} {l : Launch} {e : Env} {Rm : Room} {s : State} {m : MethodId} {args : Array Value} {below : List Frame} {meth : Method} {c : Code} {H : Heap} {locs : List Loc} {cells slots : Nat} {Q : State → Prop}
variable {cc : ByteArray} {pc : Nat} {ls : Array Slot} {rest : List Value}
theorem j_shl1 (hexec : p.tables.exec = Jvm.exec) (hb : c.code = cc) {y : Int} (h0 : 0 ≤ y) (h1 : y < 31) (hdg : decode cc pc = .ok (.ishl, 1)) (k : W p l e Rm s m args below meth c H locs cells slots Q (F0 m (pc + 1) ls (.int (J (2 ^ y.toNat)) :: rest))) : W p l e Rm s m args below meth c H locs cells slots Q (F0 m pc ls (.int (J y) :: .int (J 1) :: rest)) := by
  refine lv_ishl hexec hb hdg ?_
  have h2 := shl_1 y.toNat (by omega)
  rw [Int.toNat_of_nonneg h0] at h2
  rw [h2]
  exact k
theorem j_ior (hexec : p.tables.exec = Jvm.exec) (hb : c.code = cc) {x y : Int} (h0 : 0 ≤ x) (_h1 : x < 2147483648) (h2 : 0 ≤ y) (_h3 : y < 2147483648) (hdg : decode cc pc = .ok (.ior, 1)) (k : W p l e Rm s m args below meth c H locs cells slots Q (F0 m (pc + 1) ls (.int (J (orI x y)) :: rest))) : W p l e Rm s m args below meth c H locs cells slots Q (F0 m pc ls (.int (J y) :: .int (J x) :: rest)) := by
  refine lv_ior hexec hb hdg ?_
  rw [J_or h0 h2]
  exact k
theorem j_iand (hexec : p.tables.exec = Jvm.exec) (hb : c.code = cc) {x y : Int} (h0 : 0 ≤ x) (_h1 : x < 2147483648) (h2 : 0 ≤ y) (_h3 : y < 2147483648) (hdg : decode cc pc = .ok (.iand, 1)) (k : W p l e Rm s m args below meth c H locs cells slots Q (F0 m (pc + 1) ls (.int (J (andI x y)) :: rest))) : W p l e Rm s m args below meth c H locs cells slots Q (F0 m pc ls (.int (J y) :: .int (J x) :: rest)) := by
  refine lv_iand hexec hb hdg ?_
  rw [J_and h0 h2]
  exact k
end BR
/-! ===== pure: all that rows lead to ===== -/
def PT (nx : Int → Int → Int) : List Int → Int → Int → Prop
  | [], s, t => s = t
  | a :: l, s, t => 0 ≤ a ∧ a < 24 ∧ nx s a ≠ -1 ∧ PT nx l (nx s a) t
theorem PT_app {nx : Int → Int → Int} {a : Int} (a0 : 0 ≤ a) (a1 : a < 24) : ∀ (l : List Int) (s t : Int), PT nx l s t → nx t a ≠ -1 → PT nx (l ++ [a]) s (nx t a)
  | [], s, t, h, hn => by
    have h : s = t := h
    subst h
    exact ⟨a0, a1, hn, rfl⟩
  | b :: l, s, t, h, hn => ⟨h.1, h.2.1, h.2.2.1, PT_app a0 a1 l _ t h.2.2.2 hn⟩
def RB (N : Int) (nx : Int → Int → Int) (fr : Int) (rch q : Int → Int) (n z : Int) : Prop :=
  1 ≤ n ∧ n ≤ N ∧ q 0 = fr ∧ (∀ k, 0 ≤ k → k < n → 0 ≤ q k ∧ q k < N ∧ rch (q k) = 1 ∧ ∃ l, PT nx l fr (q k)) ∧ (∀ s, 0 ≤ s → s < N → rch s = 0 ∨ (rch s = 1 ∧ ∃ k, 0 ≤ k ∧ k < n ∧ q k = s)) ∧ (∀ j k, 0 ≤ j → j < k → k < n → q j ≠ q k) ∧ (∀ k b, 0 ≤ k → k < n → 0 ≤ b → b < 24 → 24 * k + b < z → nx (q k) b = -1 ∨ rch (nx (q k) b) = 1)
theorem RB_0 {N : Int} {nx : Int → Int → Int} {fr : Int} {rch q : Int → Int} (h0 : 0 ≤ fr) (h1 : fr < N) (hr : ∀ s, 0 ≤ s → s < N → rch s = 0) : RB N nx fr (uf rch fr 1) (uf q 0 fr) 1 0 := by
  refine ⟨by omega, by omega, uf_same _ _ _, fun k k0 k1 => ?_, fun s s0 s1 => ?_, fun j k _ _ _ => by omega, fun k b _ _ _ _ _ => by omega⟩
  · have e : k = 0 := by omega
    subst e
    rw [uf_same]
    exact ⟨h0, h1, uf_same _ _ _, [], rfl⟩
  · by_cases e : s = fr
    · subst e
      exact Or.inr ⟨uf_same _ _ _, 0, by omega, by omega, uf_same _ _ _⟩
    · rw [uf_ne _ _ e]
      exact Or.inl (hr s s0 s1)
theorem RB_no {N : Int} {nx : Int → Int → Int} {fr : Int} {rch q : Int → Int} {n x a : Int} (h : RB N nx fr rch q n (24 * x + a)) (a0 : 0 ≤ a) (a1 : a < 24) (hn : nx (q x) a = -1 ∨ rch (nx (q x) a) = 1) : RB N nx fr rch q n (24 * x + (a + 1)) := by
  obtain ⟨h1, h2, h3, h4, h5, h6, h7⟩ := h
  refine ⟨h1, h2, h3, h4, h5, h6, fun k b k0 k1 b0 b1 hz => ?_⟩
  by_cases e : 24 * k + b = 24 * x + a
  · have e1 : k = x := by omega
    have e2 : b = a := by omega
    subst e1; subst e2
    exact hn
  · exact h7 k b k0 k1 b0 b1 (by omega)
theorem RB_lt {N : Int} {nx : Int → Int → Int} {fr : Int} {rch q : Int → Int} {n z t : Int} (h : RB N nx fr rch q n z) (t0 : 0 ≤ t) (t1 : t < N) (ht : rch t = 0) : n < N := by
  obtain ⟨h1, h2, h3, h4, h5, h6, h7⟩ := h
  have := fb_holes N.toNat (n.toNat + 1) (fun i => if i < n.toNat then (q i).toNat else t.toNat) (fun i hi => by
    by_cases e : i < n.toNat
    · simp only [if_pos e]
      have := h4 i (by omega) (by omega)
      omega
    · simp only [if_neg e]
      omega) (fun i j hij hj => by
    have hi : i < n.toNat := by omega
    simp only [if_pos hi]
    have hqi := h4 i (by omega) (by omega)
    by_cases e : j < n.toNat
    · simp only [if_pos e]
      have hqj := h4 j (by omega) (by omega)
      have := h6 i j (by omega) (by omega) (by omega)
      omega
    · simp only [if_neg e]
      intro w
      have e2 : q i = t := by omega
      rw [e2] at hqi
      omega)
  omega
theorem RB_yes {N : Int} {nx : Int → Int → Int} {fr : Int} {rch q : Int → Int} {n x a : Int} (h : RB N nx fr rch q n (24 * x + a)) (x0 : 0 ≤ x) (x1 : x < n) (a0 : 0 ≤ a) (a1 : a < 24) (t0 : 0 ≤ nx (q x) a) (t1 : nx (q x) a < N) (ht : rch (nx (q x) a) = 0) : RB N nx fr (uf rch (nx (q x) a) 1) (uf q n (nx (q x) a)) (n + 1) (24 * x + (a + 1)) := by
  have hlt := RB_lt h t0 t1 ht
  obtain ⟨h1, h2, h3, h4, h5, h6, h7⟩ := h
  have hq : ∀ k, k < n → uf q n (nx (q x) a) k = q k := fun k hk => uf_ne _ _ (by omega)
  have hr : ∀ s, rch s = 1 → uf rch (nx (q x) a) 1 s = 1 := fun s hs => by
    by_cases e : s = nx (q x) a
    · rw [e, uf_same]
    · rw [uf_ne _ _ e]; exact hs
  refine ⟨by omega, by omega, by rw [hq 0 (by omega)]; exact h3, fun k k0 k1 => ?_, fun s s0 s1 => ?_, fun j k j0 jk k1 => ?_, fun k b k0 k1 b0 b1 hz => ?_⟩
  · by_cases e : k = n
    · subst e
      rw [uf_same]
      obtain ⟨-, -, -, l, hl⟩ := h4 x x0 x1
      exact ⟨t0, t1, uf_same _ _ _, l ++ [a], PT_app a0 a1 l _ _ hl (by omega)⟩
    · rw [hq k (by omega)]
      have := h4 k k0 (by omega)
      exact ⟨this.1, this.2.1, hr _ this.2.2.1, this.2.2.2⟩
  · by_cases e : s = nx (q x) a
    · rw [e, uf_same]
      exact Or.inr ⟨rfl, n, by omega, by omega, uf_same _ _ _⟩
    · rw [uf_ne _ _ e]
      rcases h5 s s0 s1 with w | ⟨w, k, k0, k1, k2⟩
      · exact Or.inl w
      · exact Or.inr ⟨w, k, k0, by omega, by rw [hq k k1]; exact k2⟩
  · rw [hq j (by omega)]
    by_cases e : k = n
    · rw [e, uf_same]
      have := h4 j j0 (by omega)
      intro w
      rw [w] at this
      omega
    · rw [hq k (by omega)]
      exact h6 j k j0 jk (by omega)
  · by_cases e9 : k = n
    · omega
    · rw [hq k (by omega)]
      by_cases e : 24 * k + b = 24 * x + a
      · have e1 : k = x := by omega
        have e2 : b = a := by omega
        subst e1; subst e2
        exact Or.inr (uf_same _ _ _)
      · rcases h7 k b k0 (by omega) b0 b1 (by omega) with w | w
        · exact Or.inl w
        · exact Or.inr (hr _ w)
/-- the queue holds just what rows lead to -/
def RE (N : Int) (nx : Int → Int → Int) (fr : Int) (q : Int → Int) (n : Int) : Prop := 1 ≤ n ∧ n ≤ N ∧ (∀ k, 0 ≤ k → k < n → 0 ≤ q k ∧ q k < N ∧ ∃ l, PT nx l fr (q k)) ∧ (∀ j k, 0 ≤ j → j < k → k < n → q j ≠ q k) ∧ ∀ l t, PT nx l fr t → ∃ k, 0 ≤ k ∧ k < n ∧ q k = t
theorem RB_end {N : Int} {nx sp : Int → Int → Int} {fr : Int} {rch q : Int → Int} {n : Int} (hN : NX N nx sp) (h : RB N nx fr rch q n (24 * n)) : RE N nx fr q n := by
  obtain ⟨h1, h2, h3, h4, h5, h6, h7⟩ := h
  have key : ∀ (l : List Int) (k t : Int), 0 ≤ k → k < n → PT nx l (q k) t → ∃ j, 0 ≤ j ∧ j < n ∧ q j = t := by
    intro l
    induction l with
    | nil => intro k t k0 k1 hp; exact ⟨k, k0, k1, hp⟩
    | cons a l ih =>
      intro k t k0 k1 hp
      obtain ⟨a0, a1, hn, hp⟩ := hp
      have hk := h4 k k0 k1
      rcases h7 k a k0 k1 a0 a1 (by omega) with w | w
      · exact absurd w hn
      · obtain ⟨n1, -, -⟩ := hN (q k) a hk.1 hk.2.1 a0 a1
        rcases h5 (nx (q k) a) (by omega) (by omega) with w2 | ⟨-, j, j0, j1, j2⟩
        · omega
        · rw [← j2] at hp
          exact ih j t j0 j1 hp
  exact ⟨h1, h2, fun k k0 k1 => ⟨(h4 k k0 k1).1, (h4 k k0 k1).2.1, (h4 k k0 k1).2.2.2⟩, h6, fun l t hp => key l 0 t (by omega) (by omega) (by rw [h3]; exact hp)⟩
/-- bits of what a state's jugs hold, over those of before -/
def mb (hs : Int → Int) (z : Int) : Nat → Int
  | 0 => z
  | i + 1 => orI (mb hs z i) (2 ^ (hs i).toNat)
def mq (n : Int) (rm q : Int → Int) : Nat → Int
  | 0 => 0
  | k + 1 => mb (DG n rm (q k)) (mq n rm q k) n.toNat
theorem mb_s (hs : Int → Int) (z : Int) {i : Int} (h : 0 ≤ i) : mb hs z (i + 1).toNat = orI (mb hs z i.toNat) (2 ^ (hs i).toNat) := by
  have h1 : (i + 1).toNat = i.toNat + 1 := by omega
  rw [h1, mb, Int.toNat_of_nonneg h]
theorem mq_s (n : Int) (rm q : Int → Int) {i : Int} (h : 0 ≤ i) : mq n rm q (i + 1).toNat = mb (DG n rm (q i)) (mq n rm q i.toNat) n.toNat := by
  have h1 : (i + 1).toNat = i.toNat + 1 := by omega
  rw [h1, mq, Int.toNat_of_nonneg h]
theorem pw_r {x : Int} (h0 : 0 ≤ x) (h1 : x ≤ 10) : 0 ≤ (2 : Int) ^ x.toNat ∧ (2 : Int) ^ x.toNat < 2 ^ 11 := by
  have : ∀ k : Nat, k < 11 → 0 ≤ (2 : Int) ^ k ∧ (2 : Int) ^ k < 2 ^ 11 := by decide
  exact this _ (by omega)
theorem nx_pos {n tp dr : Int} {rm : Int → Int} (h : Rm n rm) {x a : Int} (hu : 0 < mvM n tp dr rm x a) : 0 ≤ nxM n tp dr rm x a ∧ nxM n tp dr rm x a < mT rm n := by
  unfold nxM
  rw [if_pos hu]
  exact nT_r h.1 (move_v (DG_v h x) hu)
