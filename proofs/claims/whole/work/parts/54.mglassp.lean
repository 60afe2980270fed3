/-! ===== pure: the reference's glasses ===== -/
def mf (n : Int) (sp : Int → Int) (x ch : Int) : Int := ff (tv sp (Dg 13 x) ch) 1000000000 n.toNat
def mz (n : Int) (sp : Int → Int) (x ch : Int) : Int := ec 13 (fun k => max 0 (tv sp (Dg 13 x) ch k - mf n sp x ch)) n.toNat
def iS (n : Int) (sp : Int → Int) (x : Int) : Nat → Int
  | 0 => 1
  | k + 1 => if iS n sp x k = 1 ∧ Dg 13 x k ≤ (if (k : Int) < n then sp k else 0) then 1 else 0
theorem iS_s (n : Int) (sp : Int → Int) (x : Int) {k : Int} (h : 0 ≤ k) : iS n sp x (k + 1).toNat = if iS n sp x k.toNat = 1 ∧ Dg 13 x k ≤ (if k < n then sp k else 0) then 1 else 0 := by
  rw [show (k + 1).toNat = k.toNat + 1 by omega, iS, Int.toNat_of_nonneg h]
theorem iS_r (n : Int) (sp : Int → Int) (x : Int) (k : Nat) : iS n sp x k = 0 ∨ iS n sp x k = 1 := by
  cases k with
  | zero => exact Or.inr rfl
  | succ k =>
    rw [iS]
    by_cases q : iS n sp x k = 1 ∧ Dg 13 x k ≤ (if (k : Int) < n then sp k else 0)
    · rw [if_pos q]; exact Or.inr rfl
    · rw [if_neg q]; exact Or.inl rfl
def mp (n : Int) (sp : Int → Int) (x ch : Int) : Int := if iS n sp x 3 = 1 ∧ ch < 2 ^ n.toNat ∧ mf n sp x ch ≠ 1000000000 then mz n sp x ch * 16 + mf n sp x ch else -1
theorem tv13 {n : Int} {sp : Int → Int} (h : Sok n sp) (x ch : Int) {k : Int} (k0 : 0 ≤ k) (k1 : k < n) : -11 ≤ tv sp (Dg 13 x) ch k ∧ tv sp (Dg 13 x) ch k ≤ 12 := by
  have h1 := h.2.2 k k0 k1
  have h2 := Dg_r (b := 13) (x := x) (by omega) k
  unfold tv
  split <;> omega
theorem mf_r {n : Int} {sp : Int → Int} (h : Sok n sp) (x ch : Int) : mf n sp x ch = 1000000000 ∨ (1 ≤ mf n sp x ch ∧ mf n sp x ch ≤ 12) :=
  ff_r (by omega) (fun j a b => (tv13 h x ch a (by have := h.1; omega)).2)
theorem p13 {n : Int} (h0 : 0 ≤ n) (h1 : n ≤ 3) : 1 ≤ (13 : Int) ^ n.toNat ∧ (13 : Int) ^ n.toNat ≤ 2197 := by
  have : n = 0 ∨ n = 1 ∨ n = 2 ∨ n = 3 := by omega
  rcases this with rfl | rfl | rfl | rfl <;> decide
theorem mz_r {n : Int} {sp : Int → Int} (h : Sok n sp) (x ch : Int) (hf : mf n sp x ch ≠ 1000000000) : 0 ≤ mz n sp x ch ∧ mz n sp x ch < 2197 := by
  have h1 := mf_r h x ch
  have h2 := p13 h.1 h.2.1
  have h3 := ec_r (b := 13) (d := fun k => max 0 (tv sp (Dg 13 x) ch k - mf n sp x ch)) (by omega) n.toNat (fun j a b => by
    have := tv13 h x ch a (by have := h.1; omega)
    show 0 ≤ max 0 (tv sp (Dg 13 x) ch j - mf n sp x ch) ∧ max 0 (tv sp (Dg 13 x) ch j - mf n sp x ch) < 13
    omega)
  unfold mz
  omega
theorem mp_r {n : Int} {sp : Int → Int} (h : Sok n sp) (x ch : Int) : mp n sp x ch = -1 ∨ (0 ≤ mp n sp x ch / 16 ∧ mp n sp x ch / 16 < 2197 ∧ 1 ≤ mp n sp x ch % 16 ∧ mp n sp x ch % 16 ≤ 12 ∧ 0 ≤ mp n sp x ch) := by
  unfold mp
  split
  · next hq =>
    have h1 := mf_r h x ch
    have h2 := mz_r h x ch hq.2.2
    right
    omega
  · exact Or.inl rfl
def MPr (mp : Int → Int → Int) : Prop := ∀ x a, mp x a = -1 ∨ (0 ≤ mp x a / 16 ∧ mp x a / 16 < 2197 ∧ 1 ≤ mp x a % 16 ∧ mp x a % 16 ≤ 12 ∧ 0 ≤ mp x a)
/-- the ways forth: what has been looked at -/
def AQ (mp : Int → Int → Int) (ah : Int → Int) (T S b : Int) : Prop := ah 0 = 0 ∧
  (∀ t x, 0 ≤ t → t ≤ 60 → 0 ≤ x → x < 2197 → ah (2197 * t + x) = 1000000000 ∨ (0 ≤ ah (2197 * t + x) ∧ ah (2197 * t + x) ≤ 3 * t ∧ ∃ l, GP mp 8 l 0 x t (ah (2197 * t + x)))) ∧
  (∀ t x a, 0 ≤ t → t ≤ 60 → 0 ≤ x → x < 2197 → 0 ≤ a → a < 8 → (t < T ∨ (t = T ∧ (x < S ∨ (x = S ∧ a < b)))) → ah (2197 * t + x) < 1000000000 → mp x a ≠ -1 → t + mp x a % 16 ≤ 60 → ah (2197 * (t + mp x a % 16) + mp x a / 16) ≤ ah (2197 * t + x) + bc a)
theorem AQ_r {mp : Int → Int → Int} {ah : Int → Int} {T S b : Int} (h : AQ mp ah T S b) {t x : Int} (t0 : 0 ≤ t) (t1 : t ≤ 60) (x0 : 0 ≤ x) (x1 : x < 2197) : ah (2197 * t + x) = 1000000000 ∨ (0 ≤ ah (2197 * t + x) ∧ ah (2197 * t + x) ≤ 3 * t) := (h.2.1 t x t0 t1 x0 x1).imp id (fun w => ⟨w.1, w.2.1⟩)
theorem AQ_0 {mp : Int → Int → Int} {ah : Int → Int} (h : ∀ k, 0 ≤ k → k < 134017 → ah k = 1000000000) : AQ mp (uf ah 0 0) 0 0 0 := by
  refine ⟨uf_same _ _ _, fun t x t0 t1 x0 x1 => ?_, fun t x a t0 t1 x0 x1 a0 a1 hc => by omega⟩
  by_cases e : 2197 * t + x = 0
  · have e1 : t = 0 := by omega
    have e2 : x = 0 := by omega
    rw [e, uf_same]
    exact Or.inr ⟨by omega, by omega, [], e2.symm, e1, rfl⟩
  · rw [uf_ne _ _ e]
    exact Or.inl (h _ (by omega) (by omega))
theorem AQ_no {mp : Int → Int → Int} {ah : Int → Int} {T S b : Int} (h : AQ mp ah T S b) (hc : ah (2197 * T + S) < 1000000000 → mp S b ≠ -1 → T + mp S b % 16 ≤ 60 → ah (2197 * (T + mp S b % 16) + mp S b / 16) ≤ ah (2197 * T + S) + bc b) : AQ mp ah T S (b + 1) := by
  refine ⟨h.1, h.2.1, fun t x a t0 t1 x0 x1 a0 a1 hq h1 h2 h3 => ?_⟩
  by_cases e : t = T ∧ x = S ∧ a = b
  · obtain ⟨e1, e2, e3⟩ := e
    subst e1; subst e2; subst e3
    exact hc h1 h2 h3
  · exact h.2.2 t x a t0 t1 x0 x1 a0 a1 (by omega) h1 h2 h3
theorem AQ_yes {mp : Int → Int → Int} (hr : MPr mp) {ah : Int → Int} {T S b v : Int} (h : AQ mp ah T S b) (T0 : 0 ≤ T) (S0 : 0 ≤ S) (S1 : S < 2197) (b0 : 0 ≤ b) (b1 : b < 8) (hby : ah (2197 * T + S) < 1000000000) (hn : mp S b ≠ -1) (ht : T + mp S b % 16 ≤ 60) (hv : v = min (ah (2197 * T + S) + bc b) (ah (2197 * (T + mp S b % 16) + mp S b / 16))) : AQ mp (uf ah (2197 * (T + mp S b % 16) + mp S b / 16) v) T S (b + 1) := by
  have hd : 0 ≤ mp S b / 16 ∧ mp S b / 16 < 2197 ∧ 1 ≤ mp S b % 16 ∧ mp S b % 16 ≤ 12 := by
    rcases hr S b with w | w
    · exact absurd w hn
    · exact ⟨w.1, w.2.1, w.2.2.1, w.2.2.2.1⟩
  have hbc := bc_r b
  obtain ⟨h1, h2, h3⟩ := h
  have hat : ∀ t x, 0 ≤ t → 0 ≤ x → x < 2197 → t ≤ T → 2197 * t + x ≠ 2197 * (T + mp S b % 16) + mp S b / 16 := fun t x t0 x0 x1 t1 e => by omega
  have hold : ah (2197 * T + S) = 1000000000 ∨ (0 ≤ ah (2197 * T + S) ∧ ah (2197 * T + S) ≤ 3 * T ∧ ∃ l, GP mp 8 l 0 S T (ah (2197 * T + S))) := h2 T S T0 (by omega) S0 S1
  have hle : ∀ z, uf ah (2197 * (T + mp S b % 16) + mp S b / 16) v z ≤ ah z := fun z => by
    by_cases e : z = 2197 * (T + mp S b % 16) + mp S b / 16
    · rw [e, uf_same]; omega
    · rw [uf_ne _ _ e]; omega
  refine ⟨by rw [uf_ne _ _ (by omega)]; exact h1, fun t x t0 t1 x0 x1 => ?_, fun t x a t0 t1 x0 x1 a0 a1 hq w1 w2 w3 => ?_⟩
  · by_cases e : 2197 * t + x = 2197 * (T + mp S b % 16) + mp S b / 16
    · have e1 : t = T + mp S b % 16 := by omega
      have e2 : x = mp S b / 16 := by omega
      rw [e, uf_same]
      by_cases q : ah (2197 * T + S) + bc b < ah (2197 * (T + mp S b % 16) + mp S b / 16)
      · rcases hold with w | ⟨w1, w2, l, w3⟩
        · omega
        · rw [show v = ah (2197 * T + S) + bc b by omega, e1, e2]
          exact Or.inr ⟨by omega, by omega, l ++ [b], GP_app b0 b1 l 0 S _ _ w3 hn⟩
      · rw [show v = ah (2197 * (T + mp S b % 16) + mp S b / 16) by omega, ← e]
        exact h2 t x t0 t1 x0 x1
    · rw [uf_ne _ _ e]
      exact h2 t x t0 t1 x0 x1
  · have htT : t ≤ T := by omega
    rw [uf_ne _ _ (hat t x t0 x0 x1 htT)] at w1 ⊢
    by_cases e : t = T ∧ x = S ∧ a = b
    · obtain ⟨e1, e2, e3⟩ := e
      subst e1; subst e2; subst e3
      rw [uf_same]
      omega
    · have h9 := h3 t x a t0 t1 x0 x1 a0 a1 (by omega) w1 w2 w3
      have := hle (2197 * (t + mp x a % 16) + mp x a / 16)
      omega
theorem AQ_S {mp : Int → Int → Int} {ah : Int → Int} {T S b : Int} (h : AQ mp ah T S b) (hb : 8 ≤ b ∨ 1000000000 ≤ ah (2197 * T + S)) : AQ mp ah T (S + 1) 0 := by
  refine ⟨h.1, h.2.1, fun t x a t0 t1 x0 x1 a0 a1 hq h1 h2 h3 => ?_⟩
  by_cases e : t = T ∧ x = S
  · obtain ⟨e1, e2⟩ := e
    subst e1; subst e2
    exact h.2.2 t x a t0 t1 x0 x1 a0 a1 (by omega) h1 h2 h3
  · exact h.2.2 t x a t0 t1 x0 x1 a0 a1 (by omega) h1 h2 h3
theorem AQ_T {mp : Int → Int → Int} {ah : Int → Int} {T : Int} (h : AQ mp ah T 2197 0) : AQ mp ah (T + 1) 0 0 :=
  ⟨h.1, h.2.1, fun t x a t0 t1 x0 x1 a0 a1 hq h1 h2 h3 => h.2.2 t x a t0 t1 x0 x1 a0 a1 (by omega) h1 h2 h3⟩
theorem AQ_way {mp : Int → Int → Int} (hr : MPr mp) {ah : Int → Int} (h : AQ mp ah 61 0 0) : ∀ (l : List Int) (z t0 c0 y t c : Int), 0 ≤ z → z < 2197 → 0 ≤ t0 → ah (2197 * t0 + z) ≤ c0 → ah (2197 * t0 + z) ≠ 1000000000 → GP mp 8 l z y t c → t0 + t ≤ 60 → 0 ≤ y ∧ y < 2197 ∧ ah (2197 * (t0 + t) + y) ≤ c0 + c ∧ ah (2197 * (t0 + t) + y) ≠ 1000000000
  | [], z, t0, c0, y, t, c, z0, z1, ht0, hc, hne, hg, hs => by
    obtain ⟨e1, e2, e3⟩ := hg
    subst e1; subst e2; subst e3
    rw [Int.add_zero, Int.add_zero]
    exact ⟨z0, z1, hc, hne⟩
  | a :: l, z, t0, c0, y, t, c, z0, z1, ht0, hc, hne, hg, hs => by
    obtain ⟨a0, a1, a2, t', c', h2, h3, h4⟩ := hg
    have hn := GP_n l _ _ _ _ h2
    have hd : 0 ≤ mp z a / 16 ∧ mp z a / 16 < 2197 ∧ 1 ≤ mp z a % 16 ∧ mp z a % 16 ≤ 12 := by
      rcases hr z a with w | w
      · exact absurd w a2
      · exact ⟨w.1, w.2.1, w.2.2.1, w.2.2.2.1⟩
    have hz := AQ_r h ht0 (by omega) z0 z1
    have hb := bc_r a
    have h5 := h.2.2 t0 z a ht0 (by omega) z0 z1 a0 a1 (Or.inl (by omega)) (by omega) a2 (by omega)
    have h6 := AQ_way hr h l (mp z a / 16) (t0 + mp z a % 16) (c0 + bc a) y t' c' hd.1 hd.2.1 (by omega) (by omega) (by omega) h2 (by omega)
    rw [show t0 + t = t0 + mp z a % 16 + t' by omega]
    exact ⟨h6.1, h6.2.1, by omega, h6.2.2.2⟩
/-- the ways back -/
def BT (mp : Int → Int → Int) (be : Int → Int) (T S : Int) : Prop := ∀ t x, 0 ≤ t → t ≤ 40 → 0 ≤ x → x < 2197 → (t < T ∨ (t = T ∧ x < S)) → BQ 1000000000 mp 8 x t (be (2197 * t + x))
theorem BT_0 (mp : Int → Int → Int) (be : Int → Int) : BT mp be 0 0 := fun t x t0 t1 x0 x1 hc => by omega
theorem BT_T {mp : Int → Int → Int} {be : Int → Int} {T : Int} (h : BT mp be T 2197) : BT mp be (T + 1) 0 := fun t x t0 t1 x0 x1 hc => h t x t0 t1 x0 x1 (by omega)
theorem BT_st {mp : Int → Int → Int} {be : Int → Int} {T S v : Int} (h : BT mp be T S) (T0 : 0 ≤ T) (S0 : 0 ≤ S) (S1 : S < 2197) (hv : BQ 1000000000 mp 8 S T v) : BT mp (uf be (2197 * T + S) v) T (S + 1) := fun t x t0 t1 x0 x1 hc => by
  by_cases e : t = T ∧ x = S
  · obtain ⟨e1, e2⟩ := e
    subst e1; subst e2
    rw [uf_same]
    exact hv
  · rw [uf_ne _ _ (show 2197 * t + x ≠ 2197 * T + S from fun w => e (by omega))]
    exact h t x t0 t1 x0 x1 (by omega)
/-- the fewest turned, at one time -/
def WF (a b : Int → Int) (X v : Int) : Prop := (v = 1000000000 ∧ ∀ x, 0 ≤ x → x < X → a x = 1000000000 ∨ b x = 1000000000) ∨ (0 ≤ v ∧ v ≤ 1000 ∧ (∃ x, 0 ≤ x ∧ x < X ∧ a x ≠ 1000000000 ∧ b x ≠ 1000000000 ∧ v = a x + b x) ∧ ∀ x, 0 ≤ x → x < X → a x ≠ 1000000000 → b x ≠ 1000000000 → v ≤ a x + b x)
theorem WF_0 (a b : Int → Int) : WF a b 0 1000000000 := Or.inl ⟨rfl, fun x x0 x1 => by omega⟩
theorem WF_r {a b : Int → Int} {X v : Int} (h : WF a b X v) : v = 1000000000 ∨ (0 ≤ v ∧ v ≤ 1000) := h.imp (fun w => w.1) (fun w => ⟨w.1, w.2.1⟩)
theorem WF_no {a b : Int → Int} {X v : Int} (h : WF a b X v) (hc : a X ≠ 1000000000 → b X ≠ 1000000000 → v ≤ a X + b X) (hv : a X ≠ 1000000000 → b X ≠ 1000000000 → v ≠ 1000000000) : WF a b (X + 1) v := by
  rcases h with ⟨h1, h2⟩ | ⟨h1, h2, ⟨x, x0, x1, x2⟩, h4⟩
  · refine Or.inl ⟨h1, fun x x0 x1 => ?_⟩
    by_cases e : x = X
    · subst e
      by_cases q : a x = 1000000000
      · exact Or.inl q
      · by_cases q2 : b x = 1000000000
        · exact Or.inr q2
        · exact absurd h1 (hv q q2)
    · exact h2 x x0 (by omega)
  · refine Or.inr ⟨h1, h2, ⟨x, x0, by omega, x2⟩, fun x x0 x1 w1 w2 => ?_⟩
    by_cases e : x = X
    · subst e; exact hc w1 w2
    · exact h4 x x0 (by omega) w1 w2
theorem WF_yes {a b : Int → Int} {X v : Int} (h : WF a b X v) (X0 : 0 ≤ X) (ha : a X ≠ 1000000000) (hb : b X ≠ 1000000000) (hr : 0 ≤ a X + b X ∧ a X + b X ≤ 1000) (hl : a X + b X < v) : WF a b (X + 1) (a X + b X) := by
  refine Or.inr ⟨hr.1, hr.2, ⟨X, X0, by omega, ha, hb, rfl⟩, fun x x0 x1 w1 w2 => ?_⟩
  by_cases e : x = X
  · subst e; omega
  · rcases h with ⟨h1, h2⟩ | ⟨h1, h2, -, h4⟩
    · rcases h2 x x0 (by omega) with w | w
      · exact absurd w w1
      · exact absurd w w2
    · have := h4 x x0 (by omega) w1 w2
      omega
def ANo (ah be : Int → Int) (s T : Int) : Prop := ∀ t x, 0 ≤ t → t < T → 0 ≤ x → x < 2197 → ah (2197 * t + x) = 1000000000 ∨ be (2197 * s + x) = 1000000000
theorem ANo_s {ah be : Int → Int} {s T : Int} (h : ANo ah be s T) (hw : WF (fun x => ah (2197 * T + x)) (fun x => be (2197 * s + x)) 2197 1000000000) : ANo ah be s (T + 1) := fun t x t0 t1 x0 x1 => by
  by_cases e : t = T
  · subst e
    rcases hw with ⟨-, w⟩ | ⟨w1, w2, -⟩
    · exact w x x0 x1
    · omega
  · exact h t x t0 (by omega) x0 x1
theorem key54 {mp : Int → Int → Int} (hr : MPr mp) {ah be : Int → Int} {s : Int} (hA : AQ mp ah 61 0 0) (hB : BT mp be 41 0) (s0 : 0 ≤ s) (s1 : s ≤ 40) : ∀ l1 x t1 c1 l2 y c2, GP mp 8 l1 0 x t1 c1 → t1 ≤ 60 → GP mp 8 l2 x y s c2 → 0 ≤ t1 ∧ 0 ≤ x ∧ x < 2197 ∧ ah (2197 * t1 + x) ≠ 1000000000 ∧ ah (2197 * t1 + x) ≤ c1 ∧ be (2197 * s + x) ≠ 1000000000 ∧ be (2197 * s + x) ≤ c2 := fun l1 x t1 c1 l2 y c2 g1 ht g2 => by
  have hn := GP_n l1 _ _ _ _ g1
  have h1 := AQ_way hr hA l1 0 0 0 x t1 c1 (by omega) (by omega) (by omega) (by rw [show (2197 : Int) * 0 + 0 = 0 by omega, hA.1]; omega) (by rw [show (2197 : Int) * 0 + 0 = 0 by omega, hA.1]; omega) g1 (by omega)
  rw [Int.zero_add, Int.zero_add] at h1
  have h3 := hB s x s0 s1 h1.1 h1.2.1 (Or.inl (by omega))
  have h4 : be (2197 * s + x) ≠ 1000000000 ∧ be (2197 * s + x) ≤ c2 := by
    rcases h3 with ⟨-, w⟩ | ⟨w1, w2, -, w4⟩
    · exact absurd g2 (w l2 y c2)
    · exact ⟨by omega, w4 l2 y c2 g2⟩
  exact ⟨hn.1, h1.1, h1.2.1, h1.2.2.2, h1.2.2.1, h4⟩
theorem ANo_WT {mp : Int → Int → Int} (hr : MPr mp) {ah be : Int → Int} {s : Int} (hA : AQ mp ah 61 0 0) (hB : BT mp be 41 0) (s0 : 0 ≤ s) (s1 : s ≤ 40) (h : ANo ah be s 61) : WT mp 8 s (-1) (-1) :=
  Or.inl ⟨rfl, rfl, fun l1 x t1 c1 l2 y c2 g1 ht g2 => by
    obtain ⟨k1, k2, k3, k4, k5, k6, k7⟩ := key54 hr hA hB s0 s1 l1 x t1 c1 l2 y c2 g1 ht g2
    rcases h t1 x k1 (by omega) k2 k3 with w | w
    · exact k4 w
    · exact k6 w⟩
theorem WF_WT {mp : Int → Int → Int} (hr : MPr mp) {ah be : Int → Int} {s T v : Int} (hA : AQ mp ah 61 0 0) (hB : BT mp be 41 0) (s0 : 0 ≤ s) (s1 : s ≤ 40) (T0 : 0 ≤ T) (T1 : T ≤ 60) (h : ANo ah be s T) (hw : WF (fun x => ah (2197 * T + x)) (fun x => be (2197 * s + x)) 2197 v) (hv : v < 1000000000) : WT mp 8 s T v := by
  rcases hw with ⟨w, -⟩ | ⟨w1, w2, ⟨x, x0, x1, x2, x3, x4⟩, w4⟩
  · omega
  · have x4 : v = ah (2197 * T + x) + be (2197 * s + x) := x4
    refine Or.inr ⟨T0, T1, w1, w2, ?_, fun l1 x t1 c1 l2 y c2 g1 ht g2 => ?_⟩
    · rcases hA.2.1 T x T0 T1 x0 x1 with w | ⟨-, -, l1, w⟩
      · exact absurd w x2
      · rcases hB s x s0 s1 x0 x1 (Or.inl (by omega)) with u | ⟨-, -, ⟨l2, y, u⟩, -⟩
        · exact absurd u.1 x3
        · exact ⟨l1, x, _, l2, y, _, w, u, x4⟩
    · obtain ⟨k1, k2, k3, k4, k5, k6, k7⟩ := key54 hr hA hB s0 s1 l1 x t1 c1 l2 y c2 g1 ht g2
      refine ⟨?_, fun e => ?_⟩
      · rcases Int.lt_or_le t1 T with q | q
        · rcases h t1 x k1 q k2 k3 with w | w
          · exact absurd w k4
          · exact absurd w k6
        · exact q
      · subst e
        have : v ≤ ah (2197 * t1 + x) + be (2197 * s + x) := w4 x k2 k3 k4 k6
        omega
/-! ===== bits of a long ===== -/
def orL (x y : Int) : Int := (JL x ||| JL y).toInt
def shL (x y : Int) : Int := (JL x <<< ((J y).toInt64 &&& 63)).toInt
theorem JL_tI (x : Int64) : JL x.toInt = x := by unfold JL; exact Int64.ofInt_toInt x
section LOR
variable {p : Program} {l : Launch} {e : Env} {Rm : Room} {s : State} {m : MethodId} {args : Array Value} {below : List Frame} {meth : Method} {c : Code} {H : Heap} {locs : List Loc} {cells slots : Nat} {Q : State → Prop}
variable {cc : ByteArray} {pc : Nat} {ls : Array Slot} {rest : List Value}
theorem j_lor (hexec : p.tables.exec = Jvm.exec) (hb : c.code = cc) {x y : Int} (hdg : decode cc pc = .ok (.lor, 1)) (k : W p l e Rm s m args below meth c H locs cells slots Q (F0 m (pc + 1) ls (.long (JL (orL x y)) :: rest))) : W p l e Rm s m args below meth c H locs cells slots Q (F0 m pc ls (.long (JL y) :: .long (JL x) :: rest)) := by
  refine lv_lor hexec hb hdg ?_
  unfold orL at k
  rw [JL_tI] at k
  exact k
theorem j_lshl (hexec : p.tables.exec = Jvm.exec) (hb : c.code = cc) {x y : Int} (hdg : decode cc pc = .ok (.lshl, 1)) (k : W p l e Rm s m args below meth c H locs cells slots Q (F0 m (pc + 1) ls (.long (JL (shL x y)) :: rest))) : W p l e Rm s m args below meth c H locs cells slots Q (F0 m pc ls (.int (J y) :: .long (JL x) :: rest)) := by
  refine lv_lshl hexec hb hdg rfl ?_
  unfold shL at k
  rw [JL_tI] at k
  exact k
end LOR
/-- the spans that can be measured from early enough on -/
def sB (f : Int → Int) (w : Int) : Nat → Int
  | 0 => 0
  | k + 1 => orL (sB f w k) (if f (k + 1) ≠ -1 ∧ f (k + 1) ≤ w then shL 1 (k + 1) else 0)
theorem sB_s (f : Int → Int) (w : Int) {k : Int} (h : 1 ≤ k) : sB f w k.toNat = orL (sB f w (k - 1).toNat) (if f k ≠ -1 ∧ f k ≤ w then shL 1 k else 0) := by
  obtain ⟨j, rfl⟩ : ∃ j : Nat, k = (j : Int) + 1 := ⟨(k - 1).toNat, by omega⟩
  rw [show ((j : Int) + 1).toNat = j + 1 by omega, sB, show ((j : Int) + 1 - 1).toNat = j by omega]
theorem sB_cg {f f' : Int → Int} {w : Int} : ∀ {k : Nat}, (∀ j, 1 ≤ j → j ≤ (k : Int) → f j = f' j) → sB f w k = sB f' w k
  | 0, _ => rfl
  | k + 1, h => by
    rw [sB, sB, sB_cg (k := k) (fun j a b => h j a (by omega)), h (k + 1) (by omega) (by omega)]
theorem orL_0 (x : Int) : orL x 0 = (JL x).toInt := by
  unfold orL
  have : JL 0 = 0 := by decide
  rw [this, Int64.or_zero]
theorem sB_id (f : Int → Int) (w : Int) (k : Nat) : (JL (sB f w k)).toInt = sB f w k := by
  cases k with
  | zero => show (JL 0).toInt = 0; decide
  | succ k =>
    rw [sB]
    unfold orL
    rw [JL_tI]
/-- what the tables of next states and of times say -/
def CT (mp : Int → Int → Int) (cm tk : Int → Int) (z : Int) : Prop := ∀ x a, 0 ≤ x → x < 2197 → 0 ≤ a → a < 8 → 8 * x + a < z → (mp x a = -1 ∧ cm (8 * x + a) = -1 ∧ tk (8 * x + a) = 0) ∨ (mp x a ≠ -1 ∧ cm (8 * x + a) = mp x a / 16 ∧ tk (8 * x + a) = mp x a % 16)
theorem CT_st {mp : Int → Int → Int} {cm tk : Int → Int} {x a v1 v2 : Int} (h : CT mp cm tk (8 * x + a)) (a0 : 0 ≤ a) (a1 : a < 8) (hv : (mp x a = -1 ∧ v1 = -1 ∧ v2 = 0) ∨ (mp x a ≠ -1 ∧ v1 = mp x a / 16 ∧ v2 = mp x a % 16)) : CT mp (uf cm (8 * x + a) v1) (uf tk (8 * x + a) v2) (8 * x + (a + 1)) := fun y b y0 y1 b0 b1 hz => by
  by_cases e : 8 * y + b = 8 * x + a
  · have e1 : y = x := by omega
    have e2 : b = a := by omega
    subst e1; subst e2
    rw [uf_same, uf_same]
    exact hv
  · rw [uf_ne _ _ e, uf_ne _ _ e]
    exact h y b y0 y1 b0 b1 (by omega)
