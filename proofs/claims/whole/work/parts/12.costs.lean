/-! ===== pure: costs of rows ===== -/
def fFAR : Int := 1000000000
/-- does a state meet the aim (the reference's words) -/
def md (hs : Int → Int) (i v : Int) : Nat → Bool
  | 0 => false
  | k + 1 => md hs i v k || (decide (i = -1 ∨ i = k) && decide (hs k = v))
def b2i (b : Bool) : Int := if b then 1 else 0
theorem b2i_r (b : Bool) : b2i b = 0 ∨ b2i b = 1 := by unfold b2i; split <;> omega
theorem md_s (hs : Int → Int) (i v : Int) {k : Int} (h : 0 ≤ k) : md hs i v (k + 1).toNat = (md hs i v k.toNat || (decide (i = -1 ∨ i = k) && decide (hs k = v))) := by
  have h1 : (k + 1).toNat = k.toNat + 1 := by omega
  rw [h1, md, Int.toNat_of_nonneg h]
theorem md_congr {hs hs2 : Int → Int} {i v : Int} : ∀ (k : Nat), (∀ j : Int, 0 ≤ j → j < k → hs j = hs2 j) → md hs i v k = md hs2 i v k
  | 0, _ => rfl
  | k + 1, h => by rw [md, md, md_congr k (fun j a b => h j a (by omega)), h k (by omega) (by omega)]
/-- the aim, by the number of a state -/
def goM (n : Int) (rm : Int → Int) (i v x : Int) : Bool := md (DG n rm x) i v n.toNat
theorem goM_lay {n : Int} {rm hs : Int → Int} {i v x : Int} : md (p_lay n rm hs x) i v n.toNat = goM n rm i v x := md_congr _ (fun j a b => p_lay_DG a (by omega))
/-- what a state would cost by an act -/
def CB (nx sp : Int → Int → Int) (each : Int) (cs : Int → Int) (s a : Int) : Int := if nx s a = -1 ∨ cs (nx s a) = fFAR then fFAR else cs (nx s a) + 1 + each * sp s a
/-- a row of acts from a state to an aim, and what it costs -/
def RW (nx sp : Int → Int → Int) (each : Int) (go : Int → Bool) : List Int → Int → Int → Prop
  | [], s, c => go s = true ∧ c = 0
  | a :: t, s, c => 0 ≤ a ∧ a < 24 ∧ nx s a ≠ -1 ∧ ∃ c', RW nx sp each go t (nx s a) c' ∧ c = c' + 1 + each * sp s a
/-- what holds of the costs while they are found -/
def FI (N : Int) (nx sp : Int → Int → Int) (each : Int) (go : Int → Bool) (cs : Int → Int) : Prop :=
  ∀ s, 0 ≤ s → s < N → 0 ≤ cs s ∧ cs s ≤ fFAR ∧ (go s = true → cs s = 0) ∧ (cs s < fFAR → ∃ l, RW nx sp each go l s (cs s))
/-- what a table of moves is like -/
def NX (N : Int) (nx sp : Int → Int → Int) : Prop := ∀ s a, 0 ≤ s → s < N → 0 ≤ a → a < 24 → (nx s a = -1 ∨ (0 ≤ nx s a ∧ nx s a < N)) ∧ 0 ≤ sp s a ∧ sp s a ≤ 10
theorem RW_nn {nx sp : Int → Int → Int} {each N : Int} {go : Int → Bool} (hN : NX N nx sp) (he : 0 ≤ each) : ∀ (l : List Int) (s c : Int), 0 ≤ s → s < N → RW nx sp each go l s c → 0 ≤ c
  | [], _, _, _, _, h => by have := h.2; omega
  | a :: t, s, c, h0, h1, h => by
    obtain ⟨a0, a1, a2, c', h2, h3⟩ := h
    obtain ⟨n1, n2, n3⟩ := hN s a h0 h1 a0 a1
    have h4 := RW_nn hN he t (nx s a) c' (by omega) (by omega) h2
    have h5 : 0 ≤ each * sp s a := Int.mul_nonneg he n2
    omega
theorem FI_0 {N : Int} {nx sp : Int → Int → Int} {each : Int} {go : Int → Bool} {cs : Int → Int} (h : ∀ s, 0 ≤ s → s < N → cs s = if go s then 0 else fFAR) : FI N nx sp each go cs := by
  intro s h0 h1
  rw [h s h0 h1]
  unfold fFAR
  cases hg : go s with
  | true => simp; exact ⟨[], hg, rfl⟩
  | false => simp
theorem CB_r {N : Int} {nx sp : Int → Int → Int} {each : Int} {go : Int → Bool} {cs : Int → Int} (hN : NX N nx sp) (he : each = 0 ∨ each = 20000) (hF : FI N nx sp each go cs) {s a : Int} (h0 : 0 ≤ s) (h1 : s < N) (a0 : 0 ≤ a) (a1 : a < 24) : 1 ≤ CB nx sp each cs s a ∧ CB nx sp each cs s a ≤ 1000200001 := by
  obtain ⟨n1, n2, n3⟩ := hN s a h0 h1 a0 a1
  unfold CB
  split
  · unfold fFAR; omega
  · next q =>
    have := hF (nx s a) (by omega) (by omega)
    have h5 : 0 ≤ each * sp s a ∧ each * sp s a ≤ 200000 := by
      rcases he with e | e <;> subst e <;> omega
    unfold fFAR at *
    omega
theorem sT_uf (cs : Int → Int) {N : Int} (s v : Int) (h0 : 0 ≤ s) (h1 : s < N) : sT (uf cs s v) N = sT cs N + (v - cs s) := by
  have key : ∀ k : Nat, sN (uf cs s v) k = if s < k then sN cs k + (v - cs s) else sN cs k := by
    intro k
    induction k with
    | zero => simp [sN]; omega
    | succ k ih =>
      rw [sN, sN, ih]
      by_cases e : (k : Int) = s
      · rw [if_neg (by omega), if_pos (by omega), e, uf_same]
        omega
      · rw [uf_ne _ _ e]
        by_cases q : s < k
        · rw [if_pos q, if_pos (by omega)]; omega
        · rw [if_neg q, if_neg (by omega)]
  unfold sT
  rw [key, if_pos (by omega)]
theorem sT_nn {cs : Int → Int} {N : Int} (h : ∀ s, 0 ≤ s → s < N → 0 ≤ cs s) : 0 ≤ sT cs N := by
  have key : ∀ k : Nat, (k : Int) ≤ N → 0 ≤ sN cs k := by
    intro k
    induction k with
    | zero => simp [sN]
    | succ k ih =>
      intro hk
      rw [sN]
      have := ih (by omega)
      have := h k (by omega) (by omega)
      omega
  unfold sT
  by_cases hN : 0 ≤ N
  · exact key _ (by omega)
  · rw [show N.toNat = 0 by omega]; simp [sN]
/-- one better cost is written -/
theorem FI_s {N : Int} {nx sp : Int → Int → Int} {each : Int} {go : Int → Bool} {cs : Int → Int} (hN : NX N nx sp) (he : each = 0 ∨ each = 20000) (hF : FI N nx sp each go cs) {s a : Int} (h0 : 0 ≤ s) (h1 : s < N) (a0 : 0 ≤ a) (a1 : a < 24) (hb : CB nx sp each cs s a < cs s) : FI N nx sp each go (uf cs s (CB nx sp each cs s a)) := by
  have hr := CB_r hN he hF h0 h1 a0 a1
  have hs := hF s h0 h1
  intro x x0 x1
  by_cases e : x = s
  · subst e
    rw [uf_same]
    refine ⟨by omega, by omega, fun q => ?_, fun q => ?_⟩
    · have := hs.2.2.1 q; omega
    · obtain ⟨n1, n2, n3⟩ := hN x a h0 h1 a0 a1
      unfold CB at q ⊢
      split at q
      · omega
      · next w =>
        rw [if_neg w]
        have hn := hF (nx x a) (by omega) (by omega)
        obtain ⟨l, hl⟩ := hn.2.2.2 (by omega)
        exact ⟨a :: l, a0, a1, by omega, _, hl, rfl⟩
  · rw [uf_ne _ _ e]
    exact hF x x0 x1
/-- the costs stand: no act makes any of them less -/
def FC (N : Int) (nx sp : Int → Int → Int) (each : Int) (go : Int → Bool) (cs : Int → Int) : Prop :=
  FI N nx sp each go cs ∧ ∀ s a, 0 ≤ s → s < N → 0 ≤ a → a < 24 → cs s ≤ CB nx sp each cs s a
theorem FC_le {N : Int} {nx sp : Int → Int → Int} {each : Int} {go : Int → Bool} {cs : Int → Int} (hN : NX N nx sp) (he : 0 ≤ each) (hF : FC N nx sp each go cs) : ∀ (l : List Int) (s c : Int), 0 ≤ s → s < N → RW nx sp each go l s c → c < fFAR → cs s ≤ c
  | [], s, c, h0, h1, h, _ => by
    have := (hF.1 s h0 h1).2.2.1 h.1
    have := h.2
    omega
  | a :: t, s, c, h0, h1, h, hc => by
    obtain ⟨a0, a1, a2, c', h2, h3⟩ := h
    obtain ⟨n1, n2, n3⟩ := hN s a h0 h1 a0 a1
    have h5 : 0 ≤ each * sp s a := Int.mul_nonneg he n2
    have h4 := FC_le hN he hF t (nx s a) c' (by omega) (by omega) h2 (by omega)
    have h6 := hF.2 s a h0 h1 a0 a1
    unfold CB at h6
    rw [if_neg (by omega)] at h6
    omega
/-- a state that costs something has an act that leads on -/
theorem FC_act {N : Int} {nx sp : Int → Int → Int} {each : Int} {go : Int → Bool} {cs : Int → Int} (hN : NX N nx sp) (he : 0 ≤ each) (hF : FC N nx sp each go cs) {s : Int} (h0 : 0 ≤ s) (h1 : s < N) (hs : cs s ≠ 0) (hf : cs s ≠ fFAR) : ∃ a, 0 ≤ a ∧ a < 24 ∧ CB nx sp each cs s a = cs s := by
  have hi := hF.1 s h0 h1
  obtain ⟨l, hl⟩ := hi.2.2.2 (by omega)
  cases l with
  | nil => exact absurd hl.2 hs
  | cons a t =>
    obtain ⟨a0, a1, a2, c', h2, h3⟩ := hl
    obtain ⟨n1, n2, n3⟩ := hN s a h0 h1 a0 a1
    have h5 : 0 ≤ each * sp s a := Int.mul_nonneg he n2
    have h4 := FC_le hN he hF t (nx s a) c' (by omega) (by omega) h2 (by omega)
    have h6 := hF.2 s a h0 h1 a0 a1
    refine ⟨a, a0, a1, ?_⟩
    unfold CB at h6 ⊢
    rw [if_neg (by omega)] at h6 ⊢
    omega
/-- what the tables of moves say -/
theorem LA_NX {n tp dr : Int} {rm : Int → Int} (h : Rm n rm) : NX (mT rm n) (nxM n tp dr rm) (spM n tp dr rm) := fun s a _ _ _ _ => ⟨nxM_r h s a, spM_r h s a⟩
