/-! ===== changes of the jugs ===== -/
theorem up_comm {α : Type} (f : Nat → α) {i j : Nat} (a b : α) (h : i ≠ j) : va_up (va_up f i a) j b = va_up (va_up f j b) i a := by
  funext k
  by_cases e1 : k = i <;> by_cases e2 : k = j
  · omega
  · simp [va_up, e1, h]
  · simp [va_up, e2, Ne.symm h]
  · simp [va_up, e1, e2]
theorem QV_j2 {DI DL : Nat → Nat → Int} {DA : Nat → Nat → Int → Int} (h : QV DI DL DA) {I' : Nat → Int} {A' : Nat → Int → Int} {F : Nat → Int} (hF : F 6 = 0 ∧ F 7 = 0 ∧ F 8 = 0) (hW : Wok I' A') (hv : Vh (I' 0) (A' 4) (A' 5)) (hz : Zo (A' 4) ∧ Zo (A' 6)) : QV (va_up (va_up DI 1 I') 0 F) DL (va_up DA 1 A') := by
  rw [up_comm DI I' F (by decide)]
  exact QV_j h hF hW hv hz
theorem Zo_uf {f : Int → Int} (h : Zo f) {k v : Int} (h0 : 0 ≤ k) (h1 : k < 4) : Zo (uf f k v) := fun j hj => by
  rw [uf_ne _ _ (by omega)]
  exact h j hj
theorem Wok_add {I : Nat → Int} {A : Nat → Int → Int} (h : Wok I A) (hv : Vh (I 0) (A 4) (A 5)) {a b : Int} (hn : I 0 < 4) (ha : 1 ≤ a ∧ a ≤ 10) (hb : 0 ≤ b ∧ b ≤ a) : Wok (va_up (va_up I 1 (I 1 * (a + 1))) 0 (I 0 + 1)) (va_up (va_up (va_up A 4 (uf (A 4) (I 0) a)) 5 (uf (A 5) (I 0) b)) 6 (uf (A 6) (I 0) (I 1))) ∧ Vh (I 0 + 1) (uf (A 4) (I 0) a) (uf (A 5) (I 0) b) := by
  obtain ⟨h1, h2, h3, h4, h5, h6⟩ := h
  have hn0 := h1.1
  have hcg : ∀ k, 0 ≤ k → k ≤ I 0 → mT (uf (A 4) (I 0) a) k = mT (A 4) k := fun k k0 k1 => mT_cg k0 (fun i i0 i1 => uf_ne _ _ (by omega))
  have hrm : ∀ i, 0 ≤ i → i < I 0 + 1 → 1 ≤ uf (A 4) (I 0) a i ∧ uf (A 4) (I 0) a i ≤ 10 := fun i i0 i1 => by
    by_cases e : i = I 0
    · rw [e, uf_same]; exact ha
    · rw [uf_ne _ _ e]; exact h1.2.2 i i0 (by omega)
  refine ⟨⟨⟨show 0 ≤ I 0 + 1 by omega, show I 0 + 1 ≤ 4 by omega, hrm⟩, h2, h3, ?_, fun i i0 i1 => ?_, fun i i0 i1 => ?_⟩, fun i i0 i1 => ?_⟩
  · show I 1 * (a + 1) = mT (uf (A 4) (I 0) a) (I 0 + 1)
    rw [mT_s _ hn0, hcg _ hn0 (by omega), uf_same, h4]
  · show uf (A 6) (I 0) (I 1) i = mT (uf (A 4) (I 0) a) i
    have i1 : i < I 0 + 1 := i1
    rw [hcg i i0 (by omega)]
    by_cases e : i = I 0
    · rw [e, uf_same, h4]
    · rw [uf_ne _ _ e]; exact h5 i i0 (by omega)
  · show 0 ≤ uf (A 5) (I 0) b i ∧ uf (A 5) (I 0) b i ≤ 10
    by_cases e : i = I 0
    · rw [e, uf_same]; omega
    · rw [uf_ne _ _ e]; exact h6 i i0 i1
  · by_cases e : i = I 0
    · rw [e, uf_same, uf_same]; exact hb
    · rw [uf_ne _ _ e, uf_ne _ _ e]; exact hv i i0 (by omega)
theorem Wok_hd {I : Nat → Int} {A : Nat → Int → Int} (h : Wok I A) {f : Int → Int} (hv : Vh (I 0) (A 4) f) (hf : ∀ i, I 0 ≤ i → i < 4 → f i = A 5 i) : Wok I (va_up A 5 f) := by
  obtain ⟨h1, h2, h3, h4, h5, h6⟩ := h
  refine ⟨h1, h2, h3, h4, h5, fun i i0 i1 => ?_⟩
  show 0 ≤ f i ∧ f i ≤ 10
  by_cases e : i < I 0
  · have := hv i i0 e
    have := h1.2.2 i i0 e
    omega
  · rw [hf i (by omega) i1]
    exact h6 i i0 i1
theorem Wok_0 {I : Nat → Int} {A : Nat → Int → Int} (h : Wok I A) : Wok (va_up (va_up I 0 0) 1 1) A := by
  obtain ⟨h1, h2, h3, h4, h5, h6⟩ := h
  refine ⟨⟨show (0 : Int) ≤ 0 by omega, show (0 : Int) ≤ 4 by omega, fun i i0 i1 => ?_⟩, h2, h3, ?_, fun i i0 i1 => ?_, h6⟩
  · exact absurd (show i < 0 from i1) (by omega)
  · show (1 : Int) = mT (A 4) 0
    rw [mT_0]
  · exact absurd (show i < 0 from i1) (by omega)
theorem Wok_tp {I : Nat → Int} {A : Nat → Int → Int} (h : Wok I A) {b : Int} (hb : b = 0 ∨ b = 1) : Wok (va_up I 2 b) A ∧ Wok (va_up I 3 b) A := by
  obtain ⟨h1, h2, h3, h4, h5, h6⟩ := h
  exact ⟨⟨h1, hb, h3, h4, h5, h6⟩, ⟨h1, h2, hb, h4, h5, h6⟩⟩
theorem Wok_Jok {I : Nat → Int} {A : Nat → Int → Int} (h : Wok I A) (hv : Vh (I 0) (A 4) (A 5)) : Jok I A := by
  have := Jok_of h hv
  rw [va_up_id] at this
  exact this
theorem p_move_out {hd : Int → Int} {a u j n : Int} (hp : p_act n a) (h : n ≤ j) : p_move hd a u j = hd j := by
  unfold p_move
  have h1 := hp.1
  have h2 := hp.2.1
  split
  · split
    · rw [uf_ne _ _ (by omega), uf_ne _ _ (by omega)]
    · rw [uf_ne _ _ (by omega)]
  · split
    · rw [uf_ne _ _ (by omega)]
    · rfl
/-- the glasses -/
def GV (I L : Nat → Int) (A : Nat → Int → Int) : Prop := Sok (I 0) (A 1) ∧ (I 4 = 0 ∨ I 4 = 1) ∧ (I 4 = 1 → ∀ sn, 0 ≤ sn → sn ≤ 40 → WT (lp (I 0) (A 1)) (2 ^ (I 0).toNat) sn (A 2 sn) (A 3 sn)) ∧ (L 5 = 0 ∨ L 5 = 1 ∨ L 5 = 12 ∨ L 5 = 144 ∨ L 5 = 1728) ∧ (I 4 = 1 → k_states (I 0) ≤ L 5)
theorem st_v {n : Int} (h0 : 0 ≤ n) (h1 : n ≤ 3) : k_states n = 1 ∨ k_states n = 12 ∨ k_states n = 144 ∨ k_states n = 1728 := by
  have : n = 0 ∨ n = 1 ∨ n = 2 ∨ n = 3 := by omega
  rcases this with rfl | rfl | rfl | rfl <;> decide
theorem Sok_add {n : Int} {sp : Int → Int} (h : Sok n sp) {v : Int} (hn : n < 3) (hv : 1 ≤ v ∧ v ≤ 12) : Sok (n + 1) (uf sp n v) := by
  refine ⟨by have := h.1; omega, by omega, fun k k0 k1 => ?_⟩
  by_cases e : k = n
  · rw [e, uf_same]; exact hv
  · rw [uf_ne _ _ e]; exact h.2.2 k k0 (by omega)
