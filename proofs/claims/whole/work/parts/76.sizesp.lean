/-! ===== pure: the least sizes ===== -/
theorem rN_cg {sz sz2 : Int → Int} (x : Int) : ∀ k : Nat, (∀ i : Int, 0 ≤ i → i < k → sz i = sz2 i) → rN sz x k = rN sz2 x k
  | 0, _ => rfl
  | k + 1, h => by rw [rN, rN, rN_cg x k (fun i a b => h i a (by omega)), h k (by omega) (by omega)]
theorem DG_cg {n : Int} {rm rm2 : Int → Int} (h : Agr n rm rm2) (x : Int) {j : Int} (j0 : 0 ≤ j) (j1 : j < n) : DG n rm x j = DG n rm2 x j := by
  unfold DG rT
  rw [rN_cg (sz2 := rv n rm2) x _ (fun i a b => by unfold rv; exact h _ (by omega) (by omega)), h j j0 j1]
theorem nx_cg {n tp dr : Int} {rm rm2 : Int → Int} (h : Agr n rm rm2) (x a : Int) : nxM n tp dr rm x a = nxM n tp dr rm2 x a := by
  have hm : mvM n tp dr rm x a = mvM n tp dr rm2 x a := p_mv_congr h (fun i a b => DG_cg h x a b) a
  unfold nxM
  rw [hm]
  by_cases q : 0 < mvM n tp dr rm2 x a
  · rw [if_pos q, if_pos q]
    have hp := (p_mv_pos_act q).2.2
    exact nN_congr n.toNat (fun i i0 i1 => ⟨h i i0 (by omega), p_move_congr (fun i a b => DG_cg h x a b) hp i0 (by omega)⟩)
  · rw [if_neg q, if_neg q]
theorem PT_cg {nx nx2 : Int → Int → Int} (h : ∀ x a, nx x a = nx2 x a) : ∀ (l : List Int) (s t : Int), PT nx l s t → PT nx2 l s t
  | [], _, _, w => w
  | a :: l, s, t, ⟨w1, w2, w3, w4⟩ => ⟨w1, w2, by rw [← h]; exact w3, by rw [← h]; exact PT_cg h l _ _ w4⟩
/-- all up to b can be made, beginning with nothing -/
def MA (n : Int) (rm : Int → Int) (b : Int) : Prop := ∀ v, 1 ≤ v → v ≤ b → ∃ l t j, PT (nxM n 1 1 rm) l (nT rm (fun _ => 0) n) t ∧ 0 ≤ j ∧ j < n ∧ DG n rm t j = v
theorem MA_cg {n : Int} {rm rm2 : Int → Int} (h : Agr n rm rm2) {b : Int} (hm : MA n rm b) : MA n rm2 b := fun v v0 v1 => by
  obtain ⟨l, t, j, h1, h2, h3, h4⟩ := hm v v0 v1
  refine ⟨l, t, j, ?_, h2, h3, by rw [← DG_cg h t h2 h3]; exact h4⟩
  have e : nT rm (fun _ => 0) n = nT rm2 (fun _ => 0) n := nN_congr n.toNat (fun i i0 i1 => ⟨h i i0 (by omega), rfl⟩)
  rw [← e]
  exact PT_cg (fun x a => nx_cg h x a) l _ _ h1
theorem MA_ge {n : Int} {rm : Int → Int} (hr : Rm n rm) {b : Int} (hb : 1 ≤ b) (hm : MA n rm b) : ∃ j, 0 ≤ j ∧ j < n ∧ b ≤ rm j := by
  obtain ⟨l, t, j, -, h2, h3, h4⟩ := hm b hb (by omega)
  have := DG_v hr t j h2 h3
  exact ⟨j, h2, h3, by omega⟩
/-- one jug alone holds nothing or all -/
theorem one_jug {rm : Int → Int} (hr : Rm 1 rm) : ∀ (l : List Int) (s t : Int), (s = 0 ∨ s = rm 0) → PT (nxM 1 1 1 rm) l s t → t = 0 ∨ t = rm 0
  | [], s, t, hs, h => by
    have h : s = t := h
    rw [← h]; exact hs
  | a :: l, s, t, hs, h => by
    obtain ⟨a0, a1, a2, h1⟩ := h
    refine one_jug hr l _ t ?_ h1
    have h0 := hr.2.2 0 (by omega) (by omega)
    unfold nxM at a2 ⊢
    by_cases q : 0 < mvM 1 1 1 rm s a
    · rw [if_pos q]
      obtain ⟨-, -, hp⟩ := p_mv_pos_act q
      have hk := k_acts a0 a1
      have e1 : ∀ hd : Int → Int, nT rm hd 1 = hd 0 := fun hd => by
        show 0 * (rm 0 + 1) + hd 0 = hd 0
        omega
      rw [e1]
      have hmv : mvM 1 1 1 rm s a = if p_there 1 (DG 1 rm s) (k_giver a) < p_room 1 rm (DG 1 rm s) (k_taker a) then p_there 1 (DG 1 rm s) (k_giver a) else p_room 1 rm (DG 1 rm s) (k_taker a) := p_mv_act a0 a1 hp
      have hv := DG_v hr s 0 (by omega) (by omega)
      have hg := k_giver_r a
      have ht := k_taker_r a
      have hp1 := hp.1
      have hp2 := hp.2.1
      have hp3 := hp.2.2
      have hcase : (k_giver a = -1 ∧ k_taker a = 0) ∨ (k_giver a = 0 ∧ k_taker a = -1) := by omega
      rcases hcase with ⟨c1, c2⟩ | ⟨c1, c2⟩
      · right
        rw [c1, c2] at hmv
        have e3 : p_there 1 (DG 1 rm s) (-1) = 10 := by unfold p_there; rfl
        have e4 : p_room 1 rm (DG 1 rm s) 0 = rm 0 - DG 1 rm s 0 := by unfold p_room; rfl
        rw [e3, e4] at hmv
        unfold p_move
        rw [c1, c2, if_pos (by omega), if_neg (by omega), uf_same]
        split at hmv <;> omega
      · left
        rw [c1, c2] at hmv
        have e3 : p_there 1 (DG 1 rm s) 0 = DG 1 rm s 0 := by unfold p_there; rfl
        have e4 : p_room 1 rm (DG 1 rm s) (-1) = 10 := by unfold p_room; rfl
        rw [e3, e4] at hmv
        unfold p_move
        rw [c1, c2, if_neg (by omega), if_pos (by omega), uf_same]
        split at hmv <;> omega
    · rw [if_neg q] at a2
      exact absurd rfl a2
theorem MA_one {rm : Int → Int} (hr : Rm 1 rm) {b : Int} (hm : MA 1 rm b) : b ≤ 1 := by
  rcases Int.lt_or_le 1 b with w | w
  · have h0 := hr.2.2 0 (by omega) (by omega)
    have key : ∀ v, 1 ≤ v → v ≤ b → v = rm 0 := fun v v0 v1 => by
      obtain ⟨l, t, j, h1, h2, h3, h4⟩ := hm v v0 v1
      have e0 : nT rm (fun _ => 0) 1 = 0 := by show 0 * (rm 0 + 1) + 0 = (0 : Int); omega
      rw [e0] at h1
      have ht := one_jug hr l 0 t (Or.inl rfl) h1
      have ej : j = 0 := by omega
      subst ej
      have e1 : DG 1 rm t 0 = t % (rm 0 + 1) := rfl
      rw [e1] at h4
      rcases ht with ht | ht
      · rw [ht] at h4; simp at h4; omega
      · rw [ht, Int.emod_eq_of_lt (by omega) (by omega)] at h4; omega
    have k1 := key 1 (by omega) (by omega)
    have k2 := key 2 (by omega) (by omega)
    omega
  · exact w
/-- a walk that is tried out -/
def rn (nx : Int → Int → Int) : List Int → Int → Option Int
  | [], s => some s
  | a :: l, s => if 0 ≤ a ∧ a < 24 ∧ nx s a ≠ -1 then rn nx l (nx s a) else none
theorem rn_PT {nx : Int → Int → Int} : ∀ (l : List Int) (s t : Int), rn nx l s = some t → PT nx l s t
  | [], s, t, h => by
    have h : some s = some t := h
    exact Option.some.inj h
  | a :: l, s, t, h => by
    rw [rn] at h
    by_cases q : 0 ≤ a ∧ a < 24 ∧ nx s a ≠ -1
    · rw [if_pos q] at h
      exact ⟨q.1, q.2.1, q.2.2, rn_PT l _ _ h⟩
    · rw [if_neg q] at h; cases h
def szR (k b : Int) : Int → Int := fun j => if j = k - 1 then b else 1
def wkL : Nat → List Int
  | 0 => []
  | n + 1 => wkL n ++ [12, 4]
def wk3 : Nat → List Int
  | 0 => []
  | n + 1 => wk3 n ++ [16, 4]
theorem sz_ok2 : ∀ b, b < 10 → ∀ v, v < b + 1 → ∃ t, rn (nxM 2 1 1 (szR 2 ((b : Nat) + 1))) (1 :: wkL (b - v)) (nT (szR 2 ((b : Nat) + 1)) (fun _ => 0) 2) = some t ∧ DG 2 (szR 2 ((b : Nat) + 1)) t 1 = ((v : Nat) : Int) + 1 := by
  have key : ∀ b, b < 10 → ∀ v, v < b + 1 → (match rn (nxM 2 1 1 (szR 2 ((b : Nat) + 1))) (1 :: wkL (b - v)) (nT (szR 2 ((b : Nat) + 1)) (fun _ => 0) 2) with | some t => decide (DG 2 (szR 2 ((b : Nat) + 1)) t 1 = ((v : Nat) : Int) + 1) | none => false) = true := by decide +kernel
  intro b hb v hv
  have := key b hb v hv
  split at this
  · next t ht => exact ⟨t, ht, by simpa using this⟩
  · cases this
theorem sz_ok3 : ∀ b, b < 10 → ∀ v, v < b + 1 → ∃ t, rn (nxM 3 1 1 (szR 3 ((b : Nat) + 1))) (2 :: wk3 (b - v)) (nT (szR 3 ((b : Nat) + 1)) (fun _ => 0) 3) = some t ∧ DG 3 (szR 3 ((b : Nat) + 1)) t 2 = ((v : Nat) : Int) + 1 := by
  have key : ∀ b, b < 10 → ∀ v, v < b + 1 → (match rn (nxM 3 1 1 (szR 3 ((b : Nat) + 1))) (2 :: wk3 (b - v)) (nT (szR 3 ((b : Nat) + 1)) (fun _ => 0) 3) with | some t => decide (DG 3 (szR 3 ((b : Nat) + 1)) t 2 = ((v : Nat) : Int) + 1) | none => false) = true := by decide +kernel
  intro b hb v hv
  have := key b hb v hv
  split at this
  · next t ht => exact ⟨t, ht, by simpa using this⟩
  · cases this
theorem sz_ok1 : ∃ t, rn (nxM 1 1 1 (szR 1 1)) [0] (nT (szR 1 1) (fun _ => 0) 1) = some t ∧ DG 1 (szR 1 1) t 0 = 1 := by
  have key : (match rn (nxM 1 1 1 (szR 1 1)) [0] (nT (szR 1 1) (fun _ => 0) 1) with | some t => decide (DG 1 (szR 1 1) t 0 = 1) | none => false) = true := by decide +kernel
  split at key
  · next t ht => exact ⟨t, ht, by simpa using key⟩
  · cases key
theorem MA_yes {k b : Int} (hk : 1 ≤ k ∧ k ≤ 3) (hb : 1 ≤ b ∧ b ≤ 10) (h1 : k = 1 → b = 1) : MA k (szR k b) b := fun v v0 v1 => by
  have hc : k = 1 ∨ k = 2 ∨ k = 3 := by omega
  obtain ⟨c, rfl⟩ : ∃ c : Nat, b = (c : Int) + 1 := ⟨(b - 1).toNat, by omega⟩
  obtain ⟨w, rfl⟩ : ∃ w : Nat, v = (w : Int) + 1 := ⟨(v - 1).toNat, by omega⟩
  rcases hc with rfl | rfl | rfl
  · have e := h1 rfl
    have ec : c = 0 := by omega
    have ew : w = 0 := by omega
    subst ec; subst ew
    obtain ⟨t, t1, t2⟩ := sz_ok1
    exact ⟨_, t, 0, rn_PT _ _ _ t1, by omega, by omega, t2⟩
  · obtain ⟨t, t1, t2⟩ := sz_ok2 c (by omega) w (by omega)
    exact ⟨_, t, 1, rn_PT _ _ _ t1, by omega, by omega, t2⟩
  · obtain ⟨t, t1, t2⟩ := sz_ok3 c (by omega) w (by omega)
    exact ⟨_, t, 2, rn_PT _ _ _ t1, by omega, by omega, t2⟩
/-- the sizes that a number spells -/
def dT (k t : Int) : Int → Int := fun j => 1 + t / 10 ^ (k - 1 - j).toNat % 10
def Ris (k : Int) (rm : Int → Int) : Prop := ∀ j, 1 ≤ j → j < k → rm (j - 1) ≤ rm j
def SuZ (k b t s : Int) : Prop := sT (dT k t) k = s ∧ Ris k (dT k t) ∧ MA k (dT k t) b
theorem dT_r (k t : Int) (j : Int) : 1 ≤ dT k t j ∧ dT k t j ≤ 10 := by unfold dT; omega
theorem dT_Rm {k : Int} (hk : 1 ≤ k ∧ k ≤ 3) (t : Int) : Rm k (dT k t) := ⟨by omega, by omega, fun i _ _ => dT_r k t i⟩
theorem sum_3 {k : Int} (hk : 1 ≤ k ∧ k ≤ 3) (f : Int → Int) : sT f k = if k = 1 then f 0 else if k = 2 then f 0 + f 1 else f 0 + f 1 + f 2 := by
  have hc : k = 1 ∨ k = 2 ∨ k = 3 := by omega
  rcases hc with rfl | rfl | rfl
  · show 0 + f 0 = _; simp
  · show 0 + f 0 + f 1 = _; simp
  · show 0 + f 0 + f 1 + f 2 = _; simp
theorem SuZ_low {k b t s : Int} (hk : 1 ≤ k ∧ k ≤ 3) (hb : 1 ≤ b ∧ b ≤ 10) (h : SuZ k b t s) : b + k - 1 ≤ s ∧ (s = b + k - 1 → ∀ j, 0 ≤ j → j < k → dT k t j = szR k b j) ∧ (k = 1 → b = 1) := by
  obtain ⟨h1, h2, h3⟩ := h
  obtain ⟨j, j0, j1, j2⟩ := MA_ge (dT_Rm hk t) hb.1 h3
  rw [sum_3 hk] at h1
  have r0 := dT_r k t 0
  have r1 := dT_r k t 1
  have r2 := dT_r k t 2
  have hc : k = 1 ∨ k = 2 ∨ k = 3 := by omega
  rcases hc with rfl | rfl | rfl
  · rw [if_pos rfl] at h1
    have e : j = 0 := by omega
    rw [e] at j2
    refine ⟨by omega, fun q i i0 i1 => ?_, fun _ => ?_⟩
    · have ei : i = 0 := by omega
      rw [ei]; unfold szR; rw [if_pos (by omega)]; omega
    · have := MA_one (dT_Rm hk t) h3; omega
  · rw [if_neg (by omega), if_pos rfl] at h1
    have s1 : dT 2 t 0 ≤ dT 2 t 1 := h2 1 (by omega) (by omega)
    have hmx : b ≤ dT 2 t 1 := by
      have e : j = 0 ∨ j = 1 := by omega
      rcases e with e | e <;> rw [e] at j2 <;> omega
    refine ⟨by omega, fun q i i0 i1 => ?_, fun w => by omega⟩
    have ei : i = 0 ∨ i = 1 := by omega
    rcases ei with e | e <;> rw [e] <;> unfold szR
    · rw [if_neg (by omega)]; omega
    · rw [if_pos (by omega)]; omega
  · rw [if_neg (by omega), if_neg (by omega)] at h1
    have s1 : dT 3 t 0 ≤ dT 3 t 1 := h2 1 (by omega) (by omega)
    have s2 : dT 3 t 1 ≤ dT 3 t 2 := h2 2 (by omega) (by omega)
    have hmx : b ≤ dT 3 t 2 := by
      have e : j = 0 ∨ j = 1 ∨ j = 2 := by omega
      rcases e with e | e | e <;> rw [e] at j2 <;> omega
    refine ⟨by omega, fun q i i0 i1 => ?_, fun w => by omega⟩
    have ei : i = 0 ∨ i = 1 ∨ i = 2 := by omega
    rcases ei with e | e | e <;> rw [e] <;> unfold szR
    · rw [if_neg (by omega)]; omega
    · rw [if_neg (by omega)]; omega
    · rw [if_pos (by omega)]; omega
theorem SuZ_yes {k b : Int} (hk : 1 ≤ k ∧ k ≤ 3) (hb : 1 ≤ b ∧ b ≤ 10) (h1 : k = 1 → b = 1) : SuZ k b (b - 1) (b + k - 1) := by
  have hd : ∀ j, 0 ≤ j → j < k → dT k (b - 1) j = szR k b j := fun j j0 j1 => by
    unfold dT szR
    by_cases e : j = k - 1
    · rw [if_pos e, show k - 1 - j = 0 by omega]
      have : (b - 1) / 10 ^ (0 : Int).toNat % 10 = b - 1 := by
        rw [show (10 : Int) ^ (0 : Int).toNat = 1 from rfl]
        omega
      omega
    · rw [if_neg e]
      have hc : k - 1 - j = 1 ∨ k - 1 - j = 2 := by omega
      rcases hc with c | c <;> rw [c]
      · rw [show (10 : Int) ^ (1 : Int).toNat = 10 from rfl]; omega
      · rw [show (10 : Int) ^ (2 : Int).toNat = 100 from rfl]; omega
  refine ⟨?_, fun j j0 j1 => ?_, MA_cg (fun j j0 j1 => (hd j j0 j1).symm) (MA_yes hk hb h1)⟩
  · rw [sum_3 hk]
    have hc : k = 1 ∨ k = 2 ∨ k = 3 := by omega
    rcases hc with rfl | rfl | rfl
    · rw [if_pos rfl, hd 0 (by omega) (by omega)]; unfold szR; rw [if_pos (by omega)]; omega
    · rw [if_neg (by omega), if_pos rfl, hd 0 (by omega) (by omega), hd 1 (by omega) (by omega)]; unfold szR; rw [if_neg (by omega), if_pos (by omega)]; omega
    · rw [if_neg (by omega), if_neg (by omega), hd 0 (by omega) (by omega), hd 1 (by omega) (by omega), hd 2 (by omega) (by omega)]; unfold szR; rw [if_neg (by omega), if_neg (by omega), if_pos (by omega)]; omega
  · rw [hd (j - 1) (by omega) (by omega), hd j (by omega) j1]
    unfold szR
    rw [if_neg (by omega)]
    split <;> omega
/-- all bits from 1 to b -/
theorem all_bits : ∀ b, b < 11 → ∀ i, i < 12 → ((2 ^ (b + 1) - 2 : Nat).testBit i = decide (1 ≤ i ∧ i ≤ b)) := by decide +kernel
theorem and_all {x b : Int} (hb : 1 ≤ b ∧ b ≤ 10) : andI x (2 ^ (b + 1).toNat - 2) = 2 ^ (b + 1).toNat - 2 ↔ ∀ v : Nat, 1 ≤ v → (v : Int) ≤ b → x.toNat.testBit v = true := by
  obtain ⟨c, rfl⟩ : ∃ c : Nat, b = (c : Int) := ⟨b.toNat, by omega⟩
  have hp : ((2 : Int) ^ ((c : Int) + 1).toNat - 2) = ((2 ^ (c + 1) - 2 : Nat) : Int) := by
    rw [show ((c : Int) + 1).toNat = c + 1 by omega]
    have h2 : 2 ≤ 2 ^ (c + 1) := by rw [Nat.pow_succ]; have := Nat.one_le_two_pow (n := c); omega
    rw [Int.natCast_sub h2]
    simp
  have hlt : (2 ^ (c + 1) - 2 : Nat) < 2 ^ 12 := by
    have : (2 : Nat) ^ (c + 1) ≤ 2 ^ 11 := Nat.pow_le_pow_right (by omega) (by omega)
    omega
  have hbit : ∀ i, (2 ^ (c + 1) - 2 : Nat).testBit i = decide (1 ≤ i ∧ i ≤ c) := fun i => by
    by_cases w : i < 12
    · exact all_bits c (by omega) i w
    · rw [Nat.testBit_lt_two_pow (Nat.lt_of_lt_of_le hlt (Nat.pow_le_pow_right (by omega) (by omega)))]
      simp
      omega
  rw [hp]
  unfold andI
  rw [Int.toNat_natCast]
  constructor
  · intro h v v0 v1
    have h : x.toNat &&& (2 ^ (c + 1) - 2) = 2 ^ (c + 1) - 2 := by omega
    have h2 := congrArg (fun y => Nat.testBit y v) h
    simp only [Nat.testBit_and, hbit v] at h2
    have : decide (1 ≤ v ∧ v ≤ c) = true := by simp; omega
    rw [this] at h2
    simpa using h2
  · intro h
    have : x.toNat &&& (2 ^ (c + 1) - 2) = 2 ^ (c + 1) - 2 := by
      apply Nat.eq_of_testBit_eq
      intro i
      rw [Nat.testBit_and, hbit i]
      by_cases q : 1 ≤ i ∧ i ≤ c
      · rw [h i q.1 (by omega)]; simp
      · simp [q]
    rw [this]
theorem MA_iff {n : Int} {rm q : Int → Int} {k b : Int} (hr : Rm n rm) (hb : 1 ≤ b ∧ b ≤ 10) (hR : RE (mT rm n) (nxM n 1 1 rm) (nT rm (fun _ => 0) n) q k) : andI (mq n rm q k.toNat) (2 ^ (b + 1).toNat - 2) = 2 ^ (b + 1).toNat - 2 ↔ MA n rm b := by
  rw [and_all hb]
  have hn := hr.1
  constructor
  · intro h v v0 v1
    have h1 := h v.toNat (by omega) (by omega)
    obtain ⟨k', j, a1, a2, a3, a4, a5⟩ := (mq_bit n rm q v.toNat k.toNat).mp h1
    obtain ⟨-, -, l, hl⟩ := hR.2.2.1 k' a1 (by omega)
    have hv := DG_v hr (q k') j a3 (by omega)
    exact ⟨l, q k', j, hl, a3, by omega, by omega⟩
  · intro h v v0 v1
    obtain ⟨l, t, j, h1, h2, h3, h4⟩ := h v (by omega) v1
    obtain ⟨k', a1, a2, a3⟩ := hR.2.2.2.2 l t h1
    exact (mq_bit n rm q v k.toNat).mpr ⟨k', j, a1, by omega, h2, by omega, by rw [a3]; omega⟩
theorem mb_lt {hs : Int → Int} {z : Int} (hz : 0 ≤ z ∧ z < 2 ^ 11) : ∀ i : Nat, (∀ j : Int, 0 ≤ j → j < i → 0 ≤ hs j ∧ hs j ≤ 10) → 0 ≤ mb hs z i ∧ mb hs z i < 2 ^ 11
  | 0, _ => hz
  | i + 1, h => by
    have ih := mb_lt hz i (fun j a b => h j a (by omega))
    have h1 := h i (by omega) (by omega)
    have h2 := pw_r h1.1 h1.2
    rw [mb]
    exact orI_r ih.1 h2.1 ih.2 h2.2
theorem mq_lt {n : Int} {rm q : Int → Int} (hr : Rm n rm) : ∀ k : Nat, 0 ≤ mq n rm q k ∧ mq n rm q k < 2 ^ 11
  | 0 => by rw [mq]; omega
  | k + 1 => by
    rw [mq]
    refine mb_lt (mq_lt hr k) n.toNat (fun j a b => ?_)
    have h1 := DG_v hr (q k) j a (by have := hr.1; omega)
    have h2 := hr.2.2 j a (by have := hr.1; omega)
    omega
theorem andI_r {x y : Int} (hy : 0 ≤ y) : 0 ≤ andI x y ∧ andI x y ≤ y := by
  unfold andI
  have : x.toNat &&& y.toNat ≤ y.toNat := Nat.and_le_right
  omega
theorem pw11 {b : Int} (hb : 1 ≤ b ∧ b ≤ 10) : 4 ≤ (2 : Int) ^ (b + 1).toNat ∧ (2 : Int) ^ (b + 1).toNat ≤ 2048 := by
  obtain ⟨c, rfl⟩ : ∃ c : Nat, b = (c : Int) := ⟨b.toNat, by omega⟩
  rw [show ((c : Int) + 1).toNat = c + 1 by omega]
  have key : ∀ c, 1 ≤ c → c < 11 → (4 : Int) ≤ 2 ^ (c + 1) ∧ (2 : Int) ^ (c + 1) ≤ 2048 := by
    intro c h1 h2
    have hc : c = 1 ∨ c = 2 ∨ c = 3 ∨ c = 4 ∨ c = 5 ∨ c = 6 ∨ c = 7 ∨ c = 8 ∨ c = 9 ∨ c = 10 := by omega
    rcases hc with rfl | rfl | rfl | rfl | rfl | rfl | rfl | rfl | rfl | rfl <;> decide
  exact key c (by omega) (by omega)
theorem dT_div {k t p y : Int} (hp : 0 ≤ p) (hk : p < k) (ey : y = t / 10 ^ (k - 1 - p).toNat) : dT k t p = 1 + y % 10 ∧ y / 10 = t / 10 ^ (k - 1 - (p - 1)).toNat := by
  unfold dT
  rw [← ey]
  refine ⟨rfl, ?_⟩
  rw [show (k - 1 - (p - 1)).toNat = (k - 1 - p).toNat + 1 by omega, Int.pow_succ, ey, Int.ediv_ediv, if_neg (fun w => by have := Int.pow_pos (n := 10) (m := (k - 1 - p).toNat) (by decide); omega), Int.sub_zero]
theorem Ris_cg {k : Int} {f f2 : Int → Int} (h : ∀ j, 0 ≤ j → j < k → f j = f2 j) : Ris k f ↔ Ris k f2 := by
  unfold Ris
  constructor
  · intro w j j0 j1
    rw [← h (j - 1) (by omega) (by omega), ← h j (by omega) j1]
    exact w j j0 j1
  · intro w j j0 j1
    rw [h (j - 1) (by omega) (by omega), h j (by omega) j1]
    exact w j j0 j1
