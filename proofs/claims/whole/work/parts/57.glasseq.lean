/-! ===== pure: the glasses of both are the same ===== -/
theorem dq_sh (b x : Int) : ∀ k : Nat, dq b x (k + 1) = dq b (x / b) k
  | 0 => rfl
  | k + 1 => by rw [dq, dq_sh b x k, dq]
theorem ec_sh (b : Int) (d : Int → Int) : ∀ n : Nat, ec b d (n + 1) = d 0 + b * ec b (fun j => d (j + 1)) n
  | 0 => by simp [ec]
  | n + 1 => by
    have e1 : ec b d (n + 1 + 1) = ec b d (n + 1) + d ((n + 1 : Nat) : Int) * b ^ (n + 1) := rfl
    have e2 : ec b (fun j => d (j + 1)) (n + 1) = ec b (fun j => d (j + 1)) n + d ((n : Int) + 1) * b ^ n := rfl
    rw [e1, e2, ec_sh b d n, Int.mul_add, Int.pow_succ, show ((n + 1 : Nat) : Int) = (n : Int) + 1 by omega, Int.mul_comm (b ^ n) b, Int.mul_left_comm b]
    omega
theorem ec_div {b : Int} (hb : 0 < b) {d : Int → Int} {n : Nat} (h0 : 0 ≤ d 0 ∧ d 0 < b) : ec b d (n + 1) / b = ec b (fun j => d (j + 1)) n ∧ ec b d (n + 1) % b = d 0 := by
  rw [ec_sh]
  constructor
  · rw [Int.add_mul_ediv_left _ _ (by omega), Int.ediv_eq_zero_of_lt h0.1 h0.2, Int.zero_add]
  · rw [Int.add_mul_emod_self_left, Int.emod_eq_of_lt h0.1 h0.2]
theorem dq_ec {b : Int} (hb : 0 < b) : ∀ (n k : Nat) (d : Int → Int), (∀ j : Int, 0 ≤ j → j < n → 0 ≤ d j ∧ d j < b) → (k < n → dq b (ec b d n) k % b = d k) ∧ (n ≤ k → dq b (ec b d n) k = 0)
  | 0, 0, d, _ => ⟨fun h => absurd h (by omega), fun _ => rfl⟩
  | 0, k + 1, d, hd => by
    refine ⟨fun h => absurd h (by omega), fun _ => ?_⟩
    have h := (dq_ec hb 0 k d hd).2 (by omega)
    rw [dq, h]
    simp
  | n + 1, 0, d, hd => by
    refine ⟨fun _ => ?_, fun h => absurd h (by omega)⟩
    rw [dq, (ec_div hb (hd 0 (by omega) (by omega))).2]
    rfl
  | n + 1, k + 1, d, hd => by
    have h := dq_ec hb n k (fun j => d (j + 1)) (fun j a c => hd (j + 1) (by omega) (by omega))
    rw [dq_sh, (ec_div hb (hd 0 (by omega) (by omega))).1]
    exact ⟨fun q => (h.1 (by omega)).trans (by rw [show ((k + 1 : Nat) : Int) = (k : Int) + 1 by omega]), fun q => h.2 (by omega)⟩
theorem Dg_ec {b n : Int} (hb : 0 < b) (hn : 0 ≤ n) {d : Int → Int} (hd : ∀ j : Int, 0 ≤ j → j < n → 0 ≤ d j ∧ d j < b) {k : Int} (k0 : 0 ≤ k) : (k < n → Dg b (ec b d n.toNat) k = d k) ∧ (n ≤ k → Dg b (ec b d n.toNat) k = 0) := by
  have h := dq_ec hb n.toNat k.toNat d (fun j a c => hd j a (by omega))
  unfold Dg
  refine ⟨fun q => (h.1 (by omega)).trans (by rw [Int.toNat_of_nonneg k0]), fun q => ?_⟩
  rw [h.2 (by omega)]
  simp
theorem ff_cg {v v' : Int → Int} {F F' : Int} (hF : 12 < F) (hF' : 12 < F') : ∀ k : Nat, (∀ j : Int, 0 ≤ j → j < k → v j = v' j ∧ v j ≤ 12) → (ff v F k = F ∧ ff v' F' k = F') ∨ (ff v F k = ff v' F' k ∧ 1 ≤ ff v F k ∧ ff v F k ≤ 12)
  | 0, _ => Or.inl ⟨rfl, rfl⟩
  | k + 1, h => by
    have ih := ff_cg hF hF' k (fun j a b => h j a (by omega))
    have h1 := h k (by omega) (by omega)
    rw [ff, ff, ← h1.1]
    by_cases q : 0 < v k
    · rcases ih with ⟨i1, i2⟩ | ⟨i1, i2, i3⟩
      · rw [i1, i2, if_pos (by omega), if_pos (by omega)]
        exact Or.inr ⟨rfl, by omega, by omega⟩
      · by_cases q2 : v k < ff v F k
        · rw [if_pos ⟨q, q2⟩, if_pos ⟨q, by omega⟩]
          exact Or.inr ⟨rfl, by omega, by omega⟩
        · rw [if_neg (by omega), if_neg (by omega)]
          exact Or.inr ⟨i1, i2, i3⟩
    · rw [if_neg (by omega), if_neg (by omega)]
      exact ih
theorem iS_1 {n : Int} {sp : Int → Int} {x : Int} : ∀ {k : Nat}, (iS n sp x k = 1 ↔ ∀ j : Int, 0 ≤ j → j < k → Dg 13 x j ≤ (if j < n then sp j else 0))
  | 0 => ⟨fun _ j a b => by omega, fun _ => rfl⟩
  | k + 1 => by
    rw [iS]
    have ih := iS_1 (n := n) (sp := sp) (x := x) (k := k)
    by_cases q : iS n sp x k = 1 ∧ Dg 13 x k ≤ (if (k : Int) < n then sp k else 0)
    · rw [if_pos q]
      refine ⟨fun _ j a b => ?_, fun _ => rfl⟩
      by_cases e : j = k
      · rw [e]; exact q.2
      · exact ih.mp q.1 j a (by omega)
    · rw [if_neg q]
      refine ⟨fun h => by omega, fun h => absurd ⟨ih.mpr (fun j a b => h j a (by omega)), h k (by omega) (by omega)⟩ q⟩
/-- the states of both: the same digits -/
def Rl (n : Int) (sp : Int → Int) (y x : Int) : Prop := (∀ k, 0 ≤ k → k < n → Dg 12 y k = Dg 13 x k ∧ Dg 13 x k ≤ sp k) ∧ ∀ k, n ≤ k → k < 3 → Dg 13 x k = 0
theorem dq_0 (b : Int) : ∀ k : Nat, dq b 0 k = 0
  | 0 => rfl
  | k + 1 => by rw [dq, dq_0 b k]; simp
theorem Rl_0 {n : Int} {sp : Int → Int} (h : Sok n sp) : Rl n sp 0 0 :=
  ⟨fun k k0 k1 => by unfold Dg; rw [dq_0, dq_0]; have := h.2.2 k k0 k1; exact ⟨rfl, by simp; omega⟩, fun k _ _ => by unfold Dg; rw [dq_0]; rfl⟩
theorem Rl_step {n : Int} {sp : Int → Int} (h : Sok n sp) {y x a : Int} (hr : Rl n sp y x) (a1 : a < 2 ^ n.toNat) : (lp n sp y a = -1 ∧ mp n sp x a = -1) ∨ (lp n sp y a ≠ -1 ∧ mp n sp x a ≠ -1 ∧ lp n sp y a % 16 = mp n sp x a % 16 ∧ Rl n sp (lp n sp y a / 16) (mp n sp x a / 16)) := by
  have hn := h.1
  have htv : ∀ k, 0 ≤ k → k < n → lv9 n sp y a k = tv sp (Dg 13 x) a k := fun k k0 k1 => by
    unfold lv9 tv
    rw [(hr.1 k k0 k1).1]
  have his : iS n sp x 3 = 1 := iS_1.mpr (fun j j0 j1 => by
    by_cases q : j < n
    · rw [if_pos q]; exact (hr.1 j j0 q).2
    · rw [if_neg q]; have := hr.2 j (by omega) (by omega); omega)
  have hff := ff_cg (F := 1000000) (F' := 1000000000) (v := lv9 n sp y a) (v' := tv sp (Dg 13 x) a) (by omega) (by omega) n.toNat (fun j j0 j1 => ⟨htv j j0 (by omega), by rw [htv j j0 (by omega)]; exact (tv13 h x a j0 (by omega)).2⟩)
  have hff : (lf n sp y a = 1000000 ∧ mf n sp x a = 1000000000) ∨ (lf n sp y a = mf n sp x a ∧ 1 ≤ lf n sp y a ∧ lf n sp y a ≤ 12) := hff
  rcases hff with ⟨f1, f2⟩ | ⟨f1, f2, f3⟩
  · left
    refine ⟨by unfold lp; rw [if_pos f1], by unfold mp; rw [if_neg (by omega)]⟩
  · right
    have e1 : lp n sp y a = lt9 n sp y a * 16 + lf n sp y a := by unfold lp; rw [if_neg (by omega)]
    have e2 : mp n sp x a = mz n sp x a * 16 + mf n sp x a := by unfold mp; rw [if_pos ⟨his, a1, by omega⟩]
    have hl := (lt9_r h y a (by omega)).1
    have hm := (mz_r h x a (by omega)).1
    rw [e1, e2]
    refine ⟨by omega, by omega, by omega, ?_⟩
    rw [show (lt9 n sp y a * 16 + lf n sp y a) / 16 = lt9 n sp y a by omega, show (mz n sp x a * 16 + mf n sp x a) / 16 = mz n sp x a by omega]
    have hd12 : ∀ j : Int, 0 ≤ j → j < n → 0 ≤ max 0 (lv9 n sp y a j - lf n sp y a) ∧ max 0 (lv9 n sp y a j - lf n sp y a) < 12 := fun j j0 j1 => lt9_d h y a (by omega) j0 j1
    have hd13 : ∀ j : Int, 0 ≤ j → j < n → 0 ≤ max 0 (tv sp (Dg 13 x) a j - mf n sp x a) ∧ max 0 (tv sp (Dg 13 x) a j - mf n sp x a) < 13 := fun j j0 j1 => by
      have := hd12 j j0 j1
      rw [htv j j0 j1, f1] at this
      omega
    refine ⟨fun k k0 k1 => ?_, fun k k0 k1 => ?_⟩
    · have g1 := (Dg_ec (b := 12) (by omega) hn (d := fun j => max 0 (lv9 n sp y a j - lf n sp y a)) hd12 k0).1 k1
      have g2 := (Dg_ec (b := 13) (by omega) hn (d := fun j => max 0 (tv sp (Dg 13 x) a j - mf n sp x a)) hd13 k0).1 k1
      unfold lt9 mz
      rw [g1, g2]
      have hs := h.2.2 k k0 k1
      have hx := hr.1 k k0 k1
      have hx0 := Dg_r (b := 13) (x := x) (by omega) k
      refine ⟨by show max 0 (lv9 n sp y a k - lf n sp y a) = max 0 (tv sp (Dg 13 x) a k - mf n sp x a); rw [htv k k0 k1, f1], ?_⟩
      show max 0 (tv sp (Dg 13 x) a k - mf n sp x a) ≤ sp k
      have : tv sp (Dg 13 x) a k ≤ sp k := by
        unfold tv
        split <;> omega
      omega
    · unfold mz
      exact (Dg_ec (b := 13) (by omega) hn (d := fun j => max 0 (tv sp (Dg 13 x) a j - mf n sp x a)) hd13 (by omega)).2 k0
theorem GP_lm {n : Int} {sp : Int → Int} (h : Sok n sp) : ∀ (l : List Int) (y x y' t c : Int), Rl n sp y x → GP (lp n sp) (2 ^ n.toNat) l y y' t c → ∃ x', GP (mp n sp) 8 l x x' t c ∧ Rl n sp y' x'
  | [], y, x, y', t, c, hr, hg => by
    obtain ⟨e1, e2, e3⟩ := hg
    subst e1
    exact ⟨x, ⟨rfl, e2, e3⟩, hr⟩
  | a :: l, y, x, y', t, c, hr, hg => by
    obtain ⟨a0, a1, a2, t', c', h2, h3, h4⟩ := hg
    have hp := p2n h.1 h.2.1
    rcases Rl_step h hr a1 with ⟨w, -⟩ | ⟨-, w2, w3, w4⟩
    · exact absurd w a2
    · obtain ⟨x', g1, g2⟩ := GP_lm h l _ _ _ _ _ w4 h2
      exact ⟨x', ⟨a0, by omega, w2, t', c', g1, by omega, h4⟩, g2⟩
theorem GP_ml {n : Int} {sp : Int → Int} (h : Sok n sp) : ∀ (l : List Int) (y x x' t c : Int), Rl n sp y x → GP (mp n sp) 8 l x x' t c → ∃ y', GP (lp n sp) (2 ^ n.toNat) l y y' t c ∧ Rl n sp y' x'
  | [], y, x, x', t, c, hr, hg => by
    obtain ⟨e1, e2, e3⟩ := hg
    subst e1
    exact ⟨y, ⟨rfl, e2, e3⟩, hr⟩
  | a :: l, y, x, x', t, c, hr, hg => by
    obtain ⟨a0, a1, a2, t', c', h2, h3, h4⟩ := hg
    have ha : a < 2 ^ n.toNat := by
      rcases Int.lt_or_le a (2 ^ n.toNat) with w | w
      · exact w
      · exact absurd (show mp n sp x a = -1 by unfold mp; rw [if_neg (by omega)]) a2
    rcases Rl_step h hr ha with ⟨-, w⟩ | ⟨w1, w2, w3, w4⟩
    · exact absurd w a2
    · obtain ⟨y', g1, g2⟩ := GP_ml h l _ _ _ _ _ w4 h2
      exact ⟨y', ⟨a0, ha, w1, t', c', g1, by omega, h4⟩, g2⟩
theorem WT_lm {n : Int} {sp : Int → Int} (h : Sok n sp) {s w t : Int} (hw : WT (lp n sp) (2 ^ n.toNat) s w t) : WT (mp n sp) 8 s w t := by
  have key : ∀ l1 x t1 c1 l2 y c2, GP (mp n sp) 8 l1 0 x t1 c1 → GP (mp n sp) 8 l2 x y s c2 → ∃ x' y', GP (lp n sp) (2 ^ n.toNat) l1 0 x' t1 c1 ∧ GP (lp n sp) (2 ^ n.toNat) l2 x' y' s c2 := fun l1 x t1 c1 l2 y c2 g1 g2 => by
    obtain ⟨x', k1, k2⟩ := GP_ml h l1 0 0 x t1 c1 (Rl_0 h) g1
    obtain ⟨y', k3, -⟩ := GP_ml h l2 x' x y s c2 k2 g2
    exact ⟨x', y', k1, k3⟩
  rcases hw with ⟨w1, w2, w3⟩ | ⟨w1, w2, w3, w4, ⟨l1, x, c1, l2, y, c2, g1, g2, g3⟩, w6⟩
  · refine Or.inl ⟨w1, w2, fun l1 x t1 c1 l2 y c2 g1 ht g2 => ?_⟩
    obtain ⟨x', y', k1, k2⟩ := key l1 x t1 c1 l2 y c2 g1 g2
    exact w3 _ _ _ _ _ _ _ k1 ht k2
  · refine Or.inr ⟨w1, w2, w3, w4, ?_, fun l1 x t1 c1 l2 y c2 g1 ht g2 => ?_⟩
    · obtain ⟨x', k1, k2⟩ := GP_lm h l1 0 0 x w c1 (Rl_0 h) g1
      obtain ⟨y', k3, -⟩ := GP_lm h l2 x x' y s c2 k2 g2
      exact ⟨l1, x', c1, l2, y', c2, k1, k3, g3⟩
    · obtain ⟨x', y', k1, k2⟩ := key l1 x t1 c1 l2 y c2 g1 g2
      exact w6 _ _ _ _ _ _ _ k1 ht k2
