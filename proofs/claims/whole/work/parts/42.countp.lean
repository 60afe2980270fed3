/-! ===== pure: how many rows lead to each code, as the class counts them ===== -/
def wz (nx : Int → Int → Int) (x0 : Int) (fo lv : Int → Int) : Nat → Int → Int
  | 0 => uf (fun _ => 0) x0 1
  | z + 1 => if lv (nx (fo ((z : Int) / 24)) ((z : Int) % 24)) = lv (fo ((z : Int) / 24)) + 1 then uf (wz nx x0 fo lv z) (nx (fo ((z : Int) / 24)) ((z : Int) % 24)) (min mM (wz nx x0 fo lv z (nx (fo ((z : Int) / 24)) ((z : Int) % 24)) + wz nx x0 fo lv z (fo ((z : Int) / 24)))) else wz nx x0 fo lv z
theorem wz_s (nx : Int → Int → Int) (x0 : Int) (fo lv : Int → Int) {k a : Int} (k0 : 0 ≤ k) (a0 : 0 ≤ a) (a1 : a < 24) : wz nx x0 fo lv (24 * k + (a + 1)).toNat = if lv (nx (fo k) a) = lv (fo k) + 1 then uf (wz nx x0 fo lv (24 * k + a).toNat) (nx (fo k) a) (min mM (wz nx x0 fo lv (24 * k + a).toNat (nx (fo k) a) + wz nx x0 fo lv (24 * k + a).toNat (fo k))) else wz nx x0 fo lv (24 * k + a).toNat := by
  have e : (24 * k + (a + 1)).toNat = (24 * k + a).toNat + 1 := by omega
  have e1 : (((24 * k + a).toNat : Nat) : Int) / 24 = k := by omega
  have e2 : (((24 * k + a).toNat : Nat) : Int) % 24 = a := by omega
  rw [e, wz, e1, e2]
theorem wz_r (nx : Int → Int → Int) (x0 : Int) (fo lv : Int → Int) : ∀ (z : Nat) (y : Int), 0 ≤ wz nx x0 fo lv z y ∧ wz nx x0 fo lv z y ≤ mM
  | 0, y => by
    unfold wz uf mM
    split
    · omega
    · show (0 : Int) ≤ 0 ∧ (0 : Int) ≤ _; omega
  | z + 1, y => by
    have h := wz_r nx x0 fo lv z
    rw [wz]
    split
    · unfold uf
      split
      · have h1 := h (nx (fo ((z : Int) / 24)) ((z : Int) % 24))
        have h2 := h (fo ((z : Int) / 24))
        have h3 : 0 ≤ mM := by unfold mM; omega
        omega
      · exact h y
    · exact h y
theorem fill_obl {g : GX} {ci N : Nat} {kd : Nat → Nat} {h : Hp} {o : Nat} {R : Nat → Nat} {I : Nat → Int} {L : Nat → Int} {A : Nat → Int → Int} (hM : OB g ci N kd h o R I L A) (k : Nat) (hk : k < N) (h1 : kd k = 2) {v : Int} : OB g ci N kd (uh h (R k) (al g (L k) (cpN (L k) (fun _ => v) (A k)))) o R I L (va_up A k (cpN (L k) (fun _ => v) (A k))) := by
  have h9 := hM.ast (f := cpN (L k) (fun _ => v) (A k)) hk ⟨by omega, by omega⟩ rfl
  rwa [acell, if_neg (by omega), if_pos h1] at h9
