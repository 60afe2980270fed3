/-! ===== constructors: what they begin with ===== -/
def LG0 : Nat → Int := fun k => match k with | 1 => 3 | 2 => 41 | 3 => 41 | _ => 0
def DI0 : Nat → Nat → Int := fun i => match i with | 1 => (va_up (va_up (va_up i0 1 1) 2 1) 3 1) | 2 => (va_up (va_up (va_up i0 1 1) 2 1) 3 1) | _ => i0
def DL0 : Nat → Nat → Int := fun _ => i0
def DA0 : Nat → Nat → Int → Int := fun _ => a0
theorem Zo_0 : Zo (fun _ => 0) := fun _ _ => rfl
theorem QV0 : QV DI0 DL0 DA0 := by
  have hW : Wok (DI0 1) (DA0 1) := ⟨⟨show (0 : Int) ≤ 0 by omega, show (0 : Int) ≤ 4 by omega, fun i a b => absurd (show i < 0 from b) (by omega)⟩, Or.inr rfl, Or.inr rfl, show (1 : Int) = mT (DA0 1 4) 0 by rw [mT_0], fun i a b => absurd (show i < 0 from b) (by omega), fun i _ _ => ⟨show (0 : Int) ≤ 0 by omega, show (0 : Int) ≤ 10 by omega⟩⟩
  have g0 : gw 0 0 := ⟨by omega, by omega, fun w => by omega⟩
  refine ⟨hW, fun i a b => absurd (show i < 0 from b) (by omega), ⟨Zo_0, Zo_0, Zo_0, Zo_0⟩, ⟨Or.inl rfl, Or.inl rfl, Or.inl rfl⟩, ⟨show (0 : Int) ≤ 0 by omega, show (0 : Int) ≤ 14641 by omega, rfl, rfl⟩, ⟨show (0 : Int) ≤ 0 by omega, show (0 : Int) ≤ 14641 by omega, rfl, rfl⟩, ⟨show (0 : Int) ≤ 0 by omega, show (0 : Int) ≤ 14641 by omega, rfl⟩, ⟨g0, g0⟩, fun w => ?_, fun w => ?_, fun w => ?_⟩
  · exact absurd (show (0 : Int) = 1 from w) (by decide)
  · exact absurd (show (0 : Int) = 1 from w) (by decide)
  · exact absurd (show (0 : Int) = 1 from w) (by decide)
theorem GV0 : GV i0 LG0 a0 := ⟨⟨show (0 : Int) ≤ 0 by omega, show (0 : Int) ≤ 3 by omega, fun k a b => absurd (show k < 0 from b) (by omega)⟩, Or.inl rfl, fun w => absurd (show (0 : Int) = 1 from w) (by decide), Or.inl rfl, fun w => absurd (show (0 : Int) = 1 from w) (by decide)⟩
