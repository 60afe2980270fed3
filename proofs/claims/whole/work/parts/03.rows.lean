section JR
variable {p : Program} {l : Launch} {e : Env} {R : Room} {s : State} {m : MethodId} {args : Array Value} {below : List Frame} {meth : Method} {c : Code} {H : Heap} {locs : List Loc} {cells slots : Nat} {Q : State → Prop}
variable {cc : ByteArray} {pc : Nat} {ls : Array Slot} {rest : List Value} {g : GX} {base : Nat} {sa : Nat → Nat} {h : Hp} {a : Nat}
theorem i32_0 : i32 0 := ⟨by decide, by decide⟩
theorem j_iadd (hexec : p.tables.exec = Jvm.exec) (hb : c.code = cc) {x y : Int} (hdg : decode cc pc = .ok (.iadd, 1)) (k : W p l e R s m args below meth c H locs cells slots Q (F0 m (pc + 1) ls (.int (J (x + y)) :: rest))) : W p l e R s m args below meth c H locs cells slots Q (F0 m pc ls (.int (J y) :: .int (J x) :: rest)) := by
  refine lv_iadd hexec hb hdg ?_
  rw [J_add]
  exact k
theorem j_isub (hexec : p.tables.exec = Jvm.exec) (hb : c.code = cc) {x y : Int} (hdg : decode cc pc = .ok (.isub, 1)) (k : W p l e R s m args below meth c H locs cells slots Q (F0 m (pc + 1) ls (.int (J (x - y)) :: rest))) : W p l e R s m args below meth c H locs cells slots Q (F0 m pc ls (.int (J y) :: .int (J x) :: rest)) := by
  refine lv_isub hexec hb hdg ?_
  rw [J_sub]
  exact k
theorem j_imul (hexec : p.tables.exec = Jvm.exec) (hb : c.code = cc) {x y : Int} (hdg : decode cc pc = .ok (.imul, 1)) (k : W p l e R s m args below meth c H locs cells slots Q (F0 m (pc + 1) ls (.int (J (x * y)) :: rest))) : W p l e R s m args below meth c H locs cells slots Q (F0 m pc ls (.int (J y) :: .int (J x) :: rest)) := by
  refine lv_imul hexec hb hdg ?_
  rw [J_mul]
  exact k
theorem j_ladd (hexec : p.tables.exec = Jvm.exec) (hb : c.code = cc) {x y : Int} (hdg : decode cc pc = .ok (.ladd, 1)) (k : W p l e R s m args below meth c H locs cells slots Q (F0 m (pc + 1) ls (.long (JL (x + y)) :: rest))) : W p l e R s m args below meth c H locs cells slots Q (F0 m pc ls (.long (JL y) :: .long (JL x) :: rest)) := by
  refine lv_ladd hexec hb hdg ?_
  rw [JL_add]
  exact k
theorem j_idiv (hexec : p.tables.exec = Jvm.exec) (hb : c.code = cc) {x y : Int} (h0 : 0 ≤ x) (h1 : x < 2147483648) (h2 : 0 < y) (h3 : y < 2147483648) (hdg : decode cc pc = .ok (.idiv, 1)) (k : W p l e R s m args below meth c H locs cells slots Q (F0 m (pc + 1) ls (.int (J (x / y)) :: rest))) : W p l e R s m args below meth c H locs cells slots Q (F0 m pc ls (.int (J y) :: .int (J x) :: rest)) := by
  refine lv_idiv hexec hb hdg ?_ ?_
  · rw [J_zero, J_eq ⟨by omega, by omega⟩ ⟨by omega, by omega⟩]
    omega
  · rw [J_div h0 h1 h2 h3]
    exact k
theorem j_irem (hexec : p.tables.exec = Jvm.exec) (hb : c.code = cc) {x y : Int} (h0 : 0 ≤ x) (h1 : x < 2147483648) (h2 : 0 < y) (h3 : y < 2147483648) (hdg : decode cc pc = .ok (.irem, 1)) (k : W p l e R s m args below meth c H locs cells slots Q (F0 m (pc + 1) ls (.int (J (x % y)) :: rest))) : W p l e R s m args below meth c H locs cells slots Q (F0 m pc ls (.int (J y) :: .int (J x) :: rest)) := by
  refine lv_irem hexec hb hdg ?_ ?_
  · rw [J_zero, J_eq ⟨by omega, by omega⟩ ⟨by omega, by omega⟩]
    omega
  · rw [J_rem h0 h1 h2 h3]
    exact k
theorem j_icmp_lt (hexec : p.tables.exec = Jvm.exec) (hb : c.code = cc) {x y : Int} (hx : i32 x) (hy : i32 y) {off : Int} {tgt : Nat} (hdg : decode cc pc = .ok (.if_icmp .lt off, 3)) (ht : (pc : Int) + off = (tgt : Int))
    (kt : x < y → W p l e R s m args below meth c H locs cells slots Q (F0 m tgt ls rest)) (kf : ¬ x < y → W p l e R s m args below meth c H locs cells slots Q (F0 m (pc + 3) ls rest)) : W p l e R s m args below meth c H locs cells slots Q (F0 m pc ls (.int (J y) :: .int (J x) :: rest)) := by
  refine lv_icmp_lt hexec hb hdg ht (fun q => kt ?_) (fun q => kf ?_)
  all_goals first | exact (J_lt hx hy).mp q | exact fun z => q ((J_lt hx hy).mpr z)
theorem j_if_lt (hexec : p.tables.exec = Jvm.exec) (hb : c.code = cc) {x : Int} (hx : i32 x) {off : Int} {tgt : Nat} (hdg : decode cc pc = .ok (.ifCond .lt off, 3)) (ht : (pc : Int) + off = (tgt : Int))
    (kt : x < 0 → W p l e R s m args below meth c H locs cells slots Q (F0 m tgt ls rest)) (kf : ¬ x < 0 → W p l e R s m args below meth c H locs cells slots Q (F0 m (pc + 3) ls rest)) : W p l e R s m args below meth c H locs cells slots Q (F0 m pc ls (.int (J x) :: rest)) := by
  refine lv_if_lt hexec hb hdg ht (fun q => kt ?_) (fun q => kf ?_)
  all_goals rw [J_zero] at q
  all_goals first | exact (J_lt hx i32_0).mp q | exact fun z => q ((J_lt hx i32_0).mpr z)
theorem j_icmp_ge (hexec : p.tables.exec = Jvm.exec) (hb : c.code = cc) {x y : Int} (hx : i32 x) (hy : i32 y) {off : Int} {tgt : Nat} (hdg : decode cc pc = .ok (.if_icmp .ge off, 3)) (ht : (pc : Int) + off = (tgt : Int))
    (kt : y ≤ x → W p l e R s m args below meth c H locs cells slots Q (F0 m tgt ls rest)) (kf : ¬ y ≤ x → W p l e R s m args below meth c H locs cells slots Q (F0 m (pc + 3) ls rest)) : W p l e R s m args below meth c H locs cells slots Q (F0 m pc ls (.int (J y) :: .int (J x) :: rest)) := by
  refine lv_icmp_ge hexec hb hdg ht (fun q => kt ?_) (fun q => kf ?_)
  all_goals first | exact (J_le hy hx).mp q | exact fun z => q ((J_le hy hx).mpr z)
theorem j_if_ge (hexec : p.tables.exec = Jvm.exec) (hb : c.code = cc) {x : Int} (hx : i32 x) {off : Int} {tgt : Nat} (hdg : decode cc pc = .ok (.ifCond .ge off, 3)) (ht : (pc : Int) + off = (tgt : Int))
    (kt : 0 ≤ x → W p l e R s m args below meth c H locs cells slots Q (F0 m tgt ls rest)) (kf : ¬ 0 ≤ x → W p l e R s m args below meth c H locs cells slots Q (F0 m (pc + 3) ls rest)) : W p l e R s m args below meth c H locs cells slots Q (F0 m pc ls (.int (J x) :: rest)) := by
  refine lv_if_ge hexec hb hdg ht (fun q => kt ?_) (fun q => kf ?_)
  all_goals rw [J_zero] at q
  all_goals first | exact (J_le i32_0 hx).mp q | exact fun z => q ((J_le i32_0 hx).mpr z)
theorem j_icmp_gt (hexec : p.tables.exec = Jvm.exec) (hb : c.code = cc) {x y : Int} (hx : i32 x) (hy : i32 y) {off : Int} {tgt : Nat} (hdg : decode cc pc = .ok (.if_icmp .gt off, 3)) (ht : (pc : Int) + off = (tgt : Int))
    (kt : y < x → W p l e R s m args below meth c H locs cells slots Q (F0 m tgt ls rest)) (kf : ¬ y < x → W p l e R s m args below meth c H locs cells slots Q (F0 m (pc + 3) ls rest)) : W p l e R s m args below meth c H locs cells slots Q (F0 m pc ls (.int (J y) :: .int (J x) :: rest)) := by
  refine lv_icmp_gt hexec hb hdg ht (fun q => kt ?_) (fun q => kf ?_)
  all_goals first | exact (J_lt hy hx).mp q | exact fun z => q ((J_lt hy hx).mpr z)
theorem j_if_gt (hexec : p.tables.exec = Jvm.exec) (hb : c.code = cc) {x : Int} (hx : i32 x) {off : Int} {tgt : Nat} (hdg : decode cc pc = .ok (.ifCond .gt off, 3)) (ht : (pc : Int) + off = (tgt : Int))
    (kt : 0 < x → W p l e R s m args below meth c H locs cells slots Q (F0 m tgt ls rest)) (kf : ¬ 0 < x → W p l e R s m args below meth c H locs cells slots Q (F0 m (pc + 3) ls rest)) : W p l e R s m args below meth c H locs cells slots Q (F0 m pc ls (.int (J x) :: rest)) := by
  refine lv_if_gt hexec hb hdg ht (fun q => kt ?_) (fun q => kf ?_)
  all_goals rw [J_zero] at q
  all_goals first | exact (J_lt i32_0 hx).mp q | exact fun z => q ((J_lt i32_0 hx).mpr z)
theorem j_icmp_le (hexec : p.tables.exec = Jvm.exec) (hb : c.code = cc) {x y : Int} (hx : i32 x) (hy : i32 y) {off : Int} {tgt : Nat} (hdg : decode cc pc = .ok (.if_icmp .le off, 3)) (ht : (pc : Int) + off = (tgt : Int))
    (kt : x ≤ y → W p l e R s m args below meth c H locs cells slots Q (F0 m tgt ls rest)) (kf : ¬ x ≤ y → W p l e R s m args below meth c H locs cells slots Q (F0 m (pc + 3) ls rest)) : W p l e R s m args below meth c H locs cells slots Q (F0 m pc ls (.int (J y) :: .int (J x) :: rest)) := by
  refine lv_icmp_le hexec hb hdg ht (fun q => kt ?_) (fun q => kf ?_)
  all_goals first | exact (J_le hx hy).mp q | exact fun z => q ((J_le hx hy).mpr z)
theorem j_if_le (hexec : p.tables.exec = Jvm.exec) (hb : c.code = cc) {x : Int} (hx : i32 x) {off : Int} {tgt : Nat} (hdg : decode cc pc = .ok (.ifCond .le off, 3)) (ht : (pc : Int) + off = (tgt : Int))
    (kt : x ≤ 0 → W p l e R s m args below meth c H locs cells slots Q (F0 m tgt ls rest)) (kf : ¬ x ≤ 0 → W p l e R s m args below meth c H locs cells slots Q (F0 m (pc + 3) ls rest)) : W p l e R s m args below meth c H locs cells slots Q (F0 m pc ls (.int (J x) :: rest)) := by
  refine lv_if_le hexec hb hdg ht (fun q => kt ?_) (fun q => kf ?_)
  all_goals rw [J_zero] at q
  all_goals first | exact (J_le hx i32_0).mp q | exact fun z => q ((J_le hx i32_0).mpr z)
theorem j_icmp_eq (hexec : p.tables.exec = Jvm.exec) (hb : c.code = cc) {x y : Int} (hx : i32 x) (hy : i32 y) {off : Int} {tgt : Nat} (hdg : decode cc pc = .ok (.if_icmp .eq off, 3)) (ht : (pc : Int) + off = (tgt : Int))
    (kt : x = y → W p l e R s m args below meth c H locs cells slots Q (F0 m tgt ls rest)) (kf : ¬ x = y → W p l e R s m args below meth c H locs cells slots Q (F0 m (pc + 3) ls rest)) : W p l e R s m args below meth c H locs cells slots Q (F0 m pc ls (.int (J y) :: .int (J x) :: rest)) := by
  refine lv_icmp_eq hexec hb hdg ht (fun q => kt ?_) (fun q => kf ?_)
  all_goals first | exact (J_eq hx hy).mp q | exact fun z => q ((J_eq hx hy).mpr z)
theorem j_if_eq (hexec : p.tables.exec = Jvm.exec) (hb : c.code = cc) {x : Int} (hx : i32 x) {off : Int} {tgt : Nat} (hdg : decode cc pc = .ok (.ifCond .eq off, 3)) (ht : (pc : Int) + off = (tgt : Int))
    (kt : x = 0 → W p l e R s m args below meth c H locs cells slots Q (F0 m tgt ls rest)) (kf : ¬ x = 0 → W p l e R s m args below meth c H locs cells slots Q (F0 m (pc + 3) ls rest)) : W p l e R s m args below meth c H locs cells slots Q (F0 m pc ls (.int (J x) :: rest)) := by
  refine lv_if_eq hexec hb hdg ht (fun q => kt ?_) (fun q => kf ?_)
  all_goals rw [J_zero] at q
  all_goals first | exact (J_eq hx i32_0).mp q | exact fun z => q ((J_eq hx i32_0).mpr z)
theorem j_icmp_ne (hexec : p.tables.exec = Jvm.exec) (hb : c.code = cc) {x y : Int} (hx : i32 x) (hy : i32 y) {off : Int} {tgt : Nat} (hdg : decode cc pc = .ok (.if_icmp .ne off, 3)) (ht : (pc : Int) + off = (tgt : Int))
    (kt : ¬ x = y → W p l e R s m args below meth c H locs cells slots Q (F0 m tgt ls rest)) (kf : x = y → W p l e R s m args below meth c H locs cells slots Q (F0 m (pc + 3) ls rest)) : W p l e R s m args below meth c H locs cells slots Q (F0 m pc ls (.int (J y) :: .int (J x) :: rest)) := by
  refine lv_icmp_ne hexec hb hdg ht (fun q => kt ?_) (fun q => kf ?_)
  all_goals first | exact (J_eq hx hy).mp q | exact fun z => q ((J_eq hx hy).mpr z)
theorem j_if_ne (hexec : p.tables.exec = Jvm.exec) (hb : c.code = cc) {x : Int} (hx : i32 x) {off : Int} {tgt : Nat} (hdg : decode cc pc = .ok (.ifCond .ne off, 3)) (ht : (pc : Int) + off = (tgt : Int))
    (kt : ¬ x = 0 → W p l e R s m args below meth c H locs cells slots Q (F0 m tgt ls rest)) (kf : x = 0 → W p l e R s m args below meth c H locs cells slots Q (F0 m (pc + 3) ls rest)) : W p l e R s m args below meth c H locs cells slots Q (F0 m pc ls (.int (J x) :: rest)) := by
  refine lv_if_ne hexec hb hdg ht (fun q => kt ?_) (fun q => kf ?_)
  all_goals rw [J_zero] at q
  all_goals first | exact (J_eq hx i32_0).mp q | exact fun z => q ((J_eq hx i32_0).mpr z)
theorem g_newi (hexec : p.tables.exec = Jvm.exec) (hb : c.code = cc) (harr : (Cond.arrayClass .int).before args s = true) (hK : KK g base sa s) (hW : Wd g base h H) (hS : va_S (Ab base) s.heap H locs) {n : Int} (h0 : 0 ≤ n) (hn : n ≤ 1000000) (hcells : cells + 1 ≤ R.cells) (hslots : slots + n.toNat ≤ R.slots) (hdg : decode cc pc = .ok (.newarray .int, 2))
    (kk : ∀ (q : Nat) (H1 : Heap), h q = none → Wd g base (uh h q (ai g n (fun _ => 0))) H1 → va_S (Ab base) s.heap H1 locs → W p l e R s m args below meth c H1 locs (cells + 1) (slots + n.toNat) Q (F0 m (pc + 2) ls (.ref q :: rest))) : W p l e R s m args below meth c H locs cells slots Q (F0 m pc ls (.int (J n) :: rest)) := by
  refine va_newaK (atype := .int) (N := n.toNat) hexec hb harr rfl hdg rfl ?_ (J_clamp h0 (by omega)) ?_ hcells hslots rfl fun H1 cA e1 z1 o1 hAr hNm => ?_
  · rw [J_zero, J_lt ⟨by omega, by omega⟩ i32_0]
    omega
  · show n.toNat * componentBytes .int ≤ 536870912
    have : componentBytes .int ≤ 8 := by decide
    have h9 : n.toNat ≤ 1000000 := by omega
    calc n.toNat * componentBytes .int ≤ 1000000 * 8 := Nat.mul_le_mul h9 this
      _ ≤ 536870912 := by decide
  · have hca : cA = g.2 0 := by
      have h9 : s.vm.findClass ("[" ++ (FieldType.toString .int)) = some (g.2 0) := (hK.1.2 0 _ rfl).2
      exact Option.some.inj (hNm.symm.trans h9)
    have hbs : base ≤ H.size := Nat.le_trans hK.2.1 hS.1
    refine kk H.size H1 hW.fresh (hW.set hbs ?_ (fun x hx _ => o1 x hx)) ⟨Nat.le_trans hS.1 (by omega), fun x h1 h2 => (o1 x (Nat.lt_of_lt_of_le h1 hS.1)).trans (hS.2.1 x h1 h2), hS.2.2⟩
    show H1[H.size]? = some (vp_cell (g.2 0) _)
    rw [e1, hca, vp_cell_i]
    rfl
theorem g_newl (hexec : p.tables.exec = Jvm.exec) (hb : c.code = cc) (harr : (Cond.arrayClass .long).before args s = true) (hK : KK g base sa s) (hW : Wd g base h H) (hS : va_S (Ab base) s.heap H locs) {n : Int} (h0 : 0 ≤ n) (hn : n ≤ 1000000) (hcells : cells + 1 ≤ R.cells) (hslots : slots + n.toNat ≤ R.slots) (hdg : decode cc pc = .ok (.newarray .long, 2))
    (kk : ∀ (q : Nat) (H1 : Heap), h q = none → Wd g base (uh h q (al g n (fun _ => 0))) H1 → va_S (Ab base) s.heap H1 locs → W p l e R s m args below meth c H1 locs (cells + 1) (slots + n.toNat) Q (F0 m (pc + 2) ls (.ref q :: rest))) : W p l e R s m args below meth c H locs cells slots Q (F0 m pc ls (.int (J n) :: rest)) := by
  refine va_newaK (atype := .long) (N := n.toNat) hexec hb harr rfl hdg rfl ?_ (J_clamp h0 (by omega)) ?_ hcells hslots rfl fun H1 cA e1 z1 o1 hAr hNm => ?_
  · rw [J_zero, J_lt ⟨by omega, by omega⟩ i32_0]
    omega
  · show n.toNat * componentBytes .long ≤ 536870912
    have : componentBytes .long ≤ 8 := by decide
    have h9 : n.toNat ≤ 1000000 := by omega
    calc n.toNat * componentBytes .long ≤ 1000000 * 8 := Nat.mul_le_mul h9 this
      _ ≤ 536870912 := by decide
  · have hca : cA = g.2 1 := by
      have h9 : s.vm.findClass ("[" ++ (FieldType.toString .long)) = some (g.2 1) := (hK.1.2 1 _ rfl).2
      exact Option.some.inj (hNm.symm.trans h9)
    have hbs : base ≤ H.size := Nat.le_trans hK.2.1 hS.1
    refine kk H.size H1 hW.fresh (hW.set hbs ?_ (fun x hx _ => o1 x hx)) ⟨Nat.le_trans hS.1 (by omega), fun x h1 h2 => (o1 x (Nat.lt_of_lt_of_le h1 hS.1)).trans (hS.2.1 x h1 h2), hS.2.2⟩
    show H1[H.size]? = some (vp_cell (g.2 1) _)
    rw [e1, hca, vp_cell_l]
    rfl
theorem g_newz (hexec : p.tables.exec = Jvm.exec) (hb : c.code = cc) (harr : (Cond.arrayClass .boolean).before args s = true) (hK : KK g base sa s) (hW : Wd g base h H) (hS : va_S (Ab base) s.heap H locs) {n : Int} (h0 : 0 ≤ n) (hn : n ≤ 1000000) (hcells : cells + 1 ≤ R.cells) (hslots : slots + n.toNat ≤ R.slots) (hdg : decode cc pc = .ok (.newarray .boolean, 2))
    (kk : ∀ (q : Nat) (H1 : Heap), h q = none → Wd g base (uh h q (az g n (fun _ => 0))) H1 → va_S (Ab base) s.heap H1 locs → W p l e R s m args below meth c H1 locs (cells + 1) (slots + n.toNat) Q (F0 m (pc + 2) ls (.ref q :: rest))) : W p l e R s m args below meth c H locs cells slots Q (F0 m pc ls (.int (J n) :: rest)) := by
  refine va_newaK (atype := .boolean) (N := n.toNat) hexec hb harr rfl hdg rfl ?_ (J_clamp h0 (by omega)) ?_ hcells hslots rfl fun H1 cA e1 z1 o1 hAr hNm => ?_
  · rw [J_zero, J_lt ⟨by omega, by omega⟩ i32_0]
    omega
  · show n.toNat * componentBytes .boolean ≤ 536870912
    have : componentBytes .boolean ≤ 8 := by decide
    have h9 : n.toNat ≤ 1000000 := by omega
    calc n.toNat * componentBytes .boolean ≤ 1000000 * 8 := Nat.mul_le_mul h9 this
      _ ≤ 536870912 := by decide
  · have hca : cA = g.2 2 := by
      have h9 : s.vm.findClass ("[" ++ (FieldType.toString .boolean)) = some (g.2 2) := (hK.1.2 2 _ rfl).2
      exact Option.some.inj (hNm.symm.trans h9)
    have hbs : base ≤ H.size := Nat.le_trans hK.2.1 hS.1
    refine kk H.size H1 hW.fresh (hW.set hbs ?_ (fun x hx _ => o1 x hx)) ⟨Nat.le_trans hS.1 (by omega), fun x h1 h2 => (o1 x (Nat.lt_of_lt_of_le h1 hS.1)).trans (hS.2.1 x h1 h2), hS.2.2⟩
    show H1[H.size]? = some (vp_cell (g.2 2) _)
    rw [e1, hca, vp_cell_i]
    rfl
theorem g_new (hexec : p.tables.exec = Jvm.exec) (hb : c.code = cc) {own C : String} {T : u_T} {N ci index : Nat} {Ts : List Cond} (hts : ∀ w ∈ Ts, w.before args s = true) (hin : ∀ w ∈ u_ws C T N, w ∈ Ts) (ty : Nat → FieldType) (hty : ∀ k, k < N → parseFieldDescriptor (T k).2.2.1 = some (ty k)) (hown : s.vm.findClass own = some m.cls) (hcl : (Cond.classLink own index C).before args s = true) (hinst : (Cond.instantiable C N).before args s = true) (hini : (Cond.initialized C).before args s = true)
    (hK : KK g base sa s) (hW : Wd g base h H) (hS : va_S (Ab base) s.heap H locs) (hc : vwCl[ci]? = some (C, T, N)) {fs : List Value} (hfs : ∀ j, j < N → defaultValue (ty j) = vp_V fs j) (hcells : cells + 1 ≤ R.cells) (hslots : slots + N ≤ R.slots) (hdg : decode cc pc = .ok (.new index, 3))
    (kk : ∀ (q : Nat) (H1 : Heap), h q = none → Wd g base (uh h q (.inr (ci, fs))) H1 → va_S (Ab base) s.heap H1 locs → W p l e R s m args below meth c H1 locs (cells + 1) (slots + N) Q (F0 m (pc + 3) ls (.ref q :: rest))) : W p l e R s m args below meth c H locs cells slots Q (F0 m pc ls rest) := by
  have hKn := hK.1.1 ci _ hc
  refine W.newcK hexec hb hown hcl hinst hini rfl hdg hcells hslots hKn.2.1 rfl fun H1 kC hkC e1 z1 o1 => ?_
  have hbs : base ≤ H.size := Nat.le_trans hK.2.1 hS.1
  exact kk H.size H1 hW.fresh (hW.set hbs ⟨_, hc, (u_born ty hts hin hKn hkC e1 hty).to hfs⟩ (fun x hx _ => o1 x hx)) ⟨Nat.le_trans hS.1 (by omega), fun x h1 h2 => (o1 x (Nat.lt_of_lt_of_le h1 hS.1)).trans (hS.2.1 x h1 h2), hS.2.2⟩
theorem PcM_blind (av : List Value) : FrameBlind (PcM g base sa av h) := by
  intro a U gf mk q
  obtain ⟨q0, q1, q2⟩ := q
  exact ⟨q0, KK.moved (s := U) (U := U.calling gf mk a) (Vm.Alike.refl U.vm) (NK.same rfl) (Nat.le_refl _) (fun _ _ _ => rfl) q1, q2⟩
theorem g_pre (av : List Value) (hK : KK g base sa s) (hW : Wd g base h H) (hS : va_S (Ab base) s.heap H locs) : ∀ U : State, U.heap = H → s.WarmedH U.vm → PcM g base sa av h av.toArray U := by
  intro U hU hw
  exact ⟨rfl, KK.moved hw.alike (NK.warm hw) (by rw [hU]; exact hS.1) (fun q h1 h2 => by rw [hU]; exact hS.2.1 q h1 h2) hK, by rw [hU]; exact hW⟩
theorem g_run {mc ms : Nat} {st0 : List Value} {av : Array Value} {post : Option Value → Hp → Prop} (hr : va_Run p l e R s m args below meth c H locs cells slots mc ms (F0 m pc ls st0) rest (QcM g base post av) (Ab base)) (hS : va_S (Ab base) s.heap H locs)
    (kk : ∀ (r : Option Value) (h1 : Hp) (H1 : Heap) (locs1 : List Loc), post r h1 → Wd g base h1 H1 → va_S (Ab base) s.heap H1 locs1 → W p l e R s m args below meth c H1 locs1 (cells + mc) (slots + ms) Q (F0 m (pc + 3) ls (r.toList ++ rest))) : W p l e R s m args below meth c H locs cells slots Q (F0 m pc ls st0) := by
  intro T hT X
  obtain ⟨v, s0, t, T', L, h0, X', hL, e1, e2, ⟨⟨r, h1, hv, hp, hw⟩, hz, hk⟩, st⟩ := hr T hT X
  cases hv
  rw [h0] at hz hk
  obtain ⟨t2, a1, b1⟩ := kk v h1 T'.heap (locs ++ L) hp (by rw [e1]; exact hw)
    ⟨Nat.le_trans hS.1 (by rw [e1]; exact hz), fun q h1 h2 => by rw [e1, hk q (Nat.lt_of_lt_of_le h1 hS.1) h2]; exact hS.2.1 q h1 h2, fun q hq => by
      rcases List.mem_append.mp hq with h | h
      · exact hS.2.2 q h
      · exact hL q h⟩ T' rfl X'
  exact ⟨t2, st t2 a1, b1⟩
theorem g_callV {y : MethodName} {bytes : ByteArray} {maxL nL n index : Nat} {ret : Option FieldType} {ws Ts : List Cond} {rm : Room} {own C : String} {b : Addr} {As : List Value} {post : Option Value → Hp → Prop} (S : CallFix p m c cc nL s args Ts own) (hM : MC l g base sa y ws rm (.ref b :: As) h post) (cw : CallW R s args own C index y bytes maxL ret ws rm rm.cells rm.slots n) (hK : KK g base sa s) (hW : Wd g base h H) (hS : va_S (Ab base) s.heap H locs) {ci N : Nat} {T : u_T} {fs : List Value} (he : h b = some (.inr (ci, fs))) (hc : vwCl[ci]? = some (C, T, N)) (hn : As.length = n) (hsize : ls.size = nL) (hroom : (rest.map fun v => v.category).sum ≤ 8) (hdg : decode cc pc = .ok (.invokevirtual index, 3)) (hf : cells + rm.cells ≤ R.cells ∧ slots + rm.slots ≤ R.slots)
    (kk : ∀ (r : Option Value) (h1 : Hp) (H1 : Heap) (locs1 : List Loc), post r h1 → Wd g base h1 H1 → va_S (Ab base) s.heap H1 locs1 → W p l e R s m args below meth c H1 locs1 (cells + rm.cells) (slots + rm.slots) Q (F0 m (pc + 3) ls (r.toList ++ rest))) : W p l e R s m args below meth c H locs cells slots Q (F0 m pc ls (As.reverse ++ .ref b :: rest)) :=
  g_run (va_runV S hM cw ⟨PcM_blind _, va_recv (q0 := 0) hK.1 (hW.one he) hc rfl, g_pre _ hK hW hS⟩ rfl hn hsize rfl (by show 2 * 0 + _ ≤ 8; omega) hdg hf) hS kk
theorem g_callS {y : MethodName} {bytes : ByteArray} {maxL nL n index : Nat} {ret : Option FieldType} {ws Ts : List Cond} {rm : Room} {own : String} {As : List Value} {post : Option Value → Hp → Prop} (S : CallFix p m c cc nL s args Ts own) (hM : MC l g base sa y ws rm As h post) (cw : CallB R s args own index y bytes maxL ret ws rm rm.cells rm.slots n ∧ (Cond.static y).before args s = true) (hK : KK g base sa s) (hW : Wd g base h H) (hS : va_S (Ab base) s.heap H locs) (hn : As.length = n) (hsize : ls.size = nL) (hroom : (rest.map fun v => v.category).sum ≤ 8) (hdg : decode cc pc = .ok (.invokestatic index, 3)) (hf : cells + rm.cells ≤ R.cells ∧ slots + rm.slots ≤ R.slots)
    (kk : ∀ (r : Option Value) (h1 : Hp) (H1 : Heap) (locs1 : List Loc), post r h1 → Wd g base h1 H1 → va_S (Ab base) s.heap H1 locs1 → W p l e R s m args below meth c H1 locs1 (cells + rm.cells) (slots + rm.slots) Q (F0 m (pc + 3) ls (r.toList ++ rest))) : W p l e R s m args below meth c H locs cells slots Q (F0 m pc ls (As.reverse ++ rest)) :=
  g_run (va_runS S hM cw ⟨PcM_blind _, g_pre _ hK hW hS⟩ rfl hn hsize rfl (by show 2 * 0 + _ ≤ 8; omega) hdg hf) hS kk
theorem g_callI {y : MethodName} {bytes : ByteArray} {maxL nL n index : Nat} {ws Ts : List Cond} {rm : Room} {own : String} {b : Addr} {As : List Value} {post : Option Value → Hp → Prop} (S : CallFix p m c cc nL s args Ts own) (hM : MC l g base sa y ws rm (.ref b :: As) h post) (cw : CallB R s args own index y bytes maxL none ws rm rm.cells rm.slots n ∧ y.name = "<init>" ∧ (Cond.instanceMethod y).before args s = true) (hK : KK g base sa s) (hW : Wd g base h H) (hS : va_S (Ab base) s.heap H locs) (hn : As.length = n) (hsize : ls.size = nL) (hroom : (rest.map fun v => v.category).sum ≤ 8) (hdg : decode cc pc = .ok (.invokespecial index, 3)) (hf : cells + rm.cells ≤ R.cells ∧ slots + rm.slots ≤ R.slots)
    (kk : ∀ (r : Option Value) (h1 : Hp) (H1 : Heap) (locs1 : List Loc), post r h1 → Wd g base h1 H1 → va_S (Ab base) s.heap H1 locs1 → W p l e R s m args below meth c H1 locs1 (cells + rm.cells) (slots + rm.slots) Q (F0 m (pc + 3) ls (r.toList ++ rest))) : W p l e R s m args below meth c H locs cells slots Q (F0 m pc ls (As.reverse ++ .ref b :: rest)) :=
  g_run (va_runI S hM cw ⟨PcM_blind _, g_pre _ hK hW hS⟩ rfl hn hsize rfl (by show 2 * 0 + _ ≤ 8; omega) hdg hf) hS kk
theorem g_callVN {y : MethodName} {bytes : ByteArray} {maxL nL n index : Nat} {ret : Option FieldType} {ws Ts : List Cond} {rm : Room} {own C host : String} {b : Addr} {As : List Value} {post : Option Value → Hp → Prop} (S : CallFix p m c cc nL s args Ts own) (hM : MC l g base sa y ws rm (.ref b :: As) h post) (cw : va_CN R s args own index y host bytes maxL ret ws rm rm.cells rm.slots n ∧ (Cond.instanceMethod y).before args s = true ∧ (Cond.selects C y y).before args s = true) (hK : KK g base sa s) (hW : Wd g base h H) (hS : va_S (Ab base) s.heap H locs) {ci N : Nat} {T : u_T} {fs : List Value} (he : h b = some (.inr (ci, fs))) (hc : vwCl[ci]? = some (C, T, N)) (hn : As.length = n) (hsize : ls.size = nL) (hroom : (rest.map fun v => v.category).sum ≤ 8) (hdg : decode cc pc = .ok (.invokevirtual index, 3)) (hf : cells + rm.cells ≤ R.cells ∧ slots + rm.slots ≤ R.slots)
    (kk : ∀ (r : Option Value) (h1 : Hp) (H1 : Heap) (locs1 : List Loc), post r h1 → Wd g base h1 H1 → va_S (Ab base) s.heap H1 locs1 → W p l e R s m args below meth c H1 locs1 (cells + rm.cells) (slots + rm.slots) Q (F0 m (pc + 3) ls (r.toList ++ rest))) : W p l e R s m args below meth c H locs cells slots Q (F0 m pc ls (As.reverse ++ .ref b :: rest)) :=
  g_run (va_runVN S hM cw ⟨PcM_blind _, va_recv (q0 := 0) hK.1 (hW.one he) hc rfl, g_pre _ hK hW hS⟩ rfl hn hsize rfl (by show 2 * 0 + _ ≤ 8; omega) hdg hf) hS kk
theorem g_callSN {y : MethodName} {bytes : ByteArray} {maxL nL n index : Nat} {ret : Option FieldType} {ws Ts : List Cond} {rm : Room} {own host : String} {As : List Value} {post : Option Value → Hp → Prop} (S : CallFix p m c cc nL s args Ts own) (hM : MC l g base sa y ws rm As h post) (cw : va_CN R s args own index y host bytes maxL ret ws rm rm.cells rm.slots n ∧ (Cond.static y).before args s = true ∧ True) (hK : KK g base sa s) (hW : Wd g base h H) (hS : va_S (Ab base) s.heap H locs) (hn : As.length = n) (hsize : ls.size = nL) (hroom : (rest.map fun v => v.category).sum ≤ 8) (hdg : decode cc pc = .ok (.invokestatic index, 3)) (hf : cells + rm.cells ≤ R.cells ∧ slots + rm.slots ≤ R.slots)
    (kk : ∀ (r : Option Value) (h1 : Hp) (H1 : Heap) (locs1 : List Loc), post r h1 → Wd g base h1 H1 → va_S (Ab base) s.heap H1 locs1 → W p l e R s m args below meth c H1 locs1 (cells + rm.cells) (slots + rm.slots) Q (F0 m (pc + 3) ls (r.toList ++ rest))) : W p l e R s m args below meth c H locs cells slots Q (F0 m pc ls (As.reverse ++ rest)) :=
  g_run (va_runSN S hM cw ⟨PcM_blind _, g_pre _ hK hW hS⟩ rfl hn hsize rfl (by show 2 * 0 + _ ≤ 8; omega) hdg hf) hS kk
theorem g_callIN {y : MethodName} {bytes : ByteArray} {maxL nL n index : Nat} {ws Ts : List Cond} {rm : Room} {own host : String} {b : Addr} {As : List Value} {post : Option Value → Hp → Prop} (S : CallFix p m c cc nL s args Ts own) (hM : MC l g base sa y ws rm (.ref b :: As) h post) (cw : va_CN R s args own index y host bytes maxL none ws rm rm.cells rm.slots n ∧ y.name = "<init>" ∧ (Cond.instanceMethod y).before args s = true) (hK : KK g base sa s) (hW : Wd g base h H) (hS : va_S (Ab base) s.heap H locs) (hn : As.length = n) (hsize : ls.size = nL) (hroom : (rest.map fun v => v.category).sum ≤ 8) (hdg : decode cc pc = .ok (.invokespecial index, 3)) (hf : cells + rm.cells ≤ R.cells ∧ slots + rm.slots ≤ R.slots)
    (kk : ∀ (r : Option Value) (h1 : Hp) (H1 : Heap) (locs1 : List Loc), post r h1 → Wd g base h1 H1 → va_S (Ab base) s.heap H1 locs1 → W p l e R s m args below meth c H1 locs1 (cells + rm.cells) (slots + rm.slots) Q (F0 m (pc + 3) ls (r.toList ++ rest))) : W p l e R s m args below meth c H locs cells slots Q (F0 m pc ls (As.reverse ++ .ref b :: rest)) :=
  g_run (va_runIN S hM cw ⟨PcM_blind _, g_pre _ hK hW hS⟩ rfl hn hsize rfl (by show 2 * 0 + _ ≤ 8; omega) hdg hf) hS kk
theorem g_iret {post : Option Value → Hp → Prop} {v : Int32} (hexec : p.tables.exec = Jvm.exec) (hb : c.code = cc) (hr : meth.sig.returnType = some .int) (hW : Wd g base h H) (hS : va_S (Ab base) s.heap H locs) (hdg : decode cc pc = .ok (.ireturn, 1)) (hlocks : meth.locks = false) (hp : post (some (.int v)) h) : W p l e R s m args below meth c H locs cells slots (MQ below (QcM g base post) args s cells slots (Ab base)) (F0 m pc ls [.int v]) :=
  W.iret hexec hb hr (fun t ht hWm => ⟨⟨_, h, rfl, hp, by rw [ht]; exact hW⟩, hS.F ht⟩) hS.2.2 hdg hlocks
theorem g_lret {post : Option Value → Hp → Prop} {v : Int64} (hexec : p.tables.exec = Jvm.exec) (hb : c.code = cc) (hr : meth.sig.returnType = some .long) (hW : Wd g base h H) (hS : va_S (Ab base) s.heap H locs) (hdg : decode cc pc = .ok (.lreturn, 1)) (hlocks : meth.locks = false) (hp : post (some (.long v)) h) : W p l e R s m args below meth c H locs cells slots (MQ below (QcM g base post) args s cells slots (Ab base)) (F0 m pc ls [.long v]) :=
  W.lret hexec hb hr (fun t ht hWm => ⟨⟨_, h, rfl, hp, by rw [ht]; exact hW⟩, hS.F ht⟩) hS.2.2 hdg hlocks
theorem g_zret {post : Option Value → Hp → Prop} {v : Int} (hexec : p.tables.exec = Jvm.exec) (hb : c.code = cc) (hr : meth.sig.returnType = some .boolean) (hv : v = 0 ∨ v = 1) (hW : Wd g base h H) (hS : va_S (Ab base) s.heap H locs) (hdg : decode cc pc = .ok (.ireturn, 1)) (hlocks : meth.locks = false) (hp : post (some (.int (J v))) h) : W p l e R s m args below meth c H locs cells slots (MQ below (QcM g base post) args s cells slots (Ab base)) (F0 m pc ls [.int (J v)]) :=
  W.zret hexec hb hr (by rcases hv with rfl | rfl <;> rfl) (fun t ht hWm => ⟨⟨_, h, rfl, hp, by rw [ht]; exact hW⟩, hS.F ht⟩) hS.2.2 hdg hlocks
theorem g_vret {post : Option Value → Hp → Prop} (hexec : p.tables.exec = Jvm.exec) (hb : c.code = cc) (hr : meth.sig.returnType = none) (hW : Wd g base h H) (hS : va_S (Ab base) s.heap H locs) (hdg : decode cc pc = .ok (.return_, 1)) (hlocks : meth.locks = false) (hp : post none h) : W p l e R s m args below meth c H locs cells slots (MQ below (QcM g base post) args s cells slots (Ab base)) (F0 m pc ls []) :=
  W.vret hexec hb hr (fun t ht hWm => ⟨⟨_, h, rfl, hp, by rw [ht]; exact hW⟩, hS.F ht⟩) hS.2.2 hdg hlocks
theorem g_stat (hexec : p.tables.exec = Jvm.exec) (hb : c.code = cc) {C n own : String} {x N : Nat} {f : Int → Int} {index : Nat} (hZ : Sa base C n x N f s) (hS : va_S (Ab base) s.heap H locs) (hown : s.vm.findClass own = some m.cls) (hlink : (Cond.fieldLink own index C n "[I").before args s = true) (hdg : decode cc pc = .ok (.getstatic index, 3))
    (kk : W p l e R s m args below meth c H locs cells slots Q (F0 m (pc + 3) ls (.ref x :: rest))) : W p l e R s m args below meth c H locs cells slots Q (F0 m pc ls rest) := va_gets hexec hb hZ.1 hS hown hlink (fun _ h9 => h9) hdg kk
theorem g_statN (hexec : p.tables.exec = Jvm.exec) (hb : c.code = cc) {C n own host : String} {x N : Nat} {f : Int → Int} {index : Nat} (hZ : Sa base C n x N f s) (hS : va_S (Ab base) s.heap H locs) (hown : s.vm.findClass own = some m.cls) (hlink : (Cond.fieldLinkNest own index C n "[I" host).before args s = true) (hdg : decode cc pc = .ok (.getstatic index, 3))
    (kk : W p l e R s m args below meth c H locs cells slots Q (F0 m (pc + 3) ls (.ref x :: rest))) : W p l e R s m args below meth c H locs cells slots Q (F0 m pc ls rest) := va_getsN hexec hb hZ.1 hS hown hlink (fun _ h9 => h9) hdg kk
theorem g_sald (hexec : p.tables.exec = Jvm.exec) (hb : c.code = cc) {C n : String} {x N : Nat} {f : Int → Int} (hZ : Sa base C n x N f s) (hS : va_S (Ab base) s.heap H locs) {i : Int} (h0 : 0 ≤ i) (hi : i < N) (hN : N < 2147483648) (hdg : decode cc pc = .ok (.iaload, 1))
    (kk : W p l e R s m args below meth c H locs cells slots Q (F0 m (pc + 1) ls (.int (J (f i)) :: rest))) : W p l e R s m args below meth c H locs cells slots Q (F0 m pc ls (.int (J i) :: .ref x :: rest)) :=
  va_ti hexec hb hZ.2 hS (by have := J_in h0 hi (by omega); rwa [Int.toNat_natCast] at this) (by rw [ai_read f h0 (by omega)]) hdg kk
theorem g_slen (hexec : p.tables.exec = Jvm.exec) (hb : c.code = cc) {C n : String} {x N : Nat} {f : Int → Int} (hZ : Sa base C n x N f s) (hS : va_S (Ab base) s.heap H locs) {z : Int} (hz : Int32.ofNat N = J z) (hdg : decode cc pc = .ok (.arraylength, 1))
    (kk : W p l e R s m args below meth c H locs cells slots Q (F0 m (pc + 1) ls (.int (J z) :: rest))) : W p l e R s m args below meth c H locs cells slots Q (F0 m pc ls (.ref x :: rest)) :=
  va_tlen hexec hb hZ.2 hS hz hdg kk
end JR
