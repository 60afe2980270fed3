/-! ===== whole numbers ===== -/
def J (z : Int) : Int32 := Int32.ofInt z
def JL (z : Int) : Int64 := Int64.ofInt z
abbrev i32 (z : Int) : Prop := -2147483648 ≤ z ∧ z < 2147483648
abbrev i64 (z : Int) : Prop := -9223372036854775808 ≤ z ∧ z < 9223372036854775808
theorem J_toInt {z : Int} (h : i32 z) : (J z).toInt = z := Int32.toInt_ofInt_of_le (by have := h.1; omega) (by have := h.2; omega)
theorem JL_toInt {z : Int} (h : i64 z) : (JL z).toInt = z := Int64.toInt_ofInt_of_le (by have := h.1; omega) (by have := h.2; omega)
theorem J_of (x : Int32) : ∃ z : Int, i32 z ∧ x = J z := by
  refine ⟨x.toInt, ⟨?_, ?_⟩, ?_⟩
  · have := x.le_toInt; omega
  · have := x.toInt_lt; omega
  · unfold J; exact (Int32.ofInt_toInt x).symm
theorem J_add (x y : Int) : J x + J y = J (x + y) := by unfold J; exact (Int32.ofInt_add x y).symm
theorem J_sub (x y : Int) : J x - J y = J (x - y) := by unfold J; exact (Int32.ofInt_sub x y).symm
theorem J_mul (x y : Int) : J x * J y = J (x * y) := by unfold J; exact (Int32.ofInt_mul x y).symm
theorem JL_add (x y : Int) : JL x + JL y = JL (x + y) := by unfold JL; exact (Int64.ofInt_add x y).symm
theorem J_lt {x y : Int} (hx : i32 x) (hy : i32 y) : J x < J y ↔ x < y := by
  rw [Int32.lt_iff_toInt_lt, J_toInt hx, J_toInt hy]
theorem J_le {x y : Int} (hx : i32 x) (hy : i32 y) : J x ≤ J y ↔ x ≤ y := by
  rw [Int32.le_iff_toInt_le, J_toInt hx, J_toInt hy]
theorem J_eq {x y : Int} (hx : i32 x) (hy : i32 y) : J x = J y ↔ x = y := by
  rw [← Int32.toInt_inj, J_toInt hx, J_toInt hy]
theorem JL_lt {x y : Int} (hx : i64 x) (hy : i64 y) : JL x < JL y ↔ x < y := by
  rw [Int64.lt_iff_toInt_lt, JL_toInt hx, JL_toInt hy]
theorem JL_le {x y : Int} (hx : i64 x) (hy : i64 y) : JL x ≤ JL y ↔ x ≤ y := by
  rw [Int64.le_iff_toInt_le, JL_toInt hx, JL_toInt hy]
theorem JL_eq {x y : Int} (hx : i64 x) (hy : i64 y) : JL x = JL y ↔ x = y := by
  rw [← Int64.toInt_inj, JL_toInt hx, JL_toInt hy]
theorem J_nI {z : Int} (h : 0 ≤ z) : J z = nI z.toNat := by
  unfold J nI
  rw [← Int32.ofInt_eq_ofNat, Int.toNat_of_nonneg h]
theorem nI_J (n : Nat) : nI n = J n := by
  rw [J_nI (by omega), Int.toNat_natCast]
theorem J_zero : (0 : Int32) = J 0 := by decide
theorem J_in {i n : Int} (h0 : 0 ≤ i) (h : i < n) (hn : n < 2147483648) : vp_in (J i) n.toNat := by
  rw [J_nI h0]
  exact vp_in_nI (by omega) (by omega)
theorem J_clamp {i : Int} (h0 : 0 ≤ i) (hn : i < 2147483648) : (J i).toNatClampNeg = i.toNat := by
  rw [J_nI h0]
  exact nI_clamp (by omega)
theorem J_div {x y : Int} (h0 : 0 ≤ x) (hx : x < 2147483648) (hy : 0 < y) (hy2 : y < 2147483648) : J x / J y = J (x / y) := by
  rw [J_nI h0, J_nI (by omega), pk_div (by omega) (by omega) (by omega), nI_J]
  congr 1
  rw [Int.natCast_ediv, Int.toNat_of_nonneg h0, Int.toNat_of_nonneg (by omega)]
theorem J_rem {x y : Int} (h0 : 0 ≤ x) (hx : x < 2147483648) (hy : 0 < y) (hy2 : y < 2147483648) : J x - J x / J y * J y = J (x % y) := by
  rw [J_nI h0, J_nI (by omega : 0 ≤ y), pk_rem (by omega) (by omega) (by omega), nI_J]
  congr 1
  rw [Int.natCast_emod, Int.toNat_of_nonneg h0, Int.toNat_of_nonneg (by omega)]
/-! ===== cells ===== -/
abbrev GX : Type := va_G × (Nat → ClassId)
abbrev Hp : Type := Nat → Option va_E
def tyL (g : GX) : List (ClassId × FieldType) := [(g.2 0, .int), (g.2 1, .long), (g.2 2, .boolean)]
abbrev ob (ci : Nat) (fs : List Value) : va_E := .inr (ci, fs)
def ai (g : GX) (n : Int) (f : Int → Int) : va_E := .inl (g.2 0, n.toNat, .inl (fun k => J (f k)))
def al (g : GX) (n : Int) (f : Int → Int) : va_E := .inl (g.2 1, n.toNat, .inr (.inl (fun k => JL (f k))))
def az (g : GX) (n : Int) (f : Int → Int) : va_E := .inl (g.2 2, n.toNat, .inl (fun k => J (f k)))
def uf {α : Type} (f : Int → α) (i : Int) (v : α) : Int → α := fun j => if j = i then v else f j
def uh (h : Hp) (q : Nat) (e : va_E) : Hp := fun a => if a = q then some e else h a
theorem uh_same (h : Hp) (q : Nat) (e : va_E) : uh h q e q = some e := if_pos rfl
theorem uh_ne (h : Hp) {q a : Nat} (e : va_E) (n : a ≠ q) : uh h q e a = h a := if_neg n
theorem uf_same {α : Type} (f : Int → α) (i : Int) (v : α) : uf f i v i = v := if_pos rfl
theorem uf_ne {α : Type} (f : Int → α) {i j : Int} (v : α) (n : j ≠ i) : uf f i v j = f j := if_neg n
def Wd (g : GX) (base : Nat) (h : Hp) (H : Heap) : Prop := ∀ (q : Nat) (e : va_E), h q = some e → base ≤ q ∧ va_at g.1 vwCl (q, e) H
abbrev Ab (base : Nat) : Nat → Prop := fun q => base ≤ q
theorem Wd.one {g : GX} {base : Nat} {h : Hp} {H : Heap} (hW : Wd g base h H) {q : Nat} {e : va_E} (hq : h q = some e) : va_P g.1 vwCl [(q, e)] H := by
  intro k x hx
  have hk : k < 1 := (List.getElem?_eq_some_iff.mp hx).1
  rw [show k = 0 by omega] at hx
  cases hx
  exact (hW q e hq).2
theorem Wd.lt {g : GX} {base : Nat} {h : Hp} {H : Heap} (hW : Wd g base h H) {q : Nat} {e : va_E} (hq : h q = some e) : q < H.size := ((hW q e hq).2).lt
theorem Wd.fresh {g : GX} {base : Nat} {h : Hp} {H : Heap} (hW : Wd g base h H) : h H.size = none := by
  cases hh : h H.size with
  | none => rfl
  | some e => exact absurd (hW.lt hh) (Nat.lt_irrefl _)
theorem Wd.set {g : GX} {base : Nat} {h : Hp} {H H1 : Heap} (hW : Wd g base h H) {q : Nat} {e : va_E} (hb : base ≤ q) (he : va_at g.1 vwCl (q, e) H1) (ho : ∀ a : Nat, a < H.size → a ≠ q → H1[a]? = H[a]?) : Wd g base (uh h q e) H1 := by
  intro a x hx
  by_cases ha : a = q
  · subst ha
    rw [uh_same] at hx
    cases hx
    exact ⟨hb, he⟩
  · rw [uh_ne _ _ ha] at hx
    exact ⟨(hW a x hx).1, (hW a x hx).2.kept (ho a (hW.lt hx) ha)⟩
/-! ===== statics, and the words that every method is given ===== -/
def k_giver (j : Int) : Int := ([-1, -1, -1, -1, 0, 1, 2, 3, 0, 0, 0, 0, 1, 1, 1, 1, 2, 2, 2, 2, 3, 3, 3, 3] : List Int).getD j.toNat 0
def k_taker (j : Int) : Int := ([0, 1, 2, 3, -1, -1, -1, -1, 0, 1, 2, 3, 0, 1, 2, 3, 0, 1, 2, 3, 0, 1, 2, 3] : List Int).getD j.toNat 0
def k_states (j : Int) : Int := ([1, 12, 144, 1728] : List Int).getD j.toNat 0
def k_place (j : Int) : Int := ([1, 12, 144] : List Int).getD j.toNat 0
def Sa (base : Nat) (C n : String) (a N : Nat) (f : Int → Int) (U : State) : Prop := va_Z C n "[I" (.ref a) (Ab base) U U.heap ∧ va_T .int a N (fun j => .int (J (f j))) (Ab base) U U.heap
def nestM (a : String) (i : Nat) (C n d : String) : Cond := .methodLinkNest a i ⟨C, n, d⟩ "JugsAndGlasses"
def nestF (a : String) (i : Nat) (n : String) : Cond := .fieldLinkNest a i "JugsAndGlasses" n "[I" "JugsAndGlasses"
def NK (U : State) : Prop := va_Nw (nestM "JugsAndGlasses" 9 "JugsAndGlasses$Search" "<init>" "()V") U ∧ va_Nw (nestM "JugsAndGlasses$Search" 11 "JugsAndGlasses$Jugs" "<init>" "()V") U ∧ va_Nw (nestM "JugsAndGlasses$Search" 23 "JugsAndGlasses$Tour" "<init>" "()V") U ∧ va_Nw (nestM "JugsAndGlasses$Search" 33 "JugsAndGlasses$Spilling" "<init>" "()V") U ∧ va_Nw (nestM "JugsAndGlasses" 23 "JugsAndGlasses$Glasses" "<init>" "()V") U ∧ va_Nw (nestM "JugsAndGlasses$Tour" 25 "JugsAndGlasses" "lengthFor" "(II)I") U ∧ va_Nw (nestF "JugsAndGlasses$Jugs" 35 "GIVER") U ∧ va_Nw (nestF "JugsAndGlasses$Jugs" 38 "TAKER") U
theorem NK.warm {s U : State} (hW : s.WarmedH U.vm) (h : NK s) : NK U := by
  obtain ⟨h1, h2, h3, h4, h5, h6, h7, h8⟩ := h
  exact ⟨va_Nw.warmM hW h1, va_Nw.warmM hW h2, va_Nw.warmM hW h3, va_Nw.warmM hW h4, va_Nw.warmM hW h5, va_Nw.warmM hW h6, va_Nw.warmF hW h7, va_Nw.warmF hW h8⟩
theorem NK.same {s U : State} (hW : s.vm = U.vm) (h : NK s) : NK U := by
  obtain ⟨h1, h2, h3, h4, h5, h6, h7, h8⟩ := h
  exact ⟨h1.same rfl hW, h2.same rfl hW, h3.same rfl hW, h4.same rfl hW, h5.same rfl hW, h6.same rfl hW, h7.same rfl hW, h8.same rfl hW⟩
def KK (g : GX) (base : Nat) (sa : Nat → Nat) (U : State) : Prop := va_K g.1 vwCl (tyL g) U ∧ base ≤ U.heap.size ∧ Sa base "JugsAndGlasses" "GIVER" (sa 0) 24 k_giver U ∧ Sa base "JugsAndGlasses" "TAKER" (sa 1) 24 k_taker U ∧ Sa base "JugsAndGlasses$Glasses" "STATES" (sa 2) 4 k_states U ∧ Sa base "JugsAndGlasses$Glasses" "PLACE" (sa 3) 3 k_place U ∧ NK U
theorem Sa.moved {base : Nat} {C n : String} {a N : Nat} {f : Int → Int} {s U : State} (hvm : s.vm.Alike U.vm) (hk : ∀ q : Nat, q < s.heap.size → ¬ Ab base q → U.heap[q]? = s.heap[q]?) (h : Sa base C n a N f s) : Sa base C n a N f U :=
  ⟨va_Z.moved hvm (h.1.kept hk), va_T.moved hvm (h.2.kept hk)⟩
theorem KK.moved {g : GX} {base : Nat} {sa : Nat → Nat} {s U : State} (hvm : s.vm.Alike U.vm) (hnk : NK s → NK U) (hz : s.heap.size ≤ U.heap.size) (hk : ∀ q : Nat, q < s.heap.size → ¬ Ab base q → U.heap[q]? = s.heap[q]?) (h : KK g base sa s) : KK g base sa U := by
  obtain ⟨h1, h2, h3, h4, h5, h6, h7⟩ := h
  exact ⟨va_K.moved hvm h1, Nat.le_trans h2 hz, h3.moved hvm hk, h4.moved hvm hk, h5.moved hvm hk, h6.moved hvm hk, hnk h7⟩
/-! ===== a method's contract: from the heap h it answers r and leaves h', with post r h' ===== -/
def QcM (g : GX) (base : Nat) (post : Option Value → Hp → Prop) : Array Value → State → Outcome → State → Prop := fun _ s0 o t => (∃ (r : Option Value) (h' : Hp), o = .returned r ∧ post r h' ∧ Wd g base h' t.heap) ∧ va_F (Ab base) s0 t
def PcM (g : GX) (base : Nat) (sa : Nat → Nat) (av : List Value) (h : Hp) : Array Value → State → Prop := va_Pc av (fun U => KK g base sa U ∧ Wd g base h U.heap)
def MC (l : Launch) (g : GX) (base : Nat) (sa : Nat → Nat) (y : MethodName) (ws : List Cond) (rm : Room) (av : List Value) (h : Hp) (post : Option Value → Hp → Prop) : Prop :=
  Met l y ws rm (PcM g base sa av h) (QcM g base post) rm.cells rm.slots (Ab base)
/-! ===== rows over the heap h ===== -/
section GR
variable {p : Program} {l : Launch} {e : Env} {R : Room} {s : State} {m : MethodId} {args : Array Value} {below : List Frame} {meth : Method} {c : Code} {H : Heap} {locs : List Loc} {cells slots : Nat} {Q : State → Prop}
variable {cc : ByteArray} {pc : Nat} {ls : Array Slot} {rest : List Value} {g : GX} {base : Nat} {sa : Nat → Nat} {h : Hp} {a : Nat}
theorem g_get (hexec : p.tables.exec = Jvm.exec) (hb : c.code = cc) {own ref C : String} {T : u_T} {N ci index : Nat} {Ts : List Cond} (hts : ∀ w ∈ Ts, w.before args s = true) (hin : ∀ w ∈ u_ws C T N, w ∈ Ts) (hown : s.vm.findClass own = some m.cls) (hK : KK g base sa s) (hW : Wd g base h H) {fs : List Value} (he : h a = some (.inr (ci, fs))) (hc : vwCl[ci]? = some (C, T, N)) (k : Nat) (hk : k < N) (hlink : (Cond.fieldLink own index ref (T k).2.1 (T k).2.2.1).before args s = true) (hsame : (T k).1 = ref) {v : Value} (hv : fs[k]? = some v) (hdg : decode cc pc = .ok (.getfield index, 3))
    (kk : W p l e R s m args below meth c H locs cells slots Q (F0 m (pc + 3) ls (v :: rest))) : W p l e R s m args below meth c H locs cells slots Q (F0 m pc ls (.ref a :: rest)) :=
  va_get hexec hb hts hin hown hK.1 (hW.one he) 0 rfl hc k hk hlink (fun x hx => by rw [← hsame]; exact hx) hv hdg kk
theorem g_getN (hexec : p.tables.exec = Jvm.exec) (hb : c.code = cc) {own ref C host : String} {T : u_T} {N ci index : Nat} {Ts : List Cond} (hts : ∀ w ∈ Ts, w.before args s = true) (hin : ∀ w ∈ u_ws C T N, w ∈ Ts) (hown : s.vm.findClass own = some m.cls) (hK : KK g base sa s) (hW : Wd g base h H) {fs : List Value} (he : h a = some (.inr (ci, fs))) (hc : vwCl[ci]? = some (C, T, N)) (k : Nat) (hk : k < N) (hlink : (Cond.fieldLinkNest own index ref (T k).2.1 (T k).2.2.1 host).before args s = true) (hsame : (T k).1 = ref) {v : Value} (hv : fs[k]? = some v) (hdg : decode cc pc = .ok (.getfield index, 3))
    (kk : W p l e R s m args below meth c H locs cells slots Q (F0 m (pc + 3) ls (v :: rest))) : W p l e R s m args below meth c H locs cells slots Q (F0 m pc ls (.ref a :: rest)) :=
  va_getN hexec hb hts hin hown hK.1 (hW.one he) 0 rfl hc k hk hlink (fun x hx => by rw [← hsame]; exact hx) hv hdg kk
theorem g_put (hexec : p.tables.exec = Jvm.exec) (hb : c.code = cc) {own ref C : String} {T : u_T} {N ci index : Nat} {Ts : List Cond} (hts : ∀ w ∈ Ts, w.before args s = true) (hin : ∀ w ∈ u_ws C T N, w ∈ Ts) (ty0 : Nat → FieldType) (hty : ∀ k, k < N → parseFieldDescriptor (T k).2.2.1 = some (ty0 k)) (hnm : ∀ a, a < N → ∀ b, b < N → a ≠ b → (T a).2.1 ≠ (T b).2.1) (hown : s.vm.findClass own = some m.cls) (hK : KK g base sa s) (hW : Wd g base h H) (hS0 : va_S (Ab base) s.heap H locs) {fs : List Value} (he : h a = some (.inr (ci, fs))) (hc : vwCl[ci]? = some (C, T, N)) (k : Nat) (hk : k < N) (hlink : (Cond.fieldLink own index ref (T k).2.1 (T k).2.2.1).before args s = true) (hsame : (T k).1 = ref) (hfin : (T k).2.2.2 = false) {ty : FieldType} {v : Value} (hd : parseFieldDescriptor (T k).2.2.1 = some ty) (hn : narrow ty v = v) (hfit : fits ty v = true) (hl : k < fs.length)
    (hdg : decode cc pc = .ok (.putfield index, 3)) (kk : ∀ (H1 : Heap) (locs1 : List Loc), Wd g base (uh h a (.inr (ci, fs.set k v))) H1 → va_S (Ab base) s.heap H1 locs1 → W p l e R s m args below meth c H1 locs1 cells slots Q (F0 m (pc + 3) ls rest)) : W p l e R s m args below meth c H locs cells slots Q (F0 m pc ls (v :: .ref a :: rest)) := by
  have hap := va_apart (own := own) hts hin ty0 hty hnm hK.1 hc
  have hba := (hW a _ he).1
  obtain ⟨r, h1, cell, q1, q2, q3, q4⟩ := (hW a _ he).2
  have hr : r = (C, T, N) := Option.some.inj (h1.symm.trans hc)
  subst hr
  obtain ⟨hS, hfc, kC, hkC, hkind⟩ := hK.1.1 ci _ hc
  obtain ⟨cf, kf, fi, f, hi, hsl⟩ := hS k hk
  have hlay := hts _ (hin _ (u_in_lay hk))
  unfold u_lay at hlay
  rw [if_neg (by rw [hfin]; decide)] at hlay
  have hst := (u_facts hfc hkC (u_lays hts hin hk) hi).1
  have h6 := u_store hfc hkC hkind hlay hi hd hn hfit
  refine W.putK hexec hb (f := f) ⟨hown, hlink, ⟨_, _, _, by rw [← hsame]; exact hi⟩, hst⟩ (by rw [q2]; exact h6) q1 q3 (by rw [hsl]; exact k2_hasslot (q4 k hk)) rfl rfl hdg fun H' e1 e2 e3 => ?_
  rw [hsl] at e1 ⊢
  exact kk H' _ (hW.set hba ⟨_, hc, t_OB.to (V := updV (vp_V fs) k v) ⟨_, e1, q2, q3, t_set q4 hap hk v⟩ (fun j _ => vp_updV_set hl v j)⟩ (fun x _ hx => e3 x hx)) (hS0.put e2 e3 hba)
theorem g_putN (hexec : p.tables.exec = Jvm.exec) (hb : c.code = cc) {own ref C host : String} {T : u_T} {N ci index : Nat} {Ts : List Cond} (hts : ∀ w ∈ Ts, w.before args s = true) (hin : ∀ w ∈ u_ws C T N, w ∈ Ts) (ty0 : Nat → FieldType) (hty : ∀ k, k < N → parseFieldDescriptor (T k).2.2.1 = some (ty0 k)) (hnm : ∀ a, a < N → ∀ b, b < N → a ≠ b → (T a).2.1 ≠ (T b).2.1) (hown : s.vm.findClass own = some m.cls) (hK : KK g base sa s) (hW : Wd g base h H) (hS0 : va_S (Ab base) s.heap H locs) {fs : List Value} (he : h a = some (.inr (ci, fs))) (hc : vwCl[ci]? = some (C, T, N)) (k : Nat) (hk : k < N) (hlink : (Cond.fieldLinkNest own index ref (T k).2.1 (T k).2.2.1 host).before args s = true) (hsame : (T k).1 = ref) (hfin : (T k).2.2.2 = false) {ty : FieldType} {v : Value} (hd : parseFieldDescriptor (T k).2.2.1 = some ty) (hn : narrow ty v = v) (hfit : fits ty v = true) (hl : k < fs.length)
    (hdg : decode cc pc = .ok (.putfield index, 3)) (kk : ∀ (H1 : Heap) (locs1 : List Loc), Wd g base (uh h a (.inr (ci, fs.set k v))) H1 → va_S (Ab base) s.heap H1 locs1 → W p l e R s m args below meth c H1 locs1 cells slots Q (F0 m (pc + 3) ls rest)) : W p l e R s m args below meth c H locs cells slots Q (F0 m pc ls (v :: .ref a :: rest)) := by
  have hap := va_apart (own := own) hts hin ty0 hty hnm hK.1 hc
  have hba := (hW a _ he).1
  obtain ⟨r, h1, cell, q1, q2, q3, q4⟩ := (hW a _ he).2
  have hr : r = (C, T, N) := Option.some.inj (h1.symm.trans hc)
  subst hr
  obtain ⟨hS, hfc, kC, hkC, hkind⟩ := hK.1.1 ci _ hc
  obtain ⟨cf, kf, fi, f, hi, hsl⟩ := hS k hk
  have hlay := hts _ (hin _ (u_in_lay hk))
  unfold u_lay at hlay
  rw [if_neg (by rw [hfin]; decide)] at hlay
  have hst := (u_facts hfc hkC (u_lays hts hin hk) hi).1
  have h6 := u_store hfc hkC hkind hlay hi hd hn hfit
  refine va_WputK hexec hb (f := f) hown hlink (by rw [← hsame]; exact hi) hst (by rw [q2]; exact h6) q1 q3 (by rw [hsl]; exact k2_hasslot (q4 k hk)) rfl rfl hdg fun H' e1 e2 e3 => ?_
  rw [hsl] at e1 ⊢
  exact kk H' _ (hW.set hba ⟨_, hc, t_OB.to (V := updV (vp_V fs) k v) ⟨_, e1, q2, q3, t_set q4 hap hk v⟩ (fun j _ => vp_updV_set hl v j)⟩ (fun x _ hx => e3 x hx)) (hS0.put e2 e3 hba)
theorem g_putF (hexec : p.tables.exec = Jvm.exec) (hb : c.code = cc) {own ref C : String} {T : u_T} {N ci index : Nat} {Ts : List Cond} (hts : ∀ w ∈ Ts, w.before args s = true) (hin : ∀ w ∈ u_ws C T N, w ∈ Ts) (ty0 : Nat → FieldType) (hty : ∀ k, k < N → parseFieldDescriptor (T k).2.2.1 = some (ty0 k)) (hnm : ∀ a, a < N → ∀ b, b < N → a ≠ b → (T a).2.1 ≠ (T b).2.1) (hown : s.vm.findClass own = some m.cls) (hK : KK g base sa s) (hW : Wd g base h H) (hS0 : va_S (Ab base) s.heap H locs) {fs : List Value} (he : h a = some (.inr (ci, fs))) (hc : vwCl[ci]? = some (C, T, N)) (k : Nat) (hk : k < N) (hlink : (Cond.fieldLink own index ref (T k).2.1 (T k).2.2.1).before args s = true) (hsame : (T k).1 = ref) (hfin : (T k).2.2.2 = true) (hin2 : meth.name = "<init>") (hdecl : (T k).1 = own) {ty : FieldType} {v : Value} (hd : parseFieldDescriptor (T k).2.2.1 = some ty) (hn : narrow ty v = v) (hfit : fits ty v = true) (hl : k < fs.length)
    (hdg : decode cc pc = .ok (.putfield index, 3)) (kk : ∀ (H1 : Heap) (locs1 : List Loc), Wd g base (uh h a (.inr (ci, fs.set k v))) H1 → va_S (Ab base) s.heap H1 locs1 → W p l e R s m args below meth c H1 locs1 cells slots Q (F0 m (pc + 3) ls rest)) : W p l e R s m args below meth c H locs cells slots Q (F0 m pc ls (v :: .ref a :: rest)) := by
  have hap := va_apart (own := own) hts hin ty0 hty hnm hK.1 hc
  have hba := (hW a _ he).1
  obtain ⟨r, h1, cell, q1, q2, q3, q4⟩ := (hW a _ he).2
  have hr : r = (C, T, N) := Option.some.inj (h1.symm.trans hc)
  subst hr
  obtain ⟨hS, hfc, kC, hkC, hkind⟩ := hK.1.1 ci _ hc
  obtain ⟨cf, kf, fi, f, hi, hsl⟩ := hS k hk
  have hlay := hts _ (hin _ (u_in_lay hk))
  unfold u_lay at hlay
  rw [if_pos hfin] at hlay
  have hst := (u_facts hfc hkC (u_lays hts hin hk) hi).1
  have hcf : m.cls = cf := by
    obtain ⟨_, _, c', _, _, _, -, -, hf', -, -, -, hown2, -⟩ := Cond.laysFinal_spec hlay
    have e1 : c' = cf := by have := hi.symm.trans hf'; simp at this; exact this.1.symm
    rw [hdecl] at hown2
    rw [← e1]; exact Option.some.inj (hown.symm.trans hown2)
  have h6 := u_fits hfc hkC hkind (Or.inr hlay) hi hd hn hfit
  refine W.putFinK hexec hb hown hlink (by rw [← hsame]; exact hi) hst hcf hin2 (by rw [q2]; exact h6) q1 q3 (by rw [hsl]; exact k2_hasslot (q4 k hk)) rfl rfl hdg fun H' e1 e2 e3 => ?_
  rw [hsl] at e1 ⊢
  exact kk H' _ (hW.set hba ⟨_, hc, t_OB.to (V := updV (vp_V fs) k v) ⟨_, e1, q2, q3, t_set q4 hap hk v⟩ (fun j _ => vp_updV_set hl v j)⟩ (fun x _ hx => e3 x hx)) (hS0.put e2 e3 hba)
theorem ai_read (f : Int → Int) {i : Int} (h0 : 0 ≤ i) (hn : i < 2147483648) : J (f (((J i).toNatClampNeg : Nat) : Int)) = J (f i) := by
  rw [J_clamp h0 hn, Int.toNat_of_nonneg h0]
theorem al_read (f : Int → Int) {i : Int} (h0 : 0 ≤ i) (hn : i < 2147483648) : JL (f (((J i).toNatClampNeg : Nat) : Int)) = JL (f i) := by
  rw [J_clamp h0 hn, Int.toNat_of_nonneg h0]
theorem ai_upd (f : Int → Int) {i : Int} (x : Int) (h0 : 0 ≤ i) (hn : i < 2147483648) : updV (fun j => .int ((fun k : Nat => J (f k)) j)) (J i).toNatClampNeg (.int (J x)) = (fun j => .int ((fun k : Nat => J (uf f i x k)) j)) := by
  rw [J_clamp h0 hn]
  funext j
  by_cases hj : j = i.toNat
  · subst hj
    simp [updV, uf, Int.toNat_of_nonneg h0]
  · have hj2 : (j : Int) ≠ i := by omega
    simp [updV, uf, hj, hj2]
theorem al_upd (f : Int → Int) {i : Int} (x : Int) (h0 : 0 ≤ i) (hn : i < 2147483648) : updV (fun j => .long ((fun k : Nat => JL (f k)) j)) (J i).toNatClampNeg (.long (JL x)) = (fun j => .long ((fun k : Nat => JL (uf f i x k)) j)) := by
  rw [J_clamp h0 hn]
  funext j
  by_cases hj : j = i.toNat
  · subst hj
    simp [updV, uf, Int.toNat_of_nonneg h0]
  · have hj2 : (j : Int) ≠ i := by omega
    simp [updV, uf, hj, hj2]
theorem g_iald (hexec : p.tables.exec = Jvm.exec) (hb : c.code = cc) (hK : KK g base sa s) (hW : Wd g base h H) {n : Int} {f : Int → Int} (ha : h a = some (ai g n f)) {i : Int} (h0 : 0 ≤ i) (hi : i < n) (hn : n < 2147483648) (hdg : decode cc pc = .ok (.iaload, 1))
    (kk : W p l e R s m args below meth c H locs cells slots Q (F0 m (pc + 1) ls (.int (J (f i)) :: rest))) : W p l e R s m args below meth c H locs cells slots Q (F0 m pc ls (.int (J i) :: .ref a :: rest)) := by
  refine va_iald hexec hb hK.1 (hW.one ha) 0 0 rfl rfl (J_in h0 hi hn) hdg ?_
  rw [ai_read f h0 (by omega)]
  exact kk
theorem g_lald (hexec : p.tables.exec = Jvm.exec) (hb : c.code = cc) (hK : KK g base sa s) (hW : Wd g base h H) {n : Int} {f : Int → Int} (ha : h a = some (al g n f)) {i : Int} (h0 : 0 ≤ i) (hi : i < n) (hn : n < 2147483648) (hdg : decode cc pc = .ok (.laload, 1))
    (kk : W p l e R s m args below meth c H locs cells slots Q (F0 m (pc + 1) ls (.long (JL (f i)) :: rest))) : W p l e R s m args below meth c H locs cells slots Q (F0 m pc ls (.int (J i) :: .ref a :: rest)) := by
  refine va_lald hexec hb hK.1 (hW.one ha) 0 1 rfl rfl (J_in h0 hi hn) hdg ?_
  rw [al_read f h0 (by omega)]
  exact kk
theorem g_zald (hexec : p.tables.exec = Jvm.exec) (hb : c.code = cc) (hK : KK g base sa s) (hW : Wd g base h H) {n : Int} {f : Int → Int} (ha : h a = some (az g n f)) {i : Int} (h0 : 0 ≤ i) (hi : i < n) (hn : n < 2147483648) (hdg : decode cc pc = .ok (.baload, 1))
    (kk : W p l e R s m args below meth c H locs cells slots Q (F0 m (pc + 1) ls (.int (J (f i)) :: rest))) : W p l e R s m args below meth c H locs cells slots Q (F0 m pc ls (.int (J i) :: .ref a :: rest)) := by
  refine va_zald hexec hb hK.1 (hW.one ha) 0 2 rfl rfl (J_in h0 hi hn) hdg ?_
  rw [ai_read f h0 (by omega)]
  exact kk
theorem g_alen (hexec : p.tables.exec = Jvm.exec) (hb : c.code = cc) (hK : KK g base sa s) (hW : Wd g base h H) {n : Int} {f : Int → Int} (ha : h a = some (ai g n f)) (h0 : 0 ≤ n) (hdg : decode cc pc = .ok (.arraylength, 1))
    (kk : W p l e R s m args below meth c H locs cells slots Q (F0 m (pc + 1) ls (.int (J n) :: rest))) : W p l e R s m args below meth c H locs cells slots Q (F0 m pc ls (.ref a :: rest)) :=
  va_alen hexec hb hK.1 (hW.one ha) 0 0 rfl rfl (v := J n) (by rw [J_nI h0]; rfl) hdg kk
theorem g_lalen (hexec : p.tables.exec = Jvm.exec) (hb : c.code = cc) (hK : KK g base sa s) (hW : Wd g base h H) {n : Int} {f : Int → Int} (ha : h a = some (al g n f)) (h0 : 0 ≤ n) (hdg : decode cc pc = .ok (.arraylength, 1))
    (kk : W p l e R s m args below meth c H locs cells slots Q (F0 m (pc + 1) ls (.int (J n) :: rest))) : W p l e R s m args below meth c H locs cells slots Q (F0 m pc ls (.ref a :: rest)) :=
  va_alen hexec hb hK.1 (hW.one ha) 0 1 rfl rfl (v := J n) (by rw [J_nI h0]; rfl) hdg kk
theorem g_zalen (hexec : p.tables.exec = Jvm.exec) (hb : c.code = cc) (hK : KK g base sa s) (hW : Wd g base h H) {n : Int} {f : Int → Int} (ha : h a = some (az g n f)) (h0 : 0 ≤ n) (hdg : decode cc pc = .ok (.arraylength, 1))
    (kk : W p l e R s m args below meth c H locs cells slots Q (F0 m (pc + 1) ls (.int (J n) :: rest))) : W p l e R s m args below meth c H locs cells slots Q (F0 m pc ls (.ref a :: rest)) :=
  va_alen hexec hb hK.1 (hW.one ha) 0 2 rfl rfl (v := J n) (by rw [J_nI h0]; rfl) hdg kk
theorem g_iast (hexec : p.tables.exec = Jvm.exec) (hb : c.code = cc) (hK : KK g base sa s) (hW : Wd g base h H) (hS : va_S (Ab base) s.heap H locs) {n : Int} {f : Int → Int} (ha : h a = some (ai g n f)) {i x : Int} (h0 : 0 ≤ i) (hi : i < n) (hn : n < 2147483648) (hdg : decode cc pc = .ok (.iastore, 1))
    (kk : ∀ (H1 : Heap) (locs1 : List Loc), Wd g base (uh h a (ai g n (uf f i x))) H1 → va_S (Ab base) s.heap H1 locs1 → W p l e R s m args below meth c H1 locs1 cells slots Q (F0 m (pc + 1) ls rest)) : W p l e R s m args below meth c H locs cells slots Q (F0 m pc ls (.int (J x) :: .int (J i) :: .ref a :: rest)) := by
  have hba := (hW a _ ha).1
  have hcell : H[a]? = some (vp_cell (g.2 0) (n.toNat, .inl (fun k => J (f k)))) := hW.one ha 0 _ rfl
  refine W.iast hexec hb hcell ((hK.1.2 0 _ rfl).1 n.toNat (fun j => .int (J (f j)))) (fun q => by cases q) (by show ¬ (J i < 0 ∨ (arrV _ _ _).slots.size ≤ _); rw [arrV_size]; exact J_in h0 hi hn) rfl rfl hdg fun H1 e1 z oq => ?_
  refine kk H1 _ (hW.set hba ?_ (fun x _ hx => oq x hx)) (hS.put z oq hba)
  show H1[a]? = some (vp_cell (g.2 0) (n.toNat, .inl (fun k => J (uf f i x k))))
  rw [e1, vp_cell_i, vp_cell_i, arrV_store, ai_upd f x h0 (by omega)]
theorem g_last (hexec : p.tables.exec = Jvm.exec) (hb : c.code = cc) (hK : KK g base sa s) (hW : Wd g base h H) (hS : va_S (Ab base) s.heap H locs) {n : Int} {f : Int → Int} (ha : h a = some (al g n f)) {i x : Int} (h0 : 0 ≤ i) (hi : i < n) (hn : n < 2147483648) (hdg : decode cc pc = .ok (.lastore, 1))
    (kk : ∀ (H1 : Heap) (locs1 : List Loc), Wd g base (uh h a (al g n (uf f i x))) H1 → va_S (Ab base) s.heap H1 locs1 → W p l e R s m args below meth c H1 locs1 cells slots Q (F0 m (pc + 1) ls rest)) : W p l e R s m args below meth c H locs cells slots Q (F0 m pc ls (.long (JL x) :: .int (J i) :: .ref a :: rest)) := by
  have hba := (hW a _ ha).1
  have hcell : H[a]? = some (vp_cell (g.2 1) (n.toNat, .inr (.inl (fun k => JL (f k))))) := hW.one ha 0 _ rfl
  refine W.last hexec hb hcell ((hK.1.2 1 _ rfl).1 n.toNat (fun j => .long (JL (f j)))) (fun q => by cases q) (by show ¬ (J i < 0 ∨ (arrV _ _ _).slots.size ≤ _); rw [arrV_size]; exact J_in h0 hi hn) rfl rfl hdg fun H1 e1 z oq => ?_
  refine kk H1 _ (hW.set hba ?_ (fun x _ hx => oq x hx)) (hS.put z oq hba)
  show H1[a]? = some (vp_cell (g.2 1) (n.toNat, .inr (.inl (fun k => JL (uf f i x k)))))
  rw [e1, vp_cell_l, vp_cell_l, arrV_store, al_upd f x h0 (by omega)]
theorem nar_b {x : Int} (hx : x = 0 ∨ x = 1) : vp_nar .boolean (J x) = J x := by
  rcases hx with rfl | rfl <;> decide
theorem g_zast (hexec : p.tables.exec = Jvm.exec) (hb : c.code = cc) (hK : KK g base sa s) (hW : Wd g base h H) (hS : va_S (Ab base) s.heap H locs) {n : Int} {f : Int → Int} (ha : h a = some (az g n f)) {i x : Int} (h0 : 0 ≤ i) (hi : i < n) (hn : n < 2147483648) (hx : x = 0 ∨ x = 1) (hdg : decode cc pc = .ok (.bastore, 1))
    (kk : ∀ (H1 : Heap) (locs1 : List Loc), Wd g base (uh h a (az g n (uf f i x))) H1 → va_S (Ab base) s.heap H1 locs1 → W p l e R s m args below meth c H1 locs1 cells slots Q (F0 m (pc + 1) ls rest)) : W p l e R s m args below meth c H locs cells slots Q (F0 m pc ls (.int (J x) :: .int (J i) :: .ref a :: rest)) := by
  have hba := (hW a _ ha).1
  have hcell : H[a]? = some (vp_cell (g.2 2) (n.toNat, .inl (fun k => J (f k)))) := hW.one ha 0 _ rfl
  refine W.zast hexec hb hcell ((hK.1.2 2 _ rfl).1 n.toNat (fun j => .int (J (f j)))) (fun q => by cases q) (by show ¬ (J i < 0 ∨ (arrV _ _ _).slots.size ≤ _); rw [arrV_size]; exact J_in h0 hi hn) rfl rfl hdg fun H1 e1 z oq => ?_
  refine kk H1 _ (hW.set hba ?_ (fun x _ hx => oq x hx)) (hS.put z oq hba)
  show H1[a]? = some (vp_cell (g.2 2) (n.toNat, .inl (fun k => J (uf f i x k))))
  have hnb : narrow .boolean (.int (J x)) = .int (J x) := by rcases hx with rfl | rfl <;> rfl
  rw [e1, vp_cell_i, vp_cell_i, arrV_store]
  first
    | rw [ai_upd f x h0 (by omega)]
    | (rw [hnb, ai_upd f x h0 (by omega)])
    | (have hnv := nar_b hx; simp only [vp_nar] at hnv; simp only [hnb]; rw [ai_upd f x h0 (by omega)])
end GR
