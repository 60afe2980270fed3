/-! ===== 'new int[n][m]', out of the machine's own words (its loop of stores), over the walk ===== -/
/-- what the type of arrays of int[] is -/
theorem AOI.is {s : State} (h : AOI s) : ∃ (cI cA : ClassId) (kA : Class), s.vm.findClass (FieldType.array .int).toString = some cI ∧ s.vm.classes[cA]? = some kA ∧ kA.kind = .array cI (.array .int) ∧ s.vm.findClass ("[" ++ (FieldType.array .int).toString) = some cA := by
  unfold AOI Cond.before Cond.holds at h
  simp only [Cond.value, beq_iff_eq, Option.bind_eq_some_iff, Option.map_eq_some_iff] at h
  obtain ⟨cI, hI, cA, hA, kA, hk, hb⟩ := h
  obtain ⟨w1, w2, -⟩ := Array.findIdx?_eq_some_iff_getElem.mp hA
  rw [Array.getElem?_eq_getElem w1] at hk
  have ek := Option.some.inj hk
  rw [ek] at w2
  refine ⟨cI, cA, kA, hI, by rw [Array.getElem?_eq_getElem w1, ek], ?_⟩
  generalize kA.kind = kd at hb w2
  cases kd with
  | array a b =>
    simp only [beq_iff_eq] at w2
    simp only [Bool.and_eq_true, decide_eq_true_eq] at hb
    exact ⟨by rw [w2, hb.1], hb.2⟩
  | _ => simp at hb
/-- the outer array with j rows laid, a row, the state behind j rows -/
def mw_o (cA : ClassId) (N b j : Nat) : Cell := arrV cA N (fun x => va_rf (if x < j then some (b + 1 + x) else none))
def mw_r (cI : ClassId) (M : Nat) : Cell := arrV cI M (fun _ => .int 0)
def mw_t (T : State) (cA cI : ClassId) (N M : Nat) : Nat → State
  | 0 => T.pushCell (mw_o cA N T.heap.size 0)
  | j + 1 => ((mw_t T cA cI N M j).pushCell (mw_r cI M)).setCell T.heap.size (mw_o cA N T.heap.size (j + 1))
theorem mw_o_set (cA : ClassId) (N b j : Nat) : (mw_o cA N b j).setSlot j (.ref (b + 1 + j)) = mw_o cA N b (j + 1) := by
  unfold mw_o
  rw [arrV_store]
  refine congrArg (arrV cA N) (funext fun x => ?_)
  unfold updV
  by_cases e : x = j
  · rw [if_pos e, if_pos (by omega), e]; rfl
  · rw [if_neg e]
    show va_rf (if x < j then some (b + 1 + x) else none) = _
    by_cases h : x < j
    · rw [if_pos h, if_pos (by omega)]
    · rw [if_neg h, if_neg (by omega)]
theorem mw_o_new (cA : ClassId) (N b : Nat) : ({ cls := cA, slots := Array.replicate N .null } : Cell) = mw_o cA N b 0 := by
  show ({ cls := cA, slots := Array.replicate N .null, vm := .none } : Cell) = _
  rw [arrV_new]
  rfl
theorem mw_r_new (cI : ClassId) (M : Nat) : ({ cls := cI, slots := Array.replicate M (defaultValue .int) } : Cell) = mw_r cI M := by
  show ({ cls := cI, slots := Array.replicate M (defaultValue .int), vm := .none } : Cell) = _
  rw [arrV_new]
  rfl
theorem mw_f (T : State) (cA cI : ClassId) (N M : Nat) : ∀ j : Nat, (mw_t T cA cI N M j).heap.size = T.heap.size + 1 + j ∧ (mw_t T cA cI N M j).heap[T.heap.size]? = some (mw_o cA N T.heap.size j) ∧ (∀ x : Nat, x < T.heap.size → (mw_t T cA cI N M j).heap[x]? = T.heap[x]?) ∧ (∀ i : Nat, i < j → (mw_t T cA cI N M j).heap[T.heap.size + 1 + i]? = some (mw_r cI M)) ∧ (mw_t T cA cI N M j).vm = T.vm ∧ (mw_t T cA cI N M j).slotsUsed = T.slotsUsed + N + j * M
  | 0 => by
    have hh : (mw_t T cA cI N M 0).heap = T.heap.push (mw_o cA N T.heap.size 0) := rfl
    rw [hh]
    refine ⟨Array.size_push .., ?_, fun x hx => ?_, fun i hi => absurd hi (Nat.not_lt_zero i), rfl, ?_⟩
    · rw [Array.getElem?_push, if_pos rfl]
    · rw [Array.getElem?_push, if_neg (Nat.ne_of_lt hx)]
    · show T.slotsUsed + (mw_o cA N T.heap.size 0).slots.size = _
      rw [mw_o, arrV_size]; omega
  | j + 1 => by
    obtain ⟨f1, f2, f3, f4, f5, f6⟩ := mw_f T cA cI N M j
    have hh : (mw_t T cA cI N M (j + 1)).heap = ((mw_t T cA cI N M j).heap.push (mw_r cI M)).setIfInBounds T.heap.size (mw_o cA N T.heap.size (j + 1)) := rfl
    rw [hh]
    refine ⟨?_, ?_, fun x hx => ?_, fun i hi => ?_, f5, ?_⟩
    · rw [Array.size_setIfInBounds, Array.size_push, f1]; omega
    · rw [Array.getElem?_setIfInBounds, if_pos rfl, if_pos (by rw [Array.size_push, f1]; omega)]
    · rw [Array.getElem?_setIfInBounds, if_neg (by omega), Array.getElem?_push, if_neg (by rw [f1]; omega)]
      exact f3 x hx
    · rw [Array.getElem?_setIfInBounds, if_neg (by omega), Array.getElem?_push]
      by_cases e : i = j
      · rw [if_pos (by rw [f1, e])]
      · rw [if_neg (by rw [f1]; omega)]
        exact f4 i (by omega)
    · show (mw_t T cA cI N M j).slotsUsed + (mw_r cI M).slots.size = _
      rw [f6, mw_r, arrV_size, Nat.succ_mul]; omega
theorem mw_top (T : State) (f : JFrame) (cA cI : ClassId) (N M : Nat) : ∀ j : Nat, mw_t (T.setTop f) cA cI N M j = (mw_t T cA cI N M j).setTop f
  | 0 => rfl
  | j + 1 => by
    show ((mw_t (T.setTop f) cA cI N M j).pushCell (mw_r cI M)).setCell T.heap.size (mw_o cA N T.heap.size (j + 1)) = _
    rw [mw_top T f cA cI N M j]
    rfl
/-- the machine's 'make' of two dimensions, ints within -/
theorem mw_make {E : CtlPost} {e : Env} {d : Bool} {acts : List Action} {T : State} {cA cI ci : ClassId} {kA kI : Class} {n k : Int32} {N M : Nat} (hkA : T.vm.classes[cA]? = some kA) (hA : kA.kind = .array cI (.array .int)) (hkI : T.vm.classes[cI]? = some kI) (hI : kI.kind = .array ci .int) (hn : ¬ n < 0) (hk : ¬ k < 0) (eN : n.toNatClampNeg = N) (eM : k.toNatClampNeg = M)
    (hN1 : ¬ N > e.platform.arrayLengthLimit) (hN2 : ¬ N * componentBytes (.array .int) > e.platform.maxHeapBytes) (hM1 : ¬ M > e.platform.arrayLengthLimit) (hM2 : ¬ M * componentBytes .int > e.platform.maxHeapBytes) (hc : T.heap.size + 1 + N ≤ e.platform.maxCells) (hs : T.slotsUsed + N + N * M ≤ e.platform.maxSlots)
    {Q : Addr → Pre} (hq : ∀ d' acts', Q T.heap.size d' acts' (mw_t T cA cI N M N)) : wp (multianewarray.make cA [n, k]) Q E e d acts T := by
  have hrow : ∀ (U : State) (d' : Bool) (acts' : List Action) (Q' : Addr → Pre), U.vm = T.vm → U.heap.size < e.platform.maxCells → U.slotsUsed + M ≤ e.platform.maxSlots → (∀ a', Q' U.heap.size d' a' (U.pushCell (mw_r cI M))) → wp (multianewarray.make cI [k]) Q' E e d' acts' U := fun U d' acts' Q' hv h1 h2 h3 => by
    have hkU : U.vm.classes[cI]? = some kI := by rw [hv]; exact hkI
    rw [multianewarray.make]
    simp only [wp_bind', W.ite, hk, if_false, wp_pure', W.theClass, hkU, hI, Option.some.injEq, exists_eq_left', eM]
    refine W.newArray_of hkU hI hM1 hM2 h1 h2 rfl (fun a' => ?_)
    rw [mw_r_new]
    exact h3 a'
  rw [multianewarray.make]
  simp only [wp_bind', W.ite, hn, if_false, wp_pure', W.theClass, hkA, hA, Option.some.injEq, exists_eq_left', eN]
  refine W.newArray_of hkA hA hN1 hN2 (by omega) (by omega) rfl (fun a' => ?_)
  rw [mw_o_new cA N T.heap.size]
  have hfind : ([k].find? (· < 0)) = none := by simp [hk]
  simp only [hfind, ite_self]
  rw [wp_bind', Std.Legacy.Range.forIn_eq_forIn_range', show ([:N] : Std.Legacy.Range).size = N by simp [Std.Legacy.Range.size]]
  refine wp_forIn_inv (fun todo U => ∃ j, j + todo.length = N ∧ todo = List.range' j todo.length ∧ U = mw_t T cA cI N M j) _ _ ⟨0, by simp, by simp, rfl⟩ (fun x todo U d' acts' Q' hU next => ?_) (fun U d' acts' hU => ?_)
  · obtain ⟨j, g1, g2, rfl⟩ := hU
    rw [List.length_cons] at g1 g2
    rw [List.range'_succ] at g2
    obtain ⟨g3, g4⟩ := List.cons.inj g2
    subst g3
    obtain ⟨f1, f2, f3, f4, f5, f6⟩ := mw_f T cA cI N M x
    have hm : x * M + M ≤ N * M := by
      have := Nat.mul_le_mul_right M (show x + 1 ≤ N by omega)
      rwa [Nat.succ_mul] at this
    simp only [wp_bind']
    refine hrow _ _ _ _ f5 (by omega) (by omega) (fun a' => ?_)
    simp only [wp_bind', W.writeLoc, wp_pure']
    refine ⟨mw_o cA N T.heap.size x, ?_, (fun w => by cases w), ?_, ?_, next _ _ _ ⟨x + 1, by omega, g4, ?_⟩⟩
    · show ((mw_t T cA cI N M x).heap.push (mw_r cI M))[T.heap.size]? = _
      rw [Array.getElem?_push, if_neg (by omega)]
      exact f2
    · rw [mw_o, arrV_size]; omega
    · show State.fitsSlot _ cA .none x _ = true
      simp [State.fitsSlot, State.slotType?, f5, hkA, hA, fits]
    · rw [f1, mw_o_set]
      rfl
  · obtain ⟨j, g1, -, rfl⟩ := hU
    rw [List.length_nil] at g1
    obtain rfl : j = N := g1
    simp only [wp_pure']
    exact hq _ _
section MWS
variable {p : Program} {l : Launch} {e : Env} {R : Room} {s : State} {m : MethodId} {args : Array Value} {below : List Frame} {meth : Method} {c : Code} {T : State} {locs : List Loc} {cells slots : Nat}
theorem mw_X (X : Stand p l e R s m args below meth c T locs cells slots) (cA cI : ClassId) (N M : Nat) : ∀ j : Nat, Stand p l e R s m args below meth c (mw_t T cA cI N M j) locs (cells + 1 + j) (slots + N + j * M)
  | 0 => by
    have h := X.pushed (mw_o cA N T.heap.size 0)
    rw [show (mw_o cA N T.heap.size 0).slots.size = N from arrV_size _ _ _] at h
    rw [Nat.zero_mul]
    exact h
  | j + 1 => by
    obtain ⟨f1, f2, -⟩ := mw_f T cA cI N M j
    have hc : ((mw_t T cA cI N M j).pushCell (mw_r cI M)).heap[T.heap.size]? = some (mw_o cA N T.heap.size j) := by
      show ((mw_t T cA cI N M j).heap.push (mw_r cI M))[T.heap.size]? = _
      rw [Array.getElem?_push, if_neg (by omega)]
      exact f2
    have h := ((mw_X X cA cI N M j).pushed (mw_r cI M)).stored hc j (.ref (T.heap.size + 1 + j))
    rw [mw_o_set, show (mw_r cI M).slots.size = M from arrV_size _ _ _] at h
    have h2 := h.dropFresh (fun x hx => by rw [List.mem_singleton.mp hx]; exact X.heapGrown)
    rw [Nat.succ_mul, ← Nat.add_assoc (slots + N)]
    exact h2
/-- the step -/
theorem mw_step (X : Stand p l e R s m args below meth c T locs cells slots) (hexec : p.tables.exec = Jvm.exec) {own : String} {index : Nat} (hown : s.vm.findClass own = some m.cls) (hclink : (Cond.classLink own index "[[I").before args s = true) (hA : AOI s) (harr : (Cond.arrayClass .int).before args s = true)
    {f : JFrame} (hf : f.method = m) (hdg : decode c.code f.pc = .ok (.multianewarray index 2, 4)) {n k : Int32} {rest : List Value} (hstack : f.stack = .int k :: .int n :: rest) {N M : Nat} (hn : ¬ n < 0) (hk : ¬ k < 0) (eN : n.toNatClampNeg = N) (eM : k.toNatClampNeg = M) (hN : N ≤ 1000000) (hM : M ≤ 1000000) (hcells : cells + (1 + N) ≤ R.cells) (hslots : slots + (N + N * M) ≤ R.slots) :
    ∃ (v : Vm) (cA cI : ClassId), s.vm.findClass "[[I" = some cA ∧ s.vm.findClass "[I" = some cI ∧ Stand p l e R s m args below meth c (mw_t (T.setVm v) cA cI N M N) locs (cells + 1 + N) (slots + N + N * M) ∧
      ∀ t, Steps p.tables e below ((mw_t (T.setVm v) cA cI N M N).setTop { f with pc := f.pc + 4, stack := .ref T.heap.size :: rest }) t → Steps p.tables e below (T.setTop f) t := by
  subst hf
  obtain ⟨cI, cA, kA, i1, i2, i3, i4⟩ := hA.is
  obtain ⟨cI', kI, ci, i5, i6, i7⟩ := Cond.arrayClass_spec harr
  obtain rfl : cI = cI' := Option.some.inj (i1.symm.trans i5)
  obtain ⟨c0, i8, hcl⟩ := Cond.classLink_spec hown hclink e.platform (by rw [X.admits.platform])
  obtain rfl : cA = c0 := Option.some.inj (i4.symm.trans i8)
  obtain ⟨r1, r2, -⟩ := State.classEntry (e := e) X.warmed hcl
  generalize T.vm.noted f.method.cls index (.cls cA) = v at r1 r2
  obtain ⟨kA', a1, a2⟩ := r2.alike.2.2 _ _ i2
  obtain ⟨kI', b1, b2⟩ := r2.alike.2.2 _ _ i6
  have a3 : kA'.kind = .array cI (.array .int) := by rw [a2]; exact i3
  have b3 : kI'.kind = .array ci .int := by rw [b2]; exact i7
  obtain ⟨q1, q2⟩ := X.roomAbove hcells hslots
  have XF := mw_X (X.noted r2) cA cI N M N
  refine ⟨v, cA, cI, i8, i5, XF, fun t ht => ?_⟩
  have o1 : e.platform.arrayLengthLimit = _ := Launch.admits_arrayLengthLimit X.admits
  have o2 : e.platform.maxHeapBytes = _ := Launch.admits_maxHeapBytes X.admits
  jvm_step X.here [hexec, hdg]
  simp only [multianewarray.sem, wp_bind', W.resolveClassAt_links (State.method?_setTop f X.here.top) r1]
  rw [W.popN, if_neg (by decide)]
  refine ⟨f, State.topJava?_setTop' (s := T.setVm v) f X.here.top, [.int n, .int k], rest, rfl, hstack, ?_⟩
  simp only [List.mapM_cons, List.mapM_nil, wp_bind', wp_pure']
  have eS : ((T.setTop f).setVm v).setTop { f with stack := rest } = (T.setVm v).setTop { f with stack := rest } := by
    show ((T.setVm v).setTop f).setTop _ = _
    rw [State.setTop_setTop]
  rw [eS]
  refine mw_make (kA := kA') (kI := kI') (N := N) (M := M) a1 a3 b1 b3 hn hk eN eM (by rw [o1]; omega) (by rw [o2]; show ¬ N * 4 > _; omega) (by rw [o1]; omega) (by rw [o2]; show ¬ M * 4 > _; omega) (by show T.heap.size + 1 + N ≤ _; omega) (by show T.slotsUsed + N + N * M ≤ _; omega) (fun d' acts' => ?_)
  rw [mw_top]
  simp only [wp_bind', W.mark, W.pushRef, State.topJava?_setTop' _ XF.here.top, Option.some.injEq, exists_eq_left', State.setTop_setTop, State.heap_setTop]
  intro acts
  simp [jvm, XF.here.top]
  exact ht
end MWS
