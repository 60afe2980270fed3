section
-- ===== PART A: goes FIRST, ahead of the names: the tables' words, and 'selects' of the private methods out of them =====
/-- a private method of a class that the tables say can be made, by its rows of tables_1 -/
def lw_okq (q : MethodName × Nat) : Prop := (q.1.cls ≠ "java/lang/invoke/MethodHandle" ∧ q.1.cls ≠ "java/lang/invoke/VarHandle") ∧ Cond.instantiable q.1.cls q.2 ∈ tables_1 ∧ Cond.privateMethod q.1 ∈ tables_1 ∧ Cond.instanceMethod q.1 ∈ tables_1
theorem lw_p0 : lw_okq (⟨"JugsAndGlasses", "isAim", "(II)Z"⟩, 3) := ⟨⟨by decide +kernel, by decide +kernel⟩, List.mem_of_getElem? (i := 12) (by decide +kernel), List.mem_of_getElem? (i := 255) (by decide +kernel), List.mem_of_getElem? (i := 256) (by decide +kernel)⟩
theorem lw_p1 : lw_okq (⟨"JugsAndGlasses$Tour", "start", "(II)V"⟩, 4) := ⟨⟨by decide +kernel, by decide +kernel⟩, List.mem_of_getElem? (i := 63) (by decide +kernel), List.mem_of_getElem? (i := 275) (by decide +kernel), List.mem_of_getElem? (i := 276) (by decide +kernel)⟩
theorem lw_p2 : lw_okq (⟨"JugsAndGlasses$Tour", "enter", "(III)V"⟩, 4) := ⟨⟨by decide +kernel, by decide +kernel⟩, List.mem_of_getElem? (i := 63) (by decide +kernel), List.mem_of_getElem? (i := 308) (by decide +kernel), List.mem_of_getElem? (i := 309) (by decide +kernel)⟩
theorem lw_p3 : lw_okq (⟨"JugsAndGlasses$Spilling", "settle", "(LJugsAndGlasses$Jugs;LJugsAndGlasses$Tour;I)I"⟩, 2) := ⟨⟨by decide +kernel, by decide +kernel⟩, List.mem_of_getElem? (i := 89) (by decide +kernel), List.mem_of_getElem? (i := 378) (by decide +kernel), List.mem_of_getElem? (i := 379) (by decide +kernel)⟩
theorem lw_p4 : lw_okq (⟨"JugsAndGlasses$Glasses", "makeRoom", "(I)V"⟩, 12) := ⟨⟨by decide +kernel, by decide +kernel⟩, List.mem_of_getElem? (i := 135) (by decide +kernel), List.mem_of_getElem? (i := 447) (by decide +kernel), List.mem_of_getElem? (i := 448) (by decide +kernel)⟩
theorem lw_p5 : lw_okq (⟨"JugsAndGlasses$Glasses", "listEvents", "()V"⟩, 12) := ⟨⟨by decide +kernel, by decide +kernel⟩, List.mem_of_getElem? (i := 135) (by decide +kernel), List.mem_of_getElem? (i := 451) (by decide +kernel), List.mem_of_getElem? (i := 452) (by decide +kernel)⟩
theorem lw_p6 : lw_okq (⟨"JugsAndGlasses$Glasses", "list", "(I)V"⟩, 12) := ⟨⟨by decide +kernel, by decide +kernel⟩, List.mem_of_getElem? (i := 135) (by decide +kernel), List.mem_of_getElem? (i := 455) (by decide +kernel), List.mem_of_getElem? (i := 456) (by decide +kernel)⟩
theorem lw_p7 : lw_okq (⟨"JugsAndGlasses$Glasses", "leapFrom", "(II)I"⟩, 12) := ⟨⟨by decide +kernel, by decide +kernel⟩, List.mem_of_getElem? (i := 135) (by decide +kernel), List.mem_of_getElem? (i := 459) (by decide +kernel), List.mem_of_getElem? (i := 460) (by decide +kernel)⟩
theorem lw_p8 : lw_okq (⟨"JugsAndGlasses$Glasses", "sandAbove", "(III)I"⟩, 12) := ⟨⟨by decide +kernel, by decide +kernel⟩, List.mem_of_getElem? (i := 135) (by decide +kernel), List.mem_of_getElem? (i := 464) (by decide +kernel), List.mem_of_getElem? (i := 465) (by decide +kernel)⟩
theorem lw_p9 : lw_okq (⟨"JugsAndGlasses$Glasses", "goForth", "()V"⟩, 12) := ⟨⟨by decide +kernel, by decide +kernel⟩, List.mem_of_getElem? (i := 135) (by decide +kernel), List.mem_of_getElem? (i := 471) (by decide +kernel), List.mem_of_getElem? (i := 472) (by decide +kernel)⟩
theorem lw_p10 : lw_okq (⟨"JugsAndGlasses$Glasses", "goOnFrom", "(II)V"⟩, 12) := ⟨⟨by decide +kernel, by decide +kernel⟩, List.mem_of_getElem? (i := 135) (by decide +kernel), List.mem_of_getElem? (i := 476) (by decide +kernel), List.mem_of_getElem? (i := 477) (by decide +kernel)⟩
theorem lw_p11 : lw_okq (⟨"JugsAndGlasses$Glasses", "lookAhead", "(I)V"⟩, 12) := ⟨⟨by decide +kernel, by decide +kernel⟩, List.mem_of_getElem? (i := 135) (by decide +kernel), List.mem_of_getElem? (i := 486) (by decide +kernel), List.mem_of_getElem? (i := 487) (by decide +kernel)⟩
theorem lw_p12 : lw_okq (⟨"JugsAndGlasses$Glasses", "fewestTurned", "(II)I"⟩, 12) := ⟨⟨by decide +kernel, by decide +kernel⟩, List.mem_of_getElem? (i := 135) (by decide +kernel), List.mem_of_getElem? (i := 490) (by decide +kernel), List.mem_of_getElem? (i := 491) (by decide +kernel)⟩
theorem lw_p13 : lw_okq (⟨"JugsAndGlasses$Glasses", "answer", "(I)V"⟩, 12) := ⟨⟨by decide +kernel, by decide +kernel⟩, List.mem_of_getElem? (i := 135) (by decide +kernel), List.mem_of_getElem? (i := 495) (by decide +kernel), List.mem_of_getElem? (i := 496) (by decide +kernel)⟩
theorem lw_p14 : lw_okq (⟨"JugsAndGlassesModel", "isJug", "(I)Z"⟩, 28) := ⟨⟨by decide +kernel, by decide +kernel⟩, List.mem_of_getElem? (i := 519) (by decide +kernel), List.mem_of_getElem? (i := 628) (by decide +kernel), List.mem_of_getElem? (i := 629) (by decide +kernel)⟩
theorem lw_p15 : lw_okq (⟨"JugsAndGlassesModel", "tryOwn", "()V"⟩, 28) := ⟨⟨by decide +kernel, by decide +kernel⟩, List.mem_of_getElem? (i := 519) (by decide +kernel), List.mem_of_getElem? (i := 644) (by decide +kernel), List.mem_of_getElem? (i := 645) (by decide +kernel)⟩
def lw_privs_1 : List (MethodName × Nat) := [(⟨"JugsAndGlasses", "isAim", "(II)Z"⟩, 3), (⟨"JugsAndGlasses$Tour", "start", "(II)V"⟩, 4), (⟨"JugsAndGlasses$Tour", "enter", "(III)V"⟩, 4), (⟨"JugsAndGlasses$Spilling", "settle", "(LJugsAndGlasses$Jugs;LJugsAndGlasses$Tour;I)I"⟩, 2), (⟨"JugsAndGlasses$Glasses", "makeRoom", "(I)V"⟩, 12), (⟨"JugsAndGlasses$Glasses", "listEvents", "()V"⟩, 12), (⟨"JugsAndGlasses$Glasses", "list", "(I)V"⟩, 12), (⟨"JugsAndGlasses$Glasses", "leapFrom", "(II)I"⟩, 12), (⟨"JugsAndGlasses$Glasses", "sandAbove", "(III)I"⟩, 12), (⟨"JugsAndGlasses$Glasses", "goForth", "()V"⟩, 12), (⟨"JugsAndGlasses$Glasses", "goOnFrom", "(II)V"⟩, 12), (⟨"JugsAndGlasses$Glasses", "lookAhead", "(I)V"⟩, 12), (⟨"JugsAndGlasses$Glasses", "fewestTurned", "(II)I"⟩, 12), (⟨"JugsAndGlasses$Glasses", "answer", "(I)V"⟩, 12), (⟨"JugsAndGlassesModel", "isJug", "(I)Z"⟩, 28), (⟨"JugsAndGlassesModel", "tryOwn", "()V"⟩, 28)]
theorem lw_r1 : ∀ q ∈ lw_privs_1, lw_okq q := List.forall_mem_cons.mpr ⟨lw_p0, List.forall_mem_cons.mpr ⟨lw_p1, List.forall_mem_cons.mpr ⟨lw_p2, List.forall_mem_cons.mpr ⟨lw_p3, List.forall_mem_cons.mpr ⟨lw_p4, List.forall_mem_cons.mpr ⟨lw_p5, List.forall_mem_cons.mpr ⟨lw_p6, List.forall_mem_cons.mpr ⟨lw_p7, List.forall_mem_cons.mpr ⟨lw_p8, List.forall_mem_cons.mpr ⟨lw_p9, List.forall_mem_cons.mpr ⟨lw_p10, List.forall_mem_cons.mpr ⟨lw_p11, List.forall_mem_cons.mpr ⟨lw_p12, List.forall_mem_cons.mpr ⟨lw_p13, List.forall_mem_cons.mpr ⟨lw_p14, List.forall_mem_cons.mpr ⟨lw_p15, fun _ h => absurd h List.not_mem_nil⟩⟩⟩⟩⟩⟩⟩⟩⟩⟩⟩⟩⟩⟩⟩⟩
theorem lw_p16 : lw_okq (⟨"JugsAndGlassesModel", "does", "(I)Z"⟩, 28) := ⟨⟨by decide +kernel, by decide +kernel⟩, List.mem_of_getElem? (i := 519) (by decide +kernel), List.mem_of_getElem? (i := 648) (by decide +kernel), List.mem_of_getElem? (i := 649) (by decide +kernel)⟩
theorem lw_p17 : lw_okq (⟨"JugsAndGlassesModel", "isAim", "(II)Z"⟩, 28) := ⟨⟨by decide +kernel, by decide +kernel⟩, List.mem_of_getElem? (i := 519) (by decide +kernel), List.mem_of_getElem? (i := 656) (by decide +kernel), List.mem_of_getElem? (i := 657) (by decide +kernel)⟩
theorem lw_p18 : lw_okq (⟨"JugsAndGlassesModel", "findCosts", "(III)V"⟩, 28) := ⟨⟨by decide +kernel, by decide +kernel⟩, List.mem_of_getElem? (i := 519) (by decide +kernel), List.mem_of_getElem? (i := 660) (by decide +kernel), List.mem_of_getElem? (i := 661) (by decide +kernel)⟩
theorem lw_p19 : lw_okq (⟨"JugsAndGlassesModel", "numberOf", "()I"⟩, 28) := ⟨⟨by decide +kernel, by decide +kernel⟩, List.mem_of_getElem? (i := 519) (by decide +kernel), List.mem_of_getElem? (i := 664) (by decide +kernel), List.mem_of_getElem? (i := 665) (by decide +kernel)⟩
theorem lw_p20 : lw_okq (⟨"JugsAndGlassesModel", "layActs", "()V"⟩, 28) := ⟨⟨by decide +kernel, by decide +kernel⟩, List.mem_of_getElem? (i := 519) (by decide +kernel), List.mem_of_getElem? (i := 668) (by decide +kernel), List.mem_of_getElem? (i := 669) (by decide +kernel)⟩
theorem lw_p21 : lw_okq (⟨"JugsAndGlassesModel", "stateMany", "()I"⟩, 28) := ⟨⟨by decide +kernel, by decide +kernel⟩, List.mem_of_getElem? (i := 519) (by decide +kernel), List.mem_of_getElem? (i := 672) (by decide +kernel), List.mem_of_getElem? (i := 673) (by decide +kernel)⟩
theorem lw_p22 : lw_okq (⟨"JugsAndGlassesModel", "layState", "(I)V"⟩, 28) := ⟨⟨by decide +kernel, by decide +kernel⟩, List.mem_of_getElem? (i := 519) (by decide +kernel), List.mem_of_getElem? (i := 676) (by decide +kernel), List.mem_of_getElem? (i := 677) (by decide +kernel)⟩
theorem lw_p23 : lw_okq (⟨"JugsAndGlassesModel", "isMade", "(III)Z"⟩, 28) := ⟨⟨by decide +kernel, by decide +kernel⟩, List.mem_of_getElem? (i := 519) (by decide +kernel), List.mem_of_getElem? (i := 680) (by decide +kernel), List.mem_of_getElem? (i := 681) (by decide +kernel)⟩
theorem lw_p24 : lw_okq (⟨"JugsAndGlassesModel", "costBy", "(III)I"⟩, 28) := ⟨⟨by decide +kernel, by decide +kernel⟩, List.mem_of_getElem? (i := 519) (by decide +kernel), List.mem_of_getElem? (i := 685) (by decide +kernel), List.mem_of_getElem? (i := 686) (by decide +kernel)⟩
theorem lw_p25 : lw_okq (⟨"JugsAndGlassesModel", "actOf", "(II)I"⟩, 28) := ⟨⟨by decide +kernel, by decide +kernel⟩, List.mem_of_getElem? (i := 519) (by decide +kernel), List.mem_of_getElem? (i := 699) (by decide +kernel), List.mem_of_getElem? (i := 700) (by decide +kernel)⟩
theorem lw_p26 : lw_okq (⟨"JugsAndGlassesModel", "reach", "(I)I"⟩, 28) := ⟨⟨by decide +kernel, by decide +kernel⟩, List.mem_of_getElem? (i := 519) (by decide +kernel), List.mem_of_getElem? (i := 715) (by decide +kernel), List.mem_of_getElem? (i := 716) (by decide +kernel)⟩
theorem lw_p27 : lw_okq (⟨"JugsAndGlassesModel", "madeBy", "(I)I"⟩, 28) := ⟨⟨by decide +kernel, by decide +kernel⟩, List.mem_of_getElem? (i := 519) (by decide +kernel), List.mem_of_getElem? (i := 719) (by decide +kernel), List.mem_of_getElem? (i := 720) (by decide +kernel)⟩
theorem lw_p28 : lw_okq (⟨"JugsAndGlassesModel", "doRise", "()Z"⟩, 28) := ⟨⟨by decide +kernel, by decide +kernel⟩, List.mem_of_getElem? (i := 519) (by decide +kernel), List.mem_of_getElem? (i := 735) (by decide +kernel), List.mem_of_getElem? (i := 736) (by decide +kernel)⟩
theorem lw_p29 : lw_okq (⟨"JugsAndGlassesModel", "makesAll", "(I)Z"⟩, 28) := ⟨⟨by decide +kernel, by decide +kernel⟩, List.mem_of_getElem? (i := 519) (by decide +kernel), List.mem_of_getElem? (i := 739) (by decide +kernel), List.mem_of_getElem? (i := 740) (by decide +kernel)⟩
theorem lw_p30 : lw_okq (⟨"JugsAndGlassesModel", "layGlasses", "()V"⟩, 28) := ⟨⟨by decide +kernel, by decide +kernel⟩, List.mem_of_getElem? (i := 519) (by decide +kernel), List.mem_of_getElem? (i := 755) (by decide +kernel), List.mem_of_getElem? (i := 756) (by decide +kernel)⟩
theorem lw_p31 : lw_okq (⟨"JugsAndGlassesModel", "isState", "(I)Z"⟩, 28) := ⟨⟨by decide +kernel, by decide +kernel⟩, List.mem_of_getElem? (i := 519) (by decide +kernel), List.mem_of_getElem? (i := 759) (by decide +kernel), List.mem_of_getElem? (i := 760) (by decide +kernel)⟩
def lw_privs_2 : List (MethodName × Nat) := [(⟨"JugsAndGlassesModel", "does", "(I)Z"⟩, 28), (⟨"JugsAndGlassesModel", "isAim", "(II)Z"⟩, 28), (⟨"JugsAndGlassesModel", "findCosts", "(III)V"⟩, 28), (⟨"JugsAndGlassesModel", "numberOf", "()I"⟩, 28), (⟨"JugsAndGlassesModel", "layActs", "()V"⟩, 28), (⟨"JugsAndGlassesModel", "stateMany", "()I"⟩, 28), (⟨"JugsAndGlassesModel", "layState", "(I)V"⟩, 28), (⟨"JugsAndGlassesModel", "isMade", "(III)Z"⟩, 28), (⟨"JugsAndGlassesModel", "costBy", "(III)I"⟩, 28), (⟨"JugsAndGlassesModel", "actOf", "(II)I"⟩, 28), (⟨"JugsAndGlassesModel", "reach", "(I)I"⟩, 28), (⟨"JugsAndGlassesModel", "madeBy", "(I)I"⟩, 28), (⟨"JugsAndGlassesModel", "doRise", "()Z"⟩, 28), (⟨"JugsAndGlassesModel", "makesAll", "(I)Z"⟩, 28), (⟨"JugsAndGlassesModel", "layGlasses", "()V"⟩, 28), (⟨"JugsAndGlassesModel", "isState", "(I)Z"⟩, 28)]
theorem lw_r2 : ∀ q ∈ lw_privs_2, lw_okq q := List.forall_mem_cons.mpr ⟨lw_p16, List.forall_mem_cons.mpr ⟨lw_p17, List.forall_mem_cons.mpr ⟨lw_p18, List.forall_mem_cons.mpr ⟨lw_p19, List.forall_mem_cons.mpr ⟨lw_p20, List.forall_mem_cons.mpr ⟨lw_p21, List.forall_mem_cons.mpr ⟨lw_p22, List.forall_mem_cons.mpr ⟨lw_p23, List.forall_mem_cons.mpr ⟨lw_p24, List.forall_mem_cons.mpr ⟨lw_p25, List.forall_mem_cons.mpr ⟨lw_p26, List.forall_mem_cons.mpr ⟨lw_p27, List.forall_mem_cons.mpr ⟨lw_p28, List.forall_mem_cons.mpr ⟨lw_p29, List.forall_mem_cons.mpr ⟨lw_p30, List.forall_mem_cons.mpr ⟨lw_p31, fun _ h => absurd h List.not_mem_nil⟩⟩⟩⟩⟩⟩⟩⟩⟩⟩⟩⟩⟩⟩⟩⟩
theorem lw_p32 : lw_okq (⟨"JugsAndGlassesModel", "after", "(II)I"⟩, 28) := ⟨⟨by decide +kernel, by decide +kernel⟩, List.mem_of_getElem? (i := 519) (by decide +kernel), List.mem_of_getElem? (i := 763) (by decide +kernel), List.mem_of_getElem? (i := 764) (by decide +kernel)⟩
theorem lw_p33 : lw_okq (⟨"JugsAndGlassesModel", "waitOf", "(I)I"⟩, 28) := ⟨⟨by decide +kernel, by decide +kernel⟩, List.mem_of_getElem? (i := 519) (by decide +kernel), List.mem_of_getElem? (i := 770) (by decide +kernel), List.mem_of_getElem? (i := 771) (by decide +kernel)⟩
def lw_privs_3 : List (MethodName × Nat) := [(⟨"JugsAndGlassesModel", "after", "(II)I"⟩, 28), (⟨"JugsAndGlassesModel", "waitOf", "(I)I"⟩, 28)]
theorem lw_r3 : ∀ q ∈ lw_privs_3, lw_okq q := List.forall_mem_cons.mpr ⟨lw_p32, List.forall_mem_cons.mpr ⟨lw_p33, fun _ h => absurd h List.not_mem_nil⟩⟩
def lw_privs : List (MethodName × Nat) := lw_privs_1 ++ (lw_privs_2 ++ (lw_privs_3))
def lw_tbl : List Cond := k2_sels lw_privs ++ tables_1
theorem lw_privs_ok : ∀ q ∈ lw_privs, lw_okq q := by
  show ∀ q ∈ lw_privs_1 ++ (lw_privs_2 ++ (lw_privs_3)), lw_okq q
  exact List.forall_mem_append.mpr ⟨lw_r1, List.forall_mem_append.mpr ⟨lw_r2, lw_r3⟩⟩
-- ===== end of PART A; then your names; then what follows =====
/-! ===== BEGIN words of one list among another's, by their places ===== -/
theorem goodIn_r {big : List Cond} (ws : List Cond) (ps : List Nat) (hp : ws = ps.filterMap (fun i => big[i]?)) (h : ws.all goodWord = true) : GoodIn big ws := by
  intro w hw
  have h1 := List.all_eq_true.mp h w hw
  rw [hp] at hw
  obtain ⟨i, -, hi⟩ := List.mem_filterMap.mp hw
  have hm : w ∈ big := by first | exact List.mem_of_getElem? hi | exact List.getElem?_mem hi
  exact ⟨hm, good_of_word h1⟩
theorem goodIn_app {big a b : List Cond} (ha : GoodIn big a) (hb : GoodIn big b) : GoodIn big (a ++ b) := fun w h => (List.mem_append.mp h).elim (ha w) (hb w)
theorem goodIn_ca {big a b : List Cond} {c : Cond} (ha : GoodIn big (c :: a)) (hb : GoodIn big b) : GoodIn big (c :: (a ++ b)) := fun w h => (List.mem_cons.mp h).elim (fun e => ha w (List.mem_cons.mpr (Or.inl e))) (fun h => (List.mem_append.mp h).elim (fun h => ha w (List.mem_cons.mpr (Or.inr h))) (hb w))
theorem goodIn_sub {big ws : List Cond} (hm : ∀ w ∈ ws, w ∈ big) (h : ws.all goodWord = true) : GoodIn big ws := fun w hw => ⟨hm w hw, good_of_word (List.all_eq_true.mp h w hw)⟩
/-! ===== END ===== -/


/-! ===== BEGIN printed: names, fields, word lists, decode rows ===== -/
def RX0 : String := "JugsAndGlasses$Glasses"
def TX0 : u_T := fun k => match k with
  | 0 => ("JugsAndGlasses$Glasses", "number", "I", false)
  | 1 => ("JugsAndGlasses$Glasses", "span", "[I", true)
  | 2 => ("JugsAndGlasses$Glasses", "waitOf", "[I", true)
  | 3 => ("JugsAndGlasses$Glasses", "turnsOf", "[I", true)
  | 4 => ("JugsAndGlasses$Glasses", "known", "Z", false)
  | 5 => ("JugsAndGlasses$Glasses", "events", "[I", false)
  | 6 => ("JugsAndGlasses$Glasses", "listed", "[Z", false)
  | 7 => ("JugsAndGlasses$Glasses", "listedEvents", "I", false)
  | 8 => ("JugsAndGlasses$Glasses", "leap", "[I", false)
  | 9 => ("JugsAndGlasses$Glasses", "early", "[I", false)
  | 10 => ("JugsAndGlasses$Glasses", "turned", "[I", false)
  | _ => ("JugsAndGlasses$Glasses", "ahead", "[[I", false)
def tyX0 : Nat → FieldType := fun k => match k with
  | 0 => .int
  | 1 => .array .int
  | 2 => .array .int
  | 3 => .array .int
  | 4 => .boolean
  | 5 => .array .int
  | 6 => .array .boolean
  | 7 => .int
  | 8 => .array .int
  | 9 => .array .int
  | 10 => .array .int
  | _ => .array (.array .int)
abbrev wsX00 : List Cond := u_ws RX0 TX0 12
theorem nmX0 : ∀ a, a < 12 → ∀ b, b < 12 → a ≠ b → (TX0 a).2.1 ≠ (TX0 b).2.1 := by decide +kernel
theorem tyX0_ok : ∀ k, k < 12 → parseFieldDescriptor (TX0 k).2.2.1 = some (tyX0 k) := by decide +kernel
abbrev cX0_init : ByteArray := prog_2_method_1_code
def yX0_init : MethodName := ⟨RX0, "<init>", "()V"⟩
abbrev cX0_add : ByteArray := prog_2_method_2_code
def yX0_add : MethodName := ⟨RX0, "add", "(I)I"⟩
abbrev cX0_removeAll : ByteArray := prog_2_method_3_code
def yX0_removeAll : MethodName := ⟨RX0, "removeAll", "()I"⟩
abbrev cX0_workOut : ByteArray := prog_2_method_4_code
def yX0_workOut : MethodName := ⟨RX0, "workOut", "()V"⟩
abbrev cX0_makeRoom : ByteArray := prog_2_method_5_code
def yX0_makeRoom : MethodName := ⟨RX0, "makeRoom", "(I)V"⟩
abbrev cX0_listEvents : ByteArray := prog_2_method_6_code
def yX0_listEvents : MethodName := ⟨RX0, "listEvents", "()V"⟩
abbrev cX0_list : ByteArray := prog_2_method_7_code
def yX0_list : MethodName := ⟨RX0, "list", "(I)V"⟩
abbrev cX0_leapFrom : ByteArray := prog_2_method_8_code
def yX0_leapFrom : MethodName := ⟨RX0, "leapFrom", "(II)I"⟩
abbrev cX0_sandAbove : ByteArray := prog_2_method_9_code
def yX0_sandAbove : MethodName := ⟨RX0, "sandAbove", "(III)I"⟩
abbrev cX0_goForth : ByteArray := prog_2_method_10_code
def yX0_goForth : MethodName := ⟨RX0, "goForth", "()V"⟩
abbrev cX0_goOnFrom : ByteArray := prog_2_method_11_code
def yX0_goOnFrom : MethodName := ⟨RX0, "goOnFrom", "(II)V"⟩
abbrev cX0_lookAhead : ByteArray := prog_2_method_12_code
def yX0_lookAhead : MethodName := ⟨RX0, "lookAhead", "(I)V"⟩
abbrev cX0_fewestTurned : ByteArray := prog_2_method_13_code
def yX0_fewestTurned : MethodName := ⟨RX0, "fewestTurned", "(II)I"⟩
abbrev cX0_answer : ByteArray := prog_2_method_14_code
def yX0_answer : MethodName := ⟨RX0, "answer", "(I)V"⟩
def RX1 : String := "JugsAndGlasses$Jugs"
def TX1 : u_T := fun k => match k with
  | 0 => ("JugsAndGlasses$Jugs", "number", "I", false)
  | 1 => ("JugsAndGlasses$Jugs", "codes", "I", false)
  | 2 => ("JugsAndGlasses$Jugs", "tap", "Z", false)
  | 3 => ("JugsAndGlasses$Jugs", "drain", "Z", false)
  | 4 => ("JugsAndGlasses$Jugs", "size", "[I", true)
  | 5 => ("JugsAndGlasses$Jugs", "held", "[I", true)
  | _ => ("JugsAndGlasses$Jugs", "weight", "[I", true)
def tyX1 : Nat → FieldType := fun k => match k with
  | 0 => .int
  | 1 => .int
  | 2 => .boolean
  | 3 => .boolean
  | 4 => .array .int
  | 5 => .array .int
  | _ => .array .int
abbrev wsX10 : List Cond := u_ws RX1 TX1 7
theorem nmX1 : ∀ a, a < 7 → ∀ b, b < 7 → a ≠ b → (TX1 a).2.1 ≠ (TX1 b).2.1 := by decide +kernel
theorem tyX1_ok : ∀ k, k < 7 → parseFieldDescriptor (TX1 k).2.2.1 = some (tyX1 k) := by decide +kernel
abbrev cX1_init : ByteArray := prog_3_method_1_code
def yX1_init : MethodName := ⟨RX1, "<init>", "()V"⟩
abbrev cX1_has : ByteArray := prog_3_method_2_code
def yX1_has : MethodName := ⟨RX1, "has", "(I)Z"⟩
abbrev cX1_add : ByteArray := prog_3_method_3_code
def yX1_add : MethodName := ⟨RX1, "add", "(II)I"⟩
abbrev cX1_removeAll : ByteArray := prog_3_method_4_code
def yX1_removeAll : MethodName := ⟨RX1, "removeAll", "()I"⟩
abbrev cX1_liken : ByteArray := prog_3_method_5_code
def yX1_liken : MethodName := ⟨RX1, "liken", "(LJugsAndGlasses$Jugs;)V"⟩
abbrev cX1_haveAct : ByteArray := prog_3_method_6_code
def yX1_haveAct : MethodName := ⟨RX1, "haveAct", "(I)Z"⟩
abbrev cX1_moved : ByteArray := prog_3_method_7_code
def yX1_moved : MethodName := ⟨RX1, "moved", "(I)I"⟩
abbrev cX1_move : ByteArray := prog_3_method_8_code
def yX1_move : MethodName := ⟨RX1, "move", "(II)V"⟩
abbrev cX1_shiftBy : ByteArray := prog_3_method_9_code
def yX1_shiftBy : MethodName := ⟨RX1, "shiftBy", "(I)I"⟩
abbrev cX1_spiltBy : ByteArray := prog_3_method_10_code
def yX1_spiltBy : MethodName := ⟨RX1, "spiltBy", "(I)I"⟩
abbrev cX1_code : ByteArray := prog_3_method_11_code
def yX1_code : MethodName := ⟨RX1, "code", "()I"⟩
abbrev cX1_stand : ByteArray := prog_3_method_12_code
def yX1_stand : MethodName := ⟨RX1, "stand", "(I)V"⟩
abbrev cX1_meet : ByteArray := prog_3_method_13_code
def yX1_meet : MethodName := ⟨RX1, "meet", "(II)Z"⟩
abbrev cX1_heldTogether : ByteArray := prog_3_method_14_code
def yX1_heldTogether : MethodName := ⟨RX1, "heldTogether", "()I"⟩
abbrev cX1_actsNow : ByteArray := prog_3_method_15_code
def yX1_actsNow : MethodName := ⟨RX1, "actsNow", "()I"⟩
def RX2 : String := "JugsAndGlasses$Search"
def TX2 : u_T := fun k => match k with
  | 0 => ("JugsAndGlasses$Search", "jugs", "LJugsAndGlasses$Jugs;", true)
  | 1 => ("JugsAndGlasses$Search", "trial", "LJugsAndGlasses$Jugs;", true)
  | 2 => ("JugsAndGlasses$Search", "all", "LJugsAndGlasses$Tour;", true)
  | 3 => ("JugsAndGlasses$Search", "thrifty", "LJugsAndGlasses$Tour;", true)
  | 4 => ("JugsAndGlasses$Search", "spilling", "LJugsAndGlasses$Spilling;", true)
  | 5 => ("JugsAndGlasses$Search", "ways", "[J", false)
  | 6 => ("JugsAndGlasses$Search", "explored", "Z", false)
  | 7 => ("JugsAndGlasses$Search", "counted", "Z", false)
  | _ => ("JugsAndGlasses$Search", "exploredSparing", "Z", false)
def tyX2 : Nat → FieldType := fun k => match k with
  | 0 => .object "JugsAndGlasses$Jugs"
  | 1 => .object "JugsAndGlasses$Jugs"
  | 2 => .object "JugsAndGlasses$Tour"
  | 3 => .object "JugsAndGlasses$Tour"
  | 4 => .object "JugsAndGlasses$Spilling"
  | 5 => .array .long
  | 6 => .boolean
  | 7 => .boolean
  | _ => .boolean
abbrev wsX20 : List Cond := u_ws RX2 TX2 9
theorem nmX2 : ∀ a, a < 9 → ∀ b, b < 9 → a ≠ b → (TX2 a).2.1 ≠ (TX2 b).2.1 := by decide +kernel
theorem tyX2_ok : ∀ k, k < 9 → parseFieldDescriptor (TX2 k).2.2.1 = some (tyX2 k) := by decide +kernel
abbrev cX2_init : ByteArray := prog_4_method_1_code
def yX2_init : MethodName := ⟨RX2, "<init>", "()V"⟩
abbrev cX2_forget : ByteArray := prog_4_method_2_code
def yX2_forget : MethodName := ⟨RX2, "forget", "()V"⟩
abbrev cX2_explore : ByteArray := prog_4_method_3_code
def yX2_explore : MethodName := ⟨RX2, "explore", "()V"⟩
abbrev cX2_exploreSparing : ByteArray := prog_4_method_4_code
def yX2_exploreSparing : MethodName := ⟨RX2, "exploreSparing", "()V"⟩
abbrev cX2_countWays : ByteArray := prog_4_method_5_code
def yX2_countWays : MethodName := ⟨RX2, "countWays", "()V"⟩
abbrev cX2_nearest : ByteArray := prog_4_method_6_code
def yX2_nearest : MethodName := ⟨RX2, "nearest", "(II)I"⟩
abbrev cX2_thriftiest : ByteArray := prog_4_method_7_code
def yX2_thriftiest : MethodName := ⟨RX2, "thriftiest", "(II)I"⟩
abbrev cX2_waysTo : ByteArray := prog_4_method_8_code
def yX2_waysTo : MethodName := ⟨RX2, "waysTo", "(II)J"⟩
abbrev cX2_allHeld : ByteArray := prog_4_method_9_code
def yX2_allHeld : MethodName := ⟨RX2, "allHeld", "()I"⟩
def RX3 : String := "JugsAndGlasses$Spilling"
def TX3 : u_T := fun k => match k with
  | 0 => ("JugsAndGlasses$Spilling", "least", "[I", false)
  | _ => ("JugsAndGlasses$Spilling", "work", "[I", false)
def tyX3 : Nat → FieldType := fun k => match k with
  | 0 => .array .int
  | _ => .array .int
abbrev wsX30 : List Cond := u_ws RX3 TX3 2
theorem nmX3 : ∀ a, a < 2 → ∀ b, b < 2 → a ≠ b → (TX3 a).2.1 ≠ (TX3 b).2.1 := by decide +kernel
theorem tyX3_ok : ∀ k, k < 2 → parseFieldDescriptor (TX3 k).2.2.1 = some (tyX3 k) := by decide +kernel
abbrev cX3_init : ByteArray := prog_5_method_1_code
def yX3_init : MethodName := ⟨RX3, "<init>", "()V"⟩
abbrev cX3_measure : ByteArray := prog_5_method_2_code
def yX3_measure : MethodName := ⟨RX3, "measure", "(LJugsAndGlasses$Jugs;LJugsAndGlasses$Tour;)V"⟩
abbrev cX3_settle : ByteArray := prog_5_method_3_code
def yX3_settle : MethodName := ⟨RX3, "settle", "(LJugsAndGlasses$Jugs;LJugsAndGlasses$Tour;I)I"⟩
abbrev cX3_isLeast : ByteArray := prog_5_method_4_code
def yX3_isLeast : MethodName := ⟨RX3, "isLeast", "(III)Z"⟩
abbrev cX3_leastFor : ByteArray := prog_5_method_5_code
def yX3_leastFor : MethodName := ⟨RX3, "leastFor", "(I)I"⟩
def RX4 : String := "JugsAndGlasses$Tour"
def TX4 : u_T := fun k => match k with
  | 0 => ("JugsAndGlasses$Tour", "found", "[I", false)
  | 1 => ("JugsAndGlasses$Tour", "level", "[I", false)
  | 2 => ("JugsAndGlasses$Tour", "cause", "[I", false)
  | _ => ("JugsAndGlasses$Tour", "reached", "I", false)
def tyX4 : Nat → FieldType := fun k => match k with
  | 0 => .array .int
  | 1 => .array .int
  | 2 => .array .int
  | _ => .int
abbrev wsX40 : List Cond := u_ws RX4 TX4 4
theorem nmX4 : ∀ a, a < 4 → ∀ b, b < 4 → a ≠ b → (TX4 a).2.1 ≠ (TX4 b).2.1 := by decide +kernel
theorem tyX4_ok : ∀ k, k < 4 → parseFieldDescriptor (TX4 k).2.2.1 = some (tyX4 k) := by decide +kernel
abbrev cX4_init : ByteArray := prog_6_method_1_code
def yX4_init : MethodName := ⟨RX4, "<init>", "()V"⟩
abbrev cX4_knows : ByteArray := prog_6_method_2_code
def yX4_knows : MethodName := ⟨RX4, "knows", "(I)Z"⟩
abbrev cX4_start : ByteArray := prog_6_method_3_code
def yX4_start : MethodName := ⟨RX4, "start", "(II)V"⟩
abbrev cX4_explore : ByteArray := prog_6_method_4_code
def yX4_explore : MethodName := ⟨RX4, "explore", "(LJugsAndGlasses$Jugs;LJugsAndGlasses$Spilling;)V"⟩
abbrev cX4_enter : ByteArray := prog_6_method_5_code
def yX4_enter : MethodName := ⟨RX4, "enter", "(III)V"⟩
abbrev cX4_acts : ByteArray := prog_6_method_6_code
def yX4_acts : MethodName := ⟨RX4, "acts", "(I)I"⟩
abbrev cX4_actOfRow : ByteArray := prog_6_method_7_code
def yX4_actOfRow : MethodName := ⟨RX4, "actOfRow", "(II)I"⟩
def RX5 : String := "JugsAndGlasses"
def TX5 : u_T := fun k => match k with
  | 0 => ("JugsAndGlasses", "jugs", "LJugsAndGlasses$Jugs;", true)
  | 1 => ("JugsAndGlasses", "search", "LJugsAndGlasses$Search;", true)
  | _ => ("JugsAndGlasses", "glasses", "LJugsAndGlasses$Glasses;", true)
def tyX5 : Nat → FieldType := fun k => match k with
  | 0 => .object "JugsAndGlasses$Jugs"
  | 1 => .object "JugsAndGlasses$Search"
  | _ => .object "JugsAndGlasses$Glasses"
abbrev wsX50 : List Cond := u_ws RX5 TX5 3
theorem nmX5 : ∀ a, a < 3 → ∀ b, b < 3 → a ≠ b → (TX5 a).2.1 ≠ (TX5 b).2.1 := by decide +kernel
theorem tyX5_ok : ∀ k, k < 3 → parseFieldDescriptor (TX5 k).2.2.1 = some (tyX5 k) := by decide +kernel
abbrev cX5_init : ByteArray := prog_1_method_1_code
def yX5_init : MethodName := ⟨RX5, "<init>", "()V"⟩
abbrev cX5_jug : ByteArray := prog_1_method_2_code
def yX5_jug : MethodName := ⟨RX5, "jug", "(II)I"⟩
abbrev cX5_set : ByteArray := prog_1_method_3_code
def yX5_set : MethodName := ⟨RX5, "set", "(IZ)I"⟩
abbrev cX5_put : ByteArray := prog_1_method_4_code
def yX5_put : MethodName := ⟨RX5, "put", "(II)I"⟩
abbrev cX5_holds : ByteArray := prog_1_method_5_code
def yX5_holds : MethodName := ⟨RX5, "holds", "(I)I"⟩
abbrev cX5_act : ByteArray := prog_1_method_6_code
def yX5_act : MethodName := ⟨RX5, "act", "(I)I"⟩
abbrev cX5_clear : ByteArray := prog_1_method_7_code
def yX5_clear : MethodName := ⟨RX5, "clear", "()I"⟩
abbrev cX5_fewest : ByteArray := prog_1_method_8_code
def yX5_fewest : MethodName := ⟨RX5, "fewest", "(II)I"⟩
abbrev cX5_rows : ByteArray := prog_1_method_9_code
def yX5_rows : MethodName := ⟨RX5, "rows", "(II)J"⟩
abbrev cX5_best : ByteArray := prog_1_method_10_code
def yX5_best : MethodName := ⟨RX5, "best", "(III)I"⟩
abbrev cX5_sparing : ByteArray := prog_1_method_11_code
def yX5_sparing : MethodName := ⟨RX5, "sparing", "(III)I"⟩
abbrev cX5_spare : ByteArray := prog_1_method_12_code
def yX5_spare : MethodName := ⟨RX5, "spare", "(III)I"⟩
abbrev cX5_makes : ByteArray := prog_1_method_13_code
def yX5_makes : MethodName := ⟨RX5, "makes", "()I"⟩
abbrev cX5_reaches : ByteArray := prog_1_method_14_code
def yX5_reaches : MethodName := ⟨RX5, "reaches", "()I"⟩
abbrev cX5_road : ByteArray := prog_1_method_15_code
def yX5_road : MethodName := ⟨RX5, "road", "(II)I"⟩
abbrev cX5_sizes : ByteArray := prog_1_method_16_code
def yX5_sizes : MethodName := ⟨RX5, "sizes", "(III)I"⟩
abbrev cX5_glass : ByteArray := prog_1_method_17_code
def yX5_glass : MethodName := ⟨RX5, "glass", "(I)I"⟩
abbrev cX5_smash : ByteArray := prog_1_method_18_code
def yX5_smash : MethodName := ⟨RX5, "smash", "()I"⟩
abbrev cX5_await : ByteArray := prog_1_method_19_code
def yX5_await : MethodName := ⟨RX5, "await", "(I)I"⟩
abbrev cX5_turns : ByteArray := prog_1_method_20_code
def yX5_turns : MethodName := ⟨RX5, "turns", "(I)I"⟩
abbrev cX5_spans : ByteArray := prog_1_method_21_code
def yX5_spans : MethodName := ⟨RX5, "spans", "(I)J"⟩
abbrev cX5_count : ByteArray := prog_1_method_22_code
def yX5_count : MethodName := ⟨RX5, "count", "(I)I"⟩
abbrev cX5_isAim : ByteArray := prog_1_method_23_code
def yX5_isAim : MethodName := ⟨RX5, "isAim", "(II)Z"⟩
abbrev cX5_actsOfRoad : ByteArray := prog_1_method_24_code
def yX5_actsOfRoad : MethodName := ⟨RX5, "actsOfRoad", "(III)I"⟩
abbrev cX5_lengthFor : ByteArray := prog_1_method_25_code
def yX5_lengthFor : MethodName := ⟨RX5, "lengthFor", "(II)I"⟩
def RX6 : String := "JugsAndGlassesModel"
def TX6 : u_T := fun k => match k with
  | 0 => ("JugsAndGlassesModel", "jugs", "I", false)
  | 1 => ("JugsAndGlassesModel", "size", "[I", true)
  | 2 => ("JugsAndGlassesModel", "held", "[I", true)
  | 3 => ("JugsAndGlassesModel", "hasTap", "Z", false)
  | 4 => ("JugsAndGlassesModel", "hasDrain", "Z", false)
  | 5 => ("JugsAndGlassesModel", "glasses", "I", false)
  | 6 => ("JugsAndGlassesModel", "span", "[I", true)
  | 7 => ("JugsAndGlassesModel", "tried", "I", false)
  | 8 => ("JugsAndGlassesModel", "room", "[I", true)
  | 9 => ("JugsAndGlassesModel", "has", "[I", true)
  | 10 => ("JugsAndGlassesModel", "tap", "Z", false)
  | 11 => ("JugsAndGlassesModel", "drain", "Z", false)
  | 12 => ("JugsAndGlassesModel", "moved", "I", false)
  | 13 => ("JugsAndGlassesModel", "spilt", "I", false)
  | 14 => ("JugsAndGlassesModel", "next", "[I", true)
  | 15 => ("JugsAndGlassesModel", "spills", "[I", true)
  | 16 => ("JugsAndGlassesModel", "costs", "[I", true)
  | 17 => ("JugsAndGlassesModel", "start", "I", false)
  | 18 => ("JugsAndGlassesModel", "rows", "[J", true)
  | 19 => ("JugsAndGlassesModel", "isReached", "[Z", true)
  | 20 => ("JugsAndGlassesModel", "queue", "[I", true)
  | 21 => ("JugsAndGlassesModel", "gone", "I", false)
  | 22 => ("JugsAndGlassesModel", "turned", "I", false)
  | 23 => ("JugsAndGlassesModel", "comes", "[I", true)
  | 24 => ("JugsAndGlassesModel", "takes", "[I", true)
  | 25 => ("JugsAndGlassesModel", "ahead", "[I", true)
  | 26 => ("JugsAndGlassesModel", "behind", "[I", true)
  | _ => ("JugsAndGlassesModel", "fewestTurns", "I", false)
def tyX6 : Nat → FieldType := fun k => match k with
  | 0 => .int
  | 1 => .array .int
  | 2 => .array .int
  | 3 => .boolean
  | 4 => .boolean
  | 5 => .int
  | 6 => .array .int
  | 7 => .int
  | 8 => .array .int
  | 9 => .array .int
  | 10 => .boolean
  | 11 => .boolean
  | 12 => .int
  | 13 => .int
  | 14 => .array .int
  | 15 => .array .int
  | 16 => .array .int
  | 17 => .int
  | 18 => .array .long
  | 19 => .array .boolean
  | 20 => .array .int
  | 21 => .int
  | 22 => .int
  | 23 => .array .int
  | 24 => .array .int
  | 25 => .array .int
  | 26 => .array .int
  | _ => .int
abbrev wsX60 : List Cond := u_ws RX6 TX6 28
theorem nmX6 : ∀ a, a < 28 → ∀ b, b < 28 → a ≠ b → (TX6 a).2.1 ≠ (TX6 b).2.1 := by decide +kernel
theorem tyX6_ok : ∀ k, k < 28 → parseFieldDescriptor (TX6 k).2.2.1 = some (tyX6 k) := by decide +kernel
abbrev cX6_init : ByteArray := prog_8_method_1_code
def yX6_init : MethodName := ⟨RX6, "<init>", "()V"⟩
abbrev cX6_in : ByteArray := prog_8_method_2_code
def yX6_in : MethodName := ⟨RX6, "in", "(III)Z"⟩
abbrev cX6_isJug : ByteArray := prog_8_method_3_code
def yX6_isJug : MethodName := ⟨RX6, "isJug", "(I)Z"⟩
abbrev cX6_jug : ByteArray := prog_8_method_4_code
def yX6_jug : MethodName := ⟨RX6, "jug", "(II)I"⟩
abbrev cX6_set : ByteArray := prog_8_method_5_code
def yX6_set : MethodName := ⟨RX6, "set", "(IZ)I"⟩
abbrev cX6_put : ByteArray := prog_8_method_6_code
def yX6_put : MethodName := ⟨RX6, "put", "(II)I"⟩
abbrev cX6_holds : ByteArray := prog_8_method_7_code
def yX6_holds : MethodName := ⟨RX6, "holds", "(I)I"⟩
abbrev cX6_clear : ByteArray := prog_8_method_8_code
def yX6_clear : MethodName := ⟨RX6, "clear", "()I"⟩
abbrev cX6_tryOwn : ByteArray := prog_8_method_9_code
def yX6_tryOwn : MethodName := ⟨RX6, "tryOwn", "()V"⟩
abbrev cX6_numberOf : ByteArray := prog_8_method_10_code
def yX6_numberOf : MethodName := ⟨RX6, "numberOf", "()I"⟩
abbrev cX6_stateMany : ByteArray := prog_8_method_11_code
def yX6_stateMany : MethodName := ⟨RX6, "stateMany", "()I"⟩
abbrev cX6_layState : ByteArray := prog_8_method_12_code
def yX6_layState : MethodName := ⟨RX6, "layState", "(I)V"⟩
abbrev cX6_does : ByteArray := prog_8_method_13_code
def yX6_does : MethodName := ⟨RX6, "does", "(I)Z"⟩
abbrev cX6_act : ByteArray := prog_8_method_14_code
def yX6_act : MethodName := ⟨RX6, "act", "(I)I"⟩
abbrev cX6_layActs : ByteArray := prog_8_method_15_code
def yX6_layActs : MethodName := ⟨RX6, "layActs", "()V"⟩
abbrev cX6_isMade : ByteArray := prog_8_method_16_code
def yX6_isMade : MethodName := ⟨RX6, "isMade", "(III)Z"⟩
abbrev cX6_costBy : ByteArray := prog_8_method_17_code
def yX6_costBy : MethodName := ⟨RX6, "costBy", "(III)I"⟩
abbrev cX6_findCosts : ByteArray := prog_8_method_18_code
def yX6_findCosts : MethodName := ⟨RX6, "findCosts", "(III)V"⟩
abbrev cX6_isAim : ByteArray := prog_8_method_19_code
def yX6_isAim : MethodName := ⟨RX6, "isAim", "(II)Z"⟩
abbrev cX6_actOf : ByteArray := prog_8_method_20_code
def yX6_actOf : MethodName := ⟨RX6, "actOf", "(II)I"⟩
abbrev cX6_fewest : ByteArray := prog_8_method_21_code
def yX6_fewest : MethodName := ⟨RX6, "fewest", "(II)I"⟩
abbrev cX6_rows : ByteArray := prog_8_method_22_code
def yX6_rows : MethodName := ⟨RX6, "rows", "(II)J"⟩
abbrev cX6_best : ByteArray := prog_8_method_23_code
def yX6_best : MethodName := ⟨RX6, "best", "(III)I"⟩
abbrev cX6_sparing : ByteArray := prog_8_method_24_code
def yX6_sparing : MethodName := ⟨RX6, "sparing", "(III)I"⟩
abbrev cX6_spare : ByteArray := prog_8_method_25_code
def yX6_spare : MethodName := ⟨RX6, "spare", "(III)I"⟩
abbrev cX6_reach : ByteArray := prog_8_method_26_code
def yX6_reach : MethodName := ⟨RX6, "reach", "(I)I"⟩
abbrev cX6_madeBy : ByteArray := prog_8_method_27_code
def yX6_madeBy : MethodName := ⟨RX6, "madeBy", "(I)I"⟩
abbrev cX6_makes : ByteArray := prog_8_method_28_code
def yX6_makes : MethodName := ⟨RX6, "makes", "()I"⟩
abbrev cX6_reaches : ByteArray := prog_8_method_29_code
def yX6_reaches : MethodName := ⟨RX6, "reaches", "()I"⟩
abbrev cX6_road : ByteArray := prog_8_method_30_code
def yX6_road : MethodName := ⟨RX6, "road", "(II)I"⟩
abbrev cX6_makesAll : ByteArray := prog_8_method_31_code
def yX6_makesAll : MethodName := ⟨RX6, "makesAll", "(I)Z"⟩
abbrev cX6_doRise : ByteArray := prog_8_method_32_code
def yX6_doRise : MethodName := ⟨RX6, "doRise", "()Z"⟩
abbrev cX6_sizes : ByteArray := prog_8_method_33_code
def yX6_sizes : MethodName := ⟨RX6, "sizes", "(III)I"⟩
abbrev cX6_glass : ByteArray := prog_8_method_34_code
def yX6_glass : MethodName := ⟨RX6, "glass", "(I)I"⟩
abbrev cX6_smash : ByteArray := prog_8_method_35_code
def yX6_smash : MethodName := ⟨RX6, "smash", "()I"⟩
abbrev cX6_after : ByteArray := prog_8_method_36_code
def yX6_after : MethodName := ⟨RX6, "after", "(II)I"⟩
abbrev cX6_isState : ByteArray := prog_8_method_37_code
def yX6_isState : MethodName := ⟨RX6, "isState", "(I)Z"⟩
abbrev cX6_ones : ByteArray := prog_8_method_38_code
def yX6_ones : MethodName := ⟨RX6, "ones", "(I)I"⟩
abbrev cX6_layGlasses : ByteArray := prog_8_method_39_code
def yX6_layGlasses : MethodName := ⟨RX6, "layGlasses", "()V"⟩
abbrev cX6_waitOf : ByteArray := prog_8_method_40_code
def yX6_waitOf : MethodName := ⟨RX6, "waitOf", "(I)I"⟩
abbrev cX6_await : ByteArray := prog_8_method_41_code
def yX6_await : MethodName := ⟨RX6, "await", "(I)I"⟩
abbrev cX6_turns : ByteArray := prog_8_method_42_code
def yX6_turns : MethodName := ⟨RX6, "turns", "(I)I"⟩
abbrev cX6_spans : ByteArray := prog_8_method_43_code
def yX6_spans : MethodName := ⟨RX6, "spans", "(I)J"⟩
abbrev cX6_count : ByteArray := prog_8_method_44_code
def yX6_count : MethodName := ⟨RX6, "count", "(I)I"⟩
def RJ6 : String := "java/lang/Integer"
def TJ6 : u_T := fun k => match k with
  | _ => ("", "", "", false)
def tyJ6 : Nat → FieldType := fun k => match k with
  | _ => .int
abbrev wsJ60 : List Cond := u_ws RJ6 TJ6 0
theorem nmJ6 : ∀ a, a < 0 → ∀ b, b < 0 → a ≠ b → (TJ6 a).2.1 ≠ (TJ6 b).2.1 := by decide +kernel
theorem tyJ6_ok : ∀ k, k < 0 → parseFieldDescriptor (TJ6 k).2.2.1 = some (tyJ6 k) := by decide +kernel
abbrev cJ6_bitCount_0f7a4 : ByteArray := prog_9_method_49_code
def yJ6_bitCount_0f7a4 : MethodName := ⟨RJ6, "bitCount", "(I)I"⟩
def RJ9 : String := "java/lang/Math"
def TJ9 : u_T := fun k => match k with
  | _ => ("", "", "", false)
def tyJ9 : Nat → FieldType := fun k => match k with
  | _ => .int
abbrev wsJ90 : List Cond := u_ws RJ9 TJ9 0
theorem nmJ9 : ∀ a, a < 0 → ∀ b, b < 0 → a ≠ b → (TJ9 a).2.1 ≠ (TJ9 b).2.1 := by decide +kernel
theorem tyJ9_ok : ∀ k, k < 0 → parseFieldDescriptor (TJ9 k).2.2.1 = some (tyJ9 k) := by decide +kernel
abbrev cJ9_max_7cf53 : ByteArray := prog_10_method_65_code
def yJ9_max_7cf53 : MethodName := ⟨RJ9, "max", "(II)I"⟩
abbrev cJ9_min_7cf53 : ByteArray := prog_10_method_69_code
def yJ9_min_7cf53 : MethodName := ⟨RJ9, "min", "(II)I"⟩
abbrev cJ9_min_f86c9 : ByteArray := prog_10_method_70_code
def yJ9_min_f86c9 : MethodName := ⟨RJ9, "min", "(JJ)J"⟩
def RJ7 : String := "java/util/Arrays"
def TJ7 : u_T := fun k => match k with
  | _ => ("", "", "", false)
def tyJ7 : Nat → FieldType := fun k => match k with
  | _ => .int
abbrev wsJ70 : List Cond := u_ws RJ7 TJ7 0
theorem nmJ7 : ∀ a, a < 0 → ∀ b, b < 0 → a ≠ b → (TJ7 a).2.1 ≠ (TJ7 b).2.1 := by decide +kernel
theorem tyJ7_ok : ∀ k, k < 0 → parseFieldDescriptor (TJ7 k).2.2.1 = some (tyJ7 k) := by decide +kernel
abbrev cJ7_fill_d0a16 : ByteArray := prog_11_method_101_code
def yJ7_fill_d0a16 : MethodName := ⟨RJ7, "fill", "([JJ)V"⟩
abbrev cJ7_fill_53178 : ByteArray := prog_11_method_103_code
def yJ7_fill_53178 : MethodName := ⟨RJ7, "fill", "([II)V"⟩
def RL : String := "JugsAndGlassesLaw"
abbrev cL_law : ByteArray := code
def yL_law : MethodName := ⟨RL, "law", "([I)Z"⟩
def wsX0_init : List Cond := .code yX0_init cX0_init 1 none :: ([.methodLink RX0 3 objectInit, .instanceMethod objectInit, .code objectInit ⟨#[0xb1]⟩ 1 none, .fieldLink RX0 9 "JugsAndGlasses$Glasses" "number" "I", .arrayClass .int, .fieldLink RX0 15 "JugsAndGlasses$Glasses" "span" "[I", .fieldLink RX0 19 "JugsAndGlasses$Glasses" "waitOf" "[I", .fieldLink RX0 22 "JugsAndGlasses$Glasses" "turnsOf" "[I", .fieldLink RX0 25 "JugsAndGlasses$Glasses" "known" "Z", .fieldLink RX0 29 "JugsAndGlasses$Glasses" "events" "[I", .arrayClass .boolean, .fieldLink RX0 32 "JugsAndGlasses$Glasses" "listed" "[Z", .fieldLink RX0 36 "JugsAndGlasses$Glasses" "listedEvents" "I", .fieldLink RX0 39 "JugsAndGlasses$Glasses" "leap" "[I", .fieldLink RX0 42 "JugsAndGlasses$Glasses" "early" "[I", .fieldLink RX0 45 "JugsAndGlasses$Glasses" "turned" "[I", .classLink RX0 48 "[[I", .fieldLink RX0 50 "JugsAndGlasses$Glasses" "ahead" "[[I"] ++ wsX00)
def wsX0_add : List Cond := .code yX0_add cX0_add 2 (some .int) :: ([.fieldLink RX0 9 "JugsAndGlasses$Glasses" "number" "I", .fieldLink RX0 15 "JugsAndGlasses$Glasses" "span" "[I", .fieldLink RX0 25 "JugsAndGlasses$Glasses" "known" "Z"] ++ wsX00)
def wsX0_removeAll : List Cond := .code yX0_removeAll cX0_removeAll 2 (some .int) :: ([.fieldLink RX0 9 "JugsAndGlasses$Glasses" "number" "I", .fieldLink RX0 25 "JugsAndGlasses$Glasses" "known" "Z"] ++ wsX00)
def wsX0_makeRoom : List Cond := .code yX0_makeRoom cX0_makeRoom 3 none :: ([.fieldLink RX0 29 "JugsAndGlasses$Glasses" "events" "[I", .arrayClass .int, .arrayClass .boolean, .fieldLink RX0 32 "JugsAndGlasses$Glasses" "listed" "[Z", .fieldLink RX0 39 "JugsAndGlasses$Glasses" "leap" "[I", .fieldLink RX0 42 "JugsAndGlasses$Glasses" "early" "[I", .fieldLink RX0 45 "JugsAndGlasses$Glasses" "turned" "[I", .classLink RX0 48 "[[I", .fieldLink RX0 50 "JugsAndGlasses$Glasses" "ahead" "[[I", .fieldLink RX0 36 "JugsAndGlasses$Glasses" "listedEvents" "I"] ++ wsX00)
def wsX0_list : List Cond := .code yX0_list cX0_list 2 none :: ([.fieldLink RX0 32 "JugsAndGlasses$Glasses" "listed" "[Z", .fieldLink RX0 36 "JugsAndGlasses$Glasses" "listedEvents" "I", .fieldLink RX0 29 "JugsAndGlasses$Glasses" "events" "[I"] ++ wsX00)
def wsX0_sandAbove : List Cond := .code yX0_sandAbove cX0_sandAbove 6 (some .int) :: ([.fieldLink RX0 15 "JugsAndGlasses$Glasses" "span" "[I"] ++ wsX00)
def wsX0_leapFrom : List Cond := .code yX0_leapFrom cX0_leapFrom 6 (some .int) :: ([.constant RX0 79 (1000000), .fieldLink RX0 9 "JugsAndGlasses$Glasses" "number" "I", .methodLink RX0 84 Lib.Math.max.name, .static Lib.Math.max.name, .initialized "java/lang/Math", .code Lib.Math.max.name Lib.Math.max.code 2 (some .int), .fieldLink RX0 89 "JugsAndGlasses$Glasses" "PLACE" "[I", .methodLink RX0 80 yX0_sandAbove, .instanceMethod yX0_sandAbove, .selects RX0 yX0_sandAbove yX0_sandAbove, .initialized RX0, .code yX0_sandAbove cX0_sandAbove 6 (some .int), .fieldLink RX0 15 "JugsAndGlasses$Glasses" "span" "[I"] ++ wsX00)
def wsX0_listEvents_r1 : List Cond := [Cond.fieldLink RX0 36 "JugsAndGlasses$Glasses" "listedEvents" "I", Cond.fieldLink RX0 29 "JugsAndGlasses$Glasses" "events" "[I", Cond.fieldLink RX0 9 "JugsAndGlasses$Glasses" "number" "I", Cond.fieldLink RX0 39 "JugsAndGlasses$Glasses" "leap" "[I", Cond.methodLink RX0 72 yX0_list, Cond.instanceMethod yX0_list, Cond.selects RX0 yX0_list yX0_list, Cond.initialized RX0, Cond.code yX0_list cX0_list 2 none, Cond.fieldLink RX0 32 "JugsAndGlasses$Glasses" "listed" "[Z", Cond.methodLink RX0 75 yX0_leapFrom, Cond.instanceMethod yX0_leapFrom, Cond.selects RX0 yX0_leapFrom yX0_leapFrom, Cond.code yX0_leapFrom cX0_leapFrom 6 (some .int), Cond.constant RX0 79 (1000000), Cond.methodLink RX0 84 Lib.Math.max.name, Cond.static Lib.Math.max.name, Cond.initialized "java/lang/Math", Cond.code Lib.Math.max.name Lib.Math.max.code 2 (some .int), Cond.fieldLink RX0 89 "JugsAndGlasses$Glasses" "PLACE" "[I", Cond.methodLink RX0 80 yX0_sandAbove, Cond.instanceMethod yX0_sandAbove, Cond.selects RX0 yX0_sandAbove yX0_sandAbove, Cond.code yX0_sandAbove cX0_sandAbove 6 (some .int)]
def wsX0_listEvents_r2 : List Cond := [Cond.fieldLink RX0 15 "JugsAndGlasses$Glasses" "span" "[I"]
def wsX0_listEvents : List Cond := .code yX0_listEvents cX0_listEvents 5 none :: ((wsX0_listEvents_r1 ++ wsX0_listEvents_r2) ++ wsX00)
def wsJ7_fill_53178 : List Cond := .code yJ7_fill_53178 cJ7_fill_53178 4 none :: ([])
def wsJ6_bitCount_0f7a4 : List Cond := .code yJ6_bitCount_0f7a4 cJ6_bitCount_0f7a4 1 (some .int) :: ([.constant RJ6 265 (1431655765), .constant RJ6 266 (858993459), .constant RJ6 267 (252645135)])
def wsX0_goOnFrom : List Cond := .code yX0_goOnFrom cX0_goOnFrom 8 none :: ([.fieldLink RX0 9 "JugsAndGlasses$Glasses" "number" "I", .fieldLink RX0 39 "JugsAndGlasses$Glasses" "leap" "[I", .fieldLink RX0 45 "JugsAndGlasses$Glasses" "turned" "[I", .fieldLink RX0 42 "JugsAndGlasses$Glasses" "early" "[I", .methodLink RX0 102 yJ6_bitCount_0f7a4, .static yJ6_bitCount_0f7a4, .initialized RJ6, .code yJ6_bitCount_0f7a4 cJ6_bitCount_0f7a4 1 (some .int), .constant RJ6 265 (1431655765), .constant RJ6 266 (858993459), .constant RJ6 267 (252645135)] ++ wsX00)
def wsX0_goForth : List Cond := .code yX0_goForth cX0_goForth 3 none :: ([.fieldLink RX0 42 "JugsAndGlasses$Glasses" "early" "[I", .constant RX0 79 (1000000), .fieldLink RX0 45 "JugsAndGlasses$Glasses" "turned" "[I", .fieldLink RX0 36 "JugsAndGlasses$Glasses" "listedEvents" "I", .fieldLink RX0 29 "JugsAndGlasses$Glasses" "events" "[I", .methodLink RX0 92 yJ7_fill_53178, .static yJ7_fill_53178, .initialized RJ7, .code yJ7_fill_53178 cJ7_fill_53178 4 none, .methodLink RX0 98 yX0_goOnFrom, .instanceMethod yX0_goOnFrom, .selects RX0 yX0_goOnFrom yX0_goOnFrom, .initialized RX0, .code yX0_goOnFrom cX0_goOnFrom 8 none, .fieldLink RX0 9 "JugsAndGlasses$Glasses" "number" "I", .fieldLink RX0 39 "JugsAndGlasses$Glasses" "leap" "[I", .methodLink RX0 102 yJ6_bitCount_0f7a4, .static yJ6_bitCount_0f7a4, .initialized RJ6, .code yJ6_bitCount_0f7a4 cJ6_bitCount_0f7a4 1 (some .int), .constant RJ6 265 (1431655765), .constant RJ6 266 (858993459), .constant RJ6 267 (252645135)] ++ wsX00)
def wsX0_fewestTurned : List Cond := .code yX0_fewestTurned cX0_fewestTurned 7 (some .int) :: ([.constant RX0 79 (1000000), .fieldLink RX0 9 "JugsAndGlasses$Glasses" "number" "I", .fieldLink RX0 39 "JugsAndGlasses$Glasses" "leap" "[I", .fieldLink RX0 50 "JugsAndGlasses$Glasses" "ahead" "[[I", .methodLink RX0 111 Lib.Math.min.name, .static Lib.Math.min.name, .initialized "java/lang/Math", .code Lib.Math.min.name Lib.Math.min.code 2 (some .int), .methodLink RX0 102 yJ6_bitCount_0f7a4, .static yJ6_bitCount_0f7a4, .initialized RJ6, .code yJ6_bitCount_0f7a4 cJ6_bitCount_0f7a4 1 (some .int), .constant RJ6 265 (1431655765), .constant RJ6 266 (858993459), .constant RJ6 267 (252645135)] ++ wsX00)
def wsX0_lookAhead : List Cond := .code yX0_lookAhead cX0_lookAhead 3 none :: ([.fieldLink RX0 36 "JugsAndGlasses$Glasses" "listedEvents" "I", .fieldLink RX0 29 "JugsAndGlasses$Glasses" "events" "[I", .fieldLink RX0 50 "JugsAndGlasses$Glasses" "ahead" "[[I", .methodLink RX0 108 yX0_fewestTurned, .instanceMethod yX0_fewestTurned, .selects RX0 yX0_fewestTurned yX0_fewestTurned, .initialized RX0, .code yX0_fewestTurned cX0_fewestTurned 7 (some .int), .constant RX0 79 (1000000), .fieldLink RX0 9 "JugsAndGlasses$Glasses" "number" "I", .fieldLink RX0 39 "JugsAndGlasses$Glasses" "leap" "[I", .methodLink RX0 111 Lib.Math.min.name, .static Lib.Math.min.name, .initialized "java/lang/Math", .code Lib.Math.min.name Lib.Math.min.code 2 (some .int), .methodLink RX0 102 yJ6_bitCount_0f7a4, .static yJ6_bitCount_0f7a4, .initialized RJ6, .code yJ6_bitCount_0f7a4 cJ6_bitCount_0f7a4 1 (some .int), .constant RJ6 265 (1431655765), .constant RJ6 266 (858993459), .constant RJ6 267 (252645135)] ++ wsX00)
def wsX0_answer : List Cond := .code yX0_answer cX0_answer 7 none :: ([.constant RX0 79 (1000000), .fieldLink RX0 36 "JugsAndGlasses$Glasses" "listedEvents" "I", .fieldLink RX0 29 "JugsAndGlasses$Glasses" "events" "[I", .fieldLink RX0 50 "JugsAndGlasses$Glasses" "ahead" "[[I", .fieldLink RX0 42 "JugsAndGlasses$Glasses" "early" "[I", .fieldLink RX0 45 "JugsAndGlasses$Glasses" "turned" "[I", .methodLink RX0 111 Lib.Math.min.name, .static Lib.Math.min.name, .initialized "java/lang/Math", .code Lib.Math.min.name Lib.Math.min.code 2 (some .int), .fieldLink RX0 19 "JugsAndGlasses$Glasses" "waitOf" "[I", .fieldLink RX0 22 "JugsAndGlasses$Glasses" "turnsOf" "[I"] ++ wsX00)
def wsX0_workOut_r1 : List Cond := [Cond.fieldLink RX0 25 "JugsAndGlasses$Glasses" "known" "Z", Cond.fieldLink RX0 53 "JugsAndGlasses$Glasses" "STATES" "[I", Cond.fieldLink RX0 9 "JugsAndGlasses$Glasses" "number" "I", Cond.methodLink RX0 56 yX0_makeRoom, Cond.instanceMethod yX0_makeRoom, Cond.selects RX0 yX0_makeRoom yX0_makeRoom, Cond.initialized RX0, Cond.code yX0_makeRoom cX0_makeRoom 3 none, Cond.fieldLink RX0 29 "JugsAndGlasses$Glasses" "events" "[I", Cond.arrayClass .int, Cond.arrayClass .boolean, Cond.fieldLink RX0 32 "JugsAndGlasses$Glasses" "listed" "[Z", Cond.fieldLink RX0 39 "JugsAndGlasses$Glasses" "leap" "[I", Cond.fieldLink RX0 42 "JugsAndGlasses$Glasses" "early" "[I", Cond.fieldLink RX0 45 "JugsAndGlasses$Glasses" "turned" "[I", Cond.classLink RX0 48 "[[I", Cond.fieldLink RX0 50 "JugsAndGlasses$Glasses" "ahead" "[[I", Cond.fieldLink RX0 36 "JugsAndGlasses$Glasses" "listedEvents" "I", Cond.methodLink RX0 60 yX0_listEvents, Cond.instanceMethod yX0_listEvents, Cond.selects RX0 yX0_listEvents yX0_listEvents, Cond.code yX0_listEvents cX0_listEvents 5 none, Cond.methodLink RX0 72 yX0_list, Cond.instanceMethod yX0_list]
def wsX0_workOut_r2 : List Cond := [Cond.selects RX0 yX0_list yX0_list, Cond.code yX0_list cX0_list 2 none, Cond.methodLink RX0 75 yX0_leapFrom, Cond.instanceMethod yX0_leapFrom, Cond.selects RX0 yX0_leapFrom yX0_leapFrom, Cond.code yX0_leapFrom cX0_leapFrom 6 (some .int), Cond.constant RX0 79 (1000000), Cond.methodLink RX0 84 Lib.Math.max.name, Cond.static Lib.Math.max.name, Cond.initialized "java/lang/Math", Cond.code Lib.Math.max.name Lib.Math.max.code 2 (some .int), Cond.fieldLink RX0 89 "JugsAndGlasses$Glasses" "PLACE" "[I", Cond.methodLink RX0 80 yX0_sandAbove, Cond.instanceMethod yX0_sandAbove, Cond.selects RX0 yX0_sandAbove yX0_sandAbove, Cond.code yX0_sandAbove cX0_sandAbove 6 (some .int), Cond.fieldLink RX0 15 "JugsAndGlasses$Glasses" "span" "[I", Cond.methodLink RX0 63 yX0_goForth, Cond.instanceMethod yX0_goForth, Cond.selects RX0 yX0_goForth yX0_goForth, Cond.code yX0_goForth cX0_goForth 3 none, Cond.methodLink RX0 92 yJ7_fill_53178, Cond.static yJ7_fill_53178, Cond.initialized RJ7]
def wsX0_workOut_r3 : List Cond := [Cond.code yJ7_fill_53178 cJ7_fill_53178 4 none, Cond.methodLink RX0 98 yX0_goOnFrom, Cond.instanceMethod yX0_goOnFrom, Cond.selects RX0 yX0_goOnFrom yX0_goOnFrom, Cond.code yX0_goOnFrom cX0_goOnFrom 8 none, Cond.methodLink RX0 102 yJ6_bitCount_0f7a4, Cond.static yJ6_bitCount_0f7a4, Cond.initialized RJ6, Cond.code yJ6_bitCount_0f7a4 cJ6_bitCount_0f7a4 1 (some .int), Cond.constant RJ6 265 (1431655765), Cond.constant RJ6 266 (858993459), Cond.constant RJ6 267 (252645135), Cond.methodLink RX0 66 yX0_lookAhead, Cond.instanceMethod yX0_lookAhead, Cond.selects RX0 yX0_lookAhead yX0_lookAhead, Cond.code yX0_lookAhead cX0_lookAhead 3 none, Cond.methodLink RX0 108 yX0_fewestTurned, Cond.instanceMethod yX0_fewestTurned, Cond.selects RX0 yX0_fewestTurned yX0_fewestTurned, Cond.code yX0_fewestTurned cX0_fewestTurned 7 (some .int), Cond.methodLink RX0 111 Lib.Math.min.name, Cond.static Lib.Math.min.name, Cond.code Lib.Math.min.name Lib.Math.min.code 2 (some .int), Cond.methodLink RX0 69 yX0_answer]
def wsX0_workOut_r4 : List Cond := [Cond.instanceMethod yX0_answer, Cond.selects RX0 yX0_answer yX0_answer, Cond.code yX0_answer cX0_answer 7 none, Cond.fieldLink RX0 19 "JugsAndGlasses$Glasses" "waitOf" "[I", Cond.fieldLink RX0 22 "JugsAndGlasses$Glasses" "turnsOf" "[I"]
def wsX0_workOut : List Cond := .code yX0_workOut cX0_workOut 2 none :: ((wsX0_workOut_r1 ++ (wsX0_workOut_r2 ++ (wsX0_workOut_r3 ++ wsX0_workOut_r4))) ++ wsX00)
def wsX1_init : List Cond := .code yX1_init cX1_init 1 none :: ([.methodLink RX1 3 objectInit, .instanceMethod objectInit, .code objectInit ⟨#[0xb1]⟩ 1 none, .fieldLink RX1 9 "JugsAndGlasses$Jugs" "number" "I", .fieldLink RX1 15 "JugsAndGlasses$Jugs" "codes" "I", .fieldLink RX1 18 "JugsAndGlasses$Jugs" "tap" "Z", .fieldLink RX1 22 "JugsAndGlasses$Jugs" "drain" "Z", .arrayClass .int, .fieldLink RX1 25 "JugsAndGlasses$Jugs" "size" "[I", .fieldLink RX1 29 "JugsAndGlasses$Jugs" "held" "[I", .fieldLink RX1 32 "JugsAndGlasses$Jugs" "weight" "[I"] ++ wsX10)
def wsX1_has : List Cond := .code yX1_has cX1_has 2 (some .boolean) :: ([.fieldLink RX1 9 "JugsAndGlasses$Jugs" "number" "I"] ++ wsX10)
def wsX1_add : List Cond := .code yX1_add cX1_add 3 (some .int) :: ([.fieldLink RX1 9 "JugsAndGlasses$Jugs" "number" "I", .fieldLink RX1 25 "JugsAndGlasses$Jugs" "size" "[I", .fieldLink RX1 29 "JugsAndGlasses$Jugs" "held" "[I", .fieldLink RX1 32 "JugsAndGlasses$Jugs" "weight" "[I", .fieldLink RX1 15 "JugsAndGlasses$Jugs" "codes" "I"] ++ wsX10)
def wsX1_removeAll : List Cond := .code yX1_removeAll cX1_removeAll 2 (some .int) :: ([.fieldLink RX1 9 "JugsAndGlasses$Jugs" "number" "I", .fieldLink RX1 15 "JugsAndGlasses$Jugs" "codes" "I"] ++ wsX10)
def wsX1_liken : List Cond := .code yX1_liken cX1_liken 3 none :: ([.fieldLink RX1 9 "JugsAndGlasses$Jugs" "number" "I", .fieldLink RX1 15 "JugsAndGlasses$Jugs" "codes" "I", .fieldLink RX1 18 "JugsAndGlasses$Jugs" "tap" "Z", .fieldLink RX1 22 "JugsAndGlasses$Jugs" "drain" "Z", .fieldLink RX1 25 "JugsAndGlasses$Jugs" "size" "[I", .fieldLink RX1 29 "JugsAndGlasses$Jugs" "held" "[I", .fieldLink RX1 32 "JugsAndGlasses$Jugs" "weight" "[I"] ++ wsX10)
def wsX1_haveAct : List Cond := .code yX1_haveAct cX1_haveAct 2 (some .boolean) :: ([.fieldLink RX1 9 "JugsAndGlasses$Jugs" "number" "I"] ++ wsX10)
def wsX1_moved : List Cond := .code yX1_moved cX1_moved 6 (some .int) :: ([.fieldLink RX1 9 "JugsAndGlasses$Jugs" "number" "I", .fieldLink RX1 29 "JugsAndGlasses$Jugs" "held" "[I", .fieldLink RX1 18 "JugsAndGlasses$Jugs" "tap" "Z", .fieldLink RX1 25 "JugsAndGlasses$Jugs" "size" "[I", .fieldLink RX1 22 "JugsAndGlasses$Jugs" "drain" "Z"] ++ wsX10)
def wsX1_move : List Cond := .code yX1_move cX1_move 3 none :: ([.fieldLink RX1 29 "JugsAndGlasses$Jugs" "held" "[I", .methodLink RX1 41 yX1_haveAct, .instanceMethod yX1_haveAct, .selects RX1 yX1_haveAct yX1_haveAct, .initialized RX1, .code yX1_haveAct cX1_haveAct 2 (some .boolean), .fieldLink RX1 9 "JugsAndGlasses$Jugs" "number" "I"] ++ wsX10)
def wsX1_shiftBy : List Cond := .code yX1_shiftBy cX1_shiftBy 5 (some .int) :: ([.fieldLink RX1 32 "JugsAndGlasses$Jugs" "weight" "[I", .methodLink RX1 45 yX1_moved, .instanceMethod yX1_moved, .selects RX1 yX1_moved yX1_moved, .initialized RX1, .code yX1_moved cX1_moved 6 (some .int), .fieldLink RX1 9 "JugsAndGlasses$Jugs" "number" "I", .fieldLink RX1 29 "JugsAndGlasses$Jugs" "held" "[I", .fieldLink RX1 18 "JugsAndGlasses$Jugs" "tap" "Z", .fieldLink RX1 25 "JugsAndGlasses$Jugs" "size" "[I", .fieldLink RX1 22 "JugsAndGlasses$Jugs" "drain" "Z"] ++ wsX10)
def wsX1_spiltBy : List Cond := .code yX1_spiltBy cX1_spiltBy 2 (some .int) :: ([.fieldLink RX1 29 "JugsAndGlasses$Jugs" "held" "[I"] ++ wsX10)
def wsX1_code : List Cond := .code yX1_code cX1_code 3 (some .int) :: ([.fieldLink RX1 9 "JugsAndGlasses$Jugs" "number" "I", .fieldLink RX1 29 "JugsAndGlasses$Jugs" "held" "[I", .fieldLink RX1 32 "JugsAndGlasses$Jugs" "weight" "[I"] ++ wsX10)
def wsX1_stand : List Cond := .code yX1_stand cX1_stand 5 none :: ([.fieldLink RX1 9 "JugsAndGlasses$Jugs" "number" "I", .fieldLink RX1 25 "JugsAndGlasses$Jugs" "size" "[I", .fieldLink RX1 29 "JugsAndGlasses$Jugs" "held" "[I"] ++ wsX10)
def wsX1_meet : List Cond := .code yX1_meet cX1_meet 4 (some .boolean) :: ([.fieldLink RX1 29 "JugsAndGlasses$Jugs" "held" "[I", .fieldLink RX1 9 "JugsAndGlasses$Jugs" "number" "I", .methodLink RX1 49 yX1_has, .instanceMethod yX1_has, .selects RX1 yX1_has yX1_has, .initialized RX1, .code yX1_has cX1_has 2 (some .boolean)] ++ wsX10)
def wsX1_heldTogether : List Cond := .code yX1_heldTogether cX1_heldTogether 3 (some .int) :: ([.fieldLink RX1 9 "JugsAndGlasses$Jugs" "number" "I", .fieldLink RX1 29 "JugsAndGlasses$Jugs" "held" "[I"] ++ wsX10)
def wsX1_actsNow : List Cond := .code yX1_actsNow cX1_actsNow 3 (some .int) :: ([.methodLink RX1 45 yX1_moved, .instanceMethod yX1_moved, .selects RX1 yX1_moved yX1_moved, .initialized RX1, .code yX1_moved cX1_moved 6 (some .int), .fieldLink RX1 9 "JugsAndGlasses$Jugs" "number" "I", .fieldLink RX1 29 "JugsAndGlasses$Jugs" "held" "[I", .fieldLink RX1 18 "JugsAndGlasses$Jugs" "tap" "Z", .fieldLink RX1 25 "JugsAndGlasses$Jugs" "size" "[I", .fieldLink RX1 22 "JugsAndGlasses$Jugs" "drain" "Z"] ++ wsX10)
def wsX4_init : List Cond := .code yX4_init cX4_init 1 none :: ([.methodLink RX4 3 objectInit, .instanceMethod objectInit, .code objectInit ⟨#[0xb1]⟩ 1 none, .arrayClass .int, .fieldLink RX4 9 "JugsAndGlasses$Tour" "found" "[I", .fieldLink RX4 15 "JugsAndGlasses$Tour" "level" "[I", .fieldLink RX4 18 "JugsAndGlasses$Tour" "cause" "[I", .fieldLink RX4 21 "JugsAndGlasses$Tour" "reached" "I"] ++ wsX40)
def wsX3_init : List Cond := .code yX3_init cX3_init 1 none :: ([.methodLink RX3 3 objectInit, .instanceMethod objectInit, .code objectInit ⟨#[0xb1]⟩ 1 none, .arrayClass .int, .fieldLink RX3 9 "JugsAndGlasses$Spilling" "least" "[I", .fieldLink RX3 15 "JugsAndGlasses$Spilling" "work" "[I"] ++ wsX30)
def wsX2_init_r1 : List Cond := [Cond.methodLink RX2 3 objectInit, Cond.instanceMethod objectInit, Cond.code objectInit ⟨#[0xb1]⟩ 1 none, Cond.classLink RX2 9 RX1, Cond.instantiable RX1 7, Cond.initialized RX1, Cond.fieldLink RX2 12 "JugsAndGlasses$Search" "jugs" "LJugsAndGlasses$Jugs;", Cond.fieldLink RX2 18 "JugsAndGlasses$Search" "trial" "LJugsAndGlasses$Jugs;", Cond.classLink RX2 21 RX4, Cond.instantiable RX4 4, Cond.initialized RX4, Cond.fieldLink RX2 24 "JugsAndGlasses$Search" "all" "LJugsAndGlasses$Tour;", Cond.fieldLink RX2 28 "JugsAndGlasses$Search" "thrifty" "LJugsAndGlasses$Tour;", Cond.classLink RX2 31 RX3, Cond.instantiable RX3 2, Cond.initialized RX3, Cond.fieldLink RX2 34 "JugsAndGlasses$Search" "spilling" "LJugsAndGlasses$Spilling;", Cond.arrayClass .long, Cond.fieldLink RX2 38 "JugsAndGlasses$Search" "ways" "[J", Cond.fieldLink RX2 42 "JugsAndGlasses$Search" "explored" "Z", Cond.fieldLink RX2 46 "JugsAndGlasses$Search" "counted" "Z", Cond.fieldLink RX2 49 "JugsAndGlasses$Search" "exploredSparing" "Z", Cond.instanceMethod yX1_init, Cond.code yX1_init cX1_init 1 none]
def wsX2_init_r2 : List Cond := [Cond.methodLink RX1 3 objectInit, Cond.fieldLink RX1 9 "JugsAndGlasses$Jugs" "number" "I", Cond.fieldLink RX1 15 "JugsAndGlasses$Jugs" "codes" "I", Cond.fieldLink RX1 18 "JugsAndGlasses$Jugs" "tap" "Z", Cond.fieldLink RX1 22 "JugsAndGlasses$Jugs" "drain" "Z", Cond.arrayClass .int, Cond.fieldLink RX1 25 "JugsAndGlasses$Jugs" "size" "[I", Cond.fieldLink RX1 29 "JugsAndGlasses$Jugs" "held" "[I", Cond.fieldLink RX1 32 "JugsAndGlasses$Jugs" "weight" "[I", Cond.instanceMethod yX4_init, Cond.code yX4_init cX4_init 1 none, Cond.methodLink RX4 3 objectInit, Cond.fieldLink RX4 9 "JugsAndGlasses$Tour" "found" "[I", Cond.fieldLink RX4 15 "JugsAndGlasses$Tour" "level" "[I", Cond.fieldLink RX4 18 "JugsAndGlasses$Tour" "cause" "[I", Cond.fieldLink RX4 21 "JugsAndGlasses$Tour" "reached" "I", Cond.instanceMethod yX3_init, Cond.code yX3_init cX3_init 1 none, Cond.methodLink RX3 3 objectInit, Cond.fieldLink RX3 9 "JugsAndGlasses$Spilling" "least" "[I", Cond.fieldLink RX3 15 "JugsAndGlasses$Spilling" "work" "[I"]
def wsX2_init : List Cond := .code yX2_init cX2_init 1 none :: ((wsX2_init_r1 ++ wsX2_init_r2) ++ wsX10 ++ wsX20 ++ wsX40 ++ wsX30)
def wsX2_forget : List Cond := .code yX2_forget cX2_forget 1 none :: ([.fieldLink RX2 42 "JugsAndGlasses$Search" "explored" "Z", .fieldLink RX2 46 "JugsAndGlasses$Search" "counted" "Z", .fieldLink RX2 49 "JugsAndGlasses$Search" "exploredSparing" "Z"] ++ wsX20)
def wsX5_lengthFor : List Cond := .code yX5_lengthFor cX5_lengthFor 2 (some .int) :: ([.methodLink RX5 157 Lib.Math.max.name, .static Lib.Math.max.name, .initialized "java/lang/Math", .code Lib.Math.max.name Lib.Math.max.code 2 (some .int), .methodLink RX5 152 Lib.Math.min.name, .static Lib.Math.min.name, .code Lib.Math.min.name Lib.Math.min.code 2 (some .int)])
def wsX4_start : List Cond := .code yX4_start cX4_start 4 none :: ([.fieldLink RX4 15 "JugsAndGlasses$Tour" "level" "[I", .arrayClass .int, .fieldLink RX4 9 "JugsAndGlasses$Tour" "found" "[I", .fieldLink RX4 18 "JugsAndGlasses$Tour" "cause" "[I", .fieldLink RX4 21 "JugsAndGlasses$Tour" "reached" "I", .static yX5_lengthFor, .initialized RX5, .code yX5_lengthFor cX5_lengthFor 2 (some .int), .methodLink RX5 157 Lib.Math.max.name, .static Lib.Math.max.name, .initialized "java/lang/Math", .code Lib.Math.max.name Lib.Math.max.code 2 (some .int), .methodLink RX5 152 Lib.Math.min.name, .static Lib.Math.min.name, .code Lib.Math.min.name Lib.Math.min.code 2 (some .int), .methodLink RX4 29 yJ7_fill_53178, .static yJ7_fill_53178, .initialized RJ7, .code yJ7_fill_53178 cJ7_fill_53178 4 none] ++ wsX40)
def wsX3_isLeast : List Cond := .code yX3_isLeast cX3_isLeast 4 (some .boolean) :: ([.fieldLink RX3 9 "JugsAndGlasses$Spilling" "least" "[I"] ++ wsX30)
def wsX4_enter : List Cond := .code yX4_enter cX4_enter 4 none :: ([.fieldLink RX4 21 "JugsAndGlasses$Tour" "reached" "I", .fieldLink RX4 9 "JugsAndGlasses$Tour" "found" "[I", .fieldLink RX4 15 "JugsAndGlasses$Tour" "level" "[I", .fieldLink RX4 18 "JugsAndGlasses$Tour" "cause" "[I"] ++ wsX40)
def wsX4_explore_r1 : List Cond := [Cond.fieldLink RX4 35 "JugsAndGlasses$Jugs" "codes" "I", Cond.fieldLink RX4 21 "JugsAndGlasses$Tour" "reached" "I", Cond.fieldLink RX4 9 "JugsAndGlasses$Tour" "found" "[I", Cond.fieldLink RX4 15 "JugsAndGlasses$Tour" "level" "[I", Cond.methodLink RX4 40 yX1_code, Cond.instanceMethod yX1_code, Cond.selects RX1 yX1_code yX1_code, Cond.initialized RX1, Cond.code yX1_code cX1_code 3 (some .int), Cond.fieldLink RX1 9 "JugsAndGlasses$Jugs" "number" "I", Cond.fieldLink RX1 29 "JugsAndGlasses$Jugs" "held" "[I", Cond.fieldLink RX1 32 "JugsAndGlasses$Jugs" "weight" "[I", Cond.methodLink RX4 44 yX4_start, Cond.instanceMethod yX4_start, Cond.selects RX4 yX4_start yX4_start, Cond.initialized RX4, Cond.code yX4_start cX4_start 4 none, Cond.arrayClass .int, Cond.fieldLink RX4 18 "JugsAndGlasses$Tour" "cause" "[I", Cond.static yX5_lengthFor, Cond.initialized RX5, Cond.code yX5_lengthFor cX5_lengthFor 2 (some .int), Cond.methodLink RX5 157 Lib.Math.max.name, Cond.static Lib.Math.max.name]
def wsX4_explore_r2 : List Cond := [Cond.initialized "java/lang/Math", Cond.code Lib.Math.max.name Lib.Math.max.code 2 (some .int), Cond.methodLink RX5 152 Lib.Math.min.name, Cond.static Lib.Math.min.name, Cond.code Lib.Math.min.name Lib.Math.min.code 2 (some .int), Cond.methodLink RX4 29 yJ7_fill_53178, Cond.static yJ7_fill_53178, Cond.initialized RJ7, Cond.code yJ7_fill_53178 cJ7_fill_53178 4 none, Cond.methodLink RX4 48 yX1_stand, Cond.instanceMethod yX1_stand, Cond.selects RX1 yX1_stand yX1_stand, Cond.code yX1_stand cX1_stand 5 none, Cond.fieldLink RX1 25 "JugsAndGlasses$Jugs" "size" "[I", Cond.methodLink RX4 52 yX1_shiftBy, Cond.instanceMethod yX1_shiftBy, Cond.selects RX1 yX1_shiftBy yX1_shiftBy, Cond.code yX1_shiftBy cX1_shiftBy 5 (some .int), Cond.methodLink RX1 45 yX1_moved, Cond.instanceMethod yX1_moved, Cond.selects RX1 yX1_moved yX1_moved, Cond.code yX1_moved cX1_moved 6 (some .int), Cond.fieldLink RX1 18 "JugsAndGlasses$Jugs" "tap" "Z", Cond.fieldLink RX1 22 "JugsAndGlasses$Jugs" "drain" "Z"]
def wsX4_explore_r3 : List Cond := [Cond.methodLink RX4 56 yX1_spiltBy, Cond.instanceMethod yX1_spiltBy, Cond.selects RX1 yX1_spiltBy yX1_spiltBy, Cond.code yX1_spiltBy cX1_spiltBy 2 (some .int), Cond.methodLink RX4 59 yX3_isLeast, Cond.instanceMethod yX3_isLeast, Cond.selects RX3 yX3_isLeast yX3_isLeast, Cond.initialized RX3, Cond.code yX3_isLeast cX3_isLeast 4 (some .boolean), Cond.fieldLink RX3 9 "JugsAndGlasses$Spilling" "least" "[I", Cond.methodLink RX4 65 yX4_enter, Cond.instanceMethod yX4_enter, Cond.selects RX4 yX4_enter yX4_enter, Cond.code yX4_enter cX4_enter 4 none]
def wsX4_explore : List Cond := .code yX4_explore cX4_explore 7 none :: ((wsX4_explore_r1 ++ (wsX4_explore_r2 ++ wsX4_explore_r3)) ++ wsX10 ++ wsX40 ++ wsX30)
def wsX2_explore_r1 : List Cond := [Cond.fieldLink RX2 42 "JugsAndGlasses$Search" "explored" "Z", Cond.fieldLink RX2 18 "JugsAndGlasses$Search" "trial" "LJugsAndGlasses$Jugs;", Cond.fieldLink RX2 12 "JugsAndGlasses$Search" "jugs" "LJugsAndGlasses$Jugs;", Cond.fieldLink RX2 24 "JugsAndGlasses$Search" "all" "LJugsAndGlasses$Tour;", Cond.methodLink RX2 52 yX1_liken, Cond.instanceMethod yX1_liken, Cond.selects RX1 yX1_liken yX1_liken, Cond.initialized RX1, Cond.code yX1_liken cX1_liken 3 none, Cond.fieldLink RX1 9 "JugsAndGlasses$Jugs" "number" "I", Cond.fieldLink RX1 15 "JugsAndGlasses$Jugs" "codes" "I", Cond.fieldLink RX1 18 "JugsAndGlasses$Jugs" "tap" "Z", Cond.fieldLink RX1 22 "JugsAndGlasses$Jugs" "drain" "Z", Cond.fieldLink RX1 25 "JugsAndGlasses$Jugs" "size" "[I", Cond.fieldLink RX1 29 "JugsAndGlasses$Jugs" "held" "[I", Cond.fieldLink RX1 32 "JugsAndGlasses$Jugs" "weight" "[I", Cond.methodLink RX2 56 yX4_explore, Cond.instanceMethod yX4_explore, Cond.selects RX4 yX4_explore yX4_explore, Cond.initialized RX4, Cond.code yX4_explore cX4_explore 7 none, Cond.fieldLink RX4 35 "JugsAndGlasses$Jugs" "codes" "I", Cond.fieldLink RX4 21 "JugsAndGlasses$Tour" "reached" "I", Cond.fieldLink RX4 9 "JugsAndGlasses$Tour" "found" "[I"]
def wsX2_explore_r2 : List Cond := [Cond.fieldLink RX4 15 "JugsAndGlasses$Tour" "level" "[I", Cond.methodLink RX4 40 yX1_code, Cond.instanceMethod yX1_code, Cond.selects RX1 yX1_code yX1_code, Cond.code yX1_code cX1_code 3 (some .int), Cond.methodLink RX4 44 yX4_start, Cond.instanceMethod yX4_start, Cond.selects RX4 yX4_start yX4_start, Cond.code yX4_start cX4_start 4 none, Cond.arrayClass .int, Cond.fieldLink RX4 18 "JugsAndGlasses$Tour" "cause" "[I", Cond.static yX5_lengthFor, Cond.initialized RX5, Cond.code yX5_lengthFor cX5_lengthFor 2 (some .int), Cond.methodLink RX5 157 Lib.Math.max.name, Cond.static Lib.Math.max.name, Cond.initialized "java/lang/Math", Cond.code Lib.Math.max.name Lib.Math.max.code 2 (some .int), Cond.methodLink RX5 152 Lib.Math.min.name, Cond.static Lib.Math.min.name, Cond.code Lib.Math.min.name Lib.Math.min.code 2 (some .int), Cond.methodLink RX4 29 yJ7_fill_53178, Cond.static yJ7_fill_53178, Cond.initialized RJ7]
def wsX2_explore_r3 : List Cond := [Cond.code yJ7_fill_53178 cJ7_fill_53178 4 none, Cond.methodLink RX4 48 yX1_stand, Cond.instanceMethod yX1_stand, Cond.selects RX1 yX1_stand yX1_stand, Cond.code yX1_stand cX1_stand 5 none, Cond.methodLink RX4 52 yX1_shiftBy, Cond.instanceMethod yX1_shiftBy, Cond.selects RX1 yX1_shiftBy yX1_shiftBy, Cond.code yX1_shiftBy cX1_shiftBy 5 (some .int), Cond.methodLink RX1 45 yX1_moved, Cond.instanceMethod yX1_moved, Cond.selects RX1 yX1_moved yX1_moved, Cond.code yX1_moved cX1_moved 6 (some .int), Cond.methodLink RX4 56 yX1_spiltBy, Cond.instanceMethod yX1_spiltBy, Cond.selects RX1 yX1_spiltBy yX1_spiltBy, Cond.code yX1_spiltBy cX1_spiltBy 2 (some .int), Cond.methodLink RX4 59 yX3_isLeast, Cond.instanceMethod yX3_isLeast, Cond.selects RX3 yX3_isLeast yX3_isLeast, Cond.initialized RX3, Cond.code yX3_isLeast cX3_isLeast 4 (some .boolean), Cond.fieldLink RX3 9 "JugsAndGlasses$Spilling" "least" "[I", Cond.methodLink RX4 65 yX4_enter]
def wsX2_explore_r4 : List Cond := [Cond.instanceMethod yX4_enter, Cond.selects RX4 yX4_enter yX4_enter, Cond.code yX4_enter cX4_enter 4 none]
def wsX2_explore : List Cond := .code yX2_explore cX2_explore 1 none :: ((wsX2_explore_r1 ++ (wsX2_explore_r2 ++ (wsX2_explore_r3 ++ wsX2_explore_r4))) ++ wsX20 ++ wsX10 ++ wsX40 ++ wsX30)
def wsX3_settle_r1 : List Cond := [Cond.fieldLink RX3 36 "JugsAndGlasses$Tour" "reached" "I", Cond.fieldLink RX3 15 "JugsAndGlasses$Spilling" "work" "[I", Cond.fieldLink RX3 44 "JugsAndGlasses$Tour" "found" "[I", Cond.fieldLink RX3 9 "JugsAndGlasses$Spilling" "least" "[I", Cond.methodLink RX3 47 yX1_stand, Cond.instanceMethod yX1_stand, Cond.selects RX1 yX1_stand yX1_stand, Cond.initialized RX1, Cond.code yX1_stand cX1_stand 5 none, Cond.fieldLink RX1 9 "JugsAndGlasses$Jugs" "number" "I", Cond.fieldLink RX1 25 "JugsAndGlasses$Jugs" "size" "[I", Cond.fieldLink RX1 29 "JugsAndGlasses$Jugs" "held" "[I", Cond.methodLink RX3 51 yX1_shiftBy, Cond.instanceMethod yX1_shiftBy, Cond.selects RX1 yX1_shiftBy yX1_shiftBy, Cond.code yX1_shiftBy cX1_shiftBy 5 (some .int), Cond.fieldLink RX1 32 "JugsAndGlasses$Jugs" "weight" "[I", Cond.methodLink RX1 45 yX1_moved, Cond.instanceMethod yX1_moved, Cond.selects RX1 yX1_moved yX1_moved, Cond.code yX1_moved cX1_moved 6 (some .int), Cond.fieldLink RX1 18 "JugsAndGlasses$Jugs" "tap" "Z", Cond.fieldLink RX1 22 "JugsAndGlasses$Jugs" "drain" "Z", Cond.methodLink RX3 55 yX1_spiltBy]
def wsX3_settle_r2 : List Cond := [Cond.instanceMethod yX1_spiltBy, Cond.selects RX1 yX1_spiltBy yX1_spiltBy, Cond.code yX1_spiltBy cX1_spiltBy 2 (some .int)]
def wsX3_settle : List Cond := .code yX3_settle cX3_settle 10 (some .int) :: ((wsX3_settle_r1 ++ wsX3_settle_r2) ++ wsX40 ++ wsX30 ++ wsX10)
def wsX3_measure_r1 : List Cond := [Cond.fieldLink RX3 9 "JugsAndGlasses$Spilling" "least" "[I", Cond.fieldLink RX3 18 "JugsAndGlasses$Tour" "level" "[I", Cond.arrayClass .int, Cond.fieldLink RX3 15 "JugsAndGlasses$Spilling" "work" "[I", Cond.constant RX3 23 (1000000), Cond.fieldLink RX3 36 "JugsAndGlasses$Tour" "reached" "I", Cond.methodLink RX3 24 yJ7_fill_53178, Cond.static yJ7_fill_53178, Cond.initialized RJ7, Cond.code yJ7_fill_53178 cJ7_fill_53178 4 none, Cond.methodLink RX3 30 yX1_code, Cond.instanceMethod yX1_code, Cond.selects RX1 yX1_code yX1_code, Cond.initialized RX1, Cond.code yX1_code cX1_code 3 (some .int), Cond.fieldLink RX1 9 "JugsAndGlasses$Jugs" "number" "I", Cond.fieldLink RX1 29 "JugsAndGlasses$Jugs" "held" "[I", Cond.fieldLink RX1 32 "JugsAndGlasses$Jugs" "weight" "[I", Cond.methodLink RX3 40 yX3_settle, Cond.instanceMethod yX3_settle, Cond.selects RX3 yX3_settle yX3_settle, Cond.initialized RX3, Cond.code yX3_settle cX3_settle 10 (some .int), Cond.fieldLink RX3 44 "JugsAndGlasses$Tour" "found" "[I"]
def wsX3_measure_r2 : List Cond := [Cond.methodLink RX3 47 yX1_stand, Cond.instanceMethod yX1_stand, Cond.selects RX1 yX1_stand yX1_stand, Cond.code yX1_stand cX1_stand 5 none, Cond.fieldLink RX1 25 "JugsAndGlasses$Jugs" "size" "[I", Cond.methodLink RX3 51 yX1_shiftBy, Cond.instanceMethod yX1_shiftBy, Cond.selects RX1 yX1_shiftBy yX1_shiftBy, Cond.code yX1_shiftBy cX1_shiftBy 5 (some .int), Cond.methodLink RX1 45 yX1_moved, Cond.instanceMethod yX1_moved, Cond.selects RX1 yX1_moved yX1_moved, Cond.code yX1_moved cX1_moved 6 (some .int), Cond.fieldLink RX1 18 "JugsAndGlasses$Jugs" "tap" "Z", Cond.fieldLink RX1 22 "JugsAndGlasses$Jugs" "drain" "Z", Cond.methodLink RX3 55 yX1_spiltBy, Cond.instanceMethod yX1_spiltBy, Cond.selects RX1 yX1_spiltBy yX1_spiltBy, Cond.code yX1_spiltBy cX1_spiltBy 2 (some .int)]
def wsX3_measure : List Cond := .code yX3_measure cX3_measure 6 none :: ((wsX3_measure_r1 ++ wsX3_measure_r2) ++ wsX30 ++ wsX40 ++ wsX10)
def wsX2_exploreSparing_r1 : List Cond := [Cond.fieldLink RX2 49 "JugsAndGlasses$Search" "exploredSparing" "Z", Cond.fieldLink RX2 18 "JugsAndGlasses$Search" "trial" "LJugsAndGlasses$Jugs;", Cond.fieldLink RX2 12 "JugsAndGlasses$Search" "jugs" "LJugsAndGlasses$Jugs;", Cond.fieldLink RX2 34 "JugsAndGlasses$Search" "spilling" "LJugsAndGlasses$Spilling;", Cond.fieldLink RX2 24 "JugsAndGlasses$Search" "all" "LJugsAndGlasses$Tour;", Cond.fieldLink RX2 28 "JugsAndGlasses$Search" "thrifty" "LJugsAndGlasses$Tour;", Cond.methodLink RX2 52 yX1_liken, Cond.instanceMethod yX1_liken, Cond.selects RX1 yX1_liken yX1_liken, Cond.initialized RX1, Cond.code yX1_liken cX1_liken 3 none, Cond.fieldLink RX1 9 "JugsAndGlasses$Jugs" "number" "I", Cond.fieldLink RX1 15 "JugsAndGlasses$Jugs" "codes" "I", Cond.fieldLink RX1 18 "JugsAndGlasses$Jugs" "tap" "Z", Cond.fieldLink RX1 22 "JugsAndGlasses$Jugs" "drain" "Z", Cond.fieldLink RX1 25 "JugsAndGlasses$Jugs" "size" "[I", Cond.fieldLink RX1 29 "JugsAndGlasses$Jugs" "held" "[I", Cond.fieldLink RX1 32 "JugsAndGlasses$Jugs" "weight" "[I", Cond.methodLink RX2 60 yX3_measure, Cond.instanceMethod yX3_measure, Cond.selects RX3 yX3_measure yX3_measure, Cond.initialized RX3, Cond.code yX3_measure cX3_measure 6 none, Cond.fieldLink RX3 9 "JugsAndGlasses$Spilling" "least" "[I"]
def wsX2_exploreSparing_r2 : List Cond := [Cond.fieldLink RX3 18 "JugsAndGlasses$Tour" "level" "[I", Cond.arrayClass .int, Cond.fieldLink RX3 15 "JugsAndGlasses$Spilling" "work" "[I", Cond.constant RX3 23 (1000000), Cond.fieldLink RX3 36 "JugsAndGlasses$Tour" "reached" "I", Cond.methodLink RX3 24 yJ7_fill_53178, Cond.static yJ7_fill_53178, Cond.initialized RJ7, Cond.code yJ7_fill_53178 cJ7_fill_53178 4 none, Cond.methodLink RX3 30 yX1_code, Cond.instanceMethod yX1_code, Cond.selects RX1 yX1_code yX1_code, Cond.code yX1_code cX1_code 3 (some .int), Cond.methodLink RX3 40 yX3_settle, Cond.instanceMethod yX3_settle, Cond.selects RX3 yX3_settle yX3_settle, Cond.code yX3_settle cX3_settle 10 (some .int), Cond.fieldLink RX3 44 "JugsAndGlasses$Tour" "found" "[I", Cond.methodLink RX3 47 yX1_stand, Cond.instanceMethod yX1_stand, Cond.selects RX1 yX1_stand yX1_stand, Cond.code yX1_stand cX1_stand 5 none, Cond.methodLink RX3 51 yX1_shiftBy, Cond.instanceMethod yX1_shiftBy]
def wsX2_exploreSparing_r3 : List Cond := [Cond.selects RX1 yX1_shiftBy yX1_shiftBy, Cond.code yX1_shiftBy cX1_shiftBy 5 (some .int), Cond.methodLink RX1 45 yX1_moved, Cond.instanceMethod yX1_moved, Cond.selects RX1 yX1_moved yX1_moved, Cond.code yX1_moved cX1_moved 6 (some .int), Cond.methodLink RX3 55 yX1_spiltBy, Cond.instanceMethod yX1_spiltBy, Cond.selects RX1 yX1_spiltBy yX1_spiltBy, Cond.code yX1_spiltBy cX1_spiltBy 2 (some .int), Cond.methodLink RX2 56 yX4_explore, Cond.instanceMethod yX4_explore, Cond.selects RX4 yX4_explore yX4_explore, Cond.initialized RX4, Cond.code yX4_explore cX4_explore 7 none, Cond.fieldLink RX4 35 "JugsAndGlasses$Jugs" "codes" "I", Cond.fieldLink RX4 21 "JugsAndGlasses$Tour" "reached" "I", Cond.fieldLink RX4 9 "JugsAndGlasses$Tour" "found" "[I", Cond.fieldLink RX4 15 "JugsAndGlasses$Tour" "level" "[I", Cond.methodLink RX4 40 yX1_code, Cond.methodLink RX4 44 yX4_start, Cond.instanceMethod yX4_start, Cond.selects RX4 yX4_start yX4_start, Cond.code yX4_start cX4_start 4 none]
def wsX2_exploreSparing_r4 : List Cond := [Cond.fieldLink RX4 18 "JugsAndGlasses$Tour" "cause" "[I", Cond.static yX5_lengthFor, Cond.initialized RX5, Cond.code yX5_lengthFor cX5_lengthFor 2 (some .int), Cond.methodLink RX5 157 Lib.Math.max.name, Cond.static Lib.Math.max.name, Cond.initialized "java/lang/Math", Cond.code Lib.Math.max.name Lib.Math.max.code 2 (some .int), Cond.methodLink RX5 152 Lib.Math.min.name, Cond.static Lib.Math.min.name, Cond.code Lib.Math.min.name Lib.Math.min.code 2 (some .int), Cond.methodLink RX4 29 yJ7_fill_53178, Cond.methodLink RX4 48 yX1_stand, Cond.methodLink RX4 52 yX1_shiftBy, Cond.methodLink RX4 56 yX1_spiltBy, Cond.methodLink RX4 59 yX3_isLeast, Cond.instanceMethod yX3_isLeast, Cond.selects RX3 yX3_isLeast yX3_isLeast, Cond.code yX3_isLeast cX3_isLeast 4 (some .boolean), Cond.methodLink RX4 65 yX4_enter, Cond.instanceMethod yX4_enter, Cond.selects RX4 yX4_enter yX4_enter, Cond.code yX4_enter cX4_enter 4 none]
def wsX2_exploreSparing : List Cond := .code yX2_exploreSparing cX2_exploreSparing 1 none :: ((wsX2_exploreSparing_r1 ++ (wsX2_exploreSparing_r2 ++ (wsX2_exploreSparing_r3 ++ wsX2_exploreSparing_r4))) ++ wsX20 ++ wsX10 ++ wsX30 ++ wsX40)
def wsJ7_fill_d0a16 : List Cond := .code yJ7_fill_d0a16 cJ7_fill_d0a16 5 none :: ([])
def wsX4_knows : List Cond := .code yX4_knows cX4_knows 2 (some .boolean) :: ([.fieldLink RX4 15 "JugsAndGlasses$Tour" "level" "[I"] ++ wsX40)
def wsX2_countWays_r1 : List Cond := [Cond.fieldLink RX2 46 "JugsAndGlasses$Search" "counted" "Z", Cond.fieldLink RX2 38 "JugsAndGlasses$Search" "ways" "[J", Cond.fieldLink RX2 24 "JugsAndGlasses$Search" "all" "LJugsAndGlasses$Tour;", Cond.fieldLink RX2 64 "JugsAndGlasses$Tour" "level" "[I", Cond.arrayClass .long, Cond.fieldLink RX2 12 "JugsAndGlasses$Search" "jugs" "LJugsAndGlasses$Jugs;", Cond.fieldLink RX2 78 "JugsAndGlasses$Tour" "reached" "I", Cond.fieldLink RX2 82 "JugsAndGlasses$Tour" "found" "[I", Cond.fieldLink RX2 18 "JugsAndGlasses$Search" "trial" "LJugsAndGlasses$Jugs;", Cond.constantLong RX2 97 (1000000000000000000), Cond.methodLink RX2 99 Lib.MathLoose.min_long.x, Cond.static Lib.MathLoose.min_long.x, Cond.initialized "java/lang/Math", Cond.code Lib.MathLoose.min_long.x Lib.MathLoose.min_long.code 4 (some .long), Cond.methodLink RX2 68 yJ7_fill_d0a16, Cond.static yJ7_fill_d0a16, Cond.initialized RJ7, Cond.code yJ7_fill_d0a16 cJ7_fill_d0a16 5 none, Cond.methodLink RX2 74 yX1_code, Cond.instanceMethod yX1_code, Cond.selects RX1 yX1_code yX1_code, Cond.initialized RX1, Cond.code yX1_code cX1_code 3 (some .int), Cond.fieldLink RX1 9 "JugsAndGlasses$Jugs" "number" "I"]
def wsX2_countWays_r2 : List Cond := [Cond.fieldLink RX1 29 "JugsAndGlasses$Jugs" "held" "[I", Cond.fieldLink RX1 32 "JugsAndGlasses$Jugs" "weight" "[I", Cond.methodLink RX2 85 yX1_stand, Cond.instanceMethod yX1_stand, Cond.selects RX1 yX1_stand yX1_stand, Cond.code yX1_stand cX1_stand 5 none, Cond.fieldLink RX1 25 "JugsAndGlasses$Jugs" "size" "[I", Cond.methodLink RX2 89 yX1_shiftBy, Cond.instanceMethod yX1_shiftBy, Cond.selects RX1 yX1_shiftBy yX1_shiftBy, Cond.code yX1_shiftBy cX1_shiftBy 5 (some .int), Cond.methodLink RX1 45 yX1_moved, Cond.instanceMethod yX1_moved, Cond.selects RX1 yX1_moved yX1_moved, Cond.code yX1_moved cX1_moved 6 (some .int), Cond.fieldLink RX1 18 "JugsAndGlasses$Jugs" "tap" "Z", Cond.fieldLink RX1 22 "JugsAndGlasses$Jugs" "drain" "Z", Cond.methodLink RX2 93 yX4_knows, Cond.instanceMethod yX4_knows, Cond.selects RX4 yX4_knows yX4_knows, Cond.initialized RX4, Cond.code yX4_knows cX4_knows 2 (some .boolean), Cond.fieldLink RX4 15 "JugsAndGlasses$Tour" "level" "[I"]
def wsX2_countWays : List Cond := .code yX2_countWays cX2_countWays 6 none :: ((wsX2_countWays_r1 ++ wsX2_countWays_r2) ++ wsX20 ++ wsX40 ++ wsX10)
def wsX2_nearest : List Cond := .code yX2_nearest cX2_nearest 4 (some .int) :: ([.fieldLink RX2 24 "JugsAndGlasses$Search" "all" "LJugsAndGlasses$Tour;", .fieldLink RX2 78 "JugsAndGlasses$Tour" "reached" "I", .fieldLink RX2 82 "JugsAndGlasses$Tour" "found" "[I", .fieldLink RX2 18 "JugsAndGlasses$Search" "trial" "LJugsAndGlasses$Jugs;", .methodLink RX2 85 yX1_stand, .instanceMethod yX1_stand, .selects RX1 yX1_stand yX1_stand, .initialized RX1, .code yX1_stand cX1_stand 5 none, .fieldLink RX1 9 "JugsAndGlasses$Jugs" "number" "I", .fieldLink RX1 25 "JugsAndGlasses$Jugs" "size" "[I", .fieldLink RX1 29 "JugsAndGlasses$Jugs" "held" "[I", .methodLink RX2 105 yX1_meet, .instanceMethod yX1_meet, .selects RX1 yX1_meet yX1_meet, .code yX1_meet cX1_meet 4 (some .boolean), .methodLink RX1 49 yX1_has, .instanceMethod yX1_has, .selects RX1 yX1_has yX1_has, .code yX1_has cX1_has 2 (some .boolean)] ++ wsX20 ++ wsX40 ++ wsX10)
def wsX3_leastFor : List Cond := .code yX3_leastFor cX3_leastFor 2 (some .int) :: ([.fieldLink RX3 9 "JugsAndGlasses$Spilling" "least" "[I"] ++ wsX30)
def wsX2_thriftiest_r1 : List Cond := [Cond.fieldLink RX2 28 "JugsAndGlasses$Search" "thrifty" "LJugsAndGlasses$Tour;", Cond.fieldLink RX2 78 "JugsAndGlasses$Tour" "reached" "I", Cond.fieldLink RX2 82 "JugsAndGlasses$Tour" "found" "[I", Cond.fieldLink RX2 18 "JugsAndGlasses$Search" "trial" "LJugsAndGlasses$Jugs;", Cond.fieldLink RX2 34 "JugsAndGlasses$Search" "spilling" "LJugsAndGlasses$Spilling;", Cond.methodLink RX2 85 yX1_stand, Cond.instanceMethod yX1_stand, Cond.selects RX1 yX1_stand yX1_stand, Cond.initialized RX1, Cond.code yX1_stand cX1_stand 5 none, Cond.fieldLink RX1 9 "JugsAndGlasses$Jugs" "number" "I", Cond.fieldLink RX1 25 "JugsAndGlasses$Jugs" "size" "[I", Cond.fieldLink RX1 29 "JugsAndGlasses$Jugs" "held" "[I", Cond.methodLink RX2 105 yX1_meet, Cond.instanceMethod yX1_meet, Cond.selects RX1 yX1_meet yX1_meet, Cond.code yX1_meet cX1_meet 4 (some .boolean), Cond.methodLink RX1 49 yX1_has, Cond.instanceMethod yX1_has, Cond.selects RX1 yX1_has yX1_has, Cond.code yX1_has cX1_has 2 (some .boolean), Cond.methodLink RX2 109 yX3_leastFor, Cond.instanceMethod yX3_leastFor, Cond.selects RX3 yX3_leastFor yX3_leastFor]
def wsX2_thriftiest_r2 : List Cond := [Cond.initialized RX3, Cond.code yX3_leastFor cX3_leastFor 2 (some .int), Cond.fieldLink RX3 9 "JugsAndGlasses$Spilling" "least" "[I"]
def wsX2_thriftiest : List Cond := .code yX2_thriftiest cX2_thriftiest 6 (some .int) :: ((wsX2_thriftiest_r1 ++ wsX2_thriftiest_r2) ++ wsX20 ++ wsX40 ++ wsX10 ++ wsX30)
def wsX4_acts : List Cond := .code yX4_acts cX4_acts 2 (some .int) :: ([.fieldLink RX4 15 "JugsAndGlasses$Tour" "level" "[I", .methodLink RX4 69 yX4_knows, .instanceMethod yX4_knows, .selects RX4 yX4_knows yX4_knows, .initialized RX4, .code yX4_knows cX4_knows 2 (some .boolean)] ++ wsX40)
def wsX2_waysTo_r1 : List Cond := [Cond.fieldLink RX2 24 "JugsAndGlasses$Search" "all" "LJugsAndGlasses$Tour;", Cond.fieldLink RX2 78 "JugsAndGlasses$Tour" "reached" "I", Cond.fieldLink RX2 82 "JugsAndGlasses$Tour" "found" "[I", Cond.fieldLink RX2 18 "JugsAndGlasses$Search" "trial" "LJugsAndGlasses$Jugs;", Cond.fieldLink RX2 64 "JugsAndGlasses$Tour" "level" "[I", Cond.constantLong RX2 97 (1000000000000000000), Cond.fieldLink RX2 38 "JugsAndGlasses$Search" "ways" "[J", Cond.methodLink RX2 99 Lib.MathLoose.min_long.x, Cond.static Lib.MathLoose.min_long.x, Cond.initialized "java/lang/Math", Cond.code Lib.MathLoose.min_long.x Lib.MathLoose.min_long.code 4 (some .long), Cond.methodLink RX2 112 yX2_nearest, Cond.instanceMethod yX2_nearest, Cond.selects RX2 yX2_nearest yX2_nearest, Cond.initialized RX2, Cond.code yX2_nearest cX2_nearest 4 (some .int), Cond.methodLink RX2 85 yX1_stand, Cond.instanceMethod yX1_stand, Cond.selects RX1 yX1_stand yX1_stand, Cond.initialized RX1, Cond.code yX1_stand cX1_stand 5 none, Cond.fieldLink RX1 9 "JugsAndGlasses$Jugs" "number" "I", Cond.fieldLink RX1 25 "JugsAndGlasses$Jugs" "size" "[I", Cond.fieldLink RX1 29 "JugsAndGlasses$Jugs" "held" "[I"]
def wsX2_waysTo_r2 : List Cond := [Cond.methodLink RX2 105 yX1_meet, Cond.instanceMethod yX1_meet, Cond.selects RX1 yX1_meet yX1_meet, Cond.code yX1_meet cX1_meet 4 (some .boolean), Cond.methodLink RX1 49 yX1_has, Cond.instanceMethod yX1_has, Cond.selects RX1 yX1_has yX1_has, Cond.code yX1_has cX1_has 2 (some .boolean), Cond.methodLink RX2 116 yX4_acts, Cond.instanceMethod yX4_acts, Cond.selects RX4 yX4_acts yX4_acts, Cond.initialized RX4, Cond.code yX4_acts cX4_acts 2 (some .int), Cond.fieldLink RX4 15 "JugsAndGlasses$Tour" "level" "[I", Cond.methodLink RX4 69 yX4_knows, Cond.instanceMethod yX4_knows, Cond.selects RX4 yX4_knows yX4_knows, Cond.code yX4_knows cX4_knows 2 (some .boolean)]
def wsX2_waysTo : List Cond := .code yX2_waysTo cX2_waysTo 8 (some .long) :: ((wsX2_waysTo_r1 ++ wsX2_waysTo_r2) ++ wsX20 ++ wsX40 ++ wsX10)
def wsX2_allHeld : List Cond := .code yX2_allHeld cX2_allHeld 4 (some .int) :: ([.fieldLink RX2 24 "JugsAndGlasses$Search" "all" "LJugsAndGlasses$Tour;", .fieldLink RX2 78 "JugsAndGlasses$Tour" "reached" "I", .fieldLink RX2 82 "JugsAndGlasses$Tour" "found" "[I", .fieldLink RX2 18 "JugsAndGlasses$Search" "trial" "LJugsAndGlasses$Jugs;", .fieldLink RX2 119 "JugsAndGlasses$Jugs" "number" "I", .fieldLink RX2 122 "JugsAndGlasses$Jugs" "held" "[I", .methodLink RX2 85 yX1_stand, .instanceMethod yX1_stand, .selects RX1 yX1_stand yX1_stand, .initialized RX1, .code yX1_stand cX1_stand 5 none, .fieldLink RX1 9 "JugsAndGlasses$Jugs" "number" "I", .fieldLink RX1 25 "JugsAndGlasses$Jugs" "size" "[I", .fieldLink RX1 29 "JugsAndGlasses$Jugs" "held" "[I"] ++ wsX20 ++ wsX40 ++ wsX10)
def wsX4_actOfRow : List Cond := .code yX4_actOfRow cX4_actOfRow 5 (some .int) :: ([.fieldLink RX4 15 "JugsAndGlasses$Tour" "level" "[I", .fieldLink RX4 18 "JugsAndGlasses$Tour" "cause" "[I", .methodLink RX4 69 yX4_knows, .instanceMethod yX4_knows, .selects RX4 yX4_knows yX4_knows, .initialized RX4, .code yX4_knows cX4_knows 2 (some .boolean)] ++ wsX40)
def wsX5_init_r1 : List Cond := [Cond.methodLink RX5 1 objectInit, Cond.instanceMethod objectInit, Cond.code objectInit ⟨#[0xb1]⟩ 1 none, Cond.classLink RX5 7 RX2, Cond.instantiable RX2 9, Cond.initialized RX2, Cond.fieldLink RX5 10 "JugsAndGlasses" "search" "LJugsAndGlasses$Search;", Cond.fieldLink RX5 16 "JugsAndGlasses$Search" "jugs" "LJugsAndGlasses$Jugs;", Cond.fieldLink RX5 20 "JugsAndGlasses" "jugs" "LJugsAndGlasses$Jugs;", Cond.classLink RX5 21 RX0, Cond.instantiable RX0 12, Cond.initialized RX0, Cond.fieldLink RX5 24 "JugsAndGlasses" "glasses" "LJugsAndGlasses$Glasses;", Cond.instanceMethod yX2_init, Cond.code yX2_init cX2_init 1 none, Cond.methodLink RX2 3 objectInit, Cond.classLink RX2 9 RX1, Cond.instantiable RX1 7, Cond.initialized RX1, Cond.fieldLink RX2 12 "JugsAndGlasses$Search" "jugs" "LJugsAndGlasses$Jugs;", Cond.fieldLink RX2 18 "JugsAndGlasses$Search" "trial" "LJugsAndGlasses$Jugs;", Cond.classLink RX2 21 RX4, Cond.instantiable RX4 4, Cond.initialized RX4]
def wsX5_init_r2 : List Cond := [Cond.fieldLink RX2 24 "JugsAndGlasses$Search" "all" "LJugsAndGlasses$Tour;", Cond.fieldLink RX2 28 "JugsAndGlasses$Search" "thrifty" "LJugsAndGlasses$Tour;", Cond.classLink RX2 31 RX3, Cond.instantiable RX3 2, Cond.initialized RX3, Cond.fieldLink RX2 34 "JugsAndGlasses$Search" "spilling" "LJugsAndGlasses$Spilling;", Cond.arrayClass .long, Cond.fieldLink RX2 38 "JugsAndGlasses$Search" "ways" "[J", Cond.fieldLink RX2 42 "JugsAndGlasses$Search" "explored" "Z", Cond.fieldLink RX2 46 "JugsAndGlasses$Search" "counted" "Z", Cond.fieldLink RX2 49 "JugsAndGlasses$Search" "exploredSparing" "Z", Cond.instanceMethod yX1_init, Cond.code yX1_init cX1_init 1 none, Cond.methodLink RX1 3 objectInit, Cond.fieldLink RX1 9 "JugsAndGlasses$Jugs" "number" "I", Cond.fieldLink RX1 15 "JugsAndGlasses$Jugs" "codes" "I", Cond.fieldLink RX1 18 "JugsAndGlasses$Jugs" "tap" "Z", Cond.fieldLink RX1 22 "JugsAndGlasses$Jugs" "drain" "Z", Cond.arrayClass .int, Cond.fieldLink RX1 25 "JugsAndGlasses$Jugs" "size" "[I", Cond.fieldLink RX1 29 "JugsAndGlasses$Jugs" "held" "[I", Cond.fieldLink RX1 32 "JugsAndGlasses$Jugs" "weight" "[I", Cond.instanceMethod yX4_init, Cond.code yX4_init cX4_init 1 none]
def wsX5_init_r3 : List Cond := [Cond.methodLink RX4 3 objectInit, Cond.fieldLink RX4 9 "JugsAndGlasses$Tour" "found" "[I", Cond.fieldLink RX4 15 "JugsAndGlasses$Tour" "level" "[I", Cond.fieldLink RX4 18 "JugsAndGlasses$Tour" "cause" "[I", Cond.fieldLink RX4 21 "JugsAndGlasses$Tour" "reached" "I", Cond.instanceMethod yX3_init, Cond.code yX3_init cX3_init 1 none, Cond.methodLink RX3 3 objectInit, Cond.fieldLink RX3 9 "JugsAndGlasses$Spilling" "least" "[I", Cond.fieldLink RX3 15 "JugsAndGlasses$Spilling" "work" "[I", Cond.instanceMethod yX0_init, Cond.code yX0_init cX0_init 1 none, Cond.methodLink RX0 3 objectInit, Cond.fieldLink RX0 9 "JugsAndGlasses$Glasses" "number" "I", Cond.fieldLink RX0 15 "JugsAndGlasses$Glasses" "span" "[I", Cond.fieldLink RX0 19 "JugsAndGlasses$Glasses" "waitOf" "[I", Cond.fieldLink RX0 22 "JugsAndGlasses$Glasses" "turnsOf" "[I", Cond.fieldLink RX0 25 "JugsAndGlasses$Glasses" "known" "Z", Cond.fieldLink RX0 29 "JugsAndGlasses$Glasses" "events" "[I", Cond.arrayClass .boolean, Cond.fieldLink RX0 32 "JugsAndGlasses$Glasses" "listed" "[Z", Cond.fieldLink RX0 36 "JugsAndGlasses$Glasses" "listedEvents" "I", Cond.fieldLink RX0 39 "JugsAndGlasses$Glasses" "leap" "[I", Cond.fieldLink RX0 42 "JugsAndGlasses$Glasses" "early" "[I"]
def wsX5_init_r4 : List Cond := [Cond.fieldLink RX0 45 "JugsAndGlasses$Glasses" "turned" "[I", Cond.classLink RX0 48 "[[I", Cond.fieldLink RX0 50 "JugsAndGlasses$Glasses" "ahead" "[[I"]
def wsX5_init : List Cond := .code yX5_init cX5_init 1 none :: ((wsX5_init_r1 ++ (wsX5_init_r2 ++ (wsX5_init_r3 ++ wsX5_init_r4))) ++ wsX20 ++ wsX50 ++ wsX00 ++ wsX10 ++ wsX40 ++ wsX30)
def wsX5_jug : List Cond := .code yX5_jug cX5_jug 3 (some .int) :: ([.fieldLink RX5 20 "JugsAndGlasses" "jugs" "LJugsAndGlasses$Jugs;", .fieldLink RX5 28 "JugsAndGlasses$Jugs" "number" "I", .fieldLink RX5 10 "JugsAndGlasses" "search" "LJugsAndGlasses$Search;", .methodLink RX5 34 yX2_forget, .instanceMethod yX2_forget, .selects RX2 yX2_forget yX2_forget, .initialized RX2, .code yX2_forget cX2_forget 1 none, .fieldLink RX2 42 "JugsAndGlasses$Search" "explored" "Z", .fieldLink RX2 46 "JugsAndGlasses$Search" "counted" "Z", .fieldLink RX2 49 "JugsAndGlasses$Search" "exploredSparing" "Z", .methodLink RX5 37 yX1_add, .instanceMethod yX1_add, .selects RX1 yX1_add yX1_add, .initialized RX1, .code yX1_add cX1_add 3 (some .int), .fieldLink RX1 9 "JugsAndGlasses$Jugs" "number" "I", .fieldLink RX1 25 "JugsAndGlasses$Jugs" "size" "[I", .fieldLink RX1 29 "JugsAndGlasses$Jugs" "held" "[I", .fieldLink RX1 32 "JugsAndGlasses$Jugs" "weight" "[I", .fieldLink RX1 15 "JugsAndGlasses$Jugs" "codes" "I"] ++ wsX50 ++ wsX10 ++ wsX20)
def wsX5_set : List Cond := .code yX5_set cX5_set 4 (some .int) :: ([.fieldLink RX5 20 "JugsAndGlasses" "jugs" "LJugsAndGlasses$Jugs;", .fieldLink RX5 41 "JugsAndGlasses$Jugs" "tap" "Z", .fieldLink RX5 45 "JugsAndGlasses$Jugs" "drain" "Z", .fieldLink RX5 10 "JugsAndGlasses" "search" "LJugsAndGlasses$Search;", .methodLink RX5 34 yX2_forget, .instanceMethod yX2_forget, .selects RX2 yX2_forget yX2_forget, .initialized RX2, .code yX2_forget cX2_forget 1 none, .fieldLink RX2 42 "JugsAndGlasses$Search" "explored" "Z", .fieldLink RX2 46 "JugsAndGlasses$Search" "counted" "Z", .fieldLink RX2 49 "JugsAndGlasses$Search" "exploredSparing" "Z"] ++ wsX50 ++ wsX10 ++ wsX20)
def wsX5_put : List Cond := .code yX5_put cX5_put 4 (some .int) :: ([.fieldLink RX5 20 "JugsAndGlasses" "jugs" "LJugsAndGlasses$Jugs;", .fieldLink RX5 52 "JugsAndGlasses$Jugs" "size" "[I", .fieldLink RX5 56 "JugsAndGlasses$Jugs" "held" "[I", .fieldLink RX5 10 "JugsAndGlasses" "search" "LJugsAndGlasses$Search;", .methodLink RX5 48 yX1_has, .instanceMethod yX1_has, .selects RX1 yX1_has yX1_has, .initialized RX1, .code yX1_has cX1_has 2 (some .boolean), .fieldLink RX1 9 "JugsAndGlasses$Jugs" "number" "I", .methodLink RX5 34 yX2_forget, .instanceMethod yX2_forget, .selects RX2 yX2_forget yX2_forget, .initialized RX2, .code yX2_forget cX2_forget 1 none, .fieldLink RX2 42 "JugsAndGlasses$Search" "explored" "Z", .fieldLink RX2 46 "JugsAndGlasses$Search" "counted" "Z", .fieldLink RX2 49 "JugsAndGlasses$Search" "exploredSparing" "Z"] ++ wsX50 ++ wsX10 ++ wsX20)
def wsX5_holds : List Cond := .code yX5_holds cX5_holds 2 (some .int) :: ([.fieldLink RX5 20 "JugsAndGlasses" "jugs" "LJugsAndGlasses$Jugs;", .fieldLink RX5 56 "JugsAndGlasses$Jugs" "held" "[I", .methodLink RX5 48 yX1_has, .instanceMethod yX1_has, .selects RX1 yX1_has yX1_has, .initialized RX1, .code yX1_has cX1_has 2 (some .boolean), .fieldLink RX1 9 "JugsAndGlasses$Jugs" "number" "I"] ++ wsX50 ++ wsX10)
def wsX5_act_r1 : List Cond := [Cond.fieldLink RX5 20 "JugsAndGlasses" "jugs" "LJugsAndGlasses$Jugs;", Cond.fieldLink RX5 10 "JugsAndGlasses" "search" "LJugsAndGlasses$Search;", Cond.methodLink RX5 59 yX1_haveAct, Cond.instanceMethod yX1_haveAct, Cond.selects RX1 yX1_haveAct yX1_haveAct, Cond.initialized RX1, Cond.code yX1_haveAct cX1_haveAct 2 (some .boolean), Cond.fieldLink RX1 9 "JugsAndGlasses$Jugs" "number" "I", Cond.methodLink RX5 62 yX1_moved, Cond.instanceMethod yX1_moved, Cond.selects RX1 yX1_moved yX1_moved, Cond.code yX1_moved cX1_moved 6 (some .int), Cond.fieldLink RX1 29 "JugsAndGlasses$Jugs" "held" "[I", Cond.fieldLink RX1 18 "JugsAndGlasses$Jugs" "tap" "Z", Cond.fieldLink RX1 25 "JugsAndGlasses$Jugs" "size" "[I", Cond.fieldLink RX1 22 "JugsAndGlasses$Jugs" "drain" "Z", Cond.methodLink RX5 66 yX1_move, Cond.instanceMethod yX1_move, Cond.selects RX1 yX1_move yX1_move, Cond.code yX1_move cX1_move 3 none, Cond.methodLink RX1 41 yX1_haveAct, Cond.methodLink RX5 34 yX2_forget, Cond.instanceMethod yX2_forget, Cond.selects RX2 yX2_forget yX2_forget]
def wsX5_act_r2 : List Cond := [Cond.initialized RX2, Cond.code yX2_forget cX2_forget 1 none, Cond.fieldLink RX2 42 "JugsAndGlasses$Search" "explored" "Z", Cond.fieldLink RX2 46 "JugsAndGlasses$Search" "counted" "Z", Cond.fieldLink RX2 49 "JugsAndGlasses$Search" "exploredSparing" "Z"]
def wsX5_act : List Cond := .code yX5_act cX5_act 3 (some .int) :: ((wsX5_act_r1 ++ wsX5_act_r2) ++ wsX50 ++ wsX10 ++ wsX20)
def wsX5_clear : List Cond := .code yX5_clear cX5_clear 1 (some .int) :: ([.fieldLink RX5 10 "JugsAndGlasses" "search" "LJugsAndGlasses$Search;", .fieldLink RX5 20 "JugsAndGlasses" "jugs" "LJugsAndGlasses$Jugs;", .methodLink RX5 34 yX2_forget, .instanceMethod yX2_forget, .selects RX2 yX2_forget yX2_forget, .initialized RX2, .code yX2_forget cX2_forget 1 none, .fieldLink RX2 42 "JugsAndGlasses$Search" "explored" "Z", .fieldLink RX2 46 "JugsAndGlasses$Search" "counted" "Z", .fieldLink RX2 49 "JugsAndGlasses$Search" "exploredSparing" "Z", .methodLink RX5 70 yX1_removeAll, .instanceMethod yX1_removeAll, .selects RX1 yX1_removeAll yX1_removeAll, .initialized RX1, .code yX1_removeAll cX1_removeAll 2 (some .int), .fieldLink RX1 9 "JugsAndGlasses$Jugs" "number" "I", .fieldLink RX1 15 "JugsAndGlasses$Jugs" "codes" "I"] ++ wsX50 ++ wsX20 ++ wsX10)
def wsX5_isAim : List Cond := .code yX5_isAim cX5_isAim 3 (some .boolean) :: ([.fieldLink RX5 20 "JugsAndGlasses" "jugs" "LJugsAndGlasses$Jugs;", .methodLink RX5 48 yX1_has, .instanceMethod yX1_has, .selects RX1 yX1_has yX1_has, .initialized RX1, .code yX1_has cX1_has 2 (some .boolean), .fieldLink RX1 9 "JugsAndGlasses$Jugs" "number" "I"] ++ wsX50 ++ wsX10)
def wsX5_fewest_r1 : List Cond := [Cond.fieldLink RX5 10 "JugsAndGlasses" "search" "LJugsAndGlasses$Search;", Cond.fieldLink RX5 81 "JugsAndGlasses$Search" "all" "LJugsAndGlasses$Tour;", Cond.methodLink RX5 74 yX5_isAim, Cond.instanceMethod yX5_isAim, Cond.selects RX5 yX5_isAim yX5_isAim, Cond.initialized RX5, Cond.code yX5_isAim cX5_isAim 3 (some .boolean), Cond.fieldLink RX5 20 "JugsAndGlasses" "jugs" "LJugsAndGlasses$Jugs;", Cond.methodLink RX5 48 yX1_has, Cond.instanceMethod yX1_has, Cond.selects RX1 yX1_has yX1_has, Cond.initialized RX1, Cond.code yX1_has cX1_has 2 (some .boolean), Cond.fieldLink RX1 9 "JugsAndGlasses$Jugs" "number" "I", Cond.methodLink RX5 78 yX2_explore, Cond.instanceMethod yX2_explore, Cond.selects RX2 yX2_explore yX2_explore, Cond.initialized RX2, Cond.code yX2_explore cX2_explore 1 none, Cond.fieldLink RX2 42 "JugsAndGlasses$Search" "explored" "Z", Cond.fieldLink RX2 18 "JugsAndGlasses$Search" "trial" "LJugsAndGlasses$Jugs;", Cond.fieldLink RX2 12 "JugsAndGlasses$Search" "jugs" "LJugsAndGlasses$Jugs;", Cond.fieldLink RX2 24 "JugsAndGlasses$Search" "all" "LJugsAndGlasses$Tour;", Cond.methodLink RX2 52 yX1_liken]
def wsX5_fewest_r2 : List Cond := [Cond.instanceMethod yX1_liken, Cond.selects RX1 yX1_liken yX1_liken, Cond.code yX1_liken cX1_liken 3 none, Cond.fieldLink RX1 15 "JugsAndGlasses$Jugs" "codes" "I", Cond.fieldLink RX1 18 "JugsAndGlasses$Jugs" "tap" "Z", Cond.fieldLink RX1 22 "JugsAndGlasses$Jugs" "drain" "Z", Cond.fieldLink RX1 25 "JugsAndGlasses$Jugs" "size" "[I", Cond.fieldLink RX1 29 "JugsAndGlasses$Jugs" "held" "[I", Cond.fieldLink RX1 32 "JugsAndGlasses$Jugs" "weight" "[I", Cond.methodLink RX2 56 yX4_explore, Cond.instanceMethod yX4_explore, Cond.selects RX4 yX4_explore yX4_explore, Cond.initialized RX4, Cond.code yX4_explore cX4_explore 7 none, Cond.fieldLink RX4 35 "JugsAndGlasses$Jugs" "codes" "I", Cond.fieldLink RX4 21 "JugsAndGlasses$Tour" "reached" "I", Cond.fieldLink RX4 9 "JugsAndGlasses$Tour" "found" "[I", Cond.fieldLink RX4 15 "JugsAndGlasses$Tour" "level" "[I", Cond.methodLink RX4 40 yX1_code, Cond.instanceMethod yX1_code, Cond.selects RX1 yX1_code yX1_code, Cond.code yX1_code cX1_code 3 (some .int), Cond.methodLink RX4 44 yX4_start, Cond.instanceMethod yX4_start]
def wsX5_fewest_r3 : List Cond := [Cond.selects RX4 yX4_start yX4_start, Cond.code yX4_start cX4_start 4 none, Cond.arrayClass .int, Cond.fieldLink RX4 18 "JugsAndGlasses$Tour" "cause" "[I", Cond.static yX5_lengthFor, Cond.code yX5_lengthFor cX5_lengthFor 2 (some .int), Cond.methodLink RX5 157 Lib.Math.max.name, Cond.static Lib.Math.max.name, Cond.initialized "java/lang/Math", Cond.code Lib.Math.max.name Lib.Math.max.code 2 (some .int), Cond.methodLink RX5 152 Lib.Math.min.name, Cond.static Lib.Math.min.name, Cond.code Lib.Math.min.name Lib.Math.min.code 2 (some .int), Cond.methodLink RX4 29 yJ7_fill_53178, Cond.static yJ7_fill_53178, Cond.initialized RJ7, Cond.code yJ7_fill_53178 cJ7_fill_53178 4 none, Cond.methodLink RX4 48 yX1_stand, Cond.instanceMethod yX1_stand, Cond.selects RX1 yX1_stand yX1_stand, Cond.code yX1_stand cX1_stand 5 none, Cond.methodLink RX4 52 yX1_shiftBy, Cond.instanceMethod yX1_shiftBy, Cond.selects RX1 yX1_shiftBy yX1_shiftBy]
def wsX5_fewest_r4 : List Cond := [Cond.code yX1_shiftBy cX1_shiftBy 5 (some .int), Cond.methodLink RX1 45 yX1_moved, Cond.instanceMethod yX1_moved, Cond.selects RX1 yX1_moved yX1_moved, Cond.code yX1_moved cX1_moved 6 (some .int), Cond.methodLink RX4 56 yX1_spiltBy, Cond.instanceMethod yX1_spiltBy, Cond.selects RX1 yX1_spiltBy yX1_spiltBy, Cond.code yX1_spiltBy cX1_spiltBy 2 (some .int), Cond.methodLink RX4 59 yX3_isLeast, Cond.instanceMethod yX3_isLeast, Cond.selects RX3 yX3_isLeast yX3_isLeast, Cond.initialized RX3, Cond.code yX3_isLeast cX3_isLeast 4 (some .boolean), Cond.fieldLink RX3 9 "JugsAndGlasses$Spilling" "least" "[I", Cond.methodLink RX4 65 yX4_enter, Cond.instanceMethod yX4_enter, Cond.selects RX4 yX4_enter yX4_enter, Cond.code yX4_enter cX4_enter 4 none, Cond.methodLink RX5 85 yX2_nearest, Cond.instanceMethod yX2_nearest, Cond.selects RX2 yX2_nearest yX2_nearest, Cond.code yX2_nearest cX2_nearest 4 (some .int), Cond.fieldLink RX2 78 "JugsAndGlasses$Tour" "reached" "I"]
def wsX5_fewest_r5 : List Cond := [Cond.fieldLink RX2 82 "JugsAndGlasses$Tour" "found" "[I", Cond.methodLink RX2 85 yX1_stand, Cond.methodLink RX2 105 yX1_meet, Cond.instanceMethod yX1_meet, Cond.selects RX1 yX1_meet yX1_meet, Cond.code yX1_meet cX1_meet 4 (some .boolean), Cond.methodLink RX1 49 yX1_has, Cond.methodLink RX5 88 yX4_acts, Cond.instanceMethod yX4_acts, Cond.selects RX4 yX4_acts yX4_acts, Cond.code yX4_acts cX4_acts 2 (some .int), Cond.methodLink RX4 69 yX4_knows, Cond.instanceMethod yX4_knows, Cond.selects RX4 yX4_knows yX4_knows, Cond.code yX4_knows cX4_knows 2 (some .boolean)]
def wsX5_fewest : List Cond := .code yX5_fewest cX5_fewest 3 (some .int) :: ((wsX5_fewest_r1 ++ (wsX5_fewest_r2 ++ (wsX5_fewest_r3 ++ (wsX5_fewest_r4 ++ wsX5_fewest_r5)))) ++ wsX50 ++ wsX20 ++ wsX10 ++ wsX40 ++ wsX30)
def wsX5_rows_r1 : List Cond := [Cond.constantLong RX5 93 (-2), Cond.fieldLink RX5 10 "JugsAndGlasses" "search" "LJugsAndGlasses$Search;", Cond.methodLink RX5 74 yX5_isAim, Cond.instanceMethod yX5_isAim, Cond.selects RX5 yX5_isAim yX5_isAim, Cond.initialized RX5, Cond.code yX5_isAim cX5_isAim 3 (some .boolean), Cond.fieldLink RX5 20 "JugsAndGlasses" "jugs" "LJugsAndGlasses$Jugs;", Cond.methodLink RX5 48 yX1_has, Cond.instanceMethod yX1_has, Cond.selects RX1 yX1_has yX1_has, Cond.initialized RX1, Cond.code yX1_has cX1_has 2 (some .boolean), Cond.fieldLink RX1 9 "JugsAndGlasses$Jugs" "number" "I", Cond.methodLink RX5 78 yX2_explore, Cond.instanceMethod yX2_explore, Cond.selects RX2 yX2_explore yX2_explore, Cond.initialized RX2, Cond.code yX2_explore cX2_explore 1 none, Cond.fieldLink RX2 42 "JugsAndGlasses$Search" "explored" "Z", Cond.fieldLink RX2 18 "JugsAndGlasses$Search" "trial" "LJugsAndGlasses$Jugs;", Cond.fieldLink RX2 12 "JugsAndGlasses$Search" "jugs" "LJugsAndGlasses$Jugs;", Cond.fieldLink RX2 24 "JugsAndGlasses$Search" "all" "LJugsAndGlasses$Tour;", Cond.methodLink RX2 52 yX1_liken]
def wsX5_rows_r2 : List Cond := [Cond.instanceMethod yX1_liken, Cond.selects RX1 yX1_liken yX1_liken, Cond.code yX1_liken cX1_liken 3 none, Cond.fieldLink RX1 15 "JugsAndGlasses$Jugs" "codes" "I", Cond.fieldLink RX1 18 "JugsAndGlasses$Jugs" "tap" "Z", Cond.fieldLink RX1 22 "JugsAndGlasses$Jugs" "drain" "Z", Cond.fieldLink RX1 25 "JugsAndGlasses$Jugs" "size" "[I", Cond.fieldLink RX1 29 "JugsAndGlasses$Jugs" "held" "[I", Cond.fieldLink RX1 32 "JugsAndGlasses$Jugs" "weight" "[I", Cond.methodLink RX2 56 yX4_explore, Cond.instanceMethod yX4_explore, Cond.selects RX4 yX4_explore yX4_explore, Cond.initialized RX4, Cond.code yX4_explore cX4_explore 7 none, Cond.fieldLink RX4 35 "JugsAndGlasses$Jugs" "codes" "I", Cond.fieldLink RX4 21 "JugsAndGlasses$Tour" "reached" "I", Cond.fieldLink RX4 9 "JugsAndGlasses$Tour" "found" "[I", Cond.fieldLink RX4 15 "JugsAndGlasses$Tour" "level" "[I", Cond.methodLink RX4 40 yX1_code, Cond.instanceMethod yX1_code, Cond.selects RX1 yX1_code yX1_code, Cond.code yX1_code cX1_code 3 (some .int), Cond.methodLink RX4 44 yX4_start, Cond.instanceMethod yX4_start]
def wsX5_rows_r3 : List Cond := [Cond.selects RX4 yX4_start yX4_start, Cond.code yX4_start cX4_start 4 none, Cond.arrayClass .int, Cond.fieldLink RX4 18 "JugsAndGlasses$Tour" "cause" "[I", Cond.static yX5_lengthFor, Cond.code yX5_lengthFor cX5_lengthFor 2 (some .int), Cond.methodLink RX5 157 Lib.Math.max.name, Cond.static Lib.Math.max.name, Cond.initialized "java/lang/Math", Cond.code Lib.Math.max.name Lib.Math.max.code 2 (some .int), Cond.methodLink RX5 152 Lib.Math.min.name, Cond.static Lib.Math.min.name, Cond.code Lib.Math.min.name Lib.Math.min.code 2 (some .int), Cond.methodLink RX4 29 yJ7_fill_53178, Cond.static yJ7_fill_53178, Cond.initialized RJ7, Cond.code yJ7_fill_53178 cJ7_fill_53178 4 none, Cond.methodLink RX4 48 yX1_stand, Cond.instanceMethod yX1_stand, Cond.selects RX1 yX1_stand yX1_stand, Cond.code yX1_stand cX1_stand 5 none, Cond.methodLink RX4 52 yX1_shiftBy, Cond.instanceMethod yX1_shiftBy, Cond.selects RX1 yX1_shiftBy yX1_shiftBy]
def wsX5_rows_r4 : List Cond := [Cond.code yX1_shiftBy cX1_shiftBy 5 (some .int), Cond.methodLink RX1 45 yX1_moved, Cond.instanceMethod yX1_moved, Cond.selects RX1 yX1_moved yX1_moved, Cond.code yX1_moved cX1_moved 6 (some .int), Cond.methodLink RX4 56 yX1_spiltBy, Cond.instanceMethod yX1_spiltBy, Cond.selects RX1 yX1_spiltBy yX1_spiltBy, Cond.code yX1_spiltBy cX1_spiltBy 2 (some .int), Cond.methodLink RX4 59 yX3_isLeast, Cond.instanceMethod yX3_isLeast, Cond.selects RX3 yX3_isLeast yX3_isLeast, Cond.initialized RX3, Cond.code yX3_isLeast cX3_isLeast 4 (some .boolean), Cond.fieldLink RX3 9 "JugsAndGlasses$Spilling" "least" "[I", Cond.methodLink RX4 65 yX4_enter, Cond.instanceMethod yX4_enter, Cond.selects RX4 yX4_enter yX4_enter, Cond.code yX4_enter cX4_enter 4 none, Cond.methodLink RX5 95 yX2_countWays, Cond.instanceMethod yX2_countWays, Cond.selects RX2 yX2_countWays yX2_countWays, Cond.code yX2_countWays cX2_countWays 6 none, Cond.fieldLink RX2 46 "JugsAndGlasses$Search" "counted" "Z"]
def wsX5_rows_r5 : List Cond := [Cond.fieldLink RX2 38 "JugsAndGlasses$Search" "ways" "[J", Cond.fieldLink RX2 64 "JugsAndGlasses$Tour" "level" "[I", Cond.arrayClass .long, Cond.fieldLink RX2 78 "JugsAndGlasses$Tour" "reached" "I", Cond.fieldLink RX2 82 "JugsAndGlasses$Tour" "found" "[I", Cond.constantLong RX2 97 (1000000000000000000), Cond.methodLink RX2 99 Lib.MathLoose.min_long.x, Cond.static Lib.MathLoose.min_long.x, Cond.code Lib.MathLoose.min_long.x Lib.MathLoose.min_long.code 4 (some .long), Cond.methodLink RX2 68 yJ7_fill_d0a16, Cond.static yJ7_fill_d0a16, Cond.code yJ7_fill_d0a16 cJ7_fill_d0a16 5 none, Cond.methodLink RX2 74 yX1_code, Cond.methodLink RX2 85 yX1_stand, Cond.methodLink RX2 89 yX1_shiftBy, Cond.methodLink RX2 93 yX4_knows, Cond.instanceMethod yX4_knows, Cond.selects RX4 yX4_knows yX4_knows, Cond.code yX4_knows cX4_knows 2 (some .boolean), Cond.methodLink RX5 98 yX2_waysTo, Cond.instanceMethod yX2_waysTo, Cond.selects RX2 yX2_waysTo yX2_waysTo, Cond.code yX2_waysTo cX2_waysTo 8 (some .long), Cond.methodLink RX2 112 yX2_nearest]
def wsX5_rows_r6 : List Cond := [Cond.instanceMethod yX2_nearest, Cond.selects RX2 yX2_nearest yX2_nearest, Cond.code yX2_nearest cX2_nearest 4 (some .int), Cond.methodLink RX2 105 yX1_meet, Cond.instanceMethod yX1_meet, Cond.selects RX1 yX1_meet yX1_meet, Cond.code yX1_meet cX1_meet 4 (some .boolean), Cond.methodLink RX1 49 yX1_has, Cond.methodLink RX2 116 yX4_acts, Cond.instanceMethod yX4_acts, Cond.selects RX4 yX4_acts yX4_acts, Cond.code yX4_acts cX4_acts 2 (some .int), Cond.methodLink RX4 69 yX4_knows]
def wsX5_rows : List Cond := .code yX5_rows cX5_rows 3 (some .long) :: ((wsX5_rows_r1 ++ (wsX5_rows_r2 ++ (wsX5_rows_r3 ++ (wsX5_rows_r4 ++ (wsX5_rows_r5 ++ wsX5_rows_r6))))) ++ wsX50 ++ wsX10 ++ wsX20 ++ wsX40 ++ wsX30)
def wsX5_best_r1 : List Cond := [Cond.fieldLink RX5 10 "JugsAndGlasses" "search" "LJugsAndGlasses$Search;", Cond.fieldLink RX5 81 "JugsAndGlasses$Search" "all" "LJugsAndGlasses$Tour;", Cond.methodLink RX5 74 yX5_isAim, Cond.instanceMethod yX5_isAim, Cond.selects RX5 yX5_isAim yX5_isAim, Cond.initialized RX5, Cond.code yX5_isAim cX5_isAim 3 (some .boolean), Cond.fieldLink RX5 20 "JugsAndGlasses" "jugs" "LJugsAndGlasses$Jugs;", Cond.methodLink RX5 48 yX1_has, Cond.instanceMethod yX1_has, Cond.selects RX1 yX1_has yX1_has, Cond.initialized RX1, Cond.code yX1_has cX1_has 2 (some .boolean), Cond.fieldLink RX1 9 "JugsAndGlasses$Jugs" "number" "I", Cond.methodLink RX5 78 yX2_explore, Cond.instanceMethod yX2_explore, Cond.selects RX2 yX2_explore yX2_explore, Cond.initialized RX2, Cond.code yX2_explore cX2_explore 1 none, Cond.fieldLink RX2 42 "JugsAndGlasses$Search" "explored" "Z", Cond.fieldLink RX2 18 "JugsAndGlasses$Search" "trial" "LJugsAndGlasses$Jugs;", Cond.fieldLink RX2 12 "JugsAndGlasses$Search" "jugs" "LJugsAndGlasses$Jugs;", Cond.fieldLink RX2 24 "JugsAndGlasses$Search" "all" "LJugsAndGlasses$Tour;", Cond.methodLink RX2 52 yX1_liken]
def wsX5_best_r2 : List Cond := [Cond.instanceMethod yX1_liken, Cond.selects RX1 yX1_liken yX1_liken, Cond.code yX1_liken cX1_liken 3 none, Cond.fieldLink RX1 15 "JugsAndGlasses$Jugs" "codes" "I", Cond.fieldLink RX1 18 "JugsAndGlasses$Jugs" "tap" "Z", Cond.fieldLink RX1 22 "JugsAndGlasses$Jugs" "drain" "Z", Cond.fieldLink RX1 25 "JugsAndGlasses$Jugs" "size" "[I", Cond.fieldLink RX1 29 "JugsAndGlasses$Jugs" "held" "[I", Cond.fieldLink RX1 32 "JugsAndGlasses$Jugs" "weight" "[I", Cond.methodLink RX2 56 yX4_explore, Cond.instanceMethod yX4_explore, Cond.selects RX4 yX4_explore yX4_explore, Cond.initialized RX4, Cond.code yX4_explore cX4_explore 7 none, Cond.fieldLink RX4 35 "JugsAndGlasses$Jugs" "codes" "I", Cond.fieldLink RX4 21 "JugsAndGlasses$Tour" "reached" "I", Cond.fieldLink RX4 9 "JugsAndGlasses$Tour" "found" "[I", Cond.fieldLink RX4 15 "JugsAndGlasses$Tour" "level" "[I", Cond.methodLink RX4 40 yX1_code, Cond.instanceMethod yX1_code, Cond.selects RX1 yX1_code yX1_code, Cond.code yX1_code cX1_code 3 (some .int), Cond.methodLink RX4 44 yX4_start, Cond.instanceMethod yX4_start]
def wsX5_best_r3 : List Cond := [Cond.selects RX4 yX4_start yX4_start, Cond.code yX4_start cX4_start 4 none, Cond.arrayClass .int, Cond.fieldLink RX4 18 "JugsAndGlasses$Tour" "cause" "[I", Cond.static yX5_lengthFor, Cond.code yX5_lengthFor cX5_lengthFor 2 (some .int), Cond.methodLink RX5 157 Lib.Math.max.name, Cond.static Lib.Math.max.name, Cond.initialized "java/lang/Math", Cond.code Lib.Math.max.name Lib.Math.max.code 2 (some .int), Cond.methodLink RX5 152 Lib.Math.min.name, Cond.static Lib.Math.min.name, Cond.code Lib.Math.min.name Lib.Math.min.code 2 (some .int), Cond.methodLink RX4 29 yJ7_fill_53178, Cond.static yJ7_fill_53178, Cond.initialized RJ7, Cond.code yJ7_fill_53178 cJ7_fill_53178 4 none, Cond.methodLink RX4 48 yX1_stand, Cond.instanceMethod yX1_stand, Cond.selects RX1 yX1_stand yX1_stand, Cond.code yX1_stand cX1_stand 5 none, Cond.methodLink RX4 52 yX1_shiftBy, Cond.instanceMethod yX1_shiftBy, Cond.selects RX1 yX1_shiftBy yX1_shiftBy]
def wsX5_best_r4 : List Cond := [Cond.code yX1_shiftBy cX1_shiftBy 5 (some .int), Cond.methodLink RX1 45 yX1_moved, Cond.instanceMethod yX1_moved, Cond.selects RX1 yX1_moved yX1_moved, Cond.code yX1_moved cX1_moved 6 (some .int), Cond.methodLink RX4 56 yX1_spiltBy, Cond.instanceMethod yX1_spiltBy, Cond.selects RX1 yX1_spiltBy yX1_spiltBy, Cond.code yX1_spiltBy cX1_spiltBy 2 (some .int), Cond.methodLink RX4 59 yX3_isLeast, Cond.instanceMethod yX3_isLeast, Cond.selects RX3 yX3_isLeast yX3_isLeast, Cond.initialized RX3, Cond.code yX3_isLeast cX3_isLeast 4 (some .boolean), Cond.fieldLink RX3 9 "JugsAndGlasses$Spilling" "least" "[I", Cond.methodLink RX4 65 yX4_enter, Cond.instanceMethod yX4_enter, Cond.selects RX4 yX4_enter yX4_enter, Cond.code yX4_enter cX4_enter 4 none, Cond.methodLink RX5 85 yX2_nearest, Cond.instanceMethod yX2_nearest, Cond.selects RX2 yX2_nearest yX2_nearest, Cond.code yX2_nearest cX2_nearest 4 (some .int), Cond.fieldLink RX2 78 "JugsAndGlasses$Tour" "reached" "I"]
def wsX5_best_r5 : List Cond := [Cond.fieldLink RX2 82 "JugsAndGlasses$Tour" "found" "[I", Cond.methodLink RX2 85 yX1_stand, Cond.methodLink RX2 105 yX1_meet, Cond.instanceMethod yX1_meet, Cond.selects RX1 yX1_meet yX1_meet, Cond.code yX1_meet cX1_meet 4 (some .boolean), Cond.methodLink RX1 49 yX1_has, Cond.methodLink RX5 102 yX4_actOfRow, Cond.instanceMethod yX4_actOfRow, Cond.selects RX4 yX4_actOfRow yX4_actOfRow, Cond.code yX4_actOfRow cX4_actOfRow 5 (some .int), Cond.methodLink RX4 69 yX4_knows, Cond.instanceMethod yX4_knows, Cond.selects RX4 yX4_knows yX4_knows, Cond.code yX4_knows cX4_knows 2 (some .boolean)]
def wsX5_best : List Cond := .code yX5_best cX5_best 4 (some .int) :: ((wsX5_best_r1 ++ (wsX5_best_r2 ++ (wsX5_best_r3 ++ (wsX5_best_r4 ++ wsX5_best_r5)))) ++ wsX50 ++ wsX20 ++ wsX10 ++ wsX40 ++ wsX30)
def wsX5_sparing_r1 : List Cond := [Cond.fieldLink RX5 10 "JugsAndGlasses" "search" "LJugsAndGlasses$Search;", Cond.fieldLink RX5 111 "JugsAndGlasses$Search" "spilling" "LJugsAndGlasses$Spilling;", Cond.fieldLink RX5 120 "JugsAndGlasses$Search" "thrifty" "LJugsAndGlasses$Tour;", Cond.methodLink RX5 74 yX5_isAim, Cond.instanceMethod yX5_isAim, Cond.selects RX5 yX5_isAim yX5_isAim, Cond.initialized RX5, Cond.code yX5_isAim cX5_isAim 3 (some .boolean), Cond.fieldLink RX5 20 "JugsAndGlasses" "jugs" "LJugsAndGlasses$Jugs;", Cond.methodLink RX5 48 yX1_has, Cond.instanceMethod yX1_has, Cond.selects RX1 yX1_has yX1_has, Cond.initialized RX1, Cond.code yX1_has cX1_has 2 (some .boolean), Cond.fieldLink RX1 9 "JugsAndGlasses$Jugs" "number" "I", Cond.methodLink RX5 78 yX2_explore, Cond.instanceMethod yX2_explore, Cond.selects RX2 yX2_explore yX2_explore, Cond.initialized RX2, Cond.code yX2_explore cX2_explore 1 none, Cond.fieldLink RX2 42 "JugsAndGlasses$Search" "explored" "Z", Cond.fieldLink RX2 18 "JugsAndGlasses$Search" "trial" "LJugsAndGlasses$Jugs;", Cond.fieldLink RX2 12 "JugsAndGlasses$Search" "jugs" "LJugsAndGlasses$Jugs;", Cond.fieldLink RX2 24 "JugsAndGlasses$Search" "all" "LJugsAndGlasses$Tour;"]
def wsX5_sparing_r2 : List Cond := [Cond.methodLink RX2 52 yX1_liken, Cond.instanceMethod yX1_liken, Cond.selects RX1 yX1_liken yX1_liken, Cond.code yX1_liken cX1_liken 3 none, Cond.fieldLink RX1 15 "JugsAndGlasses$Jugs" "codes" "I", Cond.fieldLink RX1 18 "JugsAndGlasses$Jugs" "tap" "Z", Cond.fieldLink RX1 22 "JugsAndGlasses$Jugs" "drain" "Z", Cond.fieldLink RX1 25 "JugsAndGlasses$Jugs" "size" "[I", Cond.fieldLink RX1 29 "JugsAndGlasses$Jugs" "held" "[I", Cond.fieldLink RX1 32 "JugsAndGlasses$Jugs" "weight" "[I", Cond.methodLink RX2 56 yX4_explore, Cond.instanceMethod yX4_explore, Cond.selects RX4 yX4_explore yX4_explore, Cond.initialized RX4, Cond.code yX4_explore cX4_explore 7 none, Cond.fieldLink RX4 35 "JugsAndGlasses$Jugs" "codes" "I", Cond.fieldLink RX4 21 "JugsAndGlasses$Tour" "reached" "I", Cond.fieldLink RX4 9 "JugsAndGlasses$Tour" "found" "[I", Cond.fieldLink RX4 15 "JugsAndGlasses$Tour" "level" "[I", Cond.methodLink RX4 40 yX1_code, Cond.instanceMethod yX1_code, Cond.selects RX1 yX1_code yX1_code, Cond.code yX1_code cX1_code 3 (some .int), Cond.methodLink RX4 44 yX4_start]
def wsX5_sparing_r3 : List Cond := [Cond.instanceMethod yX4_start, Cond.selects RX4 yX4_start yX4_start, Cond.code yX4_start cX4_start 4 none, Cond.arrayClass .int, Cond.fieldLink RX4 18 "JugsAndGlasses$Tour" "cause" "[I", Cond.static yX5_lengthFor, Cond.code yX5_lengthFor cX5_lengthFor 2 (some .int), Cond.methodLink RX5 157 Lib.Math.max.name, Cond.static Lib.Math.max.name, Cond.initialized "java/lang/Math", Cond.code Lib.Math.max.name Lib.Math.max.code 2 (some .int), Cond.methodLink RX5 152 Lib.Math.min.name, Cond.static Lib.Math.min.name, Cond.code Lib.Math.min.name Lib.Math.min.code 2 (some .int), Cond.methodLink RX4 29 yJ7_fill_53178, Cond.static yJ7_fill_53178, Cond.initialized RJ7, Cond.code yJ7_fill_53178 cJ7_fill_53178 4 none, Cond.methodLink RX4 48 yX1_stand, Cond.instanceMethod yX1_stand, Cond.selects RX1 yX1_stand yX1_stand, Cond.code yX1_stand cX1_stand 5 none, Cond.methodLink RX4 52 yX1_shiftBy, Cond.instanceMethod yX1_shiftBy]
def wsX5_sparing_r4 : List Cond := [Cond.selects RX1 yX1_shiftBy yX1_shiftBy, Cond.code yX1_shiftBy cX1_shiftBy 5 (some .int), Cond.methodLink RX1 45 yX1_moved, Cond.instanceMethod yX1_moved, Cond.selects RX1 yX1_moved yX1_moved, Cond.code yX1_moved cX1_moved 6 (some .int), Cond.methodLink RX4 56 yX1_spiltBy, Cond.instanceMethod yX1_spiltBy, Cond.selects RX1 yX1_spiltBy yX1_spiltBy, Cond.code yX1_spiltBy cX1_spiltBy 2 (some .int), Cond.methodLink RX4 59 yX3_isLeast, Cond.instanceMethod yX3_isLeast, Cond.selects RX3 yX3_isLeast yX3_isLeast, Cond.initialized RX3, Cond.code yX3_isLeast cX3_isLeast 4 (some .boolean), Cond.fieldLink RX3 9 "JugsAndGlasses$Spilling" "least" "[I", Cond.methodLink RX4 65 yX4_enter, Cond.instanceMethod yX4_enter, Cond.selects RX4 yX4_enter yX4_enter, Cond.code yX4_enter cX4_enter 4 none, Cond.methodLink RX5 105 yX2_exploreSparing, Cond.instanceMethod yX2_exploreSparing, Cond.selects RX2 yX2_exploreSparing yX2_exploreSparing, Cond.code yX2_exploreSparing cX2_exploreSparing 1 none]
def wsX5_sparing_r5 : List Cond := [Cond.fieldLink RX2 49 "JugsAndGlasses$Search" "exploredSparing" "Z", Cond.fieldLink RX2 34 "JugsAndGlasses$Search" "spilling" "LJugsAndGlasses$Spilling;", Cond.fieldLink RX2 28 "JugsAndGlasses$Search" "thrifty" "LJugsAndGlasses$Tour;", Cond.methodLink RX2 60 yX3_measure, Cond.instanceMethod yX3_measure, Cond.selects RX3 yX3_measure yX3_measure, Cond.code yX3_measure cX3_measure 6 none, Cond.fieldLink RX3 18 "JugsAndGlasses$Tour" "level" "[I", Cond.fieldLink RX3 15 "JugsAndGlasses$Spilling" "work" "[I", Cond.constant RX3 23 (1000000), Cond.fieldLink RX3 36 "JugsAndGlasses$Tour" "reached" "I", Cond.methodLink RX3 24 yJ7_fill_53178, Cond.methodLink RX3 30 yX1_code, Cond.methodLink RX3 40 yX3_settle, Cond.instanceMethod yX3_settle, Cond.selects RX3 yX3_settle yX3_settle, Cond.code yX3_settle cX3_settle 10 (some .int), Cond.fieldLink RX3 44 "JugsAndGlasses$Tour" "found" "[I", Cond.methodLink RX3 47 yX1_stand, Cond.methodLink RX3 51 yX1_shiftBy, Cond.methodLink RX3 55 yX1_spiltBy, Cond.methodLink RX5 108 yX2_thriftiest, Cond.instanceMethod yX2_thriftiest, Cond.selects RX2 yX2_thriftiest yX2_thriftiest]
def wsX5_sparing_r6 : List Cond := [Cond.code yX2_thriftiest cX2_thriftiest 6 (some .int), Cond.fieldLink RX2 78 "JugsAndGlasses$Tour" "reached" "I", Cond.fieldLink RX2 82 "JugsAndGlasses$Tour" "found" "[I", Cond.methodLink RX2 85 yX1_stand, Cond.methodLink RX2 105 yX1_meet, Cond.instanceMethod yX1_meet, Cond.selects RX1 yX1_meet yX1_meet, Cond.code yX1_meet cX1_meet 4 (some .boolean), Cond.methodLink RX1 49 yX1_has, Cond.methodLink RX2 109 yX3_leastFor, Cond.instanceMethod yX3_leastFor, Cond.selects RX3 yX3_leastFor yX3_leastFor, Cond.code yX3_leastFor cX3_leastFor 2 (some .int), Cond.methodLink RX5 115 yX3_leastFor, Cond.methodLink RX5 88 yX4_acts, Cond.instanceMethod yX4_acts, Cond.selects RX4 yX4_acts yX4_acts, Cond.code yX4_acts cX4_acts 2 (some .int), Cond.methodLink RX4 69 yX4_knows, Cond.instanceMethod yX4_knows, Cond.selects RX4 yX4_knows yX4_knows, Cond.code yX4_knows cX4_knows 2 (some .boolean)]
def wsX5_sparing : List Cond := .code yX5_sparing cX5_sparing 5 (some .int) :: ((wsX5_sparing_r1 ++ (wsX5_sparing_r2 ++ (wsX5_sparing_r3 ++ (wsX5_sparing_r4 ++ (wsX5_sparing_r5 ++ wsX5_sparing_r6))))) ++ wsX50 ++ wsX20 ++ wsX10 ++ wsX40 ++ wsX30)
def wsX5_spare_r1 : List Cond := [Cond.fieldLink RX5 10 "JugsAndGlasses" "search" "LJugsAndGlasses$Search;", Cond.fieldLink RX5 120 "JugsAndGlasses$Search" "thrifty" "LJugsAndGlasses$Tour;", Cond.methodLink RX5 74 yX5_isAim, Cond.instanceMethod yX5_isAim, Cond.selects RX5 yX5_isAim yX5_isAim, Cond.initialized RX5, Cond.code yX5_isAim cX5_isAim 3 (some .boolean), Cond.fieldLink RX5 20 "JugsAndGlasses" "jugs" "LJugsAndGlasses$Jugs;", Cond.methodLink RX5 48 yX1_has, Cond.instanceMethod yX1_has, Cond.selects RX1 yX1_has yX1_has, Cond.initialized RX1, Cond.code yX1_has cX1_has 2 (some .boolean), Cond.fieldLink RX1 9 "JugsAndGlasses$Jugs" "number" "I", Cond.methodLink RX5 78 yX2_explore, Cond.instanceMethod yX2_explore, Cond.selects RX2 yX2_explore yX2_explore, Cond.initialized RX2, Cond.code yX2_explore cX2_explore 1 none, Cond.fieldLink RX2 42 "JugsAndGlasses$Search" "explored" "Z", Cond.fieldLink RX2 18 "JugsAndGlasses$Search" "trial" "LJugsAndGlasses$Jugs;", Cond.fieldLink RX2 12 "JugsAndGlasses$Search" "jugs" "LJugsAndGlasses$Jugs;", Cond.fieldLink RX2 24 "JugsAndGlasses$Search" "all" "LJugsAndGlasses$Tour;", Cond.methodLink RX2 52 yX1_liken]
def wsX5_spare_r2 : List Cond := [Cond.instanceMethod yX1_liken, Cond.selects RX1 yX1_liken yX1_liken, Cond.code yX1_liken cX1_liken 3 none, Cond.fieldLink RX1 15 "JugsAndGlasses$Jugs" "codes" "I", Cond.fieldLink RX1 18 "JugsAndGlasses$Jugs" "tap" "Z", Cond.fieldLink RX1 22 "JugsAndGlasses$Jugs" "drain" "Z", Cond.fieldLink RX1 25 "JugsAndGlasses$Jugs" "size" "[I", Cond.fieldLink RX1 29 "JugsAndGlasses$Jugs" "held" "[I", Cond.fieldLink RX1 32 "JugsAndGlasses$Jugs" "weight" "[I", Cond.methodLink RX2 56 yX4_explore, Cond.instanceMethod yX4_explore, Cond.selects RX4 yX4_explore yX4_explore, Cond.initialized RX4, Cond.code yX4_explore cX4_explore 7 none, Cond.fieldLink RX4 35 "JugsAndGlasses$Jugs" "codes" "I", Cond.fieldLink RX4 21 "JugsAndGlasses$Tour" "reached" "I", Cond.fieldLink RX4 9 "JugsAndGlasses$Tour" "found" "[I", Cond.fieldLink RX4 15 "JugsAndGlasses$Tour" "level" "[I", Cond.methodLink RX4 40 yX1_code, Cond.instanceMethod yX1_code, Cond.selects RX1 yX1_code yX1_code, Cond.code yX1_code cX1_code 3 (some .int), Cond.methodLink RX4 44 yX4_start, Cond.instanceMethod yX4_start]
def wsX5_spare_r3 : List Cond := [Cond.selects RX4 yX4_start yX4_start, Cond.code yX4_start cX4_start 4 none, Cond.arrayClass .int, Cond.fieldLink RX4 18 "JugsAndGlasses$Tour" "cause" "[I", Cond.static yX5_lengthFor, Cond.code yX5_lengthFor cX5_lengthFor 2 (some .int), Cond.methodLink RX5 157 Lib.Math.max.name, Cond.static Lib.Math.max.name, Cond.initialized "java/lang/Math", Cond.code Lib.Math.max.name Lib.Math.max.code 2 (some .int), Cond.methodLink RX5 152 Lib.Math.min.name, Cond.static Lib.Math.min.name, Cond.code Lib.Math.min.name Lib.Math.min.code 2 (some .int), Cond.methodLink RX4 29 yJ7_fill_53178, Cond.static yJ7_fill_53178, Cond.initialized RJ7, Cond.code yJ7_fill_53178 cJ7_fill_53178 4 none, Cond.methodLink RX4 48 yX1_stand, Cond.instanceMethod yX1_stand, Cond.selects RX1 yX1_stand yX1_stand, Cond.code yX1_stand cX1_stand 5 none, Cond.methodLink RX4 52 yX1_shiftBy, Cond.instanceMethod yX1_shiftBy, Cond.selects RX1 yX1_shiftBy yX1_shiftBy]
def wsX5_spare_r4 : List Cond := [Cond.code yX1_shiftBy cX1_shiftBy 5 (some .int), Cond.methodLink RX1 45 yX1_moved, Cond.instanceMethod yX1_moved, Cond.selects RX1 yX1_moved yX1_moved, Cond.code yX1_moved cX1_moved 6 (some .int), Cond.methodLink RX4 56 yX1_spiltBy, Cond.instanceMethod yX1_spiltBy, Cond.selects RX1 yX1_spiltBy yX1_spiltBy, Cond.code yX1_spiltBy cX1_spiltBy 2 (some .int), Cond.methodLink RX4 59 yX3_isLeast, Cond.instanceMethod yX3_isLeast, Cond.selects RX3 yX3_isLeast yX3_isLeast, Cond.initialized RX3, Cond.code yX3_isLeast cX3_isLeast 4 (some .boolean), Cond.fieldLink RX3 9 "JugsAndGlasses$Spilling" "least" "[I", Cond.methodLink RX4 65 yX4_enter, Cond.instanceMethod yX4_enter, Cond.selects RX4 yX4_enter yX4_enter, Cond.code yX4_enter cX4_enter 4 none, Cond.methodLink RX5 105 yX2_exploreSparing, Cond.instanceMethod yX2_exploreSparing, Cond.selects RX2 yX2_exploreSparing yX2_exploreSparing, Cond.code yX2_exploreSparing cX2_exploreSparing 1 none, Cond.fieldLink RX2 49 "JugsAndGlasses$Search" "exploredSparing" "Z"]
def wsX5_spare_r5 : List Cond := [Cond.fieldLink RX2 34 "JugsAndGlasses$Search" "spilling" "LJugsAndGlasses$Spilling;", Cond.fieldLink RX2 28 "JugsAndGlasses$Search" "thrifty" "LJugsAndGlasses$Tour;", Cond.methodLink RX2 60 yX3_measure, Cond.instanceMethod yX3_measure, Cond.selects RX3 yX3_measure yX3_measure, Cond.code yX3_measure cX3_measure 6 none, Cond.fieldLink RX3 18 "JugsAndGlasses$Tour" "level" "[I", Cond.fieldLink RX3 15 "JugsAndGlasses$Spilling" "work" "[I", Cond.constant RX3 23 (1000000), Cond.fieldLink RX3 36 "JugsAndGlasses$Tour" "reached" "I", Cond.methodLink RX3 24 yJ7_fill_53178, Cond.methodLink RX3 30 yX1_code, Cond.methodLink RX3 40 yX3_settle, Cond.instanceMethod yX3_settle, Cond.selects RX3 yX3_settle yX3_settle, Cond.code yX3_settle cX3_settle 10 (some .int), Cond.fieldLink RX3 44 "JugsAndGlasses$Tour" "found" "[I", Cond.methodLink RX3 47 yX1_stand, Cond.methodLink RX3 51 yX1_shiftBy, Cond.methodLink RX3 55 yX1_spiltBy, Cond.methodLink RX5 108 yX2_thriftiest, Cond.instanceMethod yX2_thriftiest, Cond.selects RX2 yX2_thriftiest yX2_thriftiest, Cond.code yX2_thriftiest cX2_thriftiest 6 (some .int)]
def wsX5_spare_r6 : List Cond := [Cond.fieldLink RX2 78 "JugsAndGlasses$Tour" "reached" "I", Cond.fieldLink RX2 82 "JugsAndGlasses$Tour" "found" "[I", Cond.methodLink RX2 85 yX1_stand, Cond.methodLink RX2 105 yX1_meet, Cond.instanceMethod yX1_meet, Cond.selects RX1 yX1_meet yX1_meet, Cond.code yX1_meet cX1_meet 4 (some .boolean), Cond.methodLink RX1 49 yX1_has, Cond.methodLink RX2 109 yX3_leastFor, Cond.instanceMethod yX3_leastFor, Cond.selects RX3 yX3_leastFor yX3_leastFor, Cond.code yX3_leastFor cX3_leastFor 2 (some .int), Cond.methodLink RX5 102 yX4_actOfRow, Cond.instanceMethod yX4_actOfRow, Cond.selects RX4 yX4_actOfRow yX4_actOfRow, Cond.code yX4_actOfRow cX4_actOfRow 5 (some .int), Cond.methodLink RX4 69 yX4_knows, Cond.instanceMethod yX4_knows, Cond.selects RX4 yX4_knows yX4_knows, Cond.code yX4_knows cX4_knows 2 (some .boolean)]
def wsX5_spare : List Cond := .code yX5_spare cX5_spare 4 (some .int) :: ((wsX5_spare_r1 ++ (wsX5_spare_r2 ++ (wsX5_spare_r3 ++ (wsX5_spare_r4 ++ (wsX5_spare_r5 ++ wsX5_spare_r6))))) ++ wsX50 ++ wsX20 ++ wsX10 ++ wsX40 ++ wsX30)
def wsX5_makes_r1 : List Cond := [Cond.fieldLink RX5 10 "JugsAndGlasses" "search" "LJugsAndGlasses$Search;", Cond.methodLink RX5 78 yX2_explore, Cond.instanceMethod yX2_explore, Cond.selects RX2 yX2_explore yX2_explore, Cond.initialized RX2, Cond.code yX2_explore cX2_explore 1 none, Cond.fieldLink RX2 42 "JugsAndGlasses$Search" "explored" "Z", Cond.fieldLink RX2 18 "JugsAndGlasses$Search" "trial" "LJugsAndGlasses$Jugs;", Cond.fieldLink RX2 12 "JugsAndGlasses$Search" "jugs" "LJugsAndGlasses$Jugs;", Cond.fieldLink RX2 24 "JugsAndGlasses$Search" "all" "LJugsAndGlasses$Tour;", Cond.methodLink RX2 52 yX1_liken, Cond.instanceMethod yX1_liken, Cond.selects RX1 yX1_liken yX1_liken, Cond.initialized RX1, Cond.code yX1_liken cX1_liken 3 none, Cond.fieldLink RX1 9 "JugsAndGlasses$Jugs" "number" "I", Cond.fieldLink RX1 15 "JugsAndGlasses$Jugs" "codes" "I", Cond.fieldLink RX1 18 "JugsAndGlasses$Jugs" "tap" "Z", Cond.fieldLink RX1 22 "JugsAndGlasses$Jugs" "drain" "Z", Cond.fieldLink RX1 25 "JugsAndGlasses$Jugs" "size" "[I", Cond.fieldLink RX1 29 "JugsAndGlasses$Jugs" "held" "[I", Cond.fieldLink RX1 32 "JugsAndGlasses$Jugs" "weight" "[I", Cond.methodLink RX2 56 yX4_explore, Cond.instanceMethod yX4_explore]
def wsX5_makes_r2 : List Cond := [Cond.selects RX4 yX4_explore yX4_explore, Cond.initialized RX4, Cond.code yX4_explore cX4_explore 7 none, Cond.fieldLink RX4 35 "JugsAndGlasses$Jugs" "codes" "I", Cond.fieldLink RX4 21 "JugsAndGlasses$Tour" "reached" "I", Cond.fieldLink RX4 9 "JugsAndGlasses$Tour" "found" "[I", Cond.fieldLink RX4 15 "JugsAndGlasses$Tour" "level" "[I", Cond.methodLink RX4 40 yX1_code, Cond.instanceMethod yX1_code, Cond.selects RX1 yX1_code yX1_code, Cond.code yX1_code cX1_code 3 (some .int), Cond.methodLink RX4 44 yX4_start, Cond.instanceMethod yX4_start, Cond.selects RX4 yX4_start yX4_start, Cond.code yX4_start cX4_start 4 none, Cond.arrayClass .int, Cond.fieldLink RX4 18 "JugsAndGlasses$Tour" "cause" "[I", Cond.static yX5_lengthFor, Cond.initialized RX5, Cond.code yX5_lengthFor cX5_lengthFor 2 (some .int), Cond.methodLink RX5 157 Lib.Math.max.name, Cond.static Lib.Math.max.name, Cond.initialized "java/lang/Math", Cond.code Lib.Math.max.name Lib.Math.max.code 2 (some .int)]
def wsX5_makes_r3 : List Cond := [Cond.methodLink RX5 152 Lib.Math.min.name, Cond.static Lib.Math.min.name, Cond.code Lib.Math.min.name Lib.Math.min.code 2 (some .int), Cond.methodLink RX4 29 yJ7_fill_53178, Cond.static yJ7_fill_53178, Cond.initialized RJ7, Cond.code yJ7_fill_53178 cJ7_fill_53178 4 none, Cond.methodLink RX4 48 yX1_stand, Cond.instanceMethod yX1_stand, Cond.selects RX1 yX1_stand yX1_stand, Cond.code yX1_stand cX1_stand 5 none, Cond.methodLink RX4 52 yX1_shiftBy, Cond.instanceMethod yX1_shiftBy, Cond.selects RX1 yX1_shiftBy yX1_shiftBy, Cond.code yX1_shiftBy cX1_shiftBy 5 (some .int), Cond.methodLink RX1 45 yX1_moved, Cond.instanceMethod yX1_moved, Cond.selects RX1 yX1_moved yX1_moved, Cond.code yX1_moved cX1_moved 6 (some .int), Cond.methodLink RX4 56 yX1_spiltBy, Cond.instanceMethod yX1_spiltBy, Cond.selects RX1 yX1_spiltBy yX1_spiltBy, Cond.code yX1_spiltBy cX1_spiltBy 2 (some .int), Cond.methodLink RX4 59 yX3_isLeast]
def wsX5_makes_r4 : List Cond := [Cond.instanceMethod yX3_isLeast, Cond.selects RX3 yX3_isLeast yX3_isLeast, Cond.initialized RX3, Cond.code yX3_isLeast cX3_isLeast 4 (some .boolean), Cond.fieldLink RX3 9 "JugsAndGlasses$Spilling" "least" "[I", Cond.methodLink RX4 65 yX4_enter, Cond.instanceMethod yX4_enter, Cond.selects RX4 yX4_enter yX4_enter, Cond.code yX4_enter cX4_enter 4 none, Cond.methodLink RX5 123 yX2_allHeld, Cond.instanceMethod yX2_allHeld, Cond.selects RX2 yX2_allHeld yX2_allHeld, Cond.code yX2_allHeld cX2_allHeld 4 (some .int), Cond.fieldLink RX2 78 "JugsAndGlasses$Tour" "reached" "I", Cond.fieldLink RX2 82 "JugsAndGlasses$Tour" "found" "[I", Cond.fieldLink RX2 119 "JugsAndGlasses$Jugs" "number" "I", Cond.fieldLink RX2 122 "JugsAndGlasses$Jugs" "held" "[I", Cond.methodLink RX2 85 yX1_stand]
def wsX5_makes : List Cond := .code yX5_makes cX5_makes 1 (some .int) :: ((wsX5_makes_r1 ++ (wsX5_makes_r2 ++ (wsX5_makes_r3 ++ wsX5_makes_r4))) ++ wsX50 ++ wsX20 ++ wsX10 ++ wsX40 ++ wsX30)
def wsX5_reaches_r1 : List Cond := [Cond.fieldLink RX5 10 "JugsAndGlasses" "search" "LJugsAndGlasses$Search;", Cond.fieldLink RX5 81 "JugsAndGlasses$Search" "all" "LJugsAndGlasses$Tour;", Cond.fieldLink RX5 126 "JugsAndGlasses$Tour" "reached" "I", Cond.methodLink RX5 78 yX2_explore, Cond.instanceMethod yX2_explore, Cond.selects RX2 yX2_explore yX2_explore, Cond.initialized RX2, Cond.code yX2_explore cX2_explore 1 none, Cond.fieldLink RX2 42 "JugsAndGlasses$Search" "explored" "Z", Cond.fieldLink RX2 18 "JugsAndGlasses$Search" "trial" "LJugsAndGlasses$Jugs;", Cond.fieldLink RX2 12 "JugsAndGlasses$Search" "jugs" "LJugsAndGlasses$Jugs;", Cond.fieldLink RX2 24 "JugsAndGlasses$Search" "all" "LJugsAndGlasses$Tour;", Cond.methodLink RX2 52 yX1_liken, Cond.instanceMethod yX1_liken, Cond.selects RX1 yX1_liken yX1_liken, Cond.initialized RX1, Cond.code yX1_liken cX1_liken 3 none, Cond.fieldLink RX1 9 "JugsAndGlasses$Jugs" "number" "I", Cond.fieldLink RX1 15 "JugsAndGlasses$Jugs" "codes" "I", Cond.fieldLink RX1 18 "JugsAndGlasses$Jugs" "tap" "Z", Cond.fieldLink RX1 22 "JugsAndGlasses$Jugs" "drain" "Z", Cond.fieldLink RX1 25 "JugsAndGlasses$Jugs" "size" "[I", Cond.fieldLink RX1 29 "JugsAndGlasses$Jugs" "held" "[I", Cond.fieldLink RX1 32 "JugsAndGlasses$Jugs" "weight" "[I"]
def wsX5_reaches_r2 : List Cond := [Cond.methodLink RX2 56 yX4_explore, Cond.instanceMethod yX4_explore, Cond.selects RX4 yX4_explore yX4_explore, Cond.initialized RX4, Cond.code yX4_explore cX4_explore 7 none, Cond.fieldLink RX4 35 "JugsAndGlasses$Jugs" "codes" "I", Cond.fieldLink RX4 21 "JugsAndGlasses$Tour" "reached" "I", Cond.fieldLink RX4 9 "JugsAndGlasses$Tour" "found" "[I", Cond.fieldLink RX4 15 "JugsAndGlasses$Tour" "level" "[I", Cond.methodLink RX4 40 yX1_code, Cond.instanceMethod yX1_code, Cond.selects RX1 yX1_code yX1_code, Cond.code yX1_code cX1_code 3 (some .int), Cond.methodLink RX4 44 yX4_start, Cond.instanceMethod yX4_start, Cond.selects RX4 yX4_start yX4_start, Cond.code yX4_start cX4_start 4 none, Cond.arrayClass .int, Cond.fieldLink RX4 18 "JugsAndGlasses$Tour" "cause" "[I", Cond.static yX5_lengthFor, Cond.initialized RX5, Cond.code yX5_lengthFor cX5_lengthFor 2 (some .int), Cond.methodLink RX5 157 Lib.Math.max.name, Cond.static Lib.Math.max.name]
def wsX5_reaches_r3 : List Cond := [Cond.initialized "java/lang/Math", Cond.code Lib.Math.max.name Lib.Math.max.code 2 (some .int), Cond.methodLink RX5 152 Lib.Math.min.name, Cond.static Lib.Math.min.name, Cond.code Lib.Math.min.name Lib.Math.min.code 2 (some .int), Cond.methodLink RX4 29 yJ7_fill_53178, Cond.static yJ7_fill_53178, Cond.initialized RJ7, Cond.code yJ7_fill_53178 cJ7_fill_53178 4 none, Cond.methodLink RX4 48 yX1_stand, Cond.instanceMethod yX1_stand, Cond.selects RX1 yX1_stand yX1_stand, Cond.code yX1_stand cX1_stand 5 none, Cond.methodLink RX4 52 yX1_shiftBy, Cond.instanceMethod yX1_shiftBy, Cond.selects RX1 yX1_shiftBy yX1_shiftBy, Cond.code yX1_shiftBy cX1_shiftBy 5 (some .int), Cond.methodLink RX1 45 yX1_moved, Cond.instanceMethod yX1_moved, Cond.selects RX1 yX1_moved yX1_moved, Cond.code yX1_moved cX1_moved 6 (some .int), Cond.methodLink RX4 56 yX1_spiltBy, Cond.instanceMethod yX1_spiltBy, Cond.selects RX1 yX1_spiltBy yX1_spiltBy]
def wsX5_reaches_r4 : List Cond := [Cond.code yX1_spiltBy cX1_spiltBy 2 (some .int), Cond.methodLink RX4 59 yX3_isLeast, Cond.instanceMethod yX3_isLeast, Cond.selects RX3 yX3_isLeast yX3_isLeast, Cond.initialized RX3, Cond.code yX3_isLeast cX3_isLeast 4 (some .boolean), Cond.fieldLink RX3 9 "JugsAndGlasses$Spilling" "least" "[I", Cond.methodLink RX4 65 yX4_enter, Cond.instanceMethod yX4_enter, Cond.selects RX4 yX4_enter yX4_enter, Cond.code yX4_enter cX4_enter 4 none]
def wsX5_reaches : List Cond := .code yX5_reaches cX5_reaches 1 (some .int) :: ((wsX5_reaches_r1 ++ (wsX5_reaches_r2 ++ (wsX5_reaches_r3 ++ wsX5_reaches_r4))) ++ wsX50 ++ wsX20 ++ wsX40 ++ wsX10 ++ wsX30)
def wsX5_actsOfRoad : List Cond := .code yX5_actsOfRoad cX5_actsOfRoad 7 (some .int) :: ([.methodLink RX5 152 Lib.Math.min.name, .static Lib.Math.min.name, .initialized "java/lang/Math", .code Lib.Math.min.name Lib.Math.min.code 2 (some .int)])
def wsX5_road : List Cond := .code yX5_road cX5_road 3 (some .int) :: ([.fieldLink RX5 20 "JugsAndGlasses" "jugs" "LJugsAndGlasses$Jugs;", .fieldLink RX5 28 "JugsAndGlasses$Jugs" "number" "I", .fieldLink RX5 52 "JugsAndGlasses$Jugs" "size" "[I", .methodLink RX5 48 yX1_has, .instanceMethod yX1_has, .selects RX1 yX1_has yX1_has, .initialized RX1, .code yX1_has cX1_has 2 (some .boolean), .fieldLink RX1 9 "JugsAndGlasses$Jugs" "number" "I", .methodLink RX5 129 yX5_actsOfRoad, .static yX5_actsOfRoad, .initialized RX5, .code yX5_actsOfRoad cX5_actsOfRoad 7 (some .int), .methodLink RX5 152 Lib.Math.min.name, .static Lib.Math.min.name, .initialized "java/lang/Math", .code Lib.Math.min.name Lib.Math.min.code 2 (some .int)] ++ wsX50 ++ wsX10)
def wsX5_sizes : List Cond := .code yX5_sizes cX5_sizes 4 (some .int) :: ([])
def wsX5_glass : List Cond := .code yX5_glass cX5_glass 2 (some .int) :: ([.fieldLink RX5 24 "JugsAndGlasses" "glasses" "LJugsAndGlasses$Glasses;", .fieldLink RX5 133 "JugsAndGlasses$Glasses" "number" "I", .methodLink RX5 134 yX0_add, .instanceMethod yX0_add, .selects RX0 yX0_add yX0_add, .initialized RX0, .code yX0_add cX0_add 2 (some .int), .fieldLink RX0 9 "JugsAndGlasses$Glasses" "number" "I", .fieldLink RX0 15 "JugsAndGlasses$Glasses" "span" "[I", .fieldLink RX0 25 "JugsAndGlasses$Glasses" "known" "Z"] ++ wsX50 ++ wsX00)
def wsX5_smash : List Cond := .code yX5_smash cX5_smash 1 (some .int) :: ([.fieldLink RX5 24 "JugsAndGlasses" "glasses" "LJugsAndGlasses$Glasses;", .methodLink RX5 136 yX0_removeAll, .instanceMethod yX0_removeAll, .selects RX0 yX0_removeAll yX0_removeAll, .initialized RX0, .code yX0_removeAll cX0_removeAll 2 (some .int), .fieldLink RX0 9 "JugsAndGlasses$Glasses" "number" "I", .fieldLink RX0 25 "JugsAndGlasses$Glasses" "known" "Z"] ++ wsX50 ++ wsX00)
def wsX5_await_r1 : List Cond := [Cond.fieldLink RX5 24 "JugsAndGlasses" "glasses" "LJugsAndGlasses$Glasses;", Cond.fieldLink RX5 140 "JugsAndGlasses$Glasses" "waitOf" "[I", Cond.methodLink RX5 137 yX0_workOut, Cond.instanceMethod yX0_workOut, Cond.selects RX0 yX0_workOut yX0_workOut, Cond.initialized RX0, Cond.code yX0_workOut cX0_workOut 2 none, Cond.fieldLink RX0 25 "JugsAndGlasses$Glasses" "known" "Z", Cond.fieldLink RX0 53 "JugsAndGlasses$Glasses" "STATES" "[I", Cond.fieldLink RX0 9 "JugsAndGlasses$Glasses" "number" "I", Cond.methodLink RX0 56 yX0_makeRoom, Cond.instanceMethod yX0_makeRoom, Cond.selects RX0 yX0_makeRoom yX0_makeRoom, Cond.code yX0_makeRoom cX0_makeRoom 3 none, Cond.fieldLink RX0 29 "JugsAndGlasses$Glasses" "events" "[I", Cond.arrayClass .int, Cond.arrayClass .boolean, Cond.fieldLink RX0 32 "JugsAndGlasses$Glasses" "listed" "[Z", Cond.fieldLink RX0 39 "JugsAndGlasses$Glasses" "leap" "[I", Cond.fieldLink RX0 42 "JugsAndGlasses$Glasses" "early" "[I", Cond.fieldLink RX0 45 "JugsAndGlasses$Glasses" "turned" "[I", Cond.classLink RX0 48 "[[I", Cond.fieldLink RX0 50 "JugsAndGlasses$Glasses" "ahead" "[[I", Cond.fieldLink RX0 36 "JugsAndGlasses$Glasses" "listedEvents" "I"]
def wsX5_await_r2 : List Cond := [Cond.methodLink RX0 60 yX0_listEvents, Cond.instanceMethod yX0_listEvents, Cond.selects RX0 yX0_listEvents yX0_listEvents, Cond.code yX0_listEvents cX0_listEvents 5 none, Cond.methodLink RX0 72 yX0_list, Cond.instanceMethod yX0_list, Cond.selects RX0 yX0_list yX0_list, Cond.code yX0_list cX0_list 2 none, Cond.methodLink RX0 75 yX0_leapFrom, Cond.instanceMethod yX0_leapFrom, Cond.selects RX0 yX0_leapFrom yX0_leapFrom, Cond.code yX0_leapFrom cX0_leapFrom 6 (some .int), Cond.constant RX0 79 (1000000), Cond.methodLink RX0 84 Lib.Math.max.name, Cond.static Lib.Math.max.name, Cond.initialized "java/lang/Math", Cond.code Lib.Math.max.name Lib.Math.max.code 2 (some .int), Cond.fieldLink RX0 89 "JugsAndGlasses$Glasses" "PLACE" "[I", Cond.methodLink RX0 80 yX0_sandAbove, Cond.instanceMethod yX0_sandAbove, Cond.selects RX0 yX0_sandAbove yX0_sandAbove, Cond.code yX0_sandAbove cX0_sandAbove 6 (some .int), Cond.fieldLink RX0 15 "JugsAndGlasses$Glasses" "span" "[I", Cond.methodLink RX0 63 yX0_goForth]
def wsX5_await_r3 : List Cond := [Cond.instanceMethod yX0_goForth, Cond.selects RX0 yX0_goForth yX0_goForth, Cond.code yX0_goForth cX0_goForth 3 none, Cond.methodLink RX0 92 yJ7_fill_53178, Cond.static yJ7_fill_53178, Cond.initialized RJ7, Cond.code yJ7_fill_53178 cJ7_fill_53178 4 none, Cond.methodLink RX0 98 yX0_goOnFrom, Cond.instanceMethod yX0_goOnFrom, Cond.selects RX0 yX0_goOnFrom yX0_goOnFrom, Cond.code yX0_goOnFrom cX0_goOnFrom 8 none, Cond.methodLink RX0 102 yJ6_bitCount_0f7a4, Cond.static yJ6_bitCount_0f7a4, Cond.initialized RJ6, Cond.code yJ6_bitCount_0f7a4 cJ6_bitCount_0f7a4 1 (some .int), Cond.constant RJ6 265 (1431655765), Cond.constant RJ6 266 (858993459), Cond.constant RJ6 267 (252645135), Cond.methodLink RX0 66 yX0_lookAhead, Cond.instanceMethod yX0_lookAhead, Cond.selects RX0 yX0_lookAhead yX0_lookAhead, Cond.code yX0_lookAhead cX0_lookAhead 3 none, Cond.methodLink RX0 108 yX0_fewestTurned, Cond.instanceMethod yX0_fewestTurned]
def wsX5_await_r4 : List Cond := [Cond.selects RX0 yX0_fewestTurned yX0_fewestTurned, Cond.code yX0_fewestTurned cX0_fewestTurned 7 (some .int), Cond.methodLink RX0 111 Lib.Math.min.name, Cond.static Lib.Math.min.name, Cond.code Lib.Math.min.name Lib.Math.min.code 2 (some .int), Cond.methodLink RX0 69 yX0_answer, Cond.instanceMethod yX0_answer, Cond.selects RX0 yX0_answer yX0_answer, Cond.code yX0_answer cX0_answer 7 none, Cond.fieldLink RX0 19 "JugsAndGlasses$Glasses" "waitOf" "[I", Cond.fieldLink RX0 22 "JugsAndGlasses$Glasses" "turnsOf" "[I"]
def wsX5_await : List Cond := .code yX5_await cX5_await 2 (some .int) :: ((wsX5_await_r1 ++ (wsX5_await_r2 ++ (wsX5_await_r3 ++ wsX5_await_r4))) ++ wsX50 ++ wsX00)
def wsX5_turns_r1 : List Cond := [Cond.fieldLink RX5 24 "JugsAndGlasses" "glasses" "LJugsAndGlasses$Glasses;", Cond.fieldLink RX5 143 "JugsAndGlasses$Glasses" "turnsOf" "[I", Cond.methodLink RX5 137 yX0_workOut, Cond.instanceMethod yX0_workOut, Cond.selects RX0 yX0_workOut yX0_workOut, Cond.initialized RX0, Cond.code yX0_workOut cX0_workOut 2 none, Cond.fieldLink RX0 25 "JugsAndGlasses$Glasses" "known" "Z", Cond.fieldLink RX0 53 "JugsAndGlasses$Glasses" "STATES" "[I", Cond.fieldLink RX0 9 "JugsAndGlasses$Glasses" "number" "I", Cond.methodLink RX0 56 yX0_makeRoom, Cond.instanceMethod yX0_makeRoom, Cond.selects RX0 yX0_makeRoom yX0_makeRoom, Cond.code yX0_makeRoom cX0_makeRoom 3 none, Cond.fieldLink RX0 29 "JugsAndGlasses$Glasses" "events" "[I", Cond.arrayClass .int, Cond.arrayClass .boolean, Cond.fieldLink RX0 32 "JugsAndGlasses$Glasses" "listed" "[Z", Cond.fieldLink RX0 39 "JugsAndGlasses$Glasses" "leap" "[I", Cond.fieldLink RX0 42 "JugsAndGlasses$Glasses" "early" "[I", Cond.fieldLink RX0 45 "JugsAndGlasses$Glasses" "turned" "[I", Cond.classLink RX0 48 "[[I", Cond.fieldLink RX0 50 "JugsAndGlasses$Glasses" "ahead" "[[I", Cond.fieldLink RX0 36 "JugsAndGlasses$Glasses" "listedEvents" "I"]
def wsX5_turns_r2 : List Cond := [Cond.methodLink RX0 60 yX0_listEvents, Cond.instanceMethod yX0_listEvents, Cond.selects RX0 yX0_listEvents yX0_listEvents, Cond.code yX0_listEvents cX0_listEvents 5 none, Cond.methodLink RX0 72 yX0_list, Cond.instanceMethod yX0_list, Cond.selects RX0 yX0_list yX0_list, Cond.code yX0_list cX0_list 2 none, Cond.methodLink RX0 75 yX0_leapFrom, Cond.instanceMethod yX0_leapFrom, Cond.selects RX0 yX0_leapFrom yX0_leapFrom, Cond.code yX0_leapFrom cX0_leapFrom 6 (some .int), Cond.constant RX0 79 (1000000), Cond.methodLink RX0 84 Lib.Math.max.name, Cond.static Lib.Math.max.name, Cond.initialized "java/lang/Math", Cond.code Lib.Math.max.name Lib.Math.max.code 2 (some .int), Cond.fieldLink RX0 89 "JugsAndGlasses$Glasses" "PLACE" "[I", Cond.methodLink RX0 80 yX0_sandAbove, Cond.instanceMethod yX0_sandAbove, Cond.selects RX0 yX0_sandAbove yX0_sandAbove, Cond.code yX0_sandAbove cX0_sandAbove 6 (some .int), Cond.fieldLink RX0 15 "JugsAndGlasses$Glasses" "span" "[I", Cond.methodLink RX0 63 yX0_goForth]
def wsX5_turns_r3 : List Cond := [Cond.instanceMethod yX0_goForth, Cond.selects RX0 yX0_goForth yX0_goForth, Cond.code yX0_goForth cX0_goForth 3 none, Cond.methodLink RX0 92 yJ7_fill_53178, Cond.static yJ7_fill_53178, Cond.initialized RJ7, Cond.code yJ7_fill_53178 cJ7_fill_53178 4 none, Cond.methodLink RX0 98 yX0_goOnFrom, Cond.instanceMethod yX0_goOnFrom, Cond.selects RX0 yX0_goOnFrom yX0_goOnFrom, Cond.code yX0_goOnFrom cX0_goOnFrom 8 none, Cond.methodLink RX0 102 yJ6_bitCount_0f7a4, Cond.static yJ6_bitCount_0f7a4, Cond.initialized RJ6, Cond.code yJ6_bitCount_0f7a4 cJ6_bitCount_0f7a4 1 (some .int), Cond.constant RJ6 265 (1431655765), Cond.constant RJ6 266 (858993459), Cond.constant RJ6 267 (252645135), Cond.methodLink RX0 66 yX0_lookAhead, Cond.instanceMethod yX0_lookAhead, Cond.selects RX0 yX0_lookAhead yX0_lookAhead, Cond.code yX0_lookAhead cX0_lookAhead 3 none, Cond.methodLink RX0 108 yX0_fewestTurned, Cond.instanceMethod yX0_fewestTurned]
def wsX5_turns_r4 : List Cond := [Cond.selects RX0 yX0_fewestTurned yX0_fewestTurned, Cond.code yX0_fewestTurned cX0_fewestTurned 7 (some .int), Cond.methodLink RX0 111 Lib.Math.min.name, Cond.static Lib.Math.min.name, Cond.code Lib.Math.min.name Lib.Math.min.code 2 (some .int), Cond.methodLink RX0 69 yX0_answer, Cond.instanceMethod yX0_answer, Cond.selects RX0 yX0_answer yX0_answer, Cond.code yX0_answer cX0_answer 7 none, Cond.fieldLink RX0 19 "JugsAndGlasses$Glasses" "waitOf" "[I", Cond.fieldLink RX0 22 "JugsAndGlasses$Glasses" "turnsOf" "[I"]
def wsX5_turns : List Cond := .code yX5_turns cX5_turns 2 (some .int) :: ((wsX5_turns_r1 ++ (wsX5_turns_r2 ++ (wsX5_turns_r3 ++ wsX5_turns_r4))) ++ wsX50 ++ wsX00)
def wsX5_spans_r1 : List Cond := [Cond.constantLong RX5 93 (-2), Cond.fieldLink RX5 24 "JugsAndGlasses" "glasses" "LJugsAndGlasses$Glasses;", Cond.fieldLink RX5 140 "JugsAndGlasses$Glasses" "waitOf" "[I", Cond.methodLink RX5 137 yX0_workOut, Cond.instanceMethod yX0_workOut, Cond.selects RX0 yX0_workOut yX0_workOut, Cond.initialized RX0, Cond.code yX0_workOut cX0_workOut 2 none, Cond.fieldLink RX0 25 "JugsAndGlasses$Glasses" "known" "Z", Cond.fieldLink RX0 53 "JugsAndGlasses$Glasses" "STATES" "[I", Cond.fieldLink RX0 9 "JugsAndGlasses$Glasses" "number" "I", Cond.methodLink RX0 56 yX0_makeRoom, Cond.instanceMethod yX0_makeRoom, Cond.selects RX0 yX0_makeRoom yX0_makeRoom, Cond.code yX0_makeRoom cX0_makeRoom 3 none, Cond.fieldLink RX0 29 "JugsAndGlasses$Glasses" "events" "[I", Cond.arrayClass .int, Cond.arrayClass .boolean, Cond.fieldLink RX0 32 "JugsAndGlasses$Glasses" "listed" "[Z", Cond.fieldLink RX0 39 "JugsAndGlasses$Glasses" "leap" "[I", Cond.fieldLink RX0 42 "JugsAndGlasses$Glasses" "early" "[I", Cond.fieldLink RX0 45 "JugsAndGlasses$Glasses" "turned" "[I", Cond.classLink RX0 48 "[[I", Cond.fieldLink RX0 50 "JugsAndGlasses$Glasses" "ahead" "[[I"]
def wsX5_spans_r2 : List Cond := [Cond.fieldLink RX0 36 "JugsAndGlasses$Glasses" "listedEvents" "I", Cond.methodLink RX0 60 yX0_listEvents, Cond.instanceMethod yX0_listEvents, Cond.selects RX0 yX0_listEvents yX0_listEvents, Cond.code yX0_listEvents cX0_listEvents 5 none, Cond.methodLink RX0 72 yX0_list, Cond.instanceMethod yX0_list, Cond.selects RX0 yX0_list yX0_list, Cond.code yX0_list cX0_list 2 none, Cond.methodLink RX0 75 yX0_leapFrom, Cond.instanceMethod yX0_leapFrom, Cond.selects RX0 yX0_leapFrom yX0_leapFrom, Cond.code yX0_leapFrom cX0_leapFrom 6 (some .int), Cond.constant RX0 79 (1000000), Cond.methodLink RX0 84 Lib.Math.max.name, Cond.static Lib.Math.max.name, Cond.initialized "java/lang/Math", Cond.code Lib.Math.max.name Lib.Math.max.code 2 (some .int), Cond.fieldLink RX0 89 "JugsAndGlasses$Glasses" "PLACE" "[I", Cond.methodLink RX0 80 yX0_sandAbove, Cond.instanceMethod yX0_sandAbove, Cond.selects RX0 yX0_sandAbove yX0_sandAbove, Cond.code yX0_sandAbove cX0_sandAbove 6 (some .int), Cond.fieldLink RX0 15 "JugsAndGlasses$Glasses" "span" "[I"]
def wsX5_spans_r3 : List Cond := [Cond.methodLink RX0 63 yX0_goForth, Cond.instanceMethod yX0_goForth, Cond.selects RX0 yX0_goForth yX0_goForth, Cond.code yX0_goForth cX0_goForth 3 none, Cond.methodLink RX0 92 yJ7_fill_53178, Cond.static yJ7_fill_53178, Cond.initialized RJ7, Cond.code yJ7_fill_53178 cJ7_fill_53178 4 none, Cond.methodLink RX0 98 yX0_goOnFrom, Cond.instanceMethod yX0_goOnFrom, Cond.selects RX0 yX0_goOnFrom yX0_goOnFrom, Cond.code yX0_goOnFrom cX0_goOnFrom 8 none, Cond.methodLink RX0 102 yJ6_bitCount_0f7a4, Cond.static yJ6_bitCount_0f7a4, Cond.initialized RJ6, Cond.code yJ6_bitCount_0f7a4 cJ6_bitCount_0f7a4 1 (some .int), Cond.constant RJ6 265 (1431655765), Cond.constant RJ6 266 (858993459), Cond.constant RJ6 267 (252645135), Cond.methodLink RX0 66 yX0_lookAhead, Cond.instanceMethod yX0_lookAhead, Cond.selects RX0 yX0_lookAhead yX0_lookAhead, Cond.code yX0_lookAhead cX0_lookAhead 3 none, Cond.methodLink RX0 108 yX0_fewestTurned]
def wsX5_spans_r4 : List Cond := [Cond.instanceMethod yX0_fewestTurned, Cond.selects RX0 yX0_fewestTurned yX0_fewestTurned, Cond.code yX0_fewestTurned cX0_fewestTurned 7 (some .int), Cond.methodLink RX0 111 Lib.Math.min.name, Cond.static Lib.Math.min.name, Cond.code Lib.Math.min.name Lib.Math.min.code 2 (some .int), Cond.methodLink RX0 69 yX0_answer, Cond.instanceMethod yX0_answer, Cond.selects RX0 yX0_answer yX0_answer, Cond.code yX0_answer cX0_answer 7 none, Cond.fieldLink RX0 19 "JugsAndGlasses$Glasses" "waitOf" "[I", Cond.fieldLink RX0 22 "JugsAndGlasses$Glasses" "turnsOf" "[I"]
def wsX5_spans : List Cond := .code yX5_spans cX5_spans 5 (some .long) :: ((wsX5_spans_r1 ++ (wsX5_spans_r2 ++ (wsX5_spans_r3 ++ wsX5_spans_r4))) ++ wsX50 ++ wsX00)
def wsX5_count : List Cond := .code yX5_count cX5_count 2 (some .int) :: ([.fieldLink RX5 20 "JugsAndGlasses" "jugs" "LJugsAndGlasses$Jugs;", .fieldLink RX5 28 "JugsAndGlasses$Jugs" "number" "I", .fieldLink RX5 24 "JugsAndGlasses" "glasses" "LJugsAndGlasses$Glasses;", .fieldLink RX5 133 "JugsAndGlasses$Glasses" "number" "I", .methodLink RX5 146 yX1_heldTogether, .instanceMethod yX1_heldTogether, .selects RX1 yX1_heldTogether yX1_heldTogether, .initialized RX1, .code yX1_heldTogether cX1_heldTogether 3 (some .int), .fieldLink RX1 9 "JugsAndGlasses$Jugs" "number" "I", .fieldLink RX1 29 "JugsAndGlasses$Jugs" "held" "[I", .methodLink RX5 149 yX1_actsNow, .instanceMethod yX1_actsNow, .selects RX1 yX1_actsNow yX1_actsNow, .code yX1_actsNow cX1_actsNow 3 (some .int), .methodLink RX1 45 yX1_moved, .instanceMethod yX1_moved, .selects RX1 yX1_moved yX1_moved, .code yX1_moved cX1_moved 6 (some .int), .fieldLink RX1 18 "JugsAndGlasses$Jugs" "tap" "Z", .fieldLink RX1 25 "JugsAndGlasses$Jugs" "size" "[I", .fieldLink RX1 22 "JugsAndGlasses$Jugs" "drain" "Z"] ++ wsX50 ++ wsX10 ++ wsX00)
def wsX6_init_r1 : List Cond := [Cond.methodLink RX6 1 objectInit, Cond.instanceMethod objectInit, Cond.code objectInit ⟨#[0xb1]⟩ 1 none, Cond.arrayClass .int, Cond.fieldLink RX6 7 "JugsAndGlassesModel" "size" "[I", Cond.fieldLink RX6 13 "JugsAndGlassesModel" "held" "[I", Cond.fieldLink RX6 16 "JugsAndGlassesModel" "hasTap" "Z", Cond.fieldLink RX6 20 "JugsAndGlassesModel" "hasDrain" "Z", Cond.fieldLink RX6 23 "JugsAndGlassesModel" "span" "[I", Cond.fieldLink RX6 26 "JugsAndGlassesModel" "room" "[I", Cond.fieldLink RX6 29 "JugsAndGlassesModel" "has" "[I", Cond.constant RX6 32 (351384), Cond.fieldLink RX6 33 "JugsAndGlassesModel" "next" "[I", Cond.fieldLink RX6 36 "JugsAndGlassesModel" "spills" "[I", Cond.fieldLink RX6 39 "JugsAndGlassesModel" "costs" "[I", Cond.arrayClass .long, Cond.fieldLink RX6 42 "JugsAndGlassesModel" "rows" "[J", Cond.arrayClass .boolean, Cond.fieldLink RX6 46 "JugsAndGlassesModel" "isReached" "[Z", Cond.fieldLink RX6 50 "JugsAndGlassesModel" "queue" "[I", Cond.fieldLink RX6 53 "JugsAndGlassesModel" "comes" "[I", Cond.fieldLink RX6 56 "JugsAndGlassesModel" "takes" "[I", Cond.constant RX6 59 (134017), Cond.fieldLink RX6 60 "JugsAndGlassesModel" "ahead" "[I"]
def wsX6_init_r2 : List Cond := [Cond.constant RX6 63 (90077), Cond.fieldLink RX6 64 "JugsAndGlassesModel" "behind" "[I"]
def wsX6_init : List Cond := .code yX6_init cX6_init 1 none :: ((wsX6_init_r1 ++ wsX6_init_r2) ++ wsX60)
def wsX6_in : List Cond := .code yX6_in cX6_in 3 (some .boolean) :: ([])
def wsX6_isJug : List Cond := .code yX6_isJug cX6_isJug 2 (some .boolean) :: ([.fieldLink RX6 67 "JugsAndGlassesModel" "jugs" "I", .methodLink RX6 71 yX6_in, .static yX6_in, .initialized RX6, .code yX6_in cX6_in 3 (some .boolean)] ++ wsX60)
def wsX6_jug : List Cond := .code yX6_jug cX6_jug 3 (some .int) :: ([.fieldLink RX6 67 "JugsAndGlassesModel" "jugs" "I", .fieldLink RX6 7 "JugsAndGlassesModel" "size" "[I", .fieldLink RX6 13 "JugsAndGlassesModel" "held" "[I", .methodLink RX6 71 yX6_in, .static yX6_in, .initialized RX6, .code yX6_in cX6_in 3 (some .boolean)] ++ wsX60)
def wsX6_set : List Cond := .code yX6_set cX6_set 4 (some .int) :: ([.fieldLink RX6 16 "JugsAndGlassesModel" "hasTap" "Z", .fieldLink RX6 20 "JugsAndGlassesModel" "hasDrain" "Z", .methodLink RX6 71 yX6_in, .static yX6_in, .initialized RX6, .code yX6_in cX6_in 3 (some .boolean)] ++ wsX60)
def wsX6_put : List Cond := .code yX6_put cX6_put 4 (some .int) :: ([.fieldLink RX6 7 "JugsAndGlassesModel" "size" "[I", .fieldLink RX6 13 "JugsAndGlassesModel" "held" "[I", .methodLink RX6 75 yX6_isJug, .instanceMethod yX6_isJug, .selects RX6 yX6_isJug yX6_isJug, .initialized RX6, .code yX6_isJug cX6_isJug 2 (some .boolean), .fieldLink RX6 67 "JugsAndGlassesModel" "jugs" "I", .methodLink RX6 71 yX6_in, .static yX6_in, .code yX6_in cX6_in 3 (some .boolean)] ++ wsX60)
def wsX6_holds : List Cond := .code yX6_holds cX6_holds 2 (some .int) :: ([.fieldLink RX6 13 "JugsAndGlassesModel" "held" "[I", .methodLink RX6 75 yX6_isJug, .instanceMethod yX6_isJug, .selects RX6 yX6_isJug yX6_isJug, .initialized RX6, .code yX6_isJug cX6_isJug 2 (some .boolean), .fieldLink RX6 67 "JugsAndGlassesModel" "jugs" "I", .methodLink RX6 71 yX6_in, .static yX6_in, .code yX6_in cX6_in 3 (some .boolean)] ++ wsX60)
def wsX6_clear : List Cond := .code yX6_clear cX6_clear 2 (some .int) :: ([.fieldLink RX6 67 "JugsAndGlassesModel" "jugs" "I"] ++ wsX60)
def wsX6_tryOwn : List Cond := .code yX6_tryOwn cX6_tryOwn 2 none :: ([.fieldLink RX6 67 "JugsAndGlassesModel" "jugs" "I", .fieldLink RX6 79 "JugsAndGlassesModel" "tried" "I", .fieldLink RX6 16 "JugsAndGlassesModel" "hasTap" "Z", .fieldLink RX6 82 "JugsAndGlassesModel" "tap" "Z", .fieldLink RX6 20 "JugsAndGlassesModel" "hasDrain" "Z", .fieldLink RX6 85 "JugsAndGlassesModel" "drain" "Z", .fieldLink RX6 26 "JugsAndGlassesModel" "room" "[I", .fieldLink RX6 7 "JugsAndGlassesModel" "size" "[I", .fieldLink RX6 29 "JugsAndGlassesModel" "has" "[I", .fieldLink RX6 13 "JugsAndGlassesModel" "held" "[I"] ++ wsX60)
def wsX6_numberOf : List Cond := .code yX6_numberOf cX6_numberOf 3 (some .int) :: ([.fieldLink RX6 79 "JugsAndGlassesModel" "tried" "I", .fieldLink RX6 26 "JugsAndGlassesModel" "room" "[I", .fieldLink RX6 29 "JugsAndGlassesModel" "has" "[I"] ++ wsX60)
def wsX6_stateMany : List Cond := .code yX6_stateMany cX6_stateMany 3 (some .int) :: ([.fieldLink RX6 79 "JugsAndGlassesModel" "tried" "I", .fieldLink RX6 26 "JugsAndGlassesModel" "room" "[I"] ++ wsX60)
def wsX6_layState : List Cond := .code yX6_layState cX6_layState 4 none :: ([.fieldLink RX6 79 "JugsAndGlassesModel" "tried" "I", .fieldLink RX6 29 "JugsAndGlassesModel" "has" "[I", .fieldLink RX6 26 "JugsAndGlassesModel" "room" "[I"] ++ wsX60)
def wsX6_does : List Cond := .code yX6_does cX6_does 4 (some .boolean) :: ([.fieldLink RX6 79 "JugsAndGlassesModel" "tried" "I", .fieldLink RX6 88 "JugsAndGlassesModel" "spilt" "I", .fieldLink RX6 82 "JugsAndGlassesModel" "tap" "Z", .fieldLink RX6 26 "JugsAndGlassesModel" "room" "[I", .fieldLink RX6 29 "JugsAndGlassesModel" "has" "[I", .fieldLink RX6 91 "JugsAndGlassesModel" "moved" "I", .fieldLink RX6 85 "JugsAndGlassesModel" "drain" "Z"] ++ wsX60)
def wsX6_act_r1 : List Cond := [Cond.fieldLink RX6 67 "JugsAndGlassesModel" "jugs" "I", Cond.fieldLink RX6 13 "JugsAndGlassesModel" "held" "[I", Cond.fieldLink RX6 29 "JugsAndGlassesModel" "has" "[I", Cond.fieldLink RX6 91 "JugsAndGlassesModel" "moved" "I", Cond.methodLink RX6 71 yX6_in, Cond.static yX6_in, Cond.initialized RX6, Cond.code yX6_in cX6_in 3 (some .boolean), Cond.methodLink RX6 75 yX6_isJug, Cond.instanceMethod yX6_isJug, Cond.selects RX6 yX6_isJug yX6_isJug, Cond.code yX6_isJug cX6_isJug 2 (some .boolean), Cond.methodLink RX6 94 yX6_tryOwn, Cond.instanceMethod yX6_tryOwn, Cond.selects RX6 yX6_tryOwn yX6_tryOwn, Cond.code yX6_tryOwn cX6_tryOwn 2 none, Cond.fieldLink RX6 79 "JugsAndGlassesModel" "tried" "I", Cond.fieldLink RX6 16 "JugsAndGlassesModel" "hasTap" "Z", Cond.fieldLink RX6 82 "JugsAndGlassesModel" "tap" "Z", Cond.fieldLink RX6 20 "JugsAndGlassesModel" "hasDrain" "Z", Cond.fieldLink RX6 85 "JugsAndGlassesModel" "drain" "Z", Cond.fieldLink RX6 26 "JugsAndGlassesModel" "room" "[I", Cond.fieldLink RX6 7 "JugsAndGlassesModel" "size" "[I", Cond.methodLink RX6 97 yX6_does]
def wsX6_act_r2 : List Cond := [Cond.instanceMethod yX6_does, Cond.selects RX6 yX6_does yX6_does, Cond.code yX6_does cX6_does 4 (some .boolean), Cond.fieldLink RX6 88 "JugsAndGlassesModel" "spilt" "I"]
def wsX6_act : List Cond := .code yX6_act cX6_act 5 (some .int) :: ((wsX6_act_r1 ++ wsX6_act_r2) ++ wsX60)
def wsX6_layActs_r1 : List Cond := [Cond.fieldLink RX6 33 "JugsAndGlassesModel" "next" "[I", Cond.fieldLink RX6 36 "JugsAndGlassesModel" "spills" "[I", Cond.fieldLink RX6 88 "JugsAndGlassesModel" "spilt" "I", Cond.methodLink RX6 100 yX6_stateMany, Cond.instanceMethod yX6_stateMany, Cond.selects RX6 yX6_stateMany yX6_stateMany, Cond.initialized RX6, Cond.code yX6_stateMany cX6_stateMany 3 (some .int), Cond.fieldLink RX6 79 "JugsAndGlassesModel" "tried" "I", Cond.fieldLink RX6 26 "JugsAndGlassesModel" "room" "[I", Cond.methodLink RX6 104 yX6_layState, Cond.instanceMethod yX6_layState, Cond.selects RX6 yX6_layState yX6_layState, Cond.code yX6_layState cX6_layState 4 none, Cond.fieldLink RX6 29 "JugsAndGlassesModel" "has" "[I", Cond.methodLink RX6 97 yX6_does, Cond.instanceMethod yX6_does, Cond.selects RX6 yX6_does yX6_does, Cond.code yX6_does cX6_does 4 (some .boolean), Cond.fieldLink RX6 82 "JugsAndGlassesModel" "tap" "Z", Cond.fieldLink RX6 91 "JugsAndGlassesModel" "moved" "I", Cond.fieldLink RX6 85 "JugsAndGlassesModel" "drain" "Z", Cond.methodLink RX6 108 yX6_numberOf, Cond.instanceMethod yX6_numberOf]
def wsX6_layActs_r2 : List Cond := [Cond.selects RX6 yX6_numberOf yX6_numberOf, Cond.code yX6_numberOf cX6_numberOf 3 (some .int)]
def wsX6_layActs : List Cond := .code yX6_layActs cX6_layActs 5 none :: ((wsX6_layActs_r1 ++ wsX6_layActs_r2) ++ wsX60)
def wsX6_isMade : List Cond := .code yX6_isMade cX6_isMade 6 (some .boolean) :: ([.fieldLink RX6 79 "JugsAndGlassesModel" "tried" "I", .fieldLink RX6 29 "JugsAndGlassesModel" "has" "[I", .methodLink RX6 104 yX6_layState, .instanceMethod yX6_layState, .selects RX6 yX6_layState yX6_layState, .initialized RX6, .code yX6_layState cX6_layState 4 none, .fieldLink RX6 26 "JugsAndGlassesModel" "room" "[I"] ++ wsX60)
def wsX6_costBy : List Cond := .code yX6_costBy cX6_costBy 5 (some .int) :: ([.fieldLink RX6 33 "JugsAndGlassesModel" "next" "[I", .fieldLink RX6 39 "JugsAndGlassesModel" "costs" "[I", .constant RX6 111 (1000000000), .fieldLink RX6 36 "JugsAndGlassesModel" "spills" "[I"] ++ wsX60)
def wsX6_findCosts_r1 : List Cond := [Cond.fieldLink RX6 112 "JugsAndGlassesModel" "start" "I", Cond.fieldLink RX6 39 "JugsAndGlassesModel" "costs" "[I", Cond.constant RX6 111 (1000000000), Cond.methodLink RX6 94 yX6_tryOwn, Cond.instanceMethod yX6_tryOwn, Cond.selects RX6 yX6_tryOwn yX6_tryOwn, Cond.initialized RX6, Cond.code yX6_tryOwn cX6_tryOwn 2 none, Cond.fieldLink RX6 67 "JugsAndGlassesModel" "jugs" "I", Cond.fieldLink RX6 79 "JugsAndGlassesModel" "tried" "I", Cond.fieldLink RX6 16 "JugsAndGlassesModel" "hasTap" "Z", Cond.fieldLink RX6 82 "JugsAndGlassesModel" "tap" "Z", Cond.fieldLink RX6 20 "JugsAndGlassesModel" "hasDrain" "Z", Cond.fieldLink RX6 85 "JugsAndGlassesModel" "drain" "Z", Cond.fieldLink RX6 26 "JugsAndGlassesModel" "room" "[I", Cond.fieldLink RX6 7 "JugsAndGlassesModel" "size" "[I", Cond.fieldLink RX6 29 "JugsAndGlassesModel" "has" "[I", Cond.fieldLink RX6 13 "JugsAndGlassesModel" "held" "[I", Cond.methodLink RX6 108 yX6_numberOf, Cond.instanceMethod yX6_numberOf, Cond.selects RX6 yX6_numberOf yX6_numberOf, Cond.code yX6_numberOf cX6_numberOf 3 (some .int), Cond.methodLink RX6 115 yX6_layActs, Cond.instanceMethod yX6_layActs]
def wsX6_findCosts_r2 : List Cond := [Cond.selects RX6 yX6_layActs yX6_layActs, Cond.code yX6_layActs cX6_layActs 5 none, Cond.fieldLink RX6 33 "JugsAndGlassesModel" "next" "[I", Cond.fieldLink RX6 36 "JugsAndGlassesModel" "spills" "[I", Cond.fieldLink RX6 88 "JugsAndGlassesModel" "spilt" "I", Cond.methodLink RX6 100 yX6_stateMany, Cond.instanceMethod yX6_stateMany, Cond.selects RX6 yX6_stateMany yX6_stateMany, Cond.code yX6_stateMany cX6_stateMany 3 (some .int), Cond.methodLink RX6 104 yX6_layState, Cond.instanceMethod yX6_layState, Cond.selects RX6 yX6_layState yX6_layState, Cond.code yX6_layState cX6_layState 4 none, Cond.methodLink RX6 97 yX6_does, Cond.instanceMethod yX6_does, Cond.selects RX6 yX6_does yX6_does, Cond.code yX6_does cX6_does 4 (some .boolean), Cond.fieldLink RX6 91 "JugsAndGlassesModel" "moved" "I", Cond.methodLink RX6 118 yX6_isMade, Cond.instanceMethod yX6_isMade, Cond.selects RX6 yX6_isMade yX6_isMade, Cond.code yX6_isMade cX6_isMade 6 (some .boolean), Cond.methodLink RX6 121 yX6_costBy, Cond.instanceMethod yX6_costBy]
def wsX6_findCosts_r3 : List Cond := [Cond.selects RX6 yX6_costBy yX6_costBy, Cond.code yX6_costBy cX6_costBy 5 (some .int)]
def wsX6_findCosts : List Cond := .code yX6_findCosts cX6_findCosts 9 none :: ((wsX6_findCosts_r1 ++ (wsX6_findCosts_r2 ++ wsX6_findCosts_r3)) ++ wsX60)
def wsX6_isAim : List Cond := .code yX6_isAim cX6_isAim 3 (some .boolean) :: ([.methodLink RX6 75 yX6_isJug, .instanceMethod yX6_isJug, .selects RX6 yX6_isJug yX6_isJug, .initialized RX6, .code yX6_isJug cX6_isJug 2 (some .boolean), .fieldLink RX6 67 "JugsAndGlassesModel" "jugs" "I", .methodLink RX6 71 yX6_in, .static yX6_in, .code yX6_in cX6_in 3 (some .boolean)] ++ wsX60)
def wsX6_actOf : List Cond := .code yX6_actOf cX6_actOf 6 (some .int) :: ([.fieldLink RX6 112 "JugsAndGlassesModel" "start" "I", .fieldLink RX6 39 "JugsAndGlassesModel" "costs" "[I", .constant RX6 111 (1000000000), .fieldLink RX6 33 "JugsAndGlassesModel" "next" "[I", .methodLink RX6 121 yX6_costBy, .instanceMethod yX6_costBy, .selects RX6 yX6_costBy yX6_costBy, .initialized RX6, .code yX6_costBy cX6_costBy 5 (some .int), .fieldLink RX6 36 "JugsAndGlassesModel" "spills" "[I"] ++ wsX60)
def wsX6_fewest_r1 : List Cond := [Cond.fieldLink RX6 39 "JugsAndGlassesModel" "costs" "[I", Cond.fieldLink RX6 112 "JugsAndGlassesModel" "start" "I", Cond.constant RX6 111 (1000000000), Cond.methodLink RX6 125 yX6_isAim, Cond.instanceMethod yX6_isAim, Cond.selects RX6 yX6_isAim yX6_isAim, Cond.initialized RX6, Cond.code yX6_isAim cX6_isAim 3 (some .boolean), Cond.methodLink RX6 75 yX6_isJug, Cond.instanceMethod yX6_isJug, Cond.selects RX6 yX6_isJug yX6_isJug, Cond.code yX6_isJug cX6_isJug 2 (some .boolean), Cond.fieldLink RX6 67 "JugsAndGlassesModel" "jugs" "I", Cond.methodLink RX6 71 yX6_in, Cond.static yX6_in, Cond.code yX6_in cX6_in 3 (some .boolean), Cond.methodLink RX6 129 yX6_findCosts, Cond.instanceMethod yX6_findCosts, Cond.selects RX6 yX6_findCosts yX6_findCosts, Cond.code yX6_findCosts cX6_findCosts 9 none, Cond.methodLink RX6 94 yX6_tryOwn, Cond.instanceMethod yX6_tryOwn, Cond.selects RX6 yX6_tryOwn yX6_tryOwn, Cond.code yX6_tryOwn cX6_tryOwn 2 none]
def wsX6_fewest_r2 : List Cond := [Cond.fieldLink RX6 79 "JugsAndGlassesModel" "tried" "I", Cond.fieldLink RX6 16 "JugsAndGlassesModel" "hasTap" "Z", Cond.fieldLink RX6 82 "JugsAndGlassesModel" "tap" "Z", Cond.fieldLink RX6 20 "JugsAndGlassesModel" "hasDrain" "Z", Cond.fieldLink RX6 85 "JugsAndGlassesModel" "drain" "Z", Cond.fieldLink RX6 26 "JugsAndGlassesModel" "room" "[I", Cond.fieldLink RX6 7 "JugsAndGlassesModel" "size" "[I", Cond.fieldLink RX6 29 "JugsAndGlassesModel" "has" "[I", Cond.fieldLink RX6 13 "JugsAndGlassesModel" "held" "[I", Cond.methodLink RX6 108 yX6_numberOf, Cond.instanceMethod yX6_numberOf, Cond.selects RX6 yX6_numberOf yX6_numberOf, Cond.code yX6_numberOf cX6_numberOf 3 (some .int), Cond.methodLink RX6 115 yX6_layActs, Cond.instanceMethod yX6_layActs, Cond.selects RX6 yX6_layActs yX6_layActs, Cond.code yX6_layActs cX6_layActs 5 none, Cond.fieldLink RX6 33 "JugsAndGlassesModel" "next" "[I", Cond.fieldLink RX6 36 "JugsAndGlassesModel" "spills" "[I", Cond.fieldLink RX6 88 "JugsAndGlassesModel" "spilt" "I", Cond.methodLink RX6 100 yX6_stateMany, Cond.instanceMethod yX6_stateMany, Cond.selects RX6 yX6_stateMany yX6_stateMany, Cond.code yX6_stateMany cX6_stateMany 3 (some .int)]
def wsX6_fewest_r3 : List Cond := [Cond.methodLink RX6 104 yX6_layState, Cond.instanceMethod yX6_layState, Cond.selects RX6 yX6_layState yX6_layState, Cond.code yX6_layState cX6_layState 4 none, Cond.methodLink RX6 97 yX6_does, Cond.instanceMethod yX6_does, Cond.selects RX6 yX6_does yX6_does, Cond.code yX6_does cX6_does 4 (some .boolean), Cond.fieldLink RX6 91 "JugsAndGlassesModel" "moved" "I", Cond.methodLink RX6 118 yX6_isMade, Cond.instanceMethod yX6_isMade, Cond.selects RX6 yX6_isMade yX6_isMade, Cond.code yX6_isMade cX6_isMade 6 (some .boolean), Cond.methodLink RX6 121 yX6_costBy, Cond.instanceMethod yX6_costBy, Cond.selects RX6 yX6_costBy yX6_costBy, Cond.code yX6_costBy cX6_costBy 5 (some .int)]
def wsX6_fewest : List Cond := .code yX6_fewest cX6_fewest 3 (some .int) :: ((wsX6_fewest_r1 ++ (wsX6_fewest_r2 ++ wsX6_fewest_r3)) ++ wsX60)
def wsX6_rows_r1 : List Cond := [Cond.constantLong RX6 133 (-2), Cond.fieldLink RX6 39 "JugsAndGlassesModel" "costs" "[I", Cond.fieldLink RX6 112 "JugsAndGlassesModel" "start" "I", Cond.constant RX6 111 (1000000000), Cond.fieldLink RX6 42 "JugsAndGlassesModel" "rows" "[J", Cond.fieldLink RX6 33 "JugsAndGlassesModel" "next" "[I", Cond.constantLong RX6 135 (1000000000000000000), Cond.methodLink RX6 125 yX6_isAim, Cond.instanceMethod yX6_isAim, Cond.selects RX6 yX6_isAim yX6_isAim, Cond.initialized RX6, Cond.code yX6_isAim cX6_isAim 3 (some .boolean), Cond.methodLink RX6 75 yX6_isJug, Cond.instanceMethod yX6_isJug, Cond.selects RX6 yX6_isJug yX6_isJug, Cond.code yX6_isJug cX6_isJug 2 (some .boolean), Cond.fieldLink RX6 67 "JugsAndGlassesModel" "jugs" "I", Cond.methodLink RX6 71 yX6_in, Cond.static yX6_in, Cond.code yX6_in cX6_in 3 (some .boolean), Cond.methodLink RX6 129 yX6_findCosts, Cond.instanceMethod yX6_findCosts, Cond.selects RX6 yX6_findCosts yX6_findCosts, Cond.code yX6_findCosts cX6_findCosts 9 none]
def wsX6_rows_r2 : List Cond := [Cond.methodLink RX6 94 yX6_tryOwn, Cond.instanceMethod yX6_tryOwn, Cond.selects RX6 yX6_tryOwn yX6_tryOwn, Cond.code yX6_tryOwn cX6_tryOwn 2 none, Cond.fieldLink RX6 79 "JugsAndGlassesModel" "tried" "I", Cond.fieldLink RX6 16 "JugsAndGlassesModel" "hasTap" "Z", Cond.fieldLink RX6 82 "JugsAndGlassesModel" "tap" "Z", Cond.fieldLink RX6 20 "JugsAndGlassesModel" "hasDrain" "Z", Cond.fieldLink RX6 85 "JugsAndGlassesModel" "drain" "Z", Cond.fieldLink RX6 26 "JugsAndGlassesModel" "room" "[I", Cond.fieldLink RX6 7 "JugsAndGlassesModel" "size" "[I", Cond.fieldLink RX6 29 "JugsAndGlassesModel" "has" "[I", Cond.fieldLink RX6 13 "JugsAndGlassesModel" "held" "[I", Cond.methodLink RX6 108 yX6_numberOf, Cond.instanceMethod yX6_numberOf, Cond.selects RX6 yX6_numberOf yX6_numberOf, Cond.code yX6_numberOf cX6_numberOf 3 (some .int), Cond.methodLink RX6 115 yX6_layActs, Cond.instanceMethod yX6_layActs, Cond.selects RX6 yX6_layActs yX6_layActs, Cond.code yX6_layActs cX6_layActs 5 none, Cond.fieldLink RX6 36 "JugsAndGlassesModel" "spills" "[I", Cond.fieldLink RX6 88 "JugsAndGlassesModel" "spilt" "I", Cond.methodLink RX6 100 yX6_stateMany]
def wsX6_rows_r3 : List Cond := [Cond.instanceMethod yX6_stateMany, Cond.selects RX6 yX6_stateMany yX6_stateMany, Cond.code yX6_stateMany cX6_stateMany 3 (some .int), Cond.methodLink RX6 104 yX6_layState, Cond.instanceMethod yX6_layState, Cond.selects RX6 yX6_layState yX6_layState, Cond.code yX6_layState cX6_layState 4 none, Cond.methodLink RX6 97 yX6_does, Cond.instanceMethod yX6_does, Cond.selects RX6 yX6_does yX6_does, Cond.code yX6_does cX6_does 4 (some .boolean), Cond.fieldLink RX6 91 "JugsAndGlassesModel" "moved" "I", Cond.methodLink RX6 118 yX6_isMade, Cond.instanceMethod yX6_isMade, Cond.selects RX6 yX6_isMade yX6_isMade, Cond.code yX6_isMade cX6_isMade 6 (some .boolean), Cond.methodLink RX6 121 yX6_costBy, Cond.instanceMethod yX6_costBy, Cond.selects RX6 yX6_costBy yX6_costBy, Cond.code yX6_costBy cX6_costBy 5 (some .int)]
def wsX6_rows : List Cond := .code yX6_rows cX6_rows 9 (some .long) :: ((wsX6_rows_r1 ++ (wsX6_rows_r2 ++ wsX6_rows_r3)) ++ wsX60)
def wsX6_best_r1 : List Cond := [Cond.methodLink RX6 125 yX6_isAim, Cond.instanceMethod yX6_isAim, Cond.selects RX6 yX6_isAim yX6_isAim, Cond.initialized RX6, Cond.code yX6_isAim cX6_isAim 3 (some .boolean), Cond.methodLink RX6 75 yX6_isJug, Cond.instanceMethod yX6_isJug, Cond.selects RX6 yX6_isJug yX6_isJug, Cond.code yX6_isJug cX6_isJug 2 (some .boolean), Cond.fieldLink RX6 67 "JugsAndGlassesModel" "jugs" "I", Cond.methodLink RX6 71 yX6_in, Cond.static yX6_in, Cond.code yX6_in cX6_in 3 (some .boolean), Cond.methodLink RX6 129 yX6_findCosts, Cond.instanceMethod yX6_findCosts, Cond.selects RX6 yX6_findCosts yX6_findCosts, Cond.code yX6_findCosts cX6_findCosts 9 none, Cond.fieldLink RX6 112 "JugsAndGlassesModel" "start" "I", Cond.fieldLink RX6 39 "JugsAndGlassesModel" "costs" "[I", Cond.constant RX6 111 (1000000000), Cond.methodLink RX6 94 yX6_tryOwn, Cond.instanceMethod yX6_tryOwn, Cond.selects RX6 yX6_tryOwn yX6_tryOwn, Cond.code yX6_tryOwn cX6_tryOwn 2 none]
def wsX6_best_r2 : List Cond := [Cond.fieldLink RX6 79 "JugsAndGlassesModel" "tried" "I", Cond.fieldLink RX6 16 "JugsAndGlassesModel" "hasTap" "Z", Cond.fieldLink RX6 82 "JugsAndGlassesModel" "tap" "Z", Cond.fieldLink RX6 20 "JugsAndGlassesModel" "hasDrain" "Z", Cond.fieldLink RX6 85 "JugsAndGlassesModel" "drain" "Z", Cond.fieldLink RX6 26 "JugsAndGlassesModel" "room" "[I", Cond.fieldLink RX6 7 "JugsAndGlassesModel" "size" "[I", Cond.fieldLink RX6 29 "JugsAndGlassesModel" "has" "[I", Cond.fieldLink RX6 13 "JugsAndGlassesModel" "held" "[I", Cond.methodLink RX6 108 yX6_numberOf, Cond.instanceMethod yX6_numberOf, Cond.selects RX6 yX6_numberOf yX6_numberOf, Cond.code yX6_numberOf cX6_numberOf 3 (some .int), Cond.methodLink RX6 115 yX6_layActs, Cond.instanceMethod yX6_layActs, Cond.selects RX6 yX6_layActs yX6_layActs, Cond.code yX6_layActs cX6_layActs 5 none, Cond.fieldLink RX6 33 "JugsAndGlassesModel" "next" "[I", Cond.fieldLink RX6 36 "JugsAndGlassesModel" "spills" "[I", Cond.fieldLink RX6 88 "JugsAndGlassesModel" "spilt" "I", Cond.methodLink RX6 100 yX6_stateMany, Cond.instanceMethod yX6_stateMany, Cond.selects RX6 yX6_stateMany yX6_stateMany, Cond.code yX6_stateMany cX6_stateMany 3 (some .int)]
def wsX6_best_r3 : List Cond := [Cond.methodLink RX6 104 yX6_layState, Cond.instanceMethod yX6_layState, Cond.selects RX6 yX6_layState yX6_layState, Cond.code yX6_layState cX6_layState 4 none, Cond.methodLink RX6 97 yX6_does, Cond.instanceMethod yX6_does, Cond.selects RX6 yX6_does yX6_does, Cond.code yX6_does cX6_does 4 (some .boolean), Cond.fieldLink RX6 91 "JugsAndGlassesModel" "moved" "I", Cond.methodLink RX6 118 yX6_isMade, Cond.instanceMethod yX6_isMade, Cond.selects RX6 yX6_isMade yX6_isMade, Cond.code yX6_isMade cX6_isMade 6 (some .boolean), Cond.methodLink RX6 121 yX6_costBy, Cond.instanceMethod yX6_costBy, Cond.selects RX6 yX6_costBy yX6_costBy, Cond.code yX6_costBy cX6_costBy 5 (some .int), Cond.methodLink RX6 137 yX6_actOf, Cond.instanceMethod yX6_actOf, Cond.selects RX6 yX6_actOf yX6_actOf, Cond.code yX6_actOf cX6_actOf 6 (some .int)]
def wsX6_best : List Cond := .code yX6_best cX6_best 4 (some .int) :: ((wsX6_best_r1 ++ (wsX6_best_r2 ++ wsX6_best_r3)) ++ wsX60)
def wsX6_sparing_r1 : List Cond := [Cond.fieldLink RX6 39 "JugsAndGlassesModel" "costs" "[I", Cond.fieldLink RX6 112 "JugsAndGlassesModel" "start" "I", Cond.constant RX6 111 (1000000000), Cond.methodLink RX6 125 yX6_isAim, Cond.instanceMethod yX6_isAim, Cond.selects RX6 yX6_isAim yX6_isAim, Cond.initialized RX6, Cond.code yX6_isAim cX6_isAim 3 (some .boolean), Cond.methodLink RX6 75 yX6_isJug, Cond.instanceMethod yX6_isJug, Cond.selects RX6 yX6_isJug yX6_isJug, Cond.code yX6_isJug cX6_isJug 2 (some .boolean), Cond.fieldLink RX6 67 "JugsAndGlassesModel" "jugs" "I", Cond.methodLink RX6 71 yX6_in, Cond.static yX6_in, Cond.code yX6_in cX6_in 3 (some .boolean), Cond.methodLink RX6 129 yX6_findCosts, Cond.instanceMethod yX6_findCosts, Cond.selects RX6 yX6_findCosts yX6_findCosts, Cond.code yX6_findCosts cX6_findCosts 9 none, Cond.methodLink RX6 94 yX6_tryOwn, Cond.instanceMethod yX6_tryOwn, Cond.selects RX6 yX6_tryOwn yX6_tryOwn, Cond.code yX6_tryOwn cX6_tryOwn 2 none]
def wsX6_sparing_r2 : List Cond := [Cond.fieldLink RX6 79 "JugsAndGlassesModel" "tried" "I", Cond.fieldLink RX6 16 "JugsAndGlassesModel" "hasTap" "Z", Cond.fieldLink RX6 82 "JugsAndGlassesModel" "tap" "Z", Cond.fieldLink RX6 20 "JugsAndGlassesModel" "hasDrain" "Z", Cond.fieldLink RX6 85 "JugsAndGlassesModel" "drain" "Z", Cond.fieldLink RX6 26 "JugsAndGlassesModel" "room" "[I", Cond.fieldLink RX6 7 "JugsAndGlassesModel" "size" "[I", Cond.fieldLink RX6 29 "JugsAndGlassesModel" "has" "[I", Cond.fieldLink RX6 13 "JugsAndGlassesModel" "held" "[I", Cond.methodLink RX6 108 yX6_numberOf, Cond.instanceMethod yX6_numberOf, Cond.selects RX6 yX6_numberOf yX6_numberOf, Cond.code yX6_numberOf cX6_numberOf 3 (some .int), Cond.methodLink RX6 115 yX6_layActs, Cond.instanceMethod yX6_layActs, Cond.selects RX6 yX6_layActs yX6_layActs, Cond.code yX6_layActs cX6_layActs 5 none, Cond.fieldLink RX6 33 "JugsAndGlassesModel" "next" "[I", Cond.fieldLink RX6 36 "JugsAndGlassesModel" "spills" "[I", Cond.fieldLink RX6 88 "JugsAndGlassesModel" "spilt" "I", Cond.methodLink RX6 100 yX6_stateMany, Cond.instanceMethod yX6_stateMany, Cond.selects RX6 yX6_stateMany yX6_stateMany, Cond.code yX6_stateMany cX6_stateMany 3 (some .int)]
def wsX6_sparing_r3 : List Cond := [Cond.methodLink RX6 104 yX6_layState, Cond.instanceMethod yX6_layState, Cond.selects RX6 yX6_layState yX6_layState, Cond.code yX6_layState cX6_layState 4 none, Cond.methodLink RX6 97 yX6_does, Cond.instanceMethod yX6_does, Cond.selects RX6 yX6_does yX6_does, Cond.code yX6_does cX6_does 4 (some .boolean), Cond.fieldLink RX6 91 "JugsAndGlassesModel" "moved" "I", Cond.methodLink RX6 118 yX6_isMade, Cond.instanceMethod yX6_isMade, Cond.selects RX6 yX6_isMade yX6_isMade, Cond.code yX6_isMade cX6_isMade 6 (some .boolean), Cond.methodLink RX6 121 yX6_costBy, Cond.instanceMethod yX6_costBy, Cond.selects RX6 yX6_costBy yX6_costBy, Cond.code yX6_costBy cX6_costBy 5 (some .int)]
def wsX6_sparing : List Cond := .code yX6_sparing cX6_sparing 5 (some .int) :: ((wsX6_sparing_r1 ++ (wsX6_sparing_r2 ++ wsX6_sparing_r3)) ++ wsX60)
def wsX6_spare_r1 : List Cond := [Cond.methodLink RX6 125 yX6_isAim, Cond.instanceMethod yX6_isAim, Cond.selects RX6 yX6_isAim yX6_isAim, Cond.initialized RX6, Cond.code yX6_isAim cX6_isAim 3 (some .boolean), Cond.methodLink RX6 75 yX6_isJug, Cond.instanceMethod yX6_isJug, Cond.selects RX6 yX6_isJug yX6_isJug, Cond.code yX6_isJug cX6_isJug 2 (some .boolean), Cond.fieldLink RX6 67 "JugsAndGlassesModel" "jugs" "I", Cond.methodLink RX6 71 yX6_in, Cond.static yX6_in, Cond.code yX6_in cX6_in 3 (some .boolean), Cond.methodLink RX6 129 yX6_findCosts, Cond.instanceMethod yX6_findCosts, Cond.selects RX6 yX6_findCosts yX6_findCosts, Cond.code yX6_findCosts cX6_findCosts 9 none, Cond.fieldLink RX6 112 "JugsAndGlassesModel" "start" "I", Cond.fieldLink RX6 39 "JugsAndGlassesModel" "costs" "[I", Cond.constant RX6 111 (1000000000), Cond.methodLink RX6 94 yX6_tryOwn, Cond.instanceMethod yX6_tryOwn, Cond.selects RX6 yX6_tryOwn yX6_tryOwn, Cond.code yX6_tryOwn cX6_tryOwn 2 none]
def wsX6_spare_r2 : List Cond := [Cond.fieldLink RX6 79 "JugsAndGlassesModel" "tried" "I", Cond.fieldLink RX6 16 "JugsAndGlassesModel" "hasTap" "Z", Cond.fieldLink RX6 82 "JugsAndGlassesModel" "tap" "Z", Cond.fieldLink RX6 20 "JugsAndGlassesModel" "hasDrain" "Z", Cond.fieldLink RX6 85 "JugsAndGlassesModel" "drain" "Z", Cond.fieldLink RX6 26 "JugsAndGlassesModel" "room" "[I", Cond.fieldLink RX6 7 "JugsAndGlassesModel" "size" "[I", Cond.fieldLink RX6 29 "JugsAndGlassesModel" "has" "[I", Cond.fieldLink RX6 13 "JugsAndGlassesModel" "held" "[I", Cond.methodLink RX6 108 yX6_numberOf, Cond.instanceMethod yX6_numberOf, Cond.selects RX6 yX6_numberOf yX6_numberOf, Cond.code yX6_numberOf cX6_numberOf 3 (some .int), Cond.methodLink RX6 115 yX6_layActs, Cond.instanceMethod yX6_layActs, Cond.selects RX6 yX6_layActs yX6_layActs, Cond.code yX6_layActs cX6_layActs 5 none, Cond.fieldLink RX6 33 "JugsAndGlassesModel" "next" "[I", Cond.fieldLink RX6 36 "JugsAndGlassesModel" "spills" "[I", Cond.fieldLink RX6 88 "JugsAndGlassesModel" "spilt" "I", Cond.methodLink RX6 100 yX6_stateMany, Cond.instanceMethod yX6_stateMany, Cond.selects RX6 yX6_stateMany yX6_stateMany, Cond.code yX6_stateMany cX6_stateMany 3 (some .int)]
def wsX6_spare_r3 : List Cond := [Cond.methodLink RX6 104 yX6_layState, Cond.instanceMethod yX6_layState, Cond.selects RX6 yX6_layState yX6_layState, Cond.code yX6_layState cX6_layState 4 none, Cond.methodLink RX6 97 yX6_does, Cond.instanceMethod yX6_does, Cond.selects RX6 yX6_does yX6_does, Cond.code yX6_does cX6_does 4 (some .boolean), Cond.fieldLink RX6 91 "JugsAndGlassesModel" "moved" "I", Cond.methodLink RX6 118 yX6_isMade, Cond.instanceMethod yX6_isMade, Cond.selects RX6 yX6_isMade yX6_isMade, Cond.code yX6_isMade cX6_isMade 6 (some .boolean), Cond.methodLink RX6 121 yX6_costBy, Cond.instanceMethod yX6_costBy, Cond.selects RX6 yX6_costBy yX6_costBy, Cond.code yX6_costBy cX6_costBy 5 (some .int), Cond.methodLink RX6 137 yX6_actOf, Cond.instanceMethod yX6_actOf, Cond.selects RX6 yX6_actOf yX6_actOf, Cond.code yX6_actOf cX6_actOf 6 (some .int)]
def wsX6_spare : List Cond := .code yX6_spare cX6_spare 4 (some .int) :: ((wsX6_spare_r1 ++ (wsX6_spare_r2 ++ wsX6_spare_r3)) ++ wsX60)
def wsX6_reach_r1 : List Cond := [Cond.fieldLink RX6 46 "JugsAndGlassesModel" "isReached" "[Z", Cond.fieldLink RX6 50 "JugsAndGlassesModel" "queue" "[I", Cond.methodLink RX6 100 yX6_stateMany, Cond.instanceMethod yX6_stateMany, Cond.selects RX6 yX6_stateMany yX6_stateMany, Cond.initialized RX6, Cond.code yX6_stateMany cX6_stateMany 3 (some .int), Cond.fieldLink RX6 79 "JugsAndGlassesModel" "tried" "I", Cond.fieldLink RX6 26 "JugsAndGlassesModel" "room" "[I", Cond.methodLink RX6 104 yX6_layState, Cond.instanceMethod yX6_layState, Cond.selects RX6 yX6_layState yX6_layState, Cond.code yX6_layState cX6_layState 4 none, Cond.fieldLink RX6 29 "JugsAndGlassesModel" "has" "[I", Cond.methodLink RX6 97 yX6_does, Cond.instanceMethod yX6_does, Cond.selects RX6 yX6_does yX6_does, Cond.code yX6_does cX6_does 4 (some .boolean), Cond.fieldLink RX6 88 "JugsAndGlassesModel" "spilt" "I", Cond.fieldLink RX6 82 "JugsAndGlassesModel" "tap" "Z", Cond.fieldLink RX6 91 "JugsAndGlassesModel" "moved" "I", Cond.fieldLink RX6 85 "JugsAndGlassesModel" "drain" "Z", Cond.methodLink RX6 108 yX6_numberOf, Cond.instanceMethod yX6_numberOf]
def wsX6_reach_r2 : List Cond := [Cond.selects RX6 yX6_numberOf yX6_numberOf, Cond.code yX6_numberOf cX6_numberOf 3 (some .int)]
def wsX6_reach : List Cond := .code yX6_reach cX6_reach 7 (some .int) :: ((wsX6_reach_r1 ++ wsX6_reach_r2) ++ wsX60)
def wsX6_madeBy : List Cond := .code yX6_madeBy cX6_madeBy 5 (some .int) :: ([.fieldLink RX6 50 "JugsAndGlassesModel" "queue" "[I", .fieldLink RX6 79 "JugsAndGlassesModel" "tried" "I", .fieldLink RX6 29 "JugsAndGlassesModel" "has" "[I", .methodLink RX6 104 yX6_layState, .instanceMethod yX6_layState, .selects RX6 yX6_layState yX6_layState, .initialized RX6, .code yX6_layState cX6_layState 4 none, .fieldLink RX6 26 "JugsAndGlassesModel" "room" "[I"] ++ wsX60)
def wsX6_makes_r1 : List Cond := [Cond.methodLink RX6 94 yX6_tryOwn, Cond.instanceMethod yX6_tryOwn, Cond.selects RX6 yX6_tryOwn yX6_tryOwn, Cond.initialized RX6, Cond.code yX6_tryOwn cX6_tryOwn 2 none, Cond.fieldLink RX6 67 "JugsAndGlassesModel" "jugs" "I", Cond.fieldLink RX6 79 "JugsAndGlassesModel" "tried" "I", Cond.fieldLink RX6 16 "JugsAndGlassesModel" "hasTap" "Z", Cond.fieldLink RX6 82 "JugsAndGlassesModel" "tap" "Z", Cond.fieldLink RX6 20 "JugsAndGlassesModel" "hasDrain" "Z", Cond.fieldLink RX6 85 "JugsAndGlassesModel" "drain" "Z", Cond.fieldLink RX6 26 "JugsAndGlassesModel" "room" "[I", Cond.fieldLink RX6 7 "JugsAndGlassesModel" "size" "[I", Cond.fieldLink RX6 29 "JugsAndGlassesModel" "has" "[I", Cond.fieldLink RX6 13 "JugsAndGlassesModel" "held" "[I", Cond.methodLink RX6 108 yX6_numberOf, Cond.instanceMethod yX6_numberOf, Cond.selects RX6 yX6_numberOf yX6_numberOf, Cond.code yX6_numberOf cX6_numberOf 3 (some .int), Cond.methodLink RX6 141 yX6_reach, Cond.instanceMethod yX6_reach, Cond.selects RX6 yX6_reach yX6_reach, Cond.code yX6_reach cX6_reach 7 (some .int), Cond.fieldLink RX6 46 "JugsAndGlassesModel" "isReached" "[Z"]
def wsX6_makes_r2 : List Cond := [Cond.fieldLink RX6 50 "JugsAndGlassesModel" "queue" "[I", Cond.methodLink RX6 100 yX6_stateMany, Cond.instanceMethod yX6_stateMany, Cond.selects RX6 yX6_stateMany yX6_stateMany, Cond.code yX6_stateMany cX6_stateMany 3 (some .int), Cond.methodLink RX6 104 yX6_layState, Cond.instanceMethod yX6_layState, Cond.selects RX6 yX6_layState yX6_layState, Cond.code yX6_layState cX6_layState 4 none, Cond.methodLink RX6 97 yX6_does, Cond.instanceMethod yX6_does, Cond.selects RX6 yX6_does yX6_does, Cond.code yX6_does cX6_does 4 (some .boolean), Cond.fieldLink RX6 88 "JugsAndGlassesModel" "spilt" "I", Cond.fieldLink RX6 91 "JugsAndGlassesModel" "moved" "I", Cond.methodLink RX6 145 yX6_madeBy, Cond.instanceMethod yX6_madeBy, Cond.selects RX6 yX6_madeBy yX6_madeBy, Cond.code yX6_madeBy cX6_madeBy 5 (some .int)]
def wsX6_makes : List Cond := .code yX6_makes cX6_makes 1 (some .int) :: ((wsX6_makes_r1 ++ wsX6_makes_r2) ++ wsX60)
def wsX6_reaches_r1 : List Cond := [Cond.methodLink RX6 94 yX6_tryOwn, Cond.instanceMethod yX6_tryOwn, Cond.selects RX6 yX6_tryOwn yX6_tryOwn, Cond.initialized RX6, Cond.code yX6_tryOwn cX6_tryOwn 2 none, Cond.fieldLink RX6 67 "JugsAndGlassesModel" "jugs" "I", Cond.fieldLink RX6 79 "JugsAndGlassesModel" "tried" "I", Cond.fieldLink RX6 16 "JugsAndGlassesModel" "hasTap" "Z", Cond.fieldLink RX6 82 "JugsAndGlassesModel" "tap" "Z", Cond.fieldLink RX6 20 "JugsAndGlassesModel" "hasDrain" "Z", Cond.fieldLink RX6 85 "JugsAndGlassesModel" "drain" "Z", Cond.fieldLink RX6 26 "JugsAndGlassesModel" "room" "[I", Cond.fieldLink RX6 7 "JugsAndGlassesModel" "size" "[I", Cond.fieldLink RX6 29 "JugsAndGlassesModel" "has" "[I", Cond.fieldLink RX6 13 "JugsAndGlassesModel" "held" "[I", Cond.methodLink RX6 108 yX6_numberOf, Cond.instanceMethod yX6_numberOf, Cond.selects RX6 yX6_numberOf yX6_numberOf, Cond.code yX6_numberOf cX6_numberOf 3 (some .int), Cond.methodLink RX6 141 yX6_reach, Cond.instanceMethod yX6_reach, Cond.selects RX6 yX6_reach yX6_reach, Cond.code yX6_reach cX6_reach 7 (some .int), Cond.fieldLink RX6 46 "JugsAndGlassesModel" "isReached" "[Z"]
def wsX6_reaches_r2 : List Cond := [Cond.fieldLink RX6 50 "JugsAndGlassesModel" "queue" "[I", Cond.methodLink RX6 100 yX6_stateMany, Cond.instanceMethod yX6_stateMany, Cond.selects RX6 yX6_stateMany yX6_stateMany, Cond.code yX6_stateMany cX6_stateMany 3 (some .int), Cond.methodLink RX6 104 yX6_layState, Cond.instanceMethod yX6_layState, Cond.selects RX6 yX6_layState yX6_layState, Cond.code yX6_layState cX6_layState 4 none, Cond.methodLink RX6 97 yX6_does, Cond.instanceMethod yX6_does, Cond.selects RX6 yX6_does yX6_does, Cond.code yX6_does cX6_does 4 (some .boolean), Cond.fieldLink RX6 88 "JugsAndGlassesModel" "spilt" "I", Cond.fieldLink RX6 91 "JugsAndGlassesModel" "moved" "I"]
def wsX6_reaches : List Cond := .code yX6_reaches cX6_reaches 1 (some .int) :: ((wsX6_reaches_r1 ++ wsX6_reaches_r2) ++ wsX60)
def wsX6_road : List Cond := .code yX6_road cX6_road 8 (some .int) :: ([.fieldLink RX6 67 "JugsAndGlassesModel" "jugs" "I", .fieldLink RX6 7 "JugsAndGlassesModel" "size" "[I", .methodLink RX6 75 yX6_isJug, .instanceMethod yX6_isJug, .selects RX6 yX6_isJug yX6_isJug, .initialized RX6, .code yX6_isJug cX6_isJug 2 (some .boolean), .methodLink RX6 71 yX6_in, .static yX6_in, .code yX6_in cX6_in 3 (some .boolean)] ++ wsX60)
def wsX6_makesAll_r1 : List Cond := [Cond.fieldLink RX6 79 "JugsAndGlassesModel" "tried" "I", Cond.fieldLink RX6 29 "JugsAndGlassesModel" "has" "[I", Cond.methodLink RX6 108 yX6_numberOf, Cond.instanceMethod yX6_numberOf, Cond.selects RX6 yX6_numberOf yX6_numberOf, Cond.initialized RX6, Cond.code yX6_numberOf cX6_numberOf 3 (some .int), Cond.fieldLink RX6 26 "JugsAndGlassesModel" "room" "[I", Cond.methodLink RX6 141 yX6_reach, Cond.instanceMethod yX6_reach, Cond.selects RX6 yX6_reach yX6_reach, Cond.code yX6_reach cX6_reach 7 (some .int), Cond.fieldLink RX6 46 "JugsAndGlassesModel" "isReached" "[Z", Cond.fieldLink RX6 50 "JugsAndGlassesModel" "queue" "[I", Cond.methodLink RX6 100 yX6_stateMany, Cond.instanceMethod yX6_stateMany, Cond.selects RX6 yX6_stateMany yX6_stateMany, Cond.code yX6_stateMany cX6_stateMany 3 (some .int), Cond.methodLink RX6 104 yX6_layState, Cond.instanceMethod yX6_layState, Cond.selects RX6 yX6_layState yX6_layState, Cond.code yX6_layState cX6_layState 4 none, Cond.methodLink RX6 97 yX6_does, Cond.instanceMethod yX6_does]
def wsX6_makesAll_r2 : List Cond := [Cond.selects RX6 yX6_does yX6_does, Cond.code yX6_does cX6_does 4 (some .boolean), Cond.fieldLink RX6 88 "JugsAndGlassesModel" "spilt" "I", Cond.fieldLink RX6 82 "JugsAndGlassesModel" "tap" "Z", Cond.fieldLink RX6 91 "JugsAndGlassesModel" "moved" "I", Cond.fieldLink RX6 85 "JugsAndGlassesModel" "drain" "Z", Cond.methodLink RX6 145 yX6_madeBy, Cond.instanceMethod yX6_madeBy, Cond.selects RX6 yX6_madeBy yX6_madeBy, Cond.code yX6_madeBy cX6_madeBy 5 (some .int)]
def wsX6_makesAll : List Cond := .code yX6_makesAll cX6_makesAll 4 (some .boolean) :: ((wsX6_makesAll_r1 ++ wsX6_makesAll_r2) ++ wsX60)
def wsX6_doRise : List Cond := .code yX6_doRise cX6_doRise 3 (some .boolean) :: ([.fieldLink RX6 79 "JugsAndGlassesModel" "tried" "I", .fieldLink RX6 26 "JugsAndGlassesModel" "room" "[I"] ++ wsX60)
def wsX6_sizes_r1 : List Cond := [Cond.fieldLink RX6 79 "JugsAndGlassesModel" "tried" "I", Cond.fieldLink RX6 82 "JugsAndGlassesModel" "tap" "Z", Cond.fieldLink RX6 85 "JugsAndGlassesModel" "drain" "Z", Cond.fieldLink RX6 26 "JugsAndGlassesModel" "room" "[I", Cond.methodLink RX6 71 yX6_in, Cond.static yX6_in, Cond.initialized RX6, Cond.code yX6_in cX6_in 3 (some .boolean), Cond.methodLink RX6 148 yX6_doRise, Cond.instanceMethod yX6_doRise, Cond.selects RX6 yX6_doRise yX6_doRise, Cond.code yX6_doRise cX6_doRise 3 (some .boolean), Cond.methodLink RX6 152 yX6_makesAll, Cond.instanceMethod yX6_makesAll, Cond.selects RX6 yX6_makesAll yX6_makesAll, Cond.code yX6_makesAll cX6_makesAll 4 (some .boolean), Cond.fieldLink RX6 29 "JugsAndGlassesModel" "has" "[I", Cond.methodLink RX6 108 yX6_numberOf, Cond.instanceMethod yX6_numberOf, Cond.selects RX6 yX6_numberOf yX6_numberOf, Cond.code yX6_numberOf cX6_numberOf 3 (some .int), Cond.methodLink RX6 141 yX6_reach, Cond.instanceMethod yX6_reach, Cond.selects RX6 yX6_reach yX6_reach]
def wsX6_sizes_r2 : List Cond := [Cond.code yX6_reach cX6_reach 7 (some .int), Cond.fieldLink RX6 46 "JugsAndGlassesModel" "isReached" "[Z", Cond.fieldLink RX6 50 "JugsAndGlassesModel" "queue" "[I", Cond.methodLink RX6 100 yX6_stateMany, Cond.instanceMethod yX6_stateMany, Cond.selects RX6 yX6_stateMany yX6_stateMany, Cond.code yX6_stateMany cX6_stateMany 3 (some .int), Cond.methodLink RX6 104 yX6_layState, Cond.instanceMethod yX6_layState, Cond.selects RX6 yX6_layState yX6_layState, Cond.code yX6_layState cX6_layState 4 none, Cond.methodLink RX6 97 yX6_does, Cond.instanceMethod yX6_does, Cond.selects RX6 yX6_does yX6_does, Cond.code yX6_does cX6_does 4 (some .boolean), Cond.fieldLink RX6 88 "JugsAndGlassesModel" "spilt" "I", Cond.fieldLink RX6 91 "JugsAndGlassesModel" "moved" "I", Cond.methodLink RX6 145 yX6_madeBy, Cond.instanceMethod yX6_madeBy, Cond.selects RX6 yX6_madeBy yX6_madeBy, Cond.code yX6_madeBy cX6_madeBy 5 (some .int)]
def wsX6_sizes : List Cond := .code yX6_sizes cX6_sizes 10 (some .int) :: ((wsX6_sizes_r1 ++ wsX6_sizes_r2) ++ wsX60)
def wsX6_glass : List Cond := .code yX6_glass cX6_glass 2 (some .int) :: ([.fieldLink RX6 155 "JugsAndGlassesModel" "glasses" "I", .fieldLink RX6 23 "JugsAndGlassesModel" "span" "[I", .methodLink RX6 71 yX6_in, .static yX6_in, .initialized RX6, .code yX6_in cX6_in 3 (some .boolean)] ++ wsX60)
def wsX6_smash : List Cond := .code yX6_smash cX6_smash 2 (some .int) :: ([.fieldLink RX6 155 "JugsAndGlassesModel" "glasses" "I"] ++ wsX60)
def wsX6_after : List Cond := .code yX6_after cX6_after 9 (some .int) :: ([.constant RX6 111 (1000000000), .fieldLink RX6 158 "JugsAndGlassesModel" "turned" "I", .fieldLink RX6 155 "JugsAndGlassesModel" "glasses" "I", .fieldLink RX6 23 "JugsAndGlassesModel" "span" "[I", .fieldLink RX6 161 "JugsAndGlassesModel" "gone" "I"] ++ wsX60)
def wsX6_isState : List Cond := .code yX6_isState cX6_isState 5 (some .boolean) :: ([.fieldLink RX6 155 "JugsAndGlassesModel" "glasses" "I", .fieldLink RX6 23 "JugsAndGlassesModel" "span" "[I"] ++ wsX60)
def wsX6_ones : List Cond := .code yX6_ones cX6_ones 1 (some .int) :: ([])
def wsX6_layGlasses : List Cond := .code yX6_layGlasses cX6_layGlasses 8 none :: ([.fieldLink RX6 155 "JugsAndGlassesModel" "glasses" "I", .fieldLink RX6 53 "JugsAndGlassesModel" "comes" "[I", .fieldLink RX6 56 "JugsAndGlassesModel" "takes" "[I", .fieldLink RX6 161 "JugsAndGlassesModel" "gone" "I", .constant RX6 59 (134017), .fieldLink RX6 60 "JugsAndGlassesModel" "ahead" "[I", .constant RX6 111 (1000000000), .fieldLink RX6 64 "JugsAndGlassesModel" "behind" "[I", .methodLink RX6 164 yX6_isState, .instanceMethod yX6_isState, .selects RX6 yX6_isState yX6_isState, .initialized RX6, .code yX6_isState cX6_isState 5 (some .boolean), .fieldLink RX6 23 "JugsAndGlassesModel" "span" "[I", .methodLink RX6 167 yX6_after, .instanceMethod yX6_after, .selects RX6 yX6_after yX6_after, .code yX6_after cX6_after 9 (some .int), .fieldLink RX6 158 "JugsAndGlassesModel" "turned" "I", .methodLink RX6 170 yX6_ones, .static yX6_ones, .code yX6_ones cX6_ones 1 (some .int)] ++ wsX60)
def wsX6_waitOf : List Cond := .code yX6_waitOf cX6_waitOf 6 (some .int) :: ([.constant RX6 111 (1000000000), .fieldLink RX6 173 "JugsAndGlassesModel" "fewestTurns" "I", .fieldLink RX6 60 "JugsAndGlassesModel" "ahead" "[I", .fieldLink RX6 64 "JugsAndGlassesModel" "behind" "[I"] ++ wsX60)
def wsX6_await_r1 : List Cond := [Cond.methodLink RX6 71 yX6_in, Cond.static yX6_in, Cond.initialized RX6, Cond.code yX6_in cX6_in 3 (some .boolean), Cond.methodLink RX6 176 yX6_layGlasses, Cond.instanceMethod yX6_layGlasses, Cond.selects RX6 yX6_layGlasses yX6_layGlasses, Cond.code yX6_layGlasses cX6_layGlasses 8 none, Cond.fieldLink RX6 155 "JugsAndGlassesModel" "glasses" "I", Cond.fieldLink RX6 53 "JugsAndGlassesModel" "comes" "[I", Cond.fieldLink RX6 56 "JugsAndGlassesModel" "takes" "[I", Cond.fieldLink RX6 161 "JugsAndGlassesModel" "gone" "I", Cond.constant RX6 59 (134017), Cond.fieldLink RX6 60 "JugsAndGlassesModel" "ahead" "[I", Cond.constant RX6 111 (1000000000), Cond.fieldLink RX6 64 "JugsAndGlassesModel" "behind" "[I", Cond.methodLink RX6 164 yX6_isState, Cond.instanceMethod yX6_isState, Cond.selects RX6 yX6_isState yX6_isState, Cond.code yX6_isState cX6_isState 5 (some .boolean), Cond.fieldLink RX6 23 "JugsAndGlassesModel" "span" "[I", Cond.methodLink RX6 167 yX6_after, Cond.instanceMethod yX6_after, Cond.selects RX6 yX6_after yX6_after]
def wsX6_await_r2 : List Cond := [Cond.code yX6_after cX6_after 9 (some .int), Cond.fieldLink RX6 158 "JugsAndGlassesModel" "turned" "I", Cond.methodLink RX6 170 yX6_ones, Cond.static yX6_ones, Cond.code yX6_ones cX6_ones 1 (some .int), Cond.methodLink RX6 179 yX6_waitOf, Cond.instanceMethod yX6_waitOf, Cond.selects RX6 yX6_waitOf yX6_waitOf, Cond.code yX6_waitOf cX6_waitOf 6 (some .int), Cond.fieldLink RX6 173 "JugsAndGlassesModel" "fewestTurns" "I"]
def wsX6_await : List Cond := .code yX6_await cX6_await 2 (some .int) :: ((wsX6_await_r1 ++ wsX6_await_r2) ++ wsX60)
def wsX6_turns_r1 : List Cond := [Cond.fieldLink RX6 173 "JugsAndGlassesModel" "fewestTurns" "I", Cond.methodLink RX6 71 yX6_in, Cond.static yX6_in, Cond.initialized RX6, Cond.code yX6_in cX6_in 3 (some .boolean), Cond.methodLink RX6 176 yX6_layGlasses, Cond.instanceMethod yX6_layGlasses, Cond.selects RX6 yX6_layGlasses yX6_layGlasses, Cond.code yX6_layGlasses cX6_layGlasses 8 none, Cond.fieldLink RX6 155 "JugsAndGlassesModel" "glasses" "I", Cond.fieldLink RX6 53 "JugsAndGlassesModel" "comes" "[I", Cond.fieldLink RX6 56 "JugsAndGlassesModel" "takes" "[I", Cond.fieldLink RX6 161 "JugsAndGlassesModel" "gone" "I", Cond.constant RX6 59 (134017), Cond.fieldLink RX6 60 "JugsAndGlassesModel" "ahead" "[I", Cond.constant RX6 111 (1000000000), Cond.fieldLink RX6 64 "JugsAndGlassesModel" "behind" "[I", Cond.methodLink RX6 164 yX6_isState, Cond.instanceMethod yX6_isState, Cond.selects RX6 yX6_isState yX6_isState, Cond.code yX6_isState cX6_isState 5 (some .boolean), Cond.fieldLink RX6 23 "JugsAndGlassesModel" "span" "[I", Cond.methodLink RX6 167 yX6_after, Cond.instanceMethod yX6_after]
def wsX6_turns_r2 : List Cond := [Cond.selects RX6 yX6_after yX6_after, Cond.code yX6_after cX6_after 9 (some .int), Cond.fieldLink RX6 158 "JugsAndGlassesModel" "turned" "I", Cond.methodLink RX6 170 yX6_ones, Cond.static yX6_ones, Cond.code yX6_ones cX6_ones 1 (some .int), Cond.methodLink RX6 179 yX6_waitOf, Cond.instanceMethod yX6_waitOf, Cond.selects RX6 yX6_waitOf yX6_waitOf, Cond.code yX6_waitOf cX6_waitOf 6 (some .int)]
def wsX6_turns : List Cond := .code yX6_turns cX6_turns 2 (some .int) :: ((wsX6_turns_r1 ++ wsX6_turns_r2) ++ wsX60)
def wsX6_spans_r1 : List Cond := [Cond.constantLong RX6 133 (-2), Cond.methodLink RX6 71 yX6_in, Cond.static yX6_in, Cond.initialized RX6, Cond.code yX6_in cX6_in 3 (some .boolean), Cond.methodLink RX6 176 yX6_layGlasses, Cond.instanceMethod yX6_layGlasses, Cond.selects RX6 yX6_layGlasses yX6_layGlasses, Cond.code yX6_layGlasses cX6_layGlasses 8 none, Cond.fieldLink RX6 155 "JugsAndGlassesModel" "glasses" "I", Cond.fieldLink RX6 53 "JugsAndGlassesModel" "comes" "[I", Cond.fieldLink RX6 56 "JugsAndGlassesModel" "takes" "[I", Cond.fieldLink RX6 161 "JugsAndGlassesModel" "gone" "I", Cond.constant RX6 59 (134017), Cond.fieldLink RX6 60 "JugsAndGlassesModel" "ahead" "[I", Cond.constant RX6 111 (1000000000), Cond.fieldLink RX6 64 "JugsAndGlassesModel" "behind" "[I", Cond.methodLink RX6 164 yX6_isState, Cond.instanceMethod yX6_isState, Cond.selects RX6 yX6_isState yX6_isState, Cond.code yX6_isState cX6_isState 5 (some .boolean), Cond.fieldLink RX6 23 "JugsAndGlassesModel" "span" "[I", Cond.methodLink RX6 167 yX6_after, Cond.instanceMethod yX6_after]
def wsX6_spans_r2 : List Cond := [Cond.selects RX6 yX6_after yX6_after, Cond.code yX6_after cX6_after 9 (some .int), Cond.fieldLink RX6 158 "JugsAndGlassesModel" "turned" "I", Cond.methodLink RX6 170 yX6_ones, Cond.static yX6_ones, Cond.code yX6_ones cX6_ones 1 (some .int), Cond.methodLink RX6 179 yX6_waitOf, Cond.instanceMethod yX6_waitOf, Cond.selects RX6 yX6_waitOf yX6_waitOf, Cond.code yX6_waitOf cX6_waitOf 6 (some .int), Cond.fieldLink RX6 173 "JugsAndGlassesModel" "fewestTurns" "I"]
def wsX6_spans : List Cond := .code yX6_spans cX6_spans 6 (some .long) :: ((wsX6_spans_r1 ++ wsX6_spans_r2) ++ wsX60)
def wsX6_count : List Cond := .code yX6_count cX6_count 4 (some .int) :: ([.fieldLink RX6 67 "JugsAndGlassesModel" "jugs" "I", .fieldLink RX6 155 "JugsAndGlassesModel" "glasses" "I", .fieldLink RX6 13 "JugsAndGlassesModel" "held" "[I", .methodLink RX6 94 yX6_tryOwn, .instanceMethod yX6_tryOwn, .selects RX6 yX6_tryOwn yX6_tryOwn, .initialized RX6, .code yX6_tryOwn cX6_tryOwn 2 none, .fieldLink RX6 79 "JugsAndGlassesModel" "tried" "I", .fieldLink RX6 16 "JugsAndGlassesModel" "hasTap" "Z", .fieldLink RX6 82 "JugsAndGlassesModel" "tap" "Z", .fieldLink RX6 20 "JugsAndGlassesModel" "hasDrain" "Z", .fieldLink RX6 85 "JugsAndGlassesModel" "drain" "Z", .fieldLink RX6 26 "JugsAndGlassesModel" "room" "[I", .fieldLink RX6 7 "JugsAndGlassesModel" "size" "[I", .fieldLink RX6 29 "JugsAndGlassesModel" "has" "[I", .methodLink RX6 97 yX6_does, .instanceMethod yX6_does, .selects RX6 yX6_does yX6_does, .code yX6_does cX6_does 4 (some .boolean), .fieldLink RX6 88 "JugsAndGlassesModel" "spilt" "I", .fieldLink RX6 91 "JugsAndGlassesModel" "moved" "I"] ++ wsX60)
def wsJ9_max_7cf53 : List Cond := .code yJ9_max_7cf53 cJ9_max_7cf53 2 (some .int) :: ([])
def wsJ9_min_7cf53 : List Cond := .code yJ9_min_7cf53 cJ9_min_7cf53 2 (some .int) :: ([])
def wsJ9_min_f86c9 : List Cond := .code yJ9_min_f86c9 cJ9_min_f86c9 4 (some .long) :: ([])
def wsL_law_r1 : List Cond := [Cond.classLink RL 7 RX5, Cond.instantiable RX5 3, Cond.initialized RX5, Cond.classLink RL 10 RX6, Cond.instantiable RX6 28, Cond.initialized RX6, Cond.methodLink RL 9 yX5_init, Cond.instanceMethod yX5_init, Cond.code yX5_init cX5_init 1 none, Cond.methodLink RX5 1 objectInit, Cond.instanceMethod objectInit, Cond.code objectInit ⟨#[0xb1]⟩ 1 none, Cond.classLink RX5 7 RX2, Cond.instantiable RX2 9, Cond.initialized RX2, Cond.fieldLink RX5 10 "JugsAndGlasses" "search" "LJugsAndGlasses$Search;", Cond.fieldLink RX5 16 "JugsAndGlasses$Search" "jugs" "LJugsAndGlasses$Jugs;", Cond.fieldLink RX5 20 "JugsAndGlasses" "jugs" "LJugsAndGlasses$Jugs;", Cond.classLink RX5 21 RX0, Cond.instantiable RX0 12, Cond.initialized RX0, Cond.fieldLink RX5 24 "JugsAndGlasses" "glasses" "LJugsAndGlasses$Glasses;", Cond.instanceMethod yX2_init, Cond.code yX2_init cX2_init 1 none]
def wsL_law_r2 : List Cond := [Cond.methodLink RX2 3 objectInit, Cond.classLink RX2 9 RX1, Cond.instantiable RX1 7, Cond.initialized RX1, Cond.fieldLink RX2 12 "JugsAndGlasses$Search" "jugs" "LJugsAndGlasses$Jugs;", Cond.fieldLink RX2 18 "JugsAndGlasses$Search" "trial" "LJugsAndGlasses$Jugs;", Cond.classLink RX2 21 RX4, Cond.instantiable RX4 4, Cond.initialized RX4, Cond.fieldLink RX2 24 "JugsAndGlasses$Search" "all" "LJugsAndGlasses$Tour;", Cond.fieldLink RX2 28 "JugsAndGlasses$Search" "thrifty" "LJugsAndGlasses$Tour;", Cond.classLink RX2 31 RX3, Cond.instantiable RX3 2, Cond.initialized RX3, Cond.fieldLink RX2 34 "JugsAndGlasses$Search" "spilling" "LJugsAndGlasses$Spilling;", Cond.arrayClass .long, Cond.fieldLink RX2 38 "JugsAndGlasses$Search" "ways" "[J", Cond.fieldLink RX2 42 "JugsAndGlasses$Search" "explored" "Z", Cond.fieldLink RX2 46 "JugsAndGlasses$Search" "counted" "Z", Cond.fieldLink RX2 49 "JugsAndGlasses$Search" "exploredSparing" "Z", Cond.instanceMethod yX1_init, Cond.code yX1_init cX1_init 1 none, Cond.methodLink RX1 3 objectInit, Cond.fieldLink RX1 9 "JugsAndGlasses$Jugs" "number" "I"]
def wsL_law_r3 : List Cond := [Cond.fieldLink RX1 15 "JugsAndGlasses$Jugs" "codes" "I", Cond.fieldLink RX1 18 "JugsAndGlasses$Jugs" "tap" "Z", Cond.fieldLink RX1 22 "JugsAndGlasses$Jugs" "drain" "Z", Cond.arrayClass .int, Cond.fieldLink RX1 25 "JugsAndGlasses$Jugs" "size" "[I", Cond.fieldLink RX1 29 "JugsAndGlasses$Jugs" "held" "[I", Cond.fieldLink RX1 32 "JugsAndGlasses$Jugs" "weight" "[I", Cond.instanceMethod yX4_init, Cond.code yX4_init cX4_init 1 none, Cond.methodLink RX4 3 objectInit, Cond.fieldLink RX4 9 "JugsAndGlasses$Tour" "found" "[I", Cond.fieldLink RX4 15 "JugsAndGlasses$Tour" "level" "[I", Cond.fieldLink RX4 18 "JugsAndGlasses$Tour" "cause" "[I", Cond.fieldLink RX4 21 "JugsAndGlasses$Tour" "reached" "I", Cond.instanceMethod yX3_init, Cond.code yX3_init cX3_init 1 none, Cond.methodLink RX3 3 objectInit, Cond.fieldLink RX3 9 "JugsAndGlasses$Spilling" "least" "[I", Cond.fieldLink RX3 15 "JugsAndGlasses$Spilling" "work" "[I", Cond.instanceMethod yX0_init, Cond.code yX0_init cX0_init 1 none, Cond.methodLink RX0 3 objectInit, Cond.fieldLink RX0 9 "JugsAndGlasses$Glasses" "number" "I", Cond.fieldLink RX0 15 "JugsAndGlasses$Glasses" "span" "[I"]
def wsL_law_r4 : List Cond := [Cond.fieldLink RX0 19 "JugsAndGlasses$Glasses" "waitOf" "[I", Cond.fieldLink RX0 22 "JugsAndGlasses$Glasses" "turnsOf" "[I", Cond.fieldLink RX0 25 "JugsAndGlasses$Glasses" "known" "Z", Cond.fieldLink RX0 29 "JugsAndGlasses$Glasses" "events" "[I", Cond.arrayClass .boolean, Cond.fieldLink RX0 32 "JugsAndGlasses$Glasses" "listed" "[Z", Cond.fieldLink RX0 36 "JugsAndGlasses$Glasses" "listedEvents" "I", Cond.fieldLink RX0 39 "JugsAndGlasses$Glasses" "leap" "[I", Cond.fieldLink RX0 42 "JugsAndGlasses$Glasses" "early" "[I", Cond.fieldLink RX0 45 "JugsAndGlasses$Glasses" "turned" "[I", Cond.classLink RX0 48 "[[I", Cond.fieldLink RX0 50 "JugsAndGlasses$Glasses" "ahead" "[[I", Cond.methodLink RL 12 yX6_init, Cond.instanceMethod yX6_init, Cond.code yX6_init cX6_init 1 none, Cond.methodLink RX6 1 objectInit, Cond.fieldLink RX6 7 "JugsAndGlassesModel" "size" "[I", Cond.fieldLink RX6 13 "JugsAndGlassesModel" "held" "[I", Cond.fieldLink RX6 16 "JugsAndGlassesModel" "hasTap" "Z", Cond.fieldLink RX6 20 "JugsAndGlassesModel" "hasDrain" "Z", Cond.fieldLink RX6 23 "JugsAndGlassesModel" "span" "[I", Cond.fieldLink RX6 26 "JugsAndGlassesModel" "room" "[I", Cond.fieldLink RX6 29 "JugsAndGlassesModel" "has" "[I", Cond.constant RX6 32 (351384)]
def wsL_law_r5 : List Cond := [Cond.fieldLink RX6 33 "JugsAndGlassesModel" "next" "[I", Cond.fieldLink RX6 36 "JugsAndGlassesModel" "spills" "[I", Cond.fieldLink RX6 39 "JugsAndGlassesModel" "costs" "[I", Cond.fieldLink RX6 42 "JugsAndGlassesModel" "rows" "[J", Cond.fieldLink RX6 46 "JugsAndGlassesModel" "isReached" "[Z", Cond.fieldLink RX6 50 "JugsAndGlassesModel" "queue" "[I", Cond.fieldLink RX6 53 "JugsAndGlassesModel" "comes" "[I", Cond.fieldLink RX6 56 "JugsAndGlassesModel" "takes" "[I", Cond.constant RX6 59 (134017), Cond.fieldLink RX6 60 "JugsAndGlassesModel" "ahead" "[I", Cond.constant RX6 63 (90077), Cond.fieldLink RX6 64 "JugsAndGlassesModel" "behind" "[I", Cond.methodLink RL 13 yX5_jug, Cond.instanceMethod yX5_jug, Cond.selects RX5 yX5_jug yX5_jug, Cond.code yX5_jug cX5_jug 3 (some .int), Cond.fieldLink RX5 28 "JugsAndGlasses$Jugs" "number" "I", Cond.methodLink RX5 34 yX2_forget, Cond.instanceMethod yX2_forget, Cond.selects RX2 yX2_forget yX2_forget, Cond.code yX2_forget cX2_forget 1 none, Cond.methodLink RX5 37 yX1_add, Cond.instanceMethod yX1_add, Cond.selects RX1 yX1_add yX1_add]
def wsL_law_r6 : List Cond := [Cond.code yX1_add cX1_add 3 (some .int), Cond.methodLink RL 17 yX6_jug, Cond.instanceMethod yX6_jug, Cond.selects RX6 yX6_jug yX6_jug, Cond.code yX6_jug cX6_jug 3 (some .int), Cond.fieldLink RX6 67 "JugsAndGlassesModel" "jugs" "I", Cond.methodLink RX6 71 yX6_in, Cond.static yX6_in, Cond.code yX6_in cX6_in 3 (some .boolean), Cond.methodLink RL 18 yX5_set, Cond.instanceMethod yX5_set, Cond.selects RX5 yX5_set yX5_set, Cond.code yX5_set cX5_set 4 (some .int), Cond.fieldLink RX5 41 "JugsAndGlasses$Jugs" "tap" "Z", Cond.fieldLink RX5 45 "JugsAndGlasses$Jugs" "drain" "Z", Cond.methodLink RL 22 yX6_set, Cond.instanceMethod yX6_set, Cond.selects RX6 yX6_set yX6_set, Cond.code yX6_set cX6_set 4 (some .int), Cond.methodLink RL 23 yX5_put, Cond.instanceMethod yX5_put, Cond.selects RX5 yX5_put yX5_put, Cond.code yX5_put cX5_put 4 (some .int), Cond.fieldLink RX5 52 "JugsAndGlasses$Jugs" "size" "[I"]
def wsL_law_r7 : List Cond := [Cond.fieldLink RX5 56 "JugsAndGlasses$Jugs" "held" "[I", Cond.methodLink RX5 48 yX1_has, Cond.instanceMethod yX1_has, Cond.selects RX1 yX1_has yX1_has, Cond.code yX1_has cX1_has 2 (some .boolean), Cond.methodLink RL 26 yX6_put, Cond.instanceMethod yX6_put, Cond.selects RX6 yX6_put yX6_put, Cond.code yX6_put cX6_put 4 (some .int), Cond.methodLink RX6 75 yX6_isJug, Cond.instanceMethod yX6_isJug, Cond.selects RX6 yX6_isJug yX6_isJug, Cond.code yX6_isJug cX6_isJug 2 (some .boolean), Cond.methodLink RL 27 yX5_holds, Cond.instanceMethod yX5_holds, Cond.selects RX5 yX5_holds yX5_holds, Cond.code yX5_holds cX5_holds 2 (some .int), Cond.methodLink RL 31 yX6_holds, Cond.instanceMethod yX6_holds, Cond.selects RX6 yX6_holds yX6_holds, Cond.code yX6_holds cX6_holds 2 (some .int), Cond.methodLink RL 32 yX5_act, Cond.instanceMethod yX5_act, Cond.selects RX5 yX5_act yX5_act]
def wsL_law_r8 : List Cond := [Cond.code yX5_act cX5_act 3 (some .int), Cond.methodLink RX5 59 yX1_haveAct, Cond.instanceMethod yX1_haveAct, Cond.selects RX1 yX1_haveAct yX1_haveAct, Cond.code yX1_haveAct cX1_haveAct 2 (some .boolean), Cond.methodLink RX5 62 yX1_moved, Cond.instanceMethod yX1_moved, Cond.selects RX1 yX1_moved yX1_moved, Cond.code yX1_moved cX1_moved 6 (some .int), Cond.methodLink RX5 66 yX1_move, Cond.instanceMethod yX1_move, Cond.selects RX1 yX1_move yX1_move, Cond.code yX1_move cX1_move 3 none, Cond.methodLink RX1 41 yX1_haveAct, Cond.methodLink RL 35 yX6_act, Cond.instanceMethod yX6_act, Cond.selects RX6 yX6_act yX6_act, Cond.code yX6_act cX6_act 5 (some .int), Cond.fieldLink RX6 91 "JugsAndGlassesModel" "moved" "I", Cond.methodLink RX6 94 yX6_tryOwn, Cond.instanceMethod yX6_tryOwn, Cond.selects RX6 yX6_tryOwn yX6_tryOwn, Cond.code yX6_tryOwn cX6_tryOwn 2 none, Cond.fieldLink RX6 79 "JugsAndGlassesModel" "tried" "I"]
def wsL_law_r9 : List Cond := [Cond.fieldLink RX6 82 "JugsAndGlassesModel" "tap" "Z", Cond.fieldLink RX6 85 "JugsAndGlassesModel" "drain" "Z", Cond.methodLink RX6 97 yX6_does, Cond.instanceMethod yX6_does, Cond.selects RX6 yX6_does yX6_does, Cond.code yX6_does cX6_does 4 (some .boolean), Cond.fieldLink RX6 88 "JugsAndGlassesModel" "spilt" "I", Cond.methodLink RL 36 yX5_clear, Cond.instanceMethod yX5_clear, Cond.selects RX5 yX5_clear yX5_clear, Cond.code yX5_clear cX5_clear 1 (some .int), Cond.methodLink RX5 70 yX1_removeAll, Cond.instanceMethod yX1_removeAll, Cond.selects RX1 yX1_removeAll yX1_removeAll, Cond.code yX1_removeAll cX1_removeAll 2 (some .int), Cond.methodLink RL 40 yX6_clear, Cond.instanceMethod yX6_clear, Cond.selects RX6 yX6_clear yX6_clear, Cond.code yX6_clear cX6_clear 2 (some .int), Cond.methodLink RL 41 yX5_fewest, Cond.instanceMethod yX5_fewest, Cond.selects RX5 yX5_fewest yX5_fewest, Cond.code yX5_fewest cX5_fewest 3 (some .int), Cond.fieldLink RX5 81 "JugsAndGlasses$Search" "all" "LJugsAndGlasses$Tour;"]
def wsL_law_r10 : List Cond := [Cond.methodLink RX5 74 yX5_isAim, Cond.instanceMethod yX5_isAim, Cond.selects RX5 yX5_isAim yX5_isAim, Cond.code yX5_isAim cX5_isAim 3 (some .boolean), Cond.methodLink RX5 78 yX2_explore, Cond.instanceMethod yX2_explore, Cond.selects RX2 yX2_explore yX2_explore, Cond.code yX2_explore cX2_explore 1 none, Cond.methodLink RX2 52 yX1_liken, Cond.instanceMethod yX1_liken, Cond.selects RX1 yX1_liken yX1_liken, Cond.code yX1_liken cX1_liken 3 none, Cond.methodLink RX2 56 yX4_explore, Cond.instanceMethod yX4_explore, Cond.selects RX4 yX4_explore yX4_explore, Cond.code yX4_explore cX4_explore 7 none, Cond.fieldLink RX4 35 "JugsAndGlasses$Jugs" "codes" "I", Cond.methodLink RX4 40 yX1_code, Cond.instanceMethod yX1_code, Cond.selects RX1 yX1_code yX1_code, Cond.code yX1_code cX1_code 3 (some .int), Cond.methodLink RX4 44 yX4_start, Cond.instanceMethod yX4_start, Cond.selects RX4 yX4_start yX4_start]
def wsL_law_r11 : List Cond := [Cond.code yX4_start cX4_start 4 none, Cond.static yX5_lengthFor, Cond.code yX5_lengthFor cX5_lengthFor 2 (some .int), Cond.methodLink RX5 157 Lib.Math.max.name, Cond.static Lib.Math.max.name, Cond.initialized "java/lang/Math", Cond.code Lib.Math.max.name Lib.Math.max.code 2 (some .int), Cond.methodLink RX5 152 Lib.Math.min.name, Cond.static Lib.Math.min.name, Cond.code Lib.Math.min.name Lib.Math.min.code 2 (some .int), Cond.methodLink RX4 29 yJ7_fill_53178, Cond.static yJ7_fill_53178, Cond.initialized RJ7, Cond.code yJ7_fill_53178 cJ7_fill_53178 4 none, Cond.methodLink RX4 48 yX1_stand, Cond.instanceMethod yX1_stand, Cond.selects RX1 yX1_stand yX1_stand, Cond.code yX1_stand cX1_stand 5 none, Cond.methodLink RX4 52 yX1_shiftBy, Cond.instanceMethod yX1_shiftBy, Cond.selects RX1 yX1_shiftBy yX1_shiftBy, Cond.code yX1_shiftBy cX1_shiftBy 5 (some .int), Cond.methodLink RX1 45 yX1_moved, Cond.methodLink RX4 56 yX1_spiltBy]
def wsL_law_r12 : List Cond := [Cond.instanceMethod yX1_spiltBy, Cond.selects RX1 yX1_spiltBy yX1_spiltBy, Cond.code yX1_spiltBy cX1_spiltBy 2 (some .int), Cond.methodLink RX4 59 yX3_isLeast, Cond.instanceMethod yX3_isLeast, Cond.selects RX3 yX3_isLeast yX3_isLeast, Cond.code yX3_isLeast cX3_isLeast 4 (some .boolean), Cond.methodLink RX4 65 yX4_enter, Cond.instanceMethod yX4_enter, Cond.selects RX4 yX4_enter yX4_enter, Cond.code yX4_enter cX4_enter 4 none, Cond.methodLink RX5 85 yX2_nearest, Cond.instanceMethod yX2_nearest, Cond.selects RX2 yX2_nearest yX2_nearest, Cond.code yX2_nearest cX2_nearest 4 (some .int), Cond.fieldLink RX2 78 "JugsAndGlasses$Tour" "reached" "I", Cond.fieldLink RX2 82 "JugsAndGlasses$Tour" "found" "[I", Cond.methodLink RX2 85 yX1_stand, Cond.methodLink RX2 105 yX1_meet, Cond.instanceMethod yX1_meet, Cond.selects RX1 yX1_meet yX1_meet, Cond.code yX1_meet cX1_meet 4 (some .boolean), Cond.methodLink RX1 49 yX1_has, Cond.methodLink RX5 88 yX4_acts]
def wsL_law_r13 : List Cond := [Cond.instanceMethod yX4_acts, Cond.selects RX4 yX4_acts yX4_acts, Cond.code yX4_acts cX4_acts 2 (some .int), Cond.methodLink RX4 69 yX4_knows, Cond.instanceMethod yX4_knows, Cond.selects RX4 yX4_knows yX4_knows, Cond.code yX4_knows cX4_knows 2 (some .boolean), Cond.methodLink RL 44 yX6_fewest, Cond.instanceMethod yX6_fewest, Cond.selects RX6 yX6_fewest yX6_fewest, Cond.code yX6_fewest cX6_fewest 3 (some .int), Cond.fieldLink RX6 112 "JugsAndGlassesModel" "start" "I", Cond.constant RX6 111 (1000000000), Cond.methodLink RX6 125 yX6_isAim, Cond.instanceMethod yX6_isAim, Cond.selects RX6 yX6_isAim yX6_isAim, Cond.code yX6_isAim cX6_isAim 3 (some .boolean), Cond.methodLink RX6 129 yX6_findCosts, Cond.instanceMethod yX6_findCosts, Cond.selects RX6 yX6_findCosts yX6_findCosts, Cond.code yX6_findCosts cX6_findCosts 9 none, Cond.methodLink RX6 108 yX6_numberOf, Cond.instanceMethod yX6_numberOf, Cond.selects RX6 yX6_numberOf yX6_numberOf]
def wsL_law_r14 : List Cond := [Cond.code yX6_numberOf cX6_numberOf 3 (some .int), Cond.methodLink RX6 115 yX6_layActs, Cond.instanceMethod yX6_layActs, Cond.selects RX6 yX6_layActs yX6_layActs, Cond.code yX6_layActs cX6_layActs 5 none, Cond.methodLink RX6 100 yX6_stateMany, Cond.instanceMethod yX6_stateMany, Cond.selects RX6 yX6_stateMany yX6_stateMany, Cond.code yX6_stateMany cX6_stateMany 3 (some .int), Cond.methodLink RX6 104 yX6_layState, Cond.instanceMethod yX6_layState, Cond.selects RX6 yX6_layState yX6_layState, Cond.code yX6_layState cX6_layState 4 none, Cond.methodLink RX6 118 yX6_isMade, Cond.instanceMethod yX6_isMade, Cond.selects RX6 yX6_isMade yX6_isMade, Cond.code yX6_isMade cX6_isMade 6 (some .boolean), Cond.methodLink RX6 121 yX6_costBy, Cond.instanceMethod yX6_costBy, Cond.selects RX6 yX6_costBy yX6_costBy, Cond.code yX6_costBy cX6_costBy 5 (some .int), Cond.methodLink RL 45 yX5_rows, Cond.instanceMethod yX5_rows, Cond.selects RX5 yX5_rows yX5_rows]
def wsL_law_r15 : List Cond := [Cond.code yX5_rows cX5_rows 3 (some .long), Cond.constantLong RX5 93 (-2), Cond.methodLink RX5 95 yX2_countWays, Cond.instanceMethod yX2_countWays, Cond.selects RX2 yX2_countWays yX2_countWays, Cond.code yX2_countWays cX2_countWays 6 none, Cond.fieldLink RX2 64 "JugsAndGlasses$Tour" "level" "[I", Cond.constantLong RX2 97 (1000000000000000000), Cond.methodLink RX2 99 Lib.MathLoose.min_long.x, Cond.static Lib.MathLoose.min_long.x, Cond.code Lib.MathLoose.min_long.x Lib.MathLoose.min_long.code 4 (some .long), Cond.methodLink RX2 68 yJ7_fill_d0a16, Cond.static yJ7_fill_d0a16, Cond.code yJ7_fill_d0a16 cJ7_fill_d0a16 5 none, Cond.methodLink RX2 74 yX1_code, Cond.methodLink RX2 89 yX1_shiftBy, Cond.methodLink RX2 93 yX4_knows, Cond.methodLink RX5 98 yX2_waysTo, Cond.instanceMethod yX2_waysTo, Cond.selects RX2 yX2_waysTo yX2_waysTo, Cond.code yX2_waysTo cX2_waysTo 8 (some .long), Cond.methodLink RX2 112 yX2_nearest, Cond.methodLink RX2 116 yX4_acts, Cond.methodLink RL 49 yX6_rows]
def wsL_law_r16 : List Cond := [Cond.instanceMethod yX6_rows, Cond.selects RX6 yX6_rows yX6_rows, Cond.code yX6_rows cX6_rows 9 (some .long), Cond.constantLong RX6 133 (-2), Cond.constantLong RX6 135 (1000000000000000000), Cond.methodLink RL 50 yX5_best, Cond.instanceMethod yX5_best, Cond.selects RX5 yX5_best yX5_best, Cond.code yX5_best cX5_best 4 (some .int), Cond.methodLink RX5 102 yX4_actOfRow, Cond.instanceMethod yX4_actOfRow, Cond.selects RX4 yX4_actOfRow yX4_actOfRow, Cond.code yX4_actOfRow cX4_actOfRow 5 (some .int), Cond.methodLink RL 54 yX6_best, Cond.instanceMethod yX6_best, Cond.selects RX6 yX6_best yX6_best, Cond.code yX6_best cX6_best 4 (some .int), Cond.methodLink RX6 137 yX6_actOf, Cond.instanceMethod yX6_actOf, Cond.selects RX6 yX6_actOf yX6_actOf, Cond.code yX6_actOf cX6_actOf 6 (some .int), Cond.methodLink RL 55 yX5_sparing, Cond.instanceMethod yX5_sparing, Cond.selects RX5 yX5_sparing yX5_sparing]
def wsL_law_r17 : List Cond := [Cond.code yX5_sparing cX5_sparing 5 (some .int), Cond.fieldLink RX5 111 "JugsAndGlasses$Search" "spilling" "LJugsAndGlasses$Spilling;", Cond.fieldLink RX5 120 "JugsAndGlasses$Search" "thrifty" "LJugsAndGlasses$Tour;", Cond.methodLink RX5 105 yX2_exploreSparing, Cond.instanceMethod yX2_exploreSparing, Cond.selects RX2 yX2_exploreSparing yX2_exploreSparing, Cond.code yX2_exploreSparing cX2_exploreSparing 1 none, Cond.methodLink RX2 60 yX3_measure, Cond.instanceMethod yX3_measure, Cond.selects RX3 yX3_measure yX3_measure, Cond.code yX3_measure cX3_measure 6 none, Cond.fieldLink RX3 18 "JugsAndGlasses$Tour" "level" "[I", Cond.constant RX3 23 (1000000), Cond.fieldLink RX3 36 "JugsAndGlasses$Tour" "reached" "I", Cond.methodLink RX3 24 yJ7_fill_53178, Cond.methodLink RX3 30 yX1_code, Cond.methodLink RX3 40 yX3_settle, Cond.instanceMethod yX3_settle, Cond.selects RX3 yX3_settle yX3_settle, Cond.code yX3_settle cX3_settle 10 (some .int), Cond.fieldLink RX3 44 "JugsAndGlasses$Tour" "found" "[I", Cond.methodLink RX3 47 yX1_stand, Cond.methodLink RX3 51 yX1_shiftBy, Cond.methodLink RX3 55 yX1_spiltBy]
def wsL_law_r18 : List Cond := [Cond.methodLink RX5 108 yX2_thriftiest, Cond.instanceMethod yX2_thriftiest, Cond.selects RX2 yX2_thriftiest yX2_thriftiest, Cond.code yX2_thriftiest cX2_thriftiest 6 (some .int), Cond.methodLink RX2 109 yX3_leastFor, Cond.instanceMethod yX3_leastFor, Cond.selects RX3 yX3_leastFor yX3_leastFor, Cond.code yX3_leastFor cX3_leastFor 2 (some .int), Cond.methodLink RX5 115 yX3_leastFor, Cond.methodLink RL 58 yX6_sparing, Cond.instanceMethod yX6_sparing, Cond.selects RX6 yX6_sparing yX6_sparing, Cond.code yX6_sparing cX6_sparing 5 (some .int), Cond.methodLink RL 59 yX5_spare, Cond.instanceMethod yX5_spare, Cond.selects RX5 yX5_spare yX5_spare, Cond.code yX5_spare cX5_spare 4 (some .int), Cond.methodLink RL 62 yX6_spare, Cond.instanceMethod yX6_spare, Cond.selects RX6 yX6_spare yX6_spare, Cond.code yX6_spare cX6_spare 4 (some .int), Cond.methodLink RL 63 yX5_makes, Cond.instanceMethod yX5_makes, Cond.selects RX5 yX5_makes yX5_makes]
def wsL_law_r19 : List Cond := [Cond.code yX5_makes cX5_makes 1 (some .int), Cond.methodLink RX5 123 yX2_allHeld, Cond.instanceMethod yX2_allHeld, Cond.selects RX2 yX2_allHeld yX2_allHeld, Cond.code yX2_allHeld cX2_allHeld 4 (some .int), Cond.fieldLink RX2 119 "JugsAndGlasses$Jugs" "number" "I", Cond.fieldLink RX2 122 "JugsAndGlasses$Jugs" "held" "[I", Cond.methodLink RL 66 yX6_makes, Cond.instanceMethod yX6_makes, Cond.selects RX6 yX6_makes yX6_makes, Cond.code yX6_makes cX6_makes 1 (some .int), Cond.methodLink RX6 141 yX6_reach, Cond.instanceMethod yX6_reach, Cond.selects RX6 yX6_reach yX6_reach, Cond.code yX6_reach cX6_reach 7 (some .int), Cond.methodLink RX6 145 yX6_madeBy, Cond.instanceMethod yX6_madeBy, Cond.selects RX6 yX6_madeBy yX6_madeBy, Cond.code yX6_madeBy cX6_madeBy 5 (some .int), Cond.methodLink RL 67 yX5_reaches, Cond.instanceMethod yX5_reaches, Cond.selects RX5 yX5_reaches yX5_reaches, Cond.code yX5_reaches cX5_reaches 1 (some .int), Cond.fieldLink RX5 126 "JugsAndGlasses$Tour" "reached" "I"]
def wsL_law_r20 : List Cond := [Cond.methodLink RL 70 yX6_reaches, Cond.instanceMethod yX6_reaches, Cond.selects RX6 yX6_reaches yX6_reaches, Cond.code yX6_reaches cX6_reaches 1 (some .int), Cond.methodLink RL 71 yX5_road, Cond.instanceMethod yX5_road, Cond.selects RX5 yX5_road yX5_road, Cond.code yX5_road cX5_road 3 (some .int), Cond.methodLink RX5 129 yX5_actsOfRoad, Cond.static yX5_actsOfRoad, Cond.code yX5_actsOfRoad cX5_actsOfRoad 7 (some .int), Cond.methodLink RL 74 yX6_road, Cond.instanceMethod yX6_road, Cond.selects RX6 yX6_road yX6_road, Cond.code yX6_road cX6_road 8 (some .int), Cond.methodLink RL 75 yX5_sizes, Cond.instanceMethod yX5_sizes, Cond.selects RX5 yX5_sizes yX5_sizes, Cond.code yX5_sizes cX5_sizes 4 (some .int), Cond.methodLink RL 78 yX6_sizes, Cond.instanceMethod yX6_sizes, Cond.selects RX6 yX6_sizes yX6_sizes, Cond.code yX6_sizes cX6_sizes 10 (some .int), Cond.methodLink RX6 148 yX6_doRise]
def wsL_law_r21 : List Cond := [Cond.instanceMethod yX6_doRise, Cond.selects RX6 yX6_doRise yX6_doRise, Cond.code yX6_doRise cX6_doRise 3 (some .boolean), Cond.methodLink RX6 152 yX6_makesAll, Cond.instanceMethod yX6_makesAll, Cond.selects RX6 yX6_makesAll yX6_makesAll, Cond.code yX6_makesAll cX6_makesAll 4 (some .boolean), Cond.methodLink RL 79 yX5_glass, Cond.instanceMethod yX5_glass, Cond.selects RX5 yX5_glass yX5_glass, Cond.code yX5_glass cX5_glass 2 (some .int), Cond.fieldLink RX5 133 "JugsAndGlasses$Glasses" "number" "I", Cond.methodLink RX5 134 yX0_add, Cond.instanceMethod yX0_add, Cond.selects RX0 yX0_add yX0_add, Cond.code yX0_add cX0_add 2 (some .int), Cond.methodLink RL 82 yX6_glass, Cond.instanceMethod yX6_glass, Cond.selects RX6 yX6_glass yX6_glass, Cond.code yX6_glass cX6_glass 2 (some .int), Cond.fieldLink RX6 155 "JugsAndGlassesModel" "glasses" "I", Cond.methodLink RL 83 yX5_smash, Cond.instanceMethod yX5_smash, Cond.selects RX5 yX5_smash yX5_smash]
def wsL_law_r22 : List Cond := [Cond.code yX5_smash cX5_smash 1 (some .int), Cond.methodLink RX5 136 yX0_removeAll, Cond.instanceMethod yX0_removeAll, Cond.selects RX0 yX0_removeAll yX0_removeAll, Cond.code yX0_removeAll cX0_removeAll 2 (some .int), Cond.methodLink RL 86 yX6_smash, Cond.instanceMethod yX6_smash, Cond.selects RX6 yX6_smash yX6_smash, Cond.code yX6_smash cX6_smash 2 (some .int), Cond.methodLink RL 87 yX5_await, Cond.instanceMethod yX5_await, Cond.selects RX5 yX5_await yX5_await, Cond.code yX5_await cX5_await 2 (some .int), Cond.fieldLink RX5 140 "JugsAndGlasses$Glasses" "waitOf" "[I", Cond.methodLink RX5 137 yX0_workOut, Cond.instanceMethod yX0_workOut, Cond.selects RX0 yX0_workOut yX0_workOut, Cond.code yX0_workOut cX0_workOut 2 none, Cond.fieldLink RX0 53 "JugsAndGlasses$Glasses" "STATES" "[I", Cond.methodLink RX0 56 yX0_makeRoom, Cond.instanceMethod yX0_makeRoom, Cond.selects RX0 yX0_makeRoom yX0_makeRoom, Cond.code yX0_makeRoom cX0_makeRoom 3 none, Cond.methodLink RX0 60 yX0_listEvents]
def wsL_law_r23 : List Cond := [Cond.instanceMethod yX0_listEvents, Cond.selects RX0 yX0_listEvents yX0_listEvents, Cond.code yX0_listEvents cX0_listEvents 5 none, Cond.methodLink RX0 72 yX0_list, Cond.instanceMethod yX0_list, Cond.selects RX0 yX0_list yX0_list, Cond.code yX0_list cX0_list 2 none, Cond.methodLink RX0 75 yX0_leapFrom, Cond.instanceMethod yX0_leapFrom, Cond.selects RX0 yX0_leapFrom yX0_leapFrom, Cond.code yX0_leapFrom cX0_leapFrom 6 (some .int), Cond.constant RX0 79 (1000000), Cond.methodLink RX0 84 Lib.Math.max.name, Cond.fieldLink RX0 89 "JugsAndGlasses$Glasses" "PLACE" "[I", Cond.methodLink RX0 80 yX0_sandAbove, Cond.instanceMethod yX0_sandAbove, Cond.selects RX0 yX0_sandAbove yX0_sandAbove, Cond.code yX0_sandAbove cX0_sandAbove 6 (some .int), Cond.methodLink RX0 63 yX0_goForth, Cond.instanceMethod yX0_goForth, Cond.selects RX0 yX0_goForth yX0_goForth, Cond.code yX0_goForth cX0_goForth 3 none, Cond.methodLink RX0 92 yJ7_fill_53178, Cond.methodLink RX0 98 yX0_goOnFrom]
def wsL_law_r24 : List Cond := [Cond.instanceMethod yX0_goOnFrom, Cond.selects RX0 yX0_goOnFrom yX0_goOnFrom, Cond.code yX0_goOnFrom cX0_goOnFrom 8 none, Cond.methodLink RX0 102 yJ6_bitCount_0f7a4, Cond.static yJ6_bitCount_0f7a4, Cond.initialized RJ6, Cond.code yJ6_bitCount_0f7a4 cJ6_bitCount_0f7a4 1 (some .int), Cond.constant RJ6 265 (1431655765), Cond.constant RJ6 266 (858993459), Cond.constant RJ6 267 (252645135), Cond.methodLink RX0 66 yX0_lookAhead, Cond.instanceMethod yX0_lookAhead, Cond.selects RX0 yX0_lookAhead yX0_lookAhead, Cond.code yX0_lookAhead cX0_lookAhead 3 none, Cond.methodLink RX0 108 yX0_fewestTurned, Cond.instanceMethod yX0_fewestTurned, Cond.selects RX0 yX0_fewestTurned yX0_fewestTurned, Cond.code yX0_fewestTurned cX0_fewestTurned 7 (some .int), Cond.methodLink RX0 111 Lib.Math.min.name, Cond.methodLink RX0 69 yX0_answer, Cond.instanceMethod yX0_answer, Cond.selects RX0 yX0_answer yX0_answer, Cond.code yX0_answer cX0_answer 7 none, Cond.methodLink RL 90 yX6_await]
def wsL_law_r25 : List Cond := [Cond.instanceMethod yX6_await, Cond.selects RX6 yX6_await yX6_await, Cond.code yX6_await cX6_await 2 (some .int), Cond.methodLink RX6 176 yX6_layGlasses, Cond.instanceMethod yX6_layGlasses, Cond.selects RX6 yX6_layGlasses yX6_layGlasses, Cond.code yX6_layGlasses cX6_layGlasses 8 none, Cond.fieldLink RX6 161 "JugsAndGlassesModel" "gone" "I", Cond.methodLink RX6 164 yX6_isState, Cond.instanceMethod yX6_isState, Cond.selects RX6 yX6_isState yX6_isState, Cond.code yX6_isState cX6_isState 5 (some .boolean), Cond.methodLink RX6 167 yX6_after, Cond.instanceMethod yX6_after, Cond.selects RX6 yX6_after yX6_after, Cond.code yX6_after cX6_after 9 (some .int), Cond.fieldLink RX6 158 "JugsAndGlassesModel" "turned" "I", Cond.methodLink RX6 170 yX6_ones, Cond.static yX6_ones, Cond.code yX6_ones cX6_ones 1 (some .int), Cond.methodLink RX6 179 yX6_waitOf, Cond.instanceMethod yX6_waitOf, Cond.selects RX6 yX6_waitOf yX6_waitOf, Cond.code yX6_waitOf cX6_waitOf 6 (some .int)]
def wsL_law_r26 : List Cond := [Cond.fieldLink RX6 173 "JugsAndGlassesModel" "fewestTurns" "I", Cond.methodLink RL 91 yX5_turns, Cond.instanceMethod yX5_turns, Cond.selects RX5 yX5_turns yX5_turns, Cond.code yX5_turns cX5_turns 2 (some .int), Cond.fieldLink RX5 143 "JugsAndGlasses$Glasses" "turnsOf" "[I", Cond.methodLink RL 94 yX6_turns, Cond.instanceMethod yX6_turns, Cond.selects RX6 yX6_turns yX6_turns, Cond.code yX6_turns cX6_turns 2 (some .int), Cond.methodLink RL 95 yX5_spans, Cond.instanceMethod yX5_spans, Cond.selects RX5 yX5_spans yX5_spans, Cond.code yX5_spans cX5_spans 5 (some .long), Cond.methodLink RL 99 yX6_spans, Cond.instanceMethod yX6_spans, Cond.selects RX6 yX6_spans yX6_spans, Cond.code yX6_spans cX6_spans 6 (some .long), Cond.methodLink RL 100 yX5_count, Cond.instanceMethod yX5_count, Cond.selects RX5 yX5_count yX5_count, Cond.code yX5_count cX5_count 2 (some .int), Cond.methodLink RX5 146 yX1_heldTogether, Cond.instanceMethod yX1_heldTogether]
def wsL_law_r27 : List Cond := [Cond.selects RX1 yX1_heldTogether yX1_heldTogether, Cond.code yX1_heldTogether cX1_heldTogether 3 (some .int), Cond.methodLink RX5 149 yX1_actsNow, Cond.instanceMethod yX1_actsNow, Cond.selects RX1 yX1_actsNow yX1_actsNow, Cond.code yX1_actsNow cX1_actsNow 3 (some .int), Cond.methodLink RL 103 yX6_count, Cond.instanceMethod yX6_count, Cond.selects RX6 yX6_count yX6_count, Cond.code yX6_count cX6_count 4 (some .int)]
def wsL_law : List Cond := (wsL_law_r1 ++ (wsL_law_r2 ++ (wsL_law_r3 ++ (wsL_law_r4 ++ (wsL_law_r5 ++ (wsL_law_r6 ++ (wsL_law_r7 ++ (wsL_law_r8 ++ (wsL_law_r9 ++ (wsL_law_r10 ++ (wsL_law_r11 ++ (wsL_law_r12 ++ (wsL_law_r13 ++ (wsL_law_r14 ++ (wsL_law_r15 ++ (wsL_law_r16 ++ (wsL_law_r17 ++ (wsL_law_r18 ++ (wsL_law_r19 ++ (wsL_law_r20 ++ (wsL_law_r21 ++ (wsL_law_r22 ++ (wsL_law_r23 ++ (wsL_law_r24 ++ (wsL_law_r25 ++ (wsL_law_r26 ++ wsL_law_r27)))))))))))))))))))))))))) ++ wsX50 ++ wsX60 ++ wsX20 ++ wsX00 ++ wsX10 ++ wsX40 ++ wsX30 ++ ([] : List Cond)
theorem inlX0 : ∀ w ∈ wsX00, w ∈ wsL_law := fun _ h => List.mem_append_left _ (List.mem_append_left _ (List.mem_append_left _ (List.mem_append_left _ (List.mem_append_right _ h))))
theorem inlX1 : ∀ w ∈ wsX10, w ∈ wsL_law := fun _ h => List.mem_append_left _ (List.mem_append_left _ (List.mem_append_left _ (List.mem_append_right _ h)))
theorem inlX2 : ∀ w ∈ wsX20, w ∈ wsL_law := fun _ h => List.mem_append_left _ (List.mem_append_left _ (List.mem_append_left _ (List.mem_append_left _ (List.mem_append_left _ (List.mem_append_right _ h)))))
theorem inlX3 : ∀ w ∈ wsX30, w ∈ wsL_law := fun _ h => List.mem_append_left _ (List.mem_append_right _ h)
theorem inlX4 : ∀ w ∈ wsX40, w ∈ wsL_law := fun _ h => List.mem_append_left _ (List.mem_append_left _ (List.mem_append_right _ h))
theorem inlX5 : ∀ w ∈ wsX50, w ∈ wsL_law := fun _ h => List.mem_append_left _ (List.mem_append_left _ (List.mem_append_left _ (List.mem_append_left _ (List.mem_append_left _ (List.mem_append_left _ (List.mem_append_left _ (List.mem_append_right _ h)))))))
theorem inlX6 : ∀ w ∈ wsX60, w ∈ wsL_law := fun _ h => List.mem_append_left _ (List.mem_append_left _ (List.mem_append_left _ (List.mem_append_left _ (List.mem_append_left _ (List.mem_append_left _ (List.mem_append_right _ h))))))
theorem inJ6 : ∀ w ∈ wsJ60, w ∈ lw_tbl := by decide +kernel
theorem inJ9 : ∀ w ∈ wsJ90, w ∈ lw_tbl := by decide +kernel
theorem inJ7 : ∀ w ∈ wsJ70, w ∈ lw_tbl := by decide +kernel
abbrev vwCl : List vw_C := [(RX0, TX0, 12), (RX1, TX1, 7), (RX2, TX2, 9), (RX3, TX3, 2), (RX4, TX4, 4), (RX5, TX5, 3), (RX6, TX6, 28)]
end
section
theorem dX0_init_0 : decode cX0_init 0 = .ok (.aload_n 0, 1) := by decide +kernel
theorem dX0_init_1 : decode cX0_init 1 = .ok (.invokespecial 3, 3) := by decide +kernel
theorem dX0_init_4 : decode cX0_init 4 = .ok (.aload_n 0, 1) := by decide +kernel
theorem dX0_init_5 : decode cX0_init 5 = .ok (.iconst 0, 1) := by decide +kernel
theorem dX0_init_6 : decode cX0_init 6 = .ok (.putfield 9, 3) := by decide +kernel
theorem dX0_init_9 : decode cX0_init 9 = .ok (.aload_n 0, 1) := by decide +kernel
theorem dX0_init_10 : decode cX0_init 10 = .ok (.iconst 3, 1) := by decide +kernel
theorem dX0_init_11 : decode cX0_init 11 = .ok (.newarray .int, 2) := by decide +kernel
theorem dX0_init_13 : decode cX0_init 13 = .ok (.putfield 15, 3) := by decide +kernel
theorem dX0_init_16 : decode cX0_init 16 = .ok (.aload_n 0, 1) := by decide +kernel
theorem dX0_init_17 : decode cX0_init 17 = .ok (.bipush 41, 2) := by decide +kernel
theorem dX0_init_19 : decode cX0_init 19 = .ok (.newarray .int, 2) := by decide +kernel
theorem dX0_init_21 : decode cX0_init 21 = .ok (.putfield 19, 3) := by decide +kernel
theorem dX0_init_24 : decode cX0_init 24 = .ok (.aload_n 0, 1) := by decide +kernel
theorem dX0_init_25 : decode cX0_init 25 = .ok (.bipush 41, 2) := by decide +kernel
theorem dX0_init_27 : decode cX0_init 27 = .ok (.newarray .int, 2) := by decide +kernel
theorem dX0_init_29 : decode cX0_init 29 = .ok (.putfield 22, 3) := by decide +kernel
theorem dX0_init_32 : decode cX0_init 32 = .ok (.aload_n 0, 1) := by decide +kernel
theorem dX0_init_33 : decode cX0_init 33 = .ok (.iconst 0, 1) := by decide +kernel
theorem dX0_init_34 : decode cX0_init 34 = .ok (.putfield 25, 3) := by decide +kernel
theorem dX0_init_37 : decode cX0_init 37 = .ok (.aload_n 0, 1) := by decide +kernel
theorem dX0_init_38 : decode cX0_init 38 = .ok (.iconst 0, 1) := by decide +kernel
theorem dX0_init_39 : decode cX0_init 39 = .ok (.newarray .int, 2) := by decide +kernel
theorem dX0_init_41 : decode cX0_init 41 = .ok (.putfield 29, 3) := by decide +kernel
theorem dX0_init_44 : decode cX0_init 44 = .ok (.aload_n 0, 1) := by decide +kernel
theorem dX0_init_45 : decode cX0_init 45 = .ok (.iconst 0, 1) := by decide +kernel
theorem dX0_init_46 : decode cX0_init 46 = .ok (.newarray .boolean, 2) := by decide +kernel
theorem dX0_init_48 : decode cX0_init 48 = .ok (.putfield 32, 3) := by decide +kernel
theorem dX0_init_51 : decode cX0_init 51 = .ok (.aload_n 0, 1) := by decide +kernel
theorem dX0_init_52 : decode cX0_init 52 = .ok (.iconst 0, 1) := by decide +kernel
theorem dX0_init_53 : decode cX0_init 53 = .ok (.putfield 36, 3) := by decide +kernel
theorem dX0_init_56 : decode cX0_init 56 = .ok (.aload_n 0, 1) := by decide +kernel
theorem dX0_init_57 : decode cX0_init 57 = .ok (.iconst 0, 1) := by decide +kernel
theorem dX0_init_58 : decode cX0_init 58 = .ok (.newarray .int, 2) := by decide +kernel
theorem dX0_init_60 : decode cX0_init 60 = .ok (.putfield 39, 3) := by decide +kernel
theorem dX0_init_63 : decode cX0_init 63 = .ok (.aload_n 0, 1) := by decide +kernel
theorem dX0_init_64 : decode cX0_init 64 = .ok (.iconst 0, 1) := by decide +kernel
theorem dX0_init_65 : decode cX0_init 65 = .ok (.newarray .int, 2) := by decide +kernel
theorem dX0_init_67 : decode cX0_init 67 = .ok (.putfield 42, 3) := by decide +kernel
theorem dX0_init_70 : decode cX0_init 70 = .ok (.aload_n 0, 1) := by decide +kernel
theorem dX0_init_71 : decode cX0_init 71 = .ok (.iconst 0, 1) := by decide +kernel
theorem dX0_init_72 : decode cX0_init 72 = .ok (.newarray .int, 2) := by decide +kernel
theorem dX0_init_74 : decode cX0_init 74 = .ok (.putfield 45, 3) := by decide +kernel
theorem dX0_init_77 : decode cX0_init 77 = .ok (.aload_n 0, 1) := by decide +kernel
theorem dX0_init_78 : decode cX0_init 78 = .ok (.bipush 13, 2) := by decide +kernel
theorem dX0_init_80 : decode cX0_init 80 = .ok (.iconst 0, 1) := by decide +kernel
theorem dX0_init_81 : decode cX0_init 81 = .ok (.multianewarray 48 2, 4) := by decide +kernel
theorem dX0_init_85 : decode cX0_init 85 = .ok (.putfield 50, 3) := by decide +kernel
theorem dX0_init_88 : decode cX0_init 88 = .ok (.return_, 1) := by decide +kernel
theorem dX0_add_0 : decode cX0_add 0 = .ok (.aload_n 0, 1) := by decide +kernel
theorem dX0_add_1 : decode cX0_add 1 = .ok (.getfield 9, 3) := by decide +kernel
theorem dX0_add_4 : decode cX0_add 4 = .ok (.iconst 3, 1) := by decide +kernel
theorem dX0_add_5 : decode cX0_add 5 = .ok (.if_icmp .lt 6, 3) := by decide +kernel
theorem dX0_add_8 : decode cX0_add 8 = .ok (.bipush (-4), 2) := by decide +kernel
theorem dX0_add_10 : decode cX0_add 10 = .ok (.ireturn, 1) := by decide +kernel
theorem dX0_add_11 : decode cX0_add 11 = .ok (.aload_n 0, 1) := by decide +kernel
theorem dX0_add_12 : decode cX0_add 12 = .ok (.getfield 15, 3) := by decide +kernel
theorem dX0_add_15 : decode cX0_add 15 = .ok (.aload_n 0, 1) := by decide +kernel
theorem dX0_add_16 : decode cX0_add 16 = .ok (.getfield 9, 3) := by decide +kernel
theorem dX0_add_19 : decode cX0_add 19 = .ok (.iload_n 1, 1) := by decide +kernel
theorem dX0_add_20 : decode cX0_add 20 = .ok (.iastore, 1) := by decide +kernel
theorem dX0_add_21 : decode cX0_add 21 = .ok (.aload_n 0, 1) := by decide +kernel
theorem dX0_add_22 : decode cX0_add 22 = .ok (.dup, 1) := by decide +kernel
theorem dX0_add_23 : decode cX0_add 23 = .ok (.getfield 9, 3) := by decide +kernel
theorem dX0_add_26 : decode cX0_add 26 = .ok (.iconst 1, 1) := by decide +kernel
theorem dX0_add_27 : decode cX0_add 27 = .ok (.iadd, 1) := by decide +kernel
theorem dX0_add_28 : decode cX0_add 28 = .ok (.putfield 9, 3) := by decide +kernel
theorem dX0_add_31 : decode cX0_add 31 = .ok (.aload_n 0, 1) := by decide +kernel
theorem dX0_add_32 : decode cX0_add 32 = .ok (.iconst 0, 1) := by decide +kernel
theorem dX0_add_33 : decode cX0_add 33 = .ok (.putfield 25, 3) := by decide +kernel
theorem dX0_add_36 : decode cX0_add 36 = .ok (.aload_n 0, 1) := by decide +kernel
theorem dX0_add_37 : decode cX0_add 37 = .ok (.getfield 9, 3) := by decide +kernel
theorem dX0_add_40 : decode cX0_add 40 = .ok (.iconst 1, 1) := by decide +kernel
theorem dX0_add_41 : decode cX0_add 41 = .ok (.isub, 1) := by decide +kernel
theorem dX0_add_42 : decode cX0_add 42 = .ok (.ireturn, 1) := by decide +kernel
theorem dX0_removeAll_0 : decode cX0_removeAll 0 = .ok (.aload_n 0, 1) := by decide +kernel
theorem dX0_removeAll_1 : decode cX0_removeAll 1 = .ok (.getfield 9, 3) := by decide +kernel
theorem dX0_removeAll_4 : decode cX0_removeAll 4 = .ok (.istore_n 1, 1) := by decide +kernel
theorem dX0_removeAll_5 : decode cX0_removeAll 5 = .ok (.aload_n 0, 1) := by decide +kernel
theorem dX0_removeAll_6 : decode cX0_removeAll 6 = .ok (.iconst 0, 1) := by decide +kernel
theorem dX0_removeAll_7 : decode cX0_removeAll 7 = .ok (.putfield 9, 3) := by decide +kernel
theorem dX0_removeAll_10 : decode cX0_removeAll 10 = .ok (.aload_n 0, 1) := by decide +kernel
theorem dX0_removeAll_11 : decode cX0_removeAll 11 = .ok (.iconst 0, 1) := by decide +kernel
theorem dX0_removeAll_12 : decode cX0_removeAll 12 = .ok (.putfield 25, 3) := by decide +kernel
theorem dX0_removeAll_15 : decode cX0_removeAll 15 = .ok (.iload_n 1, 1) := by decide +kernel
theorem dX0_removeAll_16 : decode cX0_removeAll 16 = .ok (.ireturn, 1) := by decide +kernel
set_option maxRecDepth 20000 in
theorem ggX0_workOut_X0_makeRoom : GoodIn wsX0_workOut wsX0_makeRoom := goodIn_r _ [8, 9, 10, 11, 12, 13, 14, 15, 16, 17, 18, 78, 79, 80, 81, 82, 83, 84, 85, 86, 87, 88, 89] (by decide +kernel) (by decide +kernel)
set_option maxRecDepth 20000 in
theorem gX0_workOut_X0_makeRoom : GoodIn wsX0_workOut (wsV RX0 56 RX0 yX0_makeRoom wsX0_makeRoom) := goodIn_app (goodIn_of _ (by decide +kernel)) ggX0_workOut_X0_makeRoom
set_option maxRecDepth 20000 in
theorem ggX0_workOut_X0_listEvents : GoodIn wsX0_workOut wsX0_listEvents := goodIn_r _ [22, 18, 9, 3, 13, 23, 24, 25, 7, 26, 12, 27, 28, 29, 30, 31, 32, 33, 34, 35, 36, 37, 38, 39, 40, 41, 78, 79, 80, 81, 82, 83, 84, 85, 86, 87, 88, 89] (by decide +kernel) (by decide +kernel)
set_option maxRecDepth 20000 in
theorem gX0_workOut_X0_listEvents : GoodIn wsX0_workOut (wsV RX0 60 RX0 yX0_listEvents wsX0_listEvents) := goodIn_app (goodIn_of _ (by decide +kernel)) ggX0_workOut_X0_listEvents
set_option maxRecDepth 20000 in
theorem ggX0_workOut_X0_goForth : GoodIn wsX0_workOut wsX0_goForth := goodIn_r _ [45, 14, 31, 15, 18, 9, 46, 47, 48, 49, 50, 51, 52, 7, 53, 3, 13, 54, 55, 56, 57, 58, 59, 60, 78, 79, 80, 81, 82, 83, 84, 85, 86, 87, 88, 89] (by decide +kernel) (by decide +kernel)
set_option maxRecDepth 20000 in
theorem gX0_workOut_X0_goForth : GoodIn wsX0_workOut (wsV RX0 63 RX0 yX0_goForth wsX0_goForth) := goodIn_app (goodIn_of _ (by decide +kernel)) ggX0_workOut_X0_goForth
set_option maxRecDepth 20000 in
theorem ggX0_workOut_X0_lookAhead : GoodIn wsX0_workOut wsX0_lookAhead := goodIn_r _ [64, 18, 9, 17, 65, 66, 67, 7, 68, 31, 3, 13, 69, 70, 34, 71, 54, 55, 56, 57, 58, 59, 60, 78, 79, 80, 81, 82, 83, 84, 85, 86, 87, 88, 89] (by decide +kernel) (by decide +kernel)
set_option maxRecDepth 20000 in
theorem gX0_workOut_X0_lookAhead : GoodIn wsX0_workOut (wsV RX0 66 RX0 yX0_lookAhead wsX0_lookAhead) := goodIn_app (goodIn_of _ (by decide +kernel)) ggX0_workOut_X0_lookAhead
set_option maxRecDepth 20000 in
theorem ggX0_workOut_X0_answer : GoodIn wsX0_workOut wsX0_answer := goodIn_r _ [75, 31, 18, 9, 17, 14, 15, 69, 70, 34, 71, 76, 77, 78, 79, 80, 81, 82, 83, 84, 85, 86, 87, 88, 89] (by decide +kernel) (by decide +kernel)
set_option maxRecDepth 20000 in
theorem gX0_workOut_X0_answer : GoodIn wsX0_workOut (wsV RX0 69 RX0 yX0_answer wsX0_answer) := goodIn_app (goodIn_of _ (by decide +kernel)) ggX0_workOut_X0_answer
theorem dX0_workOut_0 : decode cX0_workOut 0 = .ok (.aload_n 0, 1) := by decide +kernel
theorem dX0_workOut_1 : decode cX0_workOut 1 = .ok (.getfield 25, 3) := by decide +kernel
theorem dX0_workOut_4 : decode cX0_workOut 4 = .ok (.ifCond .eq 4, 3) := by decide +kernel
theorem dX0_workOut_7 : decode cX0_workOut 7 = .ok (.return_, 1) := by decide +kernel
theorem dX0_workOut_8 : decode cX0_workOut 8 = .ok (.aload_n 0, 1) := by decide +kernel
theorem dX0_workOut_9 : decode cX0_workOut 9 = .ok (.getstatic 53, 3) := by decide +kernel
theorem dX0_workOut_12 : decode cX0_workOut 12 = .ok (.aload_n 0, 1) := by decide +kernel
theorem dX0_workOut_13 : decode cX0_workOut 13 = .ok (.getfield 9, 3) := by decide +kernel
theorem dX0_workOut_16 : decode cX0_workOut 16 = .ok (.iaload, 1) := by decide +kernel
theorem dX0_workOut_17 : decode cX0_workOut 17 = .ok (.invokevirtual 56, 3) := by decide +kernel
theorem dX0_workOut_20 : decode cX0_workOut 20 = .ok (.aload_n 0, 1) := by decide +kernel
theorem dX0_workOut_21 : decode cX0_workOut 21 = .ok (.invokevirtual 60, 3) := by decide +kernel
theorem dX0_workOut_24 : decode cX0_workOut 24 = .ok (.aload_n 0, 1) := by decide +kernel
theorem dX0_workOut_25 : decode cX0_workOut 25 = .ok (.invokevirtual 63, 3) := by decide +kernel
theorem dX0_workOut_28 : decode cX0_workOut 28 = .ok (.iconst 0, 1) := by decide +kernel
theorem dX0_workOut_29 : decode cX0_workOut 29 = .ok (.istore_n 1, 1) := by decide +kernel
theorem dX0_workOut_30 : decode cX0_workOut 30 = .ok (.iload_n 1, 1) := by decide +kernel
theorem dX0_workOut_31 : decode cX0_workOut 31 = .ok (.bipush 40, 2) := by decide +kernel
theorem dX0_workOut_33 : decode cX0_workOut 33 = .ok (.if_icmp .gt 19, 3) := by decide +kernel
theorem dX0_workOut_36 : decode cX0_workOut 36 = .ok (.aload_n 0, 1) := by decide +kernel
theorem dX0_workOut_37 : decode cX0_workOut 37 = .ok (.iload_n 1, 1) := by decide +kernel
theorem dX0_workOut_38 : decode cX0_workOut 38 = .ok (.invokevirtual 66, 3) := by decide +kernel
theorem dX0_workOut_41 : decode cX0_workOut 41 = .ok (.aload_n 0, 1) := by decide +kernel
theorem dX0_workOut_42 : decode cX0_workOut 42 = .ok (.iload_n 1, 1) := by decide +kernel
theorem dX0_workOut_43 : decode cX0_workOut 43 = .ok (.invokevirtual 69, 3) := by decide +kernel
theorem dX0_workOut_46 : decode cX0_workOut 46 = .ok (.iinc 1 1, 3) := by decide +kernel
theorem dX0_workOut_49 : decode cX0_workOut 49 = .ok (.goto (-19), 3) := by decide +kernel
theorem dX0_workOut_52 : decode cX0_workOut 52 = .ok (.aload_n 0, 1) := by decide +kernel
theorem dX0_workOut_53 : decode cX0_workOut 53 = .ok (.iconst 1, 1) := by decide +kernel
theorem dX0_workOut_54 : decode cX0_workOut 54 = .ok (.putfield 25, 3) := by decide +kernel
theorem dX0_workOut_57 : decode cX0_workOut 57 = .ok (.return_, 1) := by decide +kernel
theorem dX0_makeRoom_0 : decode cX0_makeRoom 0 = .ok (.aload_n 0, 1) := by decide +kernel
theorem dX0_makeRoom_1 : decode cX0_makeRoom 1 = .ok (.getfield 29, 3) := by decide +kernel
theorem dX0_makeRoom_4 : decode cX0_makeRoom 4 = .ok (.arraylength, 1) := by decide +kernel
theorem dX0_makeRoom_5 : decode cX0_makeRoom 5 = .ok (.iload_n 1, 1) := by decide +kernel
theorem dX0_makeRoom_6 : decode cX0_makeRoom 6 = .ok (.if_icmp .ge 52, 3) := by decide +kernel
theorem dX0_makeRoom_9 : decode cX0_makeRoom 9 = .ok (.aload_n 0, 1) := by decide +kernel
theorem dX0_makeRoom_10 : decode cX0_makeRoom 10 = .ok (.iload_n 1, 1) := by decide +kernel
theorem dX0_makeRoom_11 : decode cX0_makeRoom 11 = .ok (.newarray .int, 2) := by decide +kernel
theorem dX0_makeRoom_13 : decode cX0_makeRoom 13 = .ok (.putfield 29, 3) := by decide +kernel
theorem dX0_makeRoom_16 : decode cX0_makeRoom 16 = .ok (.aload_n 0, 1) := by decide +kernel
theorem dX0_makeRoom_17 : decode cX0_makeRoom 17 = .ok (.iload_n 1, 1) := by decide +kernel
theorem dX0_makeRoom_18 : decode cX0_makeRoom 18 = .ok (.newarray .boolean, 2) := by decide +kernel
theorem dX0_makeRoom_20 : decode cX0_makeRoom 20 = .ok (.putfield 32, 3) := by decide +kernel
theorem dX0_makeRoom_23 : decode cX0_makeRoom 23 = .ok (.aload_n 0, 1) := by decide +kernel
theorem dX0_makeRoom_24 : decode cX0_makeRoom 24 = .ok (.iload_n 1, 1) := by decide +kernel
theorem dX0_makeRoom_25 : decode cX0_makeRoom 25 = .ok (.bipush 8, 2) := by decide +kernel
theorem dX0_makeRoom_27 : decode cX0_makeRoom 27 = .ok (.imul, 1) := by decide +kernel
theorem dX0_makeRoom_28 : decode cX0_makeRoom 28 = .ok (.newarray .int, 2) := by decide +kernel
theorem dX0_makeRoom_30 : decode cX0_makeRoom 30 = .ok (.putfield 39, 3) := by decide +kernel
theorem dX0_makeRoom_33 : decode cX0_makeRoom 33 = .ok (.aload_n 0, 1) := by decide +kernel
theorem dX0_makeRoom_34 : decode cX0_makeRoom 34 = .ok (.iload_n 1, 1) := by decide +kernel
theorem dX0_makeRoom_35 : decode cX0_makeRoom 35 = .ok (.newarray .int, 2) := by decide +kernel
theorem dX0_makeRoom_37 : decode cX0_makeRoom 37 = .ok (.putfield 42, 3) := by decide +kernel
theorem dX0_makeRoom_40 : decode cX0_makeRoom 40 = .ok (.aload_n 0, 1) := by decide +kernel
theorem dX0_makeRoom_41 : decode cX0_makeRoom 41 = .ok (.iload_n 1, 1) := by decide +kernel
theorem dX0_makeRoom_42 : decode cX0_makeRoom 42 = .ok (.newarray .int, 2) := by decide +kernel
theorem dX0_makeRoom_44 : decode cX0_makeRoom 44 = .ok (.putfield 45, 3) := by decide +kernel
theorem dX0_makeRoom_47 : decode cX0_makeRoom 47 = .ok (.aload_n 0, 1) := by decide +kernel
theorem dX0_makeRoom_48 : decode cX0_makeRoom 48 = .ok (.bipush 13, 2) := by decide +kernel
theorem dX0_makeRoom_50 : decode cX0_makeRoom 50 = .ok (.iload_n 1, 1) := by decide +kernel
theorem dX0_makeRoom_51 : decode cX0_makeRoom 51 = .ok (.multianewarray 48 2, 4) := by decide +kernel
theorem dX0_makeRoom_55 : decode cX0_makeRoom 55 = .ok (.putfield 50, 3) := by decide +kernel
theorem dX0_makeRoom_58 : decode cX0_makeRoom 58 = .ok (.iconst 0, 1) := by decide +kernel
theorem dX0_makeRoom_59 : decode cX0_makeRoom 59 = .ok (.istore_n 2, 1) := by decide +kernel
theorem dX0_makeRoom_60 : decode cX0_makeRoom 60 = .ok (.iload_n 2, 1) := by decide +kernel
theorem dX0_makeRoom_61 : decode cX0_makeRoom 61 = .ok (.aload_n 0, 1) := by decide +kernel
theorem dX0_makeRoom_62 : decode cX0_makeRoom 62 = .ok (.getfield 32, 3) := by decide +kernel
theorem dX0_makeRoom_65 : decode cX0_makeRoom 65 = .ok (.arraylength, 1) := by decide +kernel
theorem dX0_makeRoom_66 : decode cX0_makeRoom 66 = .ok (.if_icmp .ge 16, 3) := by decide +kernel
theorem dX0_makeRoom_69 : decode cX0_makeRoom 69 = .ok (.aload_n 0, 1) := by decide +kernel
theorem dX0_makeRoom_70 : decode cX0_makeRoom 70 = .ok (.getfield 32, 3) := by decide +kernel
theorem dX0_makeRoom_73 : decode cX0_makeRoom 73 = .ok (.iload_n 2, 1) := by decide +kernel
theorem dX0_makeRoom_74 : decode cX0_makeRoom 74 = .ok (.iconst 0, 1) := by decide +kernel
theorem dX0_makeRoom_75 : decode cX0_makeRoom 75 = .ok (.bastore, 1) := by decide +kernel
theorem dX0_makeRoom_76 : decode cX0_makeRoom 76 = .ok (.iinc 2 1, 3) := by decide +kernel
theorem dX0_makeRoom_79 : decode cX0_makeRoom 79 = .ok (.goto (-19), 3) := by decide +kernel
theorem dX0_makeRoom_82 : decode cX0_makeRoom 82 = .ok (.aload_n 0, 1) := by decide +kernel
theorem dX0_makeRoom_83 : decode cX0_makeRoom 83 = .ok (.iconst 0, 1) := by decide +kernel
theorem dX0_makeRoom_84 : decode cX0_makeRoom 84 = .ok (.putfield 36, 3) := by decide +kernel
theorem dX0_makeRoom_87 : decode cX0_makeRoom 87 = .ok (.return_, 1) := by decide +kernel
set_option maxRecDepth 20000 in
theorem ggX0_listEvents_X0_list : GoodIn wsX0_listEvents wsX0_list := goodIn_r _ [9, 10, 1, 2, 26, 27, 28, 29, 30, 31, 32, 33, 34, 35, 36, 37] (by decide +kernel) (by decide +kernel)
set_option maxRecDepth 20000 in
theorem gX0_listEvents_X0_list : GoodIn wsX0_listEvents (wsV RX0 72 RX0 yX0_list wsX0_list) := goodIn_app (goodIn_of _ (by decide +kernel)) ggX0_listEvents_X0_list
set_option maxRecDepth 20000 in
theorem ggX0_listEvents_X0_leapFrom : GoodIn wsX0_listEvents wsX0_leapFrom := goodIn_r _ [14, 15, 3, 16, 17, 18, 19, 20, 21, 22, 23, 8, 24, 25, 26, 27, 28, 29, 30, 31, 32, 33, 34, 35, 36, 37] (by decide +kernel) (by decide +kernel)
set_option maxRecDepth 20000 in
theorem gX0_listEvents_X0_leapFrom : GoodIn wsX0_listEvents (wsV RX0 75 RX0 yX0_leapFrom wsX0_leapFrom) := goodIn_app (goodIn_of _ (by decide +kernel)) ggX0_listEvents_X0_leapFrom
theorem dX0_listEvents_0 : decode cX0_listEvents 0 = .ok (.aload_n 0, 1) := by decide +kernel
theorem dX0_listEvents_1 : decode cX0_listEvents 1 = .ok (.iconst 0, 1) := by decide +kernel
theorem dX0_listEvents_2 : decode cX0_listEvents 2 = .ok (.invokevirtual 72, 3) := by decide +kernel
theorem dX0_listEvents_5 : decode cX0_listEvents 5 = .ok (.iconst 0, 1) := by decide +kernel
theorem dX0_listEvents_6 : decode cX0_listEvents 6 = .ok (.istore_n 1, 1) := by decide +kernel
theorem dX0_listEvents_7 : decode cX0_listEvents 7 = .ok (.iload_n 1, 1) := by decide +kernel
theorem dX0_listEvents_8 : decode cX0_listEvents 8 = .ok (.aload_n 0, 1) := by decide +kernel
theorem dX0_listEvents_9 : decode cX0_listEvents 9 = .ok (.getfield 36, 3) := by decide +kernel
theorem dX0_listEvents_12 : decode cX0_listEvents 12 = .ok (.if_icmp .ge 79, 3) := by decide +kernel
theorem dX0_listEvents_15 : decode cX0_listEvents 15 = .ok (.iload_n 1, 1) := by decide +kernel
theorem dX0_listEvents_16 : decode cX0_listEvents 16 = .ok (.aload_n 0, 1) := by decide +kernel
theorem dX0_listEvents_17 : decode cX0_listEvents 17 = .ok (.getfield 29, 3) := by decide +kernel
theorem dX0_listEvents_20 : decode cX0_listEvents 20 = .ok (.arraylength, 1) := by decide +kernel
theorem dX0_listEvents_21 : decode cX0_listEvents 21 = .ok (.if_icmp .ge 70, 3) := by decide +kernel
theorem dX0_listEvents_24 : decode cX0_listEvents 24 = .ok (.aload_n 0, 1) := by decide +kernel
theorem dX0_listEvents_25 : decode cX0_listEvents 25 = .ok (.getfield 29, 3) := by decide +kernel
theorem dX0_listEvents_28 : decode cX0_listEvents 28 = .ok (.iload_n 1, 1) := by decide +kernel
theorem dX0_listEvents_29 : decode cX0_listEvents 29 = .ok (.iaload, 1) := by decide +kernel
theorem dX0_listEvents_30 : decode cX0_listEvents 30 = .ok (.istore_n 2, 1) := by decide +kernel
theorem dX0_listEvents_31 : decode cX0_listEvents 31 = .ok (.iconst 0, 1) := by decide +kernel
theorem dX0_listEvents_32 : decode cX0_listEvents 32 = .ok (.istore_n 3, 1) := by decide +kernel
theorem dX0_listEvents_33 : decode cX0_listEvents 33 = .ok (.iload_n 3, 1) := by decide +kernel
theorem dX0_listEvents_34 : decode cX0_listEvents 34 = .ok (.iconst 1, 1) := by decide +kernel
theorem dX0_listEvents_35 : decode cX0_listEvents 35 = .ok (.aload_n 0, 1) := by decide +kernel
theorem dX0_listEvents_36 : decode cX0_listEvents 36 = .ok (.getfield 9, 3) := by decide +kernel
theorem dX0_listEvents_39 : decode cX0_listEvents 39 = .ok (.ishl, 1) := by decide +kernel
theorem dX0_listEvents_40 : decode cX0_listEvents 40 = .ok (.if_icmp .ge 45, 3) := by decide +kernel
theorem dX0_listEvents_43 : decode cX0_listEvents 43 = .ok (.aload_n 0, 1) := by decide +kernel
theorem dX0_listEvents_44 : decode cX0_listEvents 44 = .ok (.iload_n 2, 1) := by decide +kernel
theorem dX0_listEvents_45 : decode cX0_listEvents 45 = .ok (.iload_n 3, 1) := by decide +kernel
theorem dX0_listEvents_46 : decode cX0_listEvents 46 = .ok (.invokevirtual 75, 3) := by decide +kernel
theorem dX0_listEvents_49 : decode cX0_listEvents 49 = .ok (.istore 4, 2) := by decide +kernel
theorem dX0_listEvents_51 : decode cX0_listEvents 51 = .ok (.aload_n 0, 1) := by decide +kernel
theorem dX0_listEvents_52 : decode cX0_listEvents 52 = .ok (.getfield 39, 3) := by decide +kernel
theorem dX0_listEvents_55 : decode cX0_listEvents 55 = .ok (.iload_n 2, 1) := by decide +kernel
theorem dX0_listEvents_56 : decode cX0_listEvents 56 = .ok (.bipush 8, 2) := by decide +kernel
theorem dX0_listEvents_58 : decode cX0_listEvents 58 = .ok (.imul, 1) := by decide +kernel
theorem dX0_listEvents_59 : decode cX0_listEvents 59 = .ok (.iload_n 3, 1) := by decide +kernel
theorem dX0_listEvents_60 : decode cX0_listEvents 60 = .ok (.iadd, 1) := by decide +kernel
theorem dX0_listEvents_61 : decode cX0_listEvents 61 = .ok (.iload 4, 2) := by decide +kernel
theorem dX0_listEvents_63 : decode cX0_listEvents 63 = .ok (.iastore, 1) := by decide +kernel
theorem dX0_listEvents_64 : decode cX0_listEvents 64 = .ok (.iload 4, 2) := by decide +kernel
theorem dX0_listEvents_66 : decode cX0_listEvents 66 = .ok (.iconst (-1), 1) := by decide +kernel
theorem dX0_listEvents_67 : decode cX0_listEvents 67 = .ok (.if_icmp .eq 12, 3) := by decide +kernel
theorem dX0_listEvents_70 : decode cX0_listEvents 70 = .ok (.aload_n 0, 1) := by decide +kernel
theorem dX0_listEvents_71 : decode cX0_listEvents 71 = .ok (.iload 4, 2) := by decide +kernel
theorem dX0_listEvents_73 : decode cX0_listEvents 73 = .ok (.bipush 16, 2) := by decide +kernel
theorem dX0_listEvents_75 : decode cX0_listEvents 75 = .ok (.idiv, 1) := by decide +kernel
theorem dX0_listEvents_76 : decode cX0_listEvents 76 = .ok (.invokevirtual 72, 3) := by decide +kernel
theorem dX0_listEvents_79 : decode cX0_listEvents 79 = .ok (.iinc 3 1, 3) := by decide +kernel
theorem dX0_listEvents_82 : decode cX0_listEvents 82 = .ok (.goto (-49), 3) := by decide +kernel
theorem dX0_listEvents_85 : decode cX0_listEvents 85 = .ok (.iinc 1 1, 3) := by decide +kernel
theorem dX0_listEvents_88 : decode cX0_listEvents 88 = .ok (.goto (-81), 3) := by decide +kernel
theorem dX0_listEvents_91 : decode cX0_listEvents 91 = .ok (.return_, 1) := by decide +kernel
theorem dX0_list_0 : decode cX0_list 0 = .ok (.iload_n 1, 1) := by decide +kernel
theorem dX0_list_1 : decode cX0_list 1 = .ok (.ifCond .lt 60, 3) := by decide +kernel
theorem dX0_list_4 : decode cX0_list 4 = .ok (.iload_n 1, 1) := by decide +kernel
theorem dX0_list_5 : decode cX0_list 5 = .ok (.aload_n 0, 1) := by decide +kernel
theorem dX0_list_6 : decode cX0_list 6 = .ok (.getfield 32, 3) := by decide +kernel
theorem dX0_list_9 : decode cX0_list 9 = .ok (.arraylength, 1) := by decide +kernel
theorem dX0_list_10 : decode cX0_list 10 = .ok (.if_icmp .ge 51, 3) := by decide +kernel
theorem dX0_list_13 : decode cX0_list 13 = .ok (.aload_n 0, 1) := by decide +kernel
theorem dX0_list_14 : decode cX0_list 14 = .ok (.getfield 32, 3) := by decide +kernel
theorem dX0_list_17 : decode cX0_list 17 = .ok (.iload_n 1, 1) := by decide +kernel
theorem dX0_list_18 : decode cX0_list 18 = .ok (.baload, 1) := by decide +kernel
theorem dX0_list_19 : decode cX0_list 19 = .ok (.ifCond .ne 42, 3) := by decide +kernel
theorem dX0_list_22 : decode cX0_list 22 = .ok (.aload_n 0, 1) := by decide +kernel
theorem dX0_list_23 : decode cX0_list 23 = .ok (.getfield 36, 3) := by decide +kernel
theorem dX0_list_26 : decode cX0_list 26 = .ok (.aload_n 0, 1) := by decide +kernel
theorem dX0_list_27 : decode cX0_list 27 = .ok (.getfield 29, 3) := by decide +kernel
theorem dX0_list_30 : decode cX0_list 30 = .ok (.arraylength, 1) := by decide +kernel
theorem dX0_list_31 : decode cX0_list 31 = .ok (.if_icmp .ge 30, 3) := by decide +kernel
theorem dX0_list_34 : decode cX0_list 34 = .ok (.aload_n 0, 1) := by decide +kernel
theorem dX0_list_35 : decode cX0_list 35 = .ok (.getfield 32, 3) := by decide +kernel
theorem dX0_list_38 : decode cX0_list 38 = .ok (.iload_n 1, 1) := by decide +kernel
theorem dX0_list_39 : decode cX0_list 39 = .ok (.iconst 1, 1) := by decide +kernel
theorem dX0_list_40 : decode cX0_list 40 = .ok (.bastore, 1) := by decide +kernel
theorem dX0_list_41 : decode cX0_list 41 = .ok (.aload_n 0, 1) := by decide +kernel
theorem dX0_list_42 : decode cX0_list 42 = .ok (.getfield 29, 3) := by decide +kernel
theorem dX0_list_45 : decode cX0_list 45 = .ok (.aload_n 0, 1) := by decide +kernel
theorem dX0_list_46 : decode cX0_list 46 = .ok (.getfield 36, 3) := by decide +kernel
theorem dX0_list_49 : decode cX0_list 49 = .ok (.iload_n 1, 1) := by decide +kernel
theorem dX0_list_50 : decode cX0_list 50 = .ok (.iastore, 1) := by decide +kernel
theorem dX0_list_51 : decode cX0_list 51 = .ok (.aload_n 0, 1) := by decide +kernel
theorem dX0_list_52 : decode cX0_list 52 = .ok (.dup, 1) := by decide +kernel
theorem dX0_list_53 : decode cX0_list 53 = .ok (.getfield 36, 3) := by decide +kernel
theorem dX0_list_56 : decode cX0_list 56 = .ok (.iconst 1, 1) := by decide +kernel
theorem dX0_list_57 : decode cX0_list 57 = .ok (.iadd, 1) := by decide +kernel
theorem dX0_list_58 : decode cX0_list 58 = .ok (.putfield 36, 3) := by decide +kernel
theorem dX0_list_61 : decode cX0_list 61 = .ok (.return_, 1) := by decide +kernel
set_option maxRecDepth 20000 in
theorem ggX0_leapFrom_X0_sandAbove : GoodIn wsX0_leapFrom wsX0_sandAbove := goodIn_r _ [12, 13, 14, 15, 16, 17, 18, 19, 20, 21, 22, 23, 24, 25] (by decide +kernel) (by decide +kernel)
set_option maxRecDepth 20000 in
theorem gX0_leapFrom_X0_sandAbove : GoodIn wsX0_leapFrom (wsV RX0 80 RX0 yX0_sandAbove wsX0_sandAbove) := goodIn_app (goodIn_of _ (by decide +kernel)) ggX0_leapFrom_X0_sandAbove
theorem dX0_leapFrom_0 : decode cX0_leapFrom 0 = .ok (.ldc 79, 2) := by decide +kernel
theorem dX0_leapFrom_2 : decode cX0_leapFrom 2 = .ok (.istore_n 3, 1) := by decide +kernel
theorem dX0_leapFrom_3 : decode cX0_leapFrom 3 = .ok (.iconst 0, 1) := by decide +kernel
theorem dX0_leapFrom_4 : decode cX0_leapFrom 4 = .ok (.istore 4, 2) := by decide +kernel
theorem dX0_leapFrom_6 : decode cX0_leapFrom 6 = .ok (.iload 4, 2) := by decide +kernel
theorem dX0_leapFrom_8 : decode cX0_leapFrom 8 = .ok (.aload_n 0, 1) := by decide +kernel
theorem dX0_leapFrom_9 : decode cX0_leapFrom 9 = .ok (.getfield 9, 3) := by decide +kernel
theorem dX0_leapFrom_12 : decode cX0_leapFrom 12 = .ok (.if_icmp .ge 39, 3) := by decide +kernel
theorem dX0_leapFrom_15 : decode cX0_leapFrom 15 = .ok (.iload 4, 2) := by decide +kernel
theorem dX0_leapFrom_17 : decode cX0_leapFrom 17 = .ok (.iconst 3, 1) := by decide +kernel
theorem dX0_leapFrom_18 : decode cX0_leapFrom 18 = .ok (.if_icmp .ge 33, 3) := by decide +kernel
theorem dX0_leapFrom_21 : decode cX0_leapFrom 21 = .ok (.aload_n 0, 1) := by decide +kernel
theorem dX0_leapFrom_22 : decode cX0_leapFrom 22 = .ok (.iload_n 1, 1) := by decide +kernel
theorem dX0_leapFrom_23 : decode cX0_leapFrom 23 = .ok (.iload_n 2, 1) := by decide +kernel
theorem dX0_leapFrom_24 : decode cX0_leapFrom 24 = .ok (.iload 4, 2) := by decide +kernel
theorem dX0_leapFrom_26 : decode cX0_leapFrom 26 = .ok (.invokevirtual 80, 3) := by decide +kernel
theorem dX0_leapFrom_29 : decode cX0_leapFrom 29 = .ok (.istore 5, 2) := by decide +kernel
theorem dX0_leapFrom_31 : decode cX0_leapFrom 31 = .ok (.iload 5, 2) := by decide +kernel
theorem dX0_leapFrom_33 : decode cX0_leapFrom 33 = .ok (.ifCond .le 12, 3) := by decide +kernel
theorem dX0_leapFrom_36 : decode cX0_leapFrom 36 = .ok (.iload 5, 2) := by decide +kernel
theorem dX0_leapFrom_38 : decode cX0_leapFrom 38 = .ok (.iload_n 3, 1) := by decide +kernel
theorem dX0_leapFrom_39 : decode cX0_leapFrom 39 = .ok (.if_icmp .ge 6, 3) := by decide +kernel
theorem dX0_leapFrom_42 : decode cX0_leapFrom 42 = .ok (.iload 5, 2) := by decide +kernel
theorem dX0_leapFrom_44 : decode cX0_leapFrom 44 = .ok (.istore_n 3, 1) := by decide +kernel
theorem dX0_leapFrom_45 : decode cX0_leapFrom 45 = .ok (.iinc 4 1, 3) := by decide +kernel
theorem dX0_leapFrom_48 : decode cX0_leapFrom 48 = .ok (.goto (-42), 3) := by decide +kernel
theorem dX0_leapFrom_51 : decode cX0_leapFrom 51 = .ok (.iload_n 3, 1) := by decide +kernel
theorem dX0_leapFrom_52 : decode cX0_leapFrom 52 = .ok (.ldc 79, 2) := by decide +kernel
theorem dX0_leapFrom_54 : decode cX0_leapFrom 54 = .ok (.if_icmp .ne 5, 3) := by decide +kernel
theorem dX0_leapFrom_57 : decode cX0_leapFrom 57 = .ok (.iconst (-1), 1) := by decide +kernel
theorem dX0_leapFrom_58 : decode cX0_leapFrom 58 = .ok (.ireturn, 1) := by decide +kernel
theorem dX0_leapFrom_59 : decode cX0_leapFrom 59 = .ok (.iconst 0, 1) := by decide +kernel
theorem dX0_leapFrom_60 : decode cX0_leapFrom 60 = .ok (.istore 4, 2) := by decide +kernel
theorem dX0_leapFrom_62 : decode cX0_leapFrom 62 = .ok (.iconst 0, 1) := by decide +kernel
theorem dX0_leapFrom_63 : decode cX0_leapFrom 63 = .ok (.istore 5, 2) := by decide +kernel
theorem dX0_leapFrom_65 : decode cX0_leapFrom 65 = .ok (.iload 5, 2) := by decide +kernel
theorem dX0_leapFrom_67 : decode cX0_leapFrom 67 = .ok (.aload_n 0, 1) := by decide +kernel
theorem dX0_leapFrom_68 : decode cX0_leapFrom 68 = .ok (.getfield 9, 3) := by decide +kernel
theorem dX0_leapFrom_71 : decode cX0_leapFrom 71 = .ok (.if_icmp .ge 41, 3) := by decide +kernel
theorem dX0_leapFrom_74 : decode cX0_leapFrom 74 = .ok (.iload 5, 2) := by decide +kernel
theorem dX0_leapFrom_76 : decode cX0_leapFrom 76 = .ok (.iconst 3, 1) := by decide +kernel
theorem dX0_leapFrom_77 : decode cX0_leapFrom 77 = .ok (.if_icmp .ge 35, 3) := by decide +kernel
theorem dX0_leapFrom_80 : decode cX0_leapFrom 80 = .ok (.iload 4, 2) := by decide +kernel
theorem dX0_leapFrom_82 : decode cX0_leapFrom 82 = .ok (.iconst 0, 1) := by decide +kernel
theorem dX0_leapFrom_83 : decode cX0_leapFrom 83 = .ok (.aload_n 0, 1) := by decide +kernel
theorem dX0_leapFrom_84 : decode cX0_leapFrom 84 = .ok (.iload_n 1, 1) := by decide +kernel
theorem dX0_leapFrom_85 : decode cX0_leapFrom 85 = .ok (.iload_n 2, 1) := by decide +kernel
theorem dX0_leapFrom_86 : decode cX0_leapFrom 86 = .ok (.iload 5, 2) := by decide +kernel
theorem dX0_leapFrom_88 : decode cX0_leapFrom 88 = .ok (.invokevirtual 80, 3) := by decide +kernel
theorem dX0_leapFrom_91 : decode cX0_leapFrom 91 = .ok (.iload_n 3, 1) := by decide +kernel
theorem dX0_leapFrom_92 : decode cX0_leapFrom 92 = .ok (.isub, 1) := by decide +kernel
theorem dX0_leapFrom_93 : decode cX0_leapFrom 93 = .ok (.invokestatic 84, 3) := by decide +kernel
theorem dX0_leapFrom_96 : decode cX0_leapFrom 96 = .ok (.getstatic 89, 3) := by decide +kernel
theorem dX0_leapFrom_99 : decode cX0_leapFrom 99 = .ok (.iload 5, 2) := by decide +kernel
theorem dX0_leapFrom_101 : decode cX0_leapFrom 101 = .ok (.iaload, 1) := by decide +kernel
theorem dX0_leapFrom_102 : decode cX0_leapFrom 102 = .ok (.imul, 1) := by decide +kernel
theorem dX0_leapFrom_103 : decode cX0_leapFrom 103 = .ok (.iadd, 1) := by decide +kernel
theorem dX0_leapFrom_104 : decode cX0_leapFrom 104 = .ok (.istore 4, 2) := by decide +kernel
theorem dX0_leapFrom_106 : decode cX0_leapFrom 106 = .ok (.iinc 5 1, 3) := by decide +kernel
theorem dX0_leapFrom_109 : decode cX0_leapFrom 109 = .ok (.goto (-44), 3) := by decide +kernel
theorem dX0_leapFrom_112 : decode cX0_leapFrom 112 = .ok (.iload 4, 2) := by decide +kernel
theorem dX0_leapFrom_114 : decode cX0_leapFrom 114 = .ok (.bipush 16, 2) := by decide +kernel
theorem dX0_leapFrom_116 : decode cX0_leapFrom 116 = .ok (.imul, 1) := by decide +kernel
theorem dX0_leapFrom_117 : decode cX0_leapFrom 117 = .ok (.iload_n 3, 1) := by decide +kernel
theorem dX0_leapFrom_118 : decode cX0_leapFrom 118 = .ok (.iadd, 1) := by decide +kernel
theorem dX0_leapFrom_119 : decode cX0_leapFrom 119 = .ok (.ireturn, 1) := by decide +kernel
theorem dX0_sandAbove_0 : decode cX0_sandAbove 0 = .ok (.iload_n 1, 1) := by decide +kernel
theorem dX0_sandAbove_1 : decode cX0_sandAbove 1 = .ok (.istore 4, 2) := by decide +kernel
theorem dX0_sandAbove_3 : decode cX0_sandAbove 3 = .ok (.iconst 0, 1) := by decide +kernel
theorem dX0_sandAbove_4 : decode cX0_sandAbove 4 = .ok (.istore 5, 2) := by decide +kernel
theorem dX0_sandAbove_6 : decode cX0_sandAbove 6 = .ok (.iload 5, 2) := by decide +kernel
theorem dX0_sandAbove_8 : decode cX0_sandAbove 8 = .ok (.iload_n 3, 1) := by decide +kernel
theorem dX0_sandAbove_9 : decode cX0_sandAbove 9 = .ok (.if_icmp .ge 16, 3) := by decide +kernel
theorem dX0_sandAbove_12 : decode cX0_sandAbove 12 = .ok (.iload 4, 2) := by decide +kernel
theorem dX0_sandAbove_14 : decode cX0_sandAbove 14 = .ok (.bipush 12, 2) := by decide +kernel
theorem dX0_sandAbove_16 : decode cX0_sandAbove 16 = .ok (.idiv, 1) := by decide +kernel
theorem dX0_sandAbove_17 : decode cX0_sandAbove 17 = .ok (.istore 4, 2) := by decide +kernel
theorem dX0_sandAbove_19 : decode cX0_sandAbove 19 = .ok (.iinc 5 1, 3) := by decide +kernel
theorem dX0_sandAbove_22 : decode cX0_sandAbove 22 = .ok (.goto (-16), 3) := by decide +kernel
theorem dX0_sandAbove_25 : decode cX0_sandAbove 25 = .ok (.iload 4, 2) := by decide +kernel
theorem dX0_sandAbove_27 : decode cX0_sandAbove 27 = .ok (.bipush 12, 2) := by decide +kernel
theorem dX0_sandAbove_29 : decode cX0_sandAbove 29 = .ok (.irem, 1) := by decide +kernel
theorem dX0_sandAbove_30 : decode cX0_sandAbove 30 = .ok (.istore 5, 2) := by decide +kernel
theorem dX0_sandAbove_32 : decode cX0_sandAbove 32 = .ok (.iload_n 2, 1) := by decide +kernel
theorem dX0_sandAbove_33 : decode cX0_sandAbove 33 = .ok (.iload_n 3, 1) := by decide +kernel
theorem dX0_sandAbove_34 : decode cX0_sandAbove 34 = .ok (.ishr, 1) := by decide +kernel
theorem dX0_sandAbove_35 : decode cX0_sandAbove 35 = .ok (.iconst 1, 1) := by decide +kernel
theorem dX0_sandAbove_36 : decode cX0_sandAbove 36 = .ok (.iand, 1) := by decide +kernel
theorem dX0_sandAbove_37 : decode cX0_sandAbove 37 = .ok (.iconst 1, 1) := by decide +kernel
theorem dX0_sandAbove_38 : decode cX0_sandAbove 38 = .ok (.if_icmp .ne 15, 3) := by decide +kernel
theorem dX0_sandAbove_41 : decode cX0_sandAbove 41 = .ok (.aload_n 0, 1) := by decide +kernel
theorem dX0_sandAbove_42 : decode cX0_sandAbove 42 = .ok (.getfield 15, 3) := by decide +kernel
theorem dX0_sandAbove_45 : decode cX0_sandAbove 45 = .ok (.iload_n 3, 1) := by decide +kernel
theorem dX0_sandAbove_46 : decode cX0_sandAbove 46 = .ok (.iaload, 1) := by decide +kernel
theorem dX0_sandAbove_47 : decode cX0_sandAbove 47 = .ok (.iload 5, 2) := by decide +kernel
theorem dX0_sandAbove_49 : decode cX0_sandAbove 49 = .ok (.isub, 1) := by decide +kernel
theorem dX0_sandAbove_50 : decode cX0_sandAbove 50 = .ok (.goto 5, 3) := by decide +kernel
theorem dX0_sandAbove_53 : decode cX0_sandAbove 53 = .ok (.iload 5, 2) := by decide +kernel
theorem dX0_sandAbove_55 : decode cX0_sandAbove 55 = .ok (.ireturn, 1) := by decide +kernel
set_option maxRecDepth 20000 in
theorem ggX0_goForth_J7_fill_53178 : GoodIn wsX0_goForth wsJ7_fill_53178 := goodIn_r _ [9] (by decide +kernel) (by decide +kernel)
set_option maxRecDepth 20000 in
theorem gX0_goForth_J7_fill_53178 : GoodIn wsX0_goForth (va_wsS RX0 92 yJ7_fill_53178 wsJ7_fill_53178) := goodIn_app (goodIn_of _ (by decide +kernel)) ggX0_goForth_J7_fill_53178
set_option maxRecDepth 20000 in
theorem ggX0_goForth_X0_goOnFrom : GoodIn wsX0_goForth wsX0_goOnFrom := goodIn_r _ [14, 15, 16, 3, 1, 17, 18, 19, 20, 21, 22, 23, 24, 25, 26, 27, 28, 29, 30, 31, 32, 33, 34, 35] (by decide +kernel) (by decide +kernel)
set_option maxRecDepth 20000 in
theorem gX0_goForth_X0_goOnFrom : GoodIn wsX0_goForth (wsV RX0 98 RX0 yX0_goOnFrom wsX0_goOnFrom) := goodIn_app (goodIn_of _ (by decide +kernel)) ggX0_goForth_X0_goOnFrom
theorem dX0_goForth_0 : decode cX0_goForth 0 = .ok (.aload_n 0, 1) := by decide +kernel
theorem dX0_goForth_1 : decode cX0_goForth 1 = .ok (.getfield 42, 3) := by decide +kernel
theorem dX0_goForth_4 : decode cX0_goForth 4 = .ok (.ldc 79, 2) := by decide +kernel
theorem dX0_goForth_6 : decode cX0_goForth 6 = .ok (.invokestatic 92, 3) := by decide +kernel
theorem dX0_goForth_9 : decode cX0_goForth 9 = .ok (.aload_n 0, 1) := by decide +kernel
theorem dX0_goForth_10 : decode cX0_goForth 10 = .ok (.getfield 45, 3) := by decide +kernel
theorem dX0_goForth_13 : decode cX0_goForth 13 = .ok (.ldc 79, 2) := by decide +kernel
theorem dX0_goForth_15 : decode cX0_goForth 15 = .ok (.invokestatic 92, 3) := by decide +kernel
theorem dX0_goForth_18 : decode cX0_goForth 18 = .ok (.aload_n 0, 1) := by decide +kernel
theorem dX0_goForth_19 : decode cX0_goForth 19 = .ok (.getfield 42, 3) := by decide +kernel
theorem dX0_goForth_22 : decode cX0_goForth 22 = .ok (.iconst 0, 1) := by decide +kernel
theorem dX0_goForth_23 : decode cX0_goForth 23 = .ok (.iconst 0, 1) := by decide +kernel
theorem dX0_goForth_24 : decode cX0_goForth 24 = .ok (.iastore, 1) := by decide +kernel
theorem dX0_goForth_25 : decode cX0_goForth 25 = .ok (.aload_n 0, 1) := by decide +kernel
theorem dX0_goForth_26 : decode cX0_goForth 26 = .ok (.getfield 45, 3) := by decide +kernel
theorem dX0_goForth_29 : decode cX0_goForth 29 = .ok (.iconst 0, 1) := by decide +kernel
theorem dX0_goForth_30 : decode cX0_goForth 30 = .ok (.iconst 0, 1) := by decide +kernel
theorem dX0_goForth_31 : decode cX0_goForth 31 = .ok (.iastore, 1) := by decide +kernel
theorem dX0_goForth_32 : decode cX0_goForth 32 = .ok (.iconst 0, 1) := by decide +kernel
theorem dX0_goForth_33 : decode cX0_goForth 33 = .ok (.istore_n 1, 1) := by decide +kernel
theorem dX0_goForth_34 : decode cX0_goForth 34 = .ok (.iload_n 1, 1) := by decide +kernel
theorem dX0_goForth_35 : decode cX0_goForth 35 = .ok (.bipush 60, 2) := by decide +kernel
theorem dX0_goForth_37 : decode cX0_goForth 37 = .ok (.if_icmp .gt 60, 3) := by decide +kernel
theorem dX0_goForth_40 : decode cX0_goForth 40 = .ok (.iconst 0, 1) := by decide +kernel
theorem dX0_goForth_41 : decode cX0_goForth 41 = .ok (.istore_n 2, 1) := by decide +kernel
theorem dX0_goForth_42 : decode cX0_goForth 42 = .ok (.iload_n 2, 1) := by decide +kernel
theorem dX0_goForth_43 : decode cX0_goForth 43 = .ok (.aload_n 0, 1) := by decide +kernel
theorem dX0_goForth_44 : decode cX0_goForth 44 = .ok (.getfield 36, 3) := by decide +kernel
theorem dX0_goForth_47 : decode cX0_goForth 47 = .ok (.if_icmp .ge 44, 3) := by decide +kernel
theorem dX0_goForth_50 : decode cX0_goForth 50 = .ok (.iload_n 2, 1) := by decide +kernel
theorem dX0_goForth_51 : decode cX0_goForth 51 = .ok (.aload_n 0, 1) := by decide +kernel
theorem dX0_goForth_52 : decode cX0_goForth 52 = .ok (.getfield 29, 3) := by decide +kernel
theorem dX0_goForth_55 : decode cX0_goForth 55 = .ok (.arraylength, 1) := by decide +kernel
theorem dX0_goForth_56 : decode cX0_goForth 56 = .ok (.if_icmp .ge 35, 3) := by decide +kernel
theorem dX0_goForth_59 : decode cX0_goForth 59 = .ok (.aload_n 0, 1) := by decide +kernel
theorem dX0_goForth_60 : decode cX0_goForth 60 = .ok (.getfield 42, 3) := by decide +kernel
theorem dX0_goForth_63 : decode cX0_goForth 63 = .ok (.aload_n 0, 1) := by decide +kernel
theorem dX0_goForth_64 : decode cX0_goForth 64 = .ok (.getfield 29, 3) := by decide +kernel
theorem dX0_goForth_67 : decode cX0_goForth 67 = .ok (.iload_n 2, 1) := by decide +kernel
theorem dX0_goForth_68 : decode cX0_goForth 68 = .ok (.iaload, 1) := by decide +kernel
theorem dX0_goForth_69 : decode cX0_goForth 69 = .ok (.iaload, 1) := by decide +kernel
theorem dX0_goForth_70 : decode cX0_goForth 70 = .ok (.iload_n 1, 1) := by decide +kernel
theorem dX0_goForth_71 : decode cX0_goForth 71 = .ok (.if_icmp .ne 14, 3) := by decide +kernel
theorem dX0_goForth_74 : decode cX0_goForth 74 = .ok (.aload_n 0, 1) := by decide +kernel
theorem dX0_goForth_75 : decode cX0_goForth 75 = .ok (.aload_n 0, 1) := by decide +kernel
theorem dX0_goForth_76 : decode cX0_goForth 76 = .ok (.getfield 29, 3) := by decide +kernel
theorem dX0_goForth_79 : decode cX0_goForth 79 = .ok (.iload_n 2, 1) := by decide +kernel
theorem dX0_goForth_80 : decode cX0_goForth 80 = .ok (.iaload, 1) := by decide +kernel
theorem dX0_goForth_81 : decode cX0_goForth 81 = .ok (.iload_n 1, 1) := by decide +kernel
theorem dX0_goForth_82 : decode cX0_goForth 82 = .ok (.invokevirtual 98, 3) := by decide +kernel
theorem dX0_goForth_85 : decode cX0_goForth 85 = .ok (.iinc 2 1, 3) := by decide +kernel
theorem dX0_goForth_88 : decode cX0_goForth 88 = .ok (.goto (-46), 3) := by decide +kernel
theorem dX0_goForth_91 : decode cX0_goForth 91 = .ok (.iinc 1 1, 3) := by decide +kernel
theorem dX0_goForth_94 : decode cX0_goForth 94 = .ok (.goto (-60), 3) := by decide +kernel
theorem dX0_goForth_97 : decode cX0_goForth 97 = .ok (.return_, 1) := by decide +kernel
set_option maxRecDepth 20000 in
theorem ggX0_goOnFrom_J6_bitCount_0f7a4 : GoodIn wsX0_goOnFrom wsJ6_bitCount_0f7a4 := goodIn_r _ [8, 9, 10, 11] (by decide +kernel) (by decide +kernel)
set_option maxRecDepth 20000 in
theorem gX0_goOnFrom_J6_bitCount_0f7a4 : GoodIn wsX0_goOnFrom (va_wsS RX0 102 yJ6_bitCount_0f7a4 wsJ6_bitCount_0f7a4) := goodIn_app (goodIn_of _ (by decide +kernel)) ggX0_goOnFrom_J6_bitCount_0f7a4
theorem dX0_goOnFrom_0 : decode cX0_goOnFrom 0 = .ok (.iconst 0, 1) := by decide +kernel
theorem dX0_goOnFrom_1 : decode cX0_goOnFrom 1 = .ok (.istore_n 3, 1) := by decide +kernel
theorem dX0_goOnFrom_2 : decode cX0_goOnFrom 2 = .ok (.iload_n 3, 1) := by decide +kernel
theorem dX0_goOnFrom_3 : decode cX0_goOnFrom 3 = .ok (.iconst 1, 1) := by decide +kernel
theorem dX0_goOnFrom_4 : decode cX0_goOnFrom 4 = .ok (.aload_n 0, 1) := by decide +kernel
theorem dX0_goOnFrom_5 : decode cX0_goOnFrom 5 = .ok (.getfield 9, 3) := by decide +kernel
theorem dX0_goOnFrom_8 : decode cX0_goOnFrom 8 = .ok (.ishl, 1) := by decide +kernel
theorem dX0_goOnFrom_9 : decode cX0_goOnFrom 9 = .ok (.if_icmp .ge 114, 3) := by decide +kernel
theorem dX0_goOnFrom_12 : decode cX0_goOnFrom 12 = .ok (.aload_n 0, 1) := by decide +kernel
theorem dX0_goOnFrom_13 : decode cX0_goOnFrom 13 = .ok (.getfield 39, 3) := by decide +kernel
theorem dX0_goOnFrom_16 : decode cX0_goOnFrom 16 = .ok (.iload_n 1, 1) := by decide +kernel
theorem dX0_goOnFrom_17 : decode cX0_goOnFrom 17 = .ok (.bipush 8, 2) := by decide +kernel
theorem dX0_goOnFrom_19 : decode cX0_goOnFrom 19 = .ok (.imul, 1) := by decide +kernel
theorem dX0_goOnFrom_20 : decode cX0_goOnFrom 20 = .ok (.iload_n 3, 1) := by decide +kernel
theorem dX0_goOnFrom_21 : decode cX0_goOnFrom 21 = .ok (.iadd, 1) := by decide +kernel
theorem dX0_goOnFrom_22 : decode cX0_goOnFrom 22 = .ok (.iaload, 1) := by decide +kernel
theorem dX0_goOnFrom_23 : decode cX0_goOnFrom 23 = .ok (.istore 4, 2) := by decide +kernel
theorem dX0_goOnFrom_25 : decode cX0_goOnFrom 25 = .ok (.iload 4, 2) := by decide +kernel
theorem dX0_goOnFrom_27 : decode cX0_goOnFrom 27 = .ok (.iconst (-1), 1) := by decide +kernel
theorem dX0_goOnFrom_28 : decode cX0_goOnFrom 28 = .ok (.if_icmp .ne 6, 3) := by decide +kernel
theorem dX0_goOnFrom_31 : decode cX0_goOnFrom 31 = .ok (.goto 86, 3) := by decide +kernel
theorem dX0_goOnFrom_34 : decode cX0_goOnFrom 34 = .ok (.iload 4, 2) := by decide +kernel
theorem dX0_goOnFrom_36 : decode cX0_goOnFrom 36 = .ok (.bipush 16, 2) := by decide +kernel
theorem dX0_goOnFrom_38 : decode cX0_goOnFrom 38 = .ok (.idiv, 1) := by decide +kernel
theorem dX0_goOnFrom_39 : decode cX0_goOnFrom 39 = .ok (.istore 5, 2) := by decide +kernel
theorem dX0_goOnFrom_41 : decode cX0_goOnFrom 41 = .ok (.iload_n 2, 1) := by decide +kernel
theorem dX0_goOnFrom_42 : decode cX0_goOnFrom 42 = .ok (.iload 4, 2) := by decide +kernel
theorem dX0_goOnFrom_44 : decode cX0_goOnFrom 44 = .ok (.bipush 16, 2) := by decide +kernel
theorem dX0_goOnFrom_46 : decode cX0_goOnFrom 46 = .ok (.irem, 1) := by decide +kernel
theorem dX0_goOnFrom_47 : decode cX0_goOnFrom 47 = .ok (.iadd, 1) := by decide +kernel
theorem dX0_goOnFrom_48 : decode cX0_goOnFrom 48 = .ok (.istore 6, 2) := by decide +kernel
theorem dX0_goOnFrom_50 : decode cX0_goOnFrom 50 = .ok (.aload_n 0, 1) := by decide +kernel
theorem dX0_goOnFrom_51 : decode cX0_goOnFrom 51 = .ok (.getfield 45, 3) := by decide +kernel
theorem dX0_goOnFrom_54 : decode cX0_goOnFrom 54 = .ok (.iload_n 1, 1) := by decide +kernel
theorem dX0_goOnFrom_55 : decode cX0_goOnFrom 55 = .ok (.iaload, 1) := by decide +kernel
theorem dX0_goOnFrom_56 : decode cX0_goOnFrom 56 = .ok (.iload_n 3, 1) := by decide +kernel
theorem dX0_goOnFrom_57 : decode cX0_goOnFrom 57 = .ok (.invokestatic 102, 3) := by decide +kernel
theorem dX0_goOnFrom_60 : decode cX0_goOnFrom 60 = .ok (.iadd, 1) := by decide +kernel
theorem dX0_goOnFrom_61 : decode cX0_goOnFrom 61 = .ok (.istore 7, 2) := by decide +kernel
theorem dX0_goOnFrom_63 : decode cX0_goOnFrom 63 = .ok (.iload 6, 2) := by decide +kernel
theorem dX0_goOnFrom_65 : decode cX0_goOnFrom 65 = .ok (.aload_n 0, 1) := by decide +kernel
theorem dX0_goOnFrom_66 : decode cX0_goOnFrom 66 = .ok (.getfield 42, 3) := by decide +kernel
theorem dX0_goOnFrom_69 : decode cX0_goOnFrom 69 = .ok (.iload 5, 2) := by decide +kernel
theorem dX0_goOnFrom_71 : decode cX0_goOnFrom 71 = .ok (.iaload, 1) := by decide +kernel
theorem dX0_goOnFrom_72 : decode cX0_goOnFrom 72 = .ok (.if_icmp .lt 27, 3) := by decide +kernel
theorem dX0_goOnFrom_75 : decode cX0_goOnFrom 75 = .ok (.iload 6, 2) := by decide +kernel
theorem dX0_goOnFrom_77 : decode cX0_goOnFrom 77 = .ok (.aload_n 0, 1) := by decide +kernel
theorem dX0_goOnFrom_78 : decode cX0_goOnFrom 78 = .ok (.getfield 42, 3) := by decide +kernel
theorem dX0_goOnFrom_81 : decode cX0_goOnFrom 81 = .ok (.iload 5, 2) := by decide +kernel
theorem dX0_goOnFrom_83 : decode cX0_goOnFrom 83 = .ok (.iaload, 1) := by decide +kernel
theorem dX0_goOnFrom_84 : decode cX0_goOnFrom 84 = .ok (.if_icmp .ne 33, 3) := by decide +kernel
theorem dX0_goOnFrom_87 : decode cX0_goOnFrom 87 = .ok (.iload 7, 2) := by decide +kernel
theorem dX0_goOnFrom_89 : decode cX0_goOnFrom 89 = .ok (.aload_n 0, 1) := by decide +kernel
theorem dX0_goOnFrom_90 : decode cX0_goOnFrom 90 = .ok (.getfield 45, 3) := by decide +kernel
theorem dX0_goOnFrom_93 : decode cX0_goOnFrom 93 = .ok (.iload 5, 2) := by decide +kernel
theorem dX0_goOnFrom_95 : decode cX0_goOnFrom 95 = .ok (.iaload, 1) := by decide +kernel
theorem dX0_goOnFrom_96 : decode cX0_goOnFrom 96 = .ok (.if_icmp .ge 21, 3) := by decide +kernel
theorem dX0_goOnFrom_99 : decode cX0_goOnFrom 99 = .ok (.aload_n 0, 1) := by decide +kernel
theorem dX0_goOnFrom_100 : decode cX0_goOnFrom 100 = .ok (.getfield 42, 3) := by decide +kernel
theorem dX0_goOnFrom_103 : decode cX0_goOnFrom 103 = .ok (.iload 5, 2) := by decide +kernel
theorem dX0_goOnFrom_105 : decode cX0_goOnFrom 105 = .ok (.iload 6, 2) := by decide +kernel
theorem dX0_goOnFrom_107 : decode cX0_goOnFrom 107 = .ok (.iastore, 1) := by decide +kernel
theorem dX0_goOnFrom_108 : decode cX0_goOnFrom 108 = .ok (.aload_n 0, 1) := by decide +kernel
theorem dX0_goOnFrom_109 : decode cX0_goOnFrom 109 = .ok (.getfield 45, 3) := by decide +kernel
theorem dX0_goOnFrom_112 : decode cX0_goOnFrom 112 = .ok (.iload 5, 2) := by decide +kernel
theorem dX0_goOnFrom_114 : decode cX0_goOnFrom 114 = .ok (.iload 7, 2) := by decide +kernel
theorem dX0_goOnFrom_116 : decode cX0_goOnFrom 116 = .ok (.iastore, 1) := by decide +kernel
theorem dX0_goOnFrom_117 : decode cX0_goOnFrom 117 = .ok (.iinc 3 1, 3) := by decide +kernel
theorem dX0_goOnFrom_120 : decode cX0_goOnFrom 120 = .ok (.goto (-118), 3) := by decide +kernel
theorem dX0_goOnFrom_123 : decode cX0_goOnFrom 123 = .ok (.return_, 1) := by decide +kernel
set_option maxRecDepth 20000 in
theorem ggX0_lookAhead_X0_fewestTurned : GoodIn wsX0_lookAhead wsX0_fewestTurned := goodIn_r _ [8, 9, 10, 11, 3, 12, 13, 14, 15, 16, 17, 18, 19, 20, 21, 22, 23, 24, 25, 26, 27, 28, 29, 30, 31, 32, 33, 34] (by decide +kernel) (by decide +kernel)
set_option maxRecDepth 20000 in
theorem gX0_lookAhead_X0_fewestTurned : GoodIn wsX0_lookAhead (wsV RX0 108 RX0 yX0_fewestTurned wsX0_fewestTurned) := goodIn_app (goodIn_of _ (by decide +kernel)) ggX0_lookAhead_X0_fewestTurned
theorem dX0_lookAhead_0 : decode cX0_lookAhead 0 = .ok (.iconst 0, 1) := by decide +kernel
theorem dX0_lookAhead_1 : decode cX0_lookAhead 1 = .ok (.istore_n 2, 1) := by decide +kernel
theorem dX0_lookAhead_2 : decode cX0_lookAhead 2 = .ok (.iload_n 2, 1) := by decide +kernel
theorem dX0_lookAhead_3 : decode cX0_lookAhead 3 = .ok (.aload_n 0, 1) := by decide +kernel
theorem dX0_lookAhead_4 : decode cX0_lookAhead 4 = .ok (.getfield 36, 3) := by decide +kernel
theorem dX0_lookAhead_7 : decode cX0_lookAhead 7 = .ok (.if_icmp .ge 53, 3) := by decide +kernel
theorem dX0_lookAhead_10 : decode cX0_lookAhead 10 = .ok (.iload_n 2, 1) := by decide +kernel
theorem dX0_lookAhead_11 : decode cX0_lookAhead 11 = .ok (.aload_n 0, 1) := by decide +kernel
theorem dX0_lookAhead_12 : decode cX0_lookAhead 12 = .ok (.getfield 29, 3) := by decide +kernel
theorem dX0_lookAhead_15 : decode cX0_lookAhead 15 = .ok (.arraylength, 1) := by decide +kernel
theorem dX0_lookAhead_16 : decode cX0_lookAhead 16 = .ok (.if_icmp .ge 44, 3) := by decide +kernel
theorem dX0_lookAhead_19 : decode cX0_lookAhead 19 = .ok (.aload_n 0, 1) := by decide +kernel
theorem dX0_lookAhead_20 : decode cX0_lookAhead 20 = .ok (.getfield 50, 3) := by decide +kernel
theorem dX0_lookAhead_23 : decode cX0_lookAhead 23 = .ok (.iload_n 1, 1) := by decide +kernel
theorem dX0_lookAhead_24 : decode cX0_lookAhead 24 = .ok (.bipush 13, 2) := by decide +kernel
theorem dX0_lookAhead_26 : decode cX0_lookAhead 26 = .ok (.irem, 1) := by decide +kernel
theorem dX0_lookAhead_27 : decode cX0_lookAhead 27 = .ok (.aaload, 1) := by decide +kernel
theorem dX0_lookAhead_28 : decode cX0_lookAhead 28 = .ok (.aload_n 0, 1) := by decide +kernel
theorem dX0_lookAhead_29 : decode cX0_lookAhead 29 = .ok (.getfield 29, 3) := by decide +kernel
theorem dX0_lookAhead_32 : decode cX0_lookAhead 32 = .ok (.iload_n 2, 1) := by decide +kernel
theorem dX0_lookAhead_33 : decode cX0_lookAhead 33 = .ok (.iaload, 1) := by decide +kernel
theorem dX0_lookAhead_34 : decode cX0_lookAhead 34 = .ok (.iload_n 1, 1) := by decide +kernel
theorem dX0_lookAhead_35 : decode cX0_lookAhead 35 = .ok (.ifCond .ne 7, 3) := by decide +kernel
theorem dX0_lookAhead_38 : decode cX0_lookAhead 38 = .ok (.iconst 0, 1) := by decide +kernel
theorem dX0_lookAhead_39 : decode cX0_lookAhead 39 = .ok (.goto 14, 3) := by decide +kernel
theorem dX0_lookAhead_42 : decode cX0_lookAhead 42 = .ok (.aload_n 0, 1) := by decide +kernel
theorem dX0_lookAhead_43 : decode cX0_lookAhead 43 = .ok (.aload_n 0, 1) := by decide +kernel
theorem dX0_lookAhead_44 : decode cX0_lookAhead 44 = .ok (.getfield 29, 3) := by decide +kernel
theorem dX0_lookAhead_47 : decode cX0_lookAhead 47 = .ok (.iload_n 2, 1) := by decide +kernel
theorem dX0_lookAhead_48 : decode cX0_lookAhead 48 = .ok (.iaload, 1) := by decide +kernel
theorem dX0_lookAhead_49 : decode cX0_lookAhead 49 = .ok (.iload_n 1, 1) := by decide +kernel
theorem dX0_lookAhead_50 : decode cX0_lookAhead 50 = .ok (.invokevirtual 108, 3) := by decide +kernel
theorem dX0_lookAhead_53 : decode cX0_lookAhead 53 = .ok (.iastore, 1) := by decide +kernel
theorem dX0_lookAhead_54 : decode cX0_lookAhead 54 = .ok (.iinc 2 1, 3) := by decide +kernel
theorem dX0_lookAhead_57 : decode cX0_lookAhead 57 = .ok (.goto (-55), 3) := by decide +kernel
theorem dX0_lookAhead_60 : decode cX0_lookAhead 60 = .ok (.return_, 1) := by decide +kernel
set_option maxRecDepth 20000 in
theorem ggX0_fewestTurned_J6_bitCount_0f7a4 : GoodIn wsX0_fewestTurned wsJ6_bitCount_0f7a4 := goodIn_r _ [12, 13, 14, 15] (by decide +kernel) (by decide +kernel)
set_option maxRecDepth 20000 in
theorem gX0_fewestTurned_J6_bitCount_0f7a4 : GoodIn wsX0_fewestTurned (va_wsS RX0 102 yJ6_bitCount_0f7a4 wsJ6_bitCount_0f7a4) := goodIn_app (goodIn_of _ (by decide +kernel)) ggX0_fewestTurned_J6_bitCount_0f7a4
theorem dX0_fewestTurned_0 : decode cX0_fewestTurned 0 = .ok (.ldc 79, 2) := by decide +kernel
theorem dX0_fewestTurned_2 : decode cX0_fewestTurned 2 = .ok (.istore_n 3, 1) := by decide +kernel
theorem dX0_fewestTurned_3 : decode cX0_fewestTurned 3 = .ok (.iconst 0, 1) := by decide +kernel
theorem dX0_fewestTurned_4 : decode cX0_fewestTurned 4 = .ok (.istore 4, 2) := by decide +kernel
theorem dX0_fewestTurned_6 : decode cX0_fewestTurned 6 = .ok (.iload 4, 2) := by decide +kernel
theorem dX0_fewestTurned_8 : decode cX0_fewestTurned 8 = .ok (.iconst 1, 1) := by decide +kernel
theorem dX0_fewestTurned_9 : decode cX0_fewestTurned 9 = .ok (.aload_n 0, 1) := by decide +kernel
theorem dX0_fewestTurned_10 : decode cX0_fewestTurned 10 = .ok (.getfield 9, 3) := by decide +kernel
theorem dX0_fewestTurned_13 : decode cX0_fewestTurned 13 = .ok (.ishl, 1) := by decide +kernel
theorem dX0_fewestTurned_14 : decode cX0_fewestTurned 14 = .ok (.if_icmp .ge 84, 3) := by decide +kernel
theorem dX0_fewestTurned_17 : decode cX0_fewestTurned 17 = .ok (.aload_n 0, 1) := by decide +kernel
theorem dX0_fewestTurned_18 : decode cX0_fewestTurned 18 = .ok (.getfield 39, 3) := by decide +kernel
theorem dX0_fewestTurned_21 : decode cX0_fewestTurned 21 = .ok (.iload_n 1, 1) := by decide +kernel
theorem dX0_fewestTurned_22 : decode cX0_fewestTurned 22 = .ok (.bipush 8, 2) := by decide +kernel
theorem dX0_fewestTurned_24 : decode cX0_fewestTurned 24 = .ok (.imul, 1) := by decide +kernel
theorem dX0_fewestTurned_25 : decode cX0_fewestTurned 25 = .ok (.iload 4, 2) := by decide +kernel
theorem dX0_fewestTurned_27 : decode cX0_fewestTurned 27 = .ok (.iadd, 1) := by decide +kernel
theorem dX0_fewestTurned_28 : decode cX0_fewestTurned 28 = .ok (.iaload, 1) := by decide +kernel
theorem dX0_fewestTurned_29 : decode cX0_fewestTurned 29 = .ok (.istore 5, 2) := by decide +kernel
theorem dX0_fewestTurned_31 : decode cX0_fewestTurned 31 = .ok (.iload 5, 2) := by decide +kernel
theorem dX0_fewestTurned_33 : decode cX0_fewestTurned 33 = .ok (.iconst (-1), 1) := by decide +kernel
theorem dX0_fewestTurned_34 : decode cX0_fewestTurned 34 = .ok (.if_icmp .eq 58, 3) := by decide +kernel
theorem dX0_fewestTurned_37 : decode cX0_fewestTurned 37 = .ok (.iload 5, 2) := by decide +kernel
theorem dX0_fewestTurned_39 : decode cX0_fewestTurned 39 = .ok (.bipush 16, 2) := by decide +kernel
theorem dX0_fewestTurned_41 : decode cX0_fewestTurned 41 = .ok (.irem, 1) := by decide +kernel
theorem dX0_fewestTurned_42 : decode cX0_fewestTurned 42 = .ok (.iload_n 2, 1) := by decide +kernel
theorem dX0_fewestTurned_43 : decode cX0_fewestTurned 43 = .ok (.if_icmp .le 6, 3) := by decide +kernel
theorem dX0_fewestTurned_46 : decode cX0_fewestTurned 46 = .ok (.goto 46, 3) := by decide +kernel
theorem dX0_fewestTurned_49 : decode cX0_fewestTurned 49 = .ok (.aload_n 0, 1) := by decide +kernel
theorem dX0_fewestTurned_50 : decode cX0_fewestTurned 50 = .ok (.getfield 50, 3) := by decide +kernel
theorem dX0_fewestTurned_53 : decode cX0_fewestTurned 53 = .ok (.iload_n 2, 1) := by decide +kernel
theorem dX0_fewestTurned_54 : decode cX0_fewestTurned 54 = .ok (.iload 5, 2) := by decide +kernel
theorem dX0_fewestTurned_56 : decode cX0_fewestTurned 56 = .ok (.bipush 16, 2) := by decide +kernel
theorem dX0_fewestTurned_58 : decode cX0_fewestTurned 58 = .ok (.irem, 1) := by decide +kernel
theorem dX0_fewestTurned_59 : decode cX0_fewestTurned 59 = .ok (.isub, 1) := by decide +kernel
theorem dX0_fewestTurned_60 : decode cX0_fewestTurned 60 = .ok (.bipush 13, 2) := by decide +kernel
theorem dX0_fewestTurned_62 : decode cX0_fewestTurned 62 = .ok (.irem, 1) := by decide +kernel
theorem dX0_fewestTurned_63 : decode cX0_fewestTurned 63 = .ok (.aaload, 1) := by decide +kernel
theorem dX0_fewestTurned_64 : decode cX0_fewestTurned 64 = .ok (.iload 5, 2) := by decide +kernel
theorem dX0_fewestTurned_66 : decode cX0_fewestTurned 66 = .ok (.bipush 16, 2) := by decide +kernel
theorem dX0_fewestTurned_68 : decode cX0_fewestTurned 68 = .ok (.idiv, 1) := by decide +kernel
theorem dX0_fewestTurned_69 : decode cX0_fewestTurned 69 = .ok (.iaload, 1) := by decide +kernel
theorem dX0_fewestTurned_70 : decode cX0_fewestTurned 70 = .ok (.istore 6, 2) := by decide +kernel
theorem dX0_fewestTurned_72 : decode cX0_fewestTurned 72 = .ok (.iload 6, 2) := by decide +kernel
theorem dX0_fewestTurned_74 : decode cX0_fewestTurned 74 = .ok (.ldc 79, 2) := by decide +kernel
theorem dX0_fewestTurned_76 : decode cX0_fewestTurned 76 = .ok (.if_icmp .ge 16, 3) := by decide +kernel
theorem dX0_fewestTurned_79 : decode cX0_fewestTurned 79 = .ok (.iload_n 3, 1) := by decide +kernel
theorem dX0_fewestTurned_80 : decode cX0_fewestTurned 80 = .ok (.iload 6, 2) := by decide +kernel
theorem dX0_fewestTurned_82 : decode cX0_fewestTurned 82 = .ok (.iload 4, 2) := by decide +kernel
theorem dX0_fewestTurned_84 : decode cX0_fewestTurned 84 = .ok (.invokestatic 102, 3) := by decide +kernel
theorem dX0_fewestTurned_87 : decode cX0_fewestTurned 87 = .ok (.iadd, 1) := by decide +kernel
theorem dX0_fewestTurned_88 : decode cX0_fewestTurned 88 = .ok (.invokestatic 111, 3) := by decide +kernel
theorem dX0_fewestTurned_91 : decode cX0_fewestTurned 91 = .ok (.istore_n 3, 1) := by decide +kernel
theorem dX0_fewestTurned_92 : decode cX0_fewestTurned 92 = .ok (.iinc 4 1, 3) := by decide +kernel
theorem dX0_fewestTurned_95 : decode cX0_fewestTurned 95 = .ok (.goto (-89), 3) := by decide +kernel
theorem dX0_fewestTurned_98 : decode cX0_fewestTurned 98 = .ok (.iload_n 3, 1) := by decide +kernel
theorem dX0_fewestTurned_99 : decode cX0_fewestTurned 99 = .ok (.ireturn, 1) := by decide +kernel
theorem dX0_answer_0 : decode cX0_answer 0 = .ok (.ldc 79, 2) := by decide +kernel
theorem dX0_answer_2 : decode cX0_answer 2 = .ok (.istore_n 2, 1) := by decide +kernel
theorem dX0_answer_3 : decode cX0_answer 3 = .ok (.ldc 79, 2) := by decide +kernel
theorem dX0_answer_5 : decode cX0_answer 5 = .ok (.istore_n 3, 1) := by decide +kernel
theorem dX0_answer_6 : decode cX0_answer 6 = .ok (.iconst 0, 1) := by decide +kernel
theorem dX0_answer_7 : decode cX0_answer 7 = .ok (.istore 4, 2) := by decide +kernel
theorem dX0_answer_9 : decode cX0_answer 9 = .ok (.iload 4, 2) := by decide +kernel
theorem dX0_answer_11 : decode cX0_answer 11 = .ok (.aload_n 0, 1) := by decide +kernel
theorem dX0_answer_12 : decode cX0_answer 12 = .ok (.getfield 36, 3) := by decide +kernel
theorem dX0_answer_15 : decode cX0_answer 15 = .ok (.if_icmp .ge 112, 3) := by decide +kernel
theorem dX0_answer_18 : decode cX0_answer 18 = .ok (.iload 4, 2) := by decide +kernel
theorem dX0_answer_20 : decode cX0_answer 20 = .ok (.aload_n 0, 1) := by decide +kernel
theorem dX0_answer_21 : decode cX0_answer 21 = .ok (.getfield 29, 3) := by decide +kernel
theorem dX0_answer_24 : decode cX0_answer 24 = .ok (.arraylength, 1) := by decide +kernel
theorem dX0_answer_25 : decode cX0_answer 25 = .ok (.if_icmp .ge 102, 3) := by decide +kernel
theorem dX0_answer_28 : decode cX0_answer 28 = .ok (.aload_n 0, 1) := by decide +kernel
theorem dX0_answer_29 : decode cX0_answer 29 = .ok (.getfield 29, 3) := by decide +kernel
theorem dX0_answer_32 : decode cX0_answer 32 = .ok (.iload 4, 2) := by decide +kernel
theorem dX0_answer_34 : decode cX0_answer 34 = .ok (.iaload, 1) := by decide +kernel
theorem dX0_answer_35 : decode cX0_answer 35 = .ok (.istore 5, 2) := by decide +kernel
theorem dX0_answer_37 : decode cX0_answer 37 = .ok (.aload_n 0, 1) := by decide +kernel
theorem dX0_answer_38 : decode cX0_answer 38 = .ok (.getfield 50, 3) := by decide +kernel
theorem dX0_answer_41 : decode cX0_answer 41 = .ok (.iload_n 1, 1) := by decide +kernel
theorem dX0_answer_42 : decode cX0_answer 42 = .ok (.bipush 13, 2) := by decide +kernel
theorem dX0_answer_44 : decode cX0_answer 44 = .ok (.irem, 1) := by decide +kernel
theorem dX0_answer_45 : decode cX0_answer 45 = .ok (.aaload, 1) := by decide +kernel
theorem dX0_answer_46 : decode cX0_answer 46 = .ok (.iload 5, 2) := by decide +kernel
theorem dX0_answer_48 : decode cX0_answer 48 = .ok (.iaload, 1) := by decide +kernel
theorem dX0_answer_49 : decode cX0_answer 49 = .ok (.istore 6, 2) := by decide +kernel
theorem dX0_answer_51 : decode cX0_answer 51 = .ok (.iload 6, 2) := by decide +kernel
theorem dX0_answer_53 : decode cX0_answer 53 = .ok (.ldc 79, 2) := by decide +kernel
theorem dX0_answer_55 : decode cX0_answer 55 = .ok (.if_icmp .eq 66, 3) := by decide +kernel
theorem dX0_answer_58 : decode cX0_answer 58 = .ok (.aload_n 0, 1) := by decide +kernel
theorem dX0_answer_59 : decode cX0_answer 59 = .ok (.getfield 42, 3) := by decide +kernel
theorem dX0_answer_62 : decode cX0_answer 62 = .ok (.iload 5, 2) := by decide +kernel
theorem dX0_answer_64 : decode cX0_answer 64 = .ok (.iaload, 1) := by decide +kernel
theorem dX0_answer_65 : decode cX0_answer 65 = .ok (.bipush 60, 2) := by decide +kernel
theorem dX0_answer_67 : decode cX0_answer 67 = .ok (.if_icmp .gt 54, 3) := by decide +kernel
theorem dX0_answer_70 : decode cX0_answer 70 = .ok (.aload_n 0, 1) := by decide +kernel
theorem dX0_answer_71 : decode cX0_answer 71 = .ok (.getfield 42, 3) := by decide +kernel
theorem dX0_answer_74 : decode cX0_answer 74 = .ok (.iload 5, 2) := by decide +kernel
theorem dX0_answer_76 : decode cX0_answer 76 = .ok (.iaload, 1) := by decide +kernel
theorem dX0_answer_77 : decode cX0_answer 77 = .ok (.iload_n 2, 1) := by decide +kernel
theorem dX0_answer_78 : decode cX0_answer 78 = .ok (.if_icmp .le 6, 3) := by decide +kernel
theorem dX0_answer_81 : decode cX0_answer 81 = .ok (.goto 40, 3) := by decide +kernel
theorem dX0_answer_84 : decode cX0_answer 84 = .ok (.aload_n 0, 1) := by decide +kernel
theorem dX0_answer_85 : decode cX0_answer 85 = .ok (.getfield 42, 3) := by decide +kernel
theorem dX0_answer_88 : decode cX0_answer 88 = .ok (.iload 5, 2) := by decide +kernel
theorem dX0_answer_90 : decode cX0_answer 90 = .ok (.iaload, 1) := by decide +kernel
theorem dX0_answer_91 : decode cX0_answer 91 = .ok (.iload_n 2, 1) := by decide +kernel
theorem dX0_answer_92 : decode cX0_answer 92 = .ok (.if_icmp .ge 14, 3) := by decide +kernel
theorem dX0_answer_95 : decode cX0_answer 95 = .ok (.aload_n 0, 1) := by decide +kernel
theorem dX0_answer_96 : decode cX0_answer 96 = .ok (.getfield 42, 3) := by decide +kernel
theorem dX0_answer_99 : decode cX0_answer 99 = .ok (.iload 5, 2) := by decide +kernel
theorem dX0_answer_101 : decode cX0_answer 101 = .ok (.iaload, 1) := by decide +kernel
theorem dX0_answer_102 : decode cX0_answer 102 = .ok (.istore_n 2, 1) := by decide +kernel
theorem dX0_answer_103 : decode cX0_answer 103 = .ok (.ldc 79, 2) := by decide +kernel
theorem dX0_answer_105 : decode cX0_answer 105 = .ok (.istore_n 3, 1) := by decide +kernel
theorem dX0_answer_106 : decode cX0_answer 106 = .ok (.iload_n 3, 1) := by decide +kernel
theorem dX0_answer_107 : decode cX0_answer 107 = .ok (.aload_n 0, 1) := by decide +kernel
theorem dX0_answer_108 : decode cX0_answer 108 = .ok (.getfield 45, 3) := by decide +kernel
theorem dX0_answer_111 : decode cX0_answer 111 = .ok (.iload 5, 2) := by decide +kernel
theorem dX0_answer_113 : decode cX0_answer 113 = .ok (.iaload, 1) := by decide +kernel
theorem dX0_answer_114 : decode cX0_answer 114 = .ok (.iload 6, 2) := by decide +kernel
theorem dX0_answer_116 : decode cX0_answer 116 = .ok (.iadd, 1) := by decide +kernel
theorem dX0_answer_117 : decode cX0_answer 117 = .ok (.invokestatic 111, 3) := by decide +kernel
theorem dX0_answer_120 : decode cX0_answer 120 = .ok (.istore_n 3, 1) := by decide +kernel
theorem dX0_answer_121 : decode cX0_answer 121 = .ok (.iinc 4 1, 3) := by decide +kernel
theorem dX0_answer_124 : decode cX0_answer 124 = .ok (.goto (-115), 3) := by decide +kernel
theorem dX0_answer_127 : decode cX0_answer 127 = .ok (.aload_n 0, 1) := by decide +kernel
theorem dX0_answer_128 : decode cX0_answer 128 = .ok (.getfield 19, 3) := by decide +kernel
theorem dX0_answer_131 : decode cX0_answer 131 = .ok (.iload_n 1, 1) := by decide +kernel
theorem dX0_answer_132 : decode cX0_answer 132 = .ok (.iload_n 2, 1) := by decide +kernel
theorem dX0_answer_133 : decode cX0_answer 133 = .ok (.ldc 79, 2) := by decide +kernel
theorem dX0_answer_135 : decode cX0_answer 135 = .ok (.if_icmp .ne 7, 3) := by decide +kernel
theorem dX0_answer_138 : decode cX0_answer 138 = .ok (.iconst (-1), 1) := by decide +kernel
theorem dX0_answer_139 : decode cX0_answer 139 = .ok (.goto 4, 3) := by decide +kernel
theorem dX0_answer_142 : decode cX0_answer 142 = .ok (.iload_n 2, 1) := by decide +kernel
theorem dX0_answer_143 : decode cX0_answer 143 = .ok (.iastore, 1) := by decide +kernel
theorem dX0_answer_144 : decode cX0_answer 144 = .ok (.aload_n 0, 1) := by decide +kernel
theorem dX0_answer_145 : decode cX0_answer 145 = .ok (.getfield 22, 3) := by decide +kernel
theorem dX0_answer_148 : decode cX0_answer 148 = .ok (.iload_n 1, 1) := by decide +kernel
theorem dX0_answer_149 : decode cX0_answer 149 = .ok (.iload_n 2, 1) := by decide +kernel
theorem dX0_answer_150 : decode cX0_answer 150 = .ok (.ldc 79, 2) := by decide +kernel
theorem dX0_answer_152 : decode cX0_answer 152 = .ok (.if_icmp .ne 7, 3) := by decide +kernel
theorem dX0_answer_155 : decode cX0_answer 155 = .ok (.iconst (-1), 1) := by decide +kernel
theorem dX0_answer_156 : decode cX0_answer 156 = .ok (.goto 4, 3) := by decide +kernel
theorem dX0_answer_159 : decode cX0_answer 159 = .ok (.iload_n 3, 1) := by decide +kernel
theorem dX0_answer_160 : decode cX0_answer 160 = .ok (.iastore, 1) := by decide +kernel
theorem dX0_answer_161 : decode cX0_answer 161 = .ok (.return_, 1) := by decide +kernel
theorem dX1_init_0 : decode cX1_init 0 = .ok (.aload_n 0, 1) := by decide +kernel
theorem dX1_init_1 : decode cX1_init 1 = .ok (.invokespecial 3, 3) := by decide +kernel
theorem dX1_init_4 : decode cX1_init 4 = .ok (.aload_n 0, 1) := by decide +kernel
theorem dX1_init_5 : decode cX1_init 5 = .ok (.iconst 0, 1) := by decide +kernel
theorem dX1_init_6 : decode cX1_init 6 = .ok (.putfield 9, 3) := by decide +kernel
theorem dX1_init_9 : decode cX1_init 9 = .ok (.aload_n 0, 1) := by decide +kernel
theorem dX1_init_10 : decode cX1_init 10 = .ok (.iconst 1, 1) := by decide +kernel
theorem dX1_init_11 : decode cX1_init 11 = .ok (.putfield 15, 3) := by decide +kernel
theorem dX1_init_14 : decode cX1_init 14 = .ok (.aload_n 0, 1) := by decide +kernel
theorem dX1_init_15 : decode cX1_init 15 = .ok (.iconst 1, 1) := by decide +kernel
theorem dX1_init_16 : decode cX1_init 16 = .ok (.putfield 18, 3) := by decide +kernel
theorem dX1_init_19 : decode cX1_init 19 = .ok (.aload_n 0, 1) := by decide +kernel
theorem dX1_init_20 : decode cX1_init 20 = .ok (.iconst 1, 1) := by decide +kernel
theorem dX1_init_21 : decode cX1_init 21 = .ok (.putfield 22, 3) := by decide +kernel
theorem dX1_init_24 : decode cX1_init 24 = .ok (.aload_n 0, 1) := by decide +kernel
theorem dX1_init_25 : decode cX1_init 25 = .ok (.iconst 4, 1) := by decide +kernel
theorem dX1_init_26 : decode cX1_init 26 = .ok (.newarray .int, 2) := by decide +kernel
theorem dX1_init_28 : decode cX1_init 28 = .ok (.putfield 25, 3) := by decide +kernel
theorem dX1_init_31 : decode cX1_init 31 = .ok (.aload_n 0, 1) := by decide +kernel
theorem dX1_init_32 : decode cX1_init 32 = .ok (.iconst 4, 1) := by decide +kernel
theorem dX1_init_33 : decode cX1_init 33 = .ok (.newarray .int, 2) := by decide +kernel
theorem dX1_init_35 : decode cX1_init 35 = .ok (.putfield 29, 3) := by decide +kernel
theorem dX1_init_38 : decode cX1_init 38 = .ok (.aload_n 0, 1) := by decide +kernel
theorem dX1_init_39 : decode cX1_init 39 = .ok (.iconst 4, 1) := by decide +kernel
theorem dX1_init_40 : decode cX1_init 40 = .ok (.newarray .int, 2) := by decide +kernel
theorem dX1_init_42 : decode cX1_init 42 = .ok (.putfield 32, 3) := by decide +kernel
theorem dX1_init_45 : decode cX1_init 45 = .ok (.return_, 1) := by decide +kernel
theorem dX1_has_0 : decode cX1_has 0 = .ok (.iload_n 1, 1) := by decide +kernel
theorem dX1_has_1 : decode cX1_has 1 = .ok (.ifCond .lt 20, 3) := by decide +kernel
theorem dX1_has_4 : decode cX1_has 4 = .ok (.iload_n 1, 1) := by decide +kernel
theorem dX1_has_5 : decode cX1_has 5 = .ok (.aload_n 0, 1) := by decide +kernel
theorem dX1_has_6 : decode cX1_has 6 = .ok (.getfield 9, 3) := by decide +kernel
theorem dX1_has_9 : decode cX1_has 9 = .ok (.if_icmp .ge 12, 3) := by decide +kernel
theorem dX1_has_12 : decode cX1_has 12 = .ok (.iload_n 1, 1) := by decide +kernel
theorem dX1_has_13 : decode cX1_has 13 = .ok (.iconst 4, 1) := by decide +kernel
theorem dX1_has_14 : decode cX1_has 14 = .ok (.if_icmp .ge 7, 3) := by decide +kernel
theorem dX1_has_17 : decode cX1_has 17 = .ok (.iconst 1, 1) := by decide +kernel
theorem dX1_has_18 : decode cX1_has 18 = .ok (.goto 4, 3) := by decide +kernel
theorem dX1_has_21 : decode cX1_has 21 = .ok (.iconst 0, 1) := by decide +kernel
theorem dX1_has_22 : decode cX1_has 22 = .ok (.ireturn, 1) := by decide +kernel
theorem dX1_add_0 : decode cX1_add 0 = .ok (.aload_n 0, 1) := by decide +kernel
theorem dX1_add_1 : decode cX1_add 1 = .ok (.getfield 9, 3) := by decide +kernel
theorem dX1_add_4 : decode cX1_add 4 = .ok (.iconst 4, 1) := by decide +kernel
theorem dX1_add_5 : decode cX1_add 5 = .ok (.if_icmp .lt 6, 3) := by decide +kernel
theorem dX1_add_8 : decode cX1_add 8 = .ok (.bipush (-4), 2) := by decide +kernel
theorem dX1_add_10 : decode cX1_add 10 = .ok (.ireturn, 1) := by decide +kernel
theorem dX1_add_11 : decode cX1_add 11 = .ok (.aload_n 0, 1) := by decide +kernel
theorem dX1_add_12 : decode cX1_add 12 = .ok (.getfield 25, 3) := by decide +kernel
theorem dX1_add_15 : decode cX1_add 15 = .ok (.aload_n 0, 1) := by decide +kernel
theorem dX1_add_16 : decode cX1_add 16 = .ok (.getfield 9, 3) := by decide +kernel
theorem dX1_add_19 : decode cX1_add 19 = .ok (.iload_n 1, 1) := by decide +kernel
theorem dX1_add_20 : decode cX1_add 20 = .ok (.iastore, 1) := by decide +kernel
theorem dX1_add_21 : decode cX1_add 21 = .ok (.aload_n 0, 1) := by decide +kernel
theorem dX1_add_22 : decode cX1_add 22 = .ok (.getfield 29, 3) := by decide +kernel
theorem dX1_add_25 : decode cX1_add 25 = .ok (.aload_n 0, 1) := by decide +kernel
theorem dX1_add_26 : decode cX1_add 26 = .ok (.getfield 9, 3) := by decide +kernel
theorem dX1_add_29 : decode cX1_add 29 = .ok (.iload_n 2, 1) := by decide +kernel
theorem dX1_add_30 : decode cX1_add 30 = .ok (.iastore, 1) := by decide +kernel
theorem dX1_add_31 : decode cX1_add 31 = .ok (.aload_n 0, 1) := by decide +kernel
theorem dX1_add_32 : decode cX1_add 32 = .ok (.getfield 32, 3) := by decide +kernel
theorem dX1_add_35 : decode cX1_add 35 = .ok (.aload_n 0, 1) := by decide +kernel
theorem dX1_add_36 : decode cX1_add 36 = .ok (.getfield 9, 3) := by decide +kernel
theorem dX1_add_39 : decode cX1_add 39 = .ok (.aload_n 0, 1) := by decide +kernel
theorem dX1_add_40 : decode cX1_add 40 = .ok (.getfield 15, 3) := by decide +kernel
theorem dX1_add_43 : decode cX1_add 43 = .ok (.iastore, 1) := by decide +kernel
theorem dX1_add_44 : decode cX1_add 44 = .ok (.aload_n 0, 1) := by decide +kernel
theorem dX1_add_45 : decode cX1_add 45 = .ok (.dup, 1) := by decide +kernel
theorem dX1_add_46 : decode cX1_add 46 = .ok (.getfield 15, 3) := by decide +kernel
theorem dX1_add_49 : decode cX1_add 49 = .ok (.iload_n 1, 1) := by decide +kernel
theorem dX1_add_50 : decode cX1_add 50 = .ok (.iconst 1, 1) := by decide +kernel
theorem dX1_add_51 : decode cX1_add 51 = .ok (.iadd, 1) := by decide +kernel
theorem dX1_add_52 : decode cX1_add 52 = .ok (.imul, 1) := by decide +kernel
theorem dX1_add_53 : decode cX1_add 53 = .ok (.putfield 15, 3) := by decide +kernel
theorem dX1_add_56 : decode cX1_add 56 = .ok (.aload_n 0, 1) := by decide +kernel
theorem dX1_add_57 : decode cX1_add 57 = .ok (.dup, 1) := by decide +kernel
theorem dX1_add_58 : decode cX1_add 58 = .ok (.getfield 9, 3) := by decide +kernel
theorem dX1_add_61 : decode cX1_add 61 = .ok (.iconst 1, 1) := by decide +kernel
theorem dX1_add_62 : decode cX1_add 62 = .ok (.iadd, 1) := by decide +kernel
theorem dX1_add_63 : decode cX1_add 63 = .ok (.putfield 9, 3) := by decide +kernel
theorem dX1_add_66 : decode cX1_add 66 = .ok (.aload_n 0, 1) := by decide +kernel
theorem dX1_add_67 : decode cX1_add 67 = .ok (.getfield 9, 3) := by decide +kernel
theorem dX1_add_70 : decode cX1_add 70 = .ok (.iconst 1, 1) := by decide +kernel
theorem dX1_add_71 : decode cX1_add 71 = .ok (.isub, 1) := by decide +kernel
theorem dX1_add_72 : decode cX1_add 72 = .ok (.ireturn, 1) := by decide +kernel
theorem dX1_removeAll_0 : decode cX1_removeAll 0 = .ok (.aload_n 0, 1) := by decide +kernel
theorem dX1_removeAll_1 : decode cX1_removeAll 1 = .ok (.getfield 9, 3) := by decide +kernel
theorem dX1_removeAll_4 : decode cX1_removeAll 4 = .ok (.istore_n 1, 1) := by decide +kernel
theorem dX1_removeAll_5 : decode cX1_removeAll 5 = .ok (.aload_n 0, 1) := by decide +kernel
theorem dX1_removeAll_6 : decode cX1_removeAll 6 = .ok (.iconst 0, 1) := by decide +kernel
theorem dX1_removeAll_7 : decode cX1_removeAll 7 = .ok (.putfield 9, 3) := by decide +kernel
theorem dX1_removeAll_10 : decode cX1_removeAll 10 = .ok (.aload_n 0, 1) := by decide +kernel
theorem dX1_removeAll_11 : decode cX1_removeAll 11 = .ok (.iconst 1, 1) := by decide +kernel
theorem dX1_removeAll_12 : decode cX1_removeAll 12 = .ok (.putfield 15, 3) := by decide +kernel
theorem dX1_removeAll_15 : decode cX1_removeAll 15 = .ok (.iload_n 1, 1) := by decide +kernel
theorem dX1_removeAll_16 : decode cX1_removeAll 16 = .ok (.ireturn, 1) := by decide +kernel
theorem dX1_liken_0 : decode cX1_liken 0 = .ok (.aload_n 0, 1) := by decide +kernel
theorem dX1_liken_1 : decode cX1_liken 1 = .ok (.aload_n 1, 1) := by decide +kernel
theorem dX1_liken_2 : decode cX1_liken 2 = .ok (.getfield 9, 3) := by decide +kernel
theorem dX1_liken_5 : decode cX1_liken 5 = .ok (.putfield 9, 3) := by decide +kernel
theorem dX1_liken_8 : decode cX1_liken 8 = .ok (.aload_n 0, 1) := by decide +kernel
theorem dX1_liken_9 : decode cX1_liken 9 = .ok (.aload_n 1, 1) := by decide +kernel
theorem dX1_liken_10 : decode cX1_liken 10 = .ok (.getfield 15, 3) := by decide +kernel
theorem dX1_liken_13 : decode cX1_liken 13 = .ok (.putfield 15, 3) := by decide +kernel
theorem dX1_liken_16 : decode cX1_liken 16 = .ok (.aload_n 0, 1) := by decide +kernel
theorem dX1_liken_17 : decode cX1_liken 17 = .ok (.aload_n 1, 1) := by decide +kernel
theorem dX1_liken_18 : decode cX1_liken 18 = .ok (.getfield 18, 3) := by decide +kernel
theorem dX1_liken_21 : decode cX1_liken 21 = .ok (.putfield 18, 3) := by decide +kernel
theorem dX1_liken_24 : decode cX1_liken 24 = .ok (.aload_n 0, 1) := by decide +kernel
theorem dX1_liken_25 : decode cX1_liken 25 = .ok (.aload_n 1, 1) := by decide +kernel
theorem dX1_liken_26 : decode cX1_liken 26 = .ok (.getfield 22, 3) := by decide +kernel
theorem dX1_liken_29 : decode cX1_liken 29 = .ok (.putfield 22, 3) := by decide +kernel
theorem dX1_liken_32 : decode cX1_liken 32 = .ok (.iconst 0, 1) := by decide +kernel
theorem dX1_liken_33 : decode cX1_liken 33 = .ok (.istore_n 2, 1) := by decide +kernel
theorem dX1_liken_34 : decode cX1_liken 34 = .ok (.iload_n 2, 1) := by decide +kernel
theorem dX1_liken_35 : decode cX1_liken 35 = .ok (.iconst 4, 1) := by decide +kernel
theorem dX1_liken_36 : decode cX1_liken 36 = .ok (.if_icmp .ge 45, 3) := by decide +kernel
theorem dX1_liken_39 : decode cX1_liken 39 = .ok (.aload_n 0, 1) := by decide +kernel
theorem dX1_liken_40 : decode cX1_liken 40 = .ok (.getfield 25, 3) := by decide +kernel
theorem dX1_liken_43 : decode cX1_liken 43 = .ok (.iload_n 2, 1) := by decide +kernel
theorem dX1_liken_44 : decode cX1_liken 44 = .ok (.aload_n 1, 1) := by decide +kernel
theorem dX1_liken_45 : decode cX1_liken 45 = .ok (.getfield 25, 3) := by decide +kernel
theorem dX1_liken_48 : decode cX1_liken 48 = .ok (.iload_n 2, 1) := by decide +kernel
theorem dX1_liken_49 : decode cX1_liken 49 = .ok (.iaload, 1) := by decide +kernel
theorem dX1_liken_50 : decode cX1_liken 50 = .ok (.iastore, 1) := by decide +kernel
theorem dX1_liken_51 : decode cX1_liken 51 = .ok (.aload_n 0, 1) := by decide +kernel
theorem dX1_liken_52 : decode cX1_liken 52 = .ok (.getfield 29, 3) := by decide +kernel
theorem dX1_liken_55 : decode cX1_liken 55 = .ok (.iload_n 2, 1) := by decide +kernel
theorem dX1_liken_56 : decode cX1_liken 56 = .ok (.aload_n 1, 1) := by decide +kernel
theorem dX1_liken_57 : decode cX1_liken 57 = .ok (.getfield 29, 3) := by decide +kernel
theorem dX1_liken_60 : decode cX1_liken 60 = .ok (.iload_n 2, 1) := by decide +kernel
theorem dX1_liken_61 : decode cX1_liken 61 = .ok (.iaload, 1) := by decide +kernel
theorem dX1_liken_62 : decode cX1_liken 62 = .ok (.iastore, 1) := by decide +kernel
theorem dX1_liken_63 : decode cX1_liken 63 = .ok (.aload_n 0, 1) := by decide +kernel
theorem dX1_liken_64 : decode cX1_liken 64 = .ok (.getfield 32, 3) := by decide +kernel
theorem dX1_liken_67 : decode cX1_liken 67 = .ok (.iload_n 2, 1) := by decide +kernel
theorem dX1_liken_68 : decode cX1_liken 68 = .ok (.aload_n 1, 1) := by decide +kernel
theorem dX1_liken_69 : decode cX1_liken 69 = .ok (.getfield 32, 3) := by decide +kernel
theorem dX1_liken_72 : decode cX1_liken 72 = .ok (.iload_n 2, 1) := by decide +kernel
theorem dX1_liken_73 : decode cX1_liken 73 = .ok (.iaload, 1) := by decide +kernel
theorem dX1_liken_74 : decode cX1_liken 74 = .ok (.iastore, 1) := by decide +kernel
theorem dX1_liken_75 : decode cX1_liken 75 = .ok (.iinc 2 1, 3) := by decide +kernel
theorem dX1_liken_78 : decode cX1_liken 78 = .ok (.goto (-44), 3) := by decide +kernel
theorem dX1_liken_81 : decode cX1_liken 81 = .ok (.return_, 1) := by decide +kernel
theorem dX1_haveAct_0 : decode cX1_haveAct 0 = .ok (.iload_n 1, 1) := by decide +kernel
theorem dX1_haveAct_1 : decode cX1_haveAct 1 = .ok (.ifCond .lt 50, 3) := by decide +kernel
theorem dX1_haveAct_4 : decode cX1_haveAct 4 = .ok (.iload_n 1, 1) := by decide +kernel
theorem dX1_haveAct_5 : decode cX1_haveAct 5 = .ok (.bipush 24, 2) := by decide +kernel
theorem dX1_haveAct_7 : decode cX1_haveAct 7 = .ok (.if_icmp .ge 44, 3) := by decide +kernel
theorem dX1_haveAct_10 : decode cX1_haveAct 10 = .ok (.getstatic 35, 3) := by decide +kernel
theorem dX1_haveAct_13 : decode cX1_haveAct 13 = .ok (.iload_n 1, 1) := by decide +kernel
theorem dX1_haveAct_14 : decode cX1_haveAct 14 = .ok (.iaload, 1) := by decide +kernel
theorem dX1_haveAct_15 : decode cX1_haveAct 15 = .ok (.aload_n 0, 1) := by decide +kernel
theorem dX1_haveAct_16 : decode cX1_haveAct 16 = .ok (.getfield 9, 3) := by decide +kernel
theorem dX1_haveAct_19 : decode cX1_haveAct 19 = .ok (.if_icmp .ge 32, 3) := by decide +kernel
theorem dX1_haveAct_22 : decode cX1_haveAct 22 = .ok (.getstatic 38, 3) := by decide +kernel
theorem dX1_haveAct_25 : decode cX1_haveAct 25 = .ok (.iload_n 1, 1) := by decide +kernel
theorem dX1_haveAct_26 : decode cX1_haveAct 26 = .ok (.iaload, 1) := by decide +kernel
theorem dX1_haveAct_27 : decode cX1_haveAct 27 = .ok (.aload_n 0, 1) := by decide +kernel
theorem dX1_haveAct_28 : decode cX1_haveAct 28 = .ok (.getfield 9, 3) := by decide +kernel
theorem dX1_haveAct_31 : decode cX1_haveAct 31 = .ok (.if_icmp .ge 20, 3) := by decide +kernel
theorem dX1_haveAct_34 : decode cX1_haveAct 34 = .ok (.getstatic 35, 3) := by decide +kernel
theorem dX1_haveAct_37 : decode cX1_haveAct 37 = .ok (.iload_n 1, 1) := by decide +kernel
theorem dX1_haveAct_38 : decode cX1_haveAct 38 = .ok (.iaload, 1) := by decide +kernel
theorem dX1_haveAct_39 : decode cX1_haveAct 39 = .ok (.getstatic 38, 3) := by decide +kernel
theorem dX1_haveAct_42 : decode cX1_haveAct 42 = .ok (.iload_n 1, 1) := by decide +kernel
theorem dX1_haveAct_43 : decode cX1_haveAct 43 = .ok (.iaload, 1) := by decide +kernel
theorem dX1_haveAct_44 : decode cX1_haveAct 44 = .ok (.if_icmp .eq 7, 3) := by decide +kernel
theorem dX1_haveAct_47 : decode cX1_haveAct 47 = .ok (.iconst 1, 1) := by decide +kernel
theorem dX1_haveAct_48 : decode cX1_haveAct 48 = .ok (.goto 4, 3) := by decide +kernel
theorem dX1_haveAct_51 : decode cX1_haveAct 51 = .ok (.iconst 0, 1) := by decide +kernel
theorem dX1_haveAct_52 : decode cX1_haveAct 52 = .ok (.ireturn, 1) := by decide +kernel
theorem dX1_moved_0 : decode cX1_moved 0 = .ok (.iload_n 1, 1) := by decide +kernel
theorem dX1_moved_1 : decode cX1_moved 1 = .ok (.ifCond .lt 9, 3) := by decide +kernel
theorem dX1_moved_4 : decode cX1_moved 4 = .ok (.iload_n 1, 1) := by decide +kernel
theorem dX1_moved_5 : decode cX1_moved 5 = .ok (.bipush 24, 2) := by decide +kernel
theorem dX1_moved_7 : decode cX1_moved 7 = .ok (.if_icmp .lt 5, 3) := by decide +kernel
theorem dX1_moved_10 : decode cX1_moved 10 = .ok (.iconst 0, 1) := by decide +kernel
theorem dX1_moved_11 : decode cX1_moved 11 = .ok (.ireturn, 1) := by decide +kernel
theorem dX1_moved_12 : decode cX1_moved 12 = .ok (.getstatic 35, 3) := by decide +kernel
theorem dX1_moved_15 : decode cX1_moved 15 = .ok (.iload_n 1, 1) := by decide +kernel
theorem dX1_moved_16 : decode cX1_moved 16 = .ok (.iaload, 1) := by decide +kernel
theorem dX1_moved_17 : decode cX1_moved 17 = .ok (.istore_n 2, 1) := by decide +kernel
theorem dX1_moved_18 : decode cX1_moved 18 = .ok (.getstatic 38, 3) := by decide +kernel
theorem dX1_moved_21 : decode cX1_moved 21 = .ok (.iload_n 1, 1) := by decide +kernel
theorem dX1_moved_22 : decode cX1_moved 22 = .ok (.iaload, 1) := by decide +kernel
theorem dX1_moved_23 : decode cX1_moved 23 = .ok (.istore_n 3, 1) := by decide +kernel
theorem dX1_moved_24 : decode cX1_moved 24 = .ok (.iload_n 2, 1) := by decide +kernel
theorem dX1_moved_25 : decode cX1_moved 25 = .ok (.aload_n 0, 1) := by decide +kernel
theorem dX1_moved_26 : decode cX1_moved 26 = .ok (.getfield 9, 3) := by decide +kernel
theorem dX1_moved_29 : decode cX1_moved 29 = .ok (.if_icmp .ge 16, 3) := by decide +kernel
theorem dX1_moved_32 : decode cX1_moved 32 = .ok (.iload_n 3, 1) := by decide +kernel
theorem dX1_moved_33 : decode cX1_moved 33 = .ok (.aload_n 0, 1) := by decide +kernel
theorem dX1_moved_34 : decode cX1_moved 34 = .ok (.getfield 9, 3) := by decide +kernel
theorem dX1_moved_37 : decode cX1_moved 37 = .ok (.if_icmp .ge 8, 3) := by decide +kernel
theorem dX1_moved_40 : decode cX1_moved 40 = .ok (.iload_n 2, 1) := by decide +kernel
theorem dX1_moved_41 : decode cX1_moved 41 = .ok (.iload_n 3, 1) := by decide +kernel
theorem dX1_moved_42 : decode cX1_moved 42 = .ok (.if_icmp .ne 5, 3) := by decide +kernel
theorem dX1_moved_45 : decode cX1_moved 45 = .ok (.iconst 0, 1) := by decide +kernel
theorem dX1_moved_46 : decode cX1_moved 46 = .ok (.ireturn, 1) := by decide +kernel
theorem dX1_moved_47 : decode cX1_moved 47 = .ok (.iload_n 2, 1) := by decide +kernel
theorem dX1_moved_48 : decode cX1_moved 48 = .ok (.ifCond .lt 12, 3) := by decide +kernel
theorem dX1_moved_51 : decode cX1_moved 51 = .ok (.aload_n 0, 1) := by decide +kernel
theorem dX1_moved_52 : decode cX1_moved 52 = .ok (.getfield 29, 3) := by decide +kernel
theorem dX1_moved_55 : decode cX1_moved 55 = .ok (.iload_n 2, 1) := by decide +kernel
theorem dX1_moved_56 : decode cX1_moved 56 = .ok (.iaload, 1) := by decide +kernel
theorem dX1_moved_57 : decode cX1_moved 57 = .ok (.goto 16, 3) := by decide +kernel
theorem dX1_moved_60 : decode cX1_moved 60 = .ok (.aload_n 0, 1) := by decide +kernel
theorem dX1_moved_61 : decode cX1_moved 61 = .ok (.getfield 18, 3) := by decide +kernel
theorem dX1_moved_64 : decode cX1_moved 64 = .ok (.ifCond .eq 8, 3) := by decide +kernel
theorem dX1_moved_67 : decode cX1_moved 67 = .ok (.bipush 10, 2) := by decide +kernel
theorem dX1_moved_69 : decode cX1_moved 69 = .ok (.goto 4, 3) := by decide +kernel
theorem dX1_moved_72 : decode cX1_moved 72 = .ok (.iconst 0, 1) := by decide +kernel
theorem dX1_moved_73 : decode cX1_moved 73 = .ok (.istore 4, 2) := by decide +kernel
theorem dX1_moved_75 : decode cX1_moved 75 = .ok (.iload_n 3, 1) := by decide +kernel
theorem dX1_moved_76 : decode cX1_moved 76 = .ok (.ifCond .lt 19, 3) := by decide +kernel
theorem dX1_moved_79 : decode cX1_moved 79 = .ok (.aload_n 0, 1) := by decide +kernel
theorem dX1_moved_80 : decode cX1_moved 80 = .ok (.getfield 25, 3) := by decide +kernel
theorem dX1_moved_83 : decode cX1_moved 83 = .ok (.iload_n 3, 1) := by decide +kernel
theorem dX1_moved_84 : decode cX1_moved 84 = .ok (.iaload, 1) := by decide +kernel
theorem dX1_moved_85 : decode cX1_moved 85 = .ok (.aload_n 0, 1) := by decide +kernel
theorem dX1_moved_86 : decode cX1_moved 86 = .ok (.getfield 29, 3) := by decide +kernel
theorem dX1_moved_89 : decode cX1_moved 89 = .ok (.iload_n 3, 1) := by decide +kernel
theorem dX1_moved_90 : decode cX1_moved 90 = .ok (.iaload, 1) := by decide +kernel
theorem dX1_moved_91 : decode cX1_moved 91 = .ok (.isub, 1) := by decide +kernel
theorem dX1_moved_92 : decode cX1_moved 92 = .ok (.goto 16, 3) := by decide +kernel
theorem dX1_moved_95 : decode cX1_moved 95 = .ok (.aload_n 0, 1) := by decide +kernel
theorem dX1_moved_96 : decode cX1_moved 96 = .ok (.getfield 22, 3) := by decide +kernel
theorem dX1_moved_99 : decode cX1_moved 99 = .ok (.ifCond .eq 8, 3) := by decide +kernel
theorem dX1_moved_102 : decode cX1_moved 102 = .ok (.bipush 10, 2) := by decide +kernel
theorem dX1_moved_104 : decode cX1_moved 104 = .ok (.goto 4, 3) := by decide +kernel
theorem dX1_moved_107 : decode cX1_moved 107 = .ok (.iconst 0, 1) := by decide +kernel
theorem dX1_moved_108 : decode cX1_moved 108 = .ok (.istore 5, 2) := by decide +kernel
theorem dX1_moved_110 : decode cX1_moved 110 = .ok (.iload 4, 2) := by decide +kernel
theorem dX1_moved_112 : decode cX1_moved 112 = .ok (.iload 5, 2) := by decide +kernel
theorem dX1_moved_114 : decode cX1_moved 114 = .ok (.if_icmp .ge 8, 3) := by decide +kernel
theorem dX1_moved_117 : decode cX1_moved 117 = .ok (.iload 4, 2) := by decide +kernel
theorem dX1_moved_119 : decode cX1_moved 119 = .ok (.goto 5, 3) := by decide +kernel
theorem dX1_moved_122 : decode cX1_moved 122 = .ok (.iload 5, 2) := by decide +kernel
theorem dX1_moved_124 : decode cX1_moved 124 = .ok (.ireturn, 1) := by decide +kernel
set_option maxRecDepth 20000 in
theorem ggX1_move_X1_haveAct : GoodIn wsX1_move wsX1_haveAct := goodIn_r _ [6, 7, 8, 9, 10, 11, 12, 13, 14] (by decide +kernel) (by decide +kernel)
set_option maxRecDepth 20000 in
theorem gX1_move_X1_haveAct : GoodIn wsX1_move (wsV RX1 41 RX1 yX1_haveAct wsX1_haveAct) := goodIn_app (goodIn_of _ (by decide +kernel)) ggX1_move_X1_haveAct
theorem dX1_move_0 : decode cX1_move 0 = .ok (.aload_n 0, 1) := by decide +kernel
theorem dX1_move_1 : decode cX1_move 1 = .ok (.iload_n 1, 1) := by decide +kernel
theorem dX1_move_2 : decode cX1_move 2 = .ok (.invokevirtual 41, 3) := by decide +kernel
theorem dX1_move_5 : decode cX1_move 5 = .ok (.ifCond .ne 4, 3) := by decide +kernel
theorem dX1_move_8 : decode cX1_move 8 = .ok (.return_, 1) := by decide +kernel
theorem dX1_move_9 : decode cX1_move 9 = .ok (.getstatic 35, 3) := by decide +kernel
theorem dX1_move_12 : decode cX1_move 12 = .ok (.iload_n 1, 1) := by decide +kernel
theorem dX1_move_13 : decode cX1_move 13 = .ok (.iaload, 1) := by decide +kernel
theorem dX1_move_14 : decode cX1_move 14 = .ok (.ifCond .lt 17, 3) := by decide +kernel
theorem dX1_move_17 : decode cX1_move 17 = .ok (.aload_n 0, 1) := by decide +kernel
theorem dX1_move_18 : decode cX1_move 18 = .ok (.getfield 29, 3) := by decide +kernel
theorem dX1_move_21 : decode cX1_move 21 = .ok (.getstatic 35, 3) := by decide +kernel
theorem dX1_move_24 : decode cX1_move 24 = .ok (.iload_n 1, 1) := by decide +kernel
theorem dX1_move_25 : decode cX1_move 25 = .ok (.iaload, 1) := by decide +kernel
theorem dX1_move_26 : decode cX1_move 26 = .ok (.dup2, 1) := by decide +kernel
theorem dX1_move_27 : decode cX1_move 27 = .ok (.iaload, 1) := by decide +kernel
theorem dX1_move_28 : decode cX1_move 28 = .ok (.iload_n 2, 1) := by decide +kernel
theorem dX1_move_29 : decode cX1_move 29 = .ok (.isub, 1) := by decide +kernel
theorem dX1_move_30 : decode cX1_move 30 = .ok (.iastore, 1) := by decide +kernel
theorem dX1_move_31 : decode cX1_move 31 = .ok (.getstatic 38, 3) := by decide +kernel
theorem dX1_move_34 : decode cX1_move 34 = .ok (.iload_n 1, 1) := by decide +kernel
theorem dX1_move_35 : decode cX1_move 35 = .ok (.iaload, 1) := by decide +kernel
theorem dX1_move_36 : decode cX1_move 36 = .ok (.ifCond .lt 17, 3) := by decide +kernel
theorem dX1_move_39 : decode cX1_move 39 = .ok (.aload_n 0, 1) := by decide +kernel
theorem dX1_move_40 : decode cX1_move 40 = .ok (.getfield 29, 3) := by decide +kernel
theorem dX1_move_43 : decode cX1_move 43 = .ok (.getstatic 38, 3) := by decide +kernel
theorem dX1_move_46 : decode cX1_move 46 = .ok (.iload_n 1, 1) := by decide +kernel
theorem dX1_move_47 : decode cX1_move 47 = .ok (.iaload, 1) := by decide +kernel
theorem dX1_move_48 : decode cX1_move 48 = .ok (.dup2, 1) := by decide +kernel
theorem dX1_move_49 : decode cX1_move 49 = .ok (.iaload, 1) := by decide +kernel
theorem dX1_move_50 : decode cX1_move 50 = .ok (.iload_n 2, 1) := by decide +kernel
theorem dX1_move_51 : decode cX1_move 51 = .ok (.iadd, 1) := by decide +kernel
theorem dX1_move_52 : decode cX1_move 52 = .ok (.iastore, 1) := by decide +kernel
theorem dX1_move_53 : decode cX1_move 53 = .ok (.return_, 1) := by decide +kernel
set_option maxRecDepth 20000 in
theorem ggX1_shiftBy_X1_moved : GoodIn wsX1_shiftBy wsX1_moved := goodIn_r _ [6, 7, 8, 9, 10, 11, 12, 13, 14, 15, 16, 17, 18] (by decide +kernel) (by decide +kernel)
set_option maxRecDepth 20000 in
theorem gX1_shiftBy_X1_moved : GoodIn wsX1_shiftBy (wsV RX1 45 RX1 yX1_moved wsX1_moved) := goodIn_app (goodIn_of _ (by decide +kernel)) ggX1_shiftBy_X1_moved
theorem dX1_shiftBy_0 : decode cX1_shiftBy 0 = .ok (.aload_n 0, 1) := by decide +kernel
theorem dX1_shiftBy_1 : decode cX1_shiftBy 1 = .ok (.iload_n 1, 1) := by decide +kernel
theorem dX1_shiftBy_2 : decode cX1_shiftBy 2 = .ok (.invokevirtual 45, 3) := by decide +kernel
theorem dX1_shiftBy_5 : decode cX1_shiftBy 5 = .ok (.istore_n 2, 1) := by decide +kernel
theorem dX1_shiftBy_6 : decode cX1_shiftBy 6 = .ok (.iload_n 2, 1) := by decide +kernel
theorem dX1_shiftBy_7 : decode cX1_shiftBy 7 = .ok (.ifCond .ne 5, 3) := by decide +kernel
theorem dX1_shiftBy_10 : decode cX1_shiftBy 10 = .ok (.iconst 0, 1) := by decide +kernel
theorem dX1_shiftBy_11 : decode cX1_shiftBy 11 = .ok (.ireturn, 1) := by decide +kernel
theorem dX1_shiftBy_12 : decode cX1_shiftBy 12 = .ok (.getstatic 35, 3) := by decide +kernel
theorem dX1_shiftBy_15 : decode cX1_shiftBy 15 = .ok (.iload_n 1, 1) := by decide +kernel
theorem dX1_shiftBy_16 : decode cX1_shiftBy 16 = .ok (.iaload, 1) := by decide +kernel
theorem dX1_shiftBy_17 : decode cX1_shiftBy 17 = .ok (.ifCond .lt 16, 3) := by decide +kernel
theorem dX1_shiftBy_20 : decode cX1_shiftBy 20 = .ok (.aload_n 0, 1) := by decide +kernel
theorem dX1_shiftBy_21 : decode cX1_shiftBy 21 = .ok (.getfield 32, 3) := by decide +kernel
theorem dX1_shiftBy_24 : decode cX1_shiftBy 24 = .ok (.getstatic 35, 3) := by decide +kernel
theorem dX1_shiftBy_27 : decode cX1_shiftBy 27 = .ok (.iload_n 1, 1) := by decide +kernel
theorem dX1_shiftBy_28 : decode cX1_shiftBy 28 = .ok (.iaload, 1) := by decide +kernel
theorem dX1_shiftBy_29 : decode cX1_shiftBy 29 = .ok (.iaload, 1) := by decide +kernel
theorem dX1_shiftBy_30 : decode cX1_shiftBy 30 = .ok (.goto 4, 3) := by decide +kernel
theorem dX1_shiftBy_33 : decode cX1_shiftBy 33 = .ok (.iconst 0, 1) := by decide +kernel
theorem dX1_shiftBy_34 : decode cX1_shiftBy 34 = .ok (.istore_n 3, 1) := by decide +kernel
theorem dX1_shiftBy_35 : decode cX1_shiftBy 35 = .ok (.getstatic 38, 3) := by decide +kernel
theorem dX1_shiftBy_38 : decode cX1_shiftBy 38 = .ok (.iload_n 1, 1) := by decide +kernel
theorem dX1_shiftBy_39 : decode cX1_shiftBy 39 = .ok (.iaload, 1) := by decide +kernel
theorem dX1_shiftBy_40 : decode cX1_shiftBy 40 = .ok (.ifCond .lt 16, 3) := by decide +kernel
theorem dX1_shiftBy_43 : decode cX1_shiftBy 43 = .ok (.aload_n 0, 1) := by decide +kernel
theorem dX1_shiftBy_44 : decode cX1_shiftBy 44 = .ok (.getfield 32, 3) := by decide +kernel
theorem dX1_shiftBy_47 : decode cX1_shiftBy 47 = .ok (.getstatic 38, 3) := by decide +kernel
theorem dX1_shiftBy_50 : decode cX1_shiftBy 50 = .ok (.iload_n 1, 1) := by decide +kernel
end
section
theorem dX1_shiftBy_51 : decode cX1_shiftBy 51 = .ok (.iaload, 1) := by decide +kernel
theorem dX1_shiftBy_52 : decode cX1_shiftBy 52 = .ok (.iaload, 1) := by decide +kernel
theorem dX1_shiftBy_53 : decode cX1_shiftBy 53 = .ok (.goto 4, 3) := by decide +kernel
theorem dX1_shiftBy_56 : decode cX1_shiftBy 56 = .ok (.iconst 0, 1) := by decide +kernel
theorem dX1_shiftBy_57 : decode cX1_shiftBy 57 = .ok (.istore 4, 2) := by decide +kernel
theorem dX1_shiftBy_59 : decode cX1_shiftBy 59 = .ok (.iload_n 2, 1) := by decide +kernel
theorem dX1_shiftBy_60 : decode cX1_shiftBy 60 = .ok (.iload 4, 2) := by decide +kernel
theorem dX1_shiftBy_62 : decode cX1_shiftBy 62 = .ok (.iload_n 3, 1) := by decide +kernel
theorem dX1_shiftBy_63 : decode cX1_shiftBy 63 = .ok (.isub, 1) := by decide +kernel
theorem dX1_shiftBy_64 : decode cX1_shiftBy 64 = .ok (.imul, 1) := by decide +kernel
theorem dX1_shiftBy_65 : decode cX1_shiftBy 65 = .ok (.ireturn, 1) := by decide +kernel
theorem dX1_spiltBy_0 : decode cX1_spiltBy 0 = .ok (.iload_n 1, 1) := by decide +kernel
theorem dX1_spiltBy_1 : decode cX1_spiltBy 1 = .ok (.ifCond .lt 38, 3) := by decide +kernel
theorem dX1_spiltBy_4 : decode cX1_spiltBy 4 = .ok (.iload_n 1, 1) := by decide +kernel
theorem dX1_spiltBy_5 : decode cX1_spiltBy 5 = .ok (.bipush 24, 2) := by decide +kernel
theorem dX1_spiltBy_7 : decode cX1_spiltBy 7 = .ok (.if_icmp .ge 32, 3) := by decide +kernel
theorem dX1_spiltBy_10 : decode cX1_spiltBy 10 = .ok (.getstatic 38, 3) := by decide +kernel
theorem dX1_spiltBy_13 : decode cX1_spiltBy 13 = .ok (.iload_n 1, 1) := by decide +kernel
theorem dX1_spiltBy_14 : decode cX1_spiltBy 14 = .ok (.iaload, 1) := by decide +kernel
theorem dX1_spiltBy_15 : decode cX1_spiltBy 15 = .ok (.ifCond .ge 24, 3) := by decide +kernel
theorem dX1_spiltBy_18 : decode cX1_spiltBy 18 = .ok (.getstatic 35, 3) := by decide +kernel
theorem dX1_spiltBy_21 : decode cX1_spiltBy 21 = .ok (.iload_n 1, 1) := by decide +kernel
theorem dX1_spiltBy_22 : decode cX1_spiltBy 22 = .ok (.iaload, 1) := by decide +kernel
theorem dX1_spiltBy_23 : decode cX1_spiltBy 23 = .ok (.ifCond .lt 16, 3) := by decide +kernel
theorem dX1_spiltBy_26 : decode cX1_spiltBy 26 = .ok (.aload_n 0, 1) := by decide +kernel
theorem dX1_spiltBy_27 : decode cX1_spiltBy 27 = .ok (.getfield 29, 3) := by decide +kernel
theorem dX1_spiltBy_30 : decode cX1_spiltBy 30 = .ok (.getstatic 35, 3) := by decide +kernel
theorem dX1_spiltBy_33 : decode cX1_spiltBy 33 = .ok (.iload_n 1, 1) := by decide +kernel
theorem dX1_spiltBy_34 : decode cX1_spiltBy 34 = .ok (.iaload, 1) := by decide +kernel
theorem dX1_spiltBy_35 : decode cX1_spiltBy 35 = .ok (.iaload, 1) := by decide +kernel
theorem dX1_spiltBy_36 : decode cX1_spiltBy 36 = .ok (.goto 4, 3) := by decide +kernel
theorem dX1_spiltBy_39 : decode cX1_spiltBy 39 = .ok (.iconst 0, 1) := by decide +kernel
theorem dX1_spiltBy_40 : decode cX1_spiltBy 40 = .ok (.ireturn, 1) := by decide +kernel
theorem dX1_code_0 : decode cX1_code 0 = .ok (.iconst 0, 1) := by decide +kernel
theorem dX1_code_1 : decode cX1_code 1 = .ok (.istore_n 1, 1) := by decide +kernel
theorem dX1_code_2 : decode cX1_code 2 = .ok (.iconst 0, 1) := by decide +kernel
theorem dX1_code_3 : decode cX1_code 3 = .ok (.istore_n 2, 1) := by decide +kernel
theorem dX1_code_4 : decode cX1_code 4 = .ok (.iload_n 2, 1) := by decide +kernel
theorem dX1_code_5 : decode cX1_code 5 = .ok (.aload_n 0, 1) := by decide +kernel
theorem dX1_code_6 : decode cX1_code 6 = .ok (.getfield 9, 3) := by decide +kernel
theorem dX1_code_9 : decode cX1_code 9 = .ok (.if_icmp .ge 30, 3) := by decide +kernel
theorem dX1_code_12 : decode cX1_code 12 = .ok (.iload_n 2, 1) := by decide +kernel
theorem dX1_code_13 : decode cX1_code 13 = .ok (.iconst 4, 1) := by decide +kernel
theorem dX1_code_14 : decode cX1_code 14 = .ok (.if_icmp .ge 25, 3) := by decide +kernel
theorem dX1_code_17 : decode cX1_code 17 = .ok (.iload_n 1, 1) := by decide +kernel
theorem dX1_code_18 : decode cX1_code 18 = .ok (.aload_n 0, 1) := by decide +kernel
theorem dX1_code_19 : decode cX1_code 19 = .ok (.getfield 29, 3) := by decide +kernel
theorem dX1_code_22 : decode cX1_code 22 = .ok (.iload_n 2, 1) := by decide +kernel
theorem dX1_code_23 : decode cX1_code 23 = .ok (.iaload, 1) := by decide +kernel
theorem dX1_code_24 : decode cX1_code 24 = .ok (.aload_n 0, 1) := by decide +kernel
theorem dX1_code_25 : decode cX1_code 25 = .ok (.getfield 32, 3) := by decide +kernel
theorem dX1_code_28 : decode cX1_code 28 = .ok (.iload_n 2, 1) := by decide +kernel
theorem dX1_code_29 : decode cX1_code 29 = .ok (.iaload, 1) := by decide +kernel
theorem dX1_code_30 : decode cX1_code 30 = .ok (.imul, 1) := by decide +kernel
theorem dX1_code_31 : decode cX1_code 31 = .ok (.iadd, 1) := by decide +kernel
theorem dX1_code_32 : decode cX1_code 32 = .ok (.istore_n 1, 1) := by decide +kernel
theorem dX1_code_33 : decode cX1_code 33 = .ok (.iinc 2 1, 3) := by decide +kernel
theorem dX1_code_36 : decode cX1_code 36 = .ok (.goto (-32), 3) := by decide +kernel
theorem dX1_code_39 : decode cX1_code 39 = .ok (.iload_n 1, 1) := by decide +kernel
theorem dX1_code_40 : decode cX1_code 40 = .ok (.ireturn, 1) := by decide +kernel
theorem dX1_stand_0 : decode cX1_stand 0 = .ok (.iload_n 1, 1) := by decide +kernel
theorem dX1_stand_1 : decode cX1_stand 1 = .ok (.istore_n 2, 1) := by decide +kernel
theorem dX1_stand_2 : decode cX1_stand 2 = .ok (.iconst 0, 1) := by decide +kernel
theorem dX1_stand_3 : decode cX1_stand 3 = .ok (.istore_n 3, 1) := by decide +kernel
theorem dX1_stand_4 : decode cX1_stand 4 = .ok (.iload_n 3, 1) := by decide +kernel
theorem dX1_stand_5 : decode cX1_stand 5 = .ok (.aload_n 0, 1) := by decide +kernel
theorem dX1_stand_6 : decode cX1_stand 6 = .ok (.getfield 9, 3) := by decide +kernel
theorem dX1_stand_9 : decode cX1_stand 9 = .ok (.if_icmp .ge 45, 3) := by decide +kernel
theorem dX1_stand_12 : decode cX1_stand 12 = .ok (.iload_n 3, 1) := by decide +kernel
theorem dX1_stand_13 : decode cX1_stand 13 = .ok (.iconst 4, 1) := by decide +kernel
theorem dX1_stand_14 : decode cX1_stand 14 = .ok (.if_icmp .ge 40, 3) := by decide +kernel
theorem dX1_stand_17 : decode cX1_stand 17 = .ok (.aload_n 0, 1) := by decide +kernel
theorem dX1_stand_18 : decode cX1_stand 18 = .ok (.getfield 25, 3) := by decide +kernel
theorem dX1_stand_21 : decode cX1_stand 21 = .ok (.iload_n 3, 1) := by decide +kernel
theorem dX1_stand_22 : decode cX1_stand 22 = .ok (.iaload, 1) := by decide +kernel
theorem dX1_stand_23 : decode cX1_stand 23 = .ok (.iconst 1, 1) := by decide +kernel
theorem dX1_stand_24 : decode cX1_stand 24 = .ok (.iadd, 1) := by decide +kernel
theorem dX1_stand_25 : decode cX1_stand 25 = .ok (.istore 4, 2) := by decide +kernel
theorem dX1_stand_27 : decode cX1_stand 27 = .ok (.iload 4, 2) := by decide +kernel
theorem dX1_stand_29 : decode cX1_stand 29 = .ok (.iconst 1, 1) := by decide +kernel
theorem dX1_stand_30 : decode cX1_stand 30 = .ok (.if_icmp .le 18, 3) := by decide +kernel
theorem dX1_stand_33 : decode cX1_stand 33 = .ok (.aload_n 0, 1) := by decide +kernel
theorem dX1_stand_34 : decode cX1_stand 34 = .ok (.getfield 29, 3) := by decide +kernel
theorem dX1_stand_37 : decode cX1_stand 37 = .ok (.iload_n 3, 1) := by decide +kernel
theorem dX1_stand_38 : decode cX1_stand 38 = .ok (.iload_n 2, 1) := by decide +kernel
theorem dX1_stand_39 : decode cX1_stand 39 = .ok (.iload 4, 2) := by decide +kernel
theorem dX1_stand_41 : decode cX1_stand 41 = .ok (.irem, 1) := by decide +kernel
theorem dX1_stand_42 : decode cX1_stand 42 = .ok (.iastore, 1) := by decide +kernel
theorem dX1_stand_43 : decode cX1_stand 43 = .ok (.iload_n 2, 1) := by decide +kernel
theorem dX1_stand_44 : decode cX1_stand 44 = .ok (.iload 4, 2) := by decide +kernel
theorem dX1_stand_46 : decode cX1_stand 46 = .ok (.idiv, 1) := by decide +kernel
theorem dX1_stand_47 : decode cX1_stand 47 = .ok (.istore_n 2, 1) := by decide +kernel
theorem dX1_stand_48 : decode cX1_stand 48 = .ok (.iinc 3 1, 3) := by decide +kernel
theorem dX1_stand_51 : decode cX1_stand 51 = .ok (.goto (-47), 3) := by decide +kernel
theorem dX1_stand_54 : decode cX1_stand 54 = .ok (.return_, 1) := by decide +kernel
set_option maxRecDepth 20000 in
theorem ggX1_meet_X1_has : GoodIn wsX1_meet wsX1_has := goodIn_r _ [7, 2, 8, 9, 10, 11, 12, 13, 14] (by decide +kernel) (by decide +kernel)
set_option maxRecDepth 20000 in
theorem gX1_meet_X1_has : GoodIn wsX1_meet (wsV RX1 49 RX1 yX1_has wsX1_has) := goodIn_app (goodIn_of _ (by decide +kernel)) ggX1_meet_X1_has
theorem dX1_meet_0 : decode cX1_meet 0 = .ok (.iload_n 1, 1) := by decide +kernel
theorem dX1_meet_1 : decode cX1_meet 1 = .ok (.ifCond .lt 27, 3) := by decide +kernel
theorem dX1_meet_4 : decode cX1_meet 4 = .ok (.aload_n 0, 1) := by decide +kernel
theorem dX1_meet_5 : decode cX1_meet 5 = .ok (.iload_n 1, 1) := by decide +kernel
theorem dX1_meet_6 : decode cX1_meet 6 = .ok (.invokevirtual 49, 3) := by decide +kernel
theorem dX1_meet_9 : decode cX1_meet 9 = .ok (.ifCond .eq 17, 3) := by decide +kernel
theorem dX1_meet_12 : decode cX1_meet 12 = .ok (.aload_n 0, 1) := by decide +kernel
theorem dX1_meet_13 : decode cX1_meet 13 = .ok (.getfield 29, 3) := by decide +kernel
theorem dX1_meet_16 : decode cX1_meet 16 = .ok (.iload_n 1, 1) := by decide +kernel
theorem dX1_meet_17 : decode cX1_meet 17 = .ok (.iaload, 1) := by decide +kernel
theorem dX1_meet_18 : decode cX1_meet 18 = .ok (.iload_n 2, 1) := by decide +kernel
theorem dX1_meet_19 : decode cX1_meet 19 = .ok (.if_icmp .ne 7, 3) := by decide +kernel
theorem dX1_meet_22 : decode cX1_meet 22 = .ok (.iconst 1, 1) := by decide +kernel
theorem dX1_meet_23 : decode cX1_meet 23 = .ok (.goto 4, 3) := by decide +kernel
theorem dX1_meet_26 : decode cX1_meet 26 = .ok (.iconst 0, 1) := by decide +kernel
theorem dX1_meet_27 : decode cX1_meet 27 = .ok (.ireturn, 1) := by decide +kernel
theorem dX1_meet_28 : decode cX1_meet 28 = .ok (.iconst 0, 1) := by decide +kernel
theorem dX1_meet_29 : decode cX1_meet 29 = .ok (.istore_n 3, 1) := by decide +kernel
theorem dX1_meet_30 : decode cX1_meet 30 = .ok (.iload_n 3, 1) := by decide +kernel
theorem dX1_meet_31 : decode cX1_meet 31 = .ok (.aload_n 0, 1) := by decide +kernel
theorem dX1_meet_32 : decode cX1_meet 32 = .ok (.getfield 9, 3) := by decide +kernel
theorem dX1_meet_35 : decode cX1_meet 35 = .ok (.if_icmp .ge 26, 3) := by decide +kernel
theorem dX1_meet_38 : decode cX1_meet 38 = .ok (.iload_n 3, 1) := by decide +kernel
theorem dX1_meet_39 : decode cX1_meet 39 = .ok (.iconst 4, 1) := by decide +kernel
theorem dX1_meet_40 : decode cX1_meet 40 = .ok (.if_icmp .ge 21, 3) := by decide +kernel
theorem dX1_meet_43 : decode cX1_meet 43 = .ok (.aload_n 0, 1) := by decide +kernel
theorem dX1_meet_44 : decode cX1_meet 44 = .ok (.getfield 29, 3) := by decide +kernel
theorem dX1_meet_47 : decode cX1_meet 47 = .ok (.iload_n 3, 1) := by decide +kernel
theorem dX1_meet_48 : decode cX1_meet 48 = .ok (.iaload, 1) := by decide +kernel
theorem dX1_meet_49 : decode cX1_meet 49 = .ok (.iload_n 2, 1) := by decide +kernel
theorem dX1_meet_50 : decode cX1_meet 50 = .ok (.if_icmp .ne 5, 3) := by decide +kernel
theorem dX1_meet_53 : decode cX1_meet 53 = .ok (.iconst 1, 1) := by decide +kernel
theorem dX1_meet_54 : decode cX1_meet 54 = .ok (.ireturn, 1) := by decide +kernel
theorem dX1_meet_55 : decode cX1_meet 55 = .ok (.iinc 3 1, 3) := by decide +kernel
theorem dX1_meet_58 : decode cX1_meet 58 = .ok (.goto (-28), 3) := by decide +kernel
theorem dX1_meet_61 : decode cX1_meet 61 = .ok (.iconst 0, 1) := by decide +kernel
theorem dX1_meet_62 : decode cX1_meet 62 = .ok (.ireturn, 1) := by decide +kernel
theorem dX1_heldTogether_0 : decode cX1_heldTogether 0 = .ok (.iconst 0, 1) := by decide +kernel
theorem dX1_heldTogether_1 : decode cX1_heldTogether 1 = .ok (.istore_n 1, 1) := by decide +kernel
theorem dX1_heldTogether_2 : decode cX1_heldTogether 2 = .ok (.iconst 0, 1) := by decide +kernel
theorem dX1_heldTogether_3 : decode cX1_heldTogether 3 = .ok (.istore_n 2, 1) := by decide +kernel
theorem dX1_heldTogether_4 : decode cX1_heldTogether 4 = .ok (.iload_n 2, 1) := by decide +kernel
theorem dX1_heldTogether_5 : decode cX1_heldTogether 5 = .ok (.aload_n 0, 1) := by decide +kernel
theorem dX1_heldTogether_6 : decode cX1_heldTogether 6 = .ok (.getfield 9, 3) := by decide +kernel
theorem dX1_heldTogether_9 : decode cX1_heldTogether 9 = .ok (.if_icmp .ge 23, 3) := by decide +kernel
theorem dX1_heldTogether_12 : decode cX1_heldTogether 12 = .ok (.iload_n 2, 1) := by decide +kernel
theorem dX1_heldTogether_13 : decode cX1_heldTogether 13 = .ok (.iconst 4, 1) := by decide +kernel
theorem dX1_heldTogether_14 : decode cX1_heldTogether 14 = .ok (.if_icmp .ge 18, 3) := by decide +kernel
theorem dX1_heldTogether_17 : decode cX1_heldTogether 17 = .ok (.iload_n 1, 1) := by decide +kernel
theorem dX1_heldTogether_18 : decode cX1_heldTogether 18 = .ok (.aload_n 0, 1) := by decide +kernel
theorem dX1_heldTogether_19 : decode cX1_heldTogether 19 = .ok (.getfield 29, 3) := by decide +kernel
theorem dX1_heldTogether_22 : decode cX1_heldTogether 22 = .ok (.iload_n 2, 1) := by decide +kernel
theorem dX1_heldTogether_23 : decode cX1_heldTogether 23 = .ok (.iaload, 1) := by decide +kernel
theorem dX1_heldTogether_24 : decode cX1_heldTogether 24 = .ok (.iadd, 1) := by decide +kernel
theorem dX1_heldTogether_25 : decode cX1_heldTogether 25 = .ok (.istore_n 1, 1) := by decide +kernel
theorem dX1_heldTogether_26 : decode cX1_heldTogether 26 = .ok (.iinc 2 1, 3) := by decide +kernel
theorem dX1_heldTogether_29 : decode cX1_heldTogether 29 = .ok (.goto (-25), 3) := by decide +kernel
theorem dX1_heldTogether_32 : decode cX1_heldTogether 32 = .ok (.iload_n 1, 1) := by decide +kernel
theorem dX1_heldTogether_33 : decode cX1_heldTogether 33 = .ok (.ireturn, 1) := by decide +kernel
set_option maxRecDepth 20000 in
theorem ggX1_actsNow_X1_moved : GoodIn wsX1_actsNow wsX1_moved := goodIn_r _ [5, 6, 7, 8, 9, 10, 11, 12, 13, 14, 15, 16, 17] (by decide +kernel) (by decide +kernel)
set_option maxRecDepth 20000 in
theorem gX1_actsNow_X1_moved : GoodIn wsX1_actsNow (wsV RX1 45 RX1 yX1_moved wsX1_moved) := goodIn_app (goodIn_of _ (by decide +kernel)) ggX1_actsNow_X1_moved
theorem dX1_actsNow_0 : decode cX1_actsNow 0 = .ok (.iconst 0, 1) := by decide +kernel
theorem dX1_actsNow_1 : decode cX1_actsNow 1 = .ok (.istore_n 1, 1) := by decide +kernel
theorem dX1_actsNow_2 : decode cX1_actsNow 2 = .ok (.iconst 0, 1) := by decide +kernel
theorem dX1_actsNow_3 : decode cX1_actsNow 3 = .ok (.istore_n 2, 1) := by decide +kernel
theorem dX1_actsNow_4 : decode cX1_actsNow 4 = .ok (.iload_n 2, 1) := by decide +kernel
theorem dX1_actsNow_5 : decode cX1_actsNow 5 = .ok (.bipush 24, 2) := by decide +kernel
theorem dX1_actsNow_7 : decode cX1_actsNow 7 = .ok (.if_icmp .ge 20, 3) := by decide +kernel
theorem dX1_actsNow_10 : decode cX1_actsNow 10 = .ok (.aload_n 0, 1) := by decide +kernel
theorem dX1_actsNow_11 : decode cX1_actsNow 11 = .ok (.iload_n 2, 1) := by decide +kernel
theorem dX1_actsNow_12 : decode cX1_actsNow 12 = .ok (.invokevirtual 45, 3) := by decide +kernel
theorem dX1_actsNow_15 : decode cX1_actsNow 15 = .ok (.ifCond .le 6, 3) := by decide +kernel
theorem dX1_actsNow_18 : decode cX1_actsNow 18 = .ok (.iinc 1 1, 3) := by decide +kernel
theorem dX1_actsNow_21 : decode cX1_actsNow 21 = .ok (.iinc 2 1, 3) := by decide +kernel
theorem dX1_actsNow_24 : decode cX1_actsNow 24 = .ok (.goto (-20), 3) := by decide +kernel
theorem dX1_actsNow_27 : decode cX1_actsNow 27 = .ok (.iload_n 1, 1) := by decide +kernel
theorem dX1_actsNow_28 : decode cX1_actsNow 28 = .ok (.ireturn, 1) := by decide +kernel
set_option maxRecDepth 20000 in
theorem ggX2_init_X1_init : GoodIn wsX2_init wsX1_init := goodIn_r _ [24, 25, 2, 3, 26, 27, 28, 29, 30, 31, 32, 33, 46, 47, 48, 49, 50, 51, 52] (by decide +kernel) (by decide +kernel)
set_option maxRecDepth 20000 in
theorem gX2_init_X1_init_n11 : GoodIn wsX2_init (wsX1_init) := ggX2_init_X1_init
set_option maxRecDepth 20000 in
theorem ggX2_init_X4_init : GoodIn wsX2_init wsX4_init := goodIn_r _ [35, 36, 2, 3, 30, 37, 38, 39, 40, 62, 63, 64, 65] (by decide +kernel) (by decide +kernel)
set_option maxRecDepth 20000 in
theorem gX2_init_X4_init_n23 : GoodIn wsX2_init (wsX4_init) := ggX2_init_X4_init
set_option maxRecDepth 20000 in
theorem ggX2_init_X3_init : GoodIn wsX2_init wsX3_init := goodIn_r _ [42, 43, 2, 3, 30, 44, 45, 66, 67] (by decide +kernel) (by decide +kernel)
set_option maxRecDepth 20000 in
theorem gX2_init_X3_init_n33 : GoodIn wsX2_init (wsX3_init) := ggX2_init_X3_init
theorem dX2_init_0 : decode cX2_init 0 = .ok (.aload_n 0, 1) := by decide +kernel
theorem dX2_init_1 : decode cX2_init 1 = .ok (.invokespecial 3, 3) := by decide +kernel
theorem dX2_init_4 : decode cX2_init 4 = .ok (.aload_n 0, 1) := by decide +kernel
theorem dX2_init_5 : decode cX2_init 5 = .ok (.new 9, 3) := by decide +kernel
theorem dX2_init_8 : decode cX2_init 8 = .ok (.dup, 1) := by decide +kernel
theorem dX2_init_9 : decode cX2_init 9 = .ok (.invokespecial 11, 3) := by decide +kernel
theorem dX2_init_12 : decode cX2_init 12 = .ok (.putfield 12, 3) := by decide +kernel
theorem dX2_init_15 : decode cX2_init 15 = .ok (.aload_n 0, 1) := by decide +kernel
theorem dX2_init_16 : decode cX2_init 16 = .ok (.new 9, 3) := by decide +kernel
theorem dX2_init_19 : decode cX2_init 19 = .ok (.dup, 1) := by decide +kernel
theorem dX2_init_20 : decode cX2_init 20 = .ok (.invokespecial 11, 3) := by decide +kernel
theorem dX2_init_23 : decode cX2_init 23 = .ok (.putfield 18, 3) := by decide +kernel
theorem dX2_init_26 : decode cX2_init 26 = .ok (.aload_n 0, 1) := by decide +kernel
theorem dX2_init_27 : decode cX2_init 27 = .ok (.new 21, 3) := by decide +kernel
theorem dX2_init_30 : decode cX2_init 30 = .ok (.dup, 1) := by decide +kernel
theorem dX2_init_31 : decode cX2_init 31 = .ok (.invokespecial 23, 3) := by decide +kernel
theorem dX2_init_34 : decode cX2_init 34 = .ok (.putfield 24, 3) := by decide +kernel
theorem dX2_init_37 : decode cX2_init 37 = .ok (.aload_n 0, 1) := by decide +kernel
theorem dX2_init_38 : decode cX2_init 38 = .ok (.new 21, 3) := by decide +kernel
theorem dX2_init_41 : decode cX2_init 41 = .ok (.dup, 1) := by decide +kernel
theorem dX2_init_42 : decode cX2_init 42 = .ok (.invokespecial 23, 3) := by decide +kernel
theorem dX2_init_45 : decode cX2_init 45 = .ok (.putfield 28, 3) := by decide +kernel
theorem dX2_init_48 : decode cX2_init 48 = .ok (.aload_n 0, 1) := by decide +kernel
theorem dX2_init_49 : decode cX2_init 49 = .ok (.new 31, 3) := by decide +kernel
theorem dX2_init_52 : decode cX2_init 52 = .ok (.dup, 1) := by decide +kernel
theorem dX2_init_53 : decode cX2_init 53 = .ok (.invokespecial 33, 3) := by decide +kernel
theorem dX2_init_56 : decode cX2_init 56 = .ok (.putfield 34, 3) := by decide +kernel
theorem dX2_init_59 : decode cX2_init 59 = .ok (.aload_n 0, 1) := by decide +kernel
theorem dX2_init_60 : decode cX2_init 60 = .ok (.iconst 0, 1) := by decide +kernel
theorem dX2_init_61 : decode cX2_init 61 = .ok (.newarray .long, 2) := by decide +kernel
theorem dX2_init_63 : decode cX2_init 63 = .ok (.putfield 38, 3) := by decide +kernel
theorem dX2_init_66 : decode cX2_init 66 = .ok (.aload_n 0, 1) := by decide +kernel
theorem dX2_init_67 : decode cX2_init 67 = .ok (.iconst 0, 1) := by decide +kernel
theorem dX2_init_68 : decode cX2_init 68 = .ok (.putfield 42, 3) := by decide +kernel
theorem dX2_init_71 : decode cX2_init 71 = .ok (.aload_n 0, 1) := by decide +kernel
theorem dX2_init_72 : decode cX2_init 72 = .ok (.iconst 0, 1) := by decide +kernel
theorem dX2_init_73 : decode cX2_init 73 = .ok (.putfield 46, 3) := by decide +kernel
theorem dX2_init_76 : decode cX2_init 76 = .ok (.aload_n 0, 1) := by decide +kernel
theorem dX2_init_77 : decode cX2_init 77 = .ok (.iconst 0, 1) := by decide +kernel
theorem dX2_init_78 : decode cX2_init 78 = .ok (.putfield 49, 3) := by decide +kernel
theorem dX2_init_81 : decode cX2_init 81 = .ok (.return_, 1) := by decide +kernel
theorem dX2_forget_0 : decode cX2_forget 0 = .ok (.aload_n 0, 1) := by decide +kernel
theorem dX2_forget_1 : decode cX2_forget 1 = .ok (.iconst 0, 1) := by decide +kernel
theorem dX2_forget_2 : decode cX2_forget 2 = .ok (.putfield 42, 3) := by decide +kernel
theorem dX2_forget_5 : decode cX2_forget 5 = .ok (.aload_n 0, 1) := by decide +kernel
theorem dX2_forget_6 : decode cX2_forget 6 = .ok (.iconst 0, 1) := by decide +kernel
theorem dX2_forget_7 : decode cX2_forget 7 = .ok (.putfield 46, 3) := by decide +kernel
theorem dX2_forget_10 : decode cX2_forget 10 = .ok (.aload_n 0, 1) := by decide +kernel
theorem dX2_forget_11 : decode cX2_forget 11 = .ok (.iconst 0, 1) := by decide +kernel
theorem dX2_forget_12 : decode cX2_forget 12 = .ok (.putfield 49, 3) := by decide +kernel
theorem dX2_forget_15 : decode cX2_forget 15 = .ok (.return_, 1) := by decide +kernel
set_option maxRecDepth 20000 in
theorem ggX2_explore_X1_liken : GoodIn wsX2_explore wsX1_liken := goodIn_r _ [9, 10, 11, 12, 13, 14, 15, 16, 85, 86, 87, 88, 89, 90, 91] (by decide +kernel) (by decide +kernel)
set_option maxRecDepth 20000 in
theorem gX2_explore_X1_liken : GoodIn wsX2_explore (wsV RX2 52 RX1 yX1_liken wsX1_liken) := goodIn_app (goodIn_of _ (by decide +kernel)) ggX2_explore_X1_liken
set_option maxRecDepth 20000 in
theorem ggX2_explore_X4_explore : GoodIn wsX2_explore wsX4_explore := goodIn_r _ [21, 22, 23, 24, 25, 26, 27, 28, 8, 29, 10, 15, 16, 30, 31, 32, 20, 33, 34, 35, 36, 37, 38, 39, 40, 41, 42, 43, 44, 45, 46, 47, 48, 49, 50, 51, 52, 53, 14, 54, 55, 56, 57, 58, 59, 60, 61, 12, 13, 62, 63, 64, 65, 66, 67, 68, 69, 70, 71, 72, 73, 74, 75, 85, 86, 87, 88, 89, 90, 91, 92, 93, 94, 95, 96, 97] (by decide +kernel) (by decide +kernel)
set_option maxRecDepth 20000 in
theorem gX2_explore_X4_explore : GoodIn wsX2_explore (wsV RX2 56 RX4 yX4_explore wsX4_explore) := goodIn_app (goodIn_of _ (by decide +kernel)) ggX2_explore_X4_explore
theorem dX2_explore_0 : decode cX2_explore 0 = .ok (.aload_n 0, 1) := by decide +kernel
theorem dX2_explore_1 : decode cX2_explore 1 = .ok (.getfield 42, 3) := by decide +kernel
theorem dX2_explore_4 : decode cX2_explore 4 = .ok (.ifCond .ne 31, 3) := by decide +kernel
theorem dX2_explore_7 : decode cX2_explore 7 = .ok (.aload_n 0, 1) := by decide +kernel
theorem dX2_explore_8 : decode cX2_explore 8 = .ok (.getfield 18, 3) := by decide +kernel
theorem dX2_explore_11 : decode cX2_explore 11 = .ok (.aload_n 0, 1) := by decide +kernel
theorem dX2_explore_12 : decode cX2_explore 12 = .ok (.getfield 12, 3) := by decide +kernel
theorem dX2_explore_15 : decode cX2_explore 15 = .ok (.invokevirtual 52, 3) := by decide +kernel
theorem dX2_explore_18 : decode cX2_explore 18 = .ok (.aload_n 0, 1) := by decide +kernel
theorem dX2_explore_19 : decode cX2_explore 19 = .ok (.getfield 24, 3) := by decide +kernel
theorem dX2_explore_22 : decode cX2_explore 22 = .ok (.aload_n 0, 1) := by decide +kernel
theorem dX2_explore_23 : decode cX2_explore 23 = .ok (.getfield 18, 3) := by decide +kernel
theorem dX2_explore_26 : decode cX2_explore 26 = .ok (.aconst_null, 1) := by decide +kernel
theorem dX2_explore_27 : decode cX2_explore 27 = .ok (.invokevirtual 56, 3) := by decide +kernel
theorem dX2_explore_30 : decode cX2_explore 30 = .ok (.aload_n 0, 1) := by decide +kernel
theorem dX2_explore_31 : decode cX2_explore 31 = .ok (.iconst 1, 1) := by decide +kernel
theorem dX2_explore_32 : decode cX2_explore 32 = .ok (.putfield 42, 3) := by decide +kernel
theorem dX2_explore_35 : decode cX2_explore 35 = .ok (.return_, 1) := by decide +kernel
set_option maxRecDepth 20000 in
theorem ggX2_exploreSparing_X1_liken : GoodIn wsX2_exploreSparing wsX1_liken := goodIn_r _ [11, 12, 13, 14, 15, 16, 17, 18, 105, 106, 107, 108, 109, 110, 111] (by decide +kernel) (by decide +kernel)
set_option maxRecDepth 20000 in
theorem gX2_exploreSparing_X1_liken : GoodIn wsX2_exploreSparing (wsV RX2 52 RX1 yX1_liken wsX1_liken) := goodIn_app (goodIn_of _ (by decide +kernel)) ggX2_exploreSparing_X1_liken
set_option maxRecDepth 20000 in
theorem ggX2_exploreSparing_X3_measure : GoodIn wsX2_exploreSparing wsX3_measure := goodIn_r _ [23, 24, 25, 26, 27, 28, 29, 30, 31, 32, 33, 34, 35, 36, 10, 37, 12, 17, 18, 38, 39, 40, 22, 41, 42, 43, 44, 45, 46, 16, 47, 48, 49, 50, 51, 52, 53, 54, 14, 15, 55, 56, 57, 58, 112, 113, 114, 115, 116, 117, 105, 106, 107, 108, 109, 110, 111] (by decide +kernel) (by decide +kernel)
set_option maxRecDepth 20000 in
theorem gX2_exploreSparing_X3_measure : GoodIn wsX2_exploreSparing (wsV RX2 60 RX3 yX3_measure wsX3_measure) := goodIn_app (goodIn_of _ (by decide +kernel)) ggX2_exploreSparing_X3_measure
set_option maxRecDepth 20000 in
theorem ggX2_exploreSparing_X4_explore : GoodIn wsX2_exploreSparing wsX4_explore := goodIn_r _ [63, 64, 65, 66, 67, 68, 35, 36, 10, 37, 12, 17, 18, 69, 70, 71, 62, 72, 26, 73, 74, 75, 76, 77, 78, 79, 80, 81, 82, 83, 84, 31, 32, 33, 85, 44, 45, 46, 16, 86, 48, 49, 50, 51, 52, 53, 54, 14, 15, 87, 56, 57, 58, 88, 89, 90, 22, 91, 24, 92, 93, 94, 95, 105, 106, 107, 108, 109, 110, 111, 114, 115, 116, 117, 112, 113] (by decide +kernel) (by decide +kernel)
set_option maxRecDepth 20000 in
theorem gX2_exploreSparing_X4_explore : GoodIn wsX2_exploreSparing (wsV RX2 56 RX4 yX4_explore wsX4_explore) := goodIn_app (goodIn_of _ (by decide +kernel)) ggX2_exploreSparing_X4_explore
theorem dX2_exploreSparing_0 : decode cX2_exploreSparing 0 = .ok (.aload_n 0, 1) := by decide +kernel
theorem dX2_exploreSparing_1 : decode cX2_exploreSparing 1 = .ok (.getfield 49, 3) := by decide +kernel
theorem dX2_exploreSparing_4 : decode cX2_exploreSparing 4 = .ok (.ifCond .ne 60, 3) := by decide +kernel
theorem dX2_exploreSparing_7 : decode cX2_exploreSparing 7 = .ok (.aload_n 0, 1) := by decide +kernel
theorem dX2_exploreSparing_8 : decode cX2_exploreSparing 8 = .ok (.getfield 18, 3) := by decide +kernel
theorem dX2_exploreSparing_11 : decode cX2_exploreSparing 11 = .ok (.aload_n 0, 1) := by decide +kernel
theorem dX2_exploreSparing_12 : decode cX2_exploreSparing 12 = .ok (.getfield 12, 3) := by decide +kernel
theorem dX2_exploreSparing_15 : decode cX2_exploreSparing 15 = .ok (.invokevirtual 52, 3) := by decide +kernel
theorem dX2_exploreSparing_18 : decode cX2_exploreSparing 18 = .ok (.aload_n 0, 1) := by decide +kernel
theorem dX2_exploreSparing_19 : decode cX2_exploreSparing 19 = .ok (.getfield 34, 3) := by decide +kernel
theorem dX2_exploreSparing_22 : decode cX2_exploreSparing 22 = .ok (.aload_n 0, 1) := by decide +kernel
theorem dX2_exploreSparing_23 : decode cX2_exploreSparing 23 = .ok (.getfield 18, 3) := by decide +kernel
theorem dX2_exploreSparing_26 : decode cX2_exploreSparing 26 = .ok (.aload_n 0, 1) := by decide +kernel
theorem dX2_exploreSparing_27 : decode cX2_exploreSparing 27 = .ok (.getfield 24, 3) := by decide +kernel
theorem dX2_exploreSparing_30 : decode cX2_exploreSparing 30 = .ok (.invokevirtual 60, 3) := by decide +kernel
theorem dX2_exploreSparing_33 : decode cX2_exploreSparing 33 = .ok (.aload_n 0, 1) := by decide +kernel
theorem dX2_exploreSparing_34 : decode cX2_exploreSparing 34 = .ok (.getfield 18, 3) := by decide +kernel
theorem dX2_exploreSparing_37 : decode cX2_exploreSparing 37 = .ok (.aload_n 0, 1) := by decide +kernel
theorem dX2_exploreSparing_38 : decode cX2_exploreSparing 38 = .ok (.getfield 12, 3) := by decide +kernel
theorem dX2_exploreSparing_41 : decode cX2_exploreSparing 41 = .ok (.invokevirtual 52, 3) := by decide +kernel
theorem dX2_exploreSparing_44 : decode cX2_exploreSparing 44 = .ok (.aload_n 0, 1) := by decide +kernel
theorem dX2_exploreSparing_45 : decode cX2_exploreSparing 45 = .ok (.getfield 28, 3) := by decide +kernel
theorem dX2_exploreSparing_48 : decode cX2_exploreSparing 48 = .ok (.aload_n 0, 1) := by decide +kernel
theorem dX2_exploreSparing_49 : decode cX2_exploreSparing 49 = .ok (.getfield 18, 3) := by decide +kernel
theorem dX2_exploreSparing_52 : decode cX2_exploreSparing 52 = .ok (.aload_n 0, 1) := by decide +kernel
theorem dX2_exploreSparing_53 : decode cX2_exploreSparing 53 = .ok (.getfield 34, 3) := by decide +kernel
theorem dX2_exploreSparing_56 : decode cX2_exploreSparing 56 = .ok (.invokevirtual 56, 3) := by decide +kernel
theorem dX2_exploreSparing_59 : decode cX2_exploreSparing 59 = .ok (.aload_n 0, 1) := by decide +kernel
theorem dX2_exploreSparing_60 : decode cX2_exploreSparing 60 = .ok (.iconst 1, 1) := by decide +kernel
theorem dX2_exploreSparing_61 : decode cX2_exploreSparing 61 = .ok (.putfield 49, 3) := by decide +kernel
theorem dX2_exploreSparing_64 : decode cX2_exploreSparing 64 = .ok (.return_, 1) := by decide +kernel
set_option maxRecDepth 20000 in
theorem ggX2_countWays_J7_fill_d0a16 : GoodIn wsX2_countWays wsJ7_fill_d0a16 := goodIn_r _ [18] (by decide +kernel) (by decide +kernel)
set_option maxRecDepth 20000 in
theorem gX2_countWays_J7_fill_d0a16 : GoodIn wsX2_countWays (va_wsS RX2 68 yJ7_fill_d0a16 wsJ7_fill_d0a16) := goodIn_app (goodIn_of _ (by decide +kernel)) ggX2_countWays_J7_fill_d0a16
set_option maxRecDepth 20000 in
theorem ggX2_countWays_X1_code : GoodIn wsX2_countWays wsX1_code := goodIn_r _ [23, 24, 25, 26, 61, 62, 63, 64, 65, 66, 67] (by decide +kernel) (by decide +kernel)
set_option maxRecDepth 20000 in
theorem gX2_countWays_X1_code : GoodIn wsX2_countWays (wsV RX2 74 RX1 yX1_code wsX1_code) := goodIn_app (goodIn_of _ (by decide +kernel)) ggX2_countWays_X1_code
set_option maxRecDepth 20000 in
theorem ggX2_countWays_X1_stand : GoodIn wsX2_countWays wsX1_stand := goodIn_r _ [30, 24, 31, 25, 61, 62, 63, 64, 65, 66, 67] (by decide +kernel) (by decide +kernel)
set_option maxRecDepth 20000 in
theorem gX2_countWays_X1_stand : GoodIn wsX2_countWays (wsV RX2 85 RX1 yX1_stand wsX1_stand) := goodIn_app (goodIn_of _ (by decide +kernel)) ggX2_countWays_X1_stand
set_option maxRecDepth 20000 in
theorem ggX2_countWays_X1_shiftBy : GoodIn wsX2_countWays wsX1_shiftBy := goodIn_r _ [35, 26, 36, 37, 38, 22, 39, 24, 25, 40, 31, 41, 61, 62, 63, 64, 65, 66, 67] (by decide +kernel) (by decide +kernel)
set_option maxRecDepth 20000 in
theorem gX2_countWays_X1_shiftBy : GoodIn wsX2_countWays (wsV RX2 89 RX1 yX1_shiftBy wsX1_shiftBy) := goodIn_app (goodIn_of _ (by decide +kernel)) ggX2_countWays_X1_shiftBy
set_option maxRecDepth 20000 in
theorem ggX2_countWays_X4_knows : GoodIn wsX2_countWays wsX4_knows := goodIn_r _ [46, 47, 57, 58, 59, 60] (by decide +kernel) (by decide +kernel)
set_option maxRecDepth 20000 in
theorem gX2_countWays_X4_knows : GoodIn wsX2_countWays (wsV RX2 93 RX4 yX4_knows wsX4_knows) := goodIn_app (goodIn_of _ (by decide +kernel)) ggX2_countWays_X4_knows
theorem dX2_countWays_0 : decode cX2_countWays 0 = .ok (.aload_n 0, 1) := by decide +kernel
theorem dX2_countWays_1 : decode cX2_countWays 1 = .ok (.getfield 46, 3) := by decide +kernel
theorem dX2_countWays_4 : decode cX2_countWays 4 = .ok (.ifCond .eq 4, 3) := by decide +kernel
theorem dX2_countWays_7 : decode cX2_countWays 7 = .ok (.return_, 1) := by decide +kernel
theorem dX2_countWays_8 : decode cX2_countWays 8 = .ok (.aload_n 0, 1) := by decide +kernel
theorem dX2_countWays_9 : decode cX2_countWays 9 = .ok (.getfield 38, 3) := by decide +kernel
theorem dX2_countWays_12 : decode cX2_countWays 12 = .ok (.arraylength, 1) := by decide +kernel
theorem dX2_countWays_13 : decode cX2_countWays 13 = .ok (.aload_n 0, 1) := by decide +kernel
theorem dX2_countWays_14 : decode cX2_countWays 14 = .ok (.getfield 24, 3) := by decide +kernel
theorem dX2_countWays_17 : decode cX2_countWays 17 = .ok (.getfield 64, 3) := by decide +kernel
theorem dX2_countWays_20 : decode cX2_countWays 20 = .ok (.arraylength, 1) := by decide +kernel
theorem dX2_countWays_21 : decode cX2_countWays 21 = .ok (.if_icmp .ge 17, 3) := by decide +kernel
theorem dX2_countWays_24 : decode cX2_countWays 24 = .ok (.aload_n 0, 1) := by decide +kernel
theorem dX2_countWays_25 : decode cX2_countWays 25 = .ok (.aload_n 0, 1) := by decide +kernel
theorem dX2_countWays_26 : decode cX2_countWays 26 = .ok (.getfield 24, 3) := by decide +kernel
theorem dX2_countWays_29 : decode cX2_countWays 29 = .ok (.getfield 64, 3) := by decide +kernel
theorem dX2_countWays_32 : decode cX2_countWays 32 = .ok (.arraylength, 1) := by decide +kernel
theorem dX2_countWays_33 : decode cX2_countWays 33 = .ok (.newarray .long, 2) := by decide +kernel
theorem dX2_countWays_35 : decode cX2_countWays 35 = .ok (.putfield 38, 3) := by decide +kernel
theorem dX2_countWays_38 : decode cX2_countWays 38 = .ok (.aload_n 0, 1) := by decide +kernel
theorem dX2_countWays_39 : decode cX2_countWays 39 = .ok (.getfield 38, 3) := by decide +kernel
theorem dX2_countWays_42 : decode cX2_countWays 42 = .ok (.lconst 0, 1) := by decide +kernel
theorem dX2_countWays_43 : decode cX2_countWays 43 = .ok (.invokestatic 68, 3) := by decide +kernel
theorem dX2_countWays_46 : decode cX2_countWays 46 = .ok (.aload_n 0, 1) := by decide +kernel
theorem dX2_countWays_47 : decode cX2_countWays 47 = .ok (.getfield 12, 3) := by decide +kernel
theorem dX2_countWays_50 : decode cX2_countWays 50 = .ok (.invokevirtual 74, 3) := by decide +kernel
theorem dX2_countWays_53 : decode cX2_countWays 53 = .ok (.istore_n 1, 1) := by decide +kernel
theorem dX2_countWays_54 : decode cX2_countWays 54 = .ok (.iload_n 1, 1) := by decide +kernel
theorem dX2_countWays_55 : decode cX2_countWays 55 = .ok (.ifCond .lt 19, 3) := by decide +kernel
theorem dX2_countWays_58 : decode cX2_countWays 58 = .ok (.iload_n 1, 1) := by decide +kernel
theorem dX2_countWays_59 : decode cX2_countWays 59 = .ok (.aload_n 0, 1) := by decide +kernel
theorem dX2_countWays_60 : decode cX2_countWays 60 = .ok (.getfield 38, 3) := by decide +kernel
theorem dX2_countWays_63 : decode cX2_countWays 63 = .ok (.arraylength, 1) := by decide +kernel
theorem dX2_countWays_64 : decode cX2_countWays 64 = .ok (.if_icmp .ge 10, 3) := by decide +kernel
theorem dX2_countWays_67 : decode cX2_countWays 67 = .ok (.aload_n 0, 1) := by decide +kernel
theorem dX2_countWays_68 : decode cX2_countWays 68 = .ok (.getfield 38, 3) := by decide +kernel
theorem dX2_countWays_71 : decode cX2_countWays 71 = .ok (.iload_n 1, 1) := by decide +kernel
theorem dX2_countWays_72 : decode cX2_countWays 72 = .ok (.lconst 1, 1) := by decide +kernel
theorem dX2_countWays_73 : decode cX2_countWays 73 = .ok (.lastore, 1) := by decide +kernel
theorem dX2_countWays_74 : decode cX2_countWays 74 = .ok (.iconst 0, 1) := by decide +kernel
theorem dX2_countWays_75 : decode cX2_countWays 75 = .ok (.istore_n 2, 1) := by decide +kernel
theorem dX2_countWays_76 : decode cX2_countWays 76 = .ok (.iload_n 2, 1) := by decide +kernel
theorem dX2_countWays_77 : decode cX2_countWays 77 = .ok (.aload_n 0, 1) := by decide +kernel
theorem dX2_countWays_78 : decode cX2_countWays 78 = .ok (.getfield 24, 3) := by decide +kernel
theorem dX2_countWays_81 : decode cX2_countWays 81 = .ok (.getfield 78, 3) := by decide +kernel
theorem dX2_countWays_84 : decode cX2_countWays 84 = .ok (.if_icmp .ge 131, 3) := by decide +kernel
theorem dX2_countWays_87 : decode cX2_countWays 87 = .ok (.iload_n 2, 1) := by decide +kernel
theorem dX2_countWays_88 : decode cX2_countWays 88 = .ok (.aload_n 0, 1) := by decide +kernel
theorem dX2_countWays_89 : decode cX2_countWays 89 = .ok (.getfield 24, 3) := by decide +kernel
theorem dX2_countWays_92 : decode cX2_countWays 92 = .ok (.getfield 82, 3) := by decide +kernel
theorem dX2_countWays_95 : decode cX2_countWays 95 = .ok (.arraylength, 1) := by decide +kernel
theorem dX2_countWays_96 : decode cX2_countWays 96 = .ok (.if_icmp .ge 119, 3) := by decide +kernel
theorem dX2_countWays_99 : decode cX2_countWays 99 = .ok (.aload_n 0, 1) := by decide +kernel
theorem dX2_countWays_100 : decode cX2_countWays 100 = .ok (.getfield 24, 3) := by decide +kernel
theorem dX2_countWays_103 : decode cX2_countWays 103 = .ok (.getfield 82, 3) := by decide +kernel
theorem dX2_countWays_106 : decode cX2_countWays 106 = .ok (.iload_n 2, 1) := by decide +kernel
theorem dX2_countWays_107 : decode cX2_countWays 107 = .ok (.iaload, 1) := by decide +kernel
theorem dX2_countWays_108 : decode cX2_countWays 108 = .ok (.istore_n 3, 1) := by decide +kernel
theorem dX2_countWays_109 : decode cX2_countWays 109 = .ok (.aload_n 0, 1) := by decide +kernel
theorem dX2_countWays_110 : decode cX2_countWays 110 = .ok (.getfield 18, 3) := by decide +kernel
theorem dX2_countWays_113 : decode cX2_countWays 113 = .ok (.iload_n 3, 1) := by decide +kernel
theorem dX2_countWays_114 : decode cX2_countWays 114 = .ok (.invokevirtual 85, 3) := by decide +kernel
theorem dX2_countWays_117 : decode cX2_countWays 117 = .ok (.iconst 0, 1) := by decide +kernel
theorem dX2_countWays_118 : decode cX2_countWays 118 = .ok (.istore 4, 2) := by decide +kernel
theorem dX2_countWays_120 : decode cX2_countWays 120 = .ok (.iload 4, 2) := by decide +kernel
theorem dX2_countWays_122 : decode cX2_countWays 122 = .ok (.bipush 24, 2) := by decide +kernel
theorem dX2_countWays_124 : decode cX2_countWays 124 = .ok (.if_icmp .ge 85, 3) := by decide +kernel
theorem dX2_countWays_127 : decode cX2_countWays 127 = .ok (.iload_n 3, 1) := by decide +kernel
theorem dX2_countWays_128 : decode cX2_countWays 128 = .ok (.aload_n 0, 1) := by decide +kernel
theorem dX2_countWays_129 : decode cX2_countWays 129 = .ok (.getfield 18, 3) := by decide +kernel
theorem dX2_countWays_132 : decode cX2_countWays 132 = .ok (.iload 4, 2) := by decide +kernel
theorem dX2_countWays_134 : decode cX2_countWays 134 = .ok (.invokevirtual 89, 3) := by decide +kernel
theorem dX2_countWays_137 : decode cX2_countWays 137 = .ok (.iadd, 1) := by decide +kernel
theorem dX2_countWays_138 : decode cX2_countWays 138 = .ok (.istore 5, 2) := by decide +kernel
theorem dX2_countWays_140 : decode cX2_countWays 140 = .ok (.aload_n 0, 1) := by decide +kernel
theorem dX2_countWays_141 : decode cX2_countWays 141 = .ok (.getfield 24, 3) := by decide +kernel
theorem dX2_countWays_144 : decode cX2_countWays 144 = .ok (.iload 5, 2) := by decide +kernel
theorem dX2_countWays_146 : decode cX2_countWays 146 = .ok (.invokevirtual 93, 3) := by decide +kernel
theorem dX2_countWays_149 : decode cX2_countWays 149 = .ok (.ifCond .eq 54, 3) := by decide +kernel
theorem dX2_countWays_152 : decode cX2_countWays 152 = .ok (.aload_n 0, 1) := by decide +kernel
theorem dX2_countWays_153 : decode cX2_countWays 153 = .ok (.getfield 24, 3) := by decide +kernel
theorem dX2_countWays_156 : decode cX2_countWays 156 = .ok (.getfield 64, 3) := by decide +kernel
theorem dX2_countWays_159 : decode cX2_countWays 159 = .ok (.iload 5, 2) := by decide +kernel
theorem dX2_countWays_161 : decode cX2_countWays 161 = .ok (.iaload, 1) := by decide +kernel
theorem dX2_countWays_162 : decode cX2_countWays 162 = .ok (.aload_n 0, 1) := by decide +kernel
theorem dX2_countWays_163 : decode cX2_countWays 163 = .ok (.getfield 24, 3) := by decide +kernel
theorem dX2_countWays_166 : decode cX2_countWays 166 = .ok (.getfield 64, 3) := by decide +kernel
theorem dX2_countWays_169 : decode cX2_countWays 169 = .ok (.iload_n 3, 1) := by decide +kernel
theorem dX2_countWays_170 : decode cX2_countWays 170 = .ok (.iaload, 1) := by decide +kernel
theorem dX2_countWays_171 : decode cX2_countWays 171 = .ok (.iconst 1, 1) := by decide +kernel
theorem dX2_countWays_172 : decode cX2_countWays 172 = .ok (.iadd, 1) := by decide +kernel
theorem dX2_countWays_173 : decode cX2_countWays 173 = .ok (.if_icmp .ne 30, 3) := by decide +kernel
theorem dX2_countWays_176 : decode cX2_countWays 176 = .ok (.aload_n 0, 1) := by decide +kernel
theorem dX2_countWays_177 : decode cX2_countWays 177 = .ok (.getfield 38, 3) := by decide +kernel
theorem dX2_countWays_180 : decode cX2_countWays 180 = .ok (.iload 5, 2) := by decide +kernel
theorem dX2_countWays_182 : decode cX2_countWays 182 = .ok (.ldc2_w 97, 3) := by decide +kernel
theorem dX2_countWays_185 : decode cX2_countWays 185 = .ok (.aload_n 0, 1) := by decide +kernel
theorem dX2_countWays_186 : decode cX2_countWays 186 = .ok (.getfield 38, 3) := by decide +kernel
theorem dX2_countWays_189 : decode cX2_countWays 189 = .ok (.iload 5, 2) := by decide +kernel
theorem dX2_countWays_191 : decode cX2_countWays 191 = .ok (.laload, 1) := by decide +kernel
theorem dX2_countWays_192 : decode cX2_countWays 192 = .ok (.aload_n 0, 1) := by decide +kernel
theorem dX2_countWays_193 : decode cX2_countWays 193 = .ok (.getfield 38, 3) := by decide +kernel
theorem dX2_countWays_196 : decode cX2_countWays 196 = .ok (.iload_n 3, 1) := by decide +kernel
theorem dX2_countWays_197 : decode cX2_countWays 197 = .ok (.laload, 1) := by decide +kernel
theorem dX2_countWays_198 : decode cX2_countWays 198 = .ok (.ladd, 1) := by decide +kernel
theorem dX2_countWays_199 : decode cX2_countWays 199 = .ok (.invokestatic 99, 3) := by decide +kernel
theorem dX2_countWays_202 : decode cX2_countWays 202 = .ok (.lastore, 1) := by decide +kernel
theorem dX2_countWays_203 : decode cX2_countWays 203 = .ok (.iinc 4 1, 3) := by decide +kernel
theorem dX2_countWays_206 : decode cX2_countWays 206 = .ok (.goto (-86), 3) := by decide +kernel
theorem dX2_countWays_209 : decode cX2_countWays 209 = .ok (.iinc 2 1, 3) := by decide +kernel
theorem dX2_countWays_212 : decode cX2_countWays 212 = .ok (.goto (-136), 3) := by decide +kernel
theorem dX2_countWays_215 : decode cX2_countWays 215 = .ok (.aload_n 0, 1) := by decide +kernel
theorem dX2_countWays_216 : decode cX2_countWays 216 = .ok (.iconst 1, 1) := by decide +kernel
theorem dX2_countWays_217 : decode cX2_countWays 217 = .ok (.putfield 46, 3) := by decide +kernel
theorem dX2_countWays_220 : decode cX2_countWays 220 = .ok (.return_, 1) := by decide +kernel
set_option maxRecDepth 20000 in
theorem ggX2_nearest_X1_stand : GoodIn wsX2_nearest wsX1_stand := goodIn_r _ [9, 10, 11, 12, 34, 35, 36, 37, 38, 39, 40] (by decide +kernel) (by decide +kernel)
set_option maxRecDepth 20000 in
theorem gX2_nearest_X1_stand : GoodIn wsX2_nearest (wsV RX2 85 RX1 yX1_stand wsX1_stand) := goodIn_app (goodIn_of _ (by decide +kernel)) ggX2_nearest_X1_stand
set_option maxRecDepth 20000 in
theorem ggX2_nearest_X1_meet : GoodIn wsX2_nearest wsX1_meet := goodIn_r _ [16, 12, 10, 17, 18, 19, 8, 20, 34, 35, 36, 37, 38, 39, 40] (by decide +kernel) (by decide +kernel)
set_option maxRecDepth 20000 in
theorem gX2_nearest_X1_meet : GoodIn wsX2_nearest (wsV RX2 105 RX1 yX1_meet wsX1_meet) := goodIn_app (goodIn_of _ (by decide +kernel)) ggX2_nearest_X1_meet
theorem dX2_nearest_0 : decode cX2_nearest 0 = .ok (.iconst 0, 1) := by decide +kernel
theorem dX2_nearest_1 : decode cX2_nearest 1 = .ok (.istore_n 3, 1) := by decide +kernel
theorem dX2_nearest_2 : decode cX2_nearest 2 = .ok (.iload_n 3, 1) := by decide +kernel
theorem dX2_nearest_3 : decode cX2_nearest 3 = .ok (.aload_n 0, 1) := by decide +kernel
theorem dX2_nearest_4 : decode cX2_nearest 4 = .ok (.getfield 24, 3) := by decide +kernel
theorem dX2_nearest_7 : decode cX2_nearest 7 = .ok (.getfield 78, 3) := by decide +kernel
theorem dX2_nearest_10 : decode cX2_nearest 10 = .ok (.if_icmp .ge 59, 3) := by decide +kernel
theorem dX2_nearest_13 : decode cX2_nearest 13 = .ok (.iload_n 3, 1) := by decide +kernel
theorem dX2_nearest_14 : decode cX2_nearest 14 = .ok (.aload_n 0, 1) := by decide +kernel
theorem dX2_nearest_15 : decode cX2_nearest 15 = .ok (.getfield 24, 3) := by decide +kernel
theorem dX2_nearest_18 : decode cX2_nearest 18 = .ok (.getfield 82, 3) := by decide +kernel
theorem dX2_nearest_21 : decode cX2_nearest 21 = .ok (.arraylength, 1) := by decide +kernel
theorem dX2_nearest_22 : decode cX2_nearest 22 = .ok (.if_icmp .ge 47, 3) := by decide +kernel
theorem dX2_nearest_25 : decode cX2_nearest 25 = .ok (.aload_n 0, 1) := by decide +kernel
theorem dX2_nearest_26 : decode cX2_nearest 26 = .ok (.getfield 18, 3) := by decide +kernel
theorem dX2_nearest_29 : decode cX2_nearest 29 = .ok (.aload_n 0, 1) := by decide +kernel
theorem dX2_nearest_30 : decode cX2_nearest 30 = .ok (.getfield 24, 3) := by decide +kernel
theorem dX2_nearest_33 : decode cX2_nearest 33 = .ok (.getfield 82, 3) := by decide +kernel
theorem dX2_nearest_36 : decode cX2_nearest 36 = .ok (.iload_n 3, 1) := by decide +kernel
theorem dX2_nearest_37 : decode cX2_nearest 37 = .ok (.iaload, 1) := by decide +kernel
theorem dX2_nearest_38 : decode cX2_nearest 38 = .ok (.invokevirtual 85, 3) := by decide +kernel
theorem dX2_nearest_41 : decode cX2_nearest 41 = .ok (.aload_n 0, 1) := by decide +kernel
theorem dX2_nearest_42 : decode cX2_nearest 42 = .ok (.getfield 18, 3) := by decide +kernel
theorem dX2_nearest_45 : decode cX2_nearest 45 = .ok (.iload_n 1, 1) := by decide +kernel
theorem dX2_nearest_46 : decode cX2_nearest 46 = .ok (.iload_n 2, 1) := by decide +kernel
theorem dX2_nearest_47 : decode cX2_nearest 47 = .ok (.invokevirtual 105, 3) := by decide +kernel
theorem dX2_nearest_50 : decode cX2_nearest 50 = .ok (.ifCond .eq 13, 3) := by decide +kernel
theorem dX2_nearest_53 : decode cX2_nearest 53 = .ok (.aload_n 0, 1) := by decide +kernel
theorem dX2_nearest_54 : decode cX2_nearest 54 = .ok (.getfield 24, 3) := by decide +kernel
theorem dX2_nearest_57 : decode cX2_nearest 57 = .ok (.getfield 82, 3) := by decide +kernel
theorem dX2_nearest_60 : decode cX2_nearest 60 = .ok (.iload_n 3, 1) := by decide +kernel
theorem dX2_nearest_61 : decode cX2_nearest 61 = .ok (.iaload, 1) := by decide +kernel
theorem dX2_nearest_62 : decode cX2_nearest 62 = .ok (.ireturn, 1) := by decide +kernel
theorem dX2_nearest_63 : decode cX2_nearest 63 = .ok (.iinc 3 1, 3) := by decide +kernel
theorem dX2_nearest_66 : decode cX2_nearest 66 = .ok (.goto (-64), 3) := by decide +kernel
theorem dX2_nearest_69 : decode cX2_nearest 69 = .ok (.iconst (-1), 1) := by decide +kernel
theorem dX2_nearest_70 : decode cX2_nearest 70 = .ok (.ireturn, 1) := by decide +kernel
set_option maxRecDepth 20000 in
theorem ggX2_thriftiest_X1_stand : GoodIn wsX2_thriftiest wsX1_stand := goodIn_r _ [10, 11, 12, 13, 41, 42, 43, 44, 45, 46, 47] (by decide +kernel) (by decide +kernel)
set_option maxRecDepth 20000 in
theorem gX2_thriftiest_X1_stand : GoodIn wsX2_thriftiest (wsV RX2 85 RX1 yX1_stand wsX1_stand) := goodIn_app (goodIn_of _ (by decide +kernel)) ggX2_thriftiest_X1_stand
set_option maxRecDepth 20000 in
theorem ggX2_thriftiest_X1_meet : GoodIn wsX2_thriftiest wsX1_meet := goodIn_r _ [17, 13, 11, 18, 19, 20, 9, 21, 41, 42, 43, 44, 45, 46, 47] (by decide +kernel) (by decide +kernel)
set_option maxRecDepth 20000 in
theorem gX2_thriftiest_X1_meet : GoodIn wsX2_thriftiest (wsV RX2 105 RX1 yX1_meet wsX1_meet) := goodIn_app (goodIn_of _ (by decide +kernel)) ggX2_thriftiest_X1_meet
set_option maxRecDepth 20000 in
theorem ggX2_thriftiest_X3_leastFor : GoodIn wsX2_thriftiest wsX3_leastFor := goodIn_r _ [26, 27, 48, 49] (by decide +kernel) (by decide +kernel)
set_option maxRecDepth 20000 in
theorem gX2_thriftiest_X3_leastFor : GoodIn wsX2_thriftiest (wsV RX2 109 RX3 yX3_leastFor wsX3_leastFor) := goodIn_app (goodIn_of _ (by decide +kernel)) ggX2_thriftiest_X3_leastFor
theorem dX2_thriftiest_0 : decode cX2_thriftiest 0 = .ok (.iconst (-1), 1) := by decide +kernel
theorem dX2_thriftiest_1 : decode cX2_thriftiest 1 = .ok (.istore_n 3, 1) := by decide +kernel
theorem dX2_thriftiest_2 : decode cX2_thriftiest 2 = .ok (.iconst 0, 1) := by decide +kernel
theorem dX2_thriftiest_3 : decode cX2_thriftiest 3 = .ok (.istore 4, 2) := by decide +kernel
theorem dX2_thriftiest_5 : decode cX2_thriftiest 5 = .ok (.iload 4, 2) := by decide +kernel
theorem dX2_thriftiest_7 : decode cX2_thriftiest 7 = .ok (.aload_n 0, 1) := by decide +kernel
theorem dX2_thriftiest_8 : decode cX2_thriftiest 8 = .ok (.getfield 28, 3) := by decide +kernel
theorem dX2_thriftiest_11 : decode cX2_thriftiest 11 = .ok (.getfield 78, 3) := by decide +kernel
theorem dX2_thriftiest_14 : decode cX2_thriftiest 14 = .ok (.if_icmp .ge 83, 3) := by decide +kernel
theorem dX2_thriftiest_17 : decode cX2_thriftiest 17 = .ok (.iload 4, 2) := by decide +kernel
theorem dX2_thriftiest_19 : decode cX2_thriftiest 19 = .ok (.aload_n 0, 1) := by decide +kernel
theorem dX2_thriftiest_20 : decode cX2_thriftiest 20 = .ok (.getfield 28, 3) := by decide +kernel
theorem dX2_thriftiest_23 : decode cX2_thriftiest 23 = .ok (.getfield 82, 3) := by decide +kernel
theorem dX2_thriftiest_26 : decode cX2_thriftiest 26 = .ok (.arraylength, 1) := by decide +kernel
theorem dX2_thriftiest_27 : decode cX2_thriftiest 27 = .ok (.if_icmp .ge 70, 3) := by decide +kernel
theorem dX2_thriftiest_30 : decode cX2_thriftiest 30 = .ok (.aload_n 0, 1) := by decide +kernel
theorem dX2_thriftiest_31 : decode cX2_thriftiest 31 = .ok (.getfield 28, 3) := by decide +kernel
theorem dX2_thriftiest_34 : decode cX2_thriftiest 34 = .ok (.getfield 82, 3) := by decide +kernel
theorem dX2_thriftiest_37 : decode cX2_thriftiest 37 = .ok (.iload 4, 2) := by decide +kernel
theorem dX2_thriftiest_39 : decode cX2_thriftiest 39 = .ok (.iaload, 1) := by decide +kernel
theorem dX2_thriftiest_40 : decode cX2_thriftiest 40 = .ok (.istore 5, 2) := by decide +kernel
theorem dX2_thriftiest_42 : decode cX2_thriftiest 42 = .ok (.aload_n 0, 1) := by decide +kernel
theorem dX2_thriftiest_43 : decode cX2_thriftiest 43 = .ok (.getfield 18, 3) := by decide +kernel
theorem dX2_thriftiest_46 : decode cX2_thriftiest 46 = .ok (.iload 5, 2) := by decide +kernel
theorem dX2_thriftiest_48 : decode cX2_thriftiest 48 = .ok (.invokevirtual 85, 3) := by decide +kernel
theorem dX2_thriftiest_51 : decode cX2_thriftiest 51 = .ok (.aload_n 0, 1) := by decide +kernel
theorem dX2_thriftiest_52 : decode cX2_thriftiest 52 = .ok (.getfield 18, 3) := by decide +kernel
theorem dX2_thriftiest_55 : decode cX2_thriftiest 55 = .ok (.iload_n 1, 1) := by decide +kernel
theorem dX2_thriftiest_56 : decode cX2_thriftiest 56 = .ok (.iload_n 2, 1) := by decide +kernel
theorem dX2_thriftiest_57 : decode cX2_thriftiest 57 = .ok (.invokevirtual 105, 3) := by decide +kernel
theorem dX2_thriftiest_60 : decode cX2_thriftiest 60 = .ok (.ifCond .eq 31, 3) := by decide +kernel
theorem dX2_thriftiest_63 : decode cX2_thriftiest 63 = .ok (.iload_n 3, 1) := by decide +kernel
theorem dX2_thriftiest_64 : decode cX2_thriftiest 64 = .ok (.iconst (-1), 1) := by decide +kernel
theorem dX2_thriftiest_65 : decode cX2_thriftiest 65 = .ok (.if_icmp .eq 23, 3) := by decide +kernel
theorem dX2_thriftiest_68 : decode cX2_thriftiest 68 = .ok (.aload_n 0, 1) := by decide +kernel
theorem dX2_thriftiest_69 : decode cX2_thriftiest 69 = .ok (.getfield 34, 3) := by decide +kernel
theorem dX2_thriftiest_72 : decode cX2_thriftiest 72 = .ok (.iload 5, 2) := by decide +kernel
theorem dX2_thriftiest_74 : decode cX2_thriftiest 74 = .ok (.invokevirtual 109, 3) := by decide +kernel
theorem dX2_thriftiest_77 : decode cX2_thriftiest 77 = .ok (.aload_n 0, 1) := by decide +kernel
theorem dX2_thriftiest_78 : decode cX2_thriftiest 78 = .ok (.getfield 34, 3) := by decide +kernel
theorem dX2_thriftiest_81 : decode cX2_thriftiest 81 = .ok (.iload_n 3, 1) := by decide +kernel
theorem dX2_thriftiest_82 : decode cX2_thriftiest 82 = .ok (.invokevirtual 109, 3) := by decide +kernel
theorem dX2_thriftiest_85 : decode cX2_thriftiest 85 = .ok (.if_icmp .ge 6, 3) := by decide +kernel
theorem dX2_thriftiest_88 : decode cX2_thriftiest 88 = .ok (.iload 5, 2) := by decide +kernel
theorem dX2_thriftiest_90 : decode cX2_thriftiest 90 = .ok (.istore_n 3, 1) := by decide +kernel
theorem dX2_thriftiest_91 : decode cX2_thriftiest 91 = .ok (.iinc 4 1, 3) := by decide +kernel
theorem dX2_thriftiest_94 : decode cX2_thriftiest 94 = .ok (.goto (-89), 3) := by decide +kernel
theorem dX2_thriftiest_97 : decode cX2_thriftiest 97 = .ok (.iload_n 3, 1) := by decide +kernel
theorem dX2_thriftiest_98 : decode cX2_thriftiest 98 = .ok (.ireturn, 1) := by decide +kernel
set_option maxRecDepth 20000 in
theorem ggX2_waysTo_X2_nearest : GoodIn wsX2_waysTo wsX2_nearest := goodIn_r _ [16, 1, 2, 3, 4, 17, 18, 19, 20, 21, 22, 23, 24, 25, 26, 27, 28, 29, 30, 31, 32, 43, 44, 45, 46, 47, 48, 49, 50, 51, 52, 53, 54, 55, 56, 57, 58, 59, 60, 61, 62] (by decide +kernel) (by decide +kernel)
set_option maxRecDepth 20000 in
theorem gX2_waysTo_X2_nearest : GoodIn wsX2_waysTo (wsV RX2 112 RX2 yX2_nearest wsX2_nearest) := goodIn_app (goodIn_of _ (by decide +kernel)) ggX2_waysTo_X2_nearest
set_option maxRecDepth 20000 in
theorem ggX2_waysTo_X4_acts : GoodIn wsX2_waysTo wsX4_acts := goodIn_r _ [37, 38, 39, 40, 41, 36, 42, 52, 53, 54, 55] (by decide +kernel) (by decide +kernel)
set_option maxRecDepth 20000 in
theorem gX2_waysTo_X4_acts : GoodIn wsX2_waysTo (wsV RX2 116 RX4 yX4_acts wsX4_acts) := goodIn_app (goodIn_of _ (by decide +kernel)) ggX2_waysTo_X4_acts
set_option maxRecDepth 20000 in
theorem ggX2_waysTo_X1_stand : GoodIn wsX2_waysTo wsX1_stand := goodIn_r _ [21, 22, 23, 24, 56, 57, 58, 59, 60, 61, 62] (by decide +kernel) (by decide +kernel)
set_option maxRecDepth 20000 in
theorem gX2_waysTo_X1_stand : GoodIn wsX2_waysTo (wsV RX2 85 RX1 yX1_stand wsX1_stand) := goodIn_app (goodIn_of _ (by decide +kernel)) ggX2_waysTo_X1_stand
set_option maxRecDepth 20000 in
theorem ggX2_waysTo_X1_meet : GoodIn wsX2_waysTo wsX1_meet := goodIn_r _ [28, 24, 22, 29, 30, 31, 20, 32, 56, 57, 58, 59, 60, 61, 62] (by decide +kernel) (by decide +kernel)
set_option maxRecDepth 20000 in
theorem gX2_waysTo_X1_meet : GoodIn wsX2_waysTo (wsV RX2 105 RX1 yX1_meet wsX1_meet) := goodIn_app (goodIn_of _ (by decide +kernel)) ggX2_waysTo_X1_meet
theorem dX2_waysTo_0 : decode cX2_waysTo 0 = .ok (.aload_n 0, 1) := by decide +kernel
theorem dX2_waysTo_1 : decode cX2_waysTo 1 = .ok (.getfield 24, 3) := by decide +kernel
theorem dX2_waysTo_4 : decode cX2_waysTo 4 = .ok (.aload_n 0, 1) := by decide +kernel
theorem dX2_waysTo_5 : decode cX2_waysTo 5 = .ok (.iload_n 1, 1) := by decide +kernel
theorem dX2_waysTo_6 : decode cX2_waysTo 6 = .ok (.iload_n 2, 1) := by decide +kernel
theorem dX2_waysTo_7 : decode cX2_waysTo 7 = .ok (.invokevirtual 112, 3) := by decide +kernel
theorem dX2_waysTo_10 : decode cX2_waysTo 10 = .ok (.invokevirtual 116, 3) := by decide +kernel
theorem dX2_waysTo_13 : decode cX2_waysTo 13 = .ok (.istore_n 3, 1) := by decide +kernel
theorem dX2_waysTo_14 : decode cX2_waysTo 14 = .ok (.lconst 0, 1) := by decide +kernel
theorem dX2_waysTo_15 : decode cX2_waysTo 15 = .ok (.lstore 4, 2) := by decide +kernel
theorem dX2_waysTo_17 : decode cX2_waysTo 17 = .ok (.iconst 0, 1) := by decide +kernel
theorem dX2_waysTo_18 : decode cX2_waysTo 18 = .ok (.istore 6, 2) := by decide +kernel
theorem dX2_waysTo_20 : decode cX2_waysTo 20 = .ok (.iload 6, 2) := by decide +kernel
theorem dX2_waysTo_22 : decode cX2_waysTo 22 = .ok (.aload_n 0, 1) := by decide +kernel
theorem dX2_waysTo_23 : decode cX2_waysTo 23 = .ok (.getfield 24, 3) := by decide +kernel
theorem dX2_waysTo_26 : decode cX2_waysTo 26 = .ok (.getfield 78, 3) := by decide +kernel
theorem dX2_waysTo_29 : decode cX2_waysTo 29 = .ok (.if_icmp .ge 87, 3) := by decide +kernel
theorem dX2_waysTo_32 : decode cX2_waysTo 32 = .ok (.iload 6, 2) := by decide +kernel
theorem dX2_waysTo_34 : decode cX2_waysTo 34 = .ok (.aload_n 0, 1) := by decide +kernel
theorem dX2_waysTo_35 : decode cX2_waysTo 35 = .ok (.getfield 24, 3) := by decide +kernel
theorem dX2_waysTo_38 : decode cX2_waysTo 38 = .ok (.getfield 82, 3) := by decide +kernel
theorem dX2_waysTo_41 : decode cX2_waysTo 41 = .ok (.arraylength, 1) := by decide +kernel
theorem dX2_waysTo_42 : decode cX2_waysTo 42 = .ok (.if_icmp .ge 74, 3) := by decide +kernel
theorem dX2_waysTo_45 : decode cX2_waysTo 45 = .ok (.aload_n 0, 1) := by decide +kernel
theorem dX2_waysTo_46 : decode cX2_waysTo 46 = .ok (.getfield 24, 3) := by decide +kernel
theorem dX2_waysTo_49 : decode cX2_waysTo 49 = .ok (.getfield 82, 3) := by decide +kernel
theorem dX2_waysTo_52 : decode cX2_waysTo 52 = .ok (.iload 6, 2) := by decide +kernel
theorem dX2_waysTo_54 : decode cX2_waysTo 54 = .ok (.iaload, 1) := by decide +kernel
theorem dX2_waysTo_55 : decode cX2_waysTo 55 = .ok (.istore 7, 2) := by decide +kernel
theorem dX2_waysTo_57 : decode cX2_waysTo 57 = .ok (.aload_n 0, 1) := by decide +kernel
theorem dX2_waysTo_58 : decode cX2_waysTo 58 = .ok (.getfield 18, 3) := by decide +kernel
theorem dX2_waysTo_61 : decode cX2_waysTo 61 = .ok (.iload 7, 2) := by decide +kernel
theorem dX2_waysTo_63 : decode cX2_waysTo 63 = .ok (.invokevirtual 85, 3) := by decide +kernel
theorem dX2_waysTo_66 : decode cX2_waysTo 66 = .ok (.aload_n 0, 1) := by decide +kernel
theorem dX2_waysTo_67 : decode cX2_waysTo 67 = .ok (.getfield 24, 3) := by decide +kernel
theorem dX2_waysTo_70 : decode cX2_waysTo 70 = .ok (.getfield 64, 3) := by decide +kernel
theorem dX2_waysTo_73 : decode cX2_waysTo 73 = .ok (.iload 7, 2) := by decide +kernel
theorem dX2_waysTo_75 : decode cX2_waysTo 75 = .ok (.iaload, 1) := by decide +kernel
theorem dX2_waysTo_76 : decode cX2_waysTo 76 = .ok (.iload_n 3, 1) := by decide +kernel
theorem dX2_waysTo_77 : decode cX2_waysTo 77 = .ok (.if_icmp .ne 33, 3) := by decide +kernel
theorem dX2_waysTo_80 : decode cX2_waysTo 80 = .ok (.aload_n 0, 1) := by decide +kernel
theorem dX2_waysTo_81 : decode cX2_waysTo 81 = .ok (.getfield 18, 3) := by decide +kernel
theorem dX2_waysTo_84 : decode cX2_waysTo 84 = .ok (.iload_n 1, 1) := by decide +kernel
theorem dX2_waysTo_85 : decode cX2_waysTo 85 = .ok (.iload_n 2, 1) := by decide +kernel
theorem dX2_waysTo_86 : decode cX2_waysTo 86 = .ok (.invokevirtual 105, 3) := by decide +kernel
theorem dX2_waysTo_89 : decode cX2_waysTo 89 = .ok (.ifCond .eq 21, 3) := by decide +kernel
theorem dX2_waysTo_92 : decode cX2_waysTo 92 = .ok (.ldc2_w 97, 3) := by decide +kernel
theorem dX2_waysTo_95 : decode cX2_waysTo 95 = .ok (.lload 4, 2) := by decide +kernel
theorem dX2_waysTo_97 : decode cX2_waysTo 97 = .ok (.aload_n 0, 1) := by decide +kernel
theorem dX2_waysTo_98 : decode cX2_waysTo 98 = .ok (.getfield 38, 3) := by decide +kernel
theorem dX2_waysTo_101 : decode cX2_waysTo 101 = .ok (.iload 7, 2) := by decide +kernel
theorem dX2_waysTo_103 : decode cX2_waysTo 103 = .ok (.laload, 1) := by decide +kernel
theorem dX2_waysTo_104 : decode cX2_waysTo 104 = .ok (.ladd, 1) := by decide +kernel
theorem dX2_waysTo_105 : decode cX2_waysTo 105 = .ok (.invokestatic 99, 3) := by decide +kernel
theorem dX2_waysTo_108 : decode cX2_waysTo 108 = .ok (.lstore 4, 2) := by decide +kernel
theorem dX2_waysTo_110 : decode cX2_waysTo 110 = .ok (.iinc 6 1, 3) := by decide +kernel
theorem dX2_waysTo_113 : decode cX2_waysTo 113 = .ok (.goto (-93), 3) := by decide +kernel
theorem dX2_waysTo_116 : decode cX2_waysTo 116 = .ok (.lload 4, 2) := by decide +kernel
theorem dX2_waysTo_118 : decode cX2_waysTo 118 = .ok (.lreturn, 1) := by decide +kernel
set_option maxRecDepth 20000 in
theorem ggX2_allHeld_X1_stand : GoodIn wsX2_allHeld wsX1_stand := goodIn_r _ [11, 12, 13, 14, 28, 29, 30, 31, 32, 33, 34] (by decide +kernel) (by decide +kernel)
set_option maxRecDepth 20000 in
theorem gX2_allHeld_X1_stand : GoodIn wsX2_allHeld (wsV RX2 85 RX1 yX1_stand wsX1_stand) := goodIn_app (goodIn_of _ (by decide +kernel)) ggX2_allHeld_X1_stand
theorem dX2_allHeld_0 : decode cX2_allHeld 0 = .ok (.iconst 0, 1) := by decide +kernel
theorem dX2_allHeld_1 : decode cX2_allHeld 1 = .ok (.istore_n 1, 1) := by decide +kernel
theorem dX2_allHeld_2 : decode cX2_allHeld 2 = .ok (.iconst 0, 1) := by decide +kernel
theorem dX2_allHeld_3 : decode cX2_allHeld 3 = .ok (.istore_n 2, 1) := by decide +kernel
theorem dX2_allHeld_4 : decode cX2_allHeld 4 = .ok (.iload_n 2, 1) := by decide +kernel
theorem dX2_allHeld_5 : decode cX2_allHeld 5 = .ok (.aload_n 0, 1) := by decide +kernel
theorem dX2_allHeld_6 : decode cX2_allHeld 6 = .ok (.getfield 24, 3) := by decide +kernel
theorem dX2_allHeld_9 : decode cX2_allHeld 9 = .ok (.getfield 78, 3) := by decide +kernel
theorem dX2_allHeld_12 : decode cX2_allHeld 12 = .ok (.if_icmp .ge 75, 3) := by decide +kernel
theorem dX2_allHeld_15 : decode cX2_allHeld 15 = .ok (.iload_n 2, 1) := by decide +kernel
theorem dX2_allHeld_16 : decode cX2_allHeld 16 = .ok (.aload_n 0, 1) := by decide +kernel
theorem dX2_allHeld_17 : decode cX2_allHeld 17 = .ok (.getfield 24, 3) := by decide +kernel
theorem dX2_allHeld_20 : decode cX2_allHeld 20 = .ok (.getfield 82, 3) := by decide +kernel
theorem dX2_allHeld_23 : decode cX2_allHeld 23 = .ok (.arraylength, 1) := by decide +kernel
theorem dX2_allHeld_24 : decode cX2_allHeld 24 = .ok (.if_icmp .ge 63, 3) := by decide +kernel
theorem dX2_allHeld_27 : decode cX2_allHeld 27 = .ok (.aload_n 0, 1) := by decide +kernel
theorem dX2_allHeld_28 : decode cX2_allHeld 28 = .ok (.getfield 18, 3) := by decide +kernel
theorem dX2_allHeld_31 : decode cX2_allHeld 31 = .ok (.aload_n 0, 1) := by decide +kernel
theorem dX2_allHeld_32 : decode cX2_allHeld 32 = .ok (.getfield 24, 3) := by decide +kernel
theorem dX2_allHeld_35 : decode cX2_allHeld 35 = .ok (.getfield 82, 3) := by decide +kernel
theorem dX2_allHeld_38 : decode cX2_allHeld 38 = .ok (.iload_n 2, 1) := by decide +kernel
theorem dX2_allHeld_39 : decode cX2_allHeld 39 = .ok (.iaload, 1) := by decide +kernel
theorem dX2_allHeld_40 : decode cX2_allHeld 40 = .ok (.invokevirtual 85, 3) := by decide +kernel
theorem dX2_allHeld_43 : decode cX2_allHeld 43 = .ok (.iconst 0, 1) := by decide +kernel
theorem dX2_allHeld_44 : decode cX2_allHeld 44 = .ok (.istore_n 3, 1) := by decide +kernel
theorem dX2_allHeld_45 : decode cX2_allHeld 45 = .ok (.iload_n 3, 1) := by decide +kernel
theorem dX2_allHeld_46 : decode cX2_allHeld 46 = .ok (.aload_n 0, 1) := by decide +kernel
theorem dX2_allHeld_47 : decode cX2_allHeld 47 = .ok (.getfield 18, 3) := by decide +kernel
theorem dX2_allHeld_50 : decode cX2_allHeld 50 = .ok (.getfield 119, 3) := by decide +kernel
theorem dX2_allHeld_53 : decode cX2_allHeld 53 = .ok (.if_icmp .ge 28, 3) := by decide +kernel
theorem dX2_allHeld_56 : decode cX2_allHeld 56 = .ok (.iload_n 3, 1) := by decide +kernel
theorem dX2_allHeld_57 : decode cX2_allHeld 57 = .ok (.iconst 4, 1) := by decide +kernel
theorem dX2_allHeld_58 : decode cX2_allHeld 58 = .ok (.if_icmp .ge 23, 3) := by decide +kernel
theorem dX2_allHeld_61 : decode cX2_allHeld 61 = .ok (.iload_n 1, 1) := by decide +kernel
theorem dX2_allHeld_62 : decode cX2_allHeld 62 = .ok (.iconst 1, 1) := by decide +kernel
theorem dX2_allHeld_63 : decode cX2_allHeld 63 = .ok (.aload_n 0, 1) := by decide +kernel
theorem dX2_allHeld_64 : decode cX2_allHeld 64 = .ok (.getfield 18, 3) := by decide +kernel
theorem dX2_allHeld_67 : decode cX2_allHeld 67 = .ok (.getfield 122, 3) := by decide +kernel
theorem dX2_allHeld_70 : decode cX2_allHeld 70 = .ok (.iload_n 3, 1) := by decide +kernel
theorem dX2_allHeld_71 : decode cX2_allHeld 71 = .ok (.iaload, 1) := by decide +kernel
theorem dX2_allHeld_72 : decode cX2_allHeld 72 = .ok (.ishl, 1) := by decide +kernel
theorem dX2_allHeld_73 : decode cX2_allHeld 73 = .ok (.ior, 1) := by decide +kernel
theorem dX2_allHeld_74 : decode cX2_allHeld 74 = .ok (.istore_n 1, 1) := by decide +kernel
theorem dX2_allHeld_75 : decode cX2_allHeld 75 = .ok (.iinc 3 1, 3) := by decide +kernel
theorem dX2_allHeld_78 : decode cX2_allHeld 78 = .ok (.goto (-33), 3) := by decide +kernel
theorem dX2_allHeld_81 : decode cX2_allHeld 81 = .ok (.iinc 2 1, 3) := by decide +kernel
theorem dX2_allHeld_84 : decode cX2_allHeld 84 = .ok (.goto (-80), 3) := by decide +kernel
theorem dX2_allHeld_87 : decode cX2_allHeld 87 = .ok (.iload_n 1, 1) := by decide +kernel
theorem dX2_allHeld_88 : decode cX2_allHeld 88 = .ok (.ireturn, 1) := by decide +kernel
theorem dX3_init_0 : decode cX3_init 0 = .ok (.aload_n 0, 1) := by decide +kernel
theorem dX3_init_1 : decode cX3_init 1 = .ok (.invokespecial 3, 3) := by decide +kernel
theorem dX3_init_4 : decode cX3_init 4 = .ok (.aload_n 0, 1) := by decide +kernel
theorem dX3_init_5 : decode cX3_init 5 = .ok (.iconst 0, 1) := by decide +kernel
theorem dX3_init_6 : decode cX3_init 6 = .ok (.newarray .int, 2) := by decide +kernel
theorem dX3_init_8 : decode cX3_init 8 = .ok (.putfield 9, 3) := by decide +kernel
theorem dX3_init_11 : decode cX3_init 11 = .ok (.aload_n 0, 1) := by decide +kernel
theorem dX3_init_12 : decode cX3_init 12 = .ok (.iconst 0, 1) := by decide +kernel
theorem dX3_init_13 : decode cX3_init 13 = .ok (.newarray .int, 2) := by decide +kernel
theorem dX3_init_15 : decode cX3_init 15 = .ok (.putfield 15, 3) := by decide +kernel
theorem dX3_init_18 : decode cX3_init 18 = .ok (.return_, 1) := by decide +kernel
set_option maxRecDepth 20000 in
theorem ggX3_measure_J7_fill_53178 : GoodIn wsX3_measure wsJ7_fill_53178 := goodIn_r _ [10] (by decide +kernel) (by decide +kernel)
set_option maxRecDepth 20000 in
theorem gX3_measure_J7_fill_53178 : GoodIn wsX3_measure (va_wsS RX3 24 yJ7_fill_53178 wsJ7_fill_53178) := goodIn_app (goodIn_of _ (by decide +kernel)) ggX3_measure_J7_fill_53178
set_option maxRecDepth 20000 in
theorem ggX3_measure_X1_code : GoodIn wsX3_measure wsX1_code := goodIn_r _ [15, 16, 17, 18, 50, 51, 52, 53, 54, 55, 56] (by decide +kernel) (by decide +kernel)
set_option maxRecDepth 20000 in
theorem gX3_measure_X1_code : GoodIn wsX3_measure (wsV RX3 30 RX1 yX1_code wsX1_code) := goodIn_app (goodIn_of _ (by decide +kernel)) ggX3_measure_X1_code
set_option maxRecDepth 20000 in
theorem ggX3_measure_X3_settle : GoodIn wsX3_measure wsX3_settle := goodIn_r _ [23, 6, 4, 24, 1, 25, 26, 27, 14, 28, 16, 29, 17, 30, 31, 32, 33, 18, 34, 35, 36, 37, 38, 39, 40, 41, 42, 43, 46, 47, 48, 49, 44, 45, 50, 51, 52, 53, 54, 55, 56] (by decide +kernel) (by decide +kernel)
set_option maxRecDepth 20000 in
theorem gX3_measure_X3_settle : GoodIn wsX3_measure (wsV RX3 40 RX3 yX3_settle wsX3_settle) := goodIn_app (goodIn_of _ (by decide +kernel)) ggX3_measure_X3_settle
theorem dX3_measure_0 : decode cX3_measure 0 = .ok (.aload_n 0, 1) := by decide +kernel
theorem dX3_measure_1 : decode cX3_measure 1 = .ok (.getfield 9, 3) := by decide +kernel
theorem dX3_measure_4 : decode cX3_measure 4 = .ok (.arraylength, 1) := by decide +kernel
theorem dX3_measure_5 : decode cX3_measure 5 = .ok (.aload_n 2, 1) := by decide +kernel
theorem dX3_measure_6 : decode cX3_measure 6 = .ok (.getfield 18, 3) := by decide +kernel
theorem dX3_measure_9 : decode cX3_measure 9 = .ok (.arraylength, 1) := by decide +kernel
theorem dX3_measure_10 : decode cX3_measure 10 = .ok (.if_icmp .ge 25, 3) := by decide +kernel
theorem dX3_measure_13 : decode cX3_measure 13 = .ok (.aload_n 0, 1) := by decide +kernel
theorem dX3_measure_14 : decode cX3_measure 14 = .ok (.aload_n 2, 1) := by decide +kernel
theorem dX3_measure_15 : decode cX3_measure 15 = .ok (.getfield 18, 3) := by decide +kernel
theorem dX3_measure_18 : decode cX3_measure 18 = .ok (.arraylength, 1) := by decide +kernel
theorem dX3_measure_19 : decode cX3_measure 19 = .ok (.newarray .int, 2) := by decide +kernel
theorem dX3_measure_21 : decode cX3_measure 21 = .ok (.putfield 9, 3) := by decide +kernel
theorem dX3_measure_24 : decode cX3_measure 24 = .ok (.aload_n 0, 1) := by decide +kernel
theorem dX3_measure_25 : decode cX3_measure 25 = .ok (.aload_n 2, 1) := by decide +kernel
theorem dX3_measure_26 : decode cX3_measure 26 = .ok (.getfield 18, 3) := by decide +kernel
theorem dX3_measure_29 : decode cX3_measure 29 = .ok (.arraylength, 1) := by decide +kernel
theorem dX3_measure_30 : decode cX3_measure 30 = .ok (.newarray .int, 2) := by decide +kernel
theorem dX3_measure_32 : decode cX3_measure 32 = .ok (.putfield 15, 3) := by decide +kernel
theorem dX3_measure_35 : decode cX3_measure 35 = .ok (.aload_n 0, 1) := by decide +kernel
theorem dX3_measure_36 : decode cX3_measure 36 = .ok (.getfield 9, 3) := by decide +kernel
theorem dX3_measure_39 : decode cX3_measure 39 = .ok (.ldc 23, 2) := by decide +kernel
theorem dX3_measure_41 : decode cX3_measure 41 = .ok (.invokestatic 24, 3) := by decide +kernel
theorem dX3_measure_44 : decode cX3_measure 44 = .ok (.aload_n 1, 1) := by decide +kernel
theorem dX3_measure_45 : decode cX3_measure 45 = .ok (.invokevirtual 30, 3) := by decide +kernel
theorem dX3_measure_48 : decode cX3_measure 48 = .ok (.istore_n 3, 1) := by decide +kernel
theorem dX3_measure_49 : decode cX3_measure 49 = .ok (.iload_n 3, 1) := by decide +kernel
theorem dX3_measure_50 : decode cX3_measure 50 = .ok (.ifCond .lt 19, 3) := by decide +kernel
theorem dX3_measure_53 : decode cX3_measure 53 = .ok (.iload_n 3, 1) := by decide +kernel
theorem dX3_measure_54 : decode cX3_measure 54 = .ok (.aload_n 0, 1) := by decide +kernel
theorem dX3_measure_55 : decode cX3_measure 55 = .ok (.getfield 9, 3) := by decide +kernel
theorem dX3_measure_58 : decode cX3_measure 58 = .ok (.arraylength, 1) := by decide +kernel
theorem dX3_measure_59 : decode cX3_measure 59 = .ok (.if_icmp .ge 10, 3) := by decide +kernel
theorem dX3_measure_62 : decode cX3_measure 62 = .ok (.aload_n 0, 1) := by decide +kernel
theorem dX3_measure_63 : decode cX3_measure 63 = .ok (.getfield 9, 3) := by decide +kernel
theorem dX3_measure_66 : decode cX3_measure 66 = .ok (.iload_n 3, 1) := by decide +kernel
theorem dX3_measure_67 : decode cX3_measure 67 = .ok (.iconst 0, 1) := by decide +kernel
theorem dX3_measure_68 : decode cX3_measure 68 = .ok (.iastore, 1) := by decide +kernel
theorem dX3_measure_69 : decode cX3_measure 69 = .ok (.iconst 0, 1) := by decide +kernel
theorem dX3_measure_70 : decode cX3_measure 70 = .ok (.istore 4, 2) := by decide +kernel
theorem dX3_measure_72 : decode cX3_measure 72 = .ok (.iconst 0, 1) := by decide +kernel
theorem dX3_measure_73 : decode cX3_measure 73 = .ok (.istore 5, 2) := by decide +kernel
theorem dX3_measure_75 : decode cX3_measure 75 = .ok (.iload 5, 2) := by decide +kernel
theorem dX3_measure_77 : decode cX3_measure 77 = .ok (.ldc 23, 2) := by decide +kernel
theorem dX3_measure_79 : decode cX3_measure 79 = .ok (.if_icmp .ge 31, 3) := by decide +kernel
theorem dX3_measure_82 : decode cX3_measure 82 = .ok (.iload 4, 2) := by decide +kernel
theorem dX3_measure_84 : decode cX3_measure 84 = .ok (.aload_n 2, 1) := by decide +kernel
theorem dX3_measure_85 : decode cX3_measure 85 = .ok (.getfield 36, 3) := by decide +kernel
theorem dX3_measure_88 : decode cX3_measure 88 = .ok (.if_icmp .ge 22, 3) := by decide +kernel
theorem dX3_measure_91 : decode cX3_measure 91 = .ok (.iload 4, 2) := by decide +kernel
theorem dX3_measure_93 : decode cX3_measure 93 = .ok (.aload_n 0, 1) := by decide +kernel
theorem dX3_measure_94 : decode cX3_measure 94 = .ok (.aload_n 1, 1) := by decide +kernel
theorem dX3_measure_95 : decode cX3_measure 95 = .ok (.aload_n 2, 1) := by decide +kernel
theorem dX3_measure_96 : decode cX3_measure 96 = .ok (.iload 5, 2) := by decide +kernel
theorem dX3_measure_98 : decode cX3_measure 98 = .ok (.invokevirtual 40, 3) := by decide +kernel
theorem dX3_measure_101 : decode cX3_measure 101 = .ok (.iadd, 1) := by decide +kernel
theorem dX3_measure_102 : decode cX3_measure 102 = .ok (.istore 4, 2) := by decide +kernel
theorem dX3_measure_104 : decode cX3_measure 104 = .ok (.iinc 5 1, 3) := by decide +kernel
theorem dX3_measure_107 : decode cX3_measure 107 = .ok (.goto (-32), 3) := by decide +kernel
theorem dX3_measure_110 : decode cX3_measure 110 = .ok (.return_, 1) := by decide +kernel
set_option maxRecDepth 20000 in
theorem ggX3_settle_X1_stand : GoodIn wsX3_settle wsX1_stand := goodIn_r _ [9, 10, 11, 12, 34, 35, 36, 37, 38, 39, 40] (by decide +kernel) (by decide +kernel)
set_option maxRecDepth 20000 in
theorem gX3_settle_X1_stand : GoodIn wsX3_settle (wsV RX3 47 RX1 yX1_stand wsX1_stand) := goodIn_app (goodIn_of _ (by decide +kernel)) ggX3_settle_X1_stand
set_option maxRecDepth 20000 in
theorem ggX3_settle_X1_shiftBy : GoodIn wsX3_settle wsX1_shiftBy := goodIn_r _ [16, 17, 18, 19, 20, 8, 21, 10, 12, 22, 11, 23, 34, 35, 36, 37, 38, 39, 40] (by decide +kernel) (by decide +kernel)
set_option maxRecDepth 20000 in
theorem gX3_settle_X1_shiftBy : GoodIn wsX3_settle (wsV RX3 51 RX1 yX1_shiftBy wsX1_shiftBy) := goodIn_app (goodIn_of _ (by decide +kernel)) ggX3_settle_X1_shiftBy
set_option maxRecDepth 20000 in
theorem ggX3_settle_X1_spiltBy : GoodIn wsX3_settle wsX1_spiltBy := goodIn_r _ [27, 12, 34, 35, 36, 37, 38, 39, 40] (by decide +kernel) (by decide +kernel)
set_option maxRecDepth 20000 in
theorem gX3_settle_X1_spiltBy : GoodIn wsX3_settle (wsV RX3 55 RX1 yX1_spiltBy wsX1_spiltBy) := goodIn_app (goodIn_of _ (by decide +kernel)) ggX3_settle_X1_spiltBy
theorem dX3_settle_0 : decode cX3_settle 0 = .ok (.iconst 0, 1) := by decide +kernel
theorem dX3_settle_1 : decode cX3_settle 1 = .ok (.istore 4, 2) := by decide +kernel
theorem dX3_settle_3 : decode cX3_settle 3 = .ok (.iconst 0, 1) := by decide +kernel
theorem dX3_settle_4 : decode cX3_settle 4 = .ok (.istore 5, 2) := by decide +kernel
theorem dX3_settle_6 : decode cX3_settle 6 = .ok (.iload 5, 2) := by decide +kernel
theorem dX3_settle_8 : decode cX3_settle 8 = .ok (.aload_n 2, 1) := by decide +kernel
theorem dX3_settle_9 : decode cX3_settle 9 = .ok (.getfield 36, 3) := by decide +kernel
theorem dX3_settle_12 : decode cX3_settle 12 = .ok (.if_icmp .ge 51, 3) := by decide +kernel
theorem dX3_settle_15 : decode cX3_settle 15 = .ok (.iload 5, 2) := by decide +kernel
theorem dX3_settle_17 : decode cX3_settle 17 = .ok (.aload_n 0, 1) := by decide +kernel
theorem dX3_settle_18 : decode cX3_settle 18 = .ok (.getfield 15, 3) := by decide +kernel
theorem dX3_settle_21 : decode cX3_settle 21 = .ok (.arraylength, 1) := by decide +kernel
theorem dX3_settle_22 : decode cX3_settle 22 = .ok (.if_icmp .ge 41, 3) := by decide +kernel
theorem dX3_settle_25 : decode cX3_settle 25 = .ok (.aload_n 2, 1) := by decide +kernel
theorem dX3_settle_26 : decode cX3_settle 26 = .ok (.getfield 44, 3) := by decide +kernel
theorem dX3_settle_29 : decode cX3_settle 29 = .ok (.iload 5, 2) := by decide +kernel
theorem dX3_settle_31 : decode cX3_settle 31 = .ok (.iaload, 1) := by decide +kernel
theorem dX3_settle_32 : decode cX3_settle 32 = .ok (.istore 6, 2) := by decide +kernel
theorem dX3_settle_34 : decode cX3_settle 34 = .ok (.aload_n 0, 1) := by decide +kernel
theorem dX3_settle_35 : decode cX3_settle 35 = .ok (.getfield 9, 3) := by decide +kernel
theorem dX3_settle_38 : decode cX3_settle 38 = .ok (.iload 6, 2) := by decide +kernel
theorem dX3_settle_40 : decode cX3_settle 40 = .ok (.iaload, 1) := by decide +kernel
theorem dX3_settle_41 : decode cX3_settle 41 = .ok (.iload_n 3, 1) := by decide +kernel
theorem dX3_settle_42 : decode cX3_settle 42 = .ok (.if_icmp .ne 15, 3) := by decide +kernel
theorem dX3_settle_45 : decode cX3_settle 45 = .ok (.aload_n 0, 1) := by decide +kernel
theorem dX3_settle_46 : decode cX3_settle 46 = .ok (.getfield 15, 3) := by decide +kernel
theorem dX3_settle_49 : decode cX3_settle 49 = .ok (.iload 4, 2) := by decide +kernel
theorem dX3_settle_51 : decode cX3_settle 51 = .ok (.iload 6, 2) := by decide +kernel
theorem dX3_settle_53 : decode cX3_settle 53 = .ok (.iastore, 1) := by decide +kernel
theorem dX3_settle_54 : decode cX3_settle 54 = .ok (.iinc 4 1, 3) := by decide +kernel
theorem dX3_settle_57 : decode cX3_settle 57 = .ok (.iinc 5 1, 3) := by decide +kernel
theorem dX3_settle_60 : decode cX3_settle 60 = .ok (.goto (-54), 3) := by decide +kernel
theorem dX3_settle_63 : decode cX3_settle 63 = .ok (.iconst 0, 1) := by decide +kernel
theorem dX3_settle_64 : decode cX3_settle 64 = .ok (.istore 5, 2) := by decide +kernel
theorem dX3_settle_66 : decode cX3_settle 66 = .ok (.iload 5, 2) := by decide +kernel
theorem dX3_settle_68 : decode cX3_settle 68 = .ok (.iload 4, 2) := by decide +kernel
theorem dX3_settle_70 : decode cX3_settle 70 = .ok (.if_icmp .ge 138, 3) := by decide +kernel
theorem dX3_settle_73 : decode cX3_settle 73 = .ok (.iload 5, 2) := by decide +kernel
theorem dX3_settle_75 : decode cX3_settle 75 = .ok (.aload_n 0, 1) := by decide +kernel
theorem dX3_settle_76 : decode cX3_settle 76 = .ok (.getfield 15, 3) := by decide +kernel
theorem dX3_settle_79 : decode cX3_settle 79 = .ok (.arraylength, 1) := by decide +kernel
theorem dX3_settle_80 : decode cX3_settle 80 = .ok (.if_icmp .ge 128, 3) := by decide +kernel
theorem dX3_settle_83 : decode cX3_settle 83 = .ok (.aload_n 0, 1) := by decide +kernel
theorem dX3_settle_84 : decode cX3_settle 84 = .ok (.getfield 15, 3) := by decide +kernel
theorem dX3_settle_87 : decode cX3_settle 87 = .ok (.iload 5, 2) := by decide +kernel
theorem dX3_settle_89 : decode cX3_settle 89 = .ok (.iaload, 1) := by decide +kernel
theorem dX3_settle_90 : decode cX3_settle 90 = .ok (.istore 6, 2) := by decide +kernel
theorem dX3_settle_92 : decode cX3_settle 92 = .ok (.aload_n 1, 1) := by decide +kernel
theorem dX3_settle_93 : decode cX3_settle 93 = .ok (.iload 6, 2) := by decide +kernel
theorem dX3_settle_95 : decode cX3_settle 95 = .ok (.invokevirtual 47, 3) := by decide +kernel
theorem dX3_settle_98 : decode cX3_settle 98 = .ok (.iconst 0, 1) := by decide +kernel
theorem dX3_settle_99 : decode cX3_settle 99 = .ok (.istore 7, 2) := by decide +kernel
theorem dX3_settle_101 : decode cX3_settle 101 = .ok (.iload 7, 2) := by decide +kernel
theorem dX3_settle_103 : decode cX3_settle 103 = .ok (.bipush 24, 2) := by decide +kernel
theorem dX3_settle_105 : decode cX3_settle 105 = .ok (.if_icmp .ge 97, 3) := by decide +kernel
theorem dX3_settle_108 : decode cX3_settle 108 = .ok (.iload 6, 2) := by decide +kernel
theorem dX3_settle_110 : decode cX3_settle 110 = .ok (.aload_n 1, 1) := by decide +kernel
theorem dX3_settle_111 : decode cX3_settle 111 = .ok (.iload 7, 2) := by decide +kernel
theorem dX3_settle_113 : decode cX3_settle 113 = .ok (.invokevirtual 51, 3) := by decide +kernel
theorem dX3_settle_116 : decode cX3_settle 116 = .ok (.iadd, 1) := by decide +kernel
theorem dX3_settle_117 : decode cX3_settle 117 = .ok (.istore 8, 2) := by decide +kernel
theorem dX3_settle_119 : decode cX3_settle 119 = .ok (.iload_n 3, 1) := by decide +kernel
theorem dX3_settle_120 : decode cX3_settle 120 = .ok (.aload_n 1, 1) := by decide +kernel
theorem dX3_settle_121 : decode cX3_settle 121 = .ok (.iload 7, 2) := by decide +kernel
theorem dX3_settle_123 : decode cX3_settle 123 = .ok (.invokevirtual 55, 3) := by decide +kernel
theorem dX3_settle_126 : decode cX3_settle 126 = .ok (.iadd, 1) := by decide +kernel
theorem dX3_settle_127 : decode cX3_settle 127 = .ok (.istore 9, 2) := by decide +kernel
theorem dX3_settle_129 : decode cX3_settle 129 = .ok (.iload 8, 2) := by decide +kernel
theorem dX3_settle_131 : decode cX3_settle 131 = .ok (.ifCond .lt 65, 3) := by decide +kernel
theorem dX3_settle_134 : decode cX3_settle 134 = .ok (.iload 8, 2) := by decide +kernel
theorem dX3_settle_136 : decode cX3_settle 136 = .ok (.aload_n 0, 1) := by decide +kernel
theorem dX3_settle_137 : decode cX3_settle 137 = .ok (.getfield 9, 3) := by decide +kernel
theorem dX3_settle_140 : decode cX3_settle 140 = .ok (.arraylength, 1) := by decide +kernel
theorem dX3_settle_141 : decode cX3_settle 141 = .ok (.if_icmp .ge 55, 3) := by decide +kernel
theorem dX3_settle_144 : decode cX3_settle 144 = .ok (.aload_n 0, 1) := by decide +kernel
theorem dX3_settle_145 : decode cX3_settle 145 = .ok (.getfield 9, 3) := by decide +kernel
theorem dX3_settle_148 : decode cX3_settle 148 = .ok (.iload 8, 2) := by decide +kernel
theorem dX3_settle_150 : decode cX3_settle 150 = .ok (.iaload, 1) := by decide +kernel
theorem dX3_settle_151 : decode cX3_settle 151 = .ok (.iload 9, 2) := by decide +kernel
theorem dX3_settle_153 : decode cX3_settle 153 = .ok (.if_icmp .gt 6, 3) := by decide +kernel
theorem dX3_settle_156 : decode cX3_settle 156 = .ok (.goto 40, 3) := by decide +kernel
theorem dX3_settle_159 : decode cX3_settle 159 = .ok (.aload_n 0, 1) := by decide +kernel
theorem dX3_settle_160 : decode cX3_settle 160 = .ok (.getfield 9, 3) := by decide +kernel
theorem dX3_settle_163 : decode cX3_settle 163 = .ok (.iload 8, 2) := by decide +kernel
theorem dX3_settle_165 : decode cX3_settle 165 = .ok (.iload 9, 2) := by decide +kernel
theorem dX3_settle_167 : decode cX3_settle 167 = .ok (.iastore, 1) := by decide +kernel
theorem dX3_settle_168 : decode cX3_settle 168 = .ok (.iload 9, 2) := by decide +kernel
theorem dX3_settle_170 : decode cX3_settle 170 = .ok (.iload_n 3, 1) := by decide +kernel
theorem dX3_settle_171 : decode cX3_settle 171 = .ok (.if_icmp .ne 25, 3) := by decide +kernel
theorem dX3_settle_174 : decode cX3_settle 174 = .ok (.iload 4, 2) := by decide +kernel
theorem dX3_settle_176 : decode cX3_settle 176 = .ok (.aload_n 0, 1) := by decide +kernel
theorem dX3_settle_177 : decode cX3_settle 177 = .ok (.getfield 15, 3) := by decide +kernel
theorem dX3_settle_180 : decode cX3_settle 180 = .ok (.arraylength, 1) := by decide +kernel
theorem dX3_settle_181 : decode cX3_settle 181 = .ok (.if_icmp .ge 15, 3) := by decide +kernel
theorem dX3_settle_184 : decode cX3_settle 184 = .ok (.aload_n 0, 1) := by decide +kernel
theorem dX3_settle_185 : decode cX3_settle 185 = .ok (.getfield 15, 3) := by decide +kernel
theorem dX3_settle_188 : decode cX3_settle 188 = .ok (.iload 4, 2) := by decide +kernel
theorem dX3_settle_190 : decode cX3_settle 190 = .ok (.iload 8, 2) := by decide +kernel
theorem dX3_settle_192 : decode cX3_settle 192 = .ok (.iastore, 1) := by decide +kernel
theorem dX3_settle_193 : decode cX3_settle 193 = .ok (.iinc 4 1, 3) := by decide +kernel
theorem dX3_settle_196 : decode cX3_settle 196 = .ok (.iinc 7 1, 3) := by decide +kernel
theorem dX3_settle_199 : decode cX3_settle 199 = .ok (.goto (-98), 3) := by decide +kernel
theorem dX3_settle_202 : decode cX3_settle 202 = .ok (.iinc 5 1, 3) := by decide +kernel
theorem dX3_settle_205 : decode cX3_settle 205 = .ok (.goto (-139), 3) := by decide +kernel
theorem dX3_settle_208 : decode cX3_settle 208 = .ok (.iload 4, 2) := by decide +kernel
theorem dX3_settle_210 : decode cX3_settle 210 = .ok (.ireturn, 1) := by decide +kernel
theorem dX3_isLeast_0 : decode cX3_isLeast 0 = .ok (.iload_n 1, 1) := by decide +kernel
theorem dX3_isLeast_1 : decode cX3_isLeast 1 = .ok (.ifCond .lt 46, 3) := by decide +kernel
theorem dX3_isLeast_4 : decode cX3_isLeast 4 = .ok (.iload_n 1, 1) := by decide +kernel
theorem dX3_isLeast_5 : decode cX3_isLeast 5 = .ok (.aload_n 0, 1) := by decide +kernel
theorem dX3_isLeast_6 : decode cX3_isLeast 6 = .ok (.getfield 9, 3) := by decide +kernel
theorem dX3_isLeast_9 : decode cX3_isLeast 9 = .ok (.arraylength, 1) := by decide +kernel
theorem dX3_isLeast_10 : decode cX3_isLeast 10 = .ok (.if_icmp .ge 37, 3) := by decide +kernel
theorem dX3_isLeast_13 : decode cX3_isLeast 13 = .ok (.iload_n 2, 1) := by decide +kernel
theorem dX3_isLeast_14 : decode cX3_isLeast 14 = .ok (.ifCond .lt 33, 3) := by decide +kernel
theorem dX3_isLeast_17 : decode cX3_isLeast 17 = .ok (.iload_n 2, 1) := by decide +kernel
theorem dX3_isLeast_18 : decode cX3_isLeast 18 = .ok (.aload_n 0, 1) := by decide +kernel
theorem dX3_isLeast_19 : decode cX3_isLeast 19 = .ok (.getfield 9, 3) := by decide +kernel
theorem dX3_isLeast_22 : decode cX3_isLeast 22 = .ok (.arraylength, 1) := by decide +kernel
theorem dX3_isLeast_23 : decode cX3_isLeast 23 = .ok (.if_icmp .ge 24, 3) := by decide +kernel
theorem dX3_isLeast_26 : decode cX3_isLeast 26 = .ok (.aload_n 0, 1) := by decide +kernel
theorem dX3_isLeast_27 : decode cX3_isLeast 27 = .ok (.getfield 9, 3) := by decide +kernel
theorem dX3_isLeast_30 : decode cX3_isLeast 30 = .ok (.iload_n 2, 1) := by decide +kernel
theorem dX3_isLeast_31 : decode cX3_isLeast 31 = .ok (.iaload, 1) := by decide +kernel
theorem dX3_isLeast_32 : decode cX3_isLeast 32 = .ok (.aload_n 0, 1) := by decide +kernel
theorem dX3_isLeast_33 : decode cX3_isLeast 33 = .ok (.getfield 9, 3) := by decide +kernel
theorem dX3_isLeast_36 : decode cX3_isLeast 36 = .ok (.iload_n 1, 1) := by decide +kernel
theorem dX3_isLeast_37 : decode cX3_isLeast 37 = .ok (.iaload, 1) := by decide +kernel
theorem dX3_isLeast_38 : decode cX3_isLeast 38 = .ok (.iload_n 3, 1) := by decide +kernel
theorem dX3_isLeast_39 : decode cX3_isLeast 39 = .ok (.iadd, 1) := by decide +kernel
theorem dX3_isLeast_40 : decode cX3_isLeast 40 = .ok (.if_icmp .ne 7, 3) := by decide +kernel
theorem dX3_isLeast_43 : decode cX3_isLeast 43 = .ok (.iconst 1, 1) := by decide +kernel
theorem dX3_isLeast_44 : decode cX3_isLeast 44 = .ok (.goto 4, 3) := by decide +kernel
theorem dX3_isLeast_47 : decode cX3_isLeast 47 = .ok (.iconst 0, 1) := by decide +kernel
theorem dX3_isLeast_48 : decode cX3_isLeast 48 = .ok (.ireturn, 1) := by decide +kernel
theorem dX3_leastFor_0 : decode cX3_leastFor 0 = .ok (.iload_n 1, 1) := by decide +kernel
theorem dX3_leastFor_1 : decode cX3_leastFor 1 = .ok (.ifCond .lt 21, 3) := by decide +kernel
theorem dX3_leastFor_4 : decode cX3_leastFor 4 = .ok (.iload_n 1, 1) := by decide +kernel
theorem dX3_leastFor_5 : decode cX3_leastFor 5 = .ok (.aload_n 0, 1) := by decide +kernel
theorem dX3_leastFor_6 : decode cX3_leastFor 6 = .ok (.getfield 9, 3) := by decide +kernel
theorem dX3_leastFor_9 : decode cX3_leastFor 9 = .ok (.arraylength, 1) := by decide +kernel
theorem dX3_leastFor_10 : decode cX3_leastFor 10 = .ok (.if_icmp .ge 12, 3) := by decide +kernel
theorem dX3_leastFor_13 : decode cX3_leastFor 13 = .ok (.aload_n 0, 1) := by decide +kernel
theorem dX3_leastFor_14 : decode cX3_leastFor 14 = .ok (.getfield 9, 3) := by decide +kernel
theorem dX3_leastFor_17 : decode cX3_leastFor 17 = .ok (.iload_n 1, 1) := by decide +kernel
theorem dX3_leastFor_18 : decode cX3_leastFor 18 = .ok (.iaload, 1) := by decide +kernel
theorem dX3_leastFor_19 : decode cX3_leastFor 19 = .ok (.goto 4, 3) := by decide +kernel
theorem dX3_leastFor_22 : decode cX3_leastFor 22 = .ok (.iconst (-1), 1) := by decide +kernel
theorem dX3_leastFor_23 : decode cX3_leastFor 23 = .ok (.ireturn, 1) := by decide +kernel
theorem dX4_init_0 : decode cX4_init 0 = .ok (.aload_n 0, 1) := by decide +kernel
theorem dX4_init_1 : decode cX4_init 1 = .ok (.invokespecial 3, 3) := by decide +kernel
theorem dX4_init_4 : decode cX4_init 4 = .ok (.aload_n 0, 1) := by decide +kernel
theorem dX4_init_5 : decode cX4_init 5 = .ok (.iconst 0, 1) := by decide +kernel
theorem dX4_init_6 : decode cX4_init 6 = .ok (.newarray .int, 2) := by decide +kernel
theorem dX4_init_8 : decode cX4_init 8 = .ok (.putfield 9, 3) := by decide +kernel
theorem dX4_init_11 : decode cX4_init 11 = .ok (.aload_n 0, 1) := by decide +kernel
theorem dX4_init_12 : decode cX4_init 12 = .ok (.iconst 0, 1) := by decide +kernel
theorem dX4_init_13 : decode cX4_init 13 = .ok (.newarray .int, 2) := by decide +kernel
theorem dX4_init_15 : decode cX4_init 15 = .ok (.putfield 15, 3) := by decide +kernel
theorem dX4_init_18 : decode cX4_init 18 = .ok (.aload_n 0, 1) := by decide +kernel
theorem dX4_init_19 : decode cX4_init 19 = .ok (.iconst 0, 1) := by decide +kernel
theorem dX4_init_20 : decode cX4_init 20 = .ok (.newarray .int, 2) := by decide +kernel
theorem dX4_init_22 : decode cX4_init 22 = .ok (.putfield 18, 3) := by decide +kernel
theorem dX4_init_25 : decode cX4_init 25 = .ok (.aload_n 0, 1) := by decide +kernel
theorem dX4_init_26 : decode cX4_init 26 = .ok (.iconst 0, 1) := by decide +kernel
theorem dX4_init_27 : decode cX4_init 27 = .ok (.putfield 21, 3) := by decide +kernel
theorem dX4_init_30 : decode cX4_init 30 = .ok (.return_, 1) := by decide +kernel
theorem dX4_knows_0 : decode cX4_knows 0 = .ok (.iload_n 1, 1) := by decide +kernel
theorem dX4_knows_1 : decode cX4_knows 1 = .ok (.ifCond .lt 25, 3) := by decide +kernel
theorem dX4_knows_4 : decode cX4_knows 4 = .ok (.iload_n 1, 1) := by decide +kernel
theorem dX4_knows_5 : decode cX4_knows 5 = .ok (.aload_n 0, 1) := by decide +kernel
theorem dX4_knows_6 : decode cX4_knows 6 = .ok (.getfield 15, 3) := by decide +kernel
theorem dX4_knows_9 : decode cX4_knows 9 = .ok (.arraylength, 1) := by decide +kernel
theorem dX4_knows_10 : decode cX4_knows 10 = .ok (.if_icmp .ge 16, 3) := by decide +kernel
theorem dX4_knows_13 : decode cX4_knows 13 = .ok (.aload_n 0, 1) := by decide +kernel
theorem dX4_knows_14 : decode cX4_knows 14 = .ok (.getfield 15, 3) := by decide +kernel
theorem dX4_knows_17 : decode cX4_knows 17 = .ok (.iload_n 1, 1) := by decide +kernel
theorem dX4_knows_18 : decode cX4_knows 18 = .ok (.iaload, 1) := by decide +kernel
theorem dX4_knows_19 : decode cX4_knows 19 = .ok (.ifCond .lt 7, 3) := by decide +kernel
theorem dX4_knows_22 : decode cX4_knows 22 = .ok (.iconst 1, 1) := by decide +kernel
theorem dX4_knows_23 : decode cX4_knows 23 = .ok (.goto 4, 3) := by decide +kernel
theorem dX4_knows_26 : decode cX4_knows 26 = .ok (.iconst 0, 1) := by decide +kernel
theorem dX4_knows_27 : decode cX4_knows 27 = .ok (.ireturn, 1) := by decide +kernel
set_option maxRecDepth 20000 in
theorem ggX4_start_X5_lengthFor : GoodIn wsX4_start wsX5_lengthFor := goodIn_r _ [8, 9, 10, 11, 12, 13, 14, 15] (by decide +kernel) (by decide +kernel)
set_option maxRecDepth 20000 in
theorem gX4_start_X5_lengthFor_n25 : GoodIn wsX4_start (wsX5_lengthFor) := ggX4_start_X5_lengthFor
set_option maxRecDepth 20000 in
theorem ggX4_start_J7_fill_53178 : GoodIn wsX4_start wsJ7_fill_53178 := goodIn_r _ [19] (by decide +kernel) (by decide +kernel)
set_option maxRecDepth 20000 in
theorem gX4_start_J7_fill_53178 : GoodIn wsX4_start (va_wsS RX4 29 yJ7_fill_53178 wsJ7_fill_53178) := goodIn_app (goodIn_of _ (by decide +kernel)) ggX4_start_J7_fill_53178
theorem dX4_start_0 : decode cX4_start 0 = .ok (.aload_n 0, 1) := by decide +kernel
theorem dX4_start_1 : decode cX4_start 1 = .ok (.getfield 15, 3) := by decide +kernel
theorem dX4_start_4 : decode cX4_start 4 = .ok (.arraylength, 1) := by decide +kernel
theorem dX4_start_5 : decode cX4_start 5 = .ok (.iload_n 1, 1) := by decide +kernel
theorem dX4_start_6 : decode cX4_start 6 = .ok (.if_icmp .ge 34, 3) := by decide +kernel
theorem dX4_start_9 : decode cX4_start 9 = .ok (.iload_n 1, 1) := by decide +kernel
theorem dX4_start_10 : decode cX4_start 10 = .ok (.aload_n 0, 1) := by decide +kernel
theorem dX4_start_11 : decode cX4_start 11 = .ok (.getfield 15, 3) := by decide +kernel
theorem dX4_start_14 : decode cX4_start 14 = .ok (.arraylength, 1) := by decide +kernel
theorem dX4_start_15 : decode cX4_start 15 = .ok (.invokestatic 25, 3) := by decide +kernel
theorem dX4_start_18 : decode cX4_start 18 = .ok (.istore_n 3, 1) := by decide +kernel
theorem dX4_start_19 : decode cX4_start 19 = .ok (.aload_n 0, 1) := by decide +kernel
theorem dX4_start_20 : decode cX4_start 20 = .ok (.iload_n 3, 1) := by decide +kernel
theorem dX4_start_21 : decode cX4_start 21 = .ok (.newarray .int, 2) := by decide +kernel
theorem dX4_start_23 : decode cX4_start 23 = .ok (.putfield 9, 3) := by decide +kernel
theorem dX4_start_26 : decode cX4_start 26 = .ok (.aload_n 0, 1) := by decide +kernel
theorem dX4_start_27 : decode cX4_start 27 = .ok (.iload_n 3, 1) := by decide +kernel
theorem dX4_start_28 : decode cX4_start 28 = .ok (.newarray .int, 2) := by decide +kernel
theorem dX4_start_30 : decode cX4_start 30 = .ok (.putfield 15, 3) := by decide +kernel
theorem dX4_start_33 : decode cX4_start 33 = .ok (.aload_n 0, 1) := by decide +kernel
theorem dX4_start_34 : decode cX4_start 34 = .ok (.iload_n 3, 1) := by decide +kernel
theorem dX4_start_35 : decode cX4_start 35 = .ok (.newarray .int, 2) := by decide +kernel
theorem dX4_start_37 : decode cX4_start 37 = .ok (.putfield 18, 3) := by decide +kernel
theorem dX4_start_40 : decode cX4_start 40 = .ok (.aload_n 0, 1) := by decide +kernel
theorem dX4_start_41 : decode cX4_start 41 = .ok (.getfield 15, 3) := by decide +kernel
theorem dX4_start_44 : decode cX4_start 44 = .ok (.iconst (-1), 1) := by decide +kernel
theorem dX4_start_45 : decode cX4_start 45 = .ok (.invokestatic 29, 3) := by decide +kernel
theorem dX4_start_48 : decode cX4_start 48 = .ok (.aload_n 0, 1) := by decide +kernel
theorem dX4_start_49 : decode cX4_start 49 = .ok (.iconst 0, 1) := by decide +kernel
theorem dX4_start_50 : decode cX4_start 50 = .ok (.putfield 21, 3) := by decide +kernel
theorem dX4_start_53 : decode cX4_start 53 = .ok (.iload_n 2, 1) := by decide +kernel
theorem dX4_start_54 : decode cX4_start 54 = .ok (.ifCond .lt 31, 3) := by decide +kernel
theorem dX4_start_57 : decode cX4_start 57 = .ok (.iload_n 2, 1) := by decide +kernel
theorem dX4_start_58 : decode cX4_start 58 = .ok (.aload_n 0, 1) := by decide +kernel
theorem dX4_start_59 : decode cX4_start 59 = .ok (.getfield 15, 3) := by decide +kernel
theorem dX4_start_62 : decode cX4_start 62 = .ok (.arraylength, 1) := by decide +kernel
theorem dX4_start_63 : decode cX4_start 63 = .ok (.if_icmp .ge 22, 3) := by decide +kernel
theorem dX4_start_66 : decode cX4_start 66 = .ok (.aload_n 0, 1) := by decide +kernel
theorem dX4_start_67 : decode cX4_start 67 = .ok (.getfield 9, 3) := by decide +kernel
theorem dX4_start_70 : decode cX4_start 70 = .ok (.iconst 0, 1) := by decide +kernel
theorem dX4_start_71 : decode cX4_start 71 = .ok (.iload_n 2, 1) := by decide +kernel
theorem dX4_start_72 : decode cX4_start 72 = .ok (.iastore, 1) := by decide +kernel
theorem dX4_start_73 : decode cX4_start 73 = .ok (.aload_n 0, 1) := by decide +kernel
theorem dX4_start_74 : decode cX4_start 74 = .ok (.getfield 15, 3) := by decide +kernel
theorem dX4_start_77 : decode cX4_start 77 = .ok (.iload_n 2, 1) := by decide +kernel
theorem dX4_start_78 : decode cX4_start 78 = .ok (.iconst 0, 1) := by decide +kernel
theorem dX4_start_79 : decode cX4_start 79 = .ok (.iastore, 1) := by decide +kernel
theorem dX4_start_80 : decode cX4_start 80 = .ok (.aload_n 0, 1) := by decide +kernel
theorem dX4_start_81 : decode cX4_start 81 = .ok (.iconst 1, 1) := by decide +kernel
theorem dX4_start_82 : decode cX4_start 82 = .ok (.putfield 21, 3) := by decide +kernel
theorem dX4_start_85 : decode cX4_start 85 = .ok (.return_, 1) := by decide +kernel
set_option maxRecDepth 20000 in
theorem ggX4_explore_X1_code : GoodIn wsX4_explore wsX1_code := goodIn_r _ [9, 10, 11, 12, 63, 64, 65, 66, 67, 68, 69] (by decide +kernel) (by decide +kernel)
set_option maxRecDepth 20000 in
theorem gX4_explore_X1_code : GoodIn wsX4_explore (wsV RX4 40 RX1 yX1_code wsX1_code) := goodIn_app (goodIn_of _ (by decide +kernel)) ggX4_explore_X1_code
set_option maxRecDepth 20000 in
theorem ggX4_explore_X4_start : GoodIn wsX4_explore wsX4_start := goodIn_r _ [17, 4, 18, 3, 19, 2, 20, 21, 22, 23, 24, 25, 26, 27, 28, 29, 30, 31, 32, 33, 70, 71, 72, 73] (by decide +kernel) (by decide +kernel)
set_option maxRecDepth 20000 in
theorem gX4_explore_X4_start : GoodIn wsX4_explore (wsV RX4 44 RX4 yX4_start wsX4_start) := goodIn_app (goodIn_of _ (by decide +kernel)) ggX4_explore_X4_start
set_option maxRecDepth 20000 in
theorem ggX4_explore_X1_stand : GoodIn wsX4_explore wsX1_stand := goodIn_r _ [37, 10, 38, 11, 63, 64, 65, 66, 67, 68, 69] (by decide +kernel) (by decide +kernel)
set_option maxRecDepth 20000 in
theorem gX4_explore_X1_stand : GoodIn wsX4_explore (wsV RX4 48 RX1 yX1_stand wsX1_stand) := goodIn_app (goodIn_of _ (by decide +kernel)) ggX4_explore_X1_stand
set_option maxRecDepth 20000 in
theorem ggX4_explore_X1_shiftBy : GoodIn wsX4_explore wsX1_shiftBy := goodIn_r _ [42, 12, 43, 44, 45, 8, 46, 10, 11, 47, 38, 48, 63, 64, 65, 66, 67, 68, 69] (by decide +kernel) (by decide +kernel)
set_option maxRecDepth 20000 in
theorem gX4_explore_X1_shiftBy : GoodIn wsX4_explore (wsV RX4 52 RX1 yX1_shiftBy wsX1_shiftBy) := goodIn_app (goodIn_of _ (by decide +kernel)) ggX4_explore_X1_shiftBy
set_option maxRecDepth 20000 in
theorem ggX4_explore_X1_spiltBy : GoodIn wsX4_explore wsX1_spiltBy := goodIn_r _ [52, 11, 63, 64, 65, 66, 67, 68, 69] (by decide +kernel) (by decide +kernel)
set_option maxRecDepth 20000 in
theorem gX4_explore_X1_spiltBy : GoodIn wsX4_explore (wsV RX4 56 RX1 yX1_spiltBy wsX1_spiltBy) := goodIn_app (goodIn_of _ (by decide +kernel)) ggX4_explore_X1_spiltBy
set_option maxRecDepth 20000 in
theorem ggX4_explore_X3_isLeast : GoodIn wsX4_explore wsX3_isLeast := goodIn_r _ [57, 58, 74, 75] (by decide +kernel) (by decide +kernel)
set_option maxRecDepth 20000 in
theorem gX4_explore_X3_isLeast : GoodIn wsX4_explore (wsV RX4 59 RX3 yX3_isLeast wsX3_isLeast) := goodIn_app (goodIn_of _ (by decide +kernel)) ggX4_explore_X3_isLeast
set_option maxRecDepth 20000 in
theorem ggX4_explore_X4_enter : GoodIn wsX4_explore wsX4_enter := goodIn_r _ [62, 2, 3, 4, 19, 70, 71, 72, 73] (by decide +kernel) (by decide +kernel)
set_option maxRecDepth 20000 in
theorem gX4_explore_X4_enter : GoodIn wsX4_explore (wsV RX4 65 RX4 yX4_enter wsX4_enter) := goodIn_app (goodIn_of _ (by decide +kernel)) ggX4_explore_X4_enter
theorem dX4_explore_0 : decode cX4_explore 0 = .ok (.aload_n 0, 1) := by decide +kernel
end
section
theorem dX4_explore_1 : decode cX4_explore 1 = .ok (.aload_n 1, 1) := by decide +kernel
theorem dX4_explore_2 : decode cX4_explore 2 = .ok (.getfield 35, 3) := by decide +kernel
theorem dX4_explore_5 : decode cX4_explore 5 = .ok (.aload_n 1, 1) := by decide +kernel
theorem dX4_explore_6 : decode cX4_explore 6 = .ok (.invokevirtual 40, 3) := by decide +kernel
theorem dX4_explore_9 : decode cX4_explore 9 = .ok (.invokevirtual 44, 3) := by decide +kernel
theorem dX4_explore_12 : decode cX4_explore 12 = .ok (.iconst 0, 1) := by decide +kernel
theorem dX4_explore_13 : decode cX4_explore 13 = .ok (.istore_n 3, 1) := by decide +kernel
theorem dX4_explore_14 : decode cX4_explore 14 = .ok (.iload_n 3, 1) := by decide +kernel
theorem dX4_explore_15 : decode cX4_explore 15 = .ok (.aload_n 0, 1) := by decide +kernel
theorem dX4_explore_16 : decode cX4_explore 16 = .ok (.getfield 21, 3) := by decide +kernel
theorem dX4_explore_19 : decode cX4_explore 19 = .ok (.if_icmp .ge 118, 3) := by decide +kernel
theorem dX4_explore_22 : decode cX4_explore 22 = .ok (.iload_n 3, 1) := by decide +kernel
theorem dX4_explore_23 : decode cX4_explore 23 = .ok (.aload_n 0, 1) := by decide +kernel
theorem dX4_explore_24 : decode cX4_explore 24 = .ok (.getfield 9, 3) := by decide +kernel
theorem dX4_explore_27 : decode cX4_explore 27 = .ok (.arraylength, 1) := by decide +kernel
theorem dX4_explore_28 : decode cX4_explore 28 = .ok (.if_icmp .ge 109, 3) := by decide +kernel
theorem dX4_explore_31 : decode cX4_explore 31 = .ok (.aload_n 0, 1) := by decide +kernel
theorem dX4_explore_32 : decode cX4_explore 32 = .ok (.getfield 9, 3) := by decide +kernel
theorem dX4_explore_35 : decode cX4_explore 35 = .ok (.iload_n 3, 1) := by decide +kernel
theorem dX4_explore_36 : decode cX4_explore 36 = .ok (.iaload, 1) := by decide +kernel
theorem dX4_explore_37 : decode cX4_explore 37 = .ok (.istore 4, 2) := by decide +kernel
theorem dX4_explore_39 : decode cX4_explore 39 = .ok (.aload_n 1, 1) := by decide +kernel
theorem dX4_explore_40 : decode cX4_explore 40 = .ok (.iload 4, 2) := by decide +kernel
theorem dX4_explore_42 : decode cX4_explore 42 = .ok (.invokevirtual 48, 3) := by decide +kernel
theorem dX4_explore_45 : decode cX4_explore 45 = .ok (.iconst 0, 1) := by decide +kernel
theorem dX4_explore_46 : decode cX4_explore 46 = .ok (.istore 5, 2) := by decide +kernel
theorem dX4_explore_48 : decode cX4_explore 48 = .ok (.iload 5, 2) := by decide +kernel
theorem dX4_explore_50 : decode cX4_explore 50 = .ok (.bipush 24, 2) := by decide +kernel
theorem dX4_explore_52 : decode cX4_explore 52 = .ok (.if_icmp .ge 79, 3) := by decide +kernel
theorem dX4_explore_55 : decode cX4_explore 55 = .ok (.iload 4, 2) := by decide +kernel
theorem dX4_explore_57 : decode cX4_explore 57 = .ok (.aload_n 1, 1) := by decide +kernel
theorem dX4_explore_58 : decode cX4_explore 58 = .ok (.iload 5, 2) := by decide +kernel
theorem dX4_explore_60 : decode cX4_explore 60 = .ok (.invokevirtual 52, 3) := by decide +kernel
theorem dX4_explore_63 : decode cX4_explore 63 = .ok (.iadd, 1) := by decide +kernel
theorem dX4_explore_64 : decode cX4_explore 64 = .ok (.istore 6, 2) := by decide +kernel
theorem dX4_explore_66 : decode cX4_explore 66 = .ok (.iload 6, 2) := by decide +kernel
theorem dX4_explore_68 : decode cX4_explore 68 = .ok (.ifCond .lt 57, 3) := by decide +kernel
theorem dX4_explore_71 : decode cX4_explore 71 = .ok (.iload 6, 2) := by decide +kernel
theorem dX4_explore_73 : decode cX4_explore 73 = .ok (.aload_n 0, 1) := by decide +kernel
theorem dX4_explore_74 : decode cX4_explore 74 = .ok (.getfield 15, 3) := by decide +kernel
theorem dX4_explore_77 : decode cX4_explore 77 = .ok (.arraylength, 1) := by decide +kernel
theorem dX4_explore_78 : decode cX4_explore 78 = .ok (.if_icmp .ge 47, 3) := by decide +kernel
theorem dX4_explore_81 : decode cX4_explore 81 = .ok (.aload_n 0, 1) := by decide +kernel
theorem dX4_explore_82 : decode cX4_explore 82 = .ok (.getfield 15, 3) := by decide +kernel
theorem dX4_explore_85 : decode cX4_explore 85 = .ok (.iload 6, 2) := by decide +kernel
theorem dX4_explore_87 : decode cX4_explore 87 = .ok (.iaload, 1) := by decide +kernel
theorem dX4_explore_88 : decode cX4_explore 88 = .ok (.ifCond .lt 6, 3) := by decide +kernel
theorem dX4_explore_91 : decode cX4_explore 91 = .ok (.goto 34, 3) := by decide +kernel
theorem dX4_explore_94 : decode cX4_explore 94 = .ok (.aload_n 2, 1) := by decide +kernel
theorem dX4_explore_95 : decode cX4_explore 95 = .ok (.ifnull 20, 3) := by decide +kernel
theorem dX4_explore_98 : decode cX4_explore 98 = .ok (.aload_n 2, 1) := by decide +kernel
theorem dX4_explore_99 : decode cX4_explore 99 = .ok (.iload 4, 2) := by decide +kernel
theorem dX4_explore_101 : decode cX4_explore 101 = .ok (.iload 6, 2) := by decide +kernel
theorem dX4_explore_103 : decode cX4_explore 103 = .ok (.aload_n 1, 1) := by decide +kernel
theorem dX4_explore_104 : decode cX4_explore 104 = .ok (.iload 5, 2) := by decide +kernel
theorem dX4_explore_106 : decode cX4_explore 106 = .ok (.invokevirtual 56, 3) := by decide +kernel
theorem dX4_explore_109 : decode cX4_explore 109 = .ok (.invokevirtual 59, 3) := by decide +kernel
theorem dX4_explore_112 : decode cX4_explore 112 = .ok (.ifCond .eq 13, 3) := by decide +kernel
theorem dX4_explore_115 : decode cX4_explore 115 = .ok (.aload_n 0, 1) := by decide +kernel
theorem dX4_explore_116 : decode cX4_explore 116 = .ok (.iload 4, 2) := by decide +kernel
theorem dX4_explore_118 : decode cX4_explore 118 = .ok (.iload 5, 2) := by decide +kernel
theorem dX4_explore_120 : decode cX4_explore 120 = .ok (.iload 6, 2) := by decide +kernel
theorem dX4_explore_122 : decode cX4_explore 122 = .ok (.invokevirtual 65, 3) := by decide +kernel
theorem dX4_explore_125 : decode cX4_explore 125 = .ok (.iinc 5 1, 3) := by decide +kernel
theorem dX4_explore_128 : decode cX4_explore 128 = .ok (.goto (-80), 3) := by decide +kernel
theorem dX4_explore_131 : decode cX4_explore 131 = .ok (.iinc 3 1, 3) := by decide +kernel
theorem dX4_explore_134 : decode cX4_explore 134 = .ok (.goto (-120), 3) := by decide +kernel
theorem dX4_explore_137 : decode cX4_explore 137 = .ok (.return_, 1) := by decide +kernel
theorem dX4_enter_0 : decode cX4_enter 0 = .ok (.aload_n 0, 1) := by decide +kernel
theorem dX4_enter_1 : decode cX4_enter 1 = .ok (.getfield 21, 3) := by decide +kernel
theorem dX4_enter_4 : decode cX4_enter 4 = .ok (.aload_n 0, 1) := by decide +kernel
theorem dX4_enter_5 : decode cX4_enter 5 = .ok (.getfield 9, 3) := by decide +kernel
theorem dX4_enter_8 : decode cX4_enter 8 = .ok (.arraylength, 1) := by decide +kernel
theorem dX4_enter_9 : decode cX4_enter 9 = .ok (.if_icmp .lt 4, 3) := by decide +kernel
theorem dX4_enter_12 : decode cX4_enter 12 = .ok (.return_, 1) := by decide +kernel
theorem dX4_enter_13 : decode cX4_enter 13 = .ok (.aload_n 0, 1) := by decide +kernel
theorem dX4_enter_14 : decode cX4_enter 14 = .ok (.getfield 9, 3) := by decide +kernel
theorem dX4_enter_17 : decode cX4_enter 17 = .ok (.aload_n 0, 1) := by decide +kernel
theorem dX4_enter_18 : decode cX4_enter 18 = .ok (.getfield 21, 3) := by decide +kernel
theorem dX4_enter_21 : decode cX4_enter 21 = .ok (.iload_n 3, 1) := by decide +kernel
theorem dX4_enter_22 : decode cX4_enter 22 = .ok (.iastore, 1) := by decide +kernel
theorem dX4_enter_23 : decode cX4_enter 23 = .ok (.aload_n 0, 1) := by decide +kernel
theorem dX4_enter_24 : decode cX4_enter 24 = .ok (.dup, 1) := by decide +kernel
theorem dX4_enter_25 : decode cX4_enter 25 = .ok (.getfield 21, 3) := by decide +kernel
theorem dX4_enter_28 : decode cX4_enter 28 = .ok (.iconst 1, 1) := by decide +kernel
theorem dX4_enter_29 : decode cX4_enter 29 = .ok (.iadd, 1) := by decide +kernel
theorem dX4_enter_30 : decode cX4_enter 30 = .ok (.putfield 21, 3) := by decide +kernel
theorem dX4_enter_33 : decode cX4_enter 33 = .ok (.aload_n 0, 1) := by decide +kernel
theorem dX4_enter_34 : decode cX4_enter 34 = .ok (.getfield 15, 3) := by decide +kernel
theorem dX4_enter_37 : decode cX4_enter 37 = .ok (.iload_n 3, 1) := by decide +kernel
theorem dX4_enter_38 : decode cX4_enter 38 = .ok (.aload_n 0, 1) := by decide +kernel
theorem dX4_enter_39 : decode cX4_enter 39 = .ok (.getfield 15, 3) := by decide +kernel
theorem dX4_enter_42 : decode cX4_enter 42 = .ok (.iload_n 1, 1) := by decide +kernel
theorem dX4_enter_43 : decode cX4_enter 43 = .ok (.iaload, 1) := by decide +kernel
theorem dX4_enter_44 : decode cX4_enter 44 = .ok (.iconst 1, 1) := by decide +kernel
theorem dX4_enter_45 : decode cX4_enter 45 = .ok (.iadd, 1) := by decide +kernel
theorem dX4_enter_46 : decode cX4_enter 46 = .ok (.iastore, 1) := by decide +kernel
theorem dX4_enter_47 : decode cX4_enter 47 = .ok (.aload_n 0, 1) := by decide +kernel
theorem dX4_enter_48 : decode cX4_enter 48 = .ok (.getfield 18, 3) := by decide +kernel
theorem dX4_enter_51 : decode cX4_enter 51 = .ok (.iload_n 3, 1) := by decide +kernel
theorem dX4_enter_52 : decode cX4_enter 52 = .ok (.iload_n 1, 1) := by decide +kernel
theorem dX4_enter_53 : decode cX4_enter 53 = .ok (.bipush 32, 2) := by decide +kernel
theorem dX4_enter_55 : decode cX4_enter 55 = .ok (.imul, 1) := by decide +kernel
theorem dX4_enter_56 : decode cX4_enter 56 = .ok (.iload_n 2, 1) := by decide +kernel
theorem dX4_enter_57 : decode cX4_enter 57 = .ok (.iadd, 1) := by decide +kernel
theorem dX4_enter_58 : decode cX4_enter 58 = .ok (.iastore, 1) := by decide +kernel
theorem dX4_enter_59 : decode cX4_enter 59 = .ok (.return_, 1) := by decide +kernel
set_option maxRecDepth 20000 in
theorem ggX4_acts_X4_knows : GoodIn wsX4_acts wsX4_knows := goodIn_r _ [6, 1, 7, 8, 9, 10] (by decide +kernel) (by decide +kernel)
set_option maxRecDepth 20000 in
theorem gX4_acts_X4_knows : GoodIn wsX4_acts (wsV RX4 69 RX4 yX4_knows wsX4_knows) := goodIn_app (goodIn_of _ (by decide +kernel)) ggX4_acts_X4_knows
theorem dX4_acts_0 : decode cX4_acts 0 = .ok (.aload_n 0, 1) := by decide +kernel
theorem dX4_acts_1 : decode cX4_acts 1 = .ok (.iload_n 1, 1) := by decide +kernel
theorem dX4_acts_2 : decode cX4_acts 2 = .ok (.invokevirtual 69, 3) := by decide +kernel
theorem dX4_acts_5 : decode cX4_acts 5 = .ok (.ifCond .eq 12, 3) := by decide +kernel
theorem dX4_acts_8 : decode cX4_acts 8 = .ok (.aload_n 0, 1) := by decide +kernel
theorem dX4_acts_9 : decode cX4_acts 9 = .ok (.getfield 15, 3) := by decide +kernel
theorem dX4_acts_12 : decode cX4_acts 12 = .ok (.iload_n 1, 1) := by decide +kernel
theorem dX4_acts_13 : decode cX4_acts 13 = .ok (.iaload, 1) := by decide +kernel
theorem dX4_acts_14 : decode cX4_acts 14 = .ok (.goto 4, 3) := by decide +kernel
theorem dX4_acts_17 : decode cX4_acts 17 = .ok (.iconst (-1), 1) := by decide +kernel
theorem dX4_acts_18 : decode cX4_acts 18 = .ok (.ireturn, 1) := by decide +kernel
set_option maxRecDepth 20000 in
theorem ggX4_actOfRow_X4_knows : GoodIn wsX4_actOfRow wsX4_knows := goodIn_r _ [7, 1, 8, 9, 10, 11] (by decide +kernel) (by decide +kernel)
set_option maxRecDepth 20000 in
theorem gX4_actOfRow_X4_knows : GoodIn wsX4_actOfRow (wsV RX4 69 RX4 yX4_knows wsX4_knows) := goodIn_app (goodIn_of _ (by decide +kernel)) ggX4_actOfRow_X4_knows
theorem dX4_actOfRow_0 : decode cX4_actOfRow 0 = .ok (.aload_n 0, 1) := by decide +kernel
theorem dX4_actOfRow_1 : decode cX4_actOfRow 1 = .ok (.iload_n 1, 1) := by decide +kernel
theorem dX4_actOfRow_2 : decode cX4_actOfRow 2 = .ok (.invokevirtual 69, 3) := by decide +kernel
theorem dX4_actOfRow_5 : decode cX4_actOfRow 5 = .ok (.ifCond .eq 17, 3) := by decide +kernel
theorem dX4_actOfRow_8 : decode cX4_actOfRow 8 = .ok (.iload_n 2, 1) := by decide +kernel
theorem dX4_actOfRow_9 : decode cX4_actOfRow 9 = .ok (.ifCond .lt 13, 3) := by decide +kernel
theorem dX4_actOfRow_12 : decode cX4_actOfRow 12 = .ok (.iload_n 2, 1) := by decide +kernel
theorem dX4_actOfRow_13 : decode cX4_actOfRow 13 = .ok (.aload_n 0, 1) := by decide +kernel
theorem dX4_actOfRow_14 : decode cX4_actOfRow 14 = .ok (.getfield 15, 3) := by decide +kernel
theorem dX4_actOfRow_17 : decode cX4_actOfRow 17 = .ok (.iload_n 1, 1) := by decide +kernel
theorem dX4_actOfRow_18 : decode cX4_actOfRow 18 = .ok (.iaload, 1) := by decide +kernel
theorem dX4_actOfRow_19 : decode cX4_actOfRow 19 = .ok (.if_icmp .lt 5, 3) := by decide +kernel
theorem dX4_actOfRow_22 : decode cX4_actOfRow 22 = .ok (.iconst (-1), 1) := by decide +kernel
theorem dX4_actOfRow_23 : decode cX4_actOfRow 23 = .ok (.ireturn, 1) := by decide +kernel
theorem dX4_actOfRow_24 : decode cX4_actOfRow 24 = .ok (.iload_n 1, 1) := by decide +kernel
theorem dX4_actOfRow_25 : decode cX4_actOfRow 25 = .ok (.istore_n 3, 1) := by decide +kernel
theorem dX4_actOfRow_26 : decode cX4_actOfRow 26 = .ok (.aload_n 0, 1) := by decide +kernel
theorem dX4_actOfRow_27 : decode cX4_actOfRow 27 = .ok (.getfield 15, 3) := by decide +kernel
theorem dX4_actOfRow_30 : decode cX4_actOfRow 30 = .ok (.iload_n 1, 1) := by decide +kernel
theorem dX4_actOfRow_31 : decode cX4_actOfRow 31 = .ok (.iaload, 1) := by decide +kernel
theorem dX4_actOfRow_32 : decode cX4_actOfRow 32 = .ok (.iconst 1, 1) := by decide +kernel
theorem dX4_actOfRow_33 : decode cX4_actOfRow 33 = .ok (.isub, 1) := by decide +kernel
theorem dX4_actOfRow_34 : decode cX4_actOfRow 34 = .ok (.istore 4, 2) := by decide +kernel
theorem dX4_actOfRow_36 : decode cX4_actOfRow 36 = .ok (.iload 4, 2) := by decide +kernel
theorem dX4_actOfRow_38 : decode cX4_actOfRow 38 = .ok (.iload_n 2, 1) := by decide +kernel
theorem dX4_actOfRow_39 : decode cX4_actOfRow 39 = .ok (.if_icmp .le 27, 3) := by decide +kernel
theorem dX4_actOfRow_42 : decode cX4_actOfRow 42 = .ok (.aload_n 0, 1) := by decide +kernel
theorem dX4_actOfRow_43 : decode cX4_actOfRow 43 = .ok (.iload_n 3, 1) := by decide +kernel
theorem dX4_actOfRow_44 : decode cX4_actOfRow 44 = .ok (.invokevirtual 69, 3) := by decide +kernel
theorem dX4_actOfRow_47 : decode cX4_actOfRow 47 = .ok (.ifCond .eq 19, 3) := by decide +kernel
theorem dX4_actOfRow_50 : decode cX4_actOfRow 50 = .ok (.aload_n 0, 1) := by decide +kernel
theorem dX4_actOfRow_51 : decode cX4_actOfRow 51 = .ok (.getfield 18, 3) := by decide +kernel
theorem dX4_actOfRow_54 : decode cX4_actOfRow 54 = .ok (.iload_n 3, 1) := by decide +kernel
theorem dX4_actOfRow_55 : decode cX4_actOfRow 55 = .ok (.iaload, 1) := by decide +kernel
theorem dX4_actOfRow_56 : decode cX4_actOfRow 56 = .ok (.bipush 32, 2) := by decide +kernel
theorem dX4_actOfRow_58 : decode cX4_actOfRow 58 = .ok (.idiv, 1) := by decide +kernel
theorem dX4_actOfRow_59 : decode cX4_actOfRow 59 = .ok (.istore_n 3, 1) := by decide +kernel
theorem dX4_actOfRow_60 : decode cX4_actOfRow 60 = .ok (.iinc 4 (-1), 3) := by decide +kernel
theorem dX4_actOfRow_63 : decode cX4_actOfRow 63 = .ok (.goto (-27), 3) := by decide +kernel
theorem dX4_actOfRow_66 : decode cX4_actOfRow 66 = .ok (.aload_n 0, 1) := by decide +kernel
theorem dX4_actOfRow_67 : decode cX4_actOfRow 67 = .ok (.iload_n 3, 1) := by decide +kernel
theorem dX4_actOfRow_68 : decode cX4_actOfRow 68 = .ok (.invokevirtual 69, 3) := by decide +kernel
theorem dX4_actOfRow_71 : decode cX4_actOfRow 71 = .ok (.ifCond .eq 15, 3) := by decide +kernel
theorem dX4_actOfRow_74 : decode cX4_actOfRow 74 = .ok (.aload_n 0, 1) := by decide +kernel
theorem dX4_actOfRow_75 : decode cX4_actOfRow 75 = .ok (.getfield 18, 3) := by decide +kernel
theorem dX4_actOfRow_78 : decode cX4_actOfRow 78 = .ok (.iload_n 3, 1) := by decide +kernel
theorem dX4_actOfRow_79 : decode cX4_actOfRow 79 = .ok (.iaload, 1) := by decide +kernel
theorem dX4_actOfRow_80 : decode cX4_actOfRow 80 = .ok (.bipush 32, 2) := by decide +kernel
theorem dX4_actOfRow_82 : decode cX4_actOfRow 82 = .ok (.irem, 1) := by decide +kernel
theorem dX4_actOfRow_83 : decode cX4_actOfRow 83 = .ok (.goto 4, 3) := by decide +kernel
theorem dX4_actOfRow_86 : decode cX4_actOfRow 86 = .ok (.iconst (-1), 1) := by decide +kernel
theorem dX4_actOfRow_87 : decode cX4_actOfRow 87 = .ok (.ireturn, 1) := by decide +kernel
set_option maxRecDepth 20000 in
theorem ggX5_init_X2_init : GoodIn wsX5_init wsX2_init := goodIn_r _ [15, 16, 2, 3, 17, 18, 19, 20, 21, 22, 23, 24, 25, 26, 27, 28, 29, 30, 31, 32, 33, 34, 35, 36, 37, 38, 39, 40, 41, 42, 43, 44, 45, 46, 47, 48, 49, 50, 51, 52, 53, 54, 55, 56, 57, 58, 100, 101, 102, 103, 104, 105, 106, 76, 77, 78, 79, 80, 81, 82, 83, 84, 107, 108, 109, 110, 111, 112] (by decide +kernel) (by decide +kernel)
set_option maxRecDepth 20000 in
theorem gX5_init_X2_init_n9 : GoodIn wsX5_init (wsX2_init) := ggX5_init_X2_init
set_option maxRecDepth 20000 in
theorem ggX5_init_X0_init : GoodIn wsX5_init wsX0_init := goodIn_r _ [60, 61, 2, 3, 62, 43, 63, 64, 65, 66, 67, 68, 69, 70, 71, 72, 73, 74, 75, 88, 89, 90, 91, 92, 93, 94, 95, 96, 97, 98, 99] (by decide +kernel) (by decide +kernel)
set_option maxRecDepth 20000 in
theorem gX5_init_X0_init_n23 : GoodIn wsX5_init (wsX0_init) := ggX5_init_X0_init
theorem dX5_init_0 : decode cX5_init 0 = .ok (.aload_n 0, 1) := by decide +kernel
theorem dX5_init_1 : decode cX5_init 1 = .ok (.invokespecial 1, 3) := by decide +kernel
theorem dX5_init_4 : decode cX5_init 4 = .ok (.aload_n 0, 1) := by decide +kernel
theorem dX5_init_5 : decode cX5_init 5 = .ok (.new 7, 3) := by decide +kernel
theorem dX5_init_8 : decode cX5_init 8 = .ok (.dup, 1) := by decide +kernel
theorem dX5_init_9 : decode cX5_init 9 = .ok (.invokespecial 9, 3) := by decide +kernel
theorem dX5_init_12 : decode cX5_init 12 = .ok (.putfield 10, 3) := by decide +kernel
theorem dX5_init_15 : decode cX5_init 15 = .ok (.aload_n 0, 1) := by decide +kernel
theorem dX5_init_16 : decode cX5_init 16 = .ok (.aload_n 0, 1) := by decide +kernel
theorem dX5_init_17 : decode cX5_init 17 = .ok (.getfield 10, 3) := by decide +kernel
theorem dX5_init_20 : decode cX5_init 20 = .ok (.getfield 16, 3) := by decide +kernel
theorem dX5_init_23 : decode cX5_init 23 = .ok (.putfield 20, 3) := by decide +kernel
theorem dX5_init_26 : decode cX5_init 26 = .ok (.aload_n 0, 1) := by decide +kernel
theorem dX5_init_27 : decode cX5_init 27 = .ok (.new 21, 3) := by decide +kernel
theorem dX5_init_30 : decode cX5_init 30 = .ok (.dup, 1) := by decide +kernel
theorem dX5_init_31 : decode cX5_init 31 = .ok (.invokespecial 23, 3) := by decide +kernel
theorem dX5_init_34 : decode cX5_init 34 = .ok (.putfield 24, 3) := by decide +kernel
theorem dX5_init_37 : decode cX5_init 37 = .ok (.return_, 1) := by decide +kernel
set_option maxRecDepth 20000 in
theorem ggX5_jug_X2_forget : GoodIn wsX5_jug wsX2_forget := goodIn_r _ [8, 9, 10, 11, 32, 33, 34, 35, 36, 37, 38, 39, 40] (by decide +kernel) (by decide +kernel)
set_option maxRecDepth 20000 in
theorem gX5_jug_X2_forget : GoodIn wsX5_jug (wsV RX5 34 RX2 yX2_forget wsX2_forget) := goodIn_app (goodIn_of _ (by decide +kernel)) ggX5_jug_X2_forget
set_option maxRecDepth 20000 in
theorem ggX5_jug_X1_add : GoodIn wsX5_jug wsX1_add := goodIn_r _ [16, 17, 18, 19, 20, 21, 25, 26, 27, 28, 29, 30, 31] (by decide +kernel) (by decide +kernel)
set_option maxRecDepth 20000 in
theorem gX5_jug_X1_add : GoodIn wsX5_jug (wsV RX5 37 RX1 yX1_add wsX1_add) := goodIn_app (goodIn_of _ (by decide +kernel)) ggX5_jug_X1_add
theorem dX5_jug_0 : decode cX5_jug 0 = .ok (.iload_n 1, 1) := by decide +kernel
theorem dX5_jug_1 : decode cX5_jug 1 = .ok (.iconst 1, 1) := by decide +kernel
theorem dX5_jug_2 : decode cX5_jug 2 = .ok (.if_icmp .lt 18, 3) := by decide +kernel
theorem dX5_jug_5 : decode cX5_jug 5 = .ok (.iload_n 1, 1) := by decide +kernel
theorem dX5_jug_6 : decode cX5_jug 6 = .ok (.bipush 10, 2) := by decide +kernel
theorem dX5_jug_8 : decode cX5_jug 8 = .ok (.if_icmp .gt 12, 3) := by decide +kernel
theorem dX5_jug_11 : decode cX5_jug 11 = .ok (.iload_n 2, 1) := by decide +kernel
theorem dX5_jug_12 : decode cX5_jug 12 = .ok (.ifCond .lt 8, 3) := by decide +kernel
theorem dX5_jug_15 : decode cX5_jug 15 = .ok (.iload_n 2, 1) := by decide +kernel
theorem dX5_jug_16 : decode cX5_jug 16 = .ok (.iload_n 1, 1) := by decide +kernel
theorem dX5_jug_17 : decode cX5_jug 17 = .ok (.if_icmp .le 6, 3) := by decide +kernel
theorem dX5_jug_20 : decode cX5_jug 20 = .ok (.bipush (-2), 2) := by decide +kernel
theorem dX5_jug_22 : decode cX5_jug 22 = .ok (.ireturn, 1) := by decide +kernel
theorem dX5_jug_23 : decode cX5_jug 23 = .ok (.aload_n 0, 1) := by decide +kernel
theorem dX5_jug_24 : decode cX5_jug 24 = .ok (.getfield 20, 3) := by decide +kernel
theorem dX5_jug_27 : decode cX5_jug 27 = .ok (.getfield 28, 3) := by decide +kernel
theorem dX5_jug_30 : decode cX5_jug 30 = .ok (.iconst 4, 1) := by decide +kernel
theorem dX5_jug_31 : decode cX5_jug 31 = .ok (.if_icmp .lt 6, 3) := by decide +kernel
theorem dX5_jug_34 : decode cX5_jug 34 = .ok (.bipush (-4), 2) := by decide +kernel
theorem dX5_jug_36 : decode cX5_jug 36 = .ok (.ireturn, 1) := by decide +kernel
theorem dX5_jug_37 : decode cX5_jug 37 = .ok (.aload_n 0, 1) := by decide +kernel
theorem dX5_jug_38 : decode cX5_jug 38 = .ok (.getfield 10, 3) := by decide +kernel
theorem dX5_jug_41 : decode cX5_jug 41 = .ok (.invokevirtual 34, 3) := by decide +kernel
theorem dX5_jug_44 : decode cX5_jug 44 = .ok (.aload_n 0, 1) := by decide +kernel
theorem dX5_jug_45 : decode cX5_jug 45 = .ok (.getfield 20, 3) := by decide +kernel
theorem dX5_jug_48 : decode cX5_jug 48 = .ok (.iload_n 1, 1) := by decide +kernel
theorem dX5_jug_49 : decode cX5_jug 49 = .ok (.iload_n 2, 1) := by decide +kernel
theorem dX5_jug_50 : decode cX5_jug 50 = .ok (.invokevirtual 37, 3) := by decide +kernel
theorem dX5_jug_53 : decode cX5_jug 53 = .ok (.ireturn, 1) := by decide +kernel
set_option maxRecDepth 20000 in
theorem ggX5_set_X2_forget : GoodIn wsX5_set wsX2_forget := goodIn_r _ [9, 10, 11, 12, 23, 24, 25, 26, 27, 28, 29, 30, 31] (by decide +kernel) (by decide +kernel)
set_option maxRecDepth 20000 in
theorem gX5_set_X2_forget : GoodIn wsX5_set (wsV RX5 34 RX2 yX2_forget wsX2_forget) := goodIn_app (goodIn_of _ (by decide +kernel)) ggX5_set_X2_forget
theorem dX5_set_0 : decode cX5_set 0 = .ok (.iload_n 1, 1) := by decide +kernel
theorem dX5_set_1 : decode cX5_set 1 = .ok (.ifCond .eq 11, 3) := by decide +kernel
theorem dX5_set_4 : decode cX5_set 4 = .ok (.iload_n 1, 1) := by decide +kernel
theorem dX5_set_5 : decode cX5_set 5 = .ok (.iconst 1, 1) := by decide +kernel
theorem dX5_set_6 : decode cX5_set 6 = .ok (.if_icmp .eq 6, 3) := by decide +kernel
theorem dX5_set_9 : decode cX5_set 9 = .ok (.bipush (-2), 2) := by decide +kernel
theorem dX5_set_11 : decode cX5_set 11 = .ok (.ireturn, 1) := by decide +kernel
theorem dX5_set_12 : decode cX5_set 12 = .ok (.iload_n 1, 1) := by decide +kernel
theorem dX5_set_13 : decode cX5_set 13 = .ok (.ifCond .ne 13, 3) := by decide +kernel
theorem dX5_set_16 : decode cX5_set 16 = .ok (.aload_n 0, 1) := by decide +kernel
theorem dX5_set_17 : decode cX5_set 17 = .ok (.getfield 20, 3) := by decide +kernel
theorem dX5_set_20 : decode cX5_set 20 = .ok (.getfield 41, 3) := by decide +kernel
theorem dX5_set_23 : decode cX5_set 23 = .ok (.goto 10, 3) := by decide +kernel
theorem dX5_set_26 : decode cX5_set 26 = .ok (.aload_n 0, 1) := by decide +kernel
theorem dX5_set_27 : decode cX5_set 27 = .ok (.getfield 20, 3) := by decide +kernel
theorem dX5_set_30 : decode cX5_set 30 = .ok (.getfield 45, 3) := by decide +kernel
theorem dX5_set_33 : decode cX5_set 33 = .ok (.istore_n 3, 1) := by decide +kernel
theorem dX5_set_34 : decode cX5_set 34 = .ok (.iload_n 1, 1) := by decide +kernel
theorem dX5_set_35 : decode cX5_set 35 = .ok (.ifCond .ne 14, 3) := by decide +kernel
theorem dX5_set_38 : decode cX5_set 38 = .ok (.aload_n 0, 1) := by decide +kernel
theorem dX5_set_39 : decode cX5_set 39 = .ok (.getfield 20, 3) := by decide +kernel
theorem dX5_set_42 : decode cX5_set 42 = .ok (.iload_n 2, 1) := by decide +kernel
theorem dX5_set_43 : decode cX5_set 43 = .ok (.putfield 41, 3) := by decide +kernel
theorem dX5_set_46 : decode cX5_set 46 = .ok (.goto 11, 3) := by decide +kernel
theorem dX5_set_49 : decode cX5_set 49 = .ok (.aload_n 0, 1) := by decide +kernel
theorem dX5_set_50 : decode cX5_set 50 = .ok (.getfield 20, 3) := by decide +kernel
theorem dX5_set_53 : decode cX5_set 53 = .ok (.iload_n 2, 1) := by decide +kernel
theorem dX5_set_54 : decode cX5_set 54 = .ok (.putfield 45, 3) := by decide +kernel
theorem dX5_set_57 : decode cX5_set 57 = .ok (.aload_n 0, 1) := by decide +kernel
theorem dX5_set_58 : decode cX5_set 58 = .ok (.getfield 10, 3) := by decide +kernel
theorem dX5_set_61 : decode cX5_set 61 = .ok (.invokevirtual 34, 3) := by decide +kernel
theorem dX5_set_64 : decode cX5_set 64 = .ok (.iload_n 3, 1) := by decide +kernel
theorem dX5_set_65 : decode cX5_set 65 = .ok (.ifCond .eq 7, 3) := by decide +kernel
theorem dX5_set_68 : decode cX5_set 68 = .ok (.iconst 1, 1) := by decide +kernel
theorem dX5_set_69 : decode cX5_set 69 = .ok (.goto 4, 3) := by decide +kernel
theorem dX5_set_72 : decode cX5_set 72 = .ok (.iconst 0, 1) := by decide +kernel
theorem dX5_set_73 : decode cX5_set 73 = .ok (.ireturn, 1) := by decide +kernel
set_option maxRecDepth 20000 in
theorem ggX5_put_X1_has : GoodIn wsX5_put wsX1_has := goodIn_r _ [9, 10, 22, 23, 24, 25, 26, 27, 28] (by decide +kernel) (by decide +kernel)
set_option maxRecDepth 20000 in
theorem gX5_put_X1_has : GoodIn wsX5_put (wsV RX5 48 RX1 yX1_has wsX1_has) := goodIn_app (goodIn_of _ (by decide +kernel)) ggX5_put_X1_has
set_option maxRecDepth 20000 in
theorem ggX5_put_X2_forget : GoodIn wsX5_put wsX2_forget := goodIn_r _ [15, 16, 17, 18, 29, 30, 31, 32, 33, 34, 35, 36, 37] (by decide +kernel) (by decide +kernel)
set_option maxRecDepth 20000 in
theorem gX5_put_X2_forget : GoodIn wsX5_put (wsV RX5 34 RX2 yX2_forget wsX2_forget) := goodIn_app (goodIn_of _ (by decide +kernel)) ggX5_put_X2_forget
theorem dX5_put_0 : decode cX5_put 0 = .ok (.aload_n 0, 1) := by decide +kernel
theorem dX5_put_1 : decode cX5_put 1 = .ok (.getfield 20, 3) := by decide +kernel
theorem dX5_put_4 : decode cX5_put 4 = .ok (.iload_n 1, 1) := by decide +kernel
theorem dX5_put_5 : decode cX5_put 5 = .ok (.invokevirtual 48, 3) := by decide +kernel
theorem dX5_put_8 : decode cX5_put 8 = .ok (.ifCond .eq 20, 3) := by decide +kernel
theorem dX5_put_11 : decode cX5_put 11 = .ok (.iload_n 2, 1) := by decide +kernel
theorem dX5_put_12 : decode cX5_put 12 = .ok (.ifCond .lt 16, 3) := by decide +kernel
theorem dX5_put_15 : decode cX5_put 15 = .ok (.iload_n 2, 1) := by decide +kernel
theorem dX5_put_16 : decode cX5_put 16 = .ok (.aload_n 0, 1) := by decide +kernel
theorem dX5_put_17 : decode cX5_put 17 = .ok (.getfield 20, 3) := by decide +kernel
theorem dX5_put_20 : decode cX5_put 20 = .ok (.getfield 52, 3) := by decide +kernel
theorem dX5_put_23 : decode cX5_put 23 = .ok (.iload_n 1, 1) := by decide +kernel
theorem dX5_put_24 : decode cX5_put 24 = .ok (.iaload, 1) := by decide +kernel
theorem dX5_put_25 : decode cX5_put 25 = .ok (.if_icmp .le 6, 3) := by decide +kernel
theorem dX5_put_28 : decode cX5_put 28 = .ok (.bipush (-2), 2) := by decide +kernel
theorem dX5_put_30 : decode cX5_put 30 = .ok (.ireturn, 1) := by decide +kernel
theorem dX5_put_31 : decode cX5_put 31 = .ok (.aload_n 0, 1) := by decide +kernel
theorem dX5_put_32 : decode cX5_put 32 = .ok (.getfield 20, 3) := by decide +kernel
theorem dX5_put_35 : decode cX5_put 35 = .ok (.getfield 56, 3) := by decide +kernel
theorem dX5_put_38 : decode cX5_put 38 = .ok (.iload_n 1, 1) := by decide +kernel
theorem dX5_put_39 : decode cX5_put 39 = .ok (.iaload, 1) := by decide +kernel
theorem dX5_put_40 : decode cX5_put 40 = .ok (.istore_n 3, 1) := by decide +kernel
theorem dX5_put_41 : decode cX5_put 41 = .ok (.aload_n 0, 1) := by decide +kernel
theorem dX5_put_42 : decode cX5_put 42 = .ok (.getfield 20, 3) := by decide +kernel
theorem dX5_put_45 : decode cX5_put 45 = .ok (.getfield 56, 3) := by decide +kernel
theorem dX5_put_48 : decode cX5_put 48 = .ok (.iload_n 1, 1) := by decide +kernel
theorem dX5_put_49 : decode cX5_put 49 = .ok (.iload_n 2, 1) := by decide +kernel
theorem dX5_put_50 : decode cX5_put 50 = .ok (.iastore, 1) := by decide +kernel
theorem dX5_put_51 : decode cX5_put 51 = .ok (.aload_n 0, 1) := by decide +kernel
theorem dX5_put_52 : decode cX5_put 52 = .ok (.getfield 10, 3) := by decide +kernel
theorem dX5_put_55 : decode cX5_put 55 = .ok (.invokevirtual 34, 3) := by decide +kernel
theorem dX5_put_58 : decode cX5_put 58 = .ok (.iload_n 3, 1) := by decide +kernel
theorem dX5_put_59 : decode cX5_put 59 = .ok (.ireturn, 1) := by decide +kernel
set_option maxRecDepth 20000 in
theorem ggX5_holds_X1_has : GoodIn wsX5_holds wsX1_has := goodIn_r _ [7, 8, 12, 13, 14, 15, 16, 17, 18] (by decide +kernel) (by decide +kernel)
set_option maxRecDepth 20000 in
theorem gX5_holds_X1_has : GoodIn wsX5_holds (wsV RX5 48 RX1 yX1_has wsX1_has) := goodIn_app (goodIn_of _ (by decide +kernel)) ggX5_holds_X1_has
theorem dX5_holds_0 : decode cX5_holds 0 = .ok (.aload_n 0, 1) := by decide +kernel
theorem dX5_holds_1 : decode cX5_holds 1 = .ok (.getfield 20, 3) := by decide +kernel
theorem dX5_holds_4 : decode cX5_holds 4 = .ok (.iload_n 1, 1) := by decide +kernel
theorem dX5_holds_5 : decode cX5_holds 5 = .ok (.invokevirtual 48, 3) := by decide +kernel
theorem dX5_holds_8 : decode cX5_holds 8 = .ok (.ifCond .eq 15, 3) := by decide +kernel
theorem dX5_holds_11 : decode cX5_holds 11 = .ok (.aload_n 0, 1) := by decide +kernel
theorem dX5_holds_12 : decode cX5_holds 12 = .ok (.getfield 20, 3) := by decide +kernel
theorem dX5_holds_15 : decode cX5_holds 15 = .ok (.getfield 56, 3) := by decide +kernel
theorem dX5_holds_18 : decode cX5_holds 18 = .ok (.iload_n 1, 1) := by decide +kernel
theorem dX5_holds_19 : decode cX5_holds 19 = .ok (.iaload, 1) := by decide +kernel
theorem dX5_holds_20 : decode cX5_holds 20 = .ok (.goto 5, 3) := by decide +kernel
theorem dX5_holds_23 : decode cX5_holds 23 = .ok (.bipush (-2), 2) := by decide +kernel
theorem dX5_holds_25 : decode cX5_holds 25 = .ok (.ireturn, 1) := by decide +kernel
set_option maxRecDepth 20000 in
theorem ggX5_act_X1_haveAct : GoodIn wsX5_act wsX1_haveAct := goodIn_r _ [7, 8, 33, 34, 35, 36, 37, 38, 39] (by decide +kernel) (by decide +kernel)
set_option maxRecDepth 20000 in
theorem gX5_act_X1_haveAct : GoodIn wsX5_act (wsV RX5 59 RX1 yX1_haveAct wsX1_haveAct) := goodIn_app (goodIn_of _ (by decide +kernel)) ggX5_act_X1_haveAct
set_option maxRecDepth 20000 in
theorem ggX5_act_X1_moved : GoodIn wsX5_act wsX1_moved := goodIn_r _ [12, 8, 13, 14, 15, 16, 33, 34, 35, 36, 37, 38, 39] (by decide +kernel) (by decide +kernel)
set_option maxRecDepth 20000 in
theorem gX5_act_X1_moved : GoodIn wsX5_act (wsV RX5 62 RX1 yX1_moved wsX1_moved) := goodIn_app (goodIn_of _ (by decide +kernel)) ggX5_act_X1_moved
set_option maxRecDepth 20000 in
theorem ggX5_act_X1_move : GoodIn wsX5_act wsX1_move := goodIn_r _ [20, 13, 21, 4, 5, 6, 7, 8, 33, 34, 35, 36, 37, 38, 39] (by decide +kernel) (by decide +kernel)
set_option maxRecDepth 20000 in
theorem gX5_act_X1_move : GoodIn wsX5_act (wsV RX5 66 RX1 yX1_move wsX1_move) := goodIn_app (goodIn_of _ (by decide +kernel)) ggX5_act_X1_move
set_option maxRecDepth 20000 in
theorem ggX5_act_X2_forget : GoodIn wsX5_act wsX2_forget := goodIn_r _ [26, 27, 28, 29, 40, 41, 42, 43, 44, 45, 46, 47, 48] (by decide +kernel) (by decide +kernel)
set_option maxRecDepth 20000 in
theorem gX5_act_X2_forget : GoodIn wsX5_act (wsV RX5 34 RX2 yX2_forget wsX2_forget) := goodIn_app (goodIn_of _ (by decide +kernel)) ggX5_act_X2_forget
theorem dX5_act_0 : decode cX5_act 0 = .ok (.aload_n 0, 1) := by decide +kernel
theorem dX5_act_1 : decode cX5_act 1 = .ok (.getfield 20, 3) := by decide +kernel
theorem dX5_act_4 : decode cX5_act 4 = .ok (.iload_n 1, 1) := by decide +kernel
theorem dX5_act_5 : decode cX5_act 5 = .ok (.invokevirtual 59, 3) := by decide +kernel
theorem dX5_act_8 : decode cX5_act 8 = .ok (.ifCond .ne 6, 3) := by decide +kernel
theorem dX5_act_11 : decode cX5_act 11 = .ok (.bipush (-2), 2) := by decide +kernel
theorem dX5_act_13 : decode cX5_act 13 = .ok (.ireturn, 1) := by decide +kernel
theorem dX5_act_14 : decode cX5_act 14 = .ok (.aload_n 0, 1) := by decide +kernel
theorem dX5_act_15 : decode cX5_act 15 = .ok (.getfield 20, 3) := by decide +kernel
theorem dX5_act_18 : decode cX5_act 18 = .ok (.iload_n 1, 1) := by decide +kernel
theorem dX5_act_19 : decode cX5_act 19 = .ok (.invokevirtual 62, 3) := by decide +kernel
theorem dX5_act_22 : decode cX5_act 22 = .ok (.istore_n 2, 1) := by decide +kernel
theorem dX5_act_23 : decode cX5_act 23 = .ok (.iload_n 2, 1) := by decide +kernel
theorem dX5_act_24 : decode cX5_act 24 = .ok (.ifCond .ne 6, 3) := by decide +kernel
theorem dX5_act_27 : decode cX5_act 27 = .ok (.bipush (-3), 2) := by decide +kernel
theorem dX5_act_29 : decode cX5_act 29 = .ok (.ireturn, 1) := by decide +kernel
theorem dX5_act_30 : decode cX5_act 30 = .ok (.aload_n 0, 1) := by decide +kernel
theorem dX5_act_31 : decode cX5_act 31 = .ok (.getfield 20, 3) := by decide +kernel
theorem dX5_act_34 : decode cX5_act 34 = .ok (.iload_n 1, 1) := by decide +kernel
theorem dX5_act_35 : decode cX5_act 35 = .ok (.iload_n 2, 1) := by decide +kernel
theorem dX5_act_36 : decode cX5_act 36 = .ok (.invokevirtual 66, 3) := by decide +kernel
theorem dX5_act_39 : decode cX5_act 39 = .ok (.aload_n 0, 1) := by decide +kernel
theorem dX5_act_40 : decode cX5_act 40 = .ok (.getfield 10, 3) := by decide +kernel
theorem dX5_act_43 : decode cX5_act 43 = .ok (.invokevirtual 34, 3) := by decide +kernel
theorem dX5_act_46 : decode cX5_act 46 = .ok (.iload_n 2, 1) := by decide +kernel
theorem dX5_act_47 : decode cX5_act 47 = .ok (.ireturn, 1) := by decide +kernel
set_option maxRecDepth 20000 in
theorem ggX5_clear_X2_forget : GoodIn wsX5_clear wsX2_forget := goodIn_r _ [7, 8, 9, 10, 21, 22, 23, 24, 25, 26, 27, 28, 29] (by decide +kernel) (by decide +kernel)
set_option maxRecDepth 20000 in
theorem gX5_clear_X2_forget : GoodIn wsX5_clear (wsV RX5 34 RX2 yX2_forget wsX2_forget) := goodIn_app (goodIn_of _ (by decide +kernel)) ggX5_clear_X2_forget
set_option maxRecDepth 20000 in
theorem ggX5_clear_X1_removeAll : GoodIn wsX5_clear wsX1_removeAll := goodIn_r _ [15, 16, 17, 30, 31, 32, 33, 34, 35, 36] (by decide +kernel) (by decide +kernel)
set_option maxRecDepth 20000 in
theorem gX5_clear_X1_removeAll : GoodIn wsX5_clear (wsV RX5 70 RX1 yX1_removeAll wsX1_removeAll) := goodIn_app (goodIn_of _ (by decide +kernel)) ggX5_clear_X1_removeAll
theorem dX5_clear_0 : decode cX5_clear 0 = .ok (.aload_n 0, 1) := by decide +kernel
theorem dX5_clear_1 : decode cX5_clear 1 = .ok (.getfield 10, 3) := by decide +kernel
theorem dX5_clear_4 : decode cX5_clear 4 = .ok (.invokevirtual 34, 3) := by decide +kernel
theorem dX5_clear_7 : decode cX5_clear 7 = .ok (.aload_n 0, 1) := by decide +kernel
theorem dX5_clear_8 : decode cX5_clear 8 = .ok (.getfield 20, 3) := by decide +kernel
theorem dX5_clear_11 : decode cX5_clear 11 = .ok (.invokevirtual 70, 3) := by decide +kernel
theorem dX5_clear_14 : decode cX5_clear 14 = .ok (.ireturn, 1) := by decide +kernel
set_option maxRecDepth 20000 in
theorem ggX5_fewest_X5_isAim : GoodIn wsX5_fewest wsX5_isAim := goodIn_r _ [7, 8, 9, 10, 11, 12, 13, 14, 112, 113, 114, 124, 125, 126, 127, 128, 129, 130] (by decide +kernel) (by decide +kernel)
set_option maxRecDepth 20000 in
theorem gX5_fewest_X5_isAim : GoodIn wsX5_fewest (wsV RX5 74 RX5 yX5_isAim wsX5_isAim) := goodIn_app (goodIn_of _ (by decide +kernel)) ggX5_fewest_X5_isAim
set_option maxRecDepth 20000 in
theorem ggX5_fewest_X2_explore : GoodIn wsX5_fewest wsX2_explore := goodIn_r _ [19, 20, 21, 22, 23, 24, 25, 26, 12, 27, 14, 28, 29, 30, 31, 32, 33, 34, 35, 36, 37, 38, 39, 40, 41, 42, 43, 44, 45, 46, 47, 48, 49, 50, 51, 52, 53, 6, 54, 55, 56, 57, 58, 59, 60, 61, 62, 63, 64, 65, 66, 67, 68, 69, 70, 71, 72, 73, 74, 75, 76, 77, 78, 79, 80, 81, 82, 83, 84, 85, 86, 87, 88, 89, 90, 91, 115, 116, 117, 118, 119, 120, 121, 122, 123, 124, 125, 126, 127, 128, 129, 130, 131, 132, 133, 134, 135, 136] (by decide +kernel) (by decide +kernel)
set_option maxRecDepth 20000 in
theorem gX5_fewest_X2_explore : GoodIn wsX5_fewest (wsV RX5 78 RX2 yX2_explore wsX2_explore) := goodIn_app (goodIn_of _ (by decide +kernel)) ggX5_fewest_X2_explore
set_option maxRecDepth 20000 in
theorem ggX5_fewest_X2_nearest : GoodIn wsX5_fewest wsX2_nearest := goodIn_r _ [95, 23, 96, 97, 21, 98, 67, 68, 12, 69, 14, 31, 32, 99, 100, 101, 102, 103, 10, 11, 13, 115, 116, 117, 118, 119, 120, 121, 122, 123, 131, 132, 133, 134, 124, 125, 126, 127, 128, 129, 130] (by decide +kernel) (by decide +kernel)
set_option maxRecDepth 20000 in
theorem gX5_fewest_X2_nearest : GoodIn wsX5_fewest (wsV RX5 85 RX2 yX2_nearest wsX2_nearest) := goodIn_app (goodIn_of _ (by decide +kernel)) ggX5_fewest_X2_nearest
set_option maxRecDepth 20000 in
theorem ggX5_fewest_X4_acts : GoodIn wsX5_fewest wsX4_acts := goodIn_r _ [107, 42, 108, 109, 110, 37, 111, 131, 132, 133, 134] (by decide +kernel) (by decide +kernel)
set_option maxRecDepth 20000 in
theorem gX5_fewest_X4_acts : GoodIn wsX5_fewest (wsV RX5 88 RX4 yX4_acts wsX4_acts) := goodIn_app (goodIn_of _ (by decide +kernel)) ggX5_fewest_X4_acts
theorem dX5_fewest_0 : decode cX5_fewest 0 = .ok (.aload_n 0, 1) := by decide +kernel
theorem dX5_fewest_1 : decode cX5_fewest 1 = .ok (.iload_n 1, 1) := by decide +kernel
theorem dX5_fewest_2 : decode cX5_fewest 2 = .ok (.iload_n 2, 1) := by decide +kernel
theorem dX5_fewest_3 : decode cX5_fewest 3 = .ok (.invokevirtual 74, 3) := by decide +kernel
theorem dX5_fewest_6 : decode cX5_fewest 6 = .ok (.ifCond .ne 6, 3) := by decide +kernel
theorem dX5_fewest_9 : decode cX5_fewest 9 = .ok (.bipush (-2), 2) := by decide +kernel
theorem dX5_fewest_11 : decode cX5_fewest 11 = .ok (.ireturn, 1) := by decide +kernel
theorem dX5_fewest_12 : decode cX5_fewest 12 = .ok (.aload_n 0, 1) := by decide +kernel
theorem dX5_fewest_13 : decode cX5_fewest 13 = .ok (.getfield 10, 3) := by decide +kernel
theorem dX5_fewest_16 : decode cX5_fewest 16 = .ok (.invokevirtual 78, 3) := by decide +kernel
theorem dX5_fewest_19 : decode cX5_fewest 19 = .ok (.aload_n 0, 1) := by decide +kernel
theorem dX5_fewest_20 : decode cX5_fewest 20 = .ok (.getfield 10, 3) := by decide +kernel
theorem dX5_fewest_23 : decode cX5_fewest 23 = .ok (.getfield 81, 3) := by decide +kernel
theorem dX5_fewest_26 : decode cX5_fewest 26 = .ok (.aload_n 0, 1) := by decide +kernel
theorem dX5_fewest_27 : decode cX5_fewest 27 = .ok (.getfield 10, 3) := by decide +kernel
theorem dX5_fewest_30 : decode cX5_fewest 30 = .ok (.iload_n 1, 1) := by decide +kernel
theorem dX5_fewest_31 : decode cX5_fewest 31 = .ok (.iload_n 2, 1) := by decide +kernel
theorem dX5_fewest_32 : decode cX5_fewest 32 = .ok (.invokevirtual 85, 3) := by decide +kernel
theorem dX5_fewest_35 : decode cX5_fewest 35 = .ok (.invokevirtual 88, 3) := by decide +kernel
theorem dX5_fewest_38 : decode cX5_fewest 38 = .ok (.ireturn, 1) := by decide +kernel
set_option maxRecDepth 20000 in
theorem ggX5_rows_X5_isAim : GoodIn wsX5_rows wsX5_isAim := goodIn_r _ [7, 8, 9, 10, 11, 12, 13, 14, 134, 135, 136, 137, 138, 139, 140, 141, 142, 143] (by decide +kernel) (by decide +kernel)
set_option maxRecDepth 20000 in
theorem gX5_rows_X5_isAim : GoodIn wsX5_rows (wsV RX5 74 RX5 yX5_isAim wsX5_isAim) := goodIn_app (goodIn_of _ (by decide +kernel)) ggX5_rows_X5_isAim
set_option maxRecDepth 20000 in
theorem ggX5_rows_X2_explore : GoodIn wsX5_rows wsX2_explore := goodIn_r _ [19, 20, 21, 22, 23, 24, 25, 26, 12, 27, 14, 28, 29, 30, 31, 32, 33, 34, 35, 36, 37, 38, 39, 40, 41, 42, 43, 44, 45, 46, 47, 48, 49, 50, 51, 52, 53, 6, 54, 55, 56, 57, 58, 59, 60, 61, 62, 63, 64, 65, 66, 67, 68, 69, 70, 71, 72, 73, 74, 75, 76, 77, 78, 79, 80, 81, 82, 83, 84, 85, 86, 87, 88, 89, 90, 91, 144, 145, 146, 147, 148, 149, 150, 151, 152, 137, 138, 139, 140, 141, 142, 143, 153, 154, 155, 156, 157, 158] (by decide +kernel) (by decide +kernel)
set_option maxRecDepth 20000 in
theorem gX5_rows_X2_explore : GoodIn wsX5_rows (wsV RX5 78 RX2 yX2_explore wsX2_explore) := goodIn_app (goodIn_of _ (by decide +kernel)) ggX5_rows_X2_explore
set_option maxRecDepth 20000 in
theorem ggX5_rows_X2_countWays : GoodIn wsX5_rows wsX2_countWays := goodIn_r _ [95, 96, 97, 23, 98, 99, 22, 100, 101, 21, 102, 103, 104, 57, 105, 106, 107, 64, 108, 109, 44, 45, 12, 46, 14, 32, 33, 110, 67, 68, 69, 31, 111, 71, 72, 73, 74, 75, 76, 77, 29, 30, 112, 113, 114, 37, 115, 42, 144, 145, 146, 147, 148, 149, 150, 151, 152, 153, 154, 155, 156, 137, 138, 139, 140, 141, 142, 143] (by decide +kernel) (by decide +kernel)
set_option maxRecDepth 20000 in
theorem gX5_rows_X2_countWays : GoodIn wsX5_rows (wsV RX5 95 RX2 yX2_countWays wsX2_countWays) := goodIn_app (goodIn_of _ (by decide +kernel)) ggX5_rows_X2_countWays
set_option maxRecDepth 20000 in
theorem ggX5_rows_X2_waysTo : GoodIn wsX5_rows wsX2_waysTo := goodIn_r _ [119, 23, 100, 101, 21, 98, 102, 97, 103, 104, 57, 105, 120, 121, 122, 18, 123, 110, 67, 68, 12, 69, 14, 31, 32, 124, 125, 126, 127, 128, 10, 11, 13, 129, 130, 131, 37, 132, 42, 133, 113, 114, 115, 144, 145, 146, 147, 148, 149, 150, 151, 152, 153, 154, 155, 156, 137, 138, 139, 140, 141, 142, 143] (by decide +kernel) (by decide +kernel)
set_option maxRecDepth 20000 in
theorem gX5_rows_X2_waysTo : GoodIn wsX5_rows (wsV RX5 98 RX2 yX2_waysTo wsX2_waysTo) := goodIn_app (goodIn_of _ (by decide +kernel)) ggX5_rows_X2_waysTo
theorem dX5_rows_0 : decode cX5_rows 0 = .ok (.aload_n 0, 1) := by decide +kernel
theorem dX5_rows_1 : decode cX5_rows 1 = .ok (.iload_n 1, 1) := by decide +kernel
theorem dX5_rows_2 : decode cX5_rows 2 = .ok (.iload_n 2, 1) := by decide +kernel
theorem dX5_rows_3 : decode cX5_rows 3 = .ok (.invokevirtual 74, 3) := by decide +kernel
theorem dX5_rows_6 : decode cX5_rows 6 = .ok (.ifCond .ne 7, 3) := by decide +kernel
theorem dX5_rows_9 : decode cX5_rows 9 = .ok (.ldc2_w 93, 3) := by decide +kernel
theorem dX5_rows_12 : decode cX5_rows 12 = .ok (.lreturn, 1) := by decide +kernel
theorem dX5_rows_13 : decode cX5_rows 13 = .ok (.aload_n 0, 1) := by decide +kernel
theorem dX5_rows_14 : decode cX5_rows 14 = .ok (.getfield 10, 3) := by decide +kernel
theorem dX5_rows_17 : decode cX5_rows 17 = .ok (.invokevirtual 78, 3) := by decide +kernel
theorem dX5_rows_20 : decode cX5_rows 20 = .ok (.aload_n 0, 1) := by decide +kernel
theorem dX5_rows_21 : decode cX5_rows 21 = .ok (.getfield 10, 3) := by decide +kernel
theorem dX5_rows_24 : decode cX5_rows 24 = .ok (.invokevirtual 95, 3) := by decide +kernel
theorem dX5_rows_27 : decode cX5_rows 27 = .ok (.aload_n 0, 1) := by decide +kernel
theorem dX5_rows_28 : decode cX5_rows 28 = .ok (.getfield 10, 3) := by decide +kernel
theorem dX5_rows_31 : decode cX5_rows 31 = .ok (.iload_n 1, 1) := by decide +kernel
theorem dX5_rows_32 : decode cX5_rows 32 = .ok (.iload_n 2, 1) := by decide +kernel
theorem dX5_rows_33 : decode cX5_rows 33 = .ok (.invokevirtual 98, 3) := by decide +kernel
theorem dX5_rows_36 : decode cX5_rows 36 = .ok (.lreturn, 1) := by decide +kernel
set_option maxRecDepth 20000 in
theorem ggX5_best_X5_isAim : GoodIn wsX5_best wsX5_isAim := goodIn_r _ [7, 8, 9, 10, 11, 12, 13, 14, 112, 113, 114, 124, 125, 126, 127, 128, 129, 130] (by decide +kernel) (by decide +kernel)
set_option maxRecDepth 20000 in
theorem gX5_best_X5_isAim : GoodIn wsX5_best (wsV RX5 74 RX5 yX5_isAim wsX5_isAim) := goodIn_app (goodIn_of _ (by decide +kernel)) ggX5_best_X5_isAim
set_option maxRecDepth 20000 in
theorem ggX5_best_X2_explore : GoodIn wsX5_best wsX2_explore := goodIn_r _ [19, 20, 21, 22, 23, 24, 25, 26, 12, 27, 14, 28, 29, 30, 31, 32, 33, 34, 35, 36, 37, 38, 39, 40, 41, 42, 43, 44, 45, 46, 47, 48, 49, 50, 51, 52, 53, 6, 54, 55, 56, 57, 58, 59, 60, 61, 62, 63, 64, 65, 66, 67, 68, 69, 70, 71, 72, 73, 74, 75, 76, 77, 78, 79, 80, 81, 82, 83, 84, 85, 86, 87, 88, 89, 90, 91, 115, 116, 117, 118, 119, 120, 121, 122, 123, 124, 125, 126, 127, 128, 129, 130, 131, 132, 133, 134, 135, 136] (by decide +kernel) (by decide +kernel)
set_option maxRecDepth 20000 in
theorem gX5_best_X2_explore : GoodIn wsX5_best (wsV RX5 78 RX2 yX2_explore wsX2_explore) := goodIn_app (goodIn_of _ (by decide +kernel)) ggX5_best_X2_explore
set_option maxRecDepth 20000 in
theorem ggX5_best_X2_nearest : GoodIn wsX5_best wsX2_nearest := goodIn_r _ [95, 23, 96, 97, 21, 98, 67, 68, 12, 69, 14, 31, 32, 99, 100, 101, 102, 103, 10, 11, 13, 115, 116, 117, 118, 119, 120, 121, 122, 123, 131, 132, 133, 134, 124, 125, 126, 127, 128, 129, 130] (by decide +kernel) (by decide +kernel)
set_option maxRecDepth 20000 in
theorem gX5_best_X2_nearest : GoodIn wsX5_best (wsV RX5 85 RX2 yX2_nearest wsX2_nearest) := goodIn_app (goodIn_of _ (by decide +kernel)) ggX5_best_X2_nearest
set_option maxRecDepth 20000 in
theorem ggX5_best_X4_actOfRow : GoodIn wsX5_best wsX4_actOfRow := goodIn_r _ [107, 42, 52, 108, 109, 110, 37, 111, 131, 132, 133, 134] (by decide +kernel) (by decide +kernel)
set_option maxRecDepth 20000 in
theorem gX5_best_X4_actOfRow : GoodIn wsX5_best (wsV RX5 102 RX4 yX4_actOfRow wsX4_actOfRow) := goodIn_app (goodIn_of _ (by decide +kernel)) ggX5_best_X4_actOfRow
theorem dX5_best_0 : decode cX5_best 0 = .ok (.aload_n 0, 1) := by decide +kernel
theorem dX5_best_1 : decode cX5_best 1 = .ok (.iload_n 1, 1) := by decide +kernel
theorem dX5_best_2 : decode cX5_best 2 = .ok (.iload_n 2, 1) := by decide +kernel
theorem dX5_best_3 : decode cX5_best 3 = .ok (.invokevirtual 74, 3) := by decide +kernel
theorem dX5_best_6 : decode cX5_best 6 = .ok (.ifCond .eq 7, 3) := by decide +kernel
theorem dX5_best_9 : decode cX5_best 9 = .ok (.iload_n 3, 1) := by decide +kernel
theorem dX5_best_10 : decode cX5_best 10 = .ok (.ifCond .ge 6, 3) := by decide +kernel
theorem dX5_best_13 : decode cX5_best 13 = .ok (.bipush (-2), 2) := by decide +kernel
theorem dX5_best_15 : decode cX5_best 15 = .ok (.ireturn, 1) := by decide +kernel
theorem dX5_best_16 : decode cX5_best 16 = .ok (.aload_n 0, 1) := by decide +kernel
theorem dX5_best_17 : decode cX5_best 17 = .ok (.getfield 10, 3) := by decide +kernel
theorem dX5_best_20 : decode cX5_best 20 = .ok (.invokevirtual 78, 3) := by decide +kernel
theorem dX5_best_23 : decode cX5_best 23 = .ok (.aload_n 0, 1) := by decide +kernel
theorem dX5_best_24 : decode cX5_best 24 = .ok (.getfield 10, 3) := by decide +kernel
theorem dX5_best_27 : decode cX5_best 27 = .ok (.getfield 81, 3) := by decide +kernel
theorem dX5_best_30 : decode cX5_best 30 = .ok (.aload_n 0, 1) := by decide +kernel
theorem dX5_best_31 : decode cX5_best 31 = .ok (.getfield 10, 3) := by decide +kernel
theorem dX5_best_34 : decode cX5_best 34 = .ok (.iload_n 1, 1) := by decide +kernel
theorem dX5_best_35 : decode cX5_best 35 = .ok (.iload_n 2, 1) := by decide +kernel
theorem dX5_best_36 : decode cX5_best 36 = .ok (.invokevirtual 85, 3) := by decide +kernel
theorem dX5_best_39 : decode cX5_best 39 = .ok (.iload_n 3, 1) := by decide +kernel
theorem dX5_best_40 : decode cX5_best 40 = .ok (.invokevirtual 102, 3) := by decide +kernel
theorem dX5_best_43 : decode cX5_best 43 = .ok (.ireturn, 1) := by decide +kernel
set_option maxRecDepth 20000 in
theorem ggX5_sparing_X5_isAim : GoodIn wsX5_sparing wsX5_isAim := goodIn_r _ [8, 9, 10, 11, 12, 13, 14, 15, 143, 144, 145, 155, 156, 157, 158, 159, 160, 161] (by decide +kernel) (by decide +kernel)
set_option maxRecDepth 20000 in
theorem gX5_sparing_X5_isAim : GoodIn wsX5_sparing (wsV RX5 74 RX5 yX5_isAim wsX5_isAim) := goodIn_app (goodIn_of _ (by decide +kernel)) ggX5_sparing_X5_isAim
set_option maxRecDepth 20000 in
theorem ggX5_sparing_X2_explore : GoodIn wsX5_sparing wsX2_explore := goodIn_r _ [20, 21, 22, 23, 24, 25, 26, 27, 13, 28, 15, 29, 30, 31, 32, 33, 34, 35, 36, 37, 38, 39, 40, 41, 42, 43, 44, 45, 46, 47, 48, 49, 50, 51, 52, 53, 54, 7, 55, 56, 57, 58, 59, 60, 61, 62, 63, 64, 65, 66, 67, 68, 69, 70, 71, 72, 73, 74, 75, 76, 77, 78, 79, 80, 81, 82, 83, 84, 85, 86, 87, 88, 89, 90, 91, 92, 146, 147, 148, 149, 150, 151, 152, 153, 154, 155, 156, 157, 158, 159, 160, 161, 162, 163, 164, 165, 166, 167] (by decide +kernel) (by decide +kernel)
set_option maxRecDepth 20000 in
theorem gX5_sparing_X2_explore : GoodIn wsX5_sparing (wsV RX5 78 RX2 yX2_explore wsX2_explore) := goodIn_app (goodIn_of _ (by decide +kernel)) ggX5_sparing_X2_explore
set_option maxRecDepth 20000 in
theorem ggX5_sparing_X2_exploreSparing : GoodIn wsX5_sparing wsX2_exploreSparing := goodIn_r _ [96, 97, 22, 23, 98, 24, 99, 25, 26, 27, 13, 28, 15, 29, 30, 31, 32, 33, 34, 100, 101, 102, 86, 103, 88, 104, 52, 105, 106, 107, 108, 64, 65, 66, 109, 45, 46, 47, 110, 111, 112, 113, 114, 115, 68, 69, 70, 116, 72, 73, 74, 75, 76, 77, 78, 117, 80, 81, 82, 35, 36, 37, 38, 39, 40, 41, 42, 43, 44, 48, 49, 50, 51, 53, 54, 7, 55, 56, 57, 58, 59, 60, 61, 62, 63, 67, 71, 79, 83, 84, 85, 87, 89, 90, 91, 92, 146, 147, 148, 149, 150, 151, 152, 153, 154, 155, 156, 157, 158, 159, 160, 161, 166, 167, 162, 163, 164, 165] (by decide +kernel) (by decide +kernel)
set_option maxRecDepth 20000 in
theorem gX5_sparing_X2_exploreSparing : GoodIn wsX5_sparing (wsV RX5 105 RX2 yX2_exploreSparing wsX2_exploreSparing) := goodIn_app (goodIn_of _ (by decide +kernel)) ggX5_sparing_X2_exploreSparing
set_option maxRecDepth 20000 in
theorem ggX5_sparing_X2_thriftiest : GoodIn wsX5_sparing wsX2_thriftiest := goodIn_r _ [121, 99, 122, 123, 22, 98, 124, 68, 69, 13, 70, 15, 32, 33, 125, 126, 127, 128, 129, 11, 12, 14, 130, 131, 132, 86, 133, 88, 146, 147, 148, 149, 150, 151, 152, 153, 154, 162, 163, 164, 165, 155, 156, 157, 158, 159, 160, 161, 166, 167] (by decide +kernel) (by decide +kernel)
set_option maxRecDepth 20000 in
theorem gX5_sparing_X2_thriftiest : GoodIn wsX5_sparing (wsV RX5 108 RX2 yX2_thriftiest wsX2_thriftiest) := goodIn_app (goodIn_of _ (by decide +kernel)) ggX5_sparing_X2_thriftiest
set_option maxRecDepth 20000 in
theorem ggX5_sparing_X3_leastFor : GoodIn wsX5_sparing wsX3_leastFor := goodIn_r _ [133, 88, 166, 167] (by decide +kernel) (by decide +kernel)
set_option maxRecDepth 20000 in
theorem gX5_sparing_X3_leastFor : GoodIn wsX5_sparing (wsV RX5 115 RX3 yX3_leastFor wsX3_leastFor) := goodIn_app (goodIn_of _ (by decide +kernel)) ggX5_sparing_X3_leastFor
set_option maxRecDepth 20000 in
theorem ggX5_sparing_X4_acts : GoodIn wsX5_sparing wsX4_acts := goodIn_r _ [138, 43, 139, 140, 141, 38, 142, 162, 163, 164, 165] (by decide +kernel) (by decide +kernel)
set_option maxRecDepth 20000 in
theorem gX5_sparing_X4_acts : GoodIn wsX5_sparing (wsV RX5 88 RX4 yX4_acts wsX4_acts) := goodIn_app (goodIn_of _ (by decide +kernel)) ggX5_sparing_X4_acts
theorem dX5_sparing_0 : decode cX5_sparing 0 = .ok (.aload_n 0, 1) := by decide +kernel
theorem dX5_sparing_1 : decode cX5_sparing 1 = .ok (.iload_n 1, 1) := by decide +kernel
theorem dX5_sparing_2 : decode cX5_sparing 2 = .ok (.iload_n 2, 1) := by decide +kernel
theorem dX5_sparing_3 : decode cX5_sparing 3 = .ok (.invokevirtual 74, 3) := by decide +kernel
theorem dX5_sparing_6 : decode cX5_sparing 6 = .ok (.ifCond .eq 12, 3) := by decide +kernel
theorem dX5_sparing_9 : decode cX5_sparing 9 = .ok (.iload_n 3, 1) := by decide +kernel
theorem dX5_sparing_10 : decode cX5_sparing 10 = .ok (.ifCond .lt 8, 3) := by decide +kernel
theorem dX5_sparing_13 : decode cX5_sparing 13 = .ok (.iload_n 3, 1) := by decide +kernel
theorem dX5_sparing_14 : decode cX5_sparing 14 = .ok (.iconst 1, 1) := by decide +kernel
theorem dX5_sparing_15 : decode cX5_sparing 15 = .ok (.if_icmp .le 6, 3) := by decide +kernel
theorem dX5_sparing_18 : decode cX5_sparing 18 = .ok (.bipush (-2), 2) := by decide +kernel
theorem dX5_sparing_20 : decode cX5_sparing 20 = .ok (.ireturn, 1) := by decide +kernel
theorem dX5_sparing_21 : decode cX5_sparing 21 = .ok (.aload_n 0, 1) := by decide +kernel
theorem dX5_sparing_22 : decode cX5_sparing 22 = .ok (.getfield 10, 3) := by decide +kernel
theorem dX5_sparing_25 : decode cX5_sparing 25 = .ok (.invokevirtual 78, 3) := by decide +kernel
theorem dX5_sparing_28 : decode cX5_sparing 28 = .ok (.aload_n 0, 1) := by decide +kernel
theorem dX5_sparing_29 : decode cX5_sparing 29 = .ok (.getfield 10, 3) := by decide +kernel
theorem dX5_sparing_32 : decode cX5_sparing 32 = .ok (.invokevirtual 105, 3) := by decide +kernel
theorem dX5_sparing_35 : decode cX5_sparing 35 = .ok (.aload_n 0, 1) := by decide +kernel
theorem dX5_sparing_36 : decode cX5_sparing 36 = .ok (.getfield 10, 3) := by decide +kernel
theorem dX5_sparing_39 : decode cX5_sparing 39 = .ok (.iload_n 1, 1) := by decide +kernel
theorem dX5_sparing_40 : decode cX5_sparing 40 = .ok (.iload_n 2, 1) := by decide +kernel
theorem dX5_sparing_41 : decode cX5_sparing 41 = .ok (.invokevirtual 108, 3) := by decide +kernel
theorem dX5_sparing_44 : decode cX5_sparing 44 = .ok (.istore 4, 2) := by decide +kernel
theorem dX5_sparing_46 : decode cX5_sparing 46 = .ok (.iload_n 3, 1) := by decide +kernel
theorem dX5_sparing_47 : decode cX5_sparing 47 = .ok (.ifCond .ne 18, 3) := by decide +kernel
theorem dX5_sparing_50 : decode cX5_sparing 50 = .ok (.aload_n 0, 1) := by decide +kernel
theorem dX5_sparing_51 : decode cX5_sparing 51 = .ok (.getfield 10, 3) := by decide +kernel
theorem dX5_sparing_54 : decode cX5_sparing 54 = .ok (.getfield 111, 3) := by decide +kernel
theorem dX5_sparing_57 : decode cX5_sparing 57 = .ok (.iload 4, 2) := by decide +kernel
theorem dX5_sparing_59 : decode cX5_sparing 59 = .ok (.invokevirtual 115, 3) := by decide +kernel
theorem dX5_sparing_62 : decode cX5_sparing 62 = .ok (.goto 15, 3) := by decide +kernel
theorem dX5_sparing_65 : decode cX5_sparing 65 = .ok (.aload_n 0, 1) := by decide +kernel
theorem dX5_sparing_66 : decode cX5_sparing 66 = .ok (.getfield 10, 3) := by decide +kernel
theorem dX5_sparing_69 : decode cX5_sparing 69 = .ok (.getfield 120, 3) := by decide +kernel
theorem dX5_sparing_72 : decode cX5_sparing 72 = .ok (.iload 4, 2) := by decide +kernel
theorem dX5_sparing_74 : decode cX5_sparing 74 = .ok (.invokevirtual 88, 3) := by decide +kernel
theorem dX5_sparing_77 : decode cX5_sparing 77 = .ok (.ireturn, 1) := by decide +kernel
set_option maxRecDepth 20000 in
theorem ggX5_spare_X5_isAim : GoodIn wsX5_spare wsX5_isAim := goodIn_r _ [7, 8, 9, 10, 11, 12, 13, 14, 141, 142, 143, 153, 154, 155, 156, 157, 158, 159] (by decide +kernel) (by decide +kernel)
set_option maxRecDepth 20000 in
theorem gX5_spare_X5_isAim : GoodIn wsX5_spare (wsV RX5 74 RX5 yX5_isAim wsX5_isAim) := goodIn_app (goodIn_of _ (by decide +kernel)) ggX5_spare_X5_isAim
set_option maxRecDepth 20000 in
theorem ggX5_spare_X2_explore : GoodIn wsX5_spare wsX2_explore := goodIn_r _ [19, 20, 21, 22, 23, 24, 25, 26, 12, 27, 14, 28, 29, 30, 31, 32, 33, 34, 35, 36, 37, 38, 39, 40, 41, 42, 43, 44, 45, 46, 47, 48, 49, 50, 51, 52, 53, 6, 54, 55, 56, 57, 58, 59, 60, 61, 62, 63, 64, 65, 66, 67, 68, 69, 70, 71, 72, 73, 74, 75, 76, 77, 78, 79, 80, 81, 82, 83, 84, 85, 86, 87, 88, 89, 90, 91, 144, 145, 146, 147, 148, 149, 150, 151, 152, 153, 154, 155, 156, 157, 158, 159, 160, 161, 162, 163, 164, 165] (by decide +kernel) (by decide +kernel)
set_option maxRecDepth 20000 in
theorem gX5_spare_X2_explore : GoodIn wsX5_spare (wsV RX5 78 RX2 yX2_explore wsX2_explore) := goodIn_app (goodIn_of _ (by decide +kernel)) ggX5_spare_X2_explore
set_option maxRecDepth 20000 in
theorem ggX5_spare_X2_exploreSparing : GoodIn wsX5_spare wsX2_exploreSparing := goodIn_r _ [95, 96, 21, 22, 97, 23, 98, 24, 25, 26, 12, 27, 14, 28, 29, 30, 31, 32, 33, 99, 100, 101, 85, 102, 87, 103, 51, 104, 105, 106, 107, 63, 64, 65, 108, 44, 45, 46, 109, 110, 111, 112, 113, 114, 67, 68, 69, 115, 71, 72, 73, 74, 75, 76, 77, 116, 79, 80, 81, 34, 35, 36, 37, 38, 39, 40, 41, 42, 43, 47, 48, 49, 50, 52, 53, 6, 54, 55, 56, 57, 58, 59, 60, 61, 62, 66, 70, 78, 82, 83, 84, 86, 88, 89, 90, 91, 144, 145, 146, 147, 148, 149, 150, 151, 152, 153, 154, 155, 156, 157, 158, 159, 164, 165, 160, 161, 162, 163] (by decide +kernel) (by decide +kernel)
set_option maxRecDepth 20000 in
theorem gX5_spare_X2_exploreSparing : GoodIn wsX5_spare (wsV RX5 105 RX2 yX2_exploreSparing wsX2_exploreSparing) := goodIn_app (goodIn_of _ (by decide +kernel)) ggX5_spare_X2_exploreSparing
set_option maxRecDepth 20000 in
theorem ggX5_spare_X2_thriftiest : GoodIn wsX5_spare wsX2_thriftiest := goodIn_r _ [120, 98, 121, 122, 21, 97, 123, 67, 68, 12, 69, 14, 31, 32, 124, 125, 126, 127, 128, 10, 11, 13, 129, 130, 131, 85, 132, 87, 144, 145, 146, 147, 148, 149, 150, 151, 152, 160, 161, 162, 163, 153, 154, 155, 156, 157, 158, 159, 164, 165] (by decide +kernel) (by decide +kernel)
set_option maxRecDepth 20000 in
theorem gX5_spare_X2_thriftiest : GoodIn wsX5_spare (wsV RX5 108 RX2 yX2_thriftiest wsX2_thriftiest) := goodIn_app (goodIn_of _ (by decide +kernel)) ggX5_spare_X2_thriftiest
set_option maxRecDepth 20000 in
theorem ggX5_spare_X4_actOfRow : GoodIn wsX5_spare wsX4_actOfRow := goodIn_r _ [136, 42, 52, 137, 138, 139, 37, 140, 160, 161, 162, 163] (by decide +kernel) (by decide +kernel)
set_option maxRecDepth 20000 in
theorem gX5_spare_X4_actOfRow : GoodIn wsX5_spare (wsV RX5 102 RX4 yX4_actOfRow wsX4_actOfRow) := goodIn_app (goodIn_of _ (by decide +kernel)) ggX5_spare_X4_actOfRow
theorem dX5_spare_0 : decode cX5_spare 0 = .ok (.aload_n 0, 1) := by decide +kernel
theorem dX5_spare_1 : decode cX5_spare 1 = .ok (.iload_n 1, 1) := by decide +kernel
theorem dX5_spare_2 : decode cX5_spare 2 = .ok (.iload_n 2, 1) := by decide +kernel
theorem dX5_spare_3 : decode cX5_spare 3 = .ok (.invokevirtual 74, 3) := by decide +kernel
theorem dX5_spare_6 : decode cX5_spare 6 = .ok (.ifCond .eq 7, 3) := by decide +kernel
theorem dX5_spare_9 : decode cX5_spare 9 = .ok (.iload_n 3, 1) := by decide +kernel
theorem dX5_spare_10 : decode cX5_spare 10 = .ok (.ifCond .ge 6, 3) := by decide +kernel
theorem dX5_spare_13 : decode cX5_spare 13 = .ok (.bipush (-2), 2) := by decide +kernel
theorem dX5_spare_15 : decode cX5_spare 15 = .ok (.ireturn, 1) := by decide +kernel
theorem dX5_spare_16 : decode cX5_spare 16 = .ok (.aload_n 0, 1) := by decide +kernel
theorem dX5_spare_17 : decode cX5_spare 17 = .ok (.getfield 10, 3) := by decide +kernel
theorem dX5_spare_20 : decode cX5_spare 20 = .ok (.invokevirtual 78, 3) := by decide +kernel
theorem dX5_spare_23 : decode cX5_spare 23 = .ok (.aload_n 0, 1) := by decide +kernel
theorem dX5_spare_24 : decode cX5_spare 24 = .ok (.getfield 10, 3) := by decide +kernel
theorem dX5_spare_27 : decode cX5_spare 27 = .ok (.invokevirtual 105, 3) := by decide +kernel
theorem dX5_spare_30 : decode cX5_spare 30 = .ok (.aload_n 0, 1) := by decide +kernel
theorem dX5_spare_31 : decode cX5_spare 31 = .ok (.getfield 10, 3) := by decide +kernel
theorem dX5_spare_34 : decode cX5_spare 34 = .ok (.getfield 120, 3) := by decide +kernel
theorem dX5_spare_37 : decode cX5_spare 37 = .ok (.aload_n 0, 1) := by decide +kernel
theorem dX5_spare_38 : decode cX5_spare 38 = .ok (.getfield 10, 3) := by decide +kernel
theorem dX5_spare_41 : decode cX5_spare 41 = .ok (.iload_n 1, 1) := by decide +kernel
theorem dX5_spare_42 : decode cX5_spare 42 = .ok (.iload_n 2, 1) := by decide +kernel
theorem dX5_spare_43 : decode cX5_spare 43 = .ok (.invokevirtual 108, 3) := by decide +kernel
theorem dX5_spare_46 : decode cX5_spare 46 = .ok (.iload_n 3, 1) := by decide +kernel
theorem dX5_spare_47 : decode cX5_spare 47 = .ok (.invokevirtual 102, 3) := by decide +kernel
theorem dX5_spare_50 : decode cX5_spare 50 = .ok (.ireturn, 1) := by decide +kernel
set_option maxRecDepth 20000 in
theorem ggX5_makes_X2_explore : GoodIn wsX5_makes wsX2_explore := goodIn_r _ [6, 7, 8, 9, 10, 11, 12, 13, 14, 15, 16, 17, 18, 19, 20, 21, 22, 23, 24, 25, 26, 27, 28, 29, 30, 31, 32, 33, 34, 35, 36, 37, 38, 39, 40, 41, 42, 43, 44, 45, 46, 47, 48, 49, 50, 51, 52, 53, 54, 55, 56, 57, 58, 59, 60, 61, 62, 63, 64, 65, 66, 67, 68, 69, 70, 71, 72, 73, 74, 75, 76, 77, 78, 79, 80, 81, 94, 95, 96, 97, 98, 99, 100, 101, 102, 103, 104, 105, 106, 107, 108, 109, 110, 111, 112, 113, 114, 115] (by decide +kernel) (by decide +kernel)
set_option maxRecDepth 20000 in
theorem gX5_makes_X2_explore : GoodIn wsX5_makes (wsV RX5 78 RX2 yX2_explore wsX2_explore) := goodIn_app (goodIn_of _ (by decide +kernel)) ggX5_makes_X2_explore
set_option maxRecDepth 20000 in
theorem ggX5_makes_X2_allHeld : GoodIn wsX5_makes wsX2_allHeld := goodIn_r _ [85, 10, 86, 87, 8, 88, 89, 90, 57, 58, 14, 59, 16, 20, 21, 94, 95, 96, 97, 98, 99, 100, 101, 102, 110, 111, 112, 113, 103, 104, 105, 106, 107, 108, 109] (by decide +kernel) (by decide +kernel)
set_option maxRecDepth 20000 in
theorem gX5_makes_X2_allHeld : GoodIn wsX5_makes (wsV RX5 123 RX2 yX2_allHeld wsX2_allHeld) := goodIn_app (goodIn_of _ (by decide +kernel)) ggX5_makes_X2_allHeld
theorem dX5_makes_0 : decode cX5_makes 0 = .ok (.aload_n 0, 1) := by decide +kernel
theorem dX5_makes_1 : decode cX5_makes 1 = .ok (.getfield 10, 3) := by decide +kernel
theorem dX5_makes_4 : decode cX5_makes 4 = .ok (.invokevirtual 78, 3) := by decide +kernel
theorem dX5_makes_7 : decode cX5_makes 7 = .ok (.aload_n 0, 1) := by decide +kernel
theorem dX5_makes_8 : decode cX5_makes 8 = .ok (.getfield 10, 3) := by decide +kernel
theorem dX5_makes_11 : decode cX5_makes 11 = .ok (.invokevirtual 123, 3) := by decide +kernel
theorem dX5_makes_14 : decode cX5_makes 14 = .ok (.ireturn, 1) := by decide +kernel
set_option maxRecDepth 20000 in
theorem ggX5_reaches_X2_explore : GoodIn wsX5_reaches wsX2_explore := goodIn_r _ [8, 9, 10, 11, 12, 13, 14, 15, 16, 17, 18, 19, 20, 21, 22, 23, 24, 25, 26, 27, 28, 29, 30, 31, 32, 33, 34, 35, 36, 37, 38, 39, 40, 41, 42, 43, 44, 45, 46, 47, 48, 49, 50, 51, 52, 53, 54, 55, 56, 57, 58, 59, 60, 61, 62, 63, 64, 65, 66, 67, 68, 69, 70, 71, 72, 73, 74, 75, 76, 77, 78, 79, 80, 81, 82, 83, 87, 88, 89, 90, 91, 92, 93, 94, 95, 100, 101, 102, 103, 104, 105, 106, 96, 97, 98, 99, 107, 108] (by decide +kernel) (by decide +kernel)
set_option maxRecDepth 20000 in
theorem gX5_reaches_X2_explore : GoodIn wsX5_reaches (wsV RX5 78 RX2 yX2_explore wsX2_explore) := goodIn_app (goodIn_of _ (by decide +kernel)) ggX5_reaches_X2_explore
theorem dX5_reaches_0 : decode cX5_reaches 0 = .ok (.aload_n 0, 1) := by decide +kernel
theorem dX5_reaches_1 : decode cX5_reaches 1 = .ok (.getfield 10, 3) := by decide +kernel
theorem dX5_reaches_4 : decode cX5_reaches 4 = .ok (.invokevirtual 78, 3) := by decide +kernel
theorem dX5_reaches_7 : decode cX5_reaches 7 = .ok (.aload_n 0, 1) := by decide +kernel
theorem dX5_reaches_8 : decode cX5_reaches 8 = .ok (.getfield 10, 3) := by decide +kernel
theorem dX5_reaches_11 : decode cX5_reaches 11 = .ok (.getfield 81, 3) := by decide +kernel
theorem dX5_reaches_14 : decode cX5_reaches 14 = .ok (.getfield 126, 3) := by decide +kernel
theorem dX5_reaches_17 : decode cX5_reaches 17 = .ok (.ireturn, 1) := by decide +kernel
set_option maxRecDepth 20000 in
theorem ggX5_road_X1_has : GoodIn wsX5_road wsX1_has := goodIn_r _ [8, 9, 21, 22, 23, 24, 25, 26, 27] (by decide +kernel) (by decide +kernel)
set_option maxRecDepth 20000 in
theorem gX5_road_X1_has : GoodIn wsX5_road (wsV RX5 48 RX1 yX1_has wsX1_has) := goodIn_app (goodIn_of _ (by decide +kernel)) ggX5_road_X1_has
set_option maxRecDepth 20000 in
theorem ggX5_road_X5_actsOfRoad : GoodIn wsX5_road wsX5_actsOfRoad := goodIn_r _ [13, 14, 15, 16, 17] (by decide +kernel) (by decide +kernel)
set_option maxRecDepth 20000 in
theorem gX5_road_X5_actsOfRoad : GoodIn wsX5_road (va_wsS RX5 129 yX5_actsOfRoad wsX5_actsOfRoad) := goodIn_app (goodIn_of _ (by decide +kernel)) ggX5_road_X5_actsOfRoad
theorem dX5_road_0 : decode cX5_road 0 = .ok (.aload_n 0, 1) := by decide +kernel
theorem dX5_road_1 : decode cX5_road 1 = .ok (.getfield 20, 3) := by decide +kernel
theorem dX5_road_4 : decode cX5_road 4 = .ok (.iload_n 1, 1) := by decide +kernel
theorem dX5_road_5 : decode cX5_road 5 = .ok (.invokevirtual 48, 3) := by decide +kernel
theorem dX5_road_8 : decode cX5_road 8 = .ok (.ifCond .eq 14, 3) := by decide +kernel
theorem dX5_road_11 : decode cX5_road 11 = .ok (.iload_n 2, 1) := by decide +kernel
theorem dX5_road_12 : decode cX5_road 12 = .ok (.iconst 1, 1) := by decide +kernel
theorem dX5_road_13 : decode cX5_road 13 = .ok (.if_icmp .lt 9, 3) := by decide +kernel
theorem dX5_road_16 : decode cX5_road 16 = .ok (.iload_n 2, 1) := by decide +kernel
theorem dX5_road_17 : decode cX5_road 17 = .ok (.bipush 10, 2) := by decide +kernel
theorem dX5_road_19 : decode cX5_road 19 = .ok (.if_icmp .le 6, 3) := by decide +kernel
theorem dX5_road_22 : decode cX5_road 22 = .ok (.bipush (-2), 2) := by decide +kernel
theorem dX5_road_24 : decode cX5_road 24 = .ok (.ireturn, 1) := by decide +kernel
theorem dX5_road_25 : decode cX5_road 25 = .ok (.aload_n 0, 1) := by decide +kernel
theorem dX5_road_26 : decode cX5_road 26 = .ok (.getfield 20, 3) := by decide +kernel
theorem dX5_road_29 : decode cX5_road 29 = .ok (.getfield 28, 3) := by decide +kernel
theorem dX5_road_32 : decode cX5_road 32 = .ok (.iconst 2, 1) := by decide +kernel
theorem dX5_road_33 : decode cX5_road 33 = .ok (.if_icmp .eq 6, 3) := by decide +kernel
theorem dX5_road_36 : decode cX5_road 36 = .ok (.bipush (-3), 2) := by decide +kernel
theorem dX5_road_38 : decode cX5_road 38 = .ok (.ireturn, 1) := by decide +kernel
theorem dX5_road_39 : decode cX5_road 39 = .ok (.aload_n 0, 1) := by decide +kernel
theorem dX5_road_40 : decode cX5_road 40 = .ok (.getfield 20, 3) := by decide +kernel
theorem dX5_road_43 : decode cX5_road 43 = .ok (.getfield 52, 3) := by decide +kernel
theorem dX5_road_46 : decode cX5_road 46 = .ok (.iload_n 1, 1) := by decide +kernel
theorem dX5_road_47 : decode cX5_road 47 = .ok (.iaload, 1) := by decide +kernel
theorem dX5_road_48 : decode cX5_road 48 = .ok (.aload_n 0, 1) := by decide +kernel
theorem dX5_road_49 : decode cX5_road 49 = .ok (.getfield 20, 3) := by decide +kernel
theorem dX5_road_52 : decode cX5_road 52 = .ok (.getfield 52, 3) := by decide +kernel
theorem dX5_road_55 : decode cX5_road 55 = .ok (.iconst 1, 1) := by decide +kernel
theorem dX5_road_56 : decode cX5_road 56 = .ok (.iload_n 1, 1) := by decide +kernel
theorem dX5_road_57 : decode cX5_road 57 = .ok (.isub, 1) := by decide +kernel
theorem dX5_road_58 : decode cX5_road 58 = .ok (.iaload, 1) := by decide +kernel
theorem dX5_road_59 : decode cX5_road 59 = .ok (.iload_n 2, 1) := by decide +kernel
theorem dX5_road_60 : decode cX5_road 60 = .ok (.invokestatic 129, 3) := by decide +kernel
theorem dX5_road_63 : decode cX5_road 63 = .ok (.ireturn, 1) := by decide +kernel
theorem dX5_sizes_0 : decode cX5_sizes 0 = .ok (.iload_n 1, 1) := by decide +kernel
theorem dX5_sizes_1 : decode cX5_sizes 1 = .ok (.iconst 1, 1) := by decide +kernel
theorem dX5_sizes_2 : decode cX5_sizes 2 = .ok (.if_icmp .lt 28, 3) := by decide +kernel
theorem dX5_sizes_5 : decode cX5_sizes 5 = .ok (.iload_n 1, 1) := by decide +kernel
theorem dX5_sizes_6 : decode cX5_sizes 6 = .ok (.iconst 3, 1) := by decide +kernel
theorem dX5_sizes_7 : decode cX5_sizes 7 = .ok (.if_icmp .gt 23, 3) := by decide +kernel
theorem dX5_sizes_10 : decode cX5_sizes 10 = .ok (.iload_n 2, 1) := by decide +kernel
theorem dX5_sizes_11 : decode cX5_sizes 11 = .ok (.iconst 1, 1) := by decide +kernel
theorem dX5_sizes_12 : decode cX5_sizes 12 = .ok (.if_icmp .lt 18, 3) := by decide +kernel
theorem dX5_sizes_15 : decode cX5_sizes 15 = .ok (.iload_n 2, 1) := by decide +kernel
theorem dX5_sizes_16 : decode cX5_sizes 16 = .ok (.bipush 10, 2) := by decide +kernel
theorem dX5_sizes_18 : decode cX5_sizes 18 = .ok (.if_icmp .gt 12, 3) := by decide +kernel
theorem dX5_sizes_21 : decode cX5_sizes 21 = .ok (.iload_n 3, 1) := by decide +kernel
theorem dX5_sizes_22 : decode cX5_sizes 22 = .ok (.ifCond .lt 8, 3) := by decide +kernel
theorem dX5_sizes_25 : decode cX5_sizes 25 = .ok (.iload_n 3, 1) := by decide +kernel
theorem dX5_sizes_26 : decode cX5_sizes 26 = .ok (.iload_n 1, 1) := by decide +kernel
theorem dX5_sizes_27 : decode cX5_sizes 27 = .ok (.if_icmp .lt 6, 3) := by decide +kernel
theorem dX5_sizes_30 : decode cX5_sizes 30 = .ok (.bipush (-2), 2) := by decide +kernel
theorem dX5_sizes_32 : decode cX5_sizes 32 = .ok (.ireturn, 1) := by decide +kernel
theorem dX5_sizes_33 : decode cX5_sizes 33 = .ok (.iload_n 1, 1) := by decide +kernel
theorem dX5_sizes_34 : decode cX5_sizes 34 = .ok (.iconst 1, 1) := by decide +kernel
theorem dX5_sizes_35 : decode cX5_sizes 35 = .ok (.if_icmp .ne 10, 3) := by decide +kernel
theorem dX5_sizes_38 : decode cX5_sizes 38 = .ok (.iload_n 2, 1) := by decide +kernel
theorem dX5_sizes_39 : decode cX5_sizes 39 = .ok (.iconst 1, 1) := by decide +kernel
theorem dX5_sizes_40 : decode cX5_sizes 40 = .ok (.if_icmp .le 5, 3) := by decide +kernel
theorem dX5_sizes_43 : decode cX5_sizes 43 = .ok (.iconst (-1), 1) := by decide +kernel
theorem dX5_sizes_44 : decode cX5_sizes 44 = .ok (.ireturn, 1) := by decide +kernel
theorem dX5_sizes_45 : decode cX5_sizes 45 = .ok (.iload_n 3, 1) := by decide +kernel
theorem dX5_sizes_46 : decode cX5_sizes 46 = .ok (.iload_n 1, 1) := by decide +kernel
theorem dX5_sizes_47 : decode cX5_sizes 47 = .ok (.iconst 1, 1) := by decide +kernel
theorem dX5_sizes_48 : decode cX5_sizes 48 = .ok (.isub, 1) := by decide +kernel
theorem dX5_sizes_49 : decode cX5_sizes 49 = .ok (.if_icmp .ne 7, 3) := by decide +kernel
theorem dX5_sizes_52 : decode cX5_sizes 52 = .ok (.iload_n 2, 1) := by decide +kernel
theorem dX5_sizes_53 : decode cX5_sizes 53 = .ok (.goto 4, 3) := by decide +kernel
theorem dX5_sizes_56 : decode cX5_sizes 56 = .ok (.iconst 1, 1) := by decide +kernel
theorem dX5_sizes_57 : decode cX5_sizes 57 = .ok (.ireturn, 1) := by decide +kernel
set_option maxRecDepth 20000 in
theorem ggX5_glass_X0_add : GoodIn wsX5_glass wsX0_add := goodIn_r _ [7, 8, 9, 10, 14, 15, 16, 17, 18, 19, 20, 21, 22, 23, 24, 25] (by decide +kernel) (by decide +kernel)
set_option maxRecDepth 20000 in
theorem gX5_glass_X0_add : GoodIn wsX5_glass (wsV RX5 134 RX0 yX0_add wsX0_add) := goodIn_app (goodIn_of _ (by decide +kernel)) ggX5_glass_X0_add
theorem dX5_glass_0 : decode cX5_glass 0 = .ok (.iload_n 1, 1) := by decide +kernel
theorem dX5_glass_1 : decode cX5_glass 1 = .ok (.iconst 1, 1) := by decide +kernel
theorem dX5_glass_2 : decode cX5_glass 2 = .ok (.if_icmp .lt 9, 3) := by decide +kernel
theorem dX5_glass_5 : decode cX5_glass 5 = .ok (.iload_n 1, 1) := by decide +kernel
theorem dX5_glass_6 : decode cX5_glass 6 = .ok (.bipush 12, 2) := by decide +kernel
theorem dX5_glass_8 : decode cX5_glass 8 = .ok (.if_icmp .le 6, 3) := by decide +kernel
theorem dX5_glass_11 : decode cX5_glass 11 = .ok (.bipush (-2), 2) := by decide +kernel
theorem dX5_glass_13 : decode cX5_glass 13 = .ok (.ireturn, 1) := by decide +kernel
theorem dX5_glass_14 : decode cX5_glass 14 = .ok (.aload_n 0, 1) := by decide +kernel
theorem dX5_glass_15 : decode cX5_glass 15 = .ok (.getfield 24, 3) := by decide +kernel
theorem dX5_glass_18 : decode cX5_glass 18 = .ok (.getfield 133, 3) := by decide +kernel
theorem dX5_glass_21 : decode cX5_glass 21 = .ok (.iconst 3, 1) := by decide +kernel
theorem dX5_glass_22 : decode cX5_glass 22 = .ok (.if_icmp .lt 8, 3) := by decide +kernel
theorem dX5_glass_25 : decode cX5_glass 25 = .ok (.bipush (-4), 2) := by decide +kernel
theorem dX5_glass_27 : decode cX5_glass 27 = .ok (.goto 11, 3) := by decide +kernel
theorem dX5_glass_30 : decode cX5_glass 30 = .ok (.aload_n 0, 1) := by decide +kernel
theorem dX5_glass_31 : decode cX5_glass 31 = .ok (.getfield 24, 3) := by decide +kernel
theorem dX5_glass_34 : decode cX5_glass 34 = .ok (.iload_n 1, 1) := by decide +kernel
theorem dX5_glass_35 : decode cX5_glass 35 = .ok (.invokevirtual 134, 3) := by decide +kernel
theorem dX5_glass_38 : decode cX5_glass 38 = .ok (.ireturn, 1) := by decide +kernel
set_option maxRecDepth 20000 in
theorem ggX5_smash_X0_removeAll : GoodIn wsX5_smash wsX0_removeAll := goodIn_r _ [6, 7, 8, 12, 13, 14, 15, 16, 17, 18, 19, 20, 21, 22, 23] (by decide +kernel) (by decide +kernel)
set_option maxRecDepth 20000 in
theorem gX5_smash_X0_removeAll : GoodIn wsX5_smash (wsV RX5 136 RX0 yX0_removeAll wsX0_removeAll) := goodIn_app (goodIn_of _ (by decide +kernel)) ggX5_smash_X0_removeAll
theorem dX5_smash_0 : decode cX5_smash 0 = .ok (.aload_n 0, 1) := by decide +kernel
theorem dX5_smash_1 : decode cX5_smash 1 = .ok (.getfield 24, 3) := by decide +kernel
theorem dX5_smash_4 : decode cX5_smash 4 = .ok (.invokevirtual 136, 3) := by decide +kernel
theorem dX5_smash_7 : decode cX5_smash 7 = .ok (.ireturn, 1) := by decide +kernel
set_option maxRecDepth 20000 in
theorem ggX5_await_X0_workOut : GoodIn wsX5_await wsX0_workOut := goodIn_r _ [7, 8, 9, 10, 11, 12, 13, 6, 14, 15, 16, 17, 18, 19, 20, 21, 22, 23, 24, 25, 26, 27, 28, 29, 30, 31, 32, 33, 34, 35, 36, 37, 38, 39, 40, 41, 42, 43, 44, 45, 46, 47, 48, 49, 50, 51, 52, 53, 54, 55, 56, 57, 58, 59, 60, 61, 62, 63, 64, 65, 66, 67, 68, 69, 70, 71, 72, 73, 74, 75, 76, 77, 78, 79, 80, 81, 82, 83, 87, 88, 89, 90, 91, 92, 93, 94, 95, 96, 97, 98] (by decide +kernel) (by decide +kernel)
set_option maxRecDepth 20000 in
theorem gX5_await_X0_workOut : GoodIn wsX5_await (wsV RX5 137 RX0 yX0_workOut wsX0_workOut) := goodIn_app (goodIn_of _ (by decide +kernel)) ggX5_await_X0_workOut
theorem dX5_await_0 : decode cX5_await 0 = .ok (.iload_n 1, 1) := by decide +kernel
theorem dX5_await_1 : decode cX5_await 1 = .ok (.iconst 1, 1) := by decide +kernel
theorem dX5_await_2 : decode cX5_await 2 = .ok (.if_icmp .lt 9, 3) := by decide +kernel
theorem dX5_await_5 : decode cX5_await 5 = .ok (.iload_n 1, 1) := by decide +kernel
theorem dX5_await_6 : decode cX5_await 6 = .ok (.bipush 40, 2) := by decide +kernel
theorem dX5_await_8 : decode cX5_await 8 = .ok (.if_icmp .le 6, 3) := by decide +kernel
theorem dX5_await_11 : decode cX5_await 11 = .ok (.bipush (-2), 2) := by decide +kernel
theorem dX5_await_13 : decode cX5_await 13 = .ok (.ireturn, 1) := by decide +kernel
theorem dX5_await_14 : decode cX5_await 14 = .ok (.aload_n 0, 1) := by decide +kernel
theorem dX5_await_15 : decode cX5_await 15 = .ok (.getfield 24, 3) := by decide +kernel
theorem dX5_await_18 : decode cX5_await 18 = .ok (.invokevirtual 137, 3) := by decide +kernel
theorem dX5_await_21 : decode cX5_await 21 = .ok (.aload_n 0, 1) := by decide +kernel
theorem dX5_await_22 : decode cX5_await 22 = .ok (.getfield 24, 3) := by decide +kernel
theorem dX5_await_25 : decode cX5_await 25 = .ok (.getfield 140, 3) := by decide +kernel
theorem dX5_await_28 : decode cX5_await 28 = .ok (.iload_n 1, 1) := by decide +kernel
theorem dX5_await_29 : decode cX5_await 29 = .ok (.iaload, 1) := by decide +kernel
theorem dX5_await_30 : decode cX5_await 30 = .ok (.ireturn, 1) := by decide +kernel
set_option maxRecDepth 20000 in
theorem ggX5_turns_X0_workOut : GoodIn wsX5_turns wsX0_workOut := goodIn_r _ [7, 8, 9, 10, 11, 12, 13, 6, 14, 15, 16, 17, 18, 19, 20, 21, 22, 23, 24, 25, 26, 27, 28, 29, 30, 31, 32, 33, 34, 35, 36, 37, 38, 39, 40, 41, 42, 43, 44, 45, 46, 47, 48, 49, 50, 51, 52, 53, 54, 55, 56, 57, 58, 59, 60, 61, 62, 63, 64, 65, 66, 67, 68, 69, 70, 71, 72, 73, 74, 75, 76, 77, 78, 79, 80, 81, 82, 83, 87, 88, 89, 90, 91, 92, 93, 94, 95, 96, 97, 98] (by decide +kernel) (by decide +kernel)
set_option maxRecDepth 20000 in
theorem gX5_turns_X0_workOut : GoodIn wsX5_turns (wsV RX5 137 RX0 yX0_workOut wsX0_workOut) := goodIn_app (goodIn_of _ (by decide +kernel)) ggX5_turns_X0_workOut
theorem dX5_turns_0 : decode cX5_turns 0 = .ok (.iload_n 1, 1) := by decide +kernel
theorem dX5_turns_1 : decode cX5_turns 1 = .ok (.iconst 1, 1) := by decide +kernel
theorem dX5_turns_2 : decode cX5_turns 2 = .ok (.if_icmp .lt 9, 3) := by decide +kernel
theorem dX5_turns_5 : decode cX5_turns 5 = .ok (.iload_n 1, 1) := by decide +kernel
theorem dX5_turns_6 : decode cX5_turns 6 = .ok (.bipush 40, 2) := by decide +kernel
theorem dX5_turns_8 : decode cX5_turns 8 = .ok (.if_icmp .le 6, 3) := by decide +kernel
theorem dX5_turns_11 : decode cX5_turns 11 = .ok (.bipush (-2), 2) := by decide +kernel
theorem dX5_turns_13 : decode cX5_turns 13 = .ok (.ireturn, 1) := by decide +kernel
theorem dX5_turns_14 : decode cX5_turns 14 = .ok (.aload_n 0, 1) := by decide +kernel
theorem dX5_turns_15 : decode cX5_turns 15 = .ok (.getfield 24, 3) := by decide +kernel
theorem dX5_turns_18 : decode cX5_turns 18 = .ok (.invokevirtual 137, 3) := by decide +kernel
theorem dX5_turns_21 : decode cX5_turns 21 = .ok (.aload_n 0, 1) := by decide +kernel
theorem dX5_turns_22 : decode cX5_turns 22 = .ok (.getfield 24, 3) := by decide +kernel
theorem dX5_turns_25 : decode cX5_turns 25 = .ok (.getfield 143, 3) := by decide +kernel
theorem dX5_turns_28 : decode cX5_turns 28 = .ok (.iload_n 1, 1) := by decide +kernel
theorem dX5_turns_29 : decode cX5_turns 29 = .ok (.iaload, 1) := by decide +kernel
theorem dX5_turns_30 : decode cX5_turns 30 = .ok (.ireturn, 1) := by decide +kernel
set_option maxRecDepth 20000 in
theorem ggX5_spans_X0_workOut : GoodIn wsX5_spans wsX0_workOut := goodIn_r _ [8, 9, 10, 11, 12, 13, 14, 7, 15, 16, 17, 18, 19, 20, 21, 22, 23, 24, 25, 26, 27, 28, 29, 30, 31, 32, 33, 34, 35, 36, 37, 38, 39, 40, 41, 42, 43, 44, 45, 46, 47, 48, 49, 50, 51, 52, 53, 54, 55, 56, 57, 58, 59, 60, 61, 62, 63, 64, 65, 66, 67, 68, 69, 70, 71, 72, 73, 74, 75, 76, 77, 78, 79, 80, 81, 82, 83, 84, 88, 89, 90, 91, 92, 93, 94, 95, 96, 97, 98, 99] (by decide +kernel) (by decide +kernel)
set_option maxRecDepth 20000 in
theorem gX5_spans_X0_workOut : GoodIn wsX5_spans (wsV RX5 137 RX0 yX0_workOut wsX0_workOut) := goodIn_app (goodIn_of _ (by decide +kernel)) ggX5_spans_X0_workOut
theorem dX5_spans_0 : decode cX5_spans 0 = .ok (.iload_n 1, 1) := by decide +kernel
theorem dX5_spans_1 : decode cX5_spans 1 = .ok (.ifCond .lt 9, 3) := by decide +kernel
theorem dX5_spans_4 : decode cX5_spans 4 = .ok (.iload_n 1, 1) := by decide +kernel
theorem dX5_spans_5 : decode cX5_spans 5 = .ok (.bipush 60, 2) := by decide +kernel
theorem dX5_spans_7 : decode cX5_spans 7 = .ok (.if_icmp .le 7, 3) := by decide +kernel
theorem dX5_spans_10 : decode cX5_spans 10 = .ok (.ldc2_w 93, 3) := by decide +kernel
theorem dX5_spans_13 : decode cX5_spans 13 = .ok (.lreturn, 1) := by decide +kernel
theorem dX5_spans_14 : decode cX5_spans 14 = .ok (.aload_n 0, 1) := by decide +kernel
theorem dX5_spans_15 : decode cX5_spans 15 = .ok (.getfield 24, 3) := by decide +kernel
theorem dX5_spans_18 : decode cX5_spans 18 = .ok (.invokevirtual 137, 3) := by decide +kernel
theorem dX5_spans_21 : decode cX5_spans 21 = .ok (.lconst 0, 1) := by decide +kernel
theorem dX5_spans_22 : decode cX5_spans 22 = .ok (.lstore_n 2, 1) := by decide +kernel
theorem dX5_spans_23 : decode cX5_spans 23 = .ok (.iconst 1, 1) := by decide +kernel
theorem dX5_spans_24 : decode cX5_spans 24 = .ok (.istore 4, 2) := by decide +kernel
theorem dX5_spans_26 : decode cX5_spans 26 = .ok (.iload 4, 2) := by decide +kernel
theorem dX5_spans_28 : decode cX5_spans 28 = .ok (.bipush 40, 2) := by decide +kernel
theorem dX5_spans_30 : decode cX5_spans 30 = .ok (.if_icmp .gt 44, 3) := by decide +kernel
theorem dX5_spans_33 : decode cX5_spans 33 = .ok (.aload_n 0, 1) := by decide +kernel
theorem dX5_spans_34 : decode cX5_spans 34 = .ok (.getfield 24, 3) := by decide +kernel
theorem dX5_spans_37 : decode cX5_spans 37 = .ok (.getfield 140, 3) := by decide +kernel
theorem dX5_spans_40 : decode cX5_spans 40 = .ok (.iload 4, 2) := by decide +kernel
theorem dX5_spans_42 : decode cX5_spans 42 = .ok (.iaload, 1) := by decide +kernel
theorem dX5_spans_43 : decode cX5_spans 43 = .ok (.iconst (-1), 1) := by decide +kernel
theorem dX5_spans_44 : decode cX5_spans 44 = .ok (.if_icmp .eq 24, 3) := by decide +kernel
theorem dX5_spans_47 : decode cX5_spans 47 = .ok (.aload_n 0, 1) := by decide +kernel
theorem dX5_spans_48 : decode cX5_spans 48 = .ok (.getfield 24, 3) := by decide +kernel
theorem dX5_spans_51 : decode cX5_spans 51 = .ok (.getfield 140, 3) := by decide +kernel
theorem dX5_spans_54 : decode cX5_spans 54 = .ok (.iload 4, 2) := by decide +kernel
theorem dX5_spans_56 : decode cX5_spans 56 = .ok (.iaload, 1) := by decide +kernel
theorem dX5_spans_57 : decode cX5_spans 57 = .ok (.iload_n 1, 1) := by decide +kernel
theorem dX5_spans_58 : decode cX5_spans 58 = .ok (.if_icmp .gt 10, 3) := by decide +kernel
theorem dX5_spans_61 : decode cX5_spans 61 = .ok (.lload_n 2, 1) := by decide +kernel
theorem dX5_spans_62 : decode cX5_spans 62 = .ok (.lconst 1, 1) := by decide +kernel
theorem dX5_spans_63 : decode cX5_spans 63 = .ok (.iload 4, 2) := by decide +kernel
theorem dX5_spans_65 : decode cX5_spans 65 = .ok (.lshl, 1) := by decide +kernel
theorem dX5_spans_66 : decode cX5_spans 66 = .ok (.lor, 1) := by decide +kernel
theorem dX5_spans_67 : decode cX5_spans 67 = .ok (.lstore_n 2, 1) := by decide +kernel
theorem dX5_spans_68 : decode cX5_spans 68 = .ok (.iinc 4 1, 3) := by decide +kernel
theorem dX5_spans_71 : decode cX5_spans 71 = .ok (.goto (-45), 3) := by decide +kernel
theorem dX5_spans_74 : decode cX5_spans 74 = .ok (.lload_n 2, 1) := by decide +kernel
theorem dX5_spans_75 : decode cX5_spans 75 = .ok (.lreturn, 1) := by decide +kernel
set_option maxRecDepth 20000 in
theorem ggX5_count_X1_heldTogether : GoodIn wsX5_count wsX1_heldTogether := goodIn_r _ [9, 10, 11, 26, 27, 28, 29, 30, 31, 32] (by decide +kernel) (by decide +kernel)
set_option maxRecDepth 20000 in
theorem gX5_count_X1_heldTogether : GoodIn wsX5_count (wsV RX5 146 RX1 yX1_heldTogether wsX1_heldTogether) := goodIn_app (goodIn_of _ (by decide +kernel)) ggX5_count_X1_heldTogether
set_option maxRecDepth 20000 in
theorem ggX5_count_X1_actsNow : GoodIn wsX5_count wsX1_actsNow := goodIn_r _ [15, 16, 17, 18, 8, 19, 10, 11, 20, 21, 22, 26, 27, 28, 29, 30, 31, 32] (by decide +kernel) (by decide +kernel)
set_option maxRecDepth 20000 in
theorem gX5_count_X1_actsNow : GoodIn wsX5_count (wsV RX5 149 RX1 yX1_actsNow wsX1_actsNow) := goodIn_app (goodIn_of _ (by decide +kernel)) ggX5_count_X1_actsNow
theorem dX5_count_0 : decode cX5_count 0 = .ok (.iload_n 1, 1) := by decide +kernel
theorem dX5_count_1 : decode cX5_count 1 = .ok (.tableswitch 63 0 3 #[31, 39, 47, 55], 31) := by decide +kernel
theorem dX5_count_32 : decode cX5_count 32 = .ok (.aload_n 0, 1) := by decide +kernel
theorem dX5_count_33 : decode cX5_count 33 = .ok (.getfield 20, 3) := by decide +kernel
theorem dX5_count_36 : decode cX5_count 36 = .ok (.getfield 28, 3) := by decide +kernel
theorem dX5_count_39 : decode cX5_count 39 = .ok (.ireturn, 1) := by decide +kernel
theorem dX5_count_40 : decode cX5_count 40 = .ok (.aload_n 0, 1) := by decide +kernel
theorem dX5_count_41 : decode cX5_count 41 = .ok (.getfield 24, 3) := by decide +kernel
theorem dX5_count_44 : decode cX5_count 44 = .ok (.getfield 133, 3) := by decide +kernel
theorem dX5_count_47 : decode cX5_count 47 = .ok (.ireturn, 1) := by decide +kernel
theorem dX5_count_48 : decode cX5_count 48 = .ok (.aload_n 0, 1) := by decide +kernel
theorem dX5_count_49 : decode cX5_count 49 = .ok (.getfield 20, 3) := by decide +kernel
theorem dX5_count_52 : decode cX5_count 52 = .ok (.invokevirtual 146, 3) := by decide +kernel
theorem dX5_count_55 : decode cX5_count 55 = .ok (.ireturn, 1) := by decide +kernel
theorem dX5_count_56 : decode cX5_count 56 = .ok (.aload_n 0, 1) := by decide +kernel
theorem dX5_count_57 : decode cX5_count 57 = .ok (.getfield 20, 3) := by decide +kernel
theorem dX5_count_60 : decode cX5_count 60 = .ok (.invokevirtual 149, 3) := by decide +kernel
theorem dX5_count_63 : decode cX5_count 63 = .ok (.ireturn, 1) := by decide +kernel
theorem dX5_count_64 : decode cX5_count 64 = .ok (.bipush (-2), 2) := by decide +kernel
theorem dX5_count_66 : decode cX5_count 66 = .ok (.ireturn, 1) := by decide +kernel
set_option maxRecDepth 20000 in
theorem ggX5_isAim_X1_has : GoodIn wsX5_isAim wsX1_has := goodIn_r _ [6, 7, 11, 12, 13, 14, 15, 16, 17] (by decide +kernel) (by decide +kernel)
set_option maxRecDepth 20000 in
theorem gX5_isAim_X1_has : GoodIn wsX5_isAim (wsV RX5 48 RX1 yX1_has wsX1_has) := goodIn_app (goodIn_of _ (by decide +kernel)) ggX5_isAim_X1_has
theorem dX5_isAim_0 : decode cX5_isAim 0 = .ok (.iload_n 1, 1) := by decide +kernel
theorem dX5_isAim_1 : decode cX5_isAim 1 = .ok (.iconst (-1), 1) := by decide +kernel
theorem dX5_isAim_2 : decode cX5_isAim 2 = .ok (.if_icmp .eq 14, 3) := by decide +kernel
theorem dX5_isAim_5 : decode cX5_isAim 5 = .ok (.aload_n 0, 1) := by decide +kernel
theorem dX5_isAim_6 : decode cX5_isAim 6 = .ok (.getfield 20, 3) := by decide +kernel
theorem dX5_isAim_9 : decode cX5_isAim 9 = .ok (.iload_n 1, 1) := by decide +kernel
theorem dX5_isAim_10 : decode cX5_isAim 10 = .ok (.invokevirtual 48, 3) := by decide +kernel
theorem dX5_isAim_13 : decode cX5_isAim 13 = .ok (.ifCond .eq 17, 3) := by decide +kernel
theorem dX5_isAim_16 : decode cX5_isAim 16 = .ok (.iload_n 2, 1) := by decide +kernel
theorem dX5_isAim_17 : decode cX5_isAim 17 = .ok (.ifCond .lt 13, 3) := by decide +kernel
theorem dX5_isAim_20 : decode cX5_isAim 20 = .ok (.iload_n 2, 1) := by decide +kernel
theorem dX5_isAim_21 : decode cX5_isAim 21 = .ok (.bipush 10, 2) := by decide +kernel
theorem dX5_isAim_23 : decode cX5_isAim 23 = .ok (.if_icmp .gt 7, 3) := by decide +kernel
theorem dX5_isAim_26 : decode cX5_isAim 26 = .ok (.iconst 1, 1) := by decide +kernel
theorem dX5_isAim_27 : decode cX5_isAim 27 = .ok (.goto 4, 3) := by decide +kernel
theorem dX5_isAim_30 : decode cX5_isAim 30 = .ok (.iconst 0, 1) := by decide +kernel
theorem dX5_isAim_31 : decode cX5_isAim 31 = .ok (.ireturn, 1) := by decide +kernel
theorem dX5_actsOfRoad_0 : decode cX5_actsOfRoad 0 = .ok (.iconst 0, 1) := by decide +kernel
theorem dX5_actsOfRoad_1 : decode cX5_actsOfRoad 1 = .ok (.istore_n 3, 1) := by decide +kernel
theorem dX5_actsOfRoad_2 : decode cX5_actsOfRoad 2 = .ok (.iconst 0, 1) := by decide +kernel
theorem dX5_actsOfRoad_3 : decode cX5_actsOfRoad 3 = .ok (.istore 4, 2) := by decide +kernel
theorem dX5_actsOfRoad_5 : decode cX5_actsOfRoad 5 = .ok (.iconst 1, 1) := by decide +kernel
theorem dX5_actsOfRoad_6 : decode cX5_actsOfRoad 6 = .ok (.istore 5, 2) := by decide +kernel
theorem dX5_actsOfRoad_8 : decode cX5_actsOfRoad 8 = .ok (.iload 5, 2) := by decide +kernel
theorem dX5_actsOfRoad_10 : decode cX5_actsOfRoad 10 = .ok (.bipush 121, 2) := by decide +kernel
theorem dX5_actsOfRoad_12 : decode cX5_actsOfRoad 12 = .ok (.if_icmp .gt 77, 3) := by decide +kernel
theorem dX5_actsOfRoad_15 : decode cX5_actsOfRoad 15 = .ok (.iload 4, 2) := by decide +kernel
theorem dX5_actsOfRoad_17 : decode cX5_actsOfRoad 17 = .ok (.iload_n 1, 1) := by decide +kernel
theorem dX5_actsOfRoad_18 : decode cX5_actsOfRoad 18 = .ok (.if_icmp .ne 9, 3) := by decide +kernel
theorem dX5_actsOfRoad_21 : decode cX5_actsOfRoad 21 = .ok (.iconst 0, 1) := by decide +kernel
theorem dX5_actsOfRoad_22 : decode cX5_actsOfRoad 22 = .ok (.istore 4, 2) := by decide +kernel
theorem dX5_actsOfRoad_24 : decode cX5_actsOfRoad 24 = .ok (.goto 34, 3) := by decide +kernel
theorem dX5_actsOfRoad_27 : decode cX5_actsOfRoad 27 = .ok (.iload_n 3, 1) := by decide +kernel
theorem dX5_actsOfRoad_28 : decode cX5_actsOfRoad 28 = .ok (.ifCond .ne 8, 3) := by decide +kernel
theorem dX5_actsOfRoad_31 : decode cX5_actsOfRoad 31 = .ok (.iload_n 0, 1) := by decide +kernel
theorem dX5_actsOfRoad_32 : decode cX5_actsOfRoad 32 = .ok (.istore_n 3, 1) := by decide +kernel
theorem dX5_actsOfRoad_33 : decode cX5_actsOfRoad 33 = .ok (.goto 25, 3) := by decide +kernel
theorem dX5_actsOfRoad_36 : decode cX5_actsOfRoad 36 = .ok (.iload_n 3, 1) := by decide +kernel
theorem dX5_actsOfRoad_37 : decode cX5_actsOfRoad 37 = .ok (.iload_n 1, 1) := by decide +kernel
theorem dX5_actsOfRoad_38 : decode cX5_actsOfRoad 38 = .ok (.iload 4, 2) := by decide +kernel
theorem dX5_actsOfRoad_40 : decode cX5_actsOfRoad 40 = .ok (.isub, 1) := by decide +kernel
theorem dX5_actsOfRoad_41 : decode cX5_actsOfRoad 41 = .ok (.invokestatic 152, 3) := by decide +kernel
theorem dX5_actsOfRoad_44 : decode cX5_actsOfRoad 44 = .ok (.istore 6, 2) := by decide +kernel
theorem dX5_actsOfRoad_46 : decode cX5_actsOfRoad 46 = .ok (.iload_n 3, 1) := by decide +kernel
theorem dX5_actsOfRoad_47 : decode cX5_actsOfRoad 47 = .ok (.iload 6, 2) := by decide +kernel
theorem dX5_actsOfRoad_49 : decode cX5_actsOfRoad 49 = .ok (.isub, 1) := by decide +kernel
theorem dX5_actsOfRoad_50 : decode cX5_actsOfRoad 50 = .ok (.istore_n 3, 1) := by decide +kernel
theorem dX5_actsOfRoad_51 : decode cX5_actsOfRoad 51 = .ok (.iload 4, 2) := by decide +kernel
theorem dX5_actsOfRoad_53 : decode cX5_actsOfRoad 53 = .ok (.iload 6, 2) := by decide +kernel
theorem dX5_actsOfRoad_55 : decode cX5_actsOfRoad 55 = .ok (.iadd, 1) := by decide +kernel
theorem dX5_actsOfRoad_56 : decode cX5_actsOfRoad 56 = .ok (.istore 4, 2) := by decide +kernel
theorem dX5_actsOfRoad_58 : decode cX5_actsOfRoad 58 = .ok (.iload_n 3, 1) := by decide +kernel
theorem dX5_actsOfRoad_59 : decode cX5_actsOfRoad 59 = .ok (.iload_n 2, 1) := by decide +kernel
theorem dX5_actsOfRoad_60 : decode cX5_actsOfRoad 60 = .ok (.if_icmp .eq 9, 3) := by decide +kernel
theorem dX5_actsOfRoad_63 : decode cX5_actsOfRoad 63 = .ok (.iload 4, 2) := by decide +kernel
theorem dX5_actsOfRoad_65 : decode cX5_actsOfRoad 65 = .ok (.iload_n 2, 1) := by decide +kernel
theorem dX5_actsOfRoad_66 : decode cX5_actsOfRoad 66 = .ok (.if_icmp .ne 6, 3) := by decide +kernel
theorem dX5_actsOfRoad_69 : decode cX5_actsOfRoad 69 = .ok (.iload 5, 2) := by decide +kernel
theorem dX5_actsOfRoad_71 : decode cX5_actsOfRoad 71 = .ok (.ireturn, 1) := by decide +kernel
theorem dX5_actsOfRoad_72 : decode cX5_actsOfRoad 72 = .ok (.iload_n 3, 1) := by decide +kernel
theorem dX5_actsOfRoad_73 : decode cX5_actsOfRoad 73 = .ok (.ifCond .ne 10, 3) := by decide +kernel
theorem dX5_actsOfRoad_76 : decode cX5_actsOfRoad 76 = .ok (.iload 4, 2) := by decide +kernel
theorem dX5_actsOfRoad_78 : decode cX5_actsOfRoad 78 = .ok (.ifCond .ne 5, 3) := by decide +kernel
theorem dX5_actsOfRoad_81 : decode cX5_actsOfRoad 81 = .ok (.iconst (-1), 1) := by decide +kernel
theorem dX5_actsOfRoad_82 : decode cX5_actsOfRoad 82 = .ok (.ireturn, 1) := by decide +kernel
theorem dX5_actsOfRoad_83 : decode cX5_actsOfRoad 83 = .ok (.iinc 5 1, 3) := by decide +kernel
theorem dX5_actsOfRoad_86 : decode cX5_actsOfRoad 86 = .ok (.goto (-78), 3) := by decide +kernel
theorem dX5_actsOfRoad_89 : decode cX5_actsOfRoad 89 = .ok (.iconst (-1), 1) := by decide +kernel
theorem dX5_actsOfRoad_90 : decode cX5_actsOfRoad 90 = .ok (.ireturn, 1) := by decide +kernel
theorem dX5_lengthFor_0 : decode cX5_lengthFor 0 = .ok (.sipush 14641, 3) := by decide +kernel
theorem dX5_lengthFor_3 : decode cX5_lengthFor 3 = .ok (.iload_n 0, 1) := by decide +kernel
theorem dX5_lengthFor_4 : decode cX5_lengthFor 4 = .ok (.iconst 2, 1) := by decide +kernel
theorem dX5_lengthFor_5 : decode cX5_lengthFor 5 = .ok (.iload_n 1, 1) := by decide +kernel
theorem dX5_lengthFor_6 : decode cX5_lengthFor 6 = .ok (.imul, 1) := by decide +kernel
theorem dX5_lengthFor_7 : decode cX5_lengthFor 7 = .ok (.invokestatic 157, 3) := by decide +kernel
theorem dX5_lengthFor_10 : decode cX5_lengthFor 10 = .ok (.invokestatic 152, 3) := by decide +kernel
theorem dX5_lengthFor_13 : decode cX5_lengthFor 13 = .ok (.ireturn, 1) := by decide +kernel
theorem dX6_init_0 : decode cX6_init 0 = .ok (.aload_n 0, 1) := by decide +kernel
theorem dX6_init_1 : decode cX6_init 1 = .ok (.invokespecial 1, 3) := by decide +kernel
theorem dX6_init_4 : decode cX6_init 4 = .ok (.aload_n 0, 1) := by decide +kernel
theorem dX6_init_5 : decode cX6_init 5 = .ok (.iconst 4, 1) := by decide +kernel
theorem dX6_init_6 : decode cX6_init 6 = .ok (.newarray .int, 2) := by decide +kernel
theorem dX6_init_8 : decode cX6_init 8 = .ok (.putfield 7, 3) := by decide +kernel
theorem dX6_init_11 : decode cX6_init 11 = .ok (.aload_n 0, 1) := by decide +kernel
theorem dX6_init_12 : decode cX6_init 12 = .ok (.iconst 4, 1) := by decide +kernel
theorem dX6_init_13 : decode cX6_init 13 = .ok (.newarray .int, 2) := by decide +kernel
theorem dX6_init_15 : decode cX6_init 15 = .ok (.putfield 13, 3) := by decide +kernel
theorem dX6_init_18 : decode cX6_init 18 = .ok (.aload_n 0, 1) := by decide +kernel
theorem dX6_init_19 : decode cX6_init 19 = .ok (.iconst 1, 1) := by decide +kernel
theorem dX6_init_20 : decode cX6_init 20 = .ok (.putfield 16, 3) := by decide +kernel
theorem dX6_init_23 : decode cX6_init 23 = .ok (.aload_n 0, 1) := by decide +kernel
theorem dX6_init_24 : decode cX6_init 24 = .ok (.iconst 1, 1) := by decide +kernel
theorem dX6_init_25 : decode cX6_init 25 = .ok (.putfield 20, 3) := by decide +kernel
theorem dX6_init_28 : decode cX6_init 28 = .ok (.aload_n 0, 1) := by decide +kernel
theorem dX6_init_29 : decode cX6_init 29 = .ok (.iconst 3, 1) := by decide +kernel
theorem dX6_init_30 : decode cX6_init 30 = .ok (.newarray .int, 2) := by decide +kernel
theorem dX6_init_32 : decode cX6_init 32 = .ok (.putfield 23, 3) := by decide +kernel
theorem dX6_init_35 : decode cX6_init 35 = .ok (.aload_n 0, 1) := by decide +kernel
theorem dX6_init_36 : decode cX6_init 36 = .ok (.iconst 4, 1) := by decide +kernel
theorem dX6_init_37 : decode cX6_init 37 = .ok (.newarray .int, 2) := by decide +kernel
theorem dX6_init_39 : decode cX6_init 39 = .ok (.putfield 26, 3) := by decide +kernel
theorem dX6_init_42 : decode cX6_init 42 = .ok (.aload_n 0, 1) := by decide +kernel
theorem dX6_init_43 : decode cX6_init 43 = .ok (.iconst 4, 1) := by decide +kernel
theorem dX6_init_44 : decode cX6_init 44 = .ok (.newarray .int, 2) := by decide +kernel
theorem dX6_init_46 : decode cX6_init 46 = .ok (.putfield 29, 3) := by decide +kernel
theorem dX6_init_49 : decode cX6_init 49 = .ok (.aload_n 0, 1) := by decide +kernel
theorem dX6_init_50 : decode cX6_init 50 = .ok (.ldc 32, 2) := by decide +kernel
theorem dX6_init_52 : decode cX6_init 52 = .ok (.newarray .int, 2) := by decide +kernel
theorem dX6_init_54 : decode cX6_init 54 = .ok (.putfield 33, 3) := by decide +kernel
theorem dX6_init_57 : decode cX6_init 57 = .ok (.aload_n 0, 1) := by decide +kernel
theorem dX6_init_58 : decode cX6_init 58 = .ok (.ldc 32, 2) := by decide +kernel
theorem dX6_init_60 : decode cX6_init 60 = .ok (.newarray .int, 2) := by decide +kernel
theorem dX6_init_62 : decode cX6_init 62 = .ok (.putfield 36, 3) := by decide +kernel
theorem dX6_init_65 : decode cX6_init 65 = .ok (.aload_n 0, 1) := by decide +kernel
theorem dX6_init_66 : decode cX6_init 66 = .ok (.sipush 14641, 3) := by decide +kernel
theorem dX6_init_69 : decode cX6_init 69 = .ok (.newarray .int, 2) := by decide +kernel
theorem dX6_init_71 : decode cX6_init 71 = .ok (.putfield 39, 3) := by decide +kernel
theorem dX6_init_74 : decode cX6_init 74 = .ok (.aload_n 0, 1) := by decide +kernel
theorem dX6_init_75 : decode cX6_init 75 = .ok (.sipush 14641, 3) := by decide +kernel
theorem dX6_init_78 : decode cX6_init 78 = .ok (.newarray .long, 2) := by decide +kernel
theorem dX6_init_80 : decode cX6_init 80 = .ok (.putfield 42, 3) := by decide +kernel
theorem dX6_init_83 : decode cX6_init 83 = .ok (.aload_n 0, 1) := by decide +kernel
theorem dX6_init_84 : decode cX6_init 84 = .ok (.sipush 14641, 3) := by decide +kernel
theorem dX6_init_87 : decode cX6_init 87 = .ok (.newarray .boolean, 2) := by decide +kernel
theorem dX6_init_89 : decode cX6_init 89 = .ok (.putfield 46, 3) := by decide +kernel
theorem dX6_init_92 : decode cX6_init 92 = .ok (.aload_n 0, 1) := by decide +kernel
theorem dX6_init_93 : decode cX6_init 93 = .ok (.sipush 14641, 3) := by decide +kernel
theorem dX6_init_96 : decode cX6_init 96 = .ok (.newarray .int, 2) := by decide +kernel
theorem dX6_init_98 : decode cX6_init 98 = .ok (.putfield 50, 3) := by decide +kernel
theorem dX6_init_101 : decode cX6_init 101 = .ok (.aload_n 0, 1) := by decide +kernel
theorem dX6_init_102 : decode cX6_init 102 = .ok (.sipush 17576, 3) := by decide +kernel
theorem dX6_init_105 : decode cX6_init 105 = .ok (.newarray .int, 2) := by decide +kernel
theorem dX6_init_107 : decode cX6_init 107 = .ok (.putfield 53, 3) := by decide +kernel
theorem dX6_init_110 : decode cX6_init 110 = .ok (.aload_n 0, 1) := by decide +kernel
theorem dX6_init_111 : decode cX6_init 111 = .ok (.sipush 17576, 3) := by decide +kernel
end
section
theorem dX6_init_114 : decode cX6_init 114 = .ok (.newarray .int, 2) := by decide +kernel
theorem dX6_init_116 : decode cX6_init 116 = .ok (.putfield 56, 3) := by decide +kernel
theorem dX6_init_119 : decode cX6_init 119 = .ok (.aload_n 0, 1) := by decide +kernel
theorem dX6_init_120 : decode cX6_init 120 = .ok (.ldc 59, 2) := by decide +kernel
theorem dX6_init_122 : decode cX6_init 122 = .ok (.newarray .int, 2) := by decide +kernel
theorem dX6_init_124 : decode cX6_init 124 = .ok (.putfield 60, 3) := by decide +kernel
theorem dX6_init_127 : decode cX6_init 127 = .ok (.aload_n 0, 1) := by decide +kernel
theorem dX6_init_128 : decode cX6_init 128 = .ok (.ldc 63, 2) := by decide +kernel
theorem dX6_init_130 : decode cX6_init 130 = .ok (.newarray .int, 2) := by decide +kernel
theorem dX6_init_132 : decode cX6_init 132 = .ok (.putfield 64, 3) := by decide +kernel
theorem dX6_init_135 : decode cX6_init 135 = .ok (.return_, 1) := by decide +kernel
theorem dX6_in_0 : decode cX6_in 0 = .ok (.iload_n 0, 1) := by decide +kernel
theorem dX6_in_1 : decode cX6_in 1 = .ok (.iload_n 1, 1) := by decide +kernel
theorem dX6_in_2 : decode cX6_in 2 = .ok (.if_icmp .lt 12, 3) := by decide +kernel
theorem dX6_in_5 : decode cX6_in 5 = .ok (.iload_n 0, 1) := by decide +kernel
theorem dX6_in_6 : decode cX6_in 6 = .ok (.iload_n 2, 1) := by decide +kernel
theorem dX6_in_7 : decode cX6_in 7 = .ok (.if_icmp .gt 7, 3) := by decide +kernel
theorem dX6_in_10 : decode cX6_in 10 = .ok (.iconst 1, 1) := by decide +kernel
theorem dX6_in_11 : decode cX6_in 11 = .ok (.goto 4, 3) := by decide +kernel
theorem dX6_in_14 : decode cX6_in 14 = .ok (.iconst 0, 1) := by decide +kernel
theorem dX6_in_15 : decode cX6_in 15 = .ok (.ireturn, 1) := by decide +kernel
set_option maxRecDepth 20000 in
theorem ggX6_isJug_X6_in : GoodIn wsX6_isJug wsX6_in := goodIn_r _ [5] (by decide +kernel) (by decide +kernel)
set_option maxRecDepth 20000 in
theorem gX6_isJug_X6_in : GoodIn wsX6_isJug (va_wsS RX6 71 yX6_in wsX6_in) := goodIn_app (goodIn_of _ (by decide +kernel)) ggX6_isJug_X6_in
theorem dX6_isJug_0 : decode cX6_isJug 0 = .ok (.iload_n 1, 1) := by decide +kernel
theorem dX6_isJug_1 : decode cX6_isJug 1 = .ok (.iconst 0, 1) := by decide +kernel
theorem dX6_isJug_2 : decode cX6_isJug 2 = .ok (.aload_n 0, 1) := by decide +kernel
theorem dX6_isJug_3 : decode cX6_isJug 3 = .ok (.getfield 67, 3) := by decide +kernel
theorem dX6_isJug_6 : decode cX6_isJug 6 = .ok (.iconst 1, 1) := by decide +kernel
theorem dX6_isJug_7 : decode cX6_isJug 7 = .ok (.isub, 1) := by decide +kernel
theorem dX6_isJug_8 : decode cX6_isJug 8 = .ok (.invokestatic 71, 3) := by decide +kernel
theorem dX6_isJug_11 : decode cX6_isJug 11 = .ok (.ireturn, 1) := by decide +kernel
set_option maxRecDepth 20000 in
theorem ggX6_jug_X6_in : GoodIn wsX6_jug wsX6_in := goodIn_r _ [7] (by decide +kernel) (by decide +kernel)
set_option maxRecDepth 20000 in
theorem gX6_jug_X6_in : GoodIn wsX6_jug (va_wsS RX6 71 yX6_in wsX6_in) := goodIn_app (goodIn_of _ (by decide +kernel)) ggX6_jug_X6_in
theorem dX6_jug_0 : decode cX6_jug 0 = .ok (.iload_n 1, 1) := by decide +kernel
theorem dX6_jug_1 : decode cX6_jug 1 = .ok (.iconst 1, 1) := by decide +kernel
theorem dX6_jug_2 : decode cX6_jug 2 = .ok (.bipush 10, 2) := by decide +kernel
theorem dX6_jug_4 : decode cX6_jug 4 = .ok (.invokestatic 71, 3) := by decide +kernel
theorem dX6_jug_7 : decode cX6_jug 7 = .ok (.ifCond .eq 12, 3) := by decide +kernel
theorem dX6_jug_10 : decode cX6_jug 10 = .ok (.iload_n 2, 1) := by decide +kernel
theorem dX6_jug_11 : decode cX6_jug 11 = .ok (.iconst 0, 1) := by decide +kernel
theorem dX6_jug_12 : decode cX6_jug 12 = .ok (.iload_n 1, 1) := by decide +kernel
theorem dX6_jug_13 : decode cX6_jug 13 = .ok (.invokestatic 71, 3) := by decide +kernel
theorem dX6_jug_16 : decode cX6_jug 16 = .ok (.ifCond .ne 6, 3) := by decide +kernel
theorem dX6_jug_19 : decode cX6_jug 19 = .ok (.bipush (-2), 2) := by decide +kernel
theorem dX6_jug_21 : decode cX6_jug 21 = .ok (.ireturn, 1) := by decide +kernel
theorem dX6_jug_22 : decode cX6_jug 22 = .ok (.aload_n 0, 1) := by decide +kernel
theorem dX6_jug_23 : decode cX6_jug 23 = .ok (.getfield 67, 3) := by decide +kernel
theorem dX6_jug_26 : decode cX6_jug 26 = .ok (.iconst 4, 1) := by decide +kernel
theorem dX6_jug_27 : decode cX6_jug 27 = .ok (.if_icmp .ne 6, 3) := by decide +kernel
theorem dX6_jug_30 : decode cX6_jug 30 = .ok (.bipush (-4), 2) := by decide +kernel
theorem dX6_jug_32 : decode cX6_jug 32 = .ok (.ireturn, 1) := by decide +kernel
theorem dX6_jug_33 : decode cX6_jug 33 = .ok (.aload_n 0, 1) := by decide +kernel
theorem dX6_jug_34 : decode cX6_jug 34 = .ok (.getfield 7, 3) := by decide +kernel
theorem dX6_jug_37 : decode cX6_jug 37 = .ok (.aload_n 0, 1) := by decide +kernel
theorem dX6_jug_38 : decode cX6_jug 38 = .ok (.getfield 67, 3) := by decide +kernel
theorem dX6_jug_41 : decode cX6_jug 41 = .ok (.iload_n 1, 1) := by decide +kernel
theorem dX6_jug_42 : decode cX6_jug 42 = .ok (.iastore, 1) := by decide +kernel
theorem dX6_jug_43 : decode cX6_jug 43 = .ok (.aload_n 0, 1) := by decide +kernel
theorem dX6_jug_44 : decode cX6_jug 44 = .ok (.getfield 13, 3) := by decide +kernel
theorem dX6_jug_47 : decode cX6_jug 47 = .ok (.aload_n 0, 1) := by decide +kernel
theorem dX6_jug_48 : decode cX6_jug 48 = .ok (.getfield 67, 3) := by decide +kernel
theorem dX6_jug_51 : decode cX6_jug 51 = .ok (.iload_n 2, 1) := by decide +kernel
theorem dX6_jug_52 : decode cX6_jug 52 = .ok (.iastore, 1) := by decide +kernel
theorem dX6_jug_53 : decode cX6_jug 53 = .ok (.aload_n 0, 1) := by decide +kernel
theorem dX6_jug_54 : decode cX6_jug 54 = .ok (.dup, 1) := by decide +kernel
theorem dX6_jug_55 : decode cX6_jug 55 = .ok (.getfield 67, 3) := by decide +kernel
theorem dX6_jug_58 : decode cX6_jug 58 = .ok (.iconst 1, 1) := by decide +kernel
theorem dX6_jug_59 : decode cX6_jug 59 = .ok (.iadd, 1) := by decide +kernel
theorem dX6_jug_60 : decode cX6_jug 60 = .ok (.putfield 67, 3) := by decide +kernel
theorem dX6_jug_63 : decode cX6_jug 63 = .ok (.aload_n 0, 1) := by decide +kernel
theorem dX6_jug_64 : decode cX6_jug 64 = .ok (.getfield 67, 3) := by decide +kernel
theorem dX6_jug_67 : decode cX6_jug 67 = .ok (.iconst 1, 1) := by decide +kernel
theorem dX6_jug_68 : decode cX6_jug 68 = .ok (.isub, 1) := by decide +kernel
theorem dX6_jug_69 : decode cX6_jug 69 = .ok (.ireturn, 1) := by decide +kernel
set_option maxRecDepth 20000 in
theorem ggX6_set_X6_in : GoodIn wsX6_set wsX6_in := goodIn_r _ [6] (by decide +kernel) (by decide +kernel)
set_option maxRecDepth 20000 in
theorem gX6_set_X6_in : GoodIn wsX6_set (va_wsS RX6 71 yX6_in wsX6_in) := goodIn_app (goodIn_of _ (by decide +kernel)) ggX6_set_X6_in
theorem dX6_set_0 : decode cX6_set 0 = .ok (.iload_n 1, 1) := by decide +kernel
theorem dX6_set_1 : decode cX6_set 1 = .ok (.iconst 0, 1) := by decide +kernel
theorem dX6_set_2 : decode cX6_set 2 = .ok (.iconst 1, 1) := by decide +kernel
theorem dX6_set_3 : decode cX6_set 3 = .ok (.invokestatic 71, 3) := by decide +kernel
theorem dX6_set_6 : decode cX6_set 6 = .ok (.ifCond .ne 6, 3) := by decide +kernel
theorem dX6_set_9 : decode cX6_set 9 = .ok (.bipush (-2), 2) := by decide +kernel
theorem dX6_set_11 : decode cX6_set 11 = .ok (.ireturn, 1) := by decide +kernel
theorem dX6_set_12 : decode cX6_set 12 = .ok (.iload_n 1, 1) := by decide +kernel
theorem dX6_set_13 : decode cX6_set 13 = .ok (.ifCond .ne 13, 3) := by decide +kernel
theorem dX6_set_16 : decode cX6_set 16 = .ok (.aload_n 0, 1) := by decide +kernel
theorem dX6_set_17 : decode cX6_set 17 = .ok (.getfield 16, 3) := by decide +kernel
theorem dX6_set_20 : decode cX6_set 20 = .ok (.ifCond .eq 17, 3) := by decide +kernel
theorem dX6_set_23 : decode cX6_set 23 = .ok (.goto 10, 3) := by decide +kernel
theorem dX6_set_26 : decode cX6_set 26 = .ok (.aload_n 0, 1) := by decide +kernel
theorem dX6_set_27 : decode cX6_set 27 = .ok (.getfield 20, 3) := by decide +kernel
theorem dX6_set_30 : decode cX6_set 30 = .ok (.ifCond .eq 7, 3) := by decide +kernel
theorem dX6_set_33 : decode cX6_set 33 = .ok (.iconst 1, 1) := by decide +kernel
theorem dX6_set_34 : decode cX6_set 34 = .ok (.goto 4, 3) := by decide +kernel
theorem dX6_set_37 : decode cX6_set 37 = .ok (.iconst 0, 1) := by decide +kernel
theorem dX6_set_38 : decode cX6_set 38 = .ok (.istore_n 3, 1) := by decide +kernel
theorem dX6_set_39 : decode cX6_set 39 = .ok (.aload_n 0, 1) := by decide +kernel
theorem dX6_set_40 : decode cX6_set 40 = .ok (.iload_n 1, 1) := by decide +kernel
theorem dX6_set_41 : decode cX6_set 41 = .ok (.ifCond .ne 7, 3) := by decide +kernel
theorem dX6_set_44 : decode cX6_set 44 = .ok (.iload_n 2, 1) := by decide +kernel
theorem dX6_set_45 : decode cX6_set 45 = .ok (.goto 7, 3) := by decide +kernel
theorem dX6_set_48 : decode cX6_set 48 = .ok (.aload_n 0, 1) := by decide +kernel
theorem dX6_set_49 : decode cX6_set 49 = .ok (.getfield 16, 3) := by decide +kernel
theorem dX6_set_52 : decode cX6_set 52 = .ok (.putfield 16, 3) := by decide +kernel
theorem dX6_set_55 : decode cX6_set 55 = .ok (.aload_n 0, 1) := by decide +kernel
theorem dX6_set_56 : decode cX6_set 56 = .ok (.iload_n 1, 1) := by decide +kernel
theorem dX6_set_57 : decode cX6_set 57 = .ok (.iconst 1, 1) := by decide +kernel
theorem dX6_set_58 : decode cX6_set 58 = .ok (.if_icmp .ne 7, 3) := by decide +kernel
theorem dX6_set_61 : decode cX6_set 61 = .ok (.iload_n 2, 1) := by decide +kernel
theorem dX6_set_62 : decode cX6_set 62 = .ok (.goto 7, 3) := by decide +kernel
theorem dX6_set_65 : decode cX6_set 65 = .ok (.aload_n 0, 1) := by decide +kernel
theorem dX6_set_66 : decode cX6_set 66 = .ok (.getfield 20, 3) := by decide +kernel
theorem dX6_set_69 : decode cX6_set 69 = .ok (.putfield 20, 3) := by decide +kernel
theorem dX6_set_72 : decode cX6_set 72 = .ok (.iload_n 3, 1) := by decide +kernel
theorem dX6_set_73 : decode cX6_set 73 = .ok (.ireturn, 1) := by decide +kernel
set_option maxRecDepth 20000 in
theorem ggX6_put_X6_isJug : GoodIn wsX6_put wsX6_isJug := goodIn_r _ [7, 8, 9, 10, 6, 11, 12, 13, 14, 15, 16, 17, 18, 19, 20, 21, 22, 23, 24, 25, 26, 27, 28, 29, 30, 31, 32, 33, 34, 35, 36, 37, 38, 39] (by decide +kernel) (by decide +kernel)
set_option maxRecDepth 20000 in
theorem gX6_put_X6_isJug : GoodIn wsX6_put (wsV RX6 75 RX6 yX6_isJug wsX6_isJug) := goodIn_app (goodIn_of _ (by decide +kernel)) ggX6_put_X6_isJug
set_option maxRecDepth 20000 in
theorem ggX6_put_X6_in : GoodIn wsX6_put wsX6_in := goodIn_r _ [11] (by decide +kernel) (by decide +kernel)
set_option maxRecDepth 20000 in
theorem gX6_put_X6_in : GoodIn wsX6_put (va_wsS RX6 71 yX6_in wsX6_in) := goodIn_app (goodIn_of _ (by decide +kernel)) ggX6_put_X6_in
theorem dX6_put_0 : decode cX6_put 0 = .ok (.aload_n 0, 1) := by decide +kernel
theorem dX6_put_1 : decode cX6_put 1 = .ok (.iload_n 1, 1) := by decide +kernel
theorem dX6_put_2 : decode cX6_put 2 = .ok (.invokevirtual 75, 3) := by decide +kernel
theorem dX6_put_5 : decode cX6_put 5 = .ok (.ifCond .eq 17, 3) := by decide +kernel
theorem dX6_put_8 : decode cX6_put 8 = .ok (.iload_n 2, 1) := by decide +kernel
theorem dX6_put_9 : decode cX6_put 9 = .ok (.iconst 0, 1) := by decide +kernel
theorem dX6_put_10 : decode cX6_put 10 = .ok (.aload_n 0, 1) := by decide +kernel
theorem dX6_put_11 : decode cX6_put 11 = .ok (.getfield 7, 3) := by decide +kernel
theorem dX6_put_14 : decode cX6_put 14 = .ok (.iload_n 1, 1) := by decide +kernel
theorem dX6_put_15 : decode cX6_put 15 = .ok (.iaload, 1) := by decide +kernel
theorem dX6_put_16 : decode cX6_put 16 = .ok (.invokestatic 71, 3) := by decide +kernel
theorem dX6_put_19 : decode cX6_put 19 = .ok (.ifCond .ne 6, 3) := by decide +kernel
theorem dX6_put_22 : decode cX6_put 22 = .ok (.bipush (-2), 2) := by decide +kernel
theorem dX6_put_24 : decode cX6_put 24 = .ok (.ireturn, 1) := by decide +kernel
theorem dX6_put_25 : decode cX6_put 25 = .ok (.aload_n 0, 1) := by decide +kernel
theorem dX6_put_26 : decode cX6_put 26 = .ok (.getfield 13, 3) := by decide +kernel
theorem dX6_put_29 : decode cX6_put 29 = .ok (.iload_n 1, 1) := by decide +kernel
theorem dX6_put_30 : decode cX6_put 30 = .ok (.iaload, 1) := by decide +kernel
theorem dX6_put_31 : decode cX6_put 31 = .ok (.istore_n 3, 1) := by decide +kernel
theorem dX6_put_32 : decode cX6_put 32 = .ok (.aload_n 0, 1) := by decide +kernel
theorem dX6_put_33 : decode cX6_put 33 = .ok (.getfield 13, 3) := by decide +kernel
theorem dX6_put_36 : decode cX6_put 36 = .ok (.iload_n 1, 1) := by decide +kernel
theorem dX6_put_37 : decode cX6_put 37 = .ok (.iload_n 2, 1) := by decide +kernel
theorem dX6_put_38 : decode cX6_put 38 = .ok (.iastore, 1) := by decide +kernel
theorem dX6_put_39 : decode cX6_put 39 = .ok (.iload_n 3, 1) := by decide +kernel
theorem dX6_put_40 : decode cX6_put 40 = .ok (.ireturn, 1) := by decide +kernel
set_option maxRecDepth 20000 in
theorem ggX6_holds_X6_isJug : GoodIn wsX6_holds wsX6_isJug := goodIn_r _ [6, 7, 8, 9, 5, 10, 11, 12, 13, 14, 15, 16, 17, 18, 19, 20, 21, 22, 23, 24, 25, 26, 27, 28, 29, 30, 31, 32, 33, 34, 35, 36, 37, 38] (by decide +kernel) (by decide +kernel)
set_option maxRecDepth 20000 in
theorem gX6_holds_X6_isJug : GoodIn wsX6_holds (wsV RX6 75 RX6 yX6_isJug wsX6_isJug) := goodIn_app (goodIn_of _ (by decide +kernel)) ggX6_holds_X6_isJug
theorem dX6_holds_0 : decode cX6_holds 0 = .ok (.aload_n 0, 1) := by decide +kernel
theorem dX6_holds_1 : decode cX6_holds 1 = .ok (.iload_n 1, 1) := by decide +kernel
theorem dX6_holds_2 : decode cX6_holds 2 = .ok (.invokevirtual 75, 3) := by decide +kernel
theorem dX6_holds_5 : decode cX6_holds 5 = .ok (.ifCond .eq 12, 3) := by decide +kernel
theorem dX6_holds_8 : decode cX6_holds 8 = .ok (.aload_n 0, 1) := by decide +kernel
theorem dX6_holds_9 : decode cX6_holds 9 = .ok (.getfield 13, 3) := by decide +kernel
theorem dX6_holds_12 : decode cX6_holds 12 = .ok (.iload_n 1, 1) := by decide +kernel
theorem dX6_holds_13 : decode cX6_holds 13 = .ok (.iaload, 1) := by decide +kernel
theorem dX6_holds_14 : decode cX6_holds 14 = .ok (.goto 5, 3) := by decide +kernel
theorem dX6_holds_17 : decode cX6_holds 17 = .ok (.bipush (-2), 2) := by decide +kernel
theorem dX6_holds_19 : decode cX6_holds 19 = .ok (.ireturn, 1) := by decide +kernel
theorem dX6_clear_0 : decode cX6_clear 0 = .ok (.aload_n 0, 1) := by decide +kernel
theorem dX6_clear_1 : decode cX6_clear 1 = .ok (.getfield 67, 3) := by decide +kernel
theorem dX6_clear_4 : decode cX6_clear 4 = .ok (.istore_n 1, 1) := by decide +kernel
theorem dX6_clear_5 : decode cX6_clear 5 = .ok (.aload_n 0, 1) := by decide +kernel
theorem dX6_clear_6 : decode cX6_clear 6 = .ok (.iconst 0, 1) := by decide +kernel
theorem dX6_clear_7 : decode cX6_clear 7 = .ok (.putfield 67, 3) := by decide +kernel
theorem dX6_clear_10 : decode cX6_clear 10 = .ok (.iload_n 1, 1) := by decide +kernel
theorem dX6_clear_11 : decode cX6_clear 11 = .ok (.ireturn, 1) := by decide +kernel
theorem dX6_tryOwn_0 : decode cX6_tryOwn 0 = .ok (.aload_n 0, 1) := by decide +kernel
theorem dX6_tryOwn_1 : decode cX6_tryOwn 1 = .ok (.aload_n 0, 1) := by decide +kernel
theorem dX6_tryOwn_2 : decode cX6_tryOwn 2 = .ok (.getfield 67, 3) := by decide +kernel
theorem dX6_tryOwn_5 : decode cX6_tryOwn 5 = .ok (.putfield 79, 3) := by decide +kernel
theorem dX6_tryOwn_8 : decode cX6_tryOwn 8 = .ok (.aload_n 0, 1) := by decide +kernel
theorem dX6_tryOwn_9 : decode cX6_tryOwn 9 = .ok (.aload_n 0, 1) := by decide +kernel
theorem dX6_tryOwn_10 : decode cX6_tryOwn 10 = .ok (.getfield 16, 3) := by decide +kernel
theorem dX6_tryOwn_13 : decode cX6_tryOwn 13 = .ok (.putfield 82, 3) := by decide +kernel
theorem dX6_tryOwn_16 : decode cX6_tryOwn 16 = .ok (.aload_n 0, 1) := by decide +kernel
theorem dX6_tryOwn_17 : decode cX6_tryOwn 17 = .ok (.aload_n 0, 1) := by decide +kernel
theorem dX6_tryOwn_18 : decode cX6_tryOwn 18 = .ok (.getfield 20, 3) := by decide +kernel
theorem dX6_tryOwn_21 : decode cX6_tryOwn 21 = .ok (.putfield 85, 3) := by decide +kernel
theorem dX6_tryOwn_24 : decode cX6_tryOwn 24 = .ok (.iconst 0, 1) := by decide +kernel
theorem dX6_tryOwn_25 : decode cX6_tryOwn 25 = .ok (.istore_n 1, 1) := by decide +kernel
theorem dX6_tryOwn_26 : decode cX6_tryOwn 26 = .ok (.iload_n 1, 1) := by decide +kernel
theorem dX6_tryOwn_27 : decode cX6_tryOwn 27 = .ok (.aload_n 0, 1) := by decide +kernel
theorem dX6_tryOwn_28 : decode cX6_tryOwn 28 = .ok (.getfield 67, 3) := by decide +kernel
theorem dX6_tryOwn_31 : decode cX6_tryOwn 31 = .ok (.if_icmp .ge 33, 3) := by decide +kernel
theorem dX6_tryOwn_34 : decode cX6_tryOwn 34 = .ok (.aload_n 0, 1) := by decide +kernel
theorem dX6_tryOwn_35 : decode cX6_tryOwn 35 = .ok (.getfield 26, 3) := by decide +kernel
theorem dX6_tryOwn_38 : decode cX6_tryOwn 38 = .ok (.iload_n 1, 1) := by decide +kernel
theorem dX6_tryOwn_39 : decode cX6_tryOwn 39 = .ok (.aload_n 0, 1) := by decide +kernel
theorem dX6_tryOwn_40 : decode cX6_tryOwn 40 = .ok (.getfield 7, 3) := by decide +kernel
theorem dX6_tryOwn_43 : decode cX6_tryOwn 43 = .ok (.iload_n 1, 1) := by decide +kernel
theorem dX6_tryOwn_44 : decode cX6_tryOwn 44 = .ok (.iaload, 1) := by decide +kernel
theorem dX6_tryOwn_45 : decode cX6_tryOwn 45 = .ok (.iastore, 1) := by decide +kernel
theorem dX6_tryOwn_46 : decode cX6_tryOwn 46 = .ok (.aload_n 0, 1) := by decide +kernel
theorem dX6_tryOwn_47 : decode cX6_tryOwn 47 = .ok (.getfield 29, 3) := by decide +kernel
theorem dX6_tryOwn_50 : decode cX6_tryOwn 50 = .ok (.iload_n 1, 1) := by decide +kernel
theorem dX6_tryOwn_51 : decode cX6_tryOwn 51 = .ok (.aload_n 0, 1) := by decide +kernel
theorem dX6_tryOwn_52 : decode cX6_tryOwn 52 = .ok (.getfield 13, 3) := by decide +kernel
theorem dX6_tryOwn_55 : decode cX6_tryOwn 55 = .ok (.iload_n 1, 1) := by decide +kernel
theorem dX6_tryOwn_56 : decode cX6_tryOwn 56 = .ok (.iaload, 1) := by decide +kernel
theorem dX6_tryOwn_57 : decode cX6_tryOwn 57 = .ok (.iastore, 1) := by decide +kernel
theorem dX6_tryOwn_58 : decode cX6_tryOwn 58 = .ok (.iinc 1 1, 3) := by decide +kernel
theorem dX6_tryOwn_61 : decode cX6_tryOwn 61 = .ok (.goto (-35), 3) := by decide +kernel
theorem dX6_tryOwn_64 : decode cX6_tryOwn 64 = .ok (.return_, 1) := by decide +kernel
theorem dX6_numberOf_0 : decode cX6_numberOf 0 = .ok (.iconst 0, 1) := by decide +kernel
theorem dX6_numberOf_1 : decode cX6_numberOf 1 = .ok (.istore_n 1, 1) := by decide +kernel
theorem dX6_numberOf_2 : decode cX6_numberOf 2 = .ok (.iconst 0, 1) := by decide +kernel
theorem dX6_numberOf_3 : decode cX6_numberOf 3 = .ok (.istore_n 2, 1) := by decide +kernel
theorem dX6_numberOf_4 : decode cX6_numberOf 4 = .ok (.iload_n 2, 1) := by decide +kernel
theorem dX6_numberOf_5 : decode cX6_numberOf 5 = .ok (.aload_n 0, 1) := by decide +kernel
theorem dX6_numberOf_6 : decode cX6_numberOf 6 = .ok (.getfield 79, 3) := by decide +kernel
theorem dX6_numberOf_9 : decode cX6_numberOf 9 = .ok (.if_icmp .ge 27, 3) := by decide +kernel
theorem dX6_numberOf_12 : decode cX6_numberOf 12 = .ok (.iload_n 1, 1) := by decide +kernel
theorem dX6_numberOf_13 : decode cX6_numberOf 13 = .ok (.aload_n 0, 1) := by decide +kernel
theorem dX6_numberOf_14 : decode cX6_numberOf 14 = .ok (.getfield 26, 3) := by decide +kernel
theorem dX6_numberOf_17 : decode cX6_numberOf 17 = .ok (.iload_n 2, 1) := by decide +kernel
theorem dX6_numberOf_18 : decode cX6_numberOf 18 = .ok (.iaload, 1) := by decide +kernel
theorem dX6_numberOf_19 : decode cX6_numberOf 19 = .ok (.iconst 1, 1) := by decide +kernel
theorem dX6_numberOf_20 : decode cX6_numberOf 20 = .ok (.iadd, 1) := by decide +kernel
theorem dX6_numberOf_21 : decode cX6_numberOf 21 = .ok (.imul, 1) := by decide +kernel
theorem dX6_numberOf_22 : decode cX6_numberOf 22 = .ok (.aload_n 0, 1) := by decide +kernel
theorem dX6_numberOf_23 : decode cX6_numberOf 23 = .ok (.getfield 29, 3) := by decide +kernel
theorem dX6_numberOf_26 : decode cX6_numberOf 26 = .ok (.iload_n 2, 1) := by decide +kernel
theorem dX6_numberOf_27 : decode cX6_numberOf 27 = .ok (.iaload, 1) := by decide +kernel
theorem dX6_numberOf_28 : decode cX6_numberOf 28 = .ok (.iadd, 1) := by decide +kernel
theorem dX6_numberOf_29 : decode cX6_numberOf 29 = .ok (.istore_n 1, 1) := by decide +kernel
theorem dX6_numberOf_30 : decode cX6_numberOf 30 = .ok (.iinc 2 1, 3) := by decide +kernel
theorem dX6_numberOf_33 : decode cX6_numberOf 33 = .ok (.goto (-29), 3) := by decide +kernel
theorem dX6_numberOf_36 : decode cX6_numberOf 36 = .ok (.iload_n 1, 1) := by decide +kernel
theorem dX6_numberOf_37 : decode cX6_numberOf 37 = .ok (.ireturn, 1) := by decide +kernel
theorem dX6_stateMany_0 : decode cX6_stateMany 0 = .ok (.iconst 1, 1) := by decide +kernel
theorem dX6_stateMany_1 : decode cX6_stateMany 1 = .ok (.istore_n 1, 1) := by decide +kernel
theorem dX6_stateMany_2 : decode cX6_stateMany 2 = .ok (.iconst 0, 1) := by decide +kernel
theorem dX6_stateMany_3 : decode cX6_stateMany 3 = .ok (.istore_n 2, 1) := by decide +kernel
theorem dX6_stateMany_4 : decode cX6_stateMany 4 = .ok (.iload_n 2, 1) := by decide +kernel
theorem dX6_stateMany_5 : decode cX6_stateMany 5 = .ok (.aload_n 0, 1) := by decide +kernel
theorem dX6_stateMany_6 : decode cX6_stateMany 6 = .ok (.getfield 79, 3) := by decide +kernel
theorem dX6_stateMany_9 : decode cX6_stateMany 9 = .ok (.if_icmp .ge 20, 3) := by decide +kernel
theorem dX6_stateMany_12 : decode cX6_stateMany 12 = .ok (.iload_n 1, 1) := by decide +kernel
theorem dX6_stateMany_13 : decode cX6_stateMany 13 = .ok (.aload_n 0, 1) := by decide +kernel
theorem dX6_stateMany_14 : decode cX6_stateMany 14 = .ok (.getfield 26, 3) := by decide +kernel
theorem dX6_stateMany_17 : decode cX6_stateMany 17 = .ok (.iload_n 2, 1) := by decide +kernel
theorem dX6_stateMany_18 : decode cX6_stateMany 18 = .ok (.iaload, 1) := by decide +kernel
theorem dX6_stateMany_19 : decode cX6_stateMany 19 = .ok (.iconst 1, 1) := by decide +kernel
theorem dX6_stateMany_20 : decode cX6_stateMany 20 = .ok (.iadd, 1) := by decide +kernel
theorem dX6_stateMany_21 : decode cX6_stateMany 21 = .ok (.imul, 1) := by decide +kernel
theorem dX6_stateMany_22 : decode cX6_stateMany 22 = .ok (.istore_n 1, 1) := by decide +kernel
theorem dX6_stateMany_23 : decode cX6_stateMany 23 = .ok (.iinc 2 1, 3) := by decide +kernel
theorem dX6_stateMany_26 : decode cX6_stateMany 26 = .ok (.goto (-22), 3) := by decide +kernel
theorem dX6_stateMany_29 : decode cX6_stateMany 29 = .ok (.iload_n 1, 1) := by decide +kernel
theorem dX6_stateMany_30 : decode cX6_stateMany 30 = .ok (.ireturn, 1) := by decide +kernel
theorem dX6_layState_0 : decode cX6_layState 0 = .ok (.iload_n 1, 1) := by decide +kernel
theorem dX6_layState_1 : decode cX6_layState 1 = .ok (.istore_n 2, 1) := by decide +kernel
theorem dX6_layState_2 : decode cX6_layState 2 = .ok (.aload_n 0, 1) := by decide +kernel
theorem dX6_layState_3 : decode cX6_layState 3 = .ok (.getfield 79, 3) := by decide +kernel
theorem dX6_layState_6 : decode cX6_layState 6 = .ok (.iconst 1, 1) := by decide +kernel
theorem dX6_layState_7 : decode cX6_layState 7 = .ok (.isub, 1) := by decide +kernel
theorem dX6_layState_8 : decode cX6_layState 8 = .ok (.istore_n 3, 1) := by decide +kernel
theorem dX6_layState_9 : decode cX6_layState 9 = .ok (.iload_n 3, 1) := by decide +kernel
theorem dX6_layState_10 : decode cX6_layState 10 = .ok (.ifCond .lt 36, 3) := by decide +kernel
theorem dX6_layState_13 : decode cX6_layState 13 = .ok (.aload_n 0, 1) := by decide +kernel
theorem dX6_layState_14 : decode cX6_layState 14 = .ok (.getfield 29, 3) := by decide +kernel
theorem dX6_layState_17 : decode cX6_layState 17 = .ok (.iload_n 3, 1) := by decide +kernel
theorem dX6_layState_18 : decode cX6_layState 18 = .ok (.iload_n 2, 1) := by decide +kernel
theorem dX6_layState_19 : decode cX6_layState 19 = .ok (.aload_n 0, 1) := by decide +kernel
theorem dX6_layState_20 : decode cX6_layState 20 = .ok (.getfield 26, 3) := by decide +kernel
theorem dX6_layState_23 : decode cX6_layState 23 = .ok (.iload_n 3, 1) := by decide +kernel
theorem dX6_layState_24 : decode cX6_layState 24 = .ok (.iaload, 1) := by decide +kernel
theorem dX6_layState_25 : decode cX6_layState 25 = .ok (.iconst 1, 1) := by decide +kernel
theorem dX6_layState_26 : decode cX6_layState 26 = .ok (.iadd, 1) := by decide +kernel
theorem dX6_layState_27 : decode cX6_layState 27 = .ok (.irem, 1) := by decide +kernel
theorem dX6_layState_28 : decode cX6_layState 28 = .ok (.iastore, 1) := by decide +kernel
theorem dX6_layState_29 : decode cX6_layState 29 = .ok (.iload_n 2, 1) := by decide +kernel
theorem dX6_layState_30 : decode cX6_layState 30 = .ok (.aload_n 0, 1) := by decide +kernel
theorem dX6_layState_31 : decode cX6_layState 31 = .ok (.getfield 26, 3) := by decide +kernel
theorem dX6_layState_34 : decode cX6_layState 34 = .ok (.iload_n 3, 1) := by decide +kernel
theorem dX6_layState_35 : decode cX6_layState 35 = .ok (.iaload, 1) := by decide +kernel
theorem dX6_layState_36 : decode cX6_layState 36 = .ok (.iconst 1, 1) := by decide +kernel
theorem dX6_layState_37 : decode cX6_layState 37 = .ok (.iadd, 1) := by decide +kernel
theorem dX6_layState_38 : decode cX6_layState 38 = .ok (.idiv, 1) := by decide +kernel
theorem dX6_layState_39 : decode cX6_layState 39 = .ok (.istore_n 2, 1) := by decide +kernel
theorem dX6_layState_40 : decode cX6_layState 40 = .ok (.iinc 3 (-1), 3) := by decide +kernel
theorem dX6_layState_43 : decode cX6_layState 43 = .ok (.goto (-34), 3) := by decide +kernel
theorem dX6_layState_46 : decode cX6_layState 46 = .ok (.return_, 1) := by decide +kernel
theorem dX6_does_0 : decode cX6_does 0 = .ok (.iload_n 1, 1) := by decide +kernel
theorem dX6_does_1 : decode cX6_does 1 = .ok (.bipush 8, 2) := by decide +kernel
theorem dX6_does_3 : decode cX6_does 3 = .ok (.if_icmp .ge 9, 3) := by decide +kernel
theorem dX6_does_6 : decode cX6_does 6 = .ok (.iload_n 1, 1) := by decide +kernel
theorem dX6_does_7 : decode cX6_does 7 = .ok (.iconst 4, 1) := by decide +kernel
theorem dX6_does_8 : decode cX6_does 8 = .ok (.irem, 1) := by decide +kernel
theorem dX6_does_9 : decode cX6_does 9 = .ok (.goto 9, 3) := by decide +kernel
theorem dX6_does_12 : decode cX6_does 12 = .ok (.iload_n 1, 1) := by decide +kernel
theorem dX6_does_13 : decode cX6_does 13 = .ok (.bipush 8, 2) := by decide +kernel
theorem dX6_does_15 : decode cX6_does 15 = .ok (.isub, 1) := by decide +kernel
theorem dX6_does_16 : decode cX6_does 16 = .ok (.iconst 4, 1) := by decide +kernel
theorem dX6_does_17 : decode cX6_does 17 = .ok (.idiv, 1) := by decide +kernel
theorem dX6_does_18 : decode cX6_does 18 = .ok (.istore_n 2, 1) := by decide +kernel
theorem dX6_does_19 : decode cX6_does 19 = .ok (.iload_n 1, 1) := by decide +kernel
theorem dX6_does_20 : decode cX6_does 20 = .ok (.bipush 8, 2) := by decide +kernel
theorem dX6_does_22 : decode cX6_does 22 = .ok (.if_icmp .ge 7, 3) := by decide +kernel
theorem dX6_does_25 : decode cX6_does 25 = .ok (.iload_n 2, 1) := by decide +kernel
theorem dX6_does_26 : decode cX6_does 26 = .ok (.goto 6, 3) := by decide +kernel
theorem dX6_does_29 : decode cX6_does 29 = .ok (.iload_n 1, 1) := by decide +kernel
theorem dX6_does_30 : decode cX6_does 30 = .ok (.iconst 4, 1) := by decide +kernel
theorem dX6_does_31 : decode cX6_does 31 = .ok (.irem, 1) := by decide +kernel
theorem dX6_does_32 : decode cX6_does 32 = .ok (.istore_n 3, 1) := by decide +kernel
theorem dX6_does_33 : decode cX6_does 33 = .ok (.iload_n 2, 1) := by decide +kernel
theorem dX6_does_34 : decode cX6_does 34 = .ok (.aload_n 0, 1) := by decide +kernel
theorem dX6_does_35 : decode cX6_does 35 = .ok (.getfield 79, 3) := by decide +kernel
theorem dX6_does_38 : decode cX6_does 38 = .ok (.if_icmp .ge 22, 3) := by decide +kernel
theorem dX6_does_41 : decode cX6_does 41 = .ok (.iload_n 3, 1) := by decide +kernel
theorem dX6_does_42 : decode cX6_does 42 = .ok (.aload_n 0, 1) := by decide +kernel
theorem dX6_does_43 : decode cX6_does 43 = .ok (.getfield 79, 3) := by decide +kernel
theorem dX6_does_46 : decode cX6_does 46 = .ok (.if_icmp .ge 14, 3) := by decide +kernel
theorem dX6_does_49 : decode cX6_does 49 = .ok (.iload_n 1, 1) := by decide +kernel
theorem dX6_does_50 : decode cX6_does 50 = .ok (.bipush 8, 2) := by decide +kernel
theorem dX6_does_52 : decode cX6_does 52 = .ok (.if_icmp .lt 10, 3) := by decide +kernel
theorem dX6_does_55 : decode cX6_does 55 = .ok (.iload_n 2, 1) := by decide +kernel
theorem dX6_does_56 : decode cX6_does 56 = .ok (.iload_n 3, 1) := by decide +kernel
theorem dX6_does_57 : decode cX6_does 57 = .ok (.if_icmp .ne 5, 3) := by decide +kernel
theorem dX6_does_60 : decode cX6_does 60 = .ok (.iconst 0, 1) := by decide +kernel
theorem dX6_does_61 : decode cX6_does 61 = .ok (.ireturn, 1) := by decide +kernel
theorem dX6_does_62 : decode cX6_does 62 = .ok (.aload_n 0, 1) := by decide +kernel
theorem dX6_does_63 : decode cX6_does 63 = .ok (.iconst 0, 1) := by decide +kernel
theorem dX6_does_64 : decode cX6_does 64 = .ok (.putfield 88, 3) := by decide +kernel
theorem dX6_does_67 : decode cX6_does 67 = .ok (.iload_n 1, 1) := by decide +kernel
theorem dX6_does_68 : decode cX6_does 68 = .ok (.iconst 4, 1) := by decide +kernel
theorem dX6_does_69 : decode cX6_does 69 = .ok (.if_icmp .ge 47, 3) := by decide +kernel
theorem dX6_does_72 : decode cX6_does 72 = .ok (.aload_n 0, 1) := by decide +kernel
theorem dX6_does_73 : decode cX6_does 73 = .ok (.aload_n 0, 1) := by decide +kernel
theorem dX6_does_74 : decode cX6_does 74 = .ok (.getfield 82, 3) := by decide +kernel
theorem dX6_does_77 : decode cX6_does 77 = .ok (.ifCond .eq 19, 3) := by decide +kernel
theorem dX6_does_80 : decode cX6_does 80 = .ok (.aload_n 0, 1) := by decide +kernel
theorem dX6_does_81 : decode cX6_does 81 = .ok (.getfield 26, 3) := by decide +kernel
theorem dX6_does_84 : decode cX6_does 84 = .ok (.iload_n 2, 1) := by decide +kernel
theorem dX6_does_85 : decode cX6_does 85 = .ok (.iaload, 1) := by decide +kernel
theorem dX6_does_86 : decode cX6_does 86 = .ok (.aload_n 0, 1) := by decide +kernel
theorem dX6_does_87 : decode cX6_does 87 = .ok (.getfield 29, 3) := by decide +kernel
theorem dX6_does_90 : decode cX6_does 90 = .ok (.iload_n 2, 1) := by decide +kernel
theorem dX6_does_91 : decode cX6_does 91 = .ok (.iaload, 1) := by decide +kernel
theorem dX6_does_92 : decode cX6_does 92 = .ok (.isub, 1) := by decide +kernel
theorem dX6_does_93 : decode cX6_does 93 = .ok (.goto 4, 3) := by decide +kernel
theorem dX6_does_96 : decode cX6_does 96 = .ok (.iconst 0, 1) := by decide +kernel
theorem dX6_does_97 : decode cX6_does 97 = .ok (.putfield 91, 3) := by decide +kernel
theorem dX6_does_100 : decode cX6_does 100 = .ok (.aload_n 0, 1) := by decide +kernel
theorem dX6_does_101 : decode cX6_does 101 = .ok (.getfield 29, 3) := by decide +kernel
theorem dX6_does_104 : decode cX6_does 104 = .ok (.iload_n 2, 1) := by decide +kernel
theorem dX6_does_105 : decode cX6_does 105 = .ok (.dup2, 1) := by decide +kernel
theorem dX6_does_106 : decode cX6_does 106 = .ok (.iaload, 1) := by decide +kernel
theorem dX6_does_107 : decode cX6_does 107 = .ok (.aload_n 0, 1) := by decide +kernel
theorem dX6_does_108 : decode cX6_does 108 = .ok (.getfield 91, 3) := by decide +kernel
theorem dX6_does_111 : decode cX6_does 111 = .ok (.iadd, 1) := by decide +kernel
theorem dX6_does_112 : decode cX6_does 112 = .ok (.iastore, 1) := by decide +kernel
theorem dX6_does_113 : decode cX6_does 113 = .ok (.goto 128, 3) := by decide +kernel
theorem dX6_does_116 : decode cX6_does 116 = .ok (.iload_n 1, 1) := by decide +kernel
theorem dX6_does_117 : decode cX6_does 117 = .ok (.bipush 8, 2) := by decide +kernel
theorem dX6_does_119 : decode cX6_does 119 = .ok (.if_icmp .ge 48, 3) := by decide +kernel
theorem dX6_does_122 : decode cX6_does 122 = .ok (.aload_n 0, 1) := by decide +kernel
theorem dX6_does_123 : decode cX6_does 123 = .ok (.aload_n 0, 1) := by decide +kernel
theorem dX6_does_124 : decode cX6_does 124 = .ok (.getfield 85, 3) := by decide +kernel
theorem dX6_does_127 : decode cX6_does 127 = .ok (.ifCond .eq 12, 3) := by decide +kernel
theorem dX6_does_130 : decode cX6_does 130 = .ok (.aload_n 0, 1) := by decide +kernel
theorem dX6_does_131 : decode cX6_does 131 = .ok (.getfield 29, 3) := by decide +kernel
theorem dX6_does_134 : decode cX6_does 134 = .ok (.iload_n 2, 1) := by decide +kernel
theorem dX6_does_135 : decode cX6_does 135 = .ok (.iaload, 1) := by decide +kernel
theorem dX6_does_136 : decode cX6_does 136 = .ok (.goto 4, 3) := by decide +kernel
theorem dX6_does_139 : decode cX6_does 139 = .ok (.iconst 0, 1) := by decide +kernel
theorem dX6_does_140 : decode cX6_does 140 = .ok (.putfield 91, 3) := by decide +kernel
theorem dX6_does_143 : decode cX6_does 143 = .ok (.aload_n 0, 1) := by decide +kernel
theorem dX6_does_144 : decode cX6_does 144 = .ok (.aload_n 0, 1) := by decide +kernel
theorem dX6_does_145 : decode cX6_does 145 = .ok (.getfield 91, 3) := by decide +kernel
theorem dX6_does_148 : decode cX6_does 148 = .ok (.putfield 88, 3) := by decide +kernel
theorem dX6_does_151 : decode cX6_does 151 = .ok (.aload_n 0, 1) := by decide +kernel
theorem dX6_does_152 : decode cX6_does 152 = .ok (.getfield 29, 3) := by decide +kernel
theorem dX6_does_155 : decode cX6_does 155 = .ok (.iload_n 2, 1) := by decide +kernel
theorem dX6_does_156 : decode cX6_does 156 = .ok (.dup2, 1) := by decide +kernel
theorem dX6_does_157 : decode cX6_does 157 = .ok (.iaload, 1) := by decide +kernel
theorem dX6_does_158 : decode cX6_does 158 = .ok (.aload_n 0, 1) := by decide +kernel
theorem dX6_does_159 : decode cX6_does 159 = .ok (.getfield 91, 3) := by decide +kernel
theorem dX6_does_162 : decode cX6_does 162 = .ok (.isub, 1) := by decide +kernel
theorem dX6_does_163 : decode cX6_does 163 = .ok (.iastore, 1) := by decide +kernel
theorem dX6_does_164 : decode cX6_does 164 = .ok (.goto 77, 3) := by decide +kernel
theorem dX6_does_167 : decode cX6_does 167 = .ok (.aload_n 0, 1) := by decide +kernel
theorem dX6_does_168 : decode cX6_does 168 = .ok (.aload_n 0, 1) := by decide +kernel
theorem dX6_does_169 : decode cX6_does 169 = .ok (.getfield 29, 3) := by decide +kernel
theorem dX6_does_172 : decode cX6_does 172 = .ok (.iload_n 2, 1) := by decide +kernel
theorem dX6_does_173 : decode cX6_does 173 = .ok (.iaload, 1) := by decide +kernel
theorem dX6_does_174 : decode cX6_does 174 = .ok (.aload_n 0, 1) := by decide +kernel
theorem dX6_does_175 : decode cX6_does 175 = .ok (.getfield 26, 3) := by decide +kernel
theorem dX6_does_178 : decode cX6_does 178 = .ok (.iload_n 3, 1) := by decide +kernel
theorem dX6_does_179 : decode cX6_does 179 = .ok (.iaload, 1) := by decide +kernel
theorem dX6_does_180 : decode cX6_does 180 = .ok (.aload_n 0, 1) := by decide +kernel
theorem dX6_does_181 : decode cX6_does 181 = .ok (.getfield 29, 3) := by decide +kernel
theorem dX6_does_184 : decode cX6_does 184 = .ok (.iload_n 3, 1) := by decide +kernel
theorem dX6_does_185 : decode cX6_does 185 = .ok (.iaload, 1) := by decide +kernel
theorem dX6_does_186 : decode cX6_does 186 = .ok (.isub, 1) := by decide +kernel
theorem dX6_does_187 : decode cX6_does 187 = .ok (.if_icmp .ge 12, 3) := by decide +kernel
theorem dX6_does_190 : decode cX6_does 190 = .ok (.aload_n 0, 1) := by decide +kernel
theorem dX6_does_191 : decode cX6_does 191 = .ok (.getfield 29, 3) := by decide +kernel
theorem dX6_does_194 : decode cX6_does 194 = .ok (.iload_n 2, 1) := by decide +kernel
theorem dX6_does_195 : decode cX6_does 195 = .ok (.iaload, 1) := by decide +kernel
theorem dX6_does_196 : decode cX6_does 196 = .ok (.goto 16, 3) := by decide +kernel
theorem dX6_does_199 : decode cX6_does 199 = .ok (.aload_n 0, 1) := by decide +kernel
theorem dX6_does_200 : decode cX6_does 200 = .ok (.getfield 26, 3) := by decide +kernel
theorem dX6_does_203 : decode cX6_does 203 = .ok (.iload_n 3, 1) := by decide +kernel
theorem dX6_does_204 : decode cX6_does 204 = .ok (.iaload, 1) := by decide +kernel
theorem dX6_does_205 : decode cX6_does 205 = .ok (.aload_n 0, 1) := by decide +kernel
theorem dX6_does_206 : decode cX6_does 206 = .ok (.getfield 29, 3) := by decide +kernel
theorem dX6_does_209 : decode cX6_does 209 = .ok (.iload_n 3, 1) := by decide +kernel
theorem dX6_does_210 : decode cX6_does 210 = .ok (.iaload, 1) := by decide +kernel
theorem dX6_does_211 : decode cX6_does 211 = .ok (.isub, 1) := by decide +kernel
theorem dX6_does_212 : decode cX6_does 212 = .ok (.putfield 91, 3) := by decide +kernel
theorem dX6_does_215 : decode cX6_does 215 = .ok (.aload_n 0, 1) := by decide +kernel
theorem dX6_does_216 : decode cX6_does 216 = .ok (.getfield 29, 3) := by decide +kernel
theorem dX6_does_219 : decode cX6_does 219 = .ok (.iload_n 2, 1) := by decide +kernel
theorem dX6_does_220 : decode cX6_does 220 = .ok (.dup2, 1) := by decide +kernel
theorem dX6_does_221 : decode cX6_does 221 = .ok (.iaload, 1) := by decide +kernel
theorem dX6_does_222 : decode cX6_does 222 = .ok (.aload_n 0, 1) := by decide +kernel
theorem dX6_does_223 : decode cX6_does 223 = .ok (.getfield 91, 3) := by decide +kernel
theorem dX6_does_226 : decode cX6_does 226 = .ok (.isub, 1) := by decide +kernel
theorem dX6_does_227 : decode cX6_does 227 = .ok (.iastore, 1) := by decide +kernel
theorem dX6_does_228 : decode cX6_does 228 = .ok (.aload_n 0, 1) := by decide +kernel
theorem dX6_does_229 : decode cX6_does 229 = .ok (.getfield 29, 3) := by decide +kernel
theorem dX6_does_232 : decode cX6_does 232 = .ok (.iload_n 3, 1) := by decide +kernel
theorem dX6_does_233 : decode cX6_does 233 = .ok (.dup2, 1) := by decide +kernel
theorem dX6_does_234 : decode cX6_does 234 = .ok (.iaload, 1) := by decide +kernel
theorem dX6_does_235 : decode cX6_does 235 = .ok (.aload_n 0, 1) := by decide +kernel
theorem dX6_does_236 : decode cX6_does 236 = .ok (.getfield 91, 3) := by decide +kernel
theorem dX6_does_239 : decode cX6_does 239 = .ok (.iadd, 1) := by decide +kernel
theorem dX6_does_240 : decode cX6_does 240 = .ok (.iastore, 1) := by decide +kernel
theorem dX6_does_241 : decode cX6_does 241 = .ok (.aload_n 0, 1) := by decide +kernel
theorem dX6_does_242 : decode cX6_does 242 = .ok (.getfield 91, 3) := by decide +kernel
theorem dX6_does_245 : decode cX6_does 245 = .ok (.ifCond .le 7, 3) := by decide +kernel
theorem dX6_does_248 : decode cX6_does 248 = .ok (.iconst 1, 1) := by decide +kernel
theorem dX6_does_249 : decode cX6_does 249 = .ok (.goto 4, 3) := by decide +kernel
theorem dX6_does_252 : decode cX6_does 252 = .ok (.iconst 0, 1) := by decide +kernel
theorem dX6_does_253 : decode cX6_does 253 = .ok (.ireturn, 1) := by decide +kernel
set_option maxRecDepth 20000 in
theorem ggX6_act_X6_in : GoodIn wsX6_act wsX6_in := goodIn_r _ [8] (by decide +kernel) (by decide +kernel)
set_option maxRecDepth 20000 in
theorem gX6_act_X6_in : GoodIn wsX6_act (va_wsS RX6 71 yX6_in wsX6_in) := goodIn_app (goodIn_of _ (by decide +kernel)) ggX6_act_X6_in
set_option maxRecDepth 20000 in
theorem ggX6_act_X6_isJug : GoodIn wsX6_act wsX6_isJug := goodIn_r _ [12, 1, 5, 6, 7, 8, 29, 30, 31, 32, 33, 34, 35, 36, 37, 38, 39, 40, 41, 42, 43, 44, 45, 46, 47, 48, 49, 50, 51, 52, 53, 54, 55, 56] (by decide +kernel) (by decide +kernel)
set_option maxRecDepth 20000 in
theorem gX6_act_X6_isJug : GoodIn wsX6_act (wsV RX6 75 RX6 yX6_isJug wsX6_isJug) := goodIn_app (goodIn_of _ (by decide +kernel)) ggX6_act_X6_isJug
set_option maxRecDepth 20000 in
theorem ggX6_act_X6_tryOwn : GoodIn wsX6_act wsX6_tryOwn := goodIn_r _ [16, 1, 17, 18, 19, 20, 21, 22, 23, 3, 2, 29, 30, 31, 32, 33, 34, 35, 36, 37, 38, 39, 40, 41, 42, 43, 44, 45, 46, 47, 48, 49, 50, 51, 52, 53, 54, 55, 56] (by decide +kernel) (by decide +kernel)
set_option maxRecDepth 20000 in
theorem gX6_act_X6_tryOwn : GoodIn wsX6_act (wsV RX6 94 RX6 yX6_tryOwn wsX6_tryOwn) := goodIn_app (goodIn_of _ (by decide +kernel)) ggX6_act_X6_tryOwn
set_option maxRecDepth 20000 in
theorem ggX6_act_X6_does : GoodIn wsX6_act wsX6_does := goodIn_r _ [27, 17, 28, 19, 22, 3, 4, 21, 29, 30, 31, 32, 33, 34, 35, 36, 37, 38, 39, 40, 41, 42, 43, 44, 45, 46, 47, 48, 49, 50, 51, 52, 53, 54, 55, 56] (by decide +kernel) (by decide +kernel)
set_option maxRecDepth 20000 in
theorem gX6_act_X6_does : GoodIn wsX6_act (wsV RX6 97 RX6 yX6_does wsX6_does) := goodIn_app (goodIn_of _ (by decide +kernel)) ggX6_act_X6_does
theorem dX6_act_0 : decode cX6_act 0 = .ok (.iload_n 1, 1) := by decide +kernel
theorem dX6_act_1 : decode cX6_act 1 = .ok (.bipush 8, 2) := by decide +kernel
theorem dX6_act_3 : decode cX6_act 3 = .ok (.if_icmp .ge 9, 3) := by decide +kernel
theorem dX6_act_6 : decode cX6_act 6 = .ok (.iload_n 1, 1) := by decide +kernel
theorem dX6_act_7 : decode cX6_act 7 = .ok (.iconst 4, 1) := by decide +kernel
theorem dX6_act_8 : decode cX6_act 8 = .ok (.irem, 1) := by decide +kernel
theorem dX6_act_9 : decode cX6_act 9 = .ok (.goto 9, 3) := by decide +kernel
theorem dX6_act_12 : decode cX6_act 12 = .ok (.iload_n 1, 1) := by decide +kernel
theorem dX6_act_13 : decode cX6_act 13 = .ok (.bipush 8, 2) := by decide +kernel
theorem dX6_act_15 : decode cX6_act 15 = .ok (.isub, 1) := by decide +kernel
theorem dX6_act_16 : decode cX6_act 16 = .ok (.iconst 4, 1) := by decide +kernel
theorem dX6_act_17 : decode cX6_act 17 = .ok (.idiv, 1) := by decide +kernel
theorem dX6_act_18 : decode cX6_act 18 = .ok (.istore_n 2, 1) := by decide +kernel
theorem dX6_act_19 : decode cX6_act 19 = .ok (.iload_n 1, 1) := by decide +kernel
theorem dX6_act_20 : decode cX6_act 20 = .ok (.bipush 8, 2) := by decide +kernel
theorem dX6_act_22 : decode cX6_act 22 = .ok (.if_icmp .ge 7, 3) := by decide +kernel
theorem dX6_act_25 : decode cX6_act 25 = .ok (.iload_n 2, 1) := by decide +kernel
theorem dX6_act_26 : decode cX6_act 26 = .ok (.goto 6, 3) := by decide +kernel
theorem dX6_act_29 : decode cX6_act 29 = .ok (.iload_n 1, 1) := by decide +kernel
theorem dX6_act_30 : decode cX6_act 30 = .ok (.iconst 4, 1) := by decide +kernel
theorem dX6_act_31 : decode cX6_act 31 = .ok (.irem, 1) := by decide +kernel
theorem dX6_act_32 : decode cX6_act 32 = .ok (.istore_n 3, 1) := by decide +kernel
theorem dX6_act_33 : decode cX6_act 33 = .ok (.iload_n 1, 1) := by decide +kernel
theorem dX6_act_34 : decode cX6_act 34 = .ok (.iconst 0, 1) := by decide +kernel
theorem dX6_act_35 : decode cX6_act 35 = .ok (.bipush 23, 2) := by decide +kernel
theorem dX6_act_37 : decode cX6_act 37 = .ok (.invokestatic 71, 3) := by decide +kernel
theorem dX6_act_40 : decode cX6_act 40 = .ok (.ifCond .eq 30, 3) := by decide +kernel
theorem dX6_act_43 : decode cX6_act 43 = .ok (.aload_n 0, 1) := by decide +kernel
theorem dX6_act_44 : decode cX6_act 44 = .ok (.iload_n 2, 1) := by decide +kernel
theorem dX6_act_45 : decode cX6_act 45 = .ok (.invokevirtual 75, 3) := by decide +kernel
theorem dX6_act_48 : decode cX6_act 48 = .ok (.ifCond .eq 22, 3) := by decide +kernel
theorem dX6_act_51 : decode cX6_act 51 = .ok (.aload_n 0, 1) := by decide +kernel
theorem dX6_act_52 : decode cX6_act 52 = .ok (.iload_n 3, 1) := by decide +kernel
theorem dX6_act_53 : decode cX6_act 53 = .ok (.invokevirtual 75, 3) := by decide +kernel
theorem dX6_act_56 : decode cX6_act 56 = .ok (.ifCond .eq 14, 3) := by decide +kernel
theorem dX6_act_59 : decode cX6_act 59 = .ok (.iload_n 1, 1) := by decide +kernel
theorem dX6_act_60 : decode cX6_act 60 = .ok (.bipush 8, 2) := by decide +kernel
theorem dX6_act_62 : decode cX6_act 62 = .ok (.if_icmp .lt 11, 3) := by decide +kernel
theorem dX6_act_65 : decode cX6_act 65 = .ok (.iload_n 2, 1) := by decide +kernel
theorem dX6_act_66 : decode cX6_act 66 = .ok (.iload_n 3, 1) := by decide +kernel
theorem dX6_act_67 : decode cX6_act 67 = .ok (.if_icmp .ne 6, 3) := by decide +kernel
theorem dX6_act_70 : decode cX6_act 70 = .ok (.bipush (-2), 2) := by decide +kernel
theorem dX6_act_72 : decode cX6_act 72 = .ok (.ireturn, 1) := by decide +kernel
theorem dX6_act_73 : decode cX6_act 73 = .ok (.aload_n 0, 1) := by decide +kernel
theorem dX6_act_74 : decode cX6_act 74 = .ok (.invokevirtual 94, 3) := by decide +kernel
theorem dX6_act_77 : decode cX6_act 77 = .ok (.aload_n 0, 1) := by decide +kernel
theorem dX6_act_78 : decode cX6_act 78 = .ok (.iload_n 1, 1) := by decide +kernel
theorem dX6_act_79 : decode cX6_act 79 = .ok (.invokevirtual 97, 3) := by decide +kernel
theorem dX6_act_82 : decode cX6_act 82 = .ok (.ifCond .ne 6, 3) := by decide +kernel
theorem dX6_act_85 : decode cX6_act 85 = .ok (.bipush (-3), 2) := by decide +kernel
theorem dX6_act_87 : decode cX6_act 87 = .ok (.ireturn, 1) := by decide +kernel
theorem dX6_act_88 : decode cX6_act 88 = .ok (.iconst 0, 1) := by decide +kernel
theorem dX6_act_89 : decode cX6_act 89 = .ok (.istore 4, 2) := by decide +kernel
theorem dX6_act_91 : decode cX6_act 91 = .ok (.iload 4, 2) := by decide +kernel
theorem dX6_act_93 : decode cX6_act 93 = .ok (.aload_n 0, 1) := by decide +kernel
theorem dX6_act_94 : decode cX6_act 94 = .ok (.getfield 67, 3) := by decide +kernel
theorem dX6_act_97 : decode cX6_act 97 = .ok (.if_icmp .ge 23, 3) := by decide +kernel
theorem dX6_act_100 : decode cX6_act 100 = .ok (.aload_n 0, 1) := by decide +kernel
theorem dX6_act_101 : decode cX6_act 101 = .ok (.getfield 13, 3) := by decide +kernel
theorem dX6_act_104 : decode cX6_act 104 = .ok (.iload 4, 2) := by decide +kernel
theorem dX6_act_106 : decode cX6_act 106 = .ok (.aload_n 0, 1) := by decide +kernel
theorem dX6_act_107 : decode cX6_act 107 = .ok (.getfield 29, 3) := by decide +kernel
theorem dX6_act_110 : decode cX6_act 110 = .ok (.iload 4, 2) := by decide +kernel
theorem dX6_act_112 : decode cX6_act 112 = .ok (.iaload, 1) := by decide +kernel
theorem dX6_act_113 : decode cX6_act 113 = .ok (.iastore, 1) := by decide +kernel
theorem dX6_act_114 : decode cX6_act 114 = .ok (.iinc 4 1, 3) := by decide +kernel
theorem dX6_act_117 : decode cX6_act 117 = .ok (.goto (-26), 3) := by decide +kernel
theorem dX6_act_120 : decode cX6_act 120 = .ok (.aload_n 0, 1) := by decide +kernel
theorem dX6_act_121 : decode cX6_act 121 = .ok (.getfield 91, 3) := by decide +kernel
theorem dX6_act_124 : decode cX6_act 124 = .ok (.ireturn, 1) := by decide +kernel
set_option maxRecDepth 20000 in
theorem ggX6_layActs_X6_stateMany : GoodIn wsX6_layActs wsX6_stateMany := goodIn_r _ [8, 9, 10, 27, 28, 29, 30, 31, 32, 33, 34, 35, 36, 37, 38, 39, 40, 41, 42, 43, 44, 45, 46, 47, 48, 49, 50, 51, 52, 53, 54] (by decide +kernel) (by decide +kernel)
set_option maxRecDepth 20000 in
theorem gX6_layActs_X6_stateMany : GoodIn wsX6_layActs (wsV RX6 100 RX6 yX6_stateMany wsX6_stateMany) := goodIn_app (goodIn_of _ (by decide +kernel)) ggX6_layActs_X6_stateMany
set_option maxRecDepth 20000 in
theorem ggX6_layActs_X6_layState : GoodIn wsX6_layActs wsX6_layState := goodIn_r _ [14, 9, 15, 10, 27, 28, 29, 30, 31, 32, 33, 34, 35, 36, 37, 38, 39, 40, 41, 42, 43, 44, 45, 46, 47, 48, 49, 50, 51, 52, 53, 54] (by decide +kernel) (by decide +kernel)
set_option maxRecDepth 20000 in
theorem gX6_layActs_X6_layState : GoodIn wsX6_layActs (wsV RX6 104 RX6 yX6_layState wsX6_layState) := goodIn_app (goodIn_of _ (by decide +kernel)) ggX6_layActs_X6_layState
set_option maxRecDepth 20000 in
theorem ggX6_layActs_X6_does : GoodIn wsX6_layActs wsX6_does := goodIn_r _ [19, 9, 3, 20, 10, 15, 21, 22, 27, 28, 29, 30, 31, 32, 33, 34, 35, 36, 37, 38, 39, 40, 41, 42, 43, 44, 45, 46, 47, 48, 49, 50, 51, 52, 53, 54] (by decide +kernel) (by decide +kernel)
set_option maxRecDepth 20000 in
theorem gX6_layActs_X6_does : GoodIn wsX6_layActs (wsV RX6 97 RX6 yX6_does wsX6_does) := goodIn_app (goodIn_of _ (by decide +kernel)) ggX6_layActs_X6_does
set_option maxRecDepth 20000 in
theorem ggX6_layActs_X6_numberOf : GoodIn wsX6_layActs wsX6_numberOf := goodIn_r _ [26, 9, 10, 15, 27, 28, 29, 30, 31, 32, 33, 34, 35, 36, 37, 38, 39, 40, 41, 42, 43, 44, 45, 46, 47, 48, 49, 50, 51, 52, 53, 54] (by decide +kernel) (by decide +kernel)
set_option maxRecDepth 20000 in
theorem gX6_layActs_X6_numberOf : GoodIn wsX6_layActs (wsV RX6 108 RX6 yX6_numberOf wsX6_numberOf) := goodIn_app (goodIn_of _ (by decide +kernel)) ggX6_layActs_X6_numberOf
theorem dX6_layActs_0 : decode cX6_layActs 0 = .ok (.aload_n 0, 1) := by decide +kernel
theorem dX6_layActs_1 : decode cX6_layActs 1 = .ok (.invokevirtual 100, 3) := by decide +kernel
theorem dX6_layActs_4 : decode cX6_layActs 4 = .ok (.istore_n 1, 1) := by decide +kernel
theorem dX6_layActs_5 : decode cX6_layActs 5 = .ok (.iconst 0, 1) := by decide +kernel
theorem dX6_layActs_6 : decode cX6_layActs 6 = .ok (.istore_n 2, 1) := by decide +kernel
theorem dX6_layActs_7 : decode cX6_layActs 7 = .ok (.iload_n 2, 1) := by decide +kernel
theorem dX6_layActs_8 : decode cX6_layActs 8 = .ok (.iload_n 1, 1) := by decide +kernel
theorem dX6_layActs_9 : decode cX6_layActs 9 = .ok (.if_icmp .ge 83, 3) := by decide +kernel
theorem dX6_layActs_12 : decode cX6_layActs 12 = .ok (.iconst 0, 1) := by decide +kernel
theorem dX6_layActs_13 : decode cX6_layActs 13 = .ok (.istore_n 3, 1) := by decide +kernel
theorem dX6_layActs_14 : decode cX6_layActs 14 = .ok (.iload_n 3, 1) := by decide +kernel
theorem dX6_layActs_15 : decode cX6_layActs 15 = .ok (.bipush 24, 2) := by decide +kernel
theorem dX6_layActs_17 : decode cX6_layActs 17 = .ok (.if_icmp .ge 69, 3) := by decide +kernel
theorem dX6_layActs_20 : decode cX6_layActs 20 = .ok (.aload_n 0, 1) := by decide +kernel
theorem dX6_layActs_21 : decode cX6_layActs 21 = .ok (.iload_n 2, 1) := by decide +kernel
theorem dX6_layActs_22 : decode cX6_layActs 22 = .ok (.invokevirtual 104, 3) := by decide +kernel
theorem dX6_layActs_25 : decode cX6_layActs 25 = .ok (.aload_n 0, 1) := by decide +kernel
theorem dX6_layActs_26 : decode cX6_layActs 26 = .ok (.iload_n 3, 1) := by decide +kernel
theorem dX6_layActs_27 : decode cX6_layActs 27 = .ok (.invokevirtual 97, 3) := by decide +kernel
theorem dX6_layActs_30 : decode cX6_layActs 30 = .ok (.istore 4, 2) := by decide +kernel
theorem dX6_layActs_32 : decode cX6_layActs 32 = .ok (.aload_n 0, 1) := by decide +kernel
theorem dX6_layActs_33 : decode cX6_layActs 33 = .ok (.getfield 33, 3) := by decide +kernel
theorem dX6_layActs_36 : decode cX6_layActs 36 = .ok (.bipush 24, 2) := by decide +kernel
theorem dX6_layActs_38 : decode cX6_layActs 38 = .ok (.iload_n 2, 1) := by decide +kernel
theorem dX6_layActs_39 : decode cX6_layActs 39 = .ok (.imul, 1) := by decide +kernel
theorem dX6_layActs_40 : decode cX6_layActs 40 = .ok (.iload_n 3, 1) := by decide +kernel
theorem dX6_layActs_41 : decode cX6_layActs 41 = .ok (.iadd, 1) := by decide +kernel
theorem dX6_layActs_42 : decode cX6_layActs 42 = .ok (.iload 4, 2) := by decide +kernel
theorem dX6_layActs_44 : decode cX6_layActs 44 = .ok (.ifCond .eq 10, 3) := by decide +kernel
theorem dX6_layActs_47 : decode cX6_layActs 47 = .ok (.aload_n 0, 1) := by decide +kernel
theorem dX6_layActs_48 : decode cX6_layActs 48 = .ok (.invokevirtual 108, 3) := by decide +kernel
theorem dX6_layActs_51 : decode cX6_layActs 51 = .ok (.goto 4, 3) := by decide +kernel
theorem dX6_layActs_54 : decode cX6_layActs 54 = .ok (.iconst (-1), 1) := by decide +kernel
theorem dX6_layActs_55 : decode cX6_layActs 55 = .ok (.iastore, 1) := by decide +kernel
theorem dX6_layActs_56 : decode cX6_layActs 56 = .ok (.aload_n 0, 1) := by decide +kernel
theorem dX6_layActs_57 : decode cX6_layActs 57 = .ok (.getfield 36, 3) := by decide +kernel
theorem dX6_layActs_60 : decode cX6_layActs 60 = .ok (.bipush 24, 2) := by decide +kernel
theorem dX6_layActs_62 : decode cX6_layActs 62 = .ok (.iload_n 2, 1) := by decide +kernel
theorem dX6_layActs_63 : decode cX6_layActs 63 = .ok (.imul, 1) := by decide +kernel
theorem dX6_layActs_64 : decode cX6_layActs 64 = .ok (.iload_n 3, 1) := by decide +kernel
theorem dX6_layActs_65 : decode cX6_layActs 65 = .ok (.iadd, 1) := by decide +kernel
theorem dX6_layActs_66 : decode cX6_layActs 66 = .ok (.iload 4, 2) := by decide +kernel
theorem dX6_layActs_68 : decode cX6_layActs 68 = .ok (.ifCond .eq 10, 3) := by decide +kernel
theorem dX6_layActs_71 : decode cX6_layActs 71 = .ok (.aload_n 0, 1) := by decide +kernel
theorem dX6_layActs_72 : decode cX6_layActs 72 = .ok (.getfield 88, 3) := by decide +kernel
theorem dX6_layActs_75 : decode cX6_layActs 75 = .ok (.goto 4, 3) := by decide +kernel
theorem dX6_layActs_78 : decode cX6_layActs 78 = .ok (.iconst 0, 1) := by decide +kernel
theorem dX6_layActs_79 : decode cX6_layActs 79 = .ok (.iastore, 1) := by decide +kernel
theorem dX6_layActs_80 : decode cX6_layActs 80 = .ok (.iinc 3 1, 3) := by decide +kernel
theorem dX6_layActs_83 : decode cX6_layActs 83 = .ok (.goto (-69), 3) := by decide +kernel
theorem dX6_layActs_86 : decode cX6_layActs 86 = .ok (.iinc 2 1, 3) := by decide +kernel
theorem dX6_layActs_89 : decode cX6_layActs 89 = .ok (.goto (-82), 3) := by decide +kernel
theorem dX6_layActs_92 : decode cX6_layActs 92 = .ok (.return_, 1) := by decide +kernel
set_option maxRecDepth 20000 in
theorem ggX6_isMade_X6_layState : GoodIn wsX6_isMade wsX6_layState := goodIn_r _ [7, 1, 2, 8, 9, 10, 11, 12, 13, 14, 15, 16, 17, 18, 19, 20, 21, 22, 23, 24, 25, 26, 27, 28, 29, 30, 31, 32, 33, 34, 35, 36] (by decide +kernel) (by decide +kernel)
set_option maxRecDepth 20000 in
theorem gX6_isMade_X6_layState : GoodIn wsX6_isMade (wsV RX6 104 RX6 yX6_layState wsX6_layState) := goodIn_app (goodIn_of _ (by decide +kernel)) ggX6_isMade_X6_layState
theorem dX6_isMade_0 : decode cX6_isMade 0 = .ok (.aload_n 0, 1) := by decide +kernel
theorem dX6_isMade_1 : decode cX6_isMade 1 = .ok (.iload_n 1, 1) := by decide +kernel
theorem dX6_isMade_2 : decode cX6_isMade 2 = .ok (.invokevirtual 104, 3) := by decide +kernel
theorem dX6_isMade_5 : decode cX6_isMade 5 = .ok (.iconst 0, 1) := by decide +kernel
theorem dX6_isMade_6 : decode cX6_isMade 6 = .ok (.istore 4, 2) := by decide +kernel
theorem dX6_isMade_8 : decode cX6_isMade 8 = .ok (.iconst 0, 1) := by decide +kernel
theorem dX6_isMade_9 : decode cX6_isMade 9 = .ok (.istore 5, 2) := by decide +kernel
theorem dX6_isMade_11 : decode cX6_isMade 11 = .ok (.iload 5, 2) := by decide +kernel
theorem dX6_isMade_13 : decode cX6_isMade 13 = .ok (.aload_n 0, 1) := by decide +kernel
theorem dX6_isMade_14 : decode cX6_isMade 14 = .ok (.getfield 79, 3) := by decide +kernel
theorem dX6_isMade_17 : decode cX6_isMade 17 = .ok (.if_icmp .ge 43, 3) := by decide +kernel
theorem dX6_isMade_20 : decode cX6_isMade 20 = .ok (.iload 4, 2) := by decide +kernel
theorem dX6_isMade_22 : decode cX6_isMade 22 = .ok (.ifCond .ne 25, 3) := by decide +kernel
theorem dX6_isMade_25 : decode cX6_isMade 25 = .ok (.iload_n 2, 1) := by decide +kernel
theorem dX6_isMade_26 : decode cX6_isMade 26 = .ok (.iconst (-1), 1) := by decide +kernel
theorem dX6_isMade_27 : decode cX6_isMade 27 = .ok (.if_icmp .eq 9, 3) := by decide +kernel
theorem dX6_isMade_30 : decode cX6_isMade 30 = .ok (.iload_n 2, 1) := by decide +kernel
theorem dX6_isMade_31 : decode cX6_isMade 31 = .ok (.iload 5, 2) := by decide +kernel
theorem dX6_isMade_33 : decode cX6_isMade 33 = .ok (.if_icmp .ne 18, 3) := by decide +kernel
theorem dX6_isMade_36 : decode cX6_isMade 36 = .ok (.aload_n 0, 1) := by decide +kernel
theorem dX6_isMade_37 : decode cX6_isMade 37 = .ok (.getfield 29, 3) := by decide +kernel
theorem dX6_isMade_40 : decode cX6_isMade 40 = .ok (.iload 5, 2) := by decide +kernel
theorem dX6_isMade_42 : decode cX6_isMade 42 = .ok (.iaload, 1) := by decide +kernel
theorem dX6_isMade_43 : decode cX6_isMade 43 = .ok (.iload_n 3, 1) := by decide +kernel
theorem dX6_isMade_44 : decode cX6_isMade 44 = .ok (.if_icmp .ne 7, 3) := by decide +kernel
theorem dX6_isMade_47 : decode cX6_isMade 47 = .ok (.iconst 1, 1) := by decide +kernel
theorem dX6_isMade_48 : decode cX6_isMade 48 = .ok (.goto 4, 3) := by decide +kernel
theorem dX6_isMade_51 : decode cX6_isMade 51 = .ok (.iconst 0, 1) := by decide +kernel
theorem dX6_isMade_52 : decode cX6_isMade 52 = .ok (.istore 4, 2) := by decide +kernel
theorem dX6_isMade_54 : decode cX6_isMade 54 = .ok (.iinc 5 1, 3) := by decide +kernel
theorem dX6_isMade_57 : decode cX6_isMade 57 = .ok (.goto (-46), 3) := by decide +kernel
theorem dX6_isMade_60 : decode cX6_isMade 60 = .ok (.iload 4, 2) := by decide +kernel
theorem dX6_isMade_62 : decode cX6_isMade 62 = .ok (.ireturn, 1) := by decide +kernel
theorem dX6_costBy_0 : decode cX6_costBy 0 = .ok (.aload_n 0, 1) := by decide +kernel
theorem dX6_costBy_1 : decode cX6_costBy 1 = .ok (.getfield 33, 3) := by decide +kernel
theorem dX6_costBy_4 : decode cX6_costBy 4 = .ok (.bipush 24, 2) := by decide +kernel
theorem dX6_costBy_6 : decode cX6_costBy 6 = .ok (.iload_n 1, 1) := by decide +kernel
theorem dX6_costBy_7 : decode cX6_costBy 7 = .ok (.imul, 1) := by decide +kernel
theorem dX6_costBy_8 : decode cX6_costBy 8 = .ok (.iload_n 2, 1) := by decide +kernel
theorem dX6_costBy_9 : decode cX6_costBy 9 = .ok (.iadd, 1) := by decide +kernel
theorem dX6_costBy_10 : decode cX6_costBy 10 = .ok (.iaload, 1) := by decide +kernel
theorem dX6_costBy_11 : decode cX6_costBy 11 = .ok (.istore 4, 2) := by decide +kernel
theorem dX6_costBy_13 : decode cX6_costBy 13 = .ok (.iload 4, 2) := by decide +kernel
theorem dX6_costBy_15 : decode cX6_costBy 15 = .ok (.iconst (-1), 1) := by decide +kernel
theorem dX6_costBy_16 : decode cX6_costBy 16 = .ok (.if_icmp .eq 15, 3) := by decide +kernel
theorem dX6_costBy_19 : decode cX6_costBy 19 = .ok (.aload_n 0, 1) := by decide +kernel
theorem dX6_costBy_20 : decode cX6_costBy 20 = .ok (.getfield 39, 3) := by decide +kernel
theorem dX6_costBy_23 : decode cX6_costBy 23 = .ok (.iload 4, 2) := by decide +kernel
theorem dX6_costBy_25 : decode cX6_costBy 25 = .ok (.iaload, 1) := by decide +kernel
theorem dX6_costBy_26 : decode cX6_costBy 26 = .ok (.ldc 111, 2) := by decide +kernel
theorem dX6_costBy_28 : decode cX6_costBy 28 = .ok (.if_icmp .ne 8, 3) := by decide +kernel
theorem dX6_costBy_31 : decode cX6_costBy 31 = .ok (.ldc 111, 2) := by decide +kernel
theorem dX6_costBy_33 : decode cX6_costBy 33 = .ok (.goto 26, 3) := by decide +kernel
theorem dX6_costBy_36 : decode cX6_costBy 36 = .ok (.aload_n 0, 1) := by decide +kernel
theorem dX6_costBy_37 : decode cX6_costBy 37 = .ok (.getfield 39, 3) := by decide +kernel
theorem dX6_costBy_40 : decode cX6_costBy 40 = .ok (.iload 4, 2) := by decide +kernel
theorem dX6_costBy_42 : decode cX6_costBy 42 = .ok (.iaload, 1) := by decide +kernel
theorem dX6_costBy_43 : decode cX6_costBy 43 = .ok (.iconst 1, 1) := by decide +kernel
theorem dX6_costBy_44 : decode cX6_costBy 44 = .ok (.iadd, 1) := by decide +kernel
theorem dX6_costBy_45 : decode cX6_costBy 45 = .ok (.iload_n 3, 1) := by decide +kernel
theorem dX6_costBy_46 : decode cX6_costBy 46 = .ok (.aload_n 0, 1) := by decide +kernel
theorem dX6_costBy_47 : decode cX6_costBy 47 = .ok (.getfield 36, 3) := by decide +kernel
theorem dX6_costBy_50 : decode cX6_costBy 50 = .ok (.bipush 24, 2) := by decide +kernel
theorem dX6_costBy_52 : decode cX6_costBy 52 = .ok (.iload_n 1, 1) := by decide +kernel
theorem dX6_costBy_53 : decode cX6_costBy 53 = .ok (.imul, 1) := by decide +kernel
theorem dX6_costBy_54 : decode cX6_costBy 54 = .ok (.iload_n 2, 1) := by decide +kernel
theorem dX6_costBy_55 : decode cX6_costBy 55 = .ok (.iadd, 1) := by decide +kernel
theorem dX6_costBy_56 : decode cX6_costBy 56 = .ok (.iaload, 1) := by decide +kernel
theorem dX6_costBy_57 : decode cX6_costBy 57 = .ok (.imul, 1) := by decide +kernel
theorem dX6_costBy_58 : decode cX6_costBy 58 = .ok (.iadd, 1) := by decide +kernel
theorem dX6_costBy_59 : decode cX6_costBy 59 = .ok (.ireturn, 1) := by decide +kernel
set_option maxRecDepth 20000 in
theorem ggX6_findCosts_X6_tryOwn : GoodIn wsX6_findCosts wsX6_tryOwn := goodIn_r _ [8, 9, 10, 11, 12, 13, 14, 15, 16, 17, 18, 51, 52, 53, 54, 55, 56, 57, 58, 59, 60, 61, 62, 63, 64, 65, 66, 67, 68, 69, 70, 71, 72, 73, 74, 75, 76, 77, 78] (by decide +kernel) (by decide +kernel)
set_option maxRecDepth 20000 in
theorem gX6_findCosts_X6_tryOwn : GoodIn wsX6_findCosts (wsV RX6 94 RX6 yX6_tryOwn wsX6_tryOwn) := goodIn_app (goodIn_of _ (by decide +kernel)) ggX6_findCosts_X6_tryOwn
set_option maxRecDepth 20000 in
theorem ggX6_findCosts_X6_numberOf : GoodIn wsX6_findCosts wsX6_numberOf := goodIn_r _ [22, 10, 15, 17, 51, 52, 53, 54, 55, 56, 57, 58, 59, 60, 61, 62, 63, 64, 65, 66, 67, 68, 69, 70, 71, 72, 73, 74, 75, 76, 77, 78] (by decide +kernel) (by decide +kernel)
set_option maxRecDepth 20000 in
theorem gX6_findCosts_X6_numberOf : GoodIn wsX6_findCosts (wsV RX6 108 RX6 yX6_numberOf wsX6_numberOf) := goodIn_app (goodIn_of _ (by decide +kernel)) ggX6_findCosts_X6_numberOf
set_option maxRecDepth 20000 in
theorem ggX6_findCosts_X6_layActs : GoodIn wsX6_findCosts wsX6_layActs := goodIn_r _ [26, 27, 28, 29, 30, 31, 32, 7, 33, 10, 15, 34, 35, 36, 37, 17, 38, 39, 40, 41, 12, 42, 14, 19, 20, 21, 22, 51, 52, 53, 54, 55, 56, 57, 58, 59, 60, 61, 62, 63, 64, 65, 66, 67, 68, 69, 70, 71, 72, 73, 74, 75, 76, 77, 78] (by decide +kernel) (by decide +kernel)
set_option maxRecDepth 20000 in
theorem gX6_findCosts_X6_layActs : GoodIn wsX6_findCosts (wsV RX6 115 RX6 yX6_layActs wsX6_layActs) := goodIn_app (goodIn_of _ (by decide +kernel)) ggX6_findCosts_X6_layActs
set_option maxRecDepth 20000 in
theorem ggX6_findCosts_X6_stateMany : GoodIn wsX6_findCosts wsX6_stateMany := goodIn_r _ [33, 10, 15, 51, 52, 53, 54, 55, 56, 57, 58, 59, 60, 61, 62, 63, 64, 65, 66, 67, 68, 69, 70, 71, 72, 73, 74, 75, 76, 77, 78] (by decide +kernel) (by decide +kernel)
set_option maxRecDepth 20000 in
theorem gX6_findCosts_X6_stateMany : GoodIn wsX6_findCosts (wsV RX6 100 RX6 yX6_stateMany wsX6_stateMany) := goodIn_app (goodIn_of _ (by decide +kernel)) ggX6_findCosts_X6_stateMany
set_option maxRecDepth 20000 in
theorem ggX6_findCosts_X6_isMade : GoodIn wsX6_findCosts wsX6_isMade := goodIn_r _ [46, 10, 17, 34, 35, 36, 7, 37, 15, 51, 52, 53, 54, 55, 56, 57, 58, 59, 60, 61, 62, 63, 64, 65, 66, 67, 68, 69, 70, 71, 72, 73, 74, 75, 76, 77, 78] (by decide +kernel) (by decide +kernel)
set_option maxRecDepth 20000 in
theorem gX6_findCosts_X6_isMade : GoodIn wsX6_findCosts (wsV RX6 118 RX6 yX6_isMade wsX6_isMade) := goodIn_app (goodIn_of _ (by decide +kernel)) ggX6_findCosts_X6_isMade
set_option maxRecDepth 20000 in
theorem ggX6_findCosts_X6_costBy : GoodIn wsX6_findCosts wsX6_costBy := goodIn_r _ [50, 27, 2, 3, 28, 51, 52, 53, 54, 55, 56, 57, 58, 59, 60, 61, 62, 63, 64, 65, 66, 67, 68, 69, 70, 71, 72, 73, 74, 75, 76, 77, 78] (by decide +kernel) (by decide +kernel)
set_option maxRecDepth 20000 in
theorem gX6_findCosts_X6_costBy : GoodIn wsX6_findCosts (wsV RX6 121 RX6 yX6_costBy wsX6_costBy) := goodIn_app (goodIn_of _ (by decide +kernel)) ggX6_findCosts_X6_costBy
theorem dX6_findCosts_0 : decode cX6_findCosts 0 = .ok (.aload_n 0, 1) := by decide +kernel
theorem dX6_findCosts_1 : decode cX6_findCosts 1 = .ok (.invokevirtual 94, 3) := by decide +kernel
theorem dX6_findCosts_4 : decode cX6_findCosts 4 = .ok (.aload_n 0, 1) := by decide +kernel
theorem dX6_findCosts_5 : decode cX6_findCosts 5 = .ok (.aload_n 0, 1) := by decide +kernel
theorem dX6_findCosts_6 : decode cX6_findCosts 6 = .ok (.invokevirtual 108, 3) := by decide +kernel
theorem dX6_findCosts_9 : decode cX6_findCosts 9 = .ok (.putfield 112, 3) := by decide +kernel
theorem dX6_findCosts_12 : decode cX6_findCosts 12 = .ok (.aload_n 0, 1) := by decide +kernel
theorem dX6_findCosts_13 : decode cX6_findCosts 13 = .ok (.invokevirtual 115, 3) := by decide +kernel
theorem dX6_findCosts_16 : decode cX6_findCosts 16 = .ok (.aload_n 0, 1) := by decide +kernel
theorem dX6_findCosts_17 : decode cX6_findCosts 17 = .ok (.invokevirtual 100, 3) := by decide +kernel
theorem dX6_findCosts_20 : decode cX6_findCosts 20 = .ok (.istore 4, 2) := by decide +kernel
theorem dX6_findCosts_22 : decode cX6_findCosts 22 = .ok (.iconst 0, 1) := by decide +kernel
theorem dX6_findCosts_23 : decode cX6_findCosts 23 = .ok (.istore 5, 2) := by decide +kernel
theorem dX6_findCosts_25 : decode cX6_findCosts 25 = .ok (.iload 5, 2) := by decide +kernel
theorem dX6_findCosts_27 : decode cX6_findCosts 27 = .ok (.iload 4, 2) := by decide +kernel
theorem dX6_findCosts_29 : decode cX6_findCosts 29 = .ok (.if_icmp .ge 33, 3) := by decide +kernel
theorem dX6_findCosts_32 : decode cX6_findCosts 32 = .ok (.aload_n 0, 1) := by decide +kernel
theorem dX6_findCosts_33 : decode cX6_findCosts 33 = .ok (.getfield 39, 3) := by decide +kernel
theorem dX6_findCosts_36 : decode cX6_findCosts 36 = .ok (.iload 5, 2) := by decide +kernel
theorem dX6_findCosts_38 : decode cX6_findCosts 38 = .ok (.aload_n 0, 1) := by decide +kernel
theorem dX6_findCosts_39 : decode cX6_findCosts 39 = .ok (.iload 5, 2) := by decide +kernel
theorem dX6_findCosts_41 : decode cX6_findCosts 41 = .ok (.iload_n 1, 1) := by decide +kernel
theorem dX6_findCosts_42 : decode cX6_findCosts 42 = .ok (.iload_n 2, 1) := by decide +kernel
theorem dX6_findCosts_43 : decode cX6_findCosts 43 = .ok (.invokevirtual 118, 3) := by decide +kernel
theorem dX6_findCosts_46 : decode cX6_findCosts 46 = .ok (.ifCond .eq 7, 3) := by decide +kernel
theorem dX6_findCosts_49 : decode cX6_findCosts 49 = .ok (.iconst 0, 1) := by decide +kernel
theorem dX6_findCosts_50 : decode cX6_findCosts 50 = .ok (.goto 5, 3) := by decide +kernel
theorem dX6_findCosts_53 : decode cX6_findCosts 53 = .ok (.ldc 111, 2) := by decide +kernel
theorem dX6_findCosts_55 : decode cX6_findCosts 55 = .ok (.iastore, 1) := by decide +kernel
theorem dX6_findCosts_56 : decode cX6_findCosts 56 = .ok (.iinc 5 1, 3) := by decide +kernel
theorem dX6_findCosts_59 : decode cX6_findCosts 59 = .ok (.goto (-34), 3) := by decide +kernel
theorem dX6_findCosts_62 : decode cX6_findCosts 62 = .ok (.iconst 1, 1) := by decide +kernel
theorem dX6_findCosts_63 : decode cX6_findCosts 63 = .ok (.istore 5, 2) := by decide +kernel
theorem dX6_findCosts_65 : decode cX6_findCosts 65 = .ok (.iload 5, 2) := by decide +kernel
theorem dX6_findCosts_67 : decode cX6_findCosts 67 = .ok (.ifCond .eq 76, 3) := by decide +kernel
theorem dX6_findCosts_70 : decode cX6_findCosts 70 = .ok (.iconst 0, 1) := by decide +kernel
theorem dX6_findCosts_71 : decode cX6_findCosts 71 = .ok (.istore 5, 2) := by decide +kernel
theorem dX6_findCosts_73 : decode cX6_findCosts 73 = .ok (.iconst 0, 1) := by decide +kernel
theorem dX6_findCosts_74 : decode cX6_findCosts 74 = .ok (.istore 6, 2) := by decide +kernel
theorem dX6_findCosts_76 : decode cX6_findCosts 76 = .ok (.iload 6, 2) := by decide +kernel
theorem dX6_findCosts_78 : decode cX6_findCosts 78 = .ok (.iload 4, 2) := by decide +kernel
theorem dX6_findCosts_80 : decode cX6_findCosts 80 = .ok (.if_icmp .ge 60, 3) := by decide +kernel
theorem dX6_findCosts_83 : decode cX6_findCosts 83 = .ok (.iconst 0, 1) := by decide +kernel
theorem dX6_findCosts_84 : decode cX6_findCosts 84 = .ok (.istore 7, 2) := by decide +kernel
theorem dX6_findCosts_86 : decode cX6_findCosts 86 = .ok (.iload 7, 2) := by decide +kernel
theorem dX6_findCosts_88 : decode cX6_findCosts 88 = .ok (.bipush 24, 2) := by decide +kernel
theorem dX6_findCosts_90 : decode cX6_findCosts 90 = .ok (.if_icmp .ge 44, 3) := by decide +kernel
theorem dX6_findCosts_93 : decode cX6_findCosts 93 = .ok (.aload_n 0, 1) := by decide +kernel
theorem dX6_findCosts_94 : decode cX6_findCosts 94 = .ok (.iload 6, 2) := by decide +kernel
theorem dX6_findCosts_96 : decode cX6_findCosts 96 = .ok (.iload 7, 2) := by decide +kernel
theorem dX6_findCosts_98 : decode cX6_findCosts 98 = .ok (.iload_n 3, 1) := by decide +kernel
theorem dX6_findCosts_99 : decode cX6_findCosts 99 = .ok (.invokevirtual 121, 3) := by decide +kernel
theorem dX6_findCosts_102 : decode cX6_findCosts 102 = .ok (.istore 8, 2) := by decide +kernel
theorem dX6_findCosts_104 : decode cX6_findCosts 104 = .ok (.iload 8, 2) := by decide +kernel
theorem dX6_findCosts_106 : decode cX6_findCosts 106 = .ok (.aload_n 0, 1) := by decide +kernel
theorem dX6_findCosts_107 : decode cX6_findCosts 107 = .ok (.getfield 39, 3) := by decide +kernel
theorem dX6_findCosts_110 : decode cX6_findCosts 110 = .ok (.iload 6, 2) := by decide +kernel
theorem dX6_findCosts_112 : decode cX6_findCosts 112 = .ok (.iaload, 1) := by decide +kernel
theorem dX6_findCosts_113 : decode cX6_findCosts 113 = .ok (.if_icmp .ge 15, 3) := by decide +kernel
theorem dX6_findCosts_116 : decode cX6_findCosts 116 = .ok (.aload_n 0, 1) := by decide +kernel
theorem dX6_findCosts_117 : decode cX6_findCosts 117 = .ok (.getfield 39, 3) := by decide +kernel
theorem dX6_findCosts_120 : decode cX6_findCosts 120 = .ok (.iload 6, 2) := by decide +kernel
theorem dX6_findCosts_122 : decode cX6_findCosts 122 = .ok (.iload 8, 2) := by decide +kernel
theorem dX6_findCosts_124 : decode cX6_findCosts 124 = .ok (.iastore, 1) := by decide +kernel
theorem dX6_findCosts_125 : decode cX6_findCosts 125 = .ok (.iconst 1, 1) := by decide +kernel
theorem dX6_findCosts_126 : decode cX6_findCosts 126 = .ok (.istore 5, 2) := by decide +kernel
theorem dX6_findCosts_128 : decode cX6_findCosts 128 = .ok (.iinc 7 1, 3) := by decide +kernel
theorem dX6_findCosts_131 : decode cX6_findCosts 131 = .ok (.goto (-45), 3) := by decide +kernel
theorem dX6_findCosts_134 : decode cX6_findCosts 134 = .ok (.iinc 6 1, 3) := by decide +kernel
theorem dX6_findCosts_137 : decode cX6_findCosts 137 = .ok (.goto (-61), 3) := by decide +kernel
theorem dX6_findCosts_140 : decode cX6_findCosts 140 = .ok (.goto (-75), 3) := by decide +kernel
theorem dX6_findCosts_143 : decode cX6_findCosts 143 = .ok (.return_, 1) := by decide +kernel
set_option maxRecDepth 20000 in
theorem ggX6_isAim_X6_isJug : GoodIn wsX6_isAim wsX6_isJug := goodIn_r _ [5, 6, 7, 8, 4, 9, 10, 11, 12, 13, 14, 15, 16, 17, 18, 19, 20, 21, 22, 23, 24, 25, 26, 27, 28, 29, 30, 31, 32, 33, 34, 35, 36, 37] (by decide +kernel) (by decide +kernel)
set_option maxRecDepth 20000 in
theorem gX6_isAim_X6_isJug : GoodIn wsX6_isAim (wsV RX6 75 RX6 yX6_isJug wsX6_isJug) := goodIn_app (goodIn_of _ (by decide +kernel)) ggX6_isAim_X6_isJug
set_option maxRecDepth 20000 in
theorem ggX6_isAim_X6_in : GoodIn wsX6_isAim wsX6_in := goodIn_r _ [9] (by decide +kernel) (by decide +kernel)
set_option maxRecDepth 20000 in
theorem gX6_isAim_X6_in : GoodIn wsX6_isAim (va_wsS RX6 71 yX6_in wsX6_in) := goodIn_app (goodIn_of _ (by decide +kernel)) ggX6_isAim_X6_in
theorem dX6_isAim_0 : decode cX6_isAim 0 = .ok (.iload_n 1, 1) := by decide +kernel
theorem dX6_isAim_1 : decode cX6_isAim 1 = .ok (.iconst (-1), 1) := by decide +kernel
theorem dX6_isAim_2 : decode cX6_isAim 2 = .ok (.if_icmp .eq 11, 3) := by decide +kernel
theorem dX6_isAim_5 : decode cX6_isAim 5 = .ok (.aload_n 0, 1) := by decide +kernel
theorem dX6_isAim_6 : decode cX6_isAim 6 = .ok (.iload_n 1, 1) := by decide +kernel
theorem dX6_isAim_7 : decode cX6_isAim 7 = .ok (.invokevirtual 75, 3) := by decide +kernel
theorem dX6_isAim_10 : decode cX6_isAim 10 = .ok (.ifCond .eq 17, 3) := by decide +kernel
theorem dX6_isAim_13 : decode cX6_isAim 13 = .ok (.iload_n 2, 1) := by decide +kernel
theorem dX6_isAim_14 : decode cX6_isAim 14 = .ok (.iconst 0, 1) := by decide +kernel
theorem dX6_isAim_15 : decode cX6_isAim 15 = .ok (.bipush 10, 2) := by decide +kernel
theorem dX6_isAim_17 : decode cX6_isAim 17 = .ok (.invokestatic 71, 3) := by decide +kernel
theorem dX6_isAim_20 : decode cX6_isAim 20 = .ok (.ifCond .eq 7, 3) := by decide +kernel
theorem dX6_isAim_23 : decode cX6_isAim 23 = .ok (.iconst 1, 1) := by decide +kernel
theorem dX6_isAim_24 : decode cX6_isAim 24 = .ok (.goto 4, 3) := by decide +kernel
theorem dX6_isAim_27 : decode cX6_isAim 27 = .ok (.iconst 0, 1) := by decide +kernel
theorem dX6_isAim_28 : decode cX6_isAim 28 = .ok (.ireturn, 1) := by decide +kernel
set_option maxRecDepth 20000 in
theorem ggX6_actOf_X6_costBy : GoodIn wsX6_actOf wsX6_costBy := goodIn_r _ [9, 4, 2, 3, 10, 11, 12, 13, 14, 15, 16, 17, 18, 19, 20, 21, 22, 23, 24, 25, 26, 27, 28, 29, 30, 31, 32, 33, 34, 35, 36, 37, 38] (by decide +kernel) (by decide +kernel)
set_option maxRecDepth 20000 in
theorem gX6_actOf_X6_costBy : GoodIn wsX6_actOf (wsV RX6 121 RX6 yX6_costBy wsX6_costBy) := goodIn_app (goodIn_of _ (by decide +kernel)) ggX6_actOf_X6_costBy
theorem dX6_actOf_0 : decode cX6_actOf 0 = .ok (.aload_n 0, 1) := by decide +kernel
theorem dX6_actOf_1 : decode cX6_actOf 1 = .ok (.getfield 112, 3) := by decide +kernel
theorem dX6_actOf_4 : decode cX6_actOf 4 = .ok (.istore_n 3, 1) := by decide +kernel
theorem dX6_actOf_5 : decode cX6_actOf 5 = .ok (.iconst (-1), 1) := by decide +kernel
theorem dX6_actOf_6 : decode cX6_actOf 6 = .ok (.istore 4, 2) := by decide +kernel
theorem dX6_actOf_8 : decode cX6_actOf 8 = .ok (.iconst 0, 1) := by decide +kernel
theorem dX6_actOf_9 : decode cX6_actOf 9 = .ok (.istore 5, 2) := by decide +kernel
theorem dX6_actOf_11 : decode cX6_actOf 11 = .ok (.iload 5, 2) := by decide +kernel
theorem dX6_actOf_13 : decode cX6_actOf 13 = .ok (.iload_n 1, 1) := by decide +kernel
theorem dX6_actOf_14 : decode cX6_actOf 14 = .ok (.if_icmp .gt 70, 3) := by decide +kernel
theorem dX6_actOf_17 : decode cX6_actOf 17 = .ok (.aload_n 0, 1) := by decide +kernel
theorem dX6_actOf_18 : decode cX6_actOf 18 = .ok (.getfield 39, 3) := by decide +kernel
theorem dX6_actOf_21 : decode cX6_actOf 21 = .ok (.iload_n 3, 1) := by decide +kernel
theorem dX6_actOf_22 : decode cX6_actOf 22 = .ok (.iaload, 1) := by decide +kernel
theorem dX6_actOf_23 : decode cX6_actOf 23 = .ok (.ifCond .eq 14, 3) := by decide +kernel
theorem dX6_actOf_26 : decode cX6_actOf 26 = .ok (.aload_n 0, 1) := by decide +kernel
theorem dX6_actOf_27 : decode cX6_actOf 27 = .ok (.getfield 39, 3) := by decide +kernel
theorem dX6_actOf_30 : decode cX6_actOf 30 = .ok (.iload_n 3, 1) := by decide +kernel
theorem dX6_actOf_31 : decode cX6_actOf 31 = .ok (.iaload, 1) := by decide +kernel
theorem dX6_actOf_32 : decode cX6_actOf 32 = .ok (.ldc 111, 2) := by decide +kernel
theorem dX6_actOf_34 : decode cX6_actOf 34 = .ok (.if_icmp .ne 5, 3) := by decide +kernel
theorem dX6_actOf_37 : decode cX6_actOf 37 = .ok (.iconst (-1), 1) := by decide +kernel
theorem dX6_actOf_38 : decode cX6_actOf 38 = .ok (.ireturn, 1) := by decide +kernel
theorem dX6_actOf_39 : decode cX6_actOf 39 = .ok (.iconst 0, 1) := by decide +kernel
theorem dX6_actOf_40 : decode cX6_actOf 40 = .ok (.istore 4, 2) := by decide +kernel
theorem dX6_actOf_42 : decode cX6_actOf 42 = .ok (.aload_n 0, 1) := by decide +kernel
theorem dX6_actOf_43 : decode cX6_actOf 43 = .ok (.iload_n 3, 1) := by decide +kernel
theorem dX6_actOf_44 : decode cX6_actOf 44 = .ok (.iload 4, 2) := by decide +kernel
theorem dX6_actOf_46 : decode cX6_actOf 46 = .ok (.iload_n 2, 1) := by decide +kernel
theorem dX6_actOf_47 : decode cX6_actOf 47 = .ok (.invokevirtual 121, 3) := by decide +kernel
theorem dX6_actOf_50 : decode cX6_actOf 50 = .ok (.aload_n 0, 1) := by decide +kernel
theorem dX6_actOf_51 : decode cX6_actOf 51 = .ok (.getfield 39, 3) := by decide +kernel
theorem dX6_actOf_54 : decode cX6_actOf 54 = .ok (.iload_n 3, 1) := by decide +kernel
theorem dX6_actOf_55 : decode cX6_actOf 55 = .ok (.iaload, 1) := by decide +kernel
theorem dX6_actOf_56 : decode cX6_actOf 56 = .ok (.if_icmp .eq 9, 3) := by decide +kernel
theorem dX6_actOf_59 : decode cX6_actOf 59 = .ok (.iinc 4 1, 3) := by decide +kernel
theorem dX6_actOf_62 : decode cX6_actOf 62 = .ok (.goto (-20), 3) := by decide +kernel
theorem dX6_actOf_65 : decode cX6_actOf 65 = .ok (.aload_n 0, 1) := by decide +kernel
theorem dX6_actOf_66 : decode cX6_actOf 66 = .ok (.getfield 33, 3) := by decide +kernel
theorem dX6_actOf_69 : decode cX6_actOf 69 = .ok (.bipush 24, 2) := by decide +kernel
theorem dX6_actOf_71 : decode cX6_actOf 71 = .ok (.iload_n 3, 1) := by decide +kernel
theorem dX6_actOf_72 : decode cX6_actOf 72 = .ok (.imul, 1) := by decide +kernel
theorem dX6_actOf_73 : decode cX6_actOf 73 = .ok (.iload 4, 2) := by decide +kernel
theorem dX6_actOf_75 : decode cX6_actOf 75 = .ok (.iadd, 1) := by decide +kernel
theorem dX6_actOf_76 : decode cX6_actOf 76 = .ok (.iaload, 1) := by decide +kernel
theorem dX6_actOf_77 : decode cX6_actOf 77 = .ok (.istore_n 3, 1) := by decide +kernel
theorem dX6_actOf_78 : decode cX6_actOf 78 = .ok (.iinc 5 1, 3) := by decide +kernel
theorem dX6_actOf_81 : decode cX6_actOf 81 = .ok (.goto (-70), 3) := by decide +kernel
theorem dX6_actOf_84 : decode cX6_actOf 84 = .ok (.iload 4, 2) := by decide +kernel
theorem dX6_actOf_86 : decode cX6_actOf 86 = .ok (.ireturn, 1) := by decide +kernel
set_option maxRecDepth 20000 in
theorem ggX6_fewest_X6_isAim : GoodIn wsX6_fewest wsX6_isAim := goodIn_r _ [8, 9, 10, 11, 7, 12, 13, 14, 15, 16, 66, 67, 68, 69, 70, 71, 72, 73, 74, 75, 76, 77, 78, 79, 80, 81, 82, 83, 84, 85, 86, 87, 88, 89, 90, 91, 92, 93] (by decide +kernel) (by decide +kernel)
set_option maxRecDepth 20000 in
theorem gX6_fewest_X6_isAim : GoodIn wsX6_fewest (wsV RX6 125 RX6 yX6_isAim wsX6_isAim) := goodIn_app (goodIn_of _ (by decide +kernel)) ggX6_fewest_X6_isAim
set_option maxRecDepth 20000 in
theorem ggX6_fewest_X6_findCosts : GoodIn wsX6_fewest wsX6_findCosts := goodIn_r _ [20, 2, 1, 3, 21, 22, 23, 7, 24, 13, 25, 26, 27, 28, 29, 30, 31, 32, 33, 34, 35, 36, 37, 38, 39, 40, 41, 42, 43, 44, 45, 46, 47, 48, 49, 50, 51, 52, 53, 54, 55, 56, 57, 58, 59, 60, 61, 62, 63, 64, 65, 66, 67, 68, 69, 70, 71, 72, 73, 74, 75, 76, 77, 78, 79, 80, 81, 82, 83, 84, 85, 86, 87, 88, 89, 90, 91, 92, 93] (by decide +kernel) (by decide +kernel)
set_option maxRecDepth 20000 in
theorem gX6_fewest_X6_findCosts : GoodIn wsX6_fewest (wsV RX6 129 RX6 yX6_findCosts wsX6_findCosts) := goodIn_app (goodIn_of _ (by decide +kernel)) ggX6_fewest_X6_findCosts
theorem dX6_fewest_0 : decode cX6_fewest 0 = .ok (.aload_n 0, 1) := by decide +kernel
theorem dX6_fewest_1 : decode cX6_fewest 1 = .ok (.iload_n 1, 1) := by decide +kernel
theorem dX6_fewest_2 : decode cX6_fewest 2 = .ok (.iload_n 2, 1) := by decide +kernel
theorem dX6_fewest_3 : decode cX6_fewest 3 = .ok (.invokevirtual 125, 3) := by decide +kernel
theorem dX6_fewest_6 : decode cX6_fewest 6 = .ok (.ifCond .ne 6, 3) := by decide +kernel
theorem dX6_fewest_9 : decode cX6_fewest 9 = .ok (.bipush (-2), 2) := by decide +kernel
theorem dX6_fewest_11 : decode cX6_fewest 11 = .ok (.ireturn, 1) := by decide +kernel
theorem dX6_fewest_12 : decode cX6_fewest 12 = .ok (.aload_n 0, 1) := by decide +kernel
theorem dX6_fewest_13 : decode cX6_fewest 13 = .ok (.iload_n 1, 1) := by decide +kernel
theorem dX6_fewest_14 : decode cX6_fewest 14 = .ok (.iload_n 2, 1) := by decide +kernel
theorem dX6_fewest_15 : decode cX6_fewest 15 = .ok (.iconst 0, 1) := by decide +kernel
theorem dX6_fewest_16 : decode cX6_fewest 16 = .ok (.invokevirtual 129, 3) := by decide +kernel
theorem dX6_fewest_19 : decode cX6_fewest 19 = .ok (.aload_n 0, 1) := by decide +kernel
theorem dX6_fewest_20 : decode cX6_fewest 20 = .ok (.getfield 39, 3) := by decide +kernel
theorem dX6_fewest_23 : decode cX6_fewest 23 = .ok (.aload_n 0, 1) := by decide +kernel
theorem dX6_fewest_24 : decode cX6_fewest 24 = .ok (.getfield 112, 3) := by decide +kernel
theorem dX6_fewest_27 : decode cX6_fewest 27 = .ok (.iaload, 1) := by decide +kernel
theorem dX6_fewest_28 : decode cX6_fewest 28 = .ok (.ldc 111, 2) := by decide +kernel
theorem dX6_fewest_30 : decode cX6_fewest 30 = .ok (.if_icmp .ne 7, 3) := by decide +kernel
theorem dX6_fewest_33 : decode cX6_fewest 33 = .ok (.iconst (-1), 1) := by decide +kernel
theorem dX6_fewest_34 : decode cX6_fewest 34 = .ok (.goto 12, 3) := by decide +kernel
theorem dX6_fewest_37 : decode cX6_fewest 37 = .ok (.aload_n 0, 1) := by decide +kernel
theorem dX6_fewest_38 : decode cX6_fewest 38 = .ok (.getfield 39, 3) := by decide +kernel
theorem dX6_fewest_41 : decode cX6_fewest 41 = .ok (.aload_n 0, 1) := by decide +kernel
theorem dX6_fewest_42 : decode cX6_fewest 42 = .ok (.getfield 112, 3) := by decide +kernel
theorem dX6_fewest_45 : decode cX6_fewest 45 = .ok (.iaload, 1) := by decide +kernel
theorem dX6_fewest_46 : decode cX6_fewest 46 = .ok (.ireturn, 1) := by decide +kernel
set_option maxRecDepth 20000 in
theorem ggX6_rows_X6_isAim : GoodIn wsX6_rows wsX6_isAim := goodIn_r _ [12, 13, 14, 15, 11, 16, 17, 18, 19, 20, 69, 70, 71, 72, 73, 74, 75, 76, 77, 78, 79, 80, 81, 82, 83, 84, 85, 86, 87, 88, 89, 90, 91, 92, 93, 94, 95, 96] (by decide +kernel) (by decide +kernel)
set_option maxRecDepth 20000 in
theorem gX6_rows_X6_isAim : GoodIn wsX6_rows (wsV RX6 125 RX6 yX6_isAim wsX6_isAim) := goodIn_app (goodIn_of _ (by decide +kernel)) ggX6_rows_X6_isAim
set_option maxRecDepth 20000 in
theorem ggX6_rows_X6_findCosts : GoodIn wsX6_rows wsX6_findCosts := goodIn_r _ [24, 3, 2, 4, 25, 26, 27, 11, 28, 17, 29, 30, 31, 32, 33, 34, 35, 36, 37, 38, 39, 40, 41, 42, 43, 44, 45, 6, 46, 47, 48, 49, 50, 51, 52, 53, 54, 55, 56, 57, 58, 59, 60, 61, 62, 63, 64, 65, 66, 67, 68, 69, 70, 71, 72, 73, 74, 75, 76, 77, 78, 79, 80, 81, 82, 83, 84, 85, 86, 87, 88, 89, 90, 91, 92, 93, 94, 95, 96] (by decide +kernel) (by decide +kernel)
set_option maxRecDepth 20000 in
theorem gX6_rows_X6_findCosts : GoodIn wsX6_rows (wsV RX6 129 RX6 yX6_findCosts wsX6_findCosts) := goodIn_app (goodIn_of _ (by decide +kernel)) ggX6_rows_X6_findCosts
set_option maxRecDepth 20000 in
theorem ggX6_rows_X6_stateMany : GoodIn wsX6_rows wsX6_stateMany := goodIn_r _ [51, 29, 34, 69, 70, 71, 72, 73, 74, 75, 76, 77, 78, 79, 80, 81, 82, 83, 84, 85, 86, 87, 88, 89, 90, 91, 92, 93, 94, 95, 96] (by decide +kernel) (by decide +kernel)
set_option maxRecDepth 20000 in
theorem gX6_rows_X6_stateMany : GoodIn wsX6_rows (wsV RX6 100 RX6 yX6_stateMany wsX6_stateMany) := goodIn_app (goodIn_of _ (by decide +kernel)) ggX6_rows_X6_stateMany
set_option maxRecDepth 20000 in
theorem ggX6_rows_X6_costBy : GoodIn wsX6_rows wsX6_costBy := goodIn_r _ [68, 6, 2, 4, 46, 69, 70, 71, 72, 73, 74, 75, 76, 77, 78, 79, 80, 81, 82, 83, 84, 85, 86, 87, 88, 89, 90, 91, 92, 93, 94, 95, 96] (by decide +kernel) (by decide +kernel)
set_option maxRecDepth 20000 in
theorem gX6_rows_X6_costBy : GoodIn wsX6_rows (wsV RX6 121 RX6 yX6_costBy wsX6_costBy) := goodIn_app (goodIn_of _ (by decide +kernel)) ggX6_rows_X6_costBy
theorem dX6_rows_0 : decode cX6_rows 0 = .ok (.aload_n 0, 1) := by decide +kernel
theorem dX6_rows_1 : decode cX6_rows 1 = .ok (.iload_n 1, 1) := by decide +kernel
theorem dX6_rows_2 : decode cX6_rows 2 = .ok (.iload_n 2, 1) := by decide +kernel
theorem dX6_rows_3 : decode cX6_rows 3 = .ok (.invokevirtual 125, 3) := by decide +kernel
theorem dX6_rows_6 : decode cX6_rows 6 = .ok (.ifCond .ne 7, 3) := by decide +kernel
theorem dX6_rows_9 : decode cX6_rows 9 = .ok (.ldc2_w 133, 3) := by decide +kernel
theorem dX6_rows_12 : decode cX6_rows 12 = .ok (.lreturn, 1) := by decide +kernel
theorem dX6_rows_13 : decode cX6_rows 13 = .ok (.aload_n 0, 1) := by decide +kernel
theorem dX6_rows_14 : decode cX6_rows 14 = .ok (.iload_n 1, 1) := by decide +kernel
theorem dX6_rows_15 : decode cX6_rows 15 = .ok (.iload_n 2, 1) := by decide +kernel
theorem dX6_rows_16 : decode cX6_rows 16 = .ok (.iconst 0, 1) := by decide +kernel
theorem dX6_rows_17 : decode cX6_rows 17 = .ok (.invokevirtual 129, 3) := by decide +kernel
theorem dX6_rows_20 : decode cX6_rows 20 = .ok (.aload_n 0, 1) := by decide +kernel
theorem dX6_rows_21 : decode cX6_rows 21 = .ok (.getfield 39, 3) := by decide +kernel
theorem dX6_rows_24 : decode cX6_rows 24 = .ok (.aload_n 0, 1) := by decide +kernel
theorem dX6_rows_25 : decode cX6_rows 25 = .ok (.getfield 112, 3) := by decide +kernel
theorem dX6_rows_28 : decode cX6_rows 28 = .ok (.iaload, 1) := by decide +kernel
theorem dX6_rows_29 : decode cX6_rows 29 = .ok (.ldc 111, 2) := by decide +kernel
theorem dX6_rows_31 : decode cX6_rows 31 = .ok (.if_icmp .ne 5, 3) := by decide +kernel
theorem dX6_rows_34 : decode cX6_rows 34 = .ok (.lconst 0, 1) := by decide +kernel
theorem dX6_rows_35 : decode cX6_rows 35 = .ok (.lreturn, 1) := by decide +kernel
theorem dX6_rows_36 : decode cX6_rows 36 = .ok (.aload_n 0, 1) := by decide +kernel
theorem dX6_rows_37 : decode cX6_rows 37 = .ok (.invokevirtual 100, 3) := by decide +kernel
theorem dX6_rows_40 : decode cX6_rows 40 = .ok (.istore_n 3, 1) := by decide +kernel
theorem dX6_rows_41 : decode cX6_rows 41 = .ok (.iconst 0, 1) := by decide +kernel
theorem dX6_rows_42 : decode cX6_rows 42 = .ok (.istore 4, 2) := by decide +kernel
theorem dX6_rows_44 : decode cX6_rows 44 = .ok (.iload 4, 2) := by decide +kernel
theorem dX6_rows_46 : decode cX6_rows 46 = .ok (.aload_n 0, 1) := by decide +kernel
theorem dX6_rows_47 : decode cX6_rows 47 = .ok (.getfield 39, 3) := by decide +kernel
theorem dX6_rows_50 : decode cX6_rows 50 = .ok (.aload_n 0, 1) := by decide +kernel
theorem dX6_rows_51 : decode cX6_rows 51 = .ok (.getfield 112, 3) := by decide +kernel
theorem dX6_rows_54 : decode cX6_rows 54 = .ok (.iaload, 1) := by decide +kernel
theorem dX6_rows_55 : decode cX6_rows 55 = .ok (.if_icmp .gt 138, 3) := by decide +kernel
theorem dX6_rows_58 : decode cX6_rows 58 = .ok (.iconst 0, 1) := by decide +kernel
theorem dX6_rows_59 : decode cX6_rows 59 = .ok (.istore 5, 2) := by decide +kernel
theorem dX6_rows_61 : decode cX6_rows 61 = .ok (.iload 5, 2) := by decide +kernel
theorem dX6_rows_63 : decode cX6_rows 63 = .ok (.iload_n 3, 1) := by decide +kernel
theorem dX6_rows_64 : decode cX6_rows 64 = .ok (.if_icmp .ge 123, 3) := by decide +kernel
theorem dX6_rows_67 : decode cX6_rows 67 = .ok (.aload_n 0, 1) := by decide +kernel
theorem dX6_rows_68 : decode cX6_rows 68 = .ok (.getfield 39, 3) := by decide +kernel
theorem dX6_rows_71 : decode cX6_rows 71 = .ok (.iload 5, 2) := by decide +kernel
theorem dX6_rows_73 : decode cX6_rows 73 = .ok (.iaload, 1) := by decide +kernel
theorem dX6_rows_74 : decode cX6_rows 74 = .ok (.iload 4, 2) := by decide +kernel
theorem dX6_rows_76 : decode cX6_rows 76 = .ok (.if_icmp .ne 105, 3) := by decide +kernel
theorem dX6_rows_79 : decode cX6_rows 79 = .ok (.iload 4, 2) := by decide +kernel
theorem dX6_rows_81 : decode cX6_rows 81 = .ok (.ifCond .ne 7, 3) := by decide +kernel
theorem dX6_rows_84 : decode cX6_rows 84 = .ok (.lconst 1, 1) := by decide +kernel
theorem dX6_rows_85 : decode cX6_rows 85 = .ok (.goto 4, 3) := by decide +kernel
theorem dX6_rows_88 : decode cX6_rows 88 = .ok (.lconst 0, 1) := by decide +kernel
theorem dX6_rows_89 : decode cX6_rows 89 = .ok (.lstore 6, 2) := by decide +kernel
theorem dX6_rows_91 : decode cX6_rows 91 = .ok (.iconst 0, 1) := by decide +kernel
theorem dX6_rows_92 : decode cX6_rows 92 = .ok (.istore 8, 2) := by decide +kernel
theorem dX6_rows_94 : decode cX6_rows 94 = .ok (.iload 8, 2) := by decide +kernel
theorem dX6_rows_96 : decode cX6_rows 96 = .ok (.bipush 24, 2) := by decide +kernel
theorem dX6_rows_98 : decode cX6_rows 98 = .ok (.if_icmp .ge 74, 3) := by decide +kernel
theorem dX6_rows_101 : decode cX6_rows 101 = .ok (.iload 4, 2) := by decide +kernel
theorem dX6_rows_103 : decode cX6_rows 103 = .ok (.ifCond .le 69, 3) := by decide +kernel
theorem dX6_rows_106 : decode cX6_rows 106 = .ok (.lload 6, 2) := by decide +kernel
theorem dX6_rows_108 : decode cX6_rows 108 = .ok (.aload_n 0, 1) := by decide +kernel
theorem dX6_rows_109 : decode cX6_rows 109 = .ok (.iload 5, 2) := by decide +kernel
theorem dX6_rows_111 : decode cX6_rows 111 = .ok (.iload 8, 2) := by decide +kernel
theorem dX6_rows_113 : decode cX6_rows 113 = .ok (.iconst 0, 1) := by decide +kernel
theorem dX6_rows_114 : decode cX6_rows 114 = .ok (.invokevirtual 121, 3) := by decide +kernel
theorem dX6_rows_117 : decode cX6_rows 117 = .ok (.iload 4, 2) := by decide +kernel
theorem dX6_rows_119 : decode cX6_rows 119 = .ok (.if_icmp .ne 24, 3) := by decide +kernel
theorem dX6_rows_122 : decode cX6_rows 122 = .ok (.aload_n 0, 1) := by decide +kernel
theorem dX6_rows_123 : decode cX6_rows 123 = .ok (.getfield 42, 3) := by decide +kernel
theorem dX6_rows_126 : decode cX6_rows 126 = .ok (.aload_n 0, 1) := by decide +kernel
theorem dX6_rows_127 : decode cX6_rows 127 = .ok (.getfield 33, 3) := by decide +kernel
theorem dX6_rows_130 : decode cX6_rows 130 = .ok (.bipush 24, 2) := by decide +kernel
theorem dX6_rows_132 : decode cX6_rows 132 = .ok (.iload 5, 2) := by decide +kernel
theorem dX6_rows_134 : decode cX6_rows 134 = .ok (.imul, 1) := by decide +kernel
theorem dX6_rows_135 : decode cX6_rows 135 = .ok (.iload 8, 2) := by decide +kernel
theorem dX6_rows_137 : decode cX6_rows 137 = .ok (.iadd, 1) := by decide +kernel
theorem dX6_rows_138 : decode cX6_rows 138 = .ok (.iaload, 1) := by decide +kernel
theorem dX6_rows_139 : decode cX6_rows 139 = .ok (.laload, 1) := by decide +kernel
theorem dX6_rows_140 : decode cX6_rows 140 = .ok (.goto 4, 3) := by decide +kernel
theorem dX6_rows_143 : decode cX6_rows 143 = .ok (.lconst 0, 1) := by decide +kernel
theorem dX6_rows_144 : decode cX6_rows 144 = .ok (.ladd, 1) := by decide +kernel
theorem dX6_rows_145 : decode cX6_rows 145 = .ok (.lstore 6, 2) := by decide +kernel
theorem dX6_rows_147 : decode cX6_rows 147 = .ok (.lload 6, 2) := by decide +kernel
theorem dX6_rows_149 : decode cX6_rows 149 = .ok (.ldc2_w 135, 3) := by decide +kernel
theorem dX6_rows_152 : decode cX6_rows 152 = .ok (.lcmp, 1) := by decide +kernel
theorem dX6_rows_153 : decode cX6_rows 153 = .ok (.ifCond .le 9, 3) := by decide +kernel
theorem dX6_rows_156 : decode cX6_rows 156 = .ok (.ldc2_w 135, 3) := by decide +kernel
theorem dX6_rows_159 : decode cX6_rows 159 = .ok (.goto 5, 3) := by decide +kernel
theorem dX6_rows_162 : decode cX6_rows 162 = .ok (.lload 6, 2) := by decide +kernel
theorem dX6_rows_164 : decode cX6_rows 164 = .ok (.lstore 6, 2) := by decide +kernel
theorem dX6_rows_166 : decode cX6_rows 166 = .ok (.iinc 8 1, 3) := by decide +kernel
theorem dX6_rows_169 : decode cX6_rows 169 = .ok (.goto (-75), 3) := by decide +kernel
theorem dX6_rows_172 : decode cX6_rows 172 = .ok (.aload_n 0, 1) := by decide +kernel
theorem dX6_rows_173 : decode cX6_rows 173 = .ok (.getfield 42, 3) := by decide +kernel
theorem dX6_rows_176 : decode cX6_rows 176 = .ok (.iload 5, 2) := by decide +kernel
theorem dX6_rows_178 : decode cX6_rows 178 = .ok (.lload 6, 2) := by decide +kernel
theorem dX6_rows_180 : decode cX6_rows 180 = .ok (.lastore, 1) := by decide +kernel
theorem dX6_rows_181 : decode cX6_rows 181 = .ok (.iinc 5 1, 3) := by decide +kernel
theorem dX6_rows_184 : decode cX6_rows 184 = .ok (.goto (-123), 3) := by decide +kernel
theorem dX6_rows_187 : decode cX6_rows 187 = .ok (.iinc 4 1, 3) := by decide +kernel
theorem dX6_rows_190 : decode cX6_rows 190 = .ok (.goto (-146), 3) := by decide +kernel
theorem dX6_rows_193 : decode cX6_rows 193 = .ok (.aload_n 0, 1) := by decide +kernel
theorem dX6_rows_194 : decode cX6_rows 194 = .ok (.getfield 42, 3) := by decide +kernel
theorem dX6_rows_197 : decode cX6_rows 197 = .ok (.aload_n 0, 1) := by decide +kernel
theorem dX6_rows_198 : decode cX6_rows 198 = .ok (.getfield 112, 3) := by decide +kernel
theorem dX6_rows_201 : decode cX6_rows 201 = .ok (.laload, 1) := by decide +kernel
theorem dX6_rows_202 : decode cX6_rows 202 = .ok (.lreturn, 1) := by decide +kernel
set_option maxRecDepth 20000 in
theorem ggX6_best_X6_isAim : GoodIn wsX6_best wsX6_isAim := goodIn_r _ [5, 6, 7, 8, 4, 9, 10, 11, 12, 13, 70, 71, 72, 73, 74, 75, 76, 77, 78, 79, 80, 81, 82, 83, 84, 85, 86, 87, 88, 89, 90, 91, 92, 93, 94, 95, 96, 97] (by decide +kernel) (by decide +kernel)
set_option maxRecDepth 20000 in
theorem gX6_best_X6_isAim : GoodIn wsX6_best (wsV RX6 125 RX6 yX6_isAim wsX6_isAim) := goodIn_app (goodIn_of _ (by decide +kernel)) ggX6_best_X6_isAim
set_option maxRecDepth 20000 in
theorem ggX6_best_X6_findCosts : GoodIn wsX6_best wsX6_findCosts := goodIn_r _ [17, 18, 19, 20, 21, 22, 23, 4, 24, 10, 25, 26, 27, 28, 29, 30, 31, 32, 33, 34, 35, 36, 37, 38, 39, 40, 41, 42, 43, 44, 45, 46, 47, 48, 49, 50, 51, 52, 53, 54, 55, 56, 57, 58, 59, 60, 61, 62, 63, 64, 65, 70, 71, 72, 73, 74, 75, 76, 77, 78, 79, 80, 81, 82, 83, 84, 85, 86, 87, 88, 89, 90, 91, 92, 93, 94, 95, 96, 97] (by decide +kernel) (by decide +kernel)
set_option maxRecDepth 20000 in
theorem gX6_best_X6_findCosts : GoodIn wsX6_best (wsV RX6 129 RX6 yX6_findCosts wsX6_findCosts) := goodIn_app (goodIn_of _ (by decide +kernel)) ggX6_best_X6_findCosts
set_option maxRecDepth 20000 in
theorem ggX6_best_X6_actOf : GoodIn wsX6_best wsX6_actOf := goodIn_r _ [69, 18, 19, 20, 42, 62, 63, 64, 4, 65, 43, 70, 71, 72, 73, 74, 75, 76, 77, 78, 79, 80, 81, 82, 83, 84, 85, 86, 87, 88, 89, 90, 91, 92, 93, 94, 95, 96, 97] (by decide +kernel) (by decide +kernel)
set_option maxRecDepth 20000 in
theorem gX6_best_X6_actOf : GoodIn wsX6_best (wsV RX6 137 RX6 yX6_actOf wsX6_actOf) := goodIn_app (goodIn_of _ (by decide +kernel)) ggX6_best_X6_actOf
theorem dX6_best_0 : decode cX6_best 0 = .ok (.aload_n 0, 1) := by decide +kernel
theorem dX6_best_1 : decode cX6_best 1 = .ok (.iload_n 1, 1) := by decide +kernel
theorem dX6_best_2 : decode cX6_best 2 = .ok (.iload_n 2, 1) := by decide +kernel
theorem dX6_best_3 : decode cX6_best 3 = .ok (.invokevirtual 125, 3) := by decide +kernel
theorem dX6_best_6 : decode cX6_best 6 = .ok (.ifCond .eq 7, 3) := by decide +kernel
theorem dX6_best_9 : decode cX6_best 9 = .ok (.iload_n 3, 1) := by decide +kernel
end
section
theorem dX6_best_10 : decode cX6_best 10 = .ok (.ifCond .ge 6, 3) := by decide +kernel
theorem dX6_best_13 : decode cX6_best 13 = .ok (.bipush (-2), 2) := by decide +kernel
theorem dX6_best_15 : decode cX6_best 15 = .ok (.ireturn, 1) := by decide +kernel
theorem dX6_best_16 : decode cX6_best 16 = .ok (.aload_n 0, 1) := by decide +kernel
theorem dX6_best_17 : decode cX6_best 17 = .ok (.iload_n 1, 1) := by decide +kernel
theorem dX6_best_18 : decode cX6_best 18 = .ok (.iload_n 2, 1) := by decide +kernel
theorem dX6_best_19 : decode cX6_best 19 = .ok (.iconst 0, 1) := by decide +kernel
theorem dX6_best_20 : decode cX6_best 20 = .ok (.invokevirtual 129, 3) := by decide +kernel
theorem dX6_best_23 : decode cX6_best 23 = .ok (.iload_n 3, 1) := by decide +kernel
theorem dX6_best_24 : decode cX6_best 24 = .ok (.sipush 14641, 3) := by decide +kernel
theorem dX6_best_27 : decode cX6_best 27 = .ok (.if_icmp .lt 7, 3) := by decide +kernel
theorem dX6_best_30 : decode cX6_best 30 = .ok (.iconst (-1), 1) := by decide +kernel
theorem dX6_best_31 : decode cX6_best 31 = .ok (.goto 9, 3) := by decide +kernel
theorem dX6_best_34 : decode cX6_best 34 = .ok (.aload_n 0, 1) := by decide +kernel
theorem dX6_best_35 : decode cX6_best 35 = .ok (.iload_n 3, 1) := by decide +kernel
theorem dX6_best_36 : decode cX6_best 36 = .ok (.iconst 0, 1) := by decide +kernel
theorem dX6_best_37 : decode cX6_best 37 = .ok (.invokevirtual 137, 3) := by decide +kernel
theorem dX6_best_40 : decode cX6_best 40 = .ok (.ireturn, 1) := by decide +kernel
set_option maxRecDepth 20000 in
theorem ggX6_sparing_X6_isAim : GoodIn wsX6_sparing wsX6_isAim := goodIn_r _ [8, 9, 10, 11, 7, 12, 13, 14, 15, 16, 66, 67, 68, 69, 70, 71, 72, 73, 74, 75, 76, 77, 78, 79, 80, 81, 82, 83, 84, 85, 86, 87, 88, 89, 90, 91, 92, 93] (by decide +kernel) (by decide +kernel)
set_option maxRecDepth 20000 in
theorem gX6_sparing_X6_isAim : GoodIn wsX6_sparing (wsV RX6 125 RX6 yX6_isAim wsX6_isAim) := goodIn_app (goodIn_of _ (by decide +kernel)) ggX6_sparing_X6_isAim
set_option maxRecDepth 20000 in
theorem ggX6_sparing_X6_in : GoodIn wsX6_sparing wsX6_in := goodIn_r _ [16] (by decide +kernel) (by decide +kernel)
set_option maxRecDepth 20000 in
theorem gX6_sparing_X6_in : GoodIn wsX6_sparing (va_wsS RX6 71 yX6_in wsX6_in) := goodIn_app (goodIn_of _ (by decide +kernel)) ggX6_sparing_X6_in
set_option maxRecDepth 20000 in
theorem ggX6_sparing_X6_findCosts : GoodIn wsX6_sparing wsX6_findCosts := goodIn_r _ [20, 2, 1, 3, 21, 22, 23, 7, 24, 13, 25, 26, 27, 28, 29, 30, 31, 32, 33, 34, 35, 36, 37, 38, 39, 40, 41, 42, 43, 44, 45, 46, 47, 48, 49, 50, 51, 52, 53, 54, 55, 56, 57, 58, 59, 60, 61, 62, 63, 64, 65, 66, 67, 68, 69, 70, 71, 72, 73, 74, 75, 76, 77, 78, 79, 80, 81, 82, 83, 84, 85, 86, 87, 88, 89, 90, 91, 92, 93] (by decide +kernel) (by decide +kernel)
set_option maxRecDepth 20000 in
theorem gX6_sparing_X6_findCosts : GoodIn wsX6_sparing (wsV RX6 129 RX6 yX6_findCosts wsX6_findCosts) := goodIn_app (goodIn_of _ (by decide +kernel)) ggX6_sparing_X6_findCosts
theorem dX6_sparing_0 : decode cX6_sparing 0 = .ok (.aload_n 0, 1) := by decide +kernel
theorem dX6_sparing_1 : decode cX6_sparing 1 = .ok (.iload_n 1, 1) := by decide +kernel
theorem dX6_sparing_2 : decode cX6_sparing 2 = .ok (.iload_n 2, 1) := by decide +kernel
theorem dX6_sparing_3 : decode cX6_sparing 3 = .ok (.invokevirtual 125, 3) := by decide +kernel
theorem dX6_sparing_6 : decode cX6_sparing 6 = .ok (.ifCond .eq 12, 3) := by decide +kernel
theorem dX6_sparing_9 : decode cX6_sparing 9 = .ok (.iload_n 3, 1) := by decide +kernel
theorem dX6_sparing_10 : decode cX6_sparing 10 = .ok (.iconst 0, 1) := by decide +kernel
theorem dX6_sparing_11 : decode cX6_sparing 11 = .ok (.iconst 1, 1) := by decide +kernel
theorem dX6_sparing_12 : decode cX6_sparing 12 = .ok (.invokestatic 71, 3) := by decide +kernel
theorem dX6_sparing_15 : decode cX6_sparing 15 = .ok (.ifCond .ne 6, 3) := by decide +kernel
theorem dX6_sparing_18 : decode cX6_sparing 18 = .ok (.bipush (-2), 2) := by decide +kernel
theorem dX6_sparing_20 : decode cX6_sparing 20 = .ok (.ireturn, 1) := by decide +kernel
theorem dX6_sparing_21 : decode cX6_sparing 21 = .ok (.aload_n 0, 1) := by decide +kernel
theorem dX6_sparing_22 : decode cX6_sparing 22 = .ok (.iload_n 1, 1) := by decide +kernel
theorem dX6_sparing_23 : decode cX6_sparing 23 = .ok (.iload_n 2, 1) := by decide +kernel
theorem dX6_sparing_24 : decode cX6_sparing 24 = .ok (.sipush 20000, 3) := by decide +kernel
theorem dX6_sparing_27 : decode cX6_sparing 27 = .ok (.invokevirtual 129, 3) := by decide +kernel
theorem dX6_sparing_30 : decode cX6_sparing 30 = .ok (.aload_n 0, 1) := by decide +kernel
theorem dX6_sparing_31 : decode cX6_sparing 31 = .ok (.getfield 39, 3) := by decide +kernel
theorem dX6_sparing_34 : decode cX6_sparing 34 = .ok (.aload_n 0, 1) := by decide +kernel
theorem dX6_sparing_35 : decode cX6_sparing 35 = .ok (.getfield 112, 3) := by decide +kernel
theorem dX6_sparing_38 : decode cX6_sparing 38 = .ok (.iaload, 1) := by decide +kernel
theorem dX6_sparing_39 : decode cX6_sparing 39 = .ok (.istore 4, 2) := by decide +kernel
theorem dX6_sparing_41 : decode cX6_sparing 41 = .ok (.iload 4, 2) := by decide +kernel
theorem dX6_sparing_43 : decode cX6_sparing 43 = .ok (.ldc 111, 2) := by decide +kernel
theorem dX6_sparing_45 : decode cX6_sparing 45 = .ok (.if_icmp .ne 7, 3) := by decide +kernel
theorem dX6_sparing_48 : decode cX6_sparing 48 = .ok (.iconst (-1), 1) := by decide +kernel
theorem dX6_sparing_49 : decode cX6_sparing 49 = .ok (.goto 22, 3) := by decide +kernel
theorem dX6_sparing_52 : decode cX6_sparing 52 = .ok (.iload_n 3, 1) := by decide +kernel
theorem dX6_sparing_53 : decode cX6_sparing 53 = .ok (.ifCond .ne 12, 3) := by decide +kernel
theorem dX6_sparing_56 : decode cX6_sparing 56 = .ok (.iload 4, 2) := by decide +kernel
theorem dX6_sparing_58 : decode cX6_sparing 58 = .ok (.sipush 20000, 3) := by decide +kernel
theorem dX6_sparing_61 : decode cX6_sparing 61 = .ok (.idiv, 1) := by decide +kernel
theorem dX6_sparing_62 : decode cX6_sparing 62 = .ok (.goto 9, 3) := by decide +kernel
theorem dX6_sparing_65 : decode cX6_sparing 65 = .ok (.iload 4, 2) := by decide +kernel
theorem dX6_sparing_67 : decode cX6_sparing 67 = .ok (.sipush 20000, 3) := by decide +kernel
theorem dX6_sparing_70 : decode cX6_sparing 70 = .ok (.irem, 1) := by decide +kernel
theorem dX6_sparing_71 : decode cX6_sparing 71 = .ok (.ireturn, 1) := by decide +kernel
set_option maxRecDepth 20000 in
theorem ggX6_spare_X6_isAim : GoodIn wsX6_spare wsX6_isAim := goodIn_r _ [5, 6, 7, 8, 4, 9, 10, 11, 12, 13, 70, 71, 72, 73, 74, 75, 76, 77, 78, 79, 80, 81, 82, 83, 84, 85, 86, 87, 88, 89, 90, 91, 92, 93, 94, 95, 96, 97] (by decide +kernel) (by decide +kernel)
set_option maxRecDepth 20000 in
theorem gX6_spare_X6_isAim : GoodIn wsX6_spare (wsV RX6 125 RX6 yX6_isAim wsX6_isAim) := goodIn_app (goodIn_of _ (by decide +kernel)) ggX6_spare_X6_isAim
set_option maxRecDepth 20000 in
theorem ggX6_spare_X6_findCosts : GoodIn wsX6_spare wsX6_findCosts := goodIn_r _ [17, 18, 19, 20, 21, 22, 23, 4, 24, 10, 25, 26, 27, 28, 29, 30, 31, 32, 33, 34, 35, 36, 37, 38, 39, 40, 41, 42, 43, 44, 45, 46, 47, 48, 49, 50, 51, 52, 53, 54, 55, 56, 57, 58, 59, 60, 61, 62, 63, 64, 65, 70, 71, 72, 73, 74, 75, 76, 77, 78, 79, 80, 81, 82, 83, 84, 85, 86, 87, 88, 89, 90, 91, 92, 93, 94, 95, 96, 97] (by decide +kernel) (by decide +kernel)
set_option maxRecDepth 20000 in
theorem gX6_spare_X6_findCosts : GoodIn wsX6_spare (wsV RX6 129 RX6 yX6_findCosts wsX6_findCosts) := goodIn_app (goodIn_of _ (by decide +kernel)) ggX6_spare_X6_findCosts
set_option maxRecDepth 20000 in
theorem ggX6_spare_X6_actOf : GoodIn wsX6_spare wsX6_actOf := goodIn_r _ [69, 18, 19, 20, 42, 62, 63, 64, 4, 65, 43, 70, 71, 72, 73, 74, 75, 76, 77, 78, 79, 80, 81, 82, 83, 84, 85, 86, 87, 88, 89, 90, 91, 92, 93, 94, 95, 96, 97] (by decide +kernel) (by decide +kernel)
set_option maxRecDepth 20000 in
theorem gX6_spare_X6_actOf : GoodIn wsX6_spare (wsV RX6 137 RX6 yX6_actOf wsX6_actOf) := goodIn_app (goodIn_of _ (by decide +kernel)) ggX6_spare_X6_actOf
theorem dX6_spare_0 : decode cX6_spare 0 = .ok (.aload_n 0, 1) := by decide +kernel
theorem dX6_spare_1 : decode cX6_spare 1 = .ok (.iload_n 1, 1) := by decide +kernel
theorem dX6_spare_2 : decode cX6_spare 2 = .ok (.iload_n 2, 1) := by decide +kernel
theorem dX6_spare_3 : decode cX6_spare 3 = .ok (.invokevirtual 125, 3) := by decide +kernel
theorem dX6_spare_6 : decode cX6_spare 6 = .ok (.ifCond .eq 7, 3) := by decide +kernel
theorem dX6_spare_9 : decode cX6_spare 9 = .ok (.iload_n 3, 1) := by decide +kernel
theorem dX6_spare_10 : decode cX6_spare 10 = .ok (.ifCond .ge 6, 3) := by decide +kernel
theorem dX6_spare_13 : decode cX6_spare 13 = .ok (.bipush (-2), 2) := by decide +kernel
theorem dX6_spare_15 : decode cX6_spare 15 = .ok (.ireturn, 1) := by decide +kernel
theorem dX6_spare_16 : decode cX6_spare 16 = .ok (.aload_n 0, 1) := by decide +kernel
theorem dX6_spare_17 : decode cX6_spare 17 = .ok (.iload_n 1, 1) := by decide +kernel
theorem dX6_spare_18 : decode cX6_spare 18 = .ok (.iload_n 2, 1) := by decide +kernel
theorem dX6_spare_19 : decode cX6_spare 19 = .ok (.sipush 20000, 3) := by decide +kernel
theorem dX6_spare_22 : decode cX6_spare 22 = .ok (.invokevirtual 129, 3) := by decide +kernel
theorem dX6_spare_25 : decode cX6_spare 25 = .ok (.iload_n 3, 1) := by decide +kernel
theorem dX6_spare_26 : decode cX6_spare 26 = .ok (.sipush 14641, 3) := by decide +kernel
theorem dX6_spare_29 : decode cX6_spare 29 = .ok (.if_icmp .lt 7, 3) := by decide +kernel
theorem dX6_spare_32 : decode cX6_spare 32 = .ok (.iconst (-1), 1) := by decide +kernel
theorem dX6_spare_33 : decode cX6_spare 33 = .ok (.goto 11, 3) := by decide +kernel
theorem dX6_spare_36 : decode cX6_spare 36 = .ok (.aload_n 0, 1) := by decide +kernel
theorem dX6_spare_37 : decode cX6_spare 37 = .ok (.iload_n 3, 1) := by decide +kernel
theorem dX6_spare_38 : decode cX6_spare 38 = .ok (.sipush 20000, 3) := by decide +kernel
theorem dX6_spare_41 : decode cX6_spare 41 = .ok (.invokevirtual 137, 3) := by decide +kernel
theorem dX6_spare_44 : decode cX6_spare 44 = .ok (.ireturn, 1) := by decide +kernel
set_option maxRecDepth 20000 in
theorem ggX6_reach_X6_stateMany : GoodIn wsX6_reach wsX6_stateMany := goodIn_r _ [7, 8, 9, 27, 28, 29, 30, 31, 32, 33, 34, 35, 36, 37, 38, 39, 40, 41, 42, 43, 44, 45, 46, 47, 48, 49, 50, 51, 52, 53, 54] (by decide +kernel) (by decide +kernel)
set_option maxRecDepth 20000 in
theorem gX6_reach_X6_stateMany : GoodIn wsX6_reach (wsV RX6 100 RX6 yX6_stateMany wsX6_stateMany) := goodIn_app (goodIn_of _ (by decide +kernel)) ggX6_reach_X6_stateMany
set_option maxRecDepth 20000 in
theorem ggX6_reach_X6_layState : GoodIn wsX6_reach wsX6_layState := goodIn_r _ [13, 8, 14, 9, 27, 28, 29, 30, 31, 32, 33, 34, 35, 36, 37, 38, 39, 40, 41, 42, 43, 44, 45, 46, 47, 48, 49, 50, 51, 52, 53, 54] (by decide +kernel) (by decide +kernel)
set_option maxRecDepth 20000 in
theorem gX6_reach_X6_layState : GoodIn wsX6_reach (wsV RX6 104 RX6 yX6_layState wsX6_layState) := goodIn_app (goodIn_of _ (by decide +kernel)) ggX6_reach_X6_layState
set_option maxRecDepth 20000 in
theorem ggX6_reach_X6_does : GoodIn wsX6_reach wsX6_does := goodIn_r _ [18, 8, 19, 20, 9, 14, 21, 22, 27, 28, 29, 30, 31, 32, 33, 34, 35, 36, 37, 38, 39, 40, 41, 42, 43, 44, 45, 46, 47, 48, 49, 50, 51, 52, 53, 54] (by decide +kernel) (by decide +kernel)
set_option maxRecDepth 20000 in
theorem gX6_reach_X6_does : GoodIn wsX6_reach (wsV RX6 97 RX6 yX6_does wsX6_does) := goodIn_app (goodIn_of _ (by decide +kernel)) ggX6_reach_X6_does
set_option maxRecDepth 20000 in
theorem ggX6_reach_X6_numberOf : GoodIn wsX6_reach wsX6_numberOf := goodIn_r _ [26, 8, 9, 14, 27, 28, 29, 30, 31, 32, 33, 34, 35, 36, 37, 38, 39, 40, 41, 42, 43, 44, 45, 46, 47, 48, 49, 50, 51, 52, 53, 54] (by decide +kernel) (by decide +kernel)
set_option maxRecDepth 20000 in
theorem gX6_reach_X6_numberOf : GoodIn wsX6_reach (wsV RX6 108 RX6 yX6_numberOf wsX6_numberOf) := goodIn_app (goodIn_of _ (by decide +kernel)) ggX6_reach_X6_numberOf
theorem dX6_reach_0 : decode cX6_reach 0 = .ok (.aload_n 0, 1) := by decide +kernel
theorem dX6_reach_1 : decode cX6_reach 1 = .ok (.invokevirtual 100, 3) := by decide +kernel
theorem dX6_reach_4 : decode cX6_reach 4 = .ok (.istore_n 2, 1) := by decide +kernel
theorem dX6_reach_5 : decode cX6_reach 5 = .ok (.iconst 0, 1) := by decide +kernel
theorem dX6_reach_6 : decode cX6_reach 6 = .ok (.istore_n 3, 1) := by decide +kernel
theorem dX6_reach_7 : decode cX6_reach 7 = .ok (.iload_n 3, 1) := by decide +kernel
theorem dX6_reach_8 : decode cX6_reach 8 = .ok (.iload_n 2, 1) := by decide +kernel
theorem dX6_reach_9 : decode cX6_reach 9 = .ok (.if_icmp .ge 16, 3) := by decide +kernel
theorem dX6_reach_12 : decode cX6_reach 12 = .ok (.aload_n 0, 1) := by decide +kernel
theorem dX6_reach_13 : decode cX6_reach 13 = .ok (.getfield 46, 3) := by decide +kernel
theorem dX6_reach_16 : decode cX6_reach 16 = .ok (.iload_n 3, 1) := by decide +kernel
theorem dX6_reach_17 : decode cX6_reach 17 = .ok (.iconst 0, 1) := by decide +kernel
theorem dX6_reach_18 : decode cX6_reach 18 = .ok (.bastore, 1) := by decide +kernel
theorem dX6_reach_19 : decode cX6_reach 19 = .ok (.iinc 3 1, 3) := by decide +kernel
theorem dX6_reach_22 : decode cX6_reach 22 = .ok (.goto (-15), 3) := by decide +kernel
theorem dX6_reach_25 : decode cX6_reach 25 = .ok (.aload_n 0, 1) := by decide +kernel
theorem dX6_reach_26 : decode cX6_reach 26 = .ok (.getfield 46, 3) := by decide +kernel
theorem dX6_reach_29 : decode cX6_reach 29 = .ok (.iload_n 1, 1) := by decide +kernel
theorem dX6_reach_30 : decode cX6_reach 30 = .ok (.iconst 1, 1) := by decide +kernel
theorem dX6_reach_31 : decode cX6_reach 31 = .ok (.bastore, 1) := by decide +kernel
theorem dX6_reach_32 : decode cX6_reach 32 = .ok (.aload_n 0, 1) := by decide +kernel
theorem dX6_reach_33 : decode cX6_reach 33 = .ok (.getfield 50, 3) := by decide +kernel
theorem dX6_reach_36 : decode cX6_reach 36 = .ok (.iconst 0, 1) := by decide +kernel
theorem dX6_reach_37 : decode cX6_reach 37 = .ok (.iload_n 1, 1) := by decide +kernel
theorem dX6_reach_38 : decode cX6_reach 38 = .ok (.iastore, 1) := by decide +kernel
theorem dX6_reach_39 : decode cX6_reach 39 = .ok (.iconst 1, 1) := by decide +kernel
theorem dX6_reach_40 : decode cX6_reach 40 = .ok (.istore_n 3, 1) := by decide +kernel
theorem dX6_reach_41 : decode cX6_reach 41 = .ok (.iconst 0, 1) := by decide +kernel
theorem dX6_reach_42 : decode cX6_reach 42 = .ok (.istore 4, 2) := by decide +kernel
theorem dX6_reach_44 : decode cX6_reach 44 = .ok (.iload 4, 2) := by decide +kernel
theorem dX6_reach_46 : decode cX6_reach 46 = .ok (.iload_n 3, 1) := by decide +kernel
theorem dX6_reach_47 : decode cX6_reach 47 = .ok (.if_icmp .ge 80, 3) := by decide +kernel
theorem dX6_reach_50 : decode cX6_reach 50 = .ok (.iconst 0, 1) := by decide +kernel
theorem dX6_reach_51 : decode cX6_reach 51 = .ok (.istore 5, 2) := by decide +kernel
theorem dX6_reach_53 : decode cX6_reach 53 = .ok (.iload 5, 2) := by decide +kernel
theorem dX6_reach_55 : decode cX6_reach 55 = .ok (.bipush 24, 2) := by decide +kernel
theorem dX6_reach_57 : decode cX6_reach 57 = .ok (.if_icmp .ge 64, 3) := by decide +kernel
theorem dX6_reach_60 : decode cX6_reach 60 = .ok (.aload_n 0, 1) := by decide +kernel
theorem dX6_reach_61 : decode cX6_reach 61 = .ok (.aload_n 0, 1) := by decide +kernel
theorem dX6_reach_62 : decode cX6_reach 62 = .ok (.getfield 50, 3) := by decide +kernel
theorem dX6_reach_65 : decode cX6_reach 65 = .ok (.iload 4, 2) := by decide +kernel
theorem dX6_reach_67 : decode cX6_reach 67 = .ok (.iaload, 1) := by decide +kernel
theorem dX6_reach_68 : decode cX6_reach 68 = .ok (.invokevirtual 104, 3) := by decide +kernel
theorem dX6_reach_71 : decode cX6_reach 71 = .ok (.aload_n 0, 1) := by decide +kernel
theorem dX6_reach_72 : decode cX6_reach 72 = .ok (.iload 5, 2) := by decide +kernel
theorem dX6_reach_74 : decode cX6_reach 74 = .ok (.invokevirtual 97, 3) := by decide +kernel
theorem dX6_reach_77 : decode cX6_reach 77 = .ok (.ifCond .eq 38, 3) := by decide +kernel
theorem dX6_reach_80 : decode cX6_reach 80 = .ok (.aload_n 0, 1) := by decide +kernel
theorem dX6_reach_81 : decode cX6_reach 81 = .ok (.invokevirtual 108, 3) := by decide +kernel
theorem dX6_reach_84 : decode cX6_reach 84 = .ok (.istore 6, 2) := by decide +kernel
theorem dX6_reach_86 : decode cX6_reach 86 = .ok (.aload_n 0, 1) := by decide +kernel
theorem dX6_reach_87 : decode cX6_reach 87 = .ok (.getfield 46, 3) := by decide +kernel
theorem dX6_reach_90 : decode cX6_reach 90 = .ok (.iload 6, 2) := by decide +kernel
theorem dX6_reach_92 : decode cX6_reach 92 = .ok (.baload, 1) := by decide +kernel
theorem dX6_reach_93 : decode cX6_reach 93 = .ok (.ifCond .ne 22, 3) := by decide +kernel
theorem dX6_reach_96 : decode cX6_reach 96 = .ok (.aload_n 0, 1) := by decide +kernel
theorem dX6_reach_97 : decode cX6_reach 97 = .ok (.getfield 46, 3) := by decide +kernel
theorem dX6_reach_100 : decode cX6_reach 100 = .ok (.iload 6, 2) := by decide +kernel
theorem dX6_reach_102 : decode cX6_reach 102 = .ok (.iconst 1, 1) := by decide +kernel
theorem dX6_reach_103 : decode cX6_reach 103 = .ok (.bastore, 1) := by decide +kernel
theorem dX6_reach_104 : decode cX6_reach 104 = .ok (.aload_n 0, 1) := by decide +kernel
theorem dX6_reach_105 : decode cX6_reach 105 = .ok (.getfield 50, 3) := by decide +kernel
theorem dX6_reach_108 : decode cX6_reach 108 = .ok (.iload_n 3, 1) := by decide +kernel
theorem dX6_reach_109 : decode cX6_reach 109 = .ok (.iload 6, 2) := by decide +kernel
theorem dX6_reach_111 : decode cX6_reach 111 = .ok (.iastore, 1) := by decide +kernel
theorem dX6_reach_112 : decode cX6_reach 112 = .ok (.iinc 3 1, 3) := by decide +kernel
theorem dX6_reach_115 : decode cX6_reach 115 = .ok (.iinc 5 1, 3) := by decide +kernel
theorem dX6_reach_118 : decode cX6_reach 118 = .ok (.goto (-65), 3) := by decide +kernel
theorem dX6_reach_121 : decode cX6_reach 121 = .ok (.iinc 4 1, 3) := by decide +kernel
theorem dX6_reach_124 : decode cX6_reach 124 = .ok (.goto (-80), 3) := by decide +kernel
theorem dX6_reach_127 : decode cX6_reach 127 = .ok (.iload_n 3, 1) := by decide +kernel
theorem dX6_reach_128 : decode cX6_reach 128 = .ok (.ireturn, 1) := by decide +kernel
set_option maxRecDepth 20000 in
theorem ggX6_madeBy_X6_layState : GoodIn wsX6_madeBy wsX6_layState := goodIn_r _ [8, 2, 3, 9, 10, 11, 12, 13, 14, 15, 16, 17, 18, 19, 20, 21, 22, 23, 24, 25, 26, 27, 28, 29, 30, 31, 32, 33, 34, 35, 36, 37] (by decide +kernel) (by decide +kernel)
set_option maxRecDepth 20000 in
theorem gX6_madeBy_X6_layState : GoodIn wsX6_madeBy (wsV RX6 104 RX6 yX6_layState wsX6_layState) := goodIn_app (goodIn_of _ (by decide +kernel)) ggX6_madeBy_X6_layState
theorem dX6_madeBy_0 : decode cX6_madeBy 0 = .ok (.iconst 0, 1) := by decide +kernel
theorem dX6_madeBy_1 : decode cX6_madeBy 1 = .ok (.istore_n 2, 1) := by decide +kernel
theorem dX6_madeBy_2 : decode cX6_madeBy 2 = .ok (.iconst 0, 1) := by decide +kernel
theorem dX6_madeBy_3 : decode cX6_madeBy 3 = .ok (.istore_n 3, 1) := by decide +kernel
theorem dX6_madeBy_4 : decode cX6_madeBy 4 = .ok (.iload_n 3, 1) := by decide +kernel
theorem dX6_madeBy_5 : decode cX6_madeBy 5 = .ok (.iload_n 1, 1) := by decide +kernel
theorem dX6_madeBy_6 : decode cX6_madeBy 6 = .ok (.if_icmp .ge 49, 3) := by decide +kernel
theorem dX6_madeBy_9 : decode cX6_madeBy 9 = .ok (.aload_n 0, 1) := by decide +kernel
theorem dX6_madeBy_10 : decode cX6_madeBy 10 = .ok (.aload_n 0, 1) := by decide +kernel
theorem dX6_madeBy_11 : decode cX6_madeBy 11 = .ok (.getfield 50, 3) := by decide +kernel
theorem dX6_madeBy_14 : decode cX6_madeBy 14 = .ok (.iload_n 3, 1) := by decide +kernel
theorem dX6_madeBy_15 : decode cX6_madeBy 15 = .ok (.iaload, 1) := by decide +kernel
theorem dX6_madeBy_16 : decode cX6_madeBy 16 = .ok (.invokevirtual 104, 3) := by decide +kernel
theorem dX6_madeBy_19 : decode cX6_madeBy 19 = .ok (.iconst 0, 1) := by decide +kernel
theorem dX6_madeBy_20 : decode cX6_madeBy 20 = .ok (.istore 4, 2) := by decide +kernel
theorem dX6_madeBy_22 : decode cX6_madeBy 22 = .ok (.iload 4, 2) := by decide +kernel
theorem dX6_madeBy_24 : decode cX6_madeBy 24 = .ok (.aload_n 0, 1) := by decide +kernel
theorem dX6_madeBy_25 : decode cX6_madeBy 25 = .ok (.getfield 79, 3) := by decide +kernel
theorem dX6_madeBy_28 : decode cX6_madeBy 28 = .ok (.if_icmp .ge 21, 3) := by decide +kernel
theorem dX6_madeBy_31 : decode cX6_madeBy 31 = .ok (.iload_n 2, 1) := by decide +kernel
theorem dX6_madeBy_32 : decode cX6_madeBy 32 = .ok (.iconst 1, 1) := by decide +kernel
theorem dX6_madeBy_33 : decode cX6_madeBy 33 = .ok (.aload_n 0, 1) := by decide +kernel
theorem dX6_madeBy_34 : decode cX6_madeBy 34 = .ok (.getfield 29, 3) := by decide +kernel
theorem dX6_madeBy_37 : decode cX6_madeBy 37 = .ok (.iload 4, 2) := by decide +kernel
theorem dX6_madeBy_39 : decode cX6_madeBy 39 = .ok (.iaload, 1) := by decide +kernel
theorem dX6_madeBy_40 : decode cX6_madeBy 40 = .ok (.ishl, 1) := by decide +kernel
theorem dX6_madeBy_41 : decode cX6_madeBy 41 = .ok (.ior, 1) := by decide +kernel
theorem dX6_madeBy_42 : decode cX6_madeBy 42 = .ok (.istore_n 2, 1) := by decide +kernel
theorem dX6_madeBy_43 : decode cX6_madeBy 43 = .ok (.iinc 4 1, 3) := by decide +kernel
theorem dX6_madeBy_46 : decode cX6_madeBy 46 = .ok (.goto (-24), 3) := by decide +kernel
theorem dX6_madeBy_49 : decode cX6_madeBy 49 = .ok (.iinc 3 1, 3) := by decide +kernel
theorem dX6_madeBy_52 : decode cX6_madeBy 52 = .ok (.goto (-48), 3) := by decide +kernel
theorem dX6_madeBy_55 : decode cX6_madeBy 55 = .ok (.iload_n 2, 1) := by decide +kernel
theorem dX6_madeBy_56 : decode cX6_madeBy 56 = .ok (.ireturn, 1) := by decide +kernel
set_option maxRecDepth 20000 in
theorem ggX6_makes_X6_tryOwn : GoodIn wsX6_makes wsX6_tryOwn := goodIn_r _ [5, 6, 7, 8, 9, 10, 11, 12, 13, 14, 15, 44, 45, 46, 47, 48, 49, 50, 51, 52, 53, 54, 55, 56, 57, 58, 59, 60, 61, 62, 63, 64, 65, 66, 67, 68, 69, 70, 71] (by decide +kernel) (by decide +kernel)
set_option maxRecDepth 20000 in
theorem gX6_makes_X6_tryOwn : GoodIn wsX6_makes (wsV RX6 94 RX6 yX6_tryOwn wsX6_tryOwn) := goodIn_app (goodIn_of _ (by decide +kernel)) ggX6_makes_X6_tryOwn
set_option maxRecDepth 20000 in
theorem ggX6_makes_X6_numberOf : GoodIn wsX6_makes wsX6_numberOf := goodIn_r _ [19, 7, 12, 14, 44, 45, 46, 47, 48, 49, 50, 51, 52, 53, 54, 55, 56, 57, 58, 59, 60, 61, 62, 63, 64, 65, 66, 67, 68, 69, 70, 71] (by decide +kernel) (by decide +kernel)
set_option maxRecDepth 20000 in
theorem gX6_makes_X6_numberOf : GoodIn wsX6_makes (wsV RX6 108 RX6 yX6_numberOf wsX6_numberOf) := goodIn_app (goodIn_of _ (by decide +kernel)) ggX6_makes_X6_numberOf
set_option maxRecDepth 20000 in
theorem ggX6_makes_X6_reach : GoodIn wsX6_makes wsX6_reach := goodIn_r _ [23, 24, 25, 26, 27, 28, 4, 29, 7, 12, 30, 31, 32, 33, 14, 34, 35, 36, 37, 38, 9, 39, 11, 16, 17, 18, 19, 44, 45, 46, 47, 48, 49, 50, 51, 52, 53, 54, 55, 56, 57, 58, 59, 60, 61, 62, 63, 64, 65, 66, 67, 68, 69, 70, 71] (by decide +kernel) (by decide +kernel)
set_option maxRecDepth 20000 in
theorem gX6_makes_X6_reach : GoodIn wsX6_makes (wsV RX6 141 RX6 yX6_reach wsX6_reach) := goodIn_app (goodIn_of _ (by decide +kernel)) ggX6_makes_X6_reach
set_option maxRecDepth 20000 in
theorem ggX6_makes_X6_madeBy : GoodIn wsX6_makes wsX6_madeBy := goodIn_r _ [43, 25, 7, 14, 30, 31, 32, 4, 33, 12, 44, 45, 46, 47, 48, 49, 50, 51, 52, 53, 54, 55, 56, 57, 58, 59, 60, 61, 62, 63, 64, 65, 66, 67, 68, 69, 70, 71] (by decide +kernel) (by decide +kernel)
set_option maxRecDepth 20000 in
theorem gX6_makes_X6_madeBy : GoodIn wsX6_makes (wsV RX6 145 RX6 yX6_madeBy wsX6_madeBy) := goodIn_app (goodIn_of _ (by decide +kernel)) ggX6_makes_X6_madeBy
theorem dX6_makes_0 : decode cX6_makes 0 = .ok (.aload_n 0, 1) := by decide +kernel
theorem dX6_makes_1 : decode cX6_makes 1 = .ok (.invokevirtual 94, 3) := by decide +kernel
theorem dX6_makes_4 : decode cX6_makes 4 = .ok (.aload_n 0, 1) := by decide +kernel
theorem dX6_makes_5 : decode cX6_makes 5 = .ok (.aload_n 0, 1) := by decide +kernel
theorem dX6_makes_6 : decode cX6_makes 6 = .ok (.aload_n 0, 1) := by decide +kernel
theorem dX6_makes_7 : decode cX6_makes 7 = .ok (.invokevirtual 108, 3) := by decide +kernel
theorem dX6_makes_10 : decode cX6_makes 10 = .ok (.invokevirtual 141, 3) := by decide +kernel
theorem dX6_makes_13 : decode cX6_makes 13 = .ok (.invokevirtual 145, 3) := by decide +kernel
theorem dX6_makes_16 : decode cX6_makes 16 = .ok (.ireturn, 1) := by decide +kernel
set_option maxRecDepth 20000 in
theorem ggX6_reaches_X6_tryOwn : GoodIn wsX6_reaches wsX6_tryOwn := goodIn_r _ [5, 6, 7, 8, 9, 10, 11, 12, 13, 14, 15, 40, 41, 42, 43, 44, 45, 46, 47, 48, 49, 50, 51, 52, 53, 54, 55, 56, 57, 58, 59, 60, 61, 62, 63, 64, 65, 66, 67] (by decide +kernel) (by decide +kernel)
set_option maxRecDepth 20000 in
theorem gX6_reaches_X6_tryOwn : GoodIn wsX6_reaches (wsV RX6 94 RX6 yX6_tryOwn wsX6_tryOwn) := goodIn_app (goodIn_of _ (by decide +kernel)) ggX6_reaches_X6_tryOwn
set_option maxRecDepth 20000 in
theorem ggX6_reaches_X6_numberOf : GoodIn wsX6_reaches wsX6_numberOf := goodIn_r _ [19, 7, 12, 14, 40, 41, 42, 43, 44, 45, 46, 47, 48, 49, 50, 51, 52, 53, 54, 55, 56, 57, 58, 59, 60, 61, 62, 63, 64, 65, 66, 67] (by decide +kernel) (by decide +kernel)
set_option maxRecDepth 20000 in
theorem gX6_reaches_X6_numberOf : GoodIn wsX6_reaches (wsV RX6 108 RX6 yX6_numberOf wsX6_numberOf) := goodIn_app (goodIn_of _ (by decide +kernel)) ggX6_reaches_X6_numberOf
set_option maxRecDepth 20000 in
theorem ggX6_reaches_X6_reach : GoodIn wsX6_reaches wsX6_reach := goodIn_r _ [23, 24, 25, 26, 27, 28, 4, 29, 7, 12, 30, 31, 32, 33, 14, 34, 35, 36, 37, 38, 9, 39, 11, 16, 17, 18, 19, 40, 41, 42, 43, 44, 45, 46, 47, 48, 49, 50, 51, 52, 53, 54, 55, 56, 57, 58, 59, 60, 61, 62, 63, 64, 65, 66, 67] (by decide +kernel) (by decide +kernel)
set_option maxRecDepth 20000 in
theorem gX6_reaches_X6_reach : GoodIn wsX6_reaches (wsV RX6 141 RX6 yX6_reach wsX6_reach) := goodIn_app (goodIn_of _ (by decide +kernel)) ggX6_reaches_X6_reach
theorem dX6_reaches_0 : decode cX6_reaches 0 = .ok (.aload_n 0, 1) := by decide +kernel
theorem dX6_reaches_1 : decode cX6_reaches 1 = .ok (.invokevirtual 94, 3) := by decide +kernel
theorem dX6_reaches_4 : decode cX6_reaches 4 = .ok (.aload_n 0, 1) := by decide +kernel
theorem dX6_reaches_5 : decode cX6_reaches 5 = .ok (.aload_n 0, 1) := by decide +kernel
theorem dX6_reaches_6 : decode cX6_reaches 6 = .ok (.invokevirtual 108, 3) := by decide +kernel
theorem dX6_reaches_9 : decode cX6_reaches 9 = .ok (.invokevirtual 141, 3) := by decide +kernel
theorem dX6_reaches_12 : decode cX6_reaches 12 = .ok (.ireturn, 1) := by decide +kernel
set_option maxRecDepth 20000 in
theorem ggX6_road_X6_isJug : GoodIn wsX6_road wsX6_isJug := goodIn_r _ [7, 1, 8, 9, 6, 10, 11, 12, 13, 14, 15, 16, 17, 18, 19, 20, 21, 22, 23, 24, 25, 26, 27, 28, 29, 30, 31, 32, 33, 34, 35, 36, 37, 38] (by decide +kernel) (by decide +kernel)
set_option maxRecDepth 20000 in
theorem gX6_road_X6_isJug : GoodIn wsX6_road (wsV RX6 75 RX6 yX6_isJug wsX6_isJug) := goodIn_app (goodIn_of _ (by decide +kernel)) ggX6_road_X6_isJug
set_option maxRecDepth 20000 in
theorem ggX6_road_X6_in : GoodIn wsX6_road wsX6_in := goodIn_r _ [10] (by decide +kernel) (by decide +kernel)
set_option maxRecDepth 20000 in
theorem gX6_road_X6_in : GoodIn wsX6_road (va_wsS RX6 71 yX6_in wsX6_in) := goodIn_app (goodIn_of _ (by decide +kernel)) ggX6_road_X6_in
theorem dX6_road_0 : decode cX6_road 0 = .ok (.aload_n 0, 1) := by decide +kernel
theorem dX6_road_1 : decode cX6_road 1 = .ok (.iload_n 1, 1) := by decide +kernel
theorem dX6_road_2 : decode cX6_road 2 = .ok (.invokevirtual 75, 3) := by decide +kernel
theorem dX6_road_5 : decode cX6_road 5 = .ok (.ifCond .eq 13, 3) := by decide +kernel
theorem dX6_road_8 : decode cX6_road 8 = .ok (.iload_n 2, 1) := by decide +kernel
theorem dX6_road_9 : decode cX6_road 9 = .ok (.iconst 1, 1) := by decide +kernel
theorem dX6_road_10 : decode cX6_road 10 = .ok (.bipush 10, 2) := by decide +kernel
theorem dX6_road_12 : decode cX6_road 12 = .ok (.invokestatic 71, 3) := by decide +kernel
theorem dX6_road_15 : decode cX6_road 15 = .ok (.ifCond .ne 6, 3) := by decide +kernel
theorem dX6_road_18 : decode cX6_road 18 = .ok (.bipush (-2), 2) := by decide +kernel
theorem dX6_road_20 : decode cX6_road 20 = .ok (.ireturn, 1) := by decide +kernel
theorem dX6_road_21 : decode cX6_road 21 = .ok (.aload_n 0, 1) := by decide +kernel
theorem dX6_road_22 : decode cX6_road 22 = .ok (.getfield 67, 3) := by decide +kernel
theorem dX6_road_25 : decode cX6_road 25 = .ok (.iconst 2, 1) := by decide +kernel
theorem dX6_road_26 : decode cX6_road 26 = .ok (.if_icmp .eq 6, 3) := by decide +kernel
theorem dX6_road_29 : decode cX6_road 29 = .ok (.bipush (-3), 2) := by decide +kernel
theorem dX6_road_31 : decode cX6_road 31 = .ok (.ireturn, 1) := by decide +kernel
theorem dX6_road_32 : decode cX6_road 32 = .ok (.iconst 1, 1) := by decide +kernel
theorem dX6_road_33 : decode cX6_road 33 = .ok (.iload_n 1, 1) := by decide +kernel
theorem dX6_road_34 : decode cX6_road 34 = .ok (.isub, 1) := by decide +kernel
theorem dX6_road_35 : decode cX6_road 35 = .ok (.istore_n 3, 1) := by decide +kernel
theorem dX6_road_36 : decode cX6_road 36 = .ok (.iconst 0, 1) := by decide +kernel
theorem dX6_road_37 : decode cX6_road 37 = .ok (.istore 4, 2) := by decide +kernel
theorem dX6_road_39 : decode cX6_road 39 = .ok (.iconst 0, 1) := by decide +kernel
theorem dX6_road_40 : decode cX6_road 40 = .ok (.istore 5, 2) := by decide +kernel
theorem dX6_road_42 : decode cX6_road 42 = .ok (.iconst 0, 1) := by decide +kernel
theorem dX6_road_43 : decode cX6_road 43 = .ok (.istore 6, 2) := by decide +kernel
theorem dX6_road_45 : decode cX6_road 45 = .ok (.iload 5, 2) := by decide +kernel
theorem dX6_road_47 : decode cX6_road 47 = .ok (.aload_n 0, 1) := by decide +kernel
theorem dX6_road_48 : decode cX6_road 48 = .ok (.getfield 7, 3) := by decide +kernel
theorem dX6_road_51 : decode cX6_road 51 = .ok (.iload_n 3, 1) := by decide +kernel
theorem dX6_road_52 : decode cX6_road 52 = .ok (.iaload, 1) := by decide +kernel
theorem dX6_road_53 : decode cX6_road 53 = .ok (.if_icmp .ne 9, 3) := by decide +kernel
theorem dX6_road_56 : decode cX6_road 56 = .ok (.iconst 0, 1) := by decide +kernel
theorem dX6_road_57 : decode cX6_road 57 = .ok (.istore 5, 2) := by decide +kernel
theorem dX6_road_59 : decode cX6_road 59 = .ok (.goto 63, 3) := by decide +kernel
theorem dX6_road_62 : decode cX6_road 62 = .ok (.iload 4, 2) := by decide +kernel
theorem dX6_road_64 : decode cX6_road 64 = .ok (.ifCond .ne 14, 3) := by decide +kernel
theorem dX6_road_67 : decode cX6_road 67 = .ok (.aload_n 0, 1) := by decide +kernel
theorem dX6_road_68 : decode cX6_road 68 = .ok (.getfield 7, 3) := by decide +kernel
theorem dX6_road_71 : decode cX6_road 71 = .ok (.iload_n 1, 1) := by decide +kernel
theorem dX6_road_72 : decode cX6_road 72 = .ok (.iaload, 1) := by decide +kernel
theorem dX6_road_73 : decode cX6_road 73 = .ok (.istore 4, 2) := by decide +kernel
theorem dX6_road_75 : decode cX6_road 75 = .ok (.goto 47, 3) := by decide +kernel
theorem dX6_road_78 : decode cX6_road 78 = .ok (.iload 4, 2) := by decide +kernel
theorem dX6_road_80 : decode cX6_road 80 = .ok (.aload_n 0, 1) := by decide +kernel
theorem dX6_road_81 : decode cX6_road 81 = .ok (.getfield 7, 3) := by decide +kernel
theorem dX6_road_84 : decode cX6_road 84 = .ok (.iload_n 3, 1) := by decide +kernel
theorem dX6_road_85 : decode cX6_road 85 = .ok (.iaload, 1) := by decide +kernel
theorem dX6_road_86 : decode cX6_road 86 = .ok (.iload 5, 2) := by decide +kernel
theorem dX6_road_88 : decode cX6_road 88 = .ok (.isub, 1) := by decide +kernel
theorem dX6_road_89 : decode cX6_road 89 = .ok (.if_icmp .ge 8, 3) := by decide +kernel
theorem dX6_road_92 : decode cX6_road 92 = .ok (.iload 4, 2) := by decide +kernel
theorem dX6_road_94 : decode cX6_road 94 = .ok (.goto 12, 3) := by decide +kernel
theorem dX6_road_97 : decode cX6_road 97 = .ok (.aload_n 0, 1) := by decide +kernel
theorem dX6_road_98 : decode cX6_road 98 = .ok (.getfield 7, 3) := by decide +kernel
theorem dX6_road_101 : decode cX6_road 101 = .ok (.iload_n 3, 1) := by decide +kernel
theorem dX6_road_102 : decode cX6_road 102 = .ok (.iaload, 1) := by decide +kernel
theorem dX6_road_103 : decode cX6_road 103 = .ok (.iload 5, 2) := by decide +kernel
theorem dX6_road_105 : decode cX6_road 105 = .ok (.isub, 1) := by decide +kernel
theorem dX6_road_106 : decode cX6_road 106 = .ok (.istore 7, 2) := by decide +kernel
theorem dX6_road_108 : decode cX6_road 108 = .ok (.iload 4, 2) := by decide +kernel
theorem dX6_road_110 : decode cX6_road 110 = .ok (.iload 7, 2) := by decide +kernel
theorem dX6_road_112 : decode cX6_road 112 = .ok (.isub, 1) := by decide +kernel
theorem dX6_road_113 : decode cX6_road 113 = .ok (.istore 4, 2) := by decide +kernel
theorem dX6_road_115 : decode cX6_road 115 = .ok (.iload 5, 2) := by decide +kernel
theorem dX6_road_117 : decode cX6_road 117 = .ok (.iload 7, 2) := by decide +kernel
theorem dX6_road_119 : decode cX6_road 119 = .ok (.iadd, 1) := by decide +kernel
theorem dX6_road_120 : decode cX6_road 120 = .ok (.istore 5, 2) := by decide +kernel
theorem dX6_road_122 : decode cX6_road 122 = .ok (.iinc 6 1, 3) := by decide +kernel
theorem dX6_road_125 : decode cX6_road 125 = .ok (.iload 4, 2) := by decide +kernel
theorem dX6_road_127 : decode cX6_road 127 = .ok (.iload_n 2, 1) := by decide +kernel
theorem dX6_road_128 : decode cX6_road 128 = .ok (.if_icmp .eq 9, 3) := by decide +kernel
theorem dX6_road_131 : decode cX6_road 131 = .ok (.iload 5, 2) := by decide +kernel
theorem dX6_road_133 : decode cX6_road 133 = .ok (.iload_n 2, 1) := by decide +kernel
theorem dX6_road_134 : decode cX6_road 134 = .ok (.if_icmp .ne 6, 3) := by decide +kernel
theorem dX6_road_137 : decode cX6_road 137 = .ok (.iload 6, 2) := by decide +kernel
theorem dX6_road_139 : decode cX6_road 139 = .ok (.ireturn, 1) := by decide +kernel
theorem dX6_road_140 : decode cX6_road 140 = .ok (.iload 4, 2) := by decide +kernel
theorem dX6_road_142 : decode cX6_road 142 = .ok (.ifCond .ne (-97), 3) := by decide +kernel
theorem dX6_road_145 : decode cX6_road 145 = .ok (.iload 5, 2) := by decide +kernel
theorem dX6_road_147 : decode cX6_road 147 = .ok (.ifCond .ne (-102), 3) := by decide +kernel
theorem dX6_road_150 : decode cX6_road 150 = .ok (.iconst (-1), 1) := by decide +kernel
theorem dX6_road_151 : decode cX6_road 151 = .ok (.ireturn, 1) := by decide +kernel
set_option maxRecDepth 20000 in
theorem ggX6_makesAll_X6_numberOf : GoodIn wsX6_makesAll wsX6_numberOf := goodIn_r _ [7, 1, 8, 2, 35, 36, 37, 38, 39, 40, 41, 42, 43, 44, 45, 46, 47, 48, 49, 50, 51, 52, 53, 54, 55, 56, 57, 58, 59, 60, 61, 62] (by decide +kernel) (by decide +kernel)
set_option maxRecDepth 20000 in
theorem gX6_makesAll_X6_numberOf : GoodIn wsX6_makesAll (wsV RX6 108 RX6 yX6_numberOf wsX6_numberOf) := goodIn_app (goodIn_of _ (by decide +kernel)) ggX6_makesAll_X6_numberOf
set_option maxRecDepth 20000 in
theorem ggX6_makesAll_X6_reach : GoodIn wsX6_makesAll wsX6_reach := goodIn_r _ [12, 13, 14, 15, 16, 17, 6, 18, 1, 8, 19, 20, 21, 22, 2, 23, 24, 25, 26, 27, 28, 29, 30, 3, 4, 5, 7, 35, 36, 37, 38, 39, 40, 41, 42, 43, 44, 45, 46, 47, 48, 49, 50, 51, 52, 53, 54, 55, 56, 57, 58, 59, 60, 61, 62] (by decide +kernel) (by decide +kernel)
set_option maxRecDepth 20000 in
theorem gX6_makesAll_X6_reach : GoodIn wsX6_makesAll (wsV RX6 141 RX6 yX6_reach wsX6_reach) := goodIn_app (goodIn_of _ (by decide +kernel)) ggX6_makesAll_X6_reach
set_option maxRecDepth 20000 in
theorem ggX6_makesAll_X6_madeBy : GoodIn wsX6_makesAll wsX6_madeBy := goodIn_r _ [34, 14, 1, 2, 19, 20, 21, 6, 22, 8, 35, 36, 37, 38, 39, 40, 41, 42, 43, 44, 45, 46, 47, 48, 49, 50, 51, 52, 53, 54, 55, 56, 57, 58, 59, 60, 61, 62] (by decide +kernel) (by decide +kernel)
set_option maxRecDepth 20000 in
theorem gX6_makesAll_X6_madeBy : GoodIn wsX6_makesAll (wsV RX6 145 RX6 yX6_madeBy wsX6_madeBy) := goodIn_app (goodIn_of _ (by decide +kernel)) ggX6_makesAll_X6_madeBy
theorem dX6_makesAll_0 : decode cX6_makesAll 0 = .ok (.iconst 0, 1) := by decide +kernel
theorem dX6_makesAll_1 : decode cX6_makesAll 1 = .ok (.istore_n 2, 1) := by decide +kernel
theorem dX6_makesAll_2 : decode cX6_makesAll 2 = .ok (.iload_n 2, 1) := by decide +kernel
theorem dX6_makesAll_3 : decode cX6_makesAll 3 = .ok (.aload_n 0, 1) := by decide +kernel
theorem dX6_makesAll_4 : decode cX6_makesAll 4 = .ok (.getfield 79, 3) := by decide +kernel
theorem dX6_makesAll_7 : decode cX6_makesAll 7 = .ok (.if_icmp .ge 16, 3) := by decide +kernel
theorem dX6_makesAll_10 : decode cX6_makesAll 10 = .ok (.aload_n 0, 1) := by decide +kernel
theorem dX6_makesAll_11 : decode cX6_makesAll 11 = .ok (.getfield 29, 3) := by decide +kernel
theorem dX6_makesAll_14 : decode cX6_makesAll 14 = .ok (.iload_n 2, 1) := by decide +kernel
theorem dX6_makesAll_15 : decode cX6_makesAll 15 = .ok (.iconst 0, 1) := by decide +kernel
theorem dX6_makesAll_16 : decode cX6_makesAll 16 = .ok (.iastore, 1) := by decide +kernel
theorem dX6_makesAll_17 : decode cX6_makesAll 17 = .ok (.iinc 2 1, 3) := by decide +kernel
theorem dX6_makesAll_20 : decode cX6_makesAll 20 = .ok (.goto (-18), 3) := by decide +kernel
theorem dX6_makesAll_23 : decode cX6_makesAll 23 = .ok (.aload_n 0, 1) := by decide +kernel
theorem dX6_makesAll_24 : decode cX6_makesAll 24 = .ok (.aload_n 0, 1) := by decide +kernel
theorem dX6_makesAll_25 : decode cX6_makesAll 25 = .ok (.aload_n 0, 1) := by decide +kernel
theorem dX6_makesAll_26 : decode cX6_makesAll 26 = .ok (.invokevirtual 108, 3) := by decide +kernel
theorem dX6_makesAll_29 : decode cX6_makesAll 29 = .ok (.invokevirtual 141, 3) := by decide +kernel
theorem dX6_makesAll_32 : decode cX6_makesAll 32 = .ok (.invokevirtual 145, 3) := by decide +kernel
theorem dX6_makesAll_35 : decode cX6_makesAll 35 = .ok (.istore_n 2, 1) := by decide +kernel
theorem dX6_makesAll_36 : decode cX6_makesAll 36 = .ok (.iconst 1, 1) := by decide +kernel
theorem dX6_makesAll_37 : decode cX6_makesAll 37 = .ok (.iload_n 1, 1) := by decide +kernel
theorem dX6_makesAll_38 : decode cX6_makesAll 38 = .ok (.iconst 1, 1) := by decide +kernel
theorem dX6_makesAll_39 : decode cX6_makesAll 39 = .ok (.iadd, 1) := by decide +kernel
theorem dX6_makesAll_40 : decode cX6_makesAll 40 = .ok (.ishl, 1) := by decide +kernel
theorem dX6_makesAll_41 : decode cX6_makesAll 41 = .ok (.iconst 2, 1) := by decide +kernel
theorem dX6_makesAll_42 : decode cX6_makesAll 42 = .ok (.isub, 1) := by decide +kernel
theorem dX6_makesAll_43 : decode cX6_makesAll 43 = .ok (.istore_n 3, 1) := by decide +kernel
theorem dX6_makesAll_44 : decode cX6_makesAll 44 = .ok (.iload_n 2, 1) := by decide +kernel
theorem dX6_makesAll_45 : decode cX6_makesAll 45 = .ok (.iload_n 3, 1) := by decide +kernel
theorem dX6_makesAll_46 : decode cX6_makesAll 46 = .ok (.iand, 1) := by decide +kernel
theorem dX6_makesAll_47 : decode cX6_makesAll 47 = .ok (.iload_n 3, 1) := by decide +kernel
theorem dX6_makesAll_48 : decode cX6_makesAll 48 = .ok (.if_icmp .ne 7, 3) := by decide +kernel
theorem dX6_makesAll_51 : decode cX6_makesAll 51 = .ok (.iconst 1, 1) := by decide +kernel
theorem dX6_makesAll_52 : decode cX6_makesAll 52 = .ok (.goto 4, 3) := by decide +kernel
theorem dX6_makesAll_55 : decode cX6_makesAll 55 = .ok (.iconst 0, 1) := by decide +kernel
theorem dX6_makesAll_56 : decode cX6_makesAll 56 = .ok (.ireturn, 1) := by decide +kernel
theorem dX6_doRise_0 : decode cX6_doRise 0 = .ok (.iconst 1, 1) := by decide +kernel
theorem dX6_doRise_1 : decode cX6_doRise 1 = .ok (.istore_n 1, 1) := by decide +kernel
theorem dX6_doRise_2 : decode cX6_doRise 2 = .ok (.iconst 1, 1) := by decide +kernel
theorem dX6_doRise_3 : decode cX6_doRise 3 = .ok (.istore_n 2, 1) := by decide +kernel
theorem dX6_doRise_4 : decode cX6_doRise 4 = .ok (.iload_n 2, 1) := by decide +kernel
theorem dX6_doRise_5 : decode cX6_doRise 5 = .ok (.aload_n 0, 1) := by decide +kernel
theorem dX6_doRise_6 : decode cX6_doRise 6 = .ok (.getfield 79, 3) := by decide +kernel
theorem dX6_doRise_9 : decode cX6_doRise 9 = .ok (.if_icmp .ge 36, 3) := by decide +kernel
theorem dX6_doRise_12 : decode cX6_doRise 12 = .ok (.iload_n 1, 1) := by decide +kernel
theorem dX6_doRise_13 : decode cX6_doRise 13 = .ok (.ifCond .eq 24, 3) := by decide +kernel
theorem dX6_doRise_16 : decode cX6_doRise 16 = .ok (.aload_n 0, 1) := by decide +kernel
theorem dX6_doRise_17 : decode cX6_doRise 17 = .ok (.getfield 26, 3) := by decide +kernel
theorem dX6_doRise_20 : decode cX6_doRise 20 = .ok (.iload_n 2, 1) := by decide +kernel
theorem dX6_doRise_21 : decode cX6_doRise 21 = .ok (.iaload, 1) := by decide +kernel
theorem dX6_doRise_22 : decode cX6_doRise 22 = .ok (.aload_n 0, 1) := by decide +kernel
theorem dX6_doRise_23 : decode cX6_doRise 23 = .ok (.getfield 26, 3) := by decide +kernel
theorem dX6_doRise_26 : decode cX6_doRise 26 = .ok (.iload_n 2, 1) := by decide +kernel
theorem dX6_doRise_27 : decode cX6_doRise 27 = .ok (.iconst 1, 1) := by decide +kernel
theorem dX6_doRise_28 : decode cX6_doRise 28 = .ok (.isub, 1) := by decide +kernel
theorem dX6_doRise_29 : decode cX6_doRise 29 = .ok (.iaload, 1) := by decide +kernel
theorem dX6_doRise_30 : decode cX6_doRise 30 = .ok (.if_icmp .lt 7, 3) := by decide +kernel
theorem dX6_doRise_33 : decode cX6_doRise 33 = .ok (.iconst 1, 1) := by decide +kernel
theorem dX6_doRise_34 : decode cX6_doRise 34 = .ok (.goto 4, 3) := by decide +kernel
theorem dX6_doRise_37 : decode cX6_doRise 37 = .ok (.iconst 0, 1) := by decide +kernel
theorem dX6_doRise_38 : decode cX6_doRise 38 = .ok (.istore_n 1, 1) := by decide +kernel
theorem dX6_doRise_39 : decode cX6_doRise 39 = .ok (.iinc 2 1, 3) := by decide +kernel
theorem dX6_doRise_42 : decode cX6_doRise 42 = .ok (.goto (-38), 3) := by decide +kernel
theorem dX6_doRise_45 : decode cX6_doRise 45 = .ok (.iload_n 1, 1) := by decide +kernel
theorem dX6_doRise_46 : decode cX6_doRise 46 = .ok (.ireturn, 1) := by decide +kernel
set_option maxRecDepth 20000 in
theorem ggX6_sizes_X6_in : GoodIn wsX6_sizes wsX6_in := goodIn_r _ [8] (by decide +kernel) (by decide +kernel)
set_option maxRecDepth 20000 in
theorem gX6_sizes_X6_in : GoodIn wsX6_sizes (va_wsS RX6 71 yX6_in wsX6_in) := goodIn_app (goodIn_of _ (by decide +kernel)) ggX6_sizes_X6_in
set_option maxRecDepth 20000 in
theorem ggX6_sizes_X6_doRise : GoodIn wsX6_sizes wsX6_doRise := goodIn_r _ [12, 1, 4, 46, 47, 48, 49, 50, 51, 52, 53, 54, 55, 56, 57, 58, 59, 60, 61, 62, 63, 64, 65, 66, 67, 68, 69, 70, 71, 72, 73] (by decide +kernel) (by decide +kernel)
set_option maxRecDepth 20000 in
theorem gX6_sizes_X6_doRise : GoodIn wsX6_sizes (wsV RX6 148 RX6 yX6_doRise wsX6_doRise) := goodIn_app (goodIn_of _ (by decide +kernel)) ggX6_sizes_X6_doRise
set_option maxRecDepth 20000 in
theorem ggX6_sizes_X6_makesAll : GoodIn wsX6_sizes wsX6_makesAll := goodIn_r _ [16, 1, 17, 18, 19, 20, 7, 21, 4, 22, 23, 24, 25, 26, 27, 28, 29, 30, 31, 32, 33, 34, 35, 36, 37, 38, 39, 40, 2, 41, 3, 42, 43, 44, 45, 46, 47, 48, 49, 50, 51, 52, 53, 54, 55, 56, 57, 58, 59, 60, 61, 62, 63, 64, 65, 66, 67, 68, 69, 70, 71, 72, 73] (by decide +kernel) (by decide +kernel)
set_option maxRecDepth 20000 in
theorem gX6_sizes_X6_makesAll : GoodIn wsX6_sizes (wsV RX6 152 RX6 yX6_makesAll wsX6_makesAll) := goodIn_app (goodIn_of _ (by decide +kernel)) ggX6_sizes_X6_makesAll
theorem dX6_sizes_0 : decode cX6_sizes 0 = .ok (.iload_n 1, 1) := by decide +kernel
theorem dX6_sizes_1 : decode cX6_sizes 1 = .ok (.iconst 1, 1) := by decide +kernel
theorem dX6_sizes_2 : decode cX6_sizes 2 = .ok (.iconst 3, 1) := by decide +kernel
theorem dX6_sizes_3 : decode cX6_sizes 3 = .ok (.invokestatic 71, 3) := by decide +kernel
theorem dX6_sizes_6 : decode cX6_sizes 6 = .ok (.ifCond .eq 24, 3) := by decide +kernel
theorem dX6_sizes_9 : decode cX6_sizes 9 = .ok (.iload_n 2, 1) := by decide +kernel
theorem dX6_sizes_10 : decode cX6_sizes 10 = .ok (.iconst 1, 1) := by decide +kernel
theorem dX6_sizes_11 : decode cX6_sizes 11 = .ok (.bipush 10, 2) := by decide +kernel
theorem dX6_sizes_13 : decode cX6_sizes 13 = .ok (.invokestatic 71, 3) := by decide +kernel
theorem dX6_sizes_16 : decode cX6_sizes 16 = .ok (.ifCond .eq 14, 3) := by decide +kernel
theorem dX6_sizes_19 : decode cX6_sizes 19 = .ok (.iload_n 3, 1) := by decide +kernel
theorem dX6_sizes_20 : decode cX6_sizes 20 = .ok (.iconst 0, 1) := by decide +kernel
theorem dX6_sizes_21 : decode cX6_sizes 21 = .ok (.iload_n 1, 1) := by decide +kernel
theorem dX6_sizes_22 : decode cX6_sizes 22 = .ok (.iconst 1, 1) := by decide +kernel
theorem dX6_sizes_23 : decode cX6_sizes 23 = .ok (.isub, 1) := by decide +kernel
theorem dX6_sizes_24 : decode cX6_sizes 24 = .ok (.invokestatic 71, 3) := by decide +kernel
theorem dX6_sizes_27 : decode cX6_sizes 27 = .ok (.ifCond .ne 6, 3) := by decide +kernel
theorem dX6_sizes_30 : decode cX6_sizes 30 = .ok (.bipush (-2), 2) := by decide +kernel
theorem dX6_sizes_32 : decode cX6_sizes 32 = .ok (.ireturn, 1) := by decide +kernel
theorem dX6_sizes_33 : decode cX6_sizes 33 = .ok (.aload_n 0, 1) := by decide +kernel
theorem dX6_sizes_34 : decode cX6_sizes 34 = .ok (.iload_n 1, 1) := by decide +kernel
theorem dX6_sizes_35 : decode cX6_sizes 35 = .ok (.putfield 79, 3) := by decide +kernel
theorem dX6_sizes_38 : decode cX6_sizes 38 = .ok (.aload_n 0, 1) := by decide +kernel
theorem dX6_sizes_39 : decode cX6_sizes 39 = .ok (.iconst 1, 1) := by decide +kernel
theorem dX6_sizes_40 : decode cX6_sizes 40 = .ok (.putfield 82, 3) := by decide +kernel
theorem dX6_sizes_43 : decode cX6_sizes 43 = .ok (.aload_n 0, 1) := by decide +kernel
theorem dX6_sizes_44 : decode cX6_sizes 44 = .ok (.iconst 1, 1) := by decide +kernel
theorem dX6_sizes_45 : decode cX6_sizes 45 = .ok (.putfield 85, 3) := by decide +kernel
theorem dX6_sizes_48 : decode cX6_sizes 48 = .ok (.iload_n 1, 1) := by decide +kernel
theorem dX6_sizes_49 : decode cX6_sizes 49 = .ok (.iconst 1, 1) := by decide +kernel
theorem dX6_sizes_50 : decode cX6_sizes 50 = .ok (.if_icmp .ne 8, 3) := by decide +kernel
theorem dX6_sizes_53 : decode cX6_sizes 53 = .ok (.bipush 10, 2) := by decide +kernel
theorem dX6_sizes_55 : decode cX6_sizes 55 = .ok (.goto 16, 3) := by decide +kernel
theorem dX6_sizes_58 : decode cX6_sizes 58 = .ok (.iload_n 1, 1) := by decide +kernel
theorem dX6_sizes_59 : decode cX6_sizes 59 = .ok (.iconst 2, 1) := by decide +kernel
theorem dX6_sizes_60 : decode cX6_sizes 60 = .ok (.if_icmp .ne 8, 3) := by decide +kernel
theorem dX6_sizes_63 : decode cX6_sizes 63 = .ok (.bipush 100, 2) := by decide +kernel
theorem dX6_sizes_65 : decode cX6_sizes 65 = .ok (.goto 6, 3) := by decide +kernel
theorem dX6_sizes_68 : decode cX6_sizes 68 = .ok (.sipush 1000, 3) := by decide +kernel
theorem dX6_sizes_71 : decode cX6_sizes 71 = .ok (.istore 4, 2) := by decide +kernel
theorem dX6_sizes_73 : decode cX6_sizes 73 = .ok (.iload_n 1, 1) := by decide +kernel
theorem dX6_sizes_74 : decode cX6_sizes 74 = .ok (.istore 5, 2) := by decide +kernel
theorem dX6_sizes_76 : decode cX6_sizes 76 = .ok (.iload 5, 2) := by decide +kernel
theorem dX6_sizes_78 : decode cX6_sizes 78 = .ok (.bipush 10, 2) := by decide +kernel
theorem dX6_sizes_80 : decode cX6_sizes 80 = .ok (.iload_n 1, 1) := by decide +kernel
theorem dX6_sizes_81 : decode cX6_sizes 81 = .ok (.imul, 1) := by decide +kernel
theorem dX6_sizes_82 : decode cX6_sizes 82 = .ok (.if_icmp .gt 110, 3) := by decide +kernel
theorem dX6_sizes_85 : decode cX6_sizes 85 = .ok (.iconst 0, 1) := by decide +kernel
theorem dX6_sizes_86 : decode cX6_sizes 86 = .ok (.istore 6, 2) := by decide +kernel
theorem dX6_sizes_88 : decode cX6_sizes 88 = .ok (.iload 6, 2) := by decide +kernel
theorem dX6_sizes_90 : decode cX6_sizes 90 = .ok (.iload 4, 2) := by decide +kernel
theorem dX6_sizes_92 : decode cX6_sizes 92 = .ok (.if_icmp .ge 94, 3) := by decide +kernel
theorem dX6_sizes_95 : decode cX6_sizes 95 = .ok (.iload 6, 2) := by decide +kernel
theorem dX6_sizes_97 : decode cX6_sizes 97 = .ok (.istore 7, 2) := by decide +kernel
theorem dX6_sizes_99 : decode cX6_sizes 99 = .ok (.iconst 0, 1) := by decide +kernel
theorem dX6_sizes_100 : decode cX6_sizes 100 = .ok (.istore 8, 2) := by decide +kernel
theorem dX6_sizes_102 : decode cX6_sizes 102 = .ok (.iload_n 1, 1) := by decide +kernel
theorem dX6_sizes_103 : decode cX6_sizes 103 = .ok (.iconst 1, 1) := by decide +kernel
theorem dX6_sizes_104 : decode cX6_sizes 104 = .ok (.isub, 1) := by decide +kernel
theorem dX6_sizes_105 : decode cX6_sizes 105 = .ok (.istore 9, 2) := by decide +kernel
theorem dX6_sizes_107 : decode cX6_sizes 107 = .ok (.iload 9, 2) := by decide +kernel
theorem dX6_sizes_109 : decode cX6_sizes 109 = .ok (.ifCond .lt 42, 3) := by decide +kernel
theorem dX6_sizes_112 : decode cX6_sizes 112 = .ok (.aload_n 0, 1) := by decide +kernel
theorem dX6_sizes_113 : decode cX6_sizes 113 = .ok (.getfield 26, 3) := by decide +kernel
theorem dX6_sizes_116 : decode cX6_sizes 116 = .ok (.iload 9, 2) := by decide +kernel
theorem dX6_sizes_118 : decode cX6_sizes 118 = .ok (.iconst 1, 1) := by decide +kernel
theorem dX6_sizes_119 : decode cX6_sizes 119 = .ok (.iload 7, 2) := by decide +kernel
theorem dX6_sizes_121 : decode cX6_sizes 121 = .ok (.bipush 10, 2) := by decide +kernel
theorem dX6_sizes_123 : decode cX6_sizes 123 = .ok (.irem, 1) := by decide +kernel
theorem dX6_sizes_124 : decode cX6_sizes 124 = .ok (.iadd, 1) := by decide +kernel
theorem dX6_sizes_125 : decode cX6_sizes 125 = .ok (.iastore, 1) := by decide +kernel
theorem dX6_sizes_126 : decode cX6_sizes 126 = .ok (.iload 7, 2) := by decide +kernel
theorem dX6_sizes_128 : decode cX6_sizes 128 = .ok (.bipush 10, 2) := by decide +kernel
theorem dX6_sizes_130 : decode cX6_sizes 130 = .ok (.idiv, 1) := by decide +kernel
theorem dX6_sizes_131 : decode cX6_sizes 131 = .ok (.istore 7, 2) := by decide +kernel
theorem dX6_sizes_133 : decode cX6_sizes 133 = .ok (.iload 8, 2) := by decide +kernel
theorem dX6_sizes_135 : decode cX6_sizes 135 = .ok (.aload_n 0, 1) := by decide +kernel
theorem dX6_sizes_136 : decode cX6_sizes 136 = .ok (.getfield 26, 3) := by decide +kernel
theorem dX6_sizes_139 : decode cX6_sizes 139 = .ok (.iload 9, 2) := by decide +kernel
theorem dX6_sizes_141 : decode cX6_sizes 141 = .ok (.iaload, 1) := by decide +kernel
theorem dX6_sizes_142 : decode cX6_sizes 142 = .ok (.iadd, 1) := by decide +kernel
theorem dX6_sizes_143 : decode cX6_sizes 143 = .ok (.istore 8, 2) := by decide +kernel
theorem dX6_sizes_145 : decode cX6_sizes 145 = .ok (.iinc 9 (-1), 3) := by decide +kernel
theorem dX6_sizes_148 : decode cX6_sizes 148 = .ok (.goto (-41), 3) := by decide +kernel
theorem dX6_sizes_151 : decode cX6_sizes 151 = .ok (.iload 8, 2) := by decide +kernel
theorem dX6_sizes_153 : decode cX6_sizes 153 = .ok (.iload 5, 2) := by decide +kernel
theorem dX6_sizes_155 : decode cX6_sizes 155 = .ok (.if_icmp .ne 25, 3) := by decide +kernel
theorem dX6_sizes_158 : decode cX6_sizes 158 = .ok (.aload_n 0, 1) := by decide +kernel
theorem dX6_sizes_159 : decode cX6_sizes 159 = .ok (.invokevirtual 148, 3) := by decide +kernel
theorem dX6_sizes_162 : decode cX6_sizes 162 = .ok (.ifCond .eq 18, 3) := by decide +kernel
theorem dX6_sizes_165 : decode cX6_sizes 165 = .ok (.aload_n 0, 1) := by decide +kernel
theorem dX6_sizes_166 : decode cX6_sizes 166 = .ok (.iload_n 2, 1) := by decide +kernel
theorem dX6_sizes_167 : decode cX6_sizes 167 = .ok (.invokevirtual 152, 3) := by decide +kernel
theorem dX6_sizes_170 : decode cX6_sizes 170 = .ok (.ifCond .eq 10, 3) := by decide +kernel
theorem dX6_sizes_173 : decode cX6_sizes 173 = .ok (.aload_n 0, 1) := by decide +kernel
theorem dX6_sizes_174 : decode cX6_sizes 174 = .ok (.getfield 26, 3) := by decide +kernel
theorem dX6_sizes_177 : decode cX6_sizes 177 = .ok (.iload_n 3, 1) := by decide +kernel
theorem dX6_sizes_178 : decode cX6_sizes 178 = .ok (.iaload, 1) := by decide +kernel
theorem dX6_sizes_179 : decode cX6_sizes 179 = .ok (.ireturn, 1) := by decide +kernel
theorem dX6_sizes_180 : decode cX6_sizes 180 = .ok (.iinc 6 1, 3) := by decide +kernel
theorem dX6_sizes_183 : decode cX6_sizes 183 = .ok (.goto (-95), 3) := by decide +kernel
theorem dX6_sizes_186 : decode cX6_sizes 186 = .ok (.iinc 5 1, 3) := by decide +kernel
theorem dX6_sizes_189 : decode cX6_sizes 189 = .ok (.goto (-113), 3) := by decide +kernel
theorem dX6_sizes_192 : decode cX6_sizes 192 = .ok (.iconst (-1), 1) := by decide +kernel
theorem dX6_sizes_193 : decode cX6_sizes 193 = .ok (.ireturn, 1) := by decide +kernel
set_option maxRecDepth 20000 in
theorem ggX6_glass_X6_in : GoodIn wsX6_glass wsX6_in := goodIn_r _ [6] (by decide +kernel) (by decide +kernel)
set_option maxRecDepth 20000 in
theorem gX6_glass_X6_in : GoodIn wsX6_glass (va_wsS RX6 71 yX6_in wsX6_in) := goodIn_app (goodIn_of _ (by decide +kernel)) ggX6_glass_X6_in
theorem dX6_glass_0 : decode cX6_glass 0 = .ok (.iload_n 1, 1) := by decide +kernel
theorem dX6_glass_1 : decode cX6_glass 1 = .ok (.iconst 1, 1) := by decide +kernel
theorem dX6_glass_2 : decode cX6_glass 2 = .ok (.bipush 12, 2) := by decide +kernel
theorem dX6_glass_4 : decode cX6_glass 4 = .ok (.invokestatic 71, 3) := by decide +kernel
theorem dX6_glass_7 : decode cX6_glass 7 = .ok (.ifCond .ne 6, 3) := by decide +kernel
theorem dX6_glass_10 : decode cX6_glass 10 = .ok (.bipush (-2), 2) := by decide +kernel
theorem dX6_glass_12 : decode cX6_glass 12 = .ok (.ireturn, 1) := by decide +kernel
theorem dX6_glass_13 : decode cX6_glass 13 = .ok (.aload_n 0, 1) := by decide +kernel
theorem dX6_glass_14 : decode cX6_glass 14 = .ok (.getfield 155, 3) := by decide +kernel
theorem dX6_glass_17 : decode cX6_glass 17 = .ok (.iconst 3, 1) := by decide +kernel
theorem dX6_glass_18 : decode cX6_glass 18 = .ok (.if_icmp .ne 6, 3) := by decide +kernel
theorem dX6_glass_21 : decode cX6_glass 21 = .ok (.bipush (-4), 2) := by decide +kernel
theorem dX6_glass_23 : decode cX6_glass 23 = .ok (.ireturn, 1) := by decide +kernel
theorem dX6_glass_24 : decode cX6_glass 24 = .ok (.aload_n 0, 1) := by decide +kernel
theorem dX6_glass_25 : decode cX6_glass 25 = .ok (.getfield 23, 3) := by decide +kernel
theorem dX6_glass_28 : decode cX6_glass 28 = .ok (.aload_n 0, 1) := by decide +kernel
theorem dX6_glass_29 : decode cX6_glass 29 = .ok (.getfield 155, 3) := by decide +kernel
theorem dX6_glass_32 : decode cX6_glass 32 = .ok (.iload_n 1, 1) := by decide +kernel
theorem dX6_glass_33 : decode cX6_glass 33 = .ok (.iastore, 1) := by decide +kernel
theorem dX6_glass_34 : decode cX6_glass 34 = .ok (.aload_n 0, 1) := by decide +kernel
theorem dX6_glass_35 : decode cX6_glass 35 = .ok (.dup, 1) := by decide +kernel
theorem dX6_glass_36 : decode cX6_glass 36 = .ok (.getfield 155, 3) := by decide +kernel
theorem dX6_glass_39 : decode cX6_glass 39 = .ok (.iconst 1, 1) := by decide +kernel
theorem dX6_glass_40 : decode cX6_glass 40 = .ok (.iadd, 1) := by decide +kernel
theorem dX6_glass_41 : decode cX6_glass 41 = .ok (.putfield 155, 3) := by decide +kernel
theorem dX6_glass_44 : decode cX6_glass 44 = .ok (.aload_n 0, 1) := by decide +kernel
theorem dX6_glass_45 : decode cX6_glass 45 = .ok (.getfield 155, 3) := by decide +kernel
theorem dX6_glass_48 : decode cX6_glass 48 = .ok (.iconst 1, 1) := by decide +kernel
theorem dX6_glass_49 : decode cX6_glass 49 = .ok (.isub, 1) := by decide +kernel
theorem dX6_glass_50 : decode cX6_glass 50 = .ok (.ireturn, 1) := by decide +kernel
theorem dX6_smash_0 : decode cX6_smash 0 = .ok (.aload_n 0, 1) := by decide +kernel
theorem dX6_smash_1 : decode cX6_smash 1 = .ok (.getfield 155, 3) := by decide +kernel
theorem dX6_smash_4 : decode cX6_smash 4 = .ok (.istore_n 1, 1) := by decide +kernel
theorem dX6_smash_5 : decode cX6_smash 5 = .ok (.aload_n 0, 1) := by decide +kernel
theorem dX6_smash_6 : decode cX6_smash 6 = .ok (.iconst 0, 1) := by decide +kernel
theorem dX6_smash_7 : decode cX6_smash 7 = .ok (.putfield 155, 3) := by decide +kernel
theorem dX6_smash_10 : decode cX6_smash 10 = .ok (.iload_n 1, 1) := by decide +kernel
theorem dX6_smash_11 : decode cX6_smash 11 = .ok (.ireturn, 1) := by decide +kernel
theorem dX6_after_0 : decode cX6_after 0 = .ok (.iload_n 1, 1) := by decide +kernel
theorem dX6_after_1 : decode cX6_after 1 = .ok (.istore_n 3, 1) := by decide +kernel
theorem dX6_after_2 : decode cX6_after 2 = .ok (.ldc 111, 2) := by decide +kernel
theorem dX6_after_4 : decode cX6_after 4 = .ok (.istore 4, 2) := by decide +kernel
theorem dX6_after_6 : decode cX6_after 6 = .ok (.aload_n 0, 1) := by decide +kernel
theorem dX6_after_7 : decode cX6_after 7 = .ok (.iconst 0, 1) := by decide +kernel
theorem dX6_after_8 : decode cX6_after 8 = .ok (.putfield 158, 3) := by decide +kernel
theorem dX6_after_11 : decode cX6_after 11 = .ok (.iconst 0, 1) := by decide +kernel
theorem dX6_after_12 : decode cX6_after 12 = .ok (.istore 5, 2) := by decide +kernel
theorem dX6_after_14 : decode cX6_after 14 = .ok (.iload 5, 2) := by decide +kernel
theorem dX6_after_16 : decode cX6_after 16 = .ok (.iconst 3, 1) := by decide +kernel
theorem dX6_after_17 : decode cX6_after 17 = .ok (.if_icmp .ge 108, 3) := by decide +kernel
theorem dX6_after_20 : decode cX6_after 20 = .ok (.iload_n 3, 1) := by decide +kernel
theorem dX6_after_21 : decode cX6_after 21 = .ok (.bipush 13, 2) := by decide +kernel
theorem dX6_after_23 : decode cX6_after 23 = .ok (.irem, 1) := by decide +kernel
theorem dX6_after_24 : decode cX6_after 24 = .ok (.istore 6, 2) := by decide +kernel
theorem dX6_after_26 : decode cX6_after 26 = .ok (.iload_n 3, 1) := by decide +kernel
theorem dX6_after_27 : decode cX6_after 27 = .ok (.bipush 13, 2) := by decide +kernel
theorem dX6_after_29 : decode cX6_after 29 = .ok (.idiv, 1) := by decide +kernel
theorem dX6_after_30 : decode cX6_after 30 = .ok (.istore_n 3, 1) := by decide +kernel
theorem dX6_after_31 : decode cX6_after 31 = .ok (.iload 5, 2) := by decide +kernel
theorem dX6_after_33 : decode cX6_after 33 = .ok (.aload_n 0, 1) := by decide +kernel
theorem dX6_after_34 : decode cX6_after 34 = .ok (.getfield 155, 3) := by decide +kernel
theorem dX6_after_37 : decode cX6_after 37 = .ok (.if_icmp .ge 82, 3) := by decide +kernel
theorem dX6_after_40 : decode cX6_after 40 = .ok (.iload_n 2, 1) := by decide +kernel
theorem dX6_after_41 : decode cX6_after 41 = .ok (.iload 5, 2) := by decide +kernel
theorem dX6_after_43 : decode cX6_after 43 = .ok (.ishr, 1) := by decide +kernel
theorem dX6_after_44 : decode cX6_after 44 = .ok (.iconst 1, 1) := by decide +kernel
theorem dX6_after_45 : decode cX6_after 45 = .ok (.iand, 1) := by decide +kernel
theorem dX6_after_46 : decode cX6_after 46 = .ok (.iconst 1, 1) := by decide +kernel
theorem dX6_after_47 : decode cX6_after 47 = .ok (.if_icmp .ne 7, 3) := by decide +kernel
theorem dX6_after_50 : decode cX6_after 50 = .ok (.iconst 1, 1) := by decide +kernel
theorem dX6_after_51 : decode cX6_after 51 = .ok (.goto 4, 3) := by decide +kernel
theorem dX6_after_54 : decode cX6_after 54 = .ok (.iconst 0, 1) := by decide +kernel
theorem dX6_after_55 : decode cX6_after 55 = .ok (.istore 7, 2) := by decide +kernel
theorem dX6_after_57 : decode cX6_after 57 = .ok (.iload 7, 2) := by decide +kernel
theorem dX6_after_59 : decode cX6_after 59 = .ok (.ifCond .eq 16, 3) := by decide +kernel
theorem dX6_after_62 : decode cX6_after 62 = .ok (.aload_n 0, 1) := by decide +kernel
theorem dX6_after_63 : decode cX6_after 63 = .ok (.getfield 23, 3) := by decide +kernel
theorem dX6_after_66 : decode cX6_after 66 = .ok (.iload 5, 2) := by decide +kernel
theorem dX6_after_68 : decode cX6_after 68 = .ok (.iaload, 1) := by decide +kernel
theorem dX6_after_69 : decode cX6_after 69 = .ok (.iload 6, 2) := by decide +kernel
theorem dX6_after_71 : decode cX6_after 71 = .ok (.isub, 1) := by decide +kernel
theorem dX6_after_72 : decode cX6_after 72 = .ok (.goto 5, 3) := by decide +kernel
theorem dX6_after_75 : decode cX6_after 75 = .ok (.iload 6, 2) := by decide +kernel
theorem dX6_after_77 : decode cX6_after 77 = .ok (.istore 6, 2) := by decide +kernel
theorem dX6_after_79 : decode cX6_after 79 = .ok (.aload_n 0, 1) := by decide +kernel
theorem dX6_after_80 : decode cX6_after 80 = .ok (.dup, 1) := by decide +kernel
theorem dX6_after_81 : decode cX6_after 81 = .ok (.getfield 158, 3) := by decide +kernel
theorem dX6_after_84 : decode cX6_after 84 = .ok (.iload 7, 2) := by decide +kernel
theorem dX6_after_86 : decode cX6_after 86 = .ok (.ifCond .eq 7, 3) := by decide +kernel
theorem dX6_after_89 : decode cX6_after 89 = .ok (.iconst 1, 1) := by decide +kernel
theorem dX6_after_90 : decode cX6_after 90 = .ok (.goto 4, 3) := by decide +kernel
theorem dX6_after_93 : decode cX6_after 93 = .ok (.iconst 0, 1) := by decide +kernel
theorem dX6_after_94 : decode cX6_after 94 = .ok (.iadd, 1) := by decide +kernel
theorem dX6_after_95 : decode cX6_after 95 = .ok (.putfield 158, 3) := by decide +kernel
theorem dX6_after_98 : decode cX6_after 98 = .ok (.iload 6, 2) := by decide +kernel
theorem dX6_after_100 : decode cX6_after 100 = .ok (.ifCond .le 15, 3) := by decide +kernel
theorem dX6_after_103 : decode cX6_after 103 = .ok (.iload 6, 2) := by decide +kernel
theorem dX6_after_105 : decode cX6_after 105 = .ok (.iload 4, 2) := by decide +kernel
theorem dX6_after_107 : decode cX6_after 107 = .ok (.if_icmp .ge 8, 3) := by decide +kernel
theorem dX6_after_110 : decode cX6_after 110 = .ok (.iload 6, 2) := by decide +kernel
theorem dX6_after_112 : decode cX6_after 112 = .ok (.goto 5, 3) := by decide +kernel
theorem dX6_after_115 : decode cX6_after 115 = .ok (.iload 4, 2) := by decide +kernel
theorem dX6_after_117 : decode cX6_after 117 = .ok (.istore 4, 2) := by decide +kernel
theorem dX6_after_119 : decode cX6_after 119 = .ok (.iinc 5 1, 3) := by decide +kernel
theorem dX6_after_122 : decode cX6_after 122 = .ok (.goto (-108), 3) := by decide +kernel
theorem dX6_after_125 : decode cX6_after 125 = .ok (.iload 4, 2) := by decide +kernel
theorem dX6_after_127 : decode cX6_after 127 = .ok (.ldc 111, 2) := by decide +kernel
theorem dX6_after_129 : decode cX6_after 129 = .ok (.if_icmp .ne 5, 3) := by decide +kernel
theorem dX6_after_132 : decode cX6_after 132 = .ok (.iconst (-1), 1) := by decide +kernel
theorem dX6_after_133 : decode cX6_after 133 = .ok (.ireturn, 1) := by decide +kernel
theorem dX6_after_134 : decode cX6_after 134 = .ok (.aload_n 0, 1) := by decide +kernel
theorem dX6_after_135 : decode cX6_after 135 = .ok (.iload 4, 2) := by decide +kernel
theorem dX6_after_137 : decode cX6_after 137 = .ok (.putfield 161, 3) := by decide +kernel
theorem dX6_after_140 : decode cX6_after 140 = .ok (.iload_n 1, 1) := by decide +kernel
theorem dX6_after_141 : decode cX6_after 141 = .ok (.istore_n 3, 1) := by decide +kernel
theorem dX6_after_142 : decode cX6_after 142 = .ok (.iconst 0, 1) := by decide +kernel
theorem dX6_after_143 : decode cX6_after 143 = .ok (.istore 5, 2) := by decide +kernel
theorem dX6_after_145 : decode cX6_after 145 = .ok (.iconst 1, 1) := by decide +kernel
theorem dX6_after_146 : decode cX6_after 146 = .ok (.istore 6, 2) := by decide +kernel
theorem dX6_after_148 : decode cX6_after 148 = .ok (.iconst 0, 1) := by decide +kernel
theorem dX6_after_149 : decode cX6_after 149 = .ok (.istore 7, 2) := by decide +kernel
theorem dX6_after_151 : decode cX6_after 151 = .ok (.iload 7, 2) := by decide +kernel
theorem dX6_after_153 : decode cX6_after 153 = .ok (.aload_n 0, 1) := by decide +kernel
theorem dX6_after_154 : decode cX6_after 154 = .ok (.getfield 155, 3) := by decide +kernel
theorem dX6_after_157 : decode cX6_after 157 = .ok (.if_icmp .ge 78, 3) := by decide +kernel
theorem dX6_after_160 : decode cX6_after 160 = .ok (.iload_n 3, 1) := by decide +kernel
theorem dX6_after_161 : decode cX6_after 161 = .ok (.bipush 13, 2) := by decide +kernel
theorem dX6_after_163 : decode cX6_after 163 = .ok (.irem, 1) := by decide +kernel
theorem dX6_after_164 : decode cX6_after 164 = .ok (.istore 8, 2) := by decide +kernel
theorem dX6_after_166 : decode cX6_after 166 = .ok (.iload_n 3, 1) := by decide +kernel
theorem dX6_after_167 : decode cX6_after 167 = .ok (.bipush 13, 2) := by decide +kernel
theorem dX6_after_169 : decode cX6_after 169 = .ok (.idiv, 1) := by decide +kernel
theorem dX6_after_170 : decode cX6_after 170 = .ok (.istore_n 3, 1) := by decide +kernel
theorem dX6_after_171 : decode cX6_after 171 = .ok (.iload_n 2, 1) := by decide +kernel
theorem dX6_after_172 : decode cX6_after 172 = .ok (.iload 7, 2) := by decide +kernel
theorem dX6_after_174 : decode cX6_after 174 = .ok (.ishr, 1) := by decide +kernel
theorem dX6_after_175 : decode cX6_after 175 = .ok (.iconst 1, 1) := by decide +kernel
theorem dX6_after_176 : decode cX6_after 176 = .ok (.iand, 1) := by decide +kernel
theorem dX6_after_177 : decode cX6_after 177 = .ok (.iconst 1, 1) := by decide +kernel
theorem dX6_after_178 : decode cX6_after 178 = .ok (.if_icmp .ne 16, 3) := by decide +kernel
theorem dX6_after_181 : decode cX6_after 181 = .ok (.aload_n 0, 1) := by decide +kernel
theorem dX6_after_182 : decode cX6_after 182 = .ok (.getfield 23, 3) := by decide +kernel
theorem dX6_after_185 : decode cX6_after 185 = .ok (.iload 7, 2) := by decide +kernel
theorem dX6_after_187 : decode cX6_after 187 = .ok (.iaload, 1) := by decide +kernel
theorem dX6_after_188 : decode cX6_after 188 = .ok (.iload 8, 2) := by decide +kernel
theorem dX6_after_190 : decode cX6_after 190 = .ok (.isub, 1) := by decide +kernel
theorem dX6_after_191 : decode cX6_after 191 = .ok (.goto 5, 3) := by decide +kernel
theorem dX6_after_194 : decode cX6_after 194 = .ok (.iload 8, 2) := by decide +kernel
theorem dX6_after_196 : decode cX6_after 196 = .ok (.istore 8, 2) := by decide +kernel
theorem dX6_after_198 : decode cX6_after 198 = .ok (.iload 5, 2) := by decide +kernel
theorem dX6_after_200 : decode cX6_after 200 = .ok (.iload 6, 2) := by decide +kernel
theorem dX6_after_202 : decode cX6_after 202 = .ok (.iload 8, 2) := by decide +kernel
theorem dX6_after_204 : decode cX6_after 204 = .ok (.iload 4, 2) := by decide +kernel
theorem dX6_after_206 : decode cX6_after 206 = .ok (.if_icmp .le 11, 3) := by decide +kernel
theorem dX6_after_209 : decode cX6_after 209 = .ok (.iload 8, 2) := by decide +kernel
theorem dX6_after_211 : decode cX6_after 211 = .ok (.iload 4, 2) := by decide +kernel
theorem dX6_after_213 : decode cX6_after 213 = .ok (.isub, 1) := by decide +kernel
theorem dX6_after_214 : decode cX6_after 214 = .ok (.goto 4, 3) := by decide +kernel
theorem dX6_after_217 : decode cX6_after 217 = .ok (.iconst 0, 1) := by decide +kernel
theorem dX6_after_218 : decode cX6_after 218 = .ok (.imul, 1) := by decide +kernel
theorem dX6_after_219 : decode cX6_after 219 = .ok (.iadd, 1) := by decide +kernel
theorem dX6_after_220 : decode cX6_after 220 = .ok (.istore 5, 2) := by decide +kernel
theorem dX6_after_222 : decode cX6_after 222 = .ok (.iload 6, 2) := by decide +kernel
theorem dX6_after_224 : decode cX6_after 224 = .ok (.bipush 13, 2) := by decide +kernel
theorem dX6_after_226 : decode cX6_after 226 = .ok (.imul, 1) := by decide +kernel
theorem dX6_after_227 : decode cX6_after 227 = .ok (.istore 6, 2) := by decide +kernel
theorem dX6_after_229 : decode cX6_after 229 = .ok (.iinc 7 1, 3) := by decide +kernel
theorem dX6_after_232 : decode cX6_after 232 = .ok (.goto (-81), 3) := by decide +kernel
theorem dX6_after_235 : decode cX6_after 235 = .ok (.iload 5, 2) := by decide +kernel
theorem dX6_after_237 : decode cX6_after 237 = .ok (.ireturn, 1) := by decide +kernel
theorem dX6_isState_0 : decode cX6_isState 0 = .ok (.iload_n 1, 1) := by decide +kernel
theorem dX6_isState_1 : decode cX6_isState 1 = .ok (.istore_n 2, 1) := by decide +kernel
theorem dX6_isState_2 : decode cX6_isState 2 = .ok (.iconst 1, 1) := by decide +kernel
theorem dX6_isState_3 : decode cX6_isState 3 = .ok (.istore_n 3, 1) := by decide +kernel
theorem dX6_isState_4 : decode cX6_isState 4 = .ok (.iconst 0, 1) := by decide +kernel
theorem dX6_isState_5 : decode cX6_isState 5 = .ok (.istore 4, 2) := by decide +kernel
theorem dX6_isState_7 : decode cX6_isState 7 = .ok (.iload 4, 2) := by decide +kernel
theorem dX6_isState_9 : decode cX6_isState 9 = .ok (.iconst 3, 1) := by decide +kernel
theorem dX6_isState_10 : decode cX6_isState 10 = .ok (.if_icmp .ge 51, 3) := by decide +kernel
theorem dX6_isState_13 : decode cX6_isState 13 = .ok (.iload_n 3, 1) := by decide +kernel
theorem dX6_isState_14 : decode cX6_isState 14 = .ok (.ifCond .eq 34, 3) := by decide +kernel
theorem dX6_isState_17 : decode cX6_isState 17 = .ok (.iload_n 2, 1) := by decide +kernel
theorem dX6_isState_18 : decode cX6_isState 18 = .ok (.bipush 13, 2) := by decide +kernel
theorem dX6_isState_20 : decode cX6_isState 20 = .ok (.irem, 1) := by decide +kernel
theorem dX6_isState_21 : decode cX6_isState 21 = .ok (.iload 4, 2) := by decide +kernel
theorem dX6_isState_23 : decode cX6_isState 23 = .ok (.aload_n 0, 1) := by decide +kernel
theorem dX6_isState_24 : decode cX6_isState 24 = .ok (.getfield 155, 3) := by decide +kernel
theorem dX6_isState_27 : decode cX6_isState 27 = .ok (.if_icmp .ge 13, 3) := by decide +kernel
theorem dX6_isState_30 : decode cX6_isState 30 = .ok (.aload_n 0, 1) := by decide +kernel
theorem dX6_isState_31 : decode cX6_isState 31 = .ok (.getfield 23, 3) := by decide +kernel
theorem dX6_isState_34 : decode cX6_isState 34 = .ok (.iload 4, 2) := by decide +kernel
theorem dX6_isState_36 : decode cX6_isState 36 = .ok (.iaload, 1) := by decide +kernel
theorem dX6_isState_37 : decode cX6_isState 37 = .ok (.goto 4, 3) := by decide +kernel
theorem dX6_isState_40 : decode cX6_isState 40 = .ok (.iconst 0, 1) := by decide +kernel
theorem dX6_isState_41 : decode cX6_isState 41 = .ok (.if_icmp .gt 7, 3) := by decide +kernel
theorem dX6_isState_44 : decode cX6_isState 44 = .ok (.iconst 1, 1) := by decide +kernel
theorem dX6_isState_45 : decode cX6_isState 45 = .ok (.goto 4, 3) := by decide +kernel
theorem dX6_isState_48 : decode cX6_isState 48 = .ok (.iconst 0, 1) := by decide +kernel
theorem dX6_isState_49 : decode cX6_isState 49 = .ok (.istore_n 3, 1) := by decide +kernel
theorem dX6_isState_50 : decode cX6_isState 50 = .ok (.iload_n 2, 1) := by decide +kernel
theorem dX6_isState_51 : decode cX6_isState 51 = .ok (.bipush 13, 2) := by decide +kernel
theorem dX6_isState_53 : decode cX6_isState 53 = .ok (.idiv, 1) := by decide +kernel
theorem dX6_isState_54 : decode cX6_isState 54 = .ok (.istore_n 2, 1) := by decide +kernel
theorem dX6_isState_55 : decode cX6_isState 55 = .ok (.iinc 4 1, 3) := by decide +kernel
theorem dX6_isState_58 : decode cX6_isState 58 = .ok (.goto (-51), 3) := by decide +kernel
theorem dX6_isState_61 : decode cX6_isState 61 = .ok (.iload_n 3, 1) := by decide +kernel
theorem dX6_isState_62 : decode cX6_isState 62 = .ok (.ireturn, 1) := by decide +kernel
theorem dX6_ones_0 : decode cX6_ones 0 = .ok (.iload_n 0, 1) := by decide +kernel
theorem dX6_ones_1 : decode cX6_ones 1 = .ok (.iconst 1, 1) := by decide +kernel
theorem dX6_ones_2 : decode cX6_ones 2 = .ok (.iand, 1) := by decide +kernel
theorem dX6_ones_3 : decode cX6_ones 3 = .ok (.iload_n 0, 1) := by decide +kernel
theorem dX6_ones_4 : decode cX6_ones 4 = .ok (.iconst 1, 1) := by decide +kernel
theorem dX6_ones_5 : decode cX6_ones 5 = .ok (.ishr, 1) := by decide +kernel
theorem dX6_ones_6 : decode cX6_ones 6 = .ok (.iconst 1, 1) := by decide +kernel
theorem dX6_ones_7 : decode cX6_ones 7 = .ok (.iand, 1) := by decide +kernel
theorem dX6_ones_8 : decode cX6_ones 8 = .ok (.iadd, 1) := by decide +kernel
theorem dX6_ones_9 : decode cX6_ones 9 = .ok (.iload_n 0, 1) := by decide +kernel
theorem dX6_ones_10 : decode cX6_ones 10 = .ok (.iconst 2, 1) := by decide +kernel
theorem dX6_ones_11 : decode cX6_ones 11 = .ok (.ishr, 1) := by decide +kernel
theorem dX6_ones_12 : decode cX6_ones 12 = .ok (.iconst 1, 1) := by decide +kernel
theorem dX6_ones_13 : decode cX6_ones 13 = .ok (.iand, 1) := by decide +kernel
theorem dX6_ones_14 : decode cX6_ones 14 = .ok (.iadd, 1) := by decide +kernel
theorem dX6_ones_15 : decode cX6_ones 15 = .ok (.ireturn, 1) := by decide +kernel
set_option maxRecDepth 20000 in
theorem ggX6_layGlasses_X6_isState : GoodIn wsX6_layGlasses wsX6_isState := goodIn_r _ [13, 1, 14, 23, 24, 25, 26, 27, 28, 29, 30, 31, 32, 33, 34, 35, 36, 37, 38, 39, 40, 41, 42, 43, 44, 45, 46, 47, 48, 49, 50] (by decide +kernel) (by decide +kernel)
set_option maxRecDepth 20000 in
theorem gX6_layGlasses_X6_isState : GoodIn wsX6_layGlasses (wsV RX6 164 RX6 yX6_isState wsX6_isState) := goodIn_app (goodIn_of _ (by decide +kernel)) ggX6_layGlasses_X6_isState
set_option maxRecDepth 20000 in
theorem ggX6_layGlasses_X6_after : GoodIn wsX6_layGlasses wsX6_after := goodIn_r _ [18, 7, 19, 1, 14, 4, 23, 24, 25, 26, 27, 28, 29, 30, 31, 32, 33, 34, 35, 36, 37, 38, 39, 40, 41, 42, 43, 44, 45, 46, 47, 48, 49, 50] (by decide +kernel) (by decide +kernel)
set_option maxRecDepth 20000 in
theorem gX6_layGlasses_X6_after : GoodIn wsX6_layGlasses (wsV RX6 167 RX6 yX6_after wsX6_after) := goodIn_app (goodIn_of _ (by decide +kernel)) ggX6_layGlasses_X6_after
set_option maxRecDepth 20000 in
theorem ggX6_layGlasses_X6_ones : GoodIn wsX6_layGlasses wsX6_ones := goodIn_r _ [22] (by decide +kernel) (by decide +kernel)
set_option maxRecDepth 20000 in
theorem gX6_layGlasses_X6_ones : GoodIn wsX6_layGlasses (va_wsS RX6 170 yX6_ones wsX6_ones) := goodIn_app (goodIn_of _ (by decide +kernel)) ggX6_layGlasses_X6_ones
theorem dX6_layGlasses_0 : decode cX6_layGlasses 0 = .ok (.iconst 0, 1) := by decide +kernel
theorem dX6_layGlasses_1 : decode cX6_layGlasses 1 = .ok (.istore_n 1, 1) := by decide +kernel
theorem dX6_layGlasses_2 : decode cX6_layGlasses 2 = .ok (.iload_n 1, 1) := by decide +kernel
theorem dX6_layGlasses_3 : decode cX6_layGlasses 3 = .ok (.sipush 2197, 3) := by decide +kernel
theorem dX6_layGlasses_6 : decode cX6_layGlasses 6 = .ok (.if_icmp .ge 110, 3) := by decide +kernel
theorem dX6_layGlasses_9 : decode cX6_layGlasses 9 = .ok (.iconst 0, 1) := by decide +kernel
theorem dX6_layGlasses_10 : decode cX6_layGlasses 10 = .ok (.istore_n 2, 1) := by decide +kernel
theorem dX6_layGlasses_11 : decode cX6_layGlasses 11 = .ok (.iload_n 2, 1) := by decide +kernel
theorem dX6_layGlasses_12 : decode cX6_layGlasses 12 = .ok (.bipush 8, 2) := by decide +kernel
theorem dX6_layGlasses_14 : decode cX6_layGlasses 14 = .ok (.if_icmp .ge 96, 3) := by decide +kernel
theorem dX6_layGlasses_17 : decode cX6_layGlasses 17 = .ok (.aload_n 0, 1) := by decide +kernel
theorem dX6_layGlasses_18 : decode cX6_layGlasses 18 = .ok (.iload_n 1, 1) := by decide +kernel
theorem dX6_layGlasses_19 : decode cX6_layGlasses 19 = .ok (.invokevirtual 164, 3) := by decide +kernel
theorem dX6_layGlasses_22 : decode cX6_layGlasses 22 = .ok (.ifCond .eq 17, 3) := by decide +kernel
theorem dX6_layGlasses_25 : decode cX6_layGlasses 25 = .ok (.iload_n 2, 1) := by decide +kernel
theorem dX6_layGlasses_26 : decode cX6_layGlasses 26 = .ok (.iconst 1, 1) := by decide +kernel
theorem dX6_layGlasses_27 : decode cX6_layGlasses 27 = .ok (.aload_n 0, 1) := by decide +kernel
theorem dX6_layGlasses_28 : decode cX6_layGlasses 28 = .ok (.getfield 155, 3) := by decide +kernel
theorem dX6_layGlasses_31 : decode cX6_layGlasses 31 = .ok (.ishl, 1) := by decide +kernel
theorem dX6_layGlasses_32 : decode cX6_layGlasses 32 = .ok (.if_icmp .ge 7, 3) := by decide +kernel
theorem dX6_layGlasses_35 : decode cX6_layGlasses 35 = .ok (.iconst 1, 1) := by decide +kernel
theorem dX6_layGlasses_36 : decode cX6_layGlasses 36 = .ok (.goto 4, 3) := by decide +kernel
theorem dX6_layGlasses_39 : decode cX6_layGlasses 39 = .ok (.iconst 0, 1) := by decide +kernel
theorem dX6_layGlasses_40 : decode cX6_layGlasses 40 = .ok (.istore_n 3, 1) := by decide +kernel
theorem dX6_layGlasses_41 : decode cX6_layGlasses 41 = .ok (.aload_n 0, 1) := by decide +kernel
theorem dX6_layGlasses_42 : decode cX6_layGlasses 42 = .ok (.getfield 53, 3) := by decide +kernel
theorem dX6_layGlasses_45 : decode cX6_layGlasses 45 = .ok (.bipush 8, 2) := by decide +kernel
theorem dX6_layGlasses_47 : decode cX6_layGlasses 47 = .ok (.iload_n 1, 1) := by decide +kernel
theorem dX6_layGlasses_48 : decode cX6_layGlasses 48 = .ok (.imul, 1) := by decide +kernel
theorem dX6_layGlasses_49 : decode cX6_layGlasses 49 = .ok (.iload_n 2, 1) := by decide +kernel
theorem dX6_layGlasses_50 : decode cX6_layGlasses 50 = .ok (.iadd, 1) := by decide +kernel
theorem dX6_layGlasses_51 : decode cX6_layGlasses 51 = .ok (.iload_n 3, 1) := by decide +kernel
theorem dX6_layGlasses_52 : decode cX6_layGlasses 52 = .ok (.ifCond .eq 12, 3) := by decide +kernel
theorem dX6_layGlasses_55 : decode cX6_layGlasses 55 = .ok (.aload_n 0, 1) := by decide +kernel
theorem dX6_layGlasses_56 : decode cX6_layGlasses 56 = .ok (.iload_n 1, 1) := by decide +kernel
theorem dX6_layGlasses_57 : decode cX6_layGlasses 57 = .ok (.iload_n 2, 1) := by decide +kernel
theorem dX6_layGlasses_58 : decode cX6_layGlasses 58 = .ok (.invokevirtual 167, 3) := by decide +kernel
theorem dX6_layGlasses_61 : decode cX6_layGlasses 61 = .ok (.goto 4, 3) := by decide +kernel
theorem dX6_layGlasses_64 : decode cX6_layGlasses 64 = .ok (.iconst (-1), 1) := by decide +kernel
theorem dX6_layGlasses_65 : decode cX6_layGlasses 65 = .ok (.iastore, 1) := by decide +kernel
theorem dX6_layGlasses_66 : decode cX6_layGlasses 66 = .ok (.aload_n 0, 1) := by decide +kernel
theorem dX6_layGlasses_67 : decode cX6_layGlasses 67 = .ok (.getfield 56, 3) := by decide +kernel
theorem dX6_layGlasses_70 : decode cX6_layGlasses 70 = .ok (.bipush 8, 2) := by decide +kernel
theorem dX6_layGlasses_72 : decode cX6_layGlasses 72 = .ok (.iload_n 1, 1) := by decide +kernel
theorem dX6_layGlasses_73 : decode cX6_layGlasses 73 = .ok (.imul, 1) := by decide +kernel
theorem dX6_layGlasses_74 : decode cX6_layGlasses 74 = .ok (.iload_n 2, 1) := by decide +kernel
theorem dX6_layGlasses_75 : decode cX6_layGlasses 75 = .ok (.iadd, 1) := by decide +kernel
theorem dX6_layGlasses_76 : decode cX6_layGlasses 76 = .ok (.iload_n 3, 1) := by decide +kernel
theorem dX6_layGlasses_77 : decode cX6_layGlasses 77 = .ok (.ifCond .eq 25, 3) := by decide +kernel
theorem dX6_layGlasses_80 : decode cX6_layGlasses 80 = .ok (.aload_n 0, 1) := by decide +kernel
theorem dX6_layGlasses_81 : decode cX6_layGlasses 81 = .ok (.getfield 53, 3) := by decide +kernel
theorem dX6_layGlasses_84 : decode cX6_layGlasses 84 = .ok (.bipush 8, 2) := by decide +kernel
theorem dX6_layGlasses_86 : decode cX6_layGlasses 86 = .ok (.iload_n 1, 1) := by decide +kernel
theorem dX6_layGlasses_87 : decode cX6_layGlasses 87 = .ok (.imul, 1) := by decide +kernel
theorem dX6_layGlasses_88 : decode cX6_layGlasses 88 = .ok (.iload_n 2, 1) := by decide +kernel
theorem dX6_layGlasses_89 : decode cX6_layGlasses 89 = .ok (.iadd, 1) := by decide +kernel
theorem dX6_layGlasses_90 : decode cX6_layGlasses 90 = .ok (.iaload, 1) := by decide +kernel
theorem dX6_layGlasses_91 : decode cX6_layGlasses 91 = .ok (.iconst (-1), 1) := by decide +kernel
theorem dX6_layGlasses_92 : decode cX6_layGlasses 92 = .ok (.if_icmp .eq 10, 3) := by decide +kernel
theorem dX6_layGlasses_95 : decode cX6_layGlasses 95 = .ok (.aload_n 0, 1) := by decide +kernel
theorem dX6_layGlasses_96 : decode cX6_layGlasses 96 = .ok (.getfield 161, 3) := by decide +kernel
theorem dX6_layGlasses_99 : decode cX6_layGlasses 99 = .ok (.goto 4, 3) := by decide +kernel
theorem dX6_layGlasses_102 : decode cX6_layGlasses 102 = .ok (.iconst 0, 1) := by decide +kernel
theorem dX6_layGlasses_103 : decode cX6_layGlasses 103 = .ok (.iastore, 1) := by decide +kernel
theorem dX6_layGlasses_104 : decode cX6_layGlasses 104 = .ok (.iinc 2 1, 3) := by decide +kernel
theorem dX6_layGlasses_107 : decode cX6_layGlasses 107 = .ok (.goto (-96), 3) := by decide +kernel
theorem dX6_layGlasses_110 : decode cX6_layGlasses 110 = .ok (.iinc 1 1, 3) := by decide +kernel
theorem dX6_layGlasses_113 : decode cX6_layGlasses 113 = .ok (.goto (-111), 3) := by decide +kernel
theorem dX6_layGlasses_116 : decode cX6_layGlasses 116 = .ok (.iconst 0, 1) := by decide +kernel
theorem dX6_layGlasses_117 : decode cX6_layGlasses 117 = .ok (.istore_n 1, 1) := by decide +kernel
theorem dX6_layGlasses_118 : decode cX6_layGlasses 118 = .ok (.iload_n 1, 1) := by decide +kernel
theorem dX6_layGlasses_119 : decode cX6_layGlasses 119 = .ok (.ldc 59, 2) := by decide +kernel
theorem dX6_layGlasses_121 : decode cX6_layGlasses 121 = .ok (.if_icmp .ge 17, 3) := by decide +kernel
theorem dX6_layGlasses_124 : decode cX6_layGlasses 124 = .ok (.aload_n 0, 1) := by decide +kernel
theorem dX6_layGlasses_125 : decode cX6_layGlasses 125 = .ok (.getfield 60, 3) := by decide +kernel
theorem dX6_layGlasses_128 : decode cX6_layGlasses 128 = .ok (.iload_n 1, 1) := by decide +kernel
theorem dX6_layGlasses_129 : decode cX6_layGlasses 129 = .ok (.ldc 111, 2) := by decide +kernel
theorem dX6_layGlasses_131 : decode cX6_layGlasses 131 = .ok (.iastore, 1) := by decide +kernel
theorem dX6_layGlasses_132 : decode cX6_layGlasses 132 = .ok (.iinc 1 1, 3) := by decide +kernel
theorem dX6_layGlasses_135 : decode cX6_layGlasses 135 = .ok (.goto (-17), 3) := by decide +kernel
theorem dX6_layGlasses_138 : decode cX6_layGlasses 138 = .ok (.aload_n 0, 1) := by decide +kernel
theorem dX6_layGlasses_139 : decode cX6_layGlasses 139 = .ok (.getfield 60, 3) := by decide +kernel
theorem dX6_layGlasses_142 : decode cX6_layGlasses 142 = .ok (.iconst 0, 1) := by decide +kernel
theorem dX6_layGlasses_143 : decode cX6_layGlasses 143 = .ok (.iconst 0, 1) := by decide +kernel
theorem dX6_layGlasses_144 : decode cX6_layGlasses 144 = .ok (.iastore, 1) := by decide +kernel
theorem dX6_layGlasses_145 : decode cX6_layGlasses 145 = .ok (.iconst 0, 1) := by decide +kernel
theorem dX6_layGlasses_146 : decode cX6_layGlasses 146 = .ok (.istore_n 1, 1) := by decide +kernel
theorem dX6_layGlasses_147 : decode cX6_layGlasses 147 = .ok (.iload_n 1, 1) := by decide +kernel
theorem dX6_layGlasses_148 : decode cX6_layGlasses 148 = .ok (.bipush 60, 2) := by decide +kernel
theorem dX6_layGlasses_150 : decode cX6_layGlasses 150 = .ok (.if_icmp .gt 154, 3) := by decide +kernel
theorem dX6_layGlasses_153 : decode cX6_layGlasses 153 = .ok (.iconst 0, 1) := by decide +kernel
theorem dX6_layGlasses_154 : decode cX6_layGlasses 154 = .ok (.istore_n 2, 1) := by decide +kernel
theorem dX6_layGlasses_155 : decode cX6_layGlasses 155 = .ok (.iload_n 2, 1) := by decide +kernel
theorem dX6_layGlasses_156 : decode cX6_layGlasses 156 = .ok (.sipush 2197, 3) := by decide +kernel
theorem dX6_layGlasses_159 : decode cX6_layGlasses 159 = .ok (.if_icmp .ge 139, 3) := by decide +kernel
theorem dX6_layGlasses_162 : decode cX6_layGlasses 162 = .ok (.aload_n 0, 1) := by decide +kernel
theorem dX6_layGlasses_163 : decode cX6_layGlasses 163 = .ok (.getfield 60, 3) := by decide +kernel
theorem dX6_layGlasses_166 : decode cX6_layGlasses 166 = .ok (.sipush 2197, 3) := by decide +kernel
theorem dX6_layGlasses_169 : decode cX6_layGlasses 169 = .ok (.iload_n 1, 1) := by decide +kernel
theorem dX6_layGlasses_170 : decode cX6_layGlasses 170 = .ok (.imul, 1) := by decide +kernel
theorem dX6_layGlasses_171 : decode cX6_layGlasses 171 = .ok (.iload_n 2, 1) := by decide +kernel
theorem dX6_layGlasses_172 : decode cX6_layGlasses 172 = .ok (.iadd, 1) := by decide +kernel
theorem dX6_layGlasses_173 : decode cX6_layGlasses 173 = .ok (.iaload, 1) := by decide +kernel
theorem dX6_layGlasses_174 : decode cX6_layGlasses 174 = .ok (.istore_n 3, 1) := by decide +kernel
theorem dX6_layGlasses_175 : decode cX6_layGlasses 175 = .ok (.iconst 0, 1) := by decide +kernel
theorem dX6_layGlasses_176 : decode cX6_layGlasses 176 = .ok (.istore 4, 2) := by decide +kernel
theorem dX6_layGlasses_178 : decode cX6_layGlasses 178 = .ok (.iload 4, 2) := by decide +kernel
theorem dX6_layGlasses_180 : decode cX6_layGlasses 180 = .ok (.bipush 8, 2) := by decide +kernel
theorem dX6_layGlasses_182 : decode cX6_layGlasses 182 = .ok (.if_icmp .ge 110, 3) := by decide +kernel
theorem dX6_layGlasses_185 : decode cX6_layGlasses 185 = .ok (.iload_n 3, 1) := by decide +kernel
theorem dX6_layGlasses_186 : decode cX6_layGlasses 186 = .ok (.ldc 111, 2) := by decide +kernel
theorem dX6_layGlasses_188 : decode cX6_layGlasses 188 = .ok (.if_icmp .ge 104, 3) := by decide +kernel
theorem dX6_layGlasses_191 : decode cX6_layGlasses 191 = .ok (.aload_n 0, 1) := by decide +kernel
theorem dX6_layGlasses_192 : decode cX6_layGlasses 192 = .ok (.getfield 53, 3) := by decide +kernel
theorem dX6_layGlasses_195 : decode cX6_layGlasses 195 = .ok (.bipush 8, 2) := by decide +kernel
theorem dX6_layGlasses_197 : decode cX6_layGlasses 197 = .ok (.iload_n 2, 1) := by decide +kernel
theorem dX6_layGlasses_198 : decode cX6_layGlasses 198 = .ok (.imul, 1) := by decide +kernel
theorem dX6_layGlasses_199 : decode cX6_layGlasses 199 = .ok (.iload 4, 2) := by decide +kernel
theorem dX6_layGlasses_201 : decode cX6_layGlasses 201 = .ok (.iadd, 1) := by decide +kernel
theorem dX6_layGlasses_202 : decode cX6_layGlasses 202 = .ok (.iaload, 1) := by decide +kernel
theorem dX6_layGlasses_203 : decode cX6_layGlasses 203 = .ok (.istore 5, 2) := by decide +kernel
theorem dX6_layGlasses_205 : decode cX6_layGlasses 205 = .ok (.iload_n 1, 1) := by decide +kernel
theorem dX6_layGlasses_206 : decode cX6_layGlasses 206 = .ok (.aload_n 0, 1) := by decide +kernel
theorem dX6_layGlasses_207 : decode cX6_layGlasses 207 = .ok (.getfield 56, 3) := by decide +kernel
theorem dX6_layGlasses_210 : decode cX6_layGlasses 210 = .ok (.bipush 8, 2) := by decide +kernel
theorem dX6_layGlasses_212 : decode cX6_layGlasses 212 = .ok (.iload_n 2, 1) := by decide +kernel
theorem dX6_layGlasses_213 : decode cX6_layGlasses 213 = .ok (.imul, 1) := by decide +kernel
theorem dX6_layGlasses_214 : decode cX6_layGlasses 214 = .ok (.iload 4, 2) := by decide +kernel
theorem dX6_layGlasses_216 : decode cX6_layGlasses 216 = .ok (.iadd, 1) := by decide +kernel
theorem dX6_layGlasses_217 : decode cX6_layGlasses 217 = .ok (.iaload, 1) := by decide +kernel
theorem dX6_layGlasses_218 : decode cX6_layGlasses 218 = .ok (.iadd, 1) := by decide +kernel
theorem dX6_layGlasses_219 : decode cX6_layGlasses 219 = .ok (.istore 6, 2) := by decide +kernel
theorem dX6_layGlasses_221 : decode cX6_layGlasses 221 = .ok (.iload 5, 2) := by decide +kernel
theorem dX6_layGlasses_223 : decode cX6_layGlasses 223 = .ok (.iconst (-1), 1) := by decide +kernel
theorem dX6_layGlasses_224 : decode cX6_layGlasses 224 = .ok (.if_icmp .eq 62, 3) := by decide +kernel
theorem dX6_layGlasses_227 : decode cX6_layGlasses 227 = .ok (.iload 6, 2) := by decide +kernel
theorem dX6_layGlasses_229 : decode cX6_layGlasses 229 = .ok (.bipush 60, 2) := by decide +kernel
theorem dX6_layGlasses_231 : decode cX6_layGlasses 231 = .ok (.if_icmp .gt 55, 3) := by decide +kernel
theorem dX6_layGlasses_234 : decode cX6_layGlasses 234 = .ok (.sipush 2197, 3) := by decide +kernel
theorem dX6_layGlasses_237 : decode cX6_layGlasses 237 = .ok (.iload 6, 2) := by decide +kernel
theorem dX6_layGlasses_239 : decode cX6_layGlasses 239 = .ok (.imul, 1) := by decide +kernel
theorem dX6_layGlasses_240 : decode cX6_layGlasses 240 = .ok (.iload 5, 2) := by decide +kernel
theorem dX6_layGlasses_242 : decode cX6_layGlasses 242 = .ok (.iadd, 1) := by decide +kernel
theorem dX6_layGlasses_243 : decode cX6_layGlasses 243 = .ok (.istore 7, 2) := by decide +kernel
theorem dX6_layGlasses_245 : decode cX6_layGlasses 245 = .ok (.aload_n 0, 1) := by decide +kernel
theorem dX6_layGlasses_246 : decode cX6_layGlasses 246 = .ok (.getfield 60, 3) := by decide +kernel
theorem dX6_layGlasses_249 : decode cX6_layGlasses 249 = .ok (.iload 7, 2) := by decide +kernel
theorem dX6_layGlasses_251 : decode cX6_layGlasses 251 = .ok (.iload_n 3, 1) := by decide +kernel
theorem dX6_layGlasses_252 : decode cX6_layGlasses 252 = .ok (.iload 4, 2) := by decide +kernel
theorem dX6_layGlasses_254 : decode cX6_layGlasses 254 = .ok (.invokestatic 170, 3) := by decide +kernel
theorem dX6_layGlasses_257 : decode cX6_layGlasses 257 = .ok (.iadd, 1) := by decide +kernel
theorem dX6_layGlasses_258 : decode cX6_layGlasses 258 = .ok (.aload_n 0, 1) := by decide +kernel
theorem dX6_layGlasses_259 : decode cX6_layGlasses 259 = .ok (.getfield 60, 3) := by decide +kernel
theorem dX6_layGlasses_262 : decode cX6_layGlasses 262 = .ok (.iload 7, 2) := by decide +kernel
theorem dX6_layGlasses_264 : decode cX6_layGlasses 264 = .ok (.iaload, 1) := by decide +kernel
theorem dX6_layGlasses_265 : decode cX6_layGlasses 265 = .ok (.if_icmp .ge 13, 3) := by decide +kernel
theorem dX6_layGlasses_268 : decode cX6_layGlasses 268 = .ok (.iload_n 3, 1) := by decide +kernel
theorem dX6_layGlasses_269 : decode cX6_layGlasses 269 = .ok (.iload 4, 2) := by decide +kernel
theorem dX6_layGlasses_271 : decode cX6_layGlasses 271 = .ok (.invokestatic 170, 3) := by decide +kernel
theorem dX6_layGlasses_274 : decode cX6_layGlasses 274 = .ok (.iadd, 1) := by decide +kernel
theorem dX6_layGlasses_275 : decode cX6_layGlasses 275 = .ok (.goto 10, 3) := by decide +kernel
theorem dX6_layGlasses_278 : decode cX6_layGlasses 278 = .ok (.aload_n 0, 1) := by decide +kernel
theorem dX6_layGlasses_279 : decode cX6_layGlasses 279 = .ok (.getfield 60, 3) := by decide +kernel
theorem dX6_layGlasses_282 : decode cX6_layGlasses 282 = .ok (.iload 7, 2) := by decide +kernel
theorem dX6_layGlasses_284 : decode cX6_layGlasses 284 = .ok (.iaload, 1) := by decide +kernel
theorem dX6_layGlasses_285 : decode cX6_layGlasses 285 = .ok (.iastore, 1) := by decide +kernel
theorem dX6_layGlasses_286 : decode cX6_layGlasses 286 = .ok (.iinc 4 1, 3) := by decide +kernel
theorem dX6_layGlasses_289 : decode cX6_layGlasses 289 = .ok (.goto (-111), 3) := by decide +kernel
theorem dX6_layGlasses_292 : decode cX6_layGlasses 292 = .ok (.iinc 2 1, 3) := by decide +kernel
theorem dX6_layGlasses_295 : decode cX6_layGlasses 295 = .ok (.goto (-140), 3) := by decide +kernel
theorem dX6_layGlasses_298 : decode cX6_layGlasses 298 = .ok (.iinc 1 1, 3) := by decide +kernel
theorem dX6_layGlasses_301 : decode cX6_layGlasses 301 = .ok (.goto (-154), 3) := by decide +kernel
theorem dX6_layGlasses_304 : decode cX6_layGlasses 304 = .ok (.iconst 0, 1) := by decide +kernel
theorem dX6_layGlasses_305 : decode cX6_layGlasses 305 = .ok (.istore_n 1, 1) := by decide +kernel
theorem dX6_layGlasses_306 : decode cX6_layGlasses 306 = .ok (.iload_n 1, 1) := by decide +kernel
theorem dX6_layGlasses_307 : decode cX6_layGlasses 307 = .ok (.bipush 40, 2) := by decide +kernel
theorem dX6_layGlasses_309 : decode cX6_layGlasses 309 = .ok (.if_icmp .gt 163, 3) := by decide +kernel
theorem dX6_layGlasses_312 : decode cX6_layGlasses 312 = .ok (.iconst 0, 1) := by decide +kernel
theorem dX6_layGlasses_313 : decode cX6_layGlasses 313 = .ok (.istore_n 2, 1) := by decide +kernel
theorem dX6_layGlasses_314 : decode cX6_layGlasses 314 = .ok (.iload_n 2, 1) := by decide +kernel
theorem dX6_layGlasses_315 : decode cX6_layGlasses 315 = .ok (.sipush 2197, 3) := by decide +kernel
theorem dX6_layGlasses_318 : decode cX6_layGlasses 318 = .ok (.if_icmp .ge 148, 3) := by decide +kernel
theorem dX6_layGlasses_321 : decode cX6_layGlasses 321 = .ok (.iload_n 1, 1) := by decide +kernel
theorem dX6_layGlasses_322 : decode cX6_layGlasses 322 = .ok (.ifCond .ne 7, 3) := by decide +kernel
theorem dX6_layGlasses_325 : decode cX6_layGlasses 325 = .ok (.iconst 0, 1) := by decide +kernel
theorem dX6_layGlasses_326 : decode cX6_layGlasses 326 = .ok (.goto 5, 3) := by decide +kernel
theorem dX6_layGlasses_329 : decode cX6_layGlasses 329 = .ok (.ldc 111, 2) := by decide +kernel
theorem dX6_layGlasses_331 : decode cX6_layGlasses 331 = .ok (.istore_n 3, 1) := by decide +kernel
theorem dX6_layGlasses_332 : decode cX6_layGlasses 332 = .ok (.iconst 0, 1) := by decide +kernel
theorem dX6_layGlasses_333 : decode cX6_layGlasses 333 = .ok (.istore 4, 2) := by decide +kernel
theorem dX6_layGlasses_335 : decode cX6_layGlasses 335 = .ok (.iload 4, 2) := by decide +kernel
theorem dX6_layGlasses_337 : decode cX6_layGlasses 337 = .ok (.bipush 8, 2) := by decide +kernel
theorem dX6_layGlasses_339 : decode cX6_layGlasses 339 = .ok (.if_icmp .ge 108, 3) := by decide +kernel
theorem dX6_layGlasses_342 : decode cX6_layGlasses 342 = .ok (.iload_n 1, 1) := by decide +kernel
theorem dX6_layGlasses_343 : decode cX6_layGlasses 343 = .ok (.ifCond .le 104, 3) := by decide +kernel
theorem dX6_layGlasses_346 : decode cX6_layGlasses 346 = .ok (.aload_n 0, 1) := by decide +kernel
theorem dX6_layGlasses_347 : decode cX6_layGlasses 347 = .ok (.getfield 53, 3) := by decide +kernel
theorem dX6_layGlasses_350 : decode cX6_layGlasses 350 = .ok (.bipush 8, 2) := by decide +kernel
theorem dX6_layGlasses_352 : decode cX6_layGlasses 352 = .ok (.iload_n 2, 1) := by decide +kernel
theorem dX6_layGlasses_353 : decode cX6_layGlasses 353 = .ok (.imul, 1) := by decide +kernel
theorem dX6_layGlasses_354 : decode cX6_layGlasses 354 = .ok (.iload 4, 2) := by decide +kernel
theorem dX6_layGlasses_356 : decode cX6_layGlasses 356 = .ok (.iadd, 1) := by decide +kernel
theorem dX6_layGlasses_357 : decode cX6_layGlasses 357 = .ok (.iaload, 1) := by decide +kernel
theorem dX6_layGlasses_358 : decode cX6_layGlasses 358 = .ok (.istore 5, 2) := by decide +kernel
theorem dX6_layGlasses_360 : decode cX6_layGlasses 360 = .ok (.iload_n 1, 1) := by decide +kernel
theorem dX6_layGlasses_361 : decode cX6_layGlasses 361 = .ok (.aload_n 0, 1) := by decide +kernel
theorem dX6_layGlasses_362 : decode cX6_layGlasses 362 = .ok (.getfield 56, 3) := by decide +kernel
theorem dX6_layGlasses_365 : decode cX6_layGlasses 365 = .ok (.bipush 8, 2) := by decide +kernel
theorem dX6_layGlasses_367 : decode cX6_layGlasses 367 = .ok (.iload_n 2, 1) := by decide +kernel
theorem dX6_layGlasses_368 : decode cX6_layGlasses 368 = .ok (.imul, 1) := by decide +kernel
theorem dX6_layGlasses_369 : decode cX6_layGlasses 369 = .ok (.iload 4, 2) := by decide +kernel
theorem dX6_layGlasses_371 : decode cX6_layGlasses 371 = .ok (.iadd, 1) := by decide +kernel
theorem dX6_layGlasses_372 : decode cX6_layGlasses 372 = .ok (.iaload, 1) := by decide +kernel
theorem dX6_layGlasses_373 : decode cX6_layGlasses 373 = .ok (.isub, 1) := by decide +kernel
theorem dX6_layGlasses_374 : decode cX6_layGlasses 374 = .ok (.istore 6, 2) := by decide +kernel
theorem dX6_layGlasses_376 : decode cX6_layGlasses 376 = .ok (.iload 5, 2) := by decide +kernel
theorem dX6_layGlasses_378 : decode cX6_layGlasses 378 = .ok (.iconst (-1), 1) := by decide +kernel
theorem dX6_layGlasses_379 : decode cX6_layGlasses 379 = .ok (.if_icmp .eq 62, 3) := by decide +kernel
theorem dX6_layGlasses_382 : decode cX6_layGlasses 382 = .ok (.iload 6, 2) := by decide +kernel
theorem dX6_layGlasses_384 : decode cX6_layGlasses 384 = .ok (.ifCond .lt 57, 3) := by decide +kernel
theorem dX6_layGlasses_387 : decode cX6_layGlasses 387 = .ok (.aload_n 0, 1) := by decide +kernel
theorem dX6_layGlasses_388 : decode cX6_layGlasses 388 = .ok (.getfield 64, 3) := by decide +kernel
theorem dX6_layGlasses_391 : decode cX6_layGlasses 391 = .ok (.sipush 2197, 3) := by decide +kernel
theorem dX6_layGlasses_394 : decode cX6_layGlasses 394 = .ok (.iload 6, 2) := by decide +kernel
theorem dX6_layGlasses_396 : decode cX6_layGlasses 396 = .ok (.imul, 1) := by decide +kernel
theorem dX6_layGlasses_397 : decode cX6_layGlasses 397 = .ok (.iload 5, 2) := by decide +kernel
end
section
theorem dX6_layGlasses_399 : decode cX6_layGlasses 399 = .ok (.iadd, 1) := by decide +kernel
theorem dX6_layGlasses_400 : decode cX6_layGlasses 400 = .ok (.iaload, 1) := by decide +kernel
theorem dX6_layGlasses_401 : decode cX6_layGlasses 401 = .ok (.ldc 111, 2) := by decide +kernel
theorem dX6_layGlasses_403 : decode cX6_layGlasses 403 = .ok (.if_icmp .ge 38, 3) := by decide +kernel
theorem dX6_layGlasses_406 : decode cX6_layGlasses 406 = .ok (.iload 4, 2) := by decide +kernel
theorem dX6_layGlasses_408 : decode cX6_layGlasses 408 = .ok (.invokestatic 170, 3) := by decide +kernel
theorem dX6_layGlasses_411 : decode cX6_layGlasses 411 = .ok (.aload_n 0, 1) := by decide +kernel
theorem dX6_layGlasses_412 : decode cX6_layGlasses 412 = .ok (.getfield 64, 3) := by decide +kernel
theorem dX6_layGlasses_415 : decode cX6_layGlasses 415 = .ok (.sipush 2197, 3) := by decide +kernel
theorem dX6_layGlasses_418 : decode cX6_layGlasses 418 = .ok (.iload 6, 2) := by decide +kernel
theorem dX6_layGlasses_420 : decode cX6_layGlasses 420 = .ok (.imul, 1) := by decide +kernel
theorem dX6_layGlasses_421 : decode cX6_layGlasses 421 = .ok (.iload 5, 2) := by decide +kernel
theorem dX6_layGlasses_423 : decode cX6_layGlasses 423 = .ok (.iadd, 1) := by decide +kernel
theorem dX6_layGlasses_424 : decode cX6_layGlasses 424 = .ok (.iaload, 1) := by decide +kernel
theorem dX6_layGlasses_425 : decode cX6_layGlasses 425 = .ok (.iadd, 1) := by decide +kernel
theorem dX6_layGlasses_426 : decode cX6_layGlasses 426 = .ok (.istore 7, 2) := by decide +kernel
theorem dX6_layGlasses_428 : decode cX6_layGlasses 428 = .ok (.iload 7, 2) := by decide +kernel
theorem dX6_layGlasses_430 : decode cX6_layGlasses 430 = .ok (.iload_n 3, 1) := by decide +kernel
theorem dX6_layGlasses_431 : decode cX6_layGlasses 431 = .ok (.if_icmp .ge 8, 3) := by decide +kernel
theorem dX6_layGlasses_434 : decode cX6_layGlasses 434 = .ok (.iload 7, 2) := by decide +kernel
theorem dX6_layGlasses_436 : decode cX6_layGlasses 436 = .ok (.goto 4, 3) := by decide +kernel
theorem dX6_layGlasses_439 : decode cX6_layGlasses 439 = .ok (.iload_n 3, 1) := by decide +kernel
theorem dX6_layGlasses_440 : decode cX6_layGlasses 440 = .ok (.istore_n 3, 1) := by decide +kernel
theorem dX6_layGlasses_441 : decode cX6_layGlasses 441 = .ok (.iinc 4 1, 3) := by decide +kernel
theorem dX6_layGlasses_444 : decode cX6_layGlasses 444 = .ok (.goto (-109), 3) := by decide +kernel
theorem dX6_layGlasses_447 : decode cX6_layGlasses 447 = .ok (.aload_n 0, 1) := by decide +kernel
theorem dX6_layGlasses_448 : decode cX6_layGlasses 448 = .ok (.getfield 64, 3) := by decide +kernel
theorem dX6_layGlasses_451 : decode cX6_layGlasses 451 = .ok (.sipush 2197, 3) := by decide +kernel
theorem dX6_layGlasses_454 : decode cX6_layGlasses 454 = .ok (.iload_n 1, 1) := by decide +kernel
theorem dX6_layGlasses_455 : decode cX6_layGlasses 455 = .ok (.imul, 1) := by decide +kernel
theorem dX6_layGlasses_456 : decode cX6_layGlasses 456 = .ok (.iload_n 2, 1) := by decide +kernel
theorem dX6_layGlasses_457 : decode cX6_layGlasses 457 = .ok (.iadd, 1) := by decide +kernel
theorem dX6_layGlasses_458 : decode cX6_layGlasses 458 = .ok (.iload_n 3, 1) := by decide +kernel
theorem dX6_layGlasses_459 : decode cX6_layGlasses 459 = .ok (.iastore, 1) := by decide +kernel
theorem dX6_layGlasses_460 : decode cX6_layGlasses 460 = .ok (.iinc 2 1, 3) := by decide +kernel
theorem dX6_layGlasses_463 : decode cX6_layGlasses 463 = .ok (.goto (-149), 3) := by decide +kernel
theorem dX6_layGlasses_466 : decode cX6_layGlasses 466 = .ok (.iinc 1 1, 3) := by decide +kernel
theorem dX6_layGlasses_469 : decode cX6_layGlasses 469 = .ok (.goto (-163), 3) := by decide +kernel
theorem dX6_layGlasses_472 : decode cX6_layGlasses 472 = .ok (.return_, 1) := by decide +kernel
theorem dX6_waitOf_0 : decode cX6_waitOf 0 = .ok (.iconst 0, 1) := by decide +kernel
theorem dX6_waitOf_1 : decode cX6_waitOf 1 = .ok (.istore_n 2, 1) := by decide +kernel
theorem dX6_waitOf_2 : decode cX6_waitOf 2 = .ok (.iload_n 2, 1) := by decide +kernel
theorem dX6_waitOf_3 : decode cX6_waitOf 3 = .ok (.bipush 60, 2) := by decide +kernel
theorem dX6_waitOf_5 : decode cX6_waitOf 5 = .ok (.if_icmp .gt 104, 3) := by decide +kernel
theorem dX6_waitOf_8 : decode cX6_waitOf 8 = .ok (.aload_n 0, 1) := by decide +kernel
theorem dX6_waitOf_9 : decode cX6_waitOf 9 = .ok (.ldc 111, 2) := by decide +kernel
theorem dX6_waitOf_11 : decode cX6_waitOf 11 = .ok (.putfield 173, 3) := by decide +kernel
theorem dX6_waitOf_14 : decode cX6_waitOf 14 = .ok (.iconst 0, 1) := by decide +kernel
theorem dX6_waitOf_15 : decode cX6_waitOf 15 = .ok (.istore_n 3, 1) := by decide +kernel
theorem dX6_waitOf_16 : decode cX6_waitOf 16 = .ok (.iload_n 3, 1) := by decide +kernel
theorem dX6_waitOf_17 : decode cX6_waitOf 17 = .ok (.sipush 2197, 3) := by decide +kernel
theorem dX6_waitOf_20 : decode cX6_waitOf 20 = .ok (.if_icmp .ge 72, 3) := by decide +kernel
theorem dX6_waitOf_23 : decode cX6_waitOf 23 = .ok (.aload_n 0, 1) := by decide +kernel
theorem dX6_waitOf_24 : decode cX6_waitOf 24 = .ok (.getfield 60, 3) := by decide +kernel
theorem dX6_waitOf_27 : decode cX6_waitOf 27 = .ok (.sipush 2197, 3) := by decide +kernel
theorem dX6_waitOf_30 : decode cX6_waitOf 30 = .ok (.iload_n 2, 1) := by decide +kernel
theorem dX6_waitOf_31 : decode cX6_waitOf 31 = .ok (.imul, 1) := by decide +kernel
theorem dX6_waitOf_32 : decode cX6_waitOf 32 = .ok (.iload_n 3, 1) := by decide +kernel
theorem dX6_waitOf_33 : decode cX6_waitOf 33 = .ok (.iadd, 1) := by decide +kernel
theorem dX6_waitOf_34 : decode cX6_waitOf 34 = .ok (.iaload, 1) := by decide +kernel
theorem dX6_waitOf_35 : decode cX6_waitOf 35 = .ok (.istore 4, 2) := by decide +kernel
theorem dX6_waitOf_37 : decode cX6_waitOf 37 = .ok (.aload_n 0, 1) := by decide +kernel
theorem dX6_waitOf_38 : decode cX6_waitOf 38 = .ok (.getfield 64, 3) := by decide +kernel
theorem dX6_waitOf_41 : decode cX6_waitOf 41 = .ok (.sipush 2197, 3) := by decide +kernel
theorem dX6_waitOf_44 : decode cX6_waitOf 44 = .ok (.iload_n 1, 1) := by decide +kernel
theorem dX6_waitOf_45 : decode cX6_waitOf 45 = .ok (.imul, 1) := by decide +kernel
theorem dX6_waitOf_46 : decode cX6_waitOf 46 = .ok (.iload_n 3, 1) := by decide +kernel
theorem dX6_waitOf_47 : decode cX6_waitOf 47 = .ok (.iadd, 1) := by decide +kernel
theorem dX6_waitOf_48 : decode cX6_waitOf 48 = .ok (.iaload, 1) := by decide +kernel
theorem dX6_waitOf_49 : decode cX6_waitOf 49 = .ok (.istore 5, 2) := by decide +kernel
theorem dX6_waitOf_51 : decode cX6_waitOf 51 = .ok (.iload 4, 2) := by decide +kernel
theorem dX6_waitOf_53 : decode cX6_waitOf 53 = .ok (.ldc 111, 2) := by decide +kernel
theorem dX6_waitOf_55 : decode cX6_waitOf 55 = .ok (.if_icmp .ge 31, 3) := by decide +kernel
theorem dX6_waitOf_58 : decode cX6_waitOf 58 = .ok (.iload 5, 2) := by decide +kernel
theorem dX6_waitOf_60 : decode cX6_waitOf 60 = .ok (.ldc 111, 2) := by decide +kernel
theorem dX6_waitOf_62 : decode cX6_waitOf 62 = .ok (.if_icmp .ge 24, 3) := by decide +kernel
theorem dX6_waitOf_65 : decode cX6_waitOf 65 = .ok (.iload 4, 2) := by decide +kernel
theorem dX6_waitOf_67 : decode cX6_waitOf 67 = .ok (.iload 5, 2) := by decide +kernel
theorem dX6_waitOf_69 : decode cX6_waitOf 69 = .ok (.iadd, 1) := by decide +kernel
theorem dX6_waitOf_70 : decode cX6_waitOf 70 = .ok (.aload_n 0, 1) := by decide +kernel
theorem dX6_waitOf_71 : decode cX6_waitOf 71 = .ok (.getfield 173, 3) := by decide +kernel
theorem dX6_waitOf_74 : decode cX6_waitOf 74 = .ok (.if_icmp .ge 12, 3) := by decide +kernel
theorem dX6_waitOf_77 : decode cX6_waitOf 77 = .ok (.aload_n 0, 1) := by decide +kernel
theorem dX6_waitOf_78 : decode cX6_waitOf 78 = .ok (.iload 4, 2) := by decide +kernel
theorem dX6_waitOf_80 : decode cX6_waitOf 80 = .ok (.iload 5, 2) := by decide +kernel
theorem dX6_waitOf_82 : decode cX6_waitOf 82 = .ok (.iadd, 1) := by decide +kernel
theorem dX6_waitOf_83 : decode cX6_waitOf 83 = .ok (.putfield 173, 3) := by decide +kernel
theorem dX6_waitOf_86 : decode cX6_waitOf 86 = .ok (.iinc 3 1, 3) := by decide +kernel
theorem dX6_waitOf_89 : decode cX6_waitOf 89 = .ok (.goto (-73), 3) := by decide +kernel
theorem dX6_waitOf_92 : decode cX6_waitOf 92 = .ok (.aload_n 0, 1) := by decide +kernel
theorem dX6_waitOf_93 : decode cX6_waitOf 93 = .ok (.getfield 173, 3) := by decide +kernel
theorem dX6_waitOf_96 : decode cX6_waitOf 96 = .ok (.ldc 111, 2) := by decide +kernel
theorem dX6_waitOf_98 : decode cX6_waitOf 98 = .ok (.if_icmp .ge 5, 3) := by decide +kernel
theorem dX6_waitOf_101 : decode cX6_waitOf 101 = .ok (.iload_n 2, 1) := by decide +kernel
theorem dX6_waitOf_102 : decode cX6_waitOf 102 = .ok (.ireturn, 1) := by decide +kernel
theorem dX6_waitOf_103 : decode cX6_waitOf 103 = .ok (.iinc 2 1, 3) := by decide +kernel
theorem dX6_waitOf_106 : decode cX6_waitOf 106 = .ok (.goto (-104), 3) := by decide +kernel
theorem dX6_waitOf_109 : decode cX6_waitOf 109 = .ok (.iconst (-1), 1) := by decide +kernel
theorem dX6_waitOf_110 : decode cX6_waitOf 110 = .ok (.ireturn, 1) := by decide +kernel
set_option maxRecDepth 20000 in
theorem ggX6_await_X6_in : GoodIn wsX6_await wsX6_in := goodIn_r _ [4] (by decide +kernel) (by decide +kernel)
set_option maxRecDepth 20000 in
theorem gX6_await_X6_in : GoodIn wsX6_await (va_wsS RX6 71 yX6_in wsX6_in) := goodIn_app (goodIn_of _ (by decide +kernel)) ggX6_await_X6_in
set_option maxRecDepth 20000 in
theorem ggX6_await_X6_layGlasses : GoodIn wsX6_await wsX6_layGlasses := goodIn_r _ [8, 9, 10, 11, 12, 13, 14, 15, 16, 17, 18, 19, 3, 20, 21, 22, 23, 24, 25, 26, 27, 28, 29, 35, 36, 37, 38, 39, 40, 41, 42, 43, 44, 45, 46, 47, 48, 49, 50, 51, 52, 53, 54, 55, 56, 57, 58, 59, 60, 61, 62] (by decide +kernel) (by decide +kernel)
set_option maxRecDepth 20000 in
theorem gX6_await_X6_layGlasses : GoodIn wsX6_await (wsV RX6 176 RX6 yX6_layGlasses wsX6_layGlasses) := goodIn_app (goodIn_of _ (by decide +kernel)) ggX6_await_X6_layGlasses
set_option maxRecDepth 20000 in
theorem ggX6_await_X6_waitOf : GoodIn wsX6_await wsX6_waitOf := goodIn_r _ [33, 15, 34, 14, 16, 35, 36, 37, 38, 39, 40, 41, 42, 43, 44, 45, 46, 47, 48, 49, 50, 51, 52, 53, 54, 55, 56, 57, 58, 59, 60, 61, 62] (by decide +kernel) (by decide +kernel)
set_option maxRecDepth 20000 in
theorem gX6_await_X6_waitOf : GoodIn wsX6_await (wsV RX6 179 RX6 yX6_waitOf wsX6_waitOf) := goodIn_app (goodIn_of _ (by decide +kernel)) ggX6_await_X6_waitOf
theorem dX6_await_0 : decode cX6_await 0 = .ok (.iload_n 1, 1) := by decide +kernel
theorem dX6_await_1 : decode cX6_await 1 = .ok (.iconst 1, 1) := by decide +kernel
theorem dX6_await_2 : decode cX6_await 2 = .ok (.bipush 40, 2) := by decide +kernel
theorem dX6_await_4 : decode cX6_await 4 = .ok (.invokestatic 71, 3) := by decide +kernel
theorem dX6_await_7 : decode cX6_await 7 = .ok (.ifCond .ne 6, 3) := by decide +kernel
theorem dX6_await_10 : decode cX6_await 10 = .ok (.bipush (-2), 2) := by decide +kernel
theorem dX6_await_12 : decode cX6_await 12 = .ok (.ireturn, 1) := by decide +kernel
theorem dX6_await_13 : decode cX6_await 13 = .ok (.aload_n 0, 1) := by decide +kernel
theorem dX6_await_14 : decode cX6_await 14 = .ok (.invokevirtual 176, 3) := by decide +kernel
theorem dX6_await_17 : decode cX6_await 17 = .ok (.aload_n 0, 1) := by decide +kernel
theorem dX6_await_18 : decode cX6_await 18 = .ok (.iload_n 1, 1) := by decide +kernel
theorem dX6_await_19 : decode cX6_await 19 = .ok (.invokevirtual 179, 3) := by decide +kernel
theorem dX6_await_22 : decode cX6_await 22 = .ok (.ireturn, 1) := by decide +kernel
set_option maxRecDepth 20000 in
theorem ggX6_turns_X6_in : GoodIn wsX6_turns wsX6_in := goodIn_r _ [5] (by decide +kernel) (by decide +kernel)
set_option maxRecDepth 20000 in
theorem gX6_turns_X6_in : GoodIn wsX6_turns (va_wsS RX6 71 yX6_in wsX6_in) := goodIn_app (goodIn_of _ (by decide +kernel)) ggX6_turns_X6_in
set_option maxRecDepth 20000 in
theorem ggX6_turns_X6_layGlasses : GoodIn wsX6_turns wsX6_layGlasses := goodIn_r _ [9, 10, 11, 12, 13, 14, 15, 16, 17, 18, 19, 20, 4, 21, 22, 23, 24, 25, 26, 27, 28, 29, 30, 35, 36, 37, 38, 39, 40, 41, 42, 43, 44, 45, 46, 47, 48, 49, 50, 51, 52, 53, 54, 55, 56, 57, 58, 59, 60, 61, 62] (by decide +kernel) (by decide +kernel)
set_option maxRecDepth 20000 in
theorem gX6_turns_X6_layGlasses : GoodIn wsX6_turns (wsV RX6 176 RX6 yX6_layGlasses wsX6_layGlasses) := goodIn_app (goodIn_of _ (by decide +kernel)) ggX6_turns_X6_layGlasses
set_option maxRecDepth 20000 in
theorem ggX6_turns_X6_waitOf : GoodIn wsX6_turns wsX6_waitOf := goodIn_r _ [34, 16, 1, 15, 17, 35, 36, 37, 38, 39, 40, 41, 42, 43, 44, 45, 46, 47, 48, 49, 50, 51, 52, 53, 54, 55, 56, 57, 58, 59, 60, 61, 62] (by decide +kernel) (by decide +kernel)
set_option maxRecDepth 20000 in
theorem gX6_turns_X6_waitOf : GoodIn wsX6_turns (wsV RX6 179 RX6 yX6_waitOf wsX6_waitOf) := goodIn_app (goodIn_of _ (by decide +kernel)) ggX6_turns_X6_waitOf
theorem dX6_turns_0 : decode cX6_turns 0 = .ok (.iload_n 1, 1) := by decide +kernel
theorem dX6_turns_1 : decode cX6_turns 1 = .ok (.iconst 1, 1) := by decide +kernel
theorem dX6_turns_2 : decode cX6_turns 2 = .ok (.bipush 40, 2) := by decide +kernel
theorem dX6_turns_4 : decode cX6_turns 4 = .ok (.invokestatic 71, 3) := by decide +kernel
theorem dX6_turns_7 : decode cX6_turns 7 = .ok (.ifCond .ne 6, 3) := by decide +kernel
theorem dX6_turns_10 : decode cX6_turns 10 = .ok (.bipush (-2), 2) := by decide +kernel
theorem dX6_turns_12 : decode cX6_turns 12 = .ok (.ireturn, 1) := by decide +kernel
theorem dX6_turns_13 : decode cX6_turns 13 = .ok (.aload_n 0, 1) := by decide +kernel
theorem dX6_turns_14 : decode cX6_turns 14 = .ok (.invokevirtual 176, 3) := by decide +kernel
theorem dX6_turns_17 : decode cX6_turns 17 = .ok (.aload_n 0, 1) := by decide +kernel
theorem dX6_turns_18 : decode cX6_turns 18 = .ok (.iload_n 1, 1) := by decide +kernel
theorem dX6_turns_19 : decode cX6_turns 19 = .ok (.invokevirtual 179, 3) := by decide +kernel
theorem dX6_turns_22 : decode cX6_turns 22 = .ok (.iconst (-1), 1) := by decide +kernel
theorem dX6_turns_23 : decode cX6_turns 23 = .ok (.if_icmp .ne 7, 3) := by decide +kernel
theorem dX6_turns_26 : decode cX6_turns 26 = .ok (.iconst (-1), 1) := by decide +kernel
theorem dX6_turns_27 : decode cX6_turns 27 = .ok (.goto 7, 3) := by decide +kernel
theorem dX6_turns_30 : decode cX6_turns 30 = .ok (.aload_n 0, 1) := by decide +kernel
theorem dX6_turns_31 : decode cX6_turns 31 = .ok (.getfield 173, 3) := by decide +kernel
theorem dX6_turns_34 : decode cX6_turns 34 = .ok (.ireturn, 1) := by decide +kernel
set_option maxRecDepth 20000 in
theorem ggX6_spans_X6_in : GoodIn wsX6_spans wsX6_in := goodIn_r _ [5] (by decide +kernel) (by decide +kernel)
set_option maxRecDepth 20000 in
theorem gX6_spans_X6_in : GoodIn wsX6_spans (va_wsS RX6 71 yX6_in wsX6_in) := goodIn_app (goodIn_of _ (by decide +kernel)) ggX6_spans_X6_in
set_option maxRecDepth 20000 in
theorem ggX6_spans_X6_layGlasses : GoodIn wsX6_spans wsX6_layGlasses := goodIn_r _ [9, 10, 11, 12, 13, 14, 15, 16, 17, 18, 19, 20, 4, 21, 22, 23, 24, 25, 26, 27, 28, 29, 30, 36, 37, 38, 39, 40, 41, 42, 43, 44, 45, 46, 47, 48, 49, 50, 51, 52, 53, 54, 55, 56, 57, 58, 59, 60, 61, 62, 63] (by decide +kernel) (by decide +kernel)
set_option maxRecDepth 20000 in
theorem gX6_spans_X6_layGlasses : GoodIn wsX6_spans (wsV RX6 176 RX6 yX6_layGlasses wsX6_layGlasses) := goodIn_app (goodIn_of _ (by decide +kernel)) ggX6_spans_X6_layGlasses
set_option maxRecDepth 20000 in
theorem ggX6_spans_X6_waitOf : GoodIn wsX6_spans wsX6_waitOf := goodIn_r _ [34, 16, 35, 15, 17, 36, 37, 38, 39, 40, 41, 42, 43, 44, 45, 46, 47, 48, 49, 50, 51, 52, 53, 54, 55, 56, 57, 58, 59, 60, 61, 62, 63] (by decide +kernel) (by decide +kernel)
set_option maxRecDepth 20000 in
theorem gX6_spans_X6_waitOf : GoodIn wsX6_spans (wsV RX6 179 RX6 yX6_waitOf wsX6_waitOf) := goodIn_app (goodIn_of _ (by decide +kernel)) ggX6_spans_X6_waitOf
theorem dX6_spans_0 : decode cX6_spans 0 = .ok (.iload_n 1, 1) := by decide +kernel
theorem dX6_spans_1 : decode cX6_spans 1 = .ok (.iconst 0, 1) := by decide +kernel
theorem dX6_spans_2 : decode cX6_spans 2 = .ok (.bipush 60, 2) := by decide +kernel
theorem dX6_spans_4 : decode cX6_spans 4 = .ok (.invokestatic 71, 3) := by decide +kernel
theorem dX6_spans_7 : decode cX6_spans 7 = .ok (.ifCond .ne 7, 3) := by decide +kernel
theorem dX6_spans_10 : decode cX6_spans 10 = .ok (.ldc2_w 133, 3) := by decide +kernel
theorem dX6_spans_13 : decode cX6_spans 13 = .ok (.lreturn, 1) := by decide +kernel
theorem dX6_spans_14 : decode cX6_spans 14 = .ok (.aload_n 0, 1) := by decide +kernel
theorem dX6_spans_15 : decode cX6_spans 15 = .ok (.invokevirtual 176, 3) := by decide +kernel
theorem dX6_spans_18 : decode cX6_spans 18 = .ok (.lconst 0, 1) := by decide +kernel
theorem dX6_spans_19 : decode cX6_spans 19 = .ok (.lstore_n 2, 1) := by decide +kernel
theorem dX6_spans_20 : decode cX6_spans 20 = .ok (.iconst 1, 1) := by decide +kernel
theorem dX6_spans_21 : decode cX6_spans 21 = .ok (.istore 4, 2) := by decide +kernel
theorem dX6_spans_23 : decode cX6_spans 23 = .ok (.iload 4, 2) := by decide +kernel
theorem dX6_spans_25 : decode cX6_spans 25 = .ok (.bipush 40, 2) := by decide +kernel
theorem dX6_spans_27 : decode cX6_spans 27 = .ok (.if_icmp .gt 40, 3) := by decide +kernel
theorem dX6_spans_30 : decode cX6_spans 30 = .ok (.aload_n 0, 1) := by decide +kernel
theorem dX6_spans_31 : decode cX6_spans 31 = .ok (.iload 4, 2) := by decide +kernel
theorem dX6_spans_33 : decode cX6_spans 33 = .ok (.invokevirtual 179, 3) := by decide +kernel
theorem dX6_spans_36 : decode cX6_spans 36 = .ok (.istore 5, 2) := by decide +kernel
theorem dX6_spans_38 : decode cX6_spans 38 = .ok (.lload_n 2, 1) := by decide +kernel
theorem dX6_spans_39 : decode cX6_spans 39 = .ok (.iload 5, 2) := by decide +kernel
theorem dX6_spans_41 : decode cX6_spans 41 = .ok (.iconst (-1), 1) := by decide +kernel
theorem dX6_spans_42 : decode cX6_spans 42 = .ok (.if_icmp .eq 16, 3) := by decide +kernel
theorem dX6_spans_45 : decode cX6_spans 45 = .ok (.iload 5, 2) := by decide +kernel
theorem dX6_spans_47 : decode cX6_spans 47 = .ok (.iload_n 1, 1) := by decide +kernel
theorem dX6_spans_48 : decode cX6_spans 48 = .ok (.if_icmp .gt 10, 3) := by decide +kernel
theorem dX6_spans_51 : decode cX6_spans 51 = .ok (.lconst 1, 1) := by decide +kernel
theorem dX6_spans_52 : decode cX6_spans 52 = .ok (.iload 4, 2) := by decide +kernel
theorem dX6_spans_54 : decode cX6_spans 54 = .ok (.lshl, 1) := by decide +kernel
theorem dX6_spans_55 : decode cX6_spans 55 = .ok (.goto 4, 3) := by decide +kernel
theorem dX6_spans_58 : decode cX6_spans 58 = .ok (.lconst 0, 1) := by decide +kernel
theorem dX6_spans_59 : decode cX6_spans 59 = .ok (.lor, 1) := by decide +kernel
theorem dX6_spans_60 : decode cX6_spans 60 = .ok (.lstore_n 2, 1) := by decide +kernel
theorem dX6_spans_61 : decode cX6_spans 61 = .ok (.iinc 4 1, 3) := by decide +kernel
theorem dX6_spans_64 : decode cX6_spans 64 = .ok (.goto (-41), 3) := by decide +kernel
theorem dX6_spans_67 : decode cX6_spans 67 = .ok (.lload_n 2, 1) := by decide +kernel
theorem dX6_spans_68 : decode cX6_spans 68 = .ok (.lreturn, 1) := by decide +kernel
set_option maxRecDepth 20000 in
theorem ggX6_count_X6_tryOwn : GoodIn wsX6_count wsX6_tryOwn := goodIn_r _ [8, 1, 9, 10, 11, 12, 13, 14, 15, 16, 3, 23, 24, 25, 26, 27, 28, 29, 30, 31, 32, 33, 34, 35, 36, 37, 38, 39, 40, 41, 42, 43, 44, 45, 46, 47, 48, 49, 50] (by decide +kernel) (by decide +kernel)
set_option maxRecDepth 20000 in
theorem gX6_count_X6_tryOwn : GoodIn wsX6_count (wsV RX6 94 RX6 yX6_tryOwn wsX6_tryOwn) := goodIn_app (goodIn_of _ (by decide +kernel)) ggX6_count_X6_tryOwn
set_option maxRecDepth 20000 in
theorem ggX6_count_X6_does : GoodIn wsX6_count wsX6_does := goodIn_r _ [20, 9, 21, 11, 14, 16, 22, 13, 23, 24, 25, 26, 27, 28, 29, 30, 31, 32, 33, 34, 35, 36, 37, 38, 39, 40, 41, 42, 43, 44, 45, 46, 47, 48, 49, 50] (by decide +kernel) (by decide +kernel)
set_option maxRecDepth 20000 in
theorem gX6_count_X6_does : GoodIn wsX6_count (wsV RX6 97 RX6 yX6_does wsX6_does) := goodIn_app (goodIn_of _ (by decide +kernel)) ggX6_count_X6_does
theorem dX6_count_0 : decode cX6_count 0 = .ok (.iconst 0, 1) := by decide +kernel
theorem dX6_count_1 : decode cX6_count 1 = .ok (.istore_n 2, 1) := by decide +kernel
theorem dX6_count_2 : decode cX6_count 2 = .ok (.iload_n 1, 1) := by decide +kernel
theorem dX6_count_3 : decode cX6_count 3 = .ok (.tableswitch 102 0 3 #[29, 34, 39, 66], 29) := by decide +kernel
theorem dX6_count_32 : decode cX6_count 32 = .ok (.aload_n 0, 1) := by decide +kernel
theorem dX6_count_33 : decode cX6_count 33 = .ok (.getfield 67, 3) := by decide +kernel
theorem dX6_count_36 : decode cX6_count 36 = .ok (.ireturn, 1) := by decide +kernel
theorem dX6_count_37 : decode cX6_count 37 = .ok (.aload_n 0, 1) := by decide +kernel
theorem dX6_count_38 : decode cX6_count 38 = .ok (.getfield 155, 3) := by decide +kernel
theorem dX6_count_41 : decode cX6_count 41 = .ok (.ireturn, 1) := by decide +kernel
theorem dX6_count_42 : decode cX6_count 42 = .ok (.iconst 0, 1) := by decide +kernel
theorem dX6_count_43 : decode cX6_count 43 = .ok (.istore_n 3, 1) := by decide +kernel
theorem dX6_count_44 : decode cX6_count 44 = .ok (.iload_n 3, 1) := by decide +kernel
theorem dX6_count_45 : decode cX6_count 45 = .ok (.aload_n 0, 1) := by decide +kernel
theorem dX6_count_46 : decode cX6_count 46 = .ok (.getfield 67, 3) := by decide +kernel
theorem dX6_count_49 : decode cX6_count 49 = .ok (.if_icmp .ge 18, 3) := by decide +kernel
theorem dX6_count_52 : decode cX6_count 52 = .ok (.iload_n 2, 1) := by decide +kernel
theorem dX6_count_53 : decode cX6_count 53 = .ok (.aload_n 0, 1) := by decide +kernel
theorem dX6_count_54 : decode cX6_count 54 = .ok (.getfield 13, 3) := by decide +kernel
theorem dX6_count_57 : decode cX6_count 57 = .ok (.iload_n 3, 1) := by decide +kernel
theorem dX6_count_58 : decode cX6_count 58 = .ok (.iaload, 1) := by decide +kernel
theorem dX6_count_59 : decode cX6_count 59 = .ok (.iadd, 1) := by decide +kernel
theorem dX6_count_60 : decode cX6_count 60 = .ok (.istore_n 2, 1) := by decide +kernel
theorem dX6_count_61 : decode cX6_count 61 = .ok (.iinc 3 1, 3) := by decide +kernel
theorem dX6_count_64 : decode cX6_count 64 = .ok (.goto (-20), 3) := by decide +kernel
theorem dX6_count_67 : decode cX6_count 67 = .ok (.iload_n 2, 1) := by decide +kernel
theorem dX6_count_68 : decode cX6_count 68 = .ok (.ireturn, 1) := by decide +kernel
theorem dX6_count_69 : decode cX6_count 69 = .ok (.iconst 0, 1) := by decide +kernel
theorem dX6_count_70 : decode cX6_count 70 = .ok (.istore_n 3, 1) := by decide +kernel
theorem dX6_count_71 : decode cX6_count 71 = .ok (.iload_n 3, 1) := by decide +kernel
theorem dX6_count_72 : decode cX6_count 72 = .ok (.bipush 24, 2) := by decide +kernel
theorem dX6_count_74 : decode cX6_count 74 = .ok (.if_icmp .ge 29, 3) := by decide +kernel
theorem dX6_count_77 : decode cX6_count 77 = .ok (.aload_n 0, 1) := by decide +kernel
theorem dX6_count_78 : decode cX6_count 78 = .ok (.invokevirtual 94, 3) := by decide +kernel
theorem dX6_count_81 : decode cX6_count 81 = .ok (.iload_n 2, 1) := by decide +kernel
theorem dX6_count_82 : decode cX6_count 82 = .ok (.aload_n 0, 1) := by decide +kernel
theorem dX6_count_83 : decode cX6_count 83 = .ok (.iload_n 3, 1) := by decide +kernel
theorem dX6_count_84 : decode cX6_count 84 = .ok (.invokevirtual 97, 3) := by decide +kernel
theorem dX6_count_87 : decode cX6_count 87 = .ok (.ifCond .eq 7, 3) := by decide +kernel
theorem dX6_count_90 : decode cX6_count 90 = .ok (.iconst 1, 1) := by decide +kernel
theorem dX6_count_91 : decode cX6_count 91 = .ok (.goto 4, 3) := by decide +kernel
theorem dX6_count_94 : decode cX6_count 94 = .ok (.iconst 0, 1) := by decide +kernel
theorem dX6_count_95 : decode cX6_count 95 = .ok (.iadd, 1) := by decide +kernel
theorem dX6_count_96 : decode cX6_count 96 = .ok (.istore_n 2, 1) := by decide +kernel
theorem dX6_count_97 : decode cX6_count 97 = .ok (.iinc 3 1, 3) := by decide +kernel
theorem dX6_count_100 : decode cX6_count 100 = .ok (.goto (-29), 3) := by decide +kernel
theorem dX6_count_103 : decode cX6_count 103 = .ok (.iload_n 2, 1) := by decide +kernel
theorem dX6_count_104 : decode cX6_count 104 = .ok (.ireturn, 1) := by decide +kernel
theorem dX6_count_105 : decode cX6_count 105 = .ok (.bipush (-2), 2) := by decide +kernel
theorem dX6_count_107 : decode cX6_count 107 = .ok (.ireturn, 1) := by decide +kernel
theorem dJ6_bitCount_0f7a4_0 : decode cJ6_bitCount_0f7a4 0 = .ok (.iload_n 0, 1) := by decide +kernel
theorem dJ6_bitCount_0f7a4_1 : decode cJ6_bitCount_0f7a4 1 = .ok (.iload_n 0, 1) := by decide +kernel
theorem dJ6_bitCount_0f7a4_2 : decode cJ6_bitCount_0f7a4 2 = .ok (.iconst 1, 1) := by decide +kernel
theorem dJ6_bitCount_0f7a4_3 : decode cJ6_bitCount_0f7a4 3 = .ok (.iushr, 1) := by decide +kernel
theorem dJ6_bitCount_0f7a4_4 : decode cJ6_bitCount_0f7a4 4 = .ok (.ldc_w 265, 3) := by decide +kernel
theorem dJ6_bitCount_0f7a4_7 : decode cJ6_bitCount_0f7a4 7 = .ok (.iand, 1) := by decide +kernel
theorem dJ6_bitCount_0f7a4_8 : decode cJ6_bitCount_0f7a4 8 = .ok (.isub, 1) := by decide +kernel
theorem dJ6_bitCount_0f7a4_9 : decode cJ6_bitCount_0f7a4 9 = .ok (.istore_n 0, 1) := by decide +kernel
theorem dJ6_bitCount_0f7a4_10 : decode cJ6_bitCount_0f7a4 10 = .ok (.iload_n 0, 1) := by decide +kernel
theorem dJ6_bitCount_0f7a4_11 : decode cJ6_bitCount_0f7a4 11 = .ok (.ldc_w 266, 3) := by decide +kernel
theorem dJ6_bitCount_0f7a4_14 : decode cJ6_bitCount_0f7a4 14 = .ok (.iand, 1) := by decide +kernel
theorem dJ6_bitCount_0f7a4_15 : decode cJ6_bitCount_0f7a4 15 = .ok (.iload_n 0, 1) := by decide +kernel
theorem dJ6_bitCount_0f7a4_16 : decode cJ6_bitCount_0f7a4 16 = .ok (.iconst 2, 1) := by decide +kernel
theorem dJ6_bitCount_0f7a4_17 : decode cJ6_bitCount_0f7a4 17 = .ok (.iushr, 1) := by decide +kernel
theorem dJ6_bitCount_0f7a4_18 : decode cJ6_bitCount_0f7a4 18 = .ok (.ldc_w 266, 3) := by decide +kernel
theorem dJ6_bitCount_0f7a4_21 : decode cJ6_bitCount_0f7a4 21 = .ok (.iand, 1) := by decide +kernel
theorem dJ6_bitCount_0f7a4_22 : decode cJ6_bitCount_0f7a4 22 = .ok (.iadd, 1) := by decide +kernel
theorem dJ6_bitCount_0f7a4_23 : decode cJ6_bitCount_0f7a4 23 = .ok (.istore_n 0, 1) := by decide +kernel
theorem dJ6_bitCount_0f7a4_24 : decode cJ6_bitCount_0f7a4 24 = .ok (.iload_n 0, 1) := by decide +kernel
theorem dJ6_bitCount_0f7a4_25 : decode cJ6_bitCount_0f7a4 25 = .ok (.iload_n 0, 1) := by decide +kernel
theorem dJ6_bitCount_0f7a4_26 : decode cJ6_bitCount_0f7a4 26 = .ok (.iconst 4, 1) := by decide +kernel
theorem dJ6_bitCount_0f7a4_27 : decode cJ6_bitCount_0f7a4 27 = .ok (.iushr, 1) := by decide +kernel
theorem dJ6_bitCount_0f7a4_28 : decode cJ6_bitCount_0f7a4 28 = .ok (.iadd, 1) := by decide +kernel
theorem dJ6_bitCount_0f7a4_29 : decode cJ6_bitCount_0f7a4 29 = .ok (.ldc_w 267, 3) := by decide +kernel
theorem dJ6_bitCount_0f7a4_32 : decode cJ6_bitCount_0f7a4 32 = .ok (.iand, 1) := by decide +kernel
theorem dJ6_bitCount_0f7a4_33 : decode cJ6_bitCount_0f7a4 33 = .ok (.istore_n 0, 1) := by decide +kernel
theorem dJ6_bitCount_0f7a4_34 : decode cJ6_bitCount_0f7a4 34 = .ok (.iload_n 0, 1) := by decide +kernel
theorem dJ6_bitCount_0f7a4_35 : decode cJ6_bitCount_0f7a4 35 = .ok (.iload_n 0, 1) := by decide +kernel
theorem dJ6_bitCount_0f7a4_36 : decode cJ6_bitCount_0f7a4 36 = .ok (.bipush 8, 2) := by decide +kernel
theorem dJ6_bitCount_0f7a4_38 : decode cJ6_bitCount_0f7a4 38 = .ok (.iushr, 1) := by decide +kernel
theorem dJ6_bitCount_0f7a4_39 : decode cJ6_bitCount_0f7a4 39 = .ok (.iadd, 1) := by decide +kernel
theorem dJ6_bitCount_0f7a4_40 : decode cJ6_bitCount_0f7a4 40 = .ok (.istore_n 0, 1) := by decide +kernel
theorem dJ6_bitCount_0f7a4_41 : decode cJ6_bitCount_0f7a4 41 = .ok (.iload_n 0, 1) := by decide +kernel
theorem dJ6_bitCount_0f7a4_42 : decode cJ6_bitCount_0f7a4 42 = .ok (.iload_n 0, 1) := by decide +kernel
theorem dJ6_bitCount_0f7a4_43 : decode cJ6_bitCount_0f7a4 43 = .ok (.bipush 16, 2) := by decide +kernel
theorem dJ6_bitCount_0f7a4_45 : decode cJ6_bitCount_0f7a4 45 = .ok (.iushr, 1) := by decide +kernel
theorem dJ6_bitCount_0f7a4_46 : decode cJ6_bitCount_0f7a4 46 = .ok (.iadd, 1) := by decide +kernel
theorem dJ6_bitCount_0f7a4_47 : decode cJ6_bitCount_0f7a4 47 = .ok (.istore_n 0, 1) := by decide +kernel
theorem dJ6_bitCount_0f7a4_48 : decode cJ6_bitCount_0f7a4 48 = .ok (.iload_n 0, 1) := by decide +kernel
theorem dJ6_bitCount_0f7a4_49 : decode cJ6_bitCount_0f7a4 49 = .ok (.bipush 63, 2) := by decide +kernel
theorem dJ6_bitCount_0f7a4_51 : decode cJ6_bitCount_0f7a4 51 = .ok (.iand, 1) := by decide +kernel
theorem dJ6_bitCount_0f7a4_52 : decode cJ6_bitCount_0f7a4 52 = .ok (.ireturn, 1) := by decide +kernel
theorem dJ9_max_7cf53_0 : decode cJ9_max_7cf53 0 = .ok (.iload_n 0, 1) := by decide +kernel
theorem dJ9_max_7cf53_1 : decode cJ9_max_7cf53 1 = .ok (.iload_n 1, 1) := by decide +kernel
theorem dJ9_max_7cf53_2 : decode cJ9_max_7cf53 2 = .ok (.if_icmp .lt 7, 3) := by decide +kernel
theorem dJ9_max_7cf53_5 : decode cJ9_max_7cf53 5 = .ok (.iload_n 0, 1) := by decide +kernel
theorem dJ9_max_7cf53_6 : decode cJ9_max_7cf53 6 = .ok (.goto 4, 3) := by decide +kernel
theorem dJ9_max_7cf53_9 : decode cJ9_max_7cf53 9 = .ok (.iload_n 1, 1) := by decide +kernel
theorem dJ9_max_7cf53_10 : decode cJ9_max_7cf53 10 = .ok (.ireturn, 1) := by decide +kernel
theorem dJ9_min_7cf53_0 : decode cJ9_min_7cf53 0 = .ok (.iload_n 0, 1) := by decide +kernel
theorem dJ9_min_7cf53_1 : decode cJ9_min_7cf53 1 = .ok (.iload_n 1, 1) := by decide +kernel
theorem dJ9_min_7cf53_2 : decode cJ9_min_7cf53 2 = .ok (.if_icmp .gt 7, 3) := by decide +kernel
theorem dJ9_min_7cf53_5 : decode cJ9_min_7cf53 5 = .ok (.iload_n 0, 1) := by decide +kernel
theorem dJ9_min_7cf53_6 : decode cJ9_min_7cf53 6 = .ok (.goto 4, 3) := by decide +kernel
theorem dJ9_min_7cf53_9 : decode cJ9_min_7cf53 9 = .ok (.iload_n 1, 1) := by decide +kernel
theorem dJ9_min_7cf53_10 : decode cJ9_min_7cf53 10 = .ok (.ireturn, 1) := by decide +kernel
theorem dJ9_min_f86c9_0 : decode cJ9_min_f86c9 0 = .ok (.lload_n 0, 1) := by decide +kernel
theorem dJ9_min_f86c9_1 : decode cJ9_min_f86c9 1 = .ok (.lload_n 2, 1) := by decide +kernel
theorem dJ9_min_f86c9_2 : decode cJ9_min_f86c9 2 = .ok (.lcmp, 1) := by decide +kernel
theorem dJ9_min_f86c9_3 : decode cJ9_min_f86c9 3 = .ok (.ifCond .gt 7, 3) := by decide +kernel
theorem dJ9_min_f86c9_6 : decode cJ9_min_f86c9 6 = .ok (.lload_n 0, 1) := by decide +kernel
theorem dJ9_min_f86c9_7 : decode cJ9_min_f86c9 7 = .ok (.goto 4, 3) := by decide +kernel
theorem dJ9_min_f86c9_10 : decode cJ9_min_f86c9 10 = .ok (.lload_n 2, 1) := by decide +kernel
theorem dJ9_min_f86c9_11 : decode cJ9_min_f86c9 11 = .ok (.lreturn, 1) := by decide +kernel
theorem dJ7_fill_d0a16_0 : decode cJ7_fill_d0a16 0 = .ok (.iconst 0, 1) := by decide +kernel
theorem dJ7_fill_d0a16_1 : decode cJ7_fill_d0a16 1 = .ok (.istore_n 3, 1) := by decide +kernel
theorem dJ7_fill_d0a16_2 : decode cJ7_fill_d0a16 2 = .ok (.aload_n 0, 1) := by decide +kernel
theorem dJ7_fill_d0a16_3 : decode cJ7_fill_d0a16 3 = .ok (.arraylength, 1) := by decide +kernel
theorem dJ7_fill_d0a16_4 : decode cJ7_fill_d0a16 4 = .ok (.istore 4, 2) := by decide +kernel
theorem dJ7_fill_d0a16_6 : decode cJ7_fill_d0a16 6 = .ok (.iload_n 3, 1) := by decide +kernel
theorem dJ7_fill_d0a16_7 : decode cJ7_fill_d0a16 7 = .ok (.iload 4, 2) := by decide +kernel
theorem dJ7_fill_d0a16_9 : decode cJ7_fill_d0a16 9 = .ok (.if_icmp .ge 13, 3) := by decide +kernel
theorem dJ7_fill_d0a16_12 : decode cJ7_fill_d0a16 12 = .ok (.aload_n 0, 1) := by decide +kernel
theorem dJ7_fill_d0a16_13 : decode cJ7_fill_d0a16 13 = .ok (.iload_n 3, 1) := by decide +kernel
theorem dJ7_fill_d0a16_14 : decode cJ7_fill_d0a16 14 = .ok (.lload_n 1, 1) := by decide +kernel
theorem dJ7_fill_d0a16_15 : decode cJ7_fill_d0a16 15 = .ok (.lastore, 1) := by decide +kernel
theorem dJ7_fill_d0a16_16 : decode cJ7_fill_d0a16 16 = .ok (.iinc 3 1, 3) := by decide +kernel
theorem dJ7_fill_d0a16_19 : decode cJ7_fill_d0a16 19 = .ok (.goto (-13), 3) := by decide +kernel
theorem dJ7_fill_d0a16_22 : decode cJ7_fill_d0a16 22 = .ok (.return_, 1) := by decide +kernel
theorem dJ7_fill_53178_0 : decode cJ7_fill_53178 0 = .ok (.iconst 0, 1) := by decide +kernel
theorem dJ7_fill_53178_1 : decode cJ7_fill_53178 1 = .ok (.istore_n 2, 1) := by decide +kernel
theorem dJ7_fill_53178_2 : decode cJ7_fill_53178 2 = .ok (.aload_n 0, 1) := by decide +kernel
theorem dJ7_fill_53178_3 : decode cJ7_fill_53178 3 = .ok (.arraylength, 1) := by decide +kernel
theorem dJ7_fill_53178_4 : decode cJ7_fill_53178 4 = .ok (.istore_n 3, 1) := by decide +kernel
theorem dJ7_fill_53178_5 : decode cJ7_fill_53178 5 = .ok (.iload_n 2, 1) := by decide +kernel
theorem dJ7_fill_53178_6 : decode cJ7_fill_53178 6 = .ok (.iload_n 3, 1) := by decide +kernel
theorem dJ7_fill_53178_7 : decode cJ7_fill_53178 7 = .ok (.if_icmp .ge 13, 3) := by decide +kernel
theorem dJ7_fill_53178_10 : decode cJ7_fill_53178 10 = .ok (.aload_n 0, 1) := by decide +kernel
theorem dJ7_fill_53178_11 : decode cJ7_fill_53178 11 = .ok (.iload_n 2, 1) := by decide +kernel
theorem dJ7_fill_53178_12 : decode cJ7_fill_53178 12 = .ok (.iload_n 1, 1) := by decide +kernel
theorem dJ7_fill_53178_13 : decode cJ7_fill_53178 13 = .ok (.iastore, 1) := by decide +kernel
theorem dJ7_fill_53178_14 : decode cJ7_fill_53178 14 = .ok (.iinc 2 1, 3) := by decide +kernel
theorem dJ7_fill_53178_17 : decode cJ7_fill_53178 17 = .ok (.goto (-12), 3) := by decide +kernel
theorem dJ7_fill_53178_20 : decode cJ7_fill_53178 20 = .ok (.return_, 1) := by decide +kernel
end
section
/-! ===== whole numbers ===== -/
def J (z : Int) : Int32 := Int32.ofInt z
def JL (z : Int) : Int64 := Int64.ofInt z
abbrev i32 (z : Int) : Prop := -2147483648 ≤ z ∧ z < 2147483648
abbrev i64 (z : Int) : Prop := -9223372036854775808 ≤ z ∧ z < 9223372036854775808
theorem J_toInt {z : Int} (h : i32 z) : (J z).toInt = z := Int32.toInt_ofInt_of_le (by have := h.1; omega) (by have := h.2; omega)
theorem JL_toInt {z : Int} (h : i64 z) : (JL z).toInt = z := Int64.toInt_ofInt_of_le (by have := h.1; omega) (by have := h.2; omega)
theorem J_of (x : Int32) : ∃ z : Int, i32 z ∧ x = J z := by
  refine ⟨x.toInt, ⟨?_, ?_⟩, ?_⟩
  · have := x.le_toInt; omega
  · have := x.toInt_lt; omega
  · unfold J; exact (Int32.ofInt_toInt x).symm
theorem J_add (x y : Int) : J x + J y = J (x + y) := by unfold J; exact (Int32.ofInt_add x y).symm
theorem J_sub (x y : Int) : J x - J y = J (x - y) := by unfold J; exact (Int32.ofInt_sub x y).symm
theorem J_mul (x y : Int) : J x * J y = J (x * y) := by unfold J; exact (Int32.ofInt_mul x y).symm
theorem JL_add (x y : Int) : JL x + JL y = JL (x + y) := by unfold JL; exact (Int64.ofInt_add x y).symm
theorem J_lt {x y : Int} (hx : i32 x) (hy : i32 y) : J x < J y ↔ x < y := by
  rw [Int32.lt_iff_toInt_lt, J_toInt hx, J_toInt hy]
theorem J_le {x y : Int} (hx : i32 x) (hy : i32 y) : J x ≤ J y ↔ x ≤ y := by
  rw [Int32.le_iff_toInt_le, J_toInt hx, J_toInt hy]
theorem J_eq {x y : Int} (hx : i32 x) (hy : i32 y) : J x = J y ↔ x = y := by
  rw [← Int32.toInt_inj, J_toInt hx, J_toInt hy]
theorem JL_lt {x y : Int} (hx : i64 x) (hy : i64 y) : JL x < JL y ↔ x < y := by
  rw [Int64.lt_iff_toInt_lt, JL_toInt hx, JL_toInt hy]
theorem JL_le {x y : Int} (hx : i64 x) (hy : i64 y) : JL x ≤ JL y ↔ x ≤ y := by
  rw [Int64.le_iff_toInt_le, JL_toInt hx, JL_toInt hy]
theorem JL_eq {x y : Int} (hx : i64 x) (hy : i64 y) : JL x = JL y ↔ x = y := by
  rw [← Int64.toInt_inj, JL_toInt hx, JL_toInt hy]
theorem J_nI {z : Int} (h : 0 ≤ z) : J z = nI z.toNat := by
  unfold J nI
  rw [← Int32.ofInt_eq_ofNat, Int.toNat_of_nonneg h]
theorem nI_J (n : Nat) : nI n = J n := by
  rw [J_nI (by omega), Int.toNat_natCast]
theorem J_zero : (0 : Int32) = J 0 := by decide
theorem J_in {i n : Int} (h0 : 0 ≤ i) (h : i < n) (hn : n < 2147483648) : vp_in (J i) n.toNat := by
  rw [J_nI h0]
  exact vp_in_nI (by omega) (by omega)
theorem J_clamp {i : Int} (h0 : 0 ≤ i) (hn : i < 2147483648) : (J i).toNatClampNeg = i.toNat := by
  rw [J_nI h0]
  exact nI_clamp (by omega)
theorem J_div {x y : Int} (h0 : 0 ≤ x) (hx : x < 2147483648) (hy : 0 < y) (hy2 : y < 2147483648) : J x / J y = J (x / y) := by
  rw [J_nI h0, J_nI (by omega), pk_div (by omega) (by omega) (by omega), nI_J]
  congr 1
  rw [Int.natCast_ediv, Int.toNat_of_nonneg h0, Int.toNat_of_nonneg (by omega)]
theorem J_rem {x y : Int} (h0 : 0 ≤ x) (hx : x < 2147483648) (hy : 0 < y) (hy2 : y < 2147483648) : J x - J x / J y * J y = J (x % y) := by
  rw [J_nI h0, J_nI (by omega : 0 ≤ y), pk_rem (by omega) (by omega) (by omega), nI_J]
  congr 1
  rw [Int.natCast_emod, Int.toNat_of_nonneg h0, Int.toNat_of_nonneg (by omega)]
/-! ===== cells ===== -/
abbrev GX : Type := va_G × (Nat → ClassId)
abbrev Hp : Type := Nat → Option va_E
def tyL (g : GX) : List (ClassId × FieldType) := [(g.2 0, .int), (g.2 1, .long), (g.2 2, .boolean), (g.2 3, .array .int)]
abbrev ob (ci : Nat) (fs : List Value) : va_E := .inr (ci, fs)
def ai (g : GX) (n : Int) (f : Int → Int) : va_E := .inl (g.2 0, n.toNat, .inl (fun k => J (f k)))
def al (g : GX) (n : Int) (f : Int → Int) : va_E := .inl (g.2 1, n.toNat, .inr (.inl (fun k => JL (f k))))
def az (g : GX) (n : Int) (f : Int → Int) : va_E := .inl (g.2 2, n.toNat, .inl (fun k => J (f k)))
def aq (g : GX) (n : Int) (f : Int → Nat) : va_E := .inl (g.2 3, n.toNat, .inr (.inr (.inr (.inr (fun k => some (f k))))))
def uf {α : Type} (f : Int → α) (i : Int) (v : α) : Int → α := fun j => if j = i then v else f j
def uh (h : Hp) (q : Nat) (e : va_E) : Hp := fun a => if a = q then some e else h a
theorem uh_same (h : Hp) (q : Nat) (e : va_E) : uh h q e q = some e := if_pos rfl
theorem uh_ne (h : Hp) {q a : Nat} (e : va_E) (n : a ≠ q) : uh h q e a = h a := if_neg n
theorem uf_same {α : Type} (f : Int → α) (i : Int) (v : α) : uf f i v i = v := if_pos rfl
theorem uf_ne {α : Type} (f : Int → α) {i j : Int} (v : α) (n : j ≠ i) : uf f i v j = f j := if_neg n
def Wd (g : GX) (base : Nat) (h : Hp) (H : Heap) : Prop := ∀ (q : Nat) (e : va_E), h q = some e → base ≤ q ∧ va_at g.1 vwCl (q, e) H
abbrev Ab (base : Nat) : Nat → Prop := fun q => base ≤ q
theorem Wd.one {g : GX} {base : Nat} {h : Hp} {H : Heap} (hW : Wd g base h H) {q : Nat} {e : va_E} (hq : h q = some e) : va_P g.1 vwCl [(q, e)] H := by
  intro k x hx
  have hk : k < 1 := (List.getElem?_eq_some_iff.mp hx).1
  rw [show k = 0 by omega] at hx
  cases hx
  exact (hW q e hq).2
theorem Wd.lt {g : GX} {base : Nat} {h : Hp} {H : Heap} (hW : Wd g base h H) {q : Nat} {e : va_E} (hq : h q = some e) : q < H.size := ((hW q e hq).2).lt
theorem Wd.fresh {g : GX} {base : Nat} {h : Hp} {H : Heap} (hW : Wd g base h H) : h H.size = none := by
  cases hh : h H.size with
  | none => rfl
  | some e => exact absurd (hW.lt hh) (Nat.lt_irrefl _)
theorem Wd.set {g : GX} {base : Nat} {h : Hp} {H H1 : Heap} (hW : Wd g base h H) {q : Nat} {e : va_E} (hb : base ≤ q) (he : va_at g.1 vwCl (q, e) H1) (ho : ∀ a : Nat, a < H.size → a ≠ q → H1[a]? = H[a]?) : Wd g base (uh h q e) H1 := by
  intro a x hx
  by_cases ha : a = q
  · subst ha
    rw [uh_same] at hx
    cases hx
    exact ⟨hb, he⟩
  · rw [uh_ne _ _ ha] at hx
    exact ⟨(hW a x hx).1, (hW a x hx).2.kept (ho a (hW.lt hx) ha)⟩
/-! ===== statics, and the words that every method is given ===== -/
def k_giver (j : Int) : Int := ([-1, -1, -1, -1, 0, 1, 2, 3, 0, 0, 0, 0, 1, 1, 1, 1, 2, 2, 2, 2, 3, 3, 3, 3] : List Int).getD j.toNat 0
def k_taker (j : Int) : Int := ([0, 1, 2, 3, -1, -1, -1, -1, 0, 1, 2, 3, 0, 1, 2, 3, 0, 1, 2, 3, 0, 1, 2, 3] : List Int).getD j.toNat 0
def k_states (j : Int) : Int := ([1, 12, 144, 1728] : List Int).getD j.toNat 0
def k_place (j : Int) : Int := ([1, 12, 144] : List Int).getD j.toNat 0
def Sa (base : Nat) (C n : String) (a N : Nat) (f : Int → Int) (U : State) : Prop := va_Z C n "[I" (.ref a) (Ab base) U U.heap ∧ va_T .int a N (fun j => .int (J (f j))) (Ab base) U U.heap
def nestM (a : String) (i : Nat) (C n d : String) : Cond := .methodLinkNest a i ⟨C, n, d⟩ "JugsAndGlasses"
def nestF (a : String) (i : Nat) (n : String) : Cond := .fieldLinkNest a i "JugsAndGlasses" n "[I" "JugsAndGlasses"
def NK (U : State) : Prop := va_Nw (nestM "JugsAndGlasses" 9 "JugsAndGlasses$Search" "<init>" "()V") U ∧ va_Nw (nestM "JugsAndGlasses$Search" 11 "JugsAndGlasses$Jugs" "<init>" "()V") U ∧ va_Nw (nestM "JugsAndGlasses$Search" 23 "JugsAndGlasses$Tour" "<init>" "()V") U ∧ va_Nw (nestM "JugsAndGlasses$Search" 33 "JugsAndGlasses$Spilling" "<init>" "()V") U ∧ va_Nw (nestM "JugsAndGlasses" 23 "JugsAndGlasses$Glasses" "<init>" "()V") U ∧ va_Nw (nestM "JugsAndGlasses$Tour" 25 "JugsAndGlasses" "lengthFor" "(II)I") U ∧ va_Nw (nestF "JugsAndGlasses$Jugs" 35 "GIVER") U ∧ va_Nw (nestF "JugsAndGlasses$Jugs" 38 "TAKER") U
theorem NK.warm {s U : State} (hW : s.WarmedH U.vm) (h : NK s) : NK U := by
  obtain ⟨h1, h2, h3, h4, h5, h6, h7, h8⟩ := h
  exact ⟨va_Nw.warmM hW h1, va_Nw.warmM hW h2, va_Nw.warmM hW h3, va_Nw.warmM hW h4, va_Nw.warmM hW h5, va_Nw.warmM hW h6, va_Nw.warmF hW h7, va_Nw.warmF hW h8⟩
theorem NK.same {s U : State} (hW : s.vm = U.vm) (h : NK s) : NK U := by
  obtain ⟨h1, h2, h3, h4, h5, h6, h7, h8⟩ := h
  exact ⟨h1.same rfl hW, h2.same rfl hW, h3.same rfl hW, h4.same rfl hW, h5.same rfl hW, h6.same rfl hW, h7.same rfl hW, h8.same rfl hW⟩
def KK (g : GX) (base : Nat) (sa : Nat → Nat) (U : State) : Prop := va_K g.1 vwCl (tyL g) U ∧ base ≤ U.heap.size ∧ Sa base "JugsAndGlasses" "GIVER" (sa 0) 24 k_giver U ∧ Sa base "JugsAndGlasses" "TAKER" (sa 1) 24 k_taker U ∧ Sa base "JugsAndGlasses$Glasses" "STATES" (sa 2) 4 k_states U ∧ Sa base "JugsAndGlasses$Glasses" "PLACE" (sa 3) 3 k_place U ∧ NK U
theorem Sa.moved {base : Nat} {C n : String} {a N : Nat} {f : Int → Int} {s U : State} (hvm : s.vm.Alike U.vm) (hk : ∀ q : Nat, q < s.heap.size → ¬ Ab base q → U.heap[q]? = s.heap[q]?) (h : Sa base C n a N f s) : Sa base C n a N f U :=
  ⟨va_Z.moved hvm (h.1.kept hk), va_T.moved hvm (h.2.kept hk)⟩
theorem KK.moved {g : GX} {base : Nat} {sa : Nat → Nat} {s U : State} (hvm : s.vm.Alike U.vm) (hnk : NK s → NK U) (hz : s.heap.size ≤ U.heap.size) (hk : ∀ q : Nat, q < s.heap.size → ¬ Ab base q → U.heap[q]? = s.heap[q]?) (h : KK g base sa s) : KK g base sa U := by
  obtain ⟨h1, h2, h3, h4, h5, h6, h7⟩ := h
  exact ⟨va_K.moved hvm h1, Nat.le_trans h2 hz, h3.moved hvm hk, h4.moved hvm hk, h5.moved hvm hk, h6.moved hvm hk, hnk h7⟩
/-! ===== a method's contract: from the heap h it answers r and leaves h', with post r h' ===== -/
def QcM (g : GX) (base : Nat) (post : Option Value → Hp → Prop) : Array Value → State → Outcome → State → Prop := fun _ s0 o t => (∃ (r : Option Value) (h' : Hp), o = .returned r ∧ post r h' ∧ Wd g base h' t.heap) ∧ va_F (Ab base) s0 t
def PcM (g : GX) (base : Nat) (sa : Nat → Nat) (av : List Value) (h : Hp) : Array Value → State → Prop := va_Pc av (fun U => KK g base sa U ∧ Wd g base h U.heap)
def MC (l : Launch) (g : GX) (base : Nat) (sa : Nat → Nat) (y : MethodName) (ws : List Cond) (rm : Room) (av : List Value) (h : Hp) (post : Option Value → Hp → Prop) : Prop :=
  Met l y ws rm (PcM g base sa av h) (QcM g base post) rm.cells rm.slots (Ab base)
/-! ===== rows over the heap h ===== -/
section GR
variable {p : Program} {l : Launch} {e : Env} {R : Room} {s : State} {m : MethodId} {args : Array Value} {below : List Frame} {meth : Method} {c : Code} {H : Heap} {locs : List Loc} {cells slots : Nat} {Q : State → Prop}
variable {cc : ByteArray} {pc : Nat} {ls : Array Slot} {rest : List Value} {g : GX} {base : Nat} {sa : Nat → Nat} {h : Hp} {a : Nat}
theorem g_get (hexec : p.tables.exec = Jvm.exec) (hb : c.code = cc) {own ref C : String} {T : u_T} {N ci index : Nat} {Ts : List Cond} (hts : ∀ w ∈ Ts, w.before args s = true) (hin : ∀ w ∈ u_ws C T N, w ∈ Ts) (hown : s.vm.findClass own = some m.cls) (hK : KK g base sa s) (hW : Wd g base h H) {fs : List Value} (he : h a = some (.inr (ci, fs))) (hc : vwCl[ci]? = some (C, T, N)) (k : Nat) (hk : k < N) (hlink : (Cond.fieldLink own index ref (T k).2.1 (T k).2.2.1).before args s = true) (hsame : (T k).1 = ref) {v : Value} (hv : fs[k]? = some v) (hdg : decode cc pc = .ok (.getfield index, 3))
    (kk : W p l e R s m args below meth c H locs cells slots Q (F0 m (pc + 3) ls (v :: rest))) : W p l e R s m args below meth c H locs cells slots Q (F0 m pc ls (.ref a :: rest)) :=
  va_get hexec hb hts hin hown hK.1 (hW.one he) 0 rfl hc k hk hlink (fun x hx => by rw [← hsame]; exact hx) hv hdg kk
theorem g_getN (hexec : p.tables.exec = Jvm.exec) (hb : c.code = cc) {own ref C host : String} {T : u_T} {N ci index : Nat} {Ts : List Cond} (hts : ∀ w ∈ Ts, w.before args s = true) (hin : ∀ w ∈ u_ws C T N, w ∈ Ts) (hown : s.vm.findClass own = some m.cls) (hK : KK g base sa s) (hW : Wd g base h H) {fs : List Value} (he : h a = some (.inr (ci, fs))) (hc : vwCl[ci]? = some (C, T, N)) (k : Nat) (hk : k < N) (hlink : (Cond.fieldLinkNest own index ref (T k).2.1 (T k).2.2.1 host).before args s = true) (hsame : (T k).1 = ref) {v : Value} (hv : fs[k]? = some v) (hdg : decode cc pc = .ok (.getfield index, 3))
    (kk : W p l e R s m args below meth c H locs cells slots Q (F0 m (pc + 3) ls (v :: rest))) : W p l e R s m args below meth c H locs cells slots Q (F0 m pc ls (.ref a :: rest)) :=
  va_getN hexec hb hts hin hown hK.1 (hW.one he) 0 rfl hc k hk hlink (fun x hx => by rw [← hsame]; exact hx) hv hdg kk
theorem g_put (hexec : p.tables.exec = Jvm.exec) (hb : c.code = cc) {own ref C : String} {T : u_T} {N ci index : Nat} {Ts : List Cond} (hts : ∀ w ∈ Ts, w.before args s = true) (hin : ∀ w ∈ u_ws C T N, w ∈ Ts) (ty0 : Nat → FieldType) (hty : ∀ k, k < N → parseFieldDescriptor (T k).2.2.1 = some (ty0 k)) (hnm : ∀ a, a < N → ∀ b, b < N → a ≠ b → (T a).2.1 ≠ (T b).2.1) (hown : s.vm.findClass own = some m.cls) (hK : KK g base sa s) (hW : Wd g base h H) (hS0 : va_S (Ab base) s.heap H locs) {fs : List Value} (he : h a = some (.inr (ci, fs))) (hc : vwCl[ci]? = some (C, T, N)) (k : Nat) (hk : k < N) (hlink : (Cond.fieldLink own index ref (T k).2.1 (T k).2.2.1).before args s = true) (hsame : (T k).1 = ref) (hfin : (T k).2.2.2 = false) {ty : FieldType} {v : Value} (hd : parseFieldDescriptor (T k).2.2.1 = some ty) (hn : narrow ty v = v) (hfit : fits ty v = true) (hl : k < fs.length)
    (hdg : decode cc pc = .ok (.putfield index, 3)) (kk : ∀ (H1 : Heap) (locs1 : List Loc), Wd g base (uh h a (.inr (ci, fs.set k v))) H1 → va_S (Ab base) s.heap H1 locs1 → W p l e R s m args below meth c H1 locs1 cells slots Q (F0 m (pc + 3) ls rest)) : W p l e R s m args below meth c H locs cells slots Q (F0 m pc ls (v :: .ref a :: rest)) := by
  have hap := va_apart (own := own) hts hin ty0 hty hnm hK.1 hc
  have hba := (hW a _ he).1
  obtain ⟨r, h1, cell, q1, q2, q3, q4⟩ := (hW a _ he).2
  have hr : r = (C, T, N) := Option.some.inj (h1.symm.trans hc)
  subst hr
  obtain ⟨hS, hfc, kC, hkC, hkind⟩ := hK.1.1 ci _ hc
  obtain ⟨cf, kf, fi, f, hi, hsl⟩ := hS k hk
  have hlay := hts _ (hin _ (u_in_lay hk))
  unfold u_lay at hlay
  rw [if_neg (by rw [hfin]; decide)] at hlay
  have hst := (u_facts hfc hkC (u_lays hts hin hk) hi).1
  have h6 := u_store hfc hkC hkind hlay hi hd hn hfit
  refine W.putK hexec hb (f := f) ⟨hown, hlink, ⟨_, _, _, by rw [← hsame]; exact hi⟩, hst⟩ (by rw [q2]; exact h6) q1 q3 (by rw [hsl]; exact k2_hasslot (q4 k hk)) rfl rfl hdg fun H' e1 e2 e3 => ?_
  rw [hsl] at e1 ⊢
  exact kk H' _ (hW.set hba ⟨_, hc, t_OB.to (V := updV (vp_V fs) k v) ⟨_, e1, q2, q3, t_set q4 hap hk v⟩ (fun j _ => vp_updV_set hl v j)⟩ (fun x _ hx => e3 x hx)) (hS0.put e2 e3 hba)
theorem g_putN (hexec : p.tables.exec = Jvm.exec) (hb : c.code = cc) {own ref C host : String} {T : u_T} {N ci index : Nat} {Ts : List Cond} (hts : ∀ w ∈ Ts, w.before args s = true) (hin : ∀ w ∈ u_ws C T N, w ∈ Ts) (ty0 : Nat → FieldType) (hty : ∀ k, k < N → parseFieldDescriptor (T k).2.2.1 = some (ty0 k)) (hnm : ∀ a, a < N → ∀ b, b < N → a ≠ b → (T a).2.1 ≠ (T b).2.1) (hown : s.vm.findClass own = some m.cls) (hK : KK g base sa s) (hW : Wd g base h H) (hS0 : va_S (Ab base) s.heap H locs) {fs : List Value} (he : h a = some (.inr (ci, fs))) (hc : vwCl[ci]? = some (C, T, N)) (k : Nat) (hk : k < N) (hlink : (Cond.fieldLinkNest own index ref (T k).2.1 (T k).2.2.1 host).before args s = true) (hsame : (T k).1 = ref) (hfin : (T k).2.2.2 = false) {ty : FieldType} {v : Value} (hd : parseFieldDescriptor (T k).2.2.1 = some ty) (hn : narrow ty v = v) (hfit : fits ty v = true) (hl : k < fs.length)
    (hdg : decode cc pc = .ok (.putfield index, 3)) (kk : ∀ (H1 : Heap) (locs1 : List Loc), Wd g base (uh h a (.inr (ci, fs.set k v))) H1 → va_S (Ab base) s.heap H1 locs1 → W p l e R s m args below meth c H1 locs1 cells slots Q (F0 m (pc + 3) ls rest)) : W p l e R s m args below meth c H locs cells slots Q (F0 m pc ls (v :: .ref a :: rest)) := by
  have hap := va_apart (own := own) hts hin ty0 hty hnm hK.1 hc
  have hba := (hW a _ he).1
  obtain ⟨r, h1, cell, q1, q2, q3, q4⟩ := (hW a _ he).2
  have hr : r = (C, T, N) := Option.some.inj (h1.symm.trans hc)
  subst hr
  obtain ⟨hS, hfc, kC, hkC, hkind⟩ := hK.1.1 ci _ hc
  obtain ⟨cf, kf, fi, f, hi, hsl⟩ := hS k hk
  have hlay := hts _ (hin _ (u_in_lay hk))
  unfold u_lay at hlay
  rw [if_neg (by rw [hfin]; decide)] at hlay
  have hst := (u_facts hfc hkC (u_lays hts hin hk) hi).1
  have h6 := u_store hfc hkC hkind hlay hi hd hn hfit
  refine va_WputK hexec hb (f := f) hown hlink (by rw [← hsame]; exact hi) hst (by rw [q2]; exact h6) q1 q3 (by rw [hsl]; exact k2_hasslot (q4 k hk)) rfl rfl hdg fun H' e1 e2 e3 => ?_
  rw [hsl] at e1 ⊢
  exact kk H' _ (hW.set hba ⟨_, hc, t_OB.to (V := updV (vp_V fs) k v) ⟨_, e1, q2, q3, t_set q4 hap hk v⟩ (fun j _ => vp_updV_set hl v j)⟩ (fun x _ hx => e3 x hx)) (hS0.put e2 e3 hba)
theorem g_putF (hexec : p.tables.exec = Jvm.exec) (hb : c.code = cc) {own ref C : String} {T : u_T} {N ci index : Nat} {Ts : List Cond} (hts : ∀ w ∈ Ts, w.before args s = true) (hin : ∀ w ∈ u_ws C T N, w ∈ Ts) (ty0 : Nat → FieldType) (hty : ∀ k, k < N → parseFieldDescriptor (T k).2.2.1 = some (ty0 k)) (hnm : ∀ a, a < N → ∀ b, b < N → a ≠ b → (T a).2.1 ≠ (T b).2.1) (hown : s.vm.findClass own = some m.cls) (hK : KK g base sa s) (hW : Wd g base h H) (hS0 : va_S (Ab base) s.heap H locs) {fs : List Value} (he : h a = some (.inr (ci, fs))) (hc : vwCl[ci]? = some (C, T, N)) (k : Nat) (hk : k < N) (hlink : (Cond.fieldLink own index ref (T k).2.1 (T k).2.2.1).before args s = true) (hsame : (T k).1 = ref) (hfin : (T k).2.2.2 = true) (hin2 : meth.name = "<init>") (hdecl : (T k).1 = own) {ty : FieldType} {v : Value} (hd : parseFieldDescriptor (T k).2.2.1 = some ty) (hn : narrow ty v = v) (hfit : fits ty v = true) (hl : k < fs.length)
    (hdg : decode cc pc = .ok (.putfield index, 3)) (kk : ∀ (H1 : Heap) (locs1 : List Loc), Wd g base (uh h a (.inr (ci, fs.set k v))) H1 → va_S (Ab base) s.heap H1 locs1 → W p l e R s m args below meth c H1 locs1 cells slots Q (F0 m (pc + 3) ls rest)) : W p l e R s m args below meth c H locs cells slots Q (F0 m pc ls (v :: .ref a :: rest)) := by
  have hap := va_apart (own := own) hts hin ty0 hty hnm hK.1 hc
  have hba := (hW a _ he).1
  obtain ⟨r, h1, cell, q1, q2, q3, q4⟩ := (hW a _ he).2
  have hr : r = (C, T, N) := Option.some.inj (h1.symm.trans hc)
  subst hr
  obtain ⟨hS, hfc, kC, hkC, hkind⟩ := hK.1.1 ci _ hc
  obtain ⟨cf, kf, fi, f, hi, hsl⟩ := hS k hk
  have hlay := hts _ (hin _ (u_in_lay hk))
  unfold u_lay at hlay
  rw [if_pos hfin] at hlay
  have hst := (u_facts hfc hkC (u_lays hts hin hk) hi).1
  have hcf : m.cls = cf := by
    obtain ⟨_, _, c', _, _, _, -, -, hf', -, -, -, hown2, -⟩ := Cond.laysFinal_spec hlay
    have e1 : c' = cf := by have := hi.symm.trans hf'; simp at this; exact this.1.symm
    rw [hdecl] at hown2
    rw [← e1]; exact Option.some.inj (hown.symm.trans hown2)
  have h6 := u_fits hfc hkC hkind (Or.inr hlay) hi hd hn hfit
  refine W.putFinK hexec hb hown hlink (by rw [← hsame]; exact hi) hst hcf hin2 (by rw [q2]; exact h6) q1 q3 (by rw [hsl]; exact k2_hasslot (q4 k hk)) rfl rfl hdg fun H' e1 e2 e3 => ?_
  rw [hsl] at e1 ⊢
  exact kk H' _ (hW.set hba ⟨_, hc, t_OB.to (V := updV (vp_V fs) k v) ⟨_, e1, q2, q3, t_set q4 hap hk v⟩ (fun j _ => vp_updV_set hl v j)⟩ (fun x _ hx => e3 x hx)) (hS0.put e2 e3 hba)
theorem ai_read (f : Int → Int) {i : Int} (h0 : 0 ≤ i) (hn : i < 2147483648) : J (f (((J i).toNatClampNeg : Nat) : Int)) = J (f i) := by
  rw [J_clamp h0 hn, Int.toNat_of_nonneg h0]
theorem al_read (f : Int → Int) {i : Int} (h0 : 0 ≤ i) (hn : i < 2147483648) : JL (f (((J i).toNatClampNeg : Nat) : Int)) = JL (f i) := by
  rw [J_clamp h0 hn, Int.toNat_of_nonneg h0]
theorem ai_upd (f : Int → Int) {i : Int} (x : Int) (h0 : 0 ≤ i) (hn : i < 2147483648) : updV (fun j => .int ((fun k : Nat => J (f k)) j)) (J i).toNatClampNeg (.int (J x)) = (fun j => .int ((fun k : Nat => J (uf f i x k)) j)) := by
  rw [J_clamp h0 hn]
  funext j
  by_cases hj : j = i.toNat
  · subst hj
    simp [updV, uf, Int.toNat_of_nonneg h0]
  · have hj2 : (j : Int) ≠ i := by omega
    simp [updV, uf, hj, hj2]
theorem al_upd (f : Int → Int) {i : Int} (x : Int) (h0 : 0 ≤ i) (hn : i < 2147483648) : updV (fun j => .long ((fun k : Nat => JL (f k)) j)) (J i).toNatClampNeg (.long (JL x)) = (fun j => .long ((fun k : Nat => JL (uf f i x k)) j)) := by
  rw [J_clamp h0 hn]
  funext j
  by_cases hj : j = i.toNat
  · subst hj
    simp [updV, uf, Int.toNat_of_nonneg h0]
  · have hj2 : (j : Int) ≠ i := by omega
    simp [updV, uf, hj, hj2]
theorem g_iald (hexec : p.tables.exec = Jvm.exec) (hb : c.code = cc) (hK : KK g base sa s) (hW : Wd g base h H) {n : Int} {f : Int → Int} (ha : h a = some (ai g n f)) {i : Int} (h0 : 0 ≤ i) (hi : i < n) (hn : n < 2147483648) (hdg : decode cc pc = .ok (.iaload, 1))
    (kk : W p l e R s m args below meth c H locs cells slots Q (F0 m (pc + 1) ls (.int (J (f i)) :: rest))) : W p l e R s m args below meth c H locs cells slots Q (F0 m pc ls (.int (J i) :: .ref a :: rest)) := by
  refine va_iald hexec hb hK.1 (hW.one ha) 0 0 rfl rfl (J_in h0 hi hn) hdg ?_
  rw [ai_read f h0 (by omega)]
  exact kk
theorem g_lald (hexec : p.tables.exec = Jvm.exec) (hb : c.code = cc) (hK : KK g base sa s) (hW : Wd g base h H) {n : Int} {f : Int → Int} (ha : h a = some (al g n f)) {i : Int} (h0 : 0 ≤ i) (hi : i < n) (hn : n < 2147483648) (hdg : decode cc pc = .ok (.laload, 1))
    (kk : W p l e R s m args below meth c H locs cells slots Q (F0 m (pc + 1) ls (.long (JL (f i)) :: rest))) : W p l e R s m args below meth c H locs cells slots Q (F0 m pc ls (.int (J i) :: .ref a :: rest)) := by
  refine va_lald hexec hb hK.1 (hW.one ha) 0 1 rfl rfl (J_in h0 hi hn) hdg ?_
  rw [al_read f h0 (by omega)]
  exact kk
theorem g_zald (hexec : p.tables.exec = Jvm.exec) (hb : c.code = cc) (hK : KK g base sa s) (hW : Wd g base h H) {n : Int} {f : Int → Int} (ha : h a = some (az g n f)) {i : Int} (h0 : 0 ≤ i) (hi : i < n) (hn : n < 2147483648) (hdg : decode cc pc = .ok (.baload, 1))
    (kk : W p l e R s m args below meth c H locs cells slots Q (F0 m (pc + 1) ls (.int (J (f i)) :: rest))) : W p l e R s m args below meth c H locs cells slots Q (F0 m pc ls (.int (J i) :: .ref a :: rest)) := by
  refine va_zald hexec hb hK.1 (hW.one ha) 0 2 rfl rfl (J_in h0 hi hn) hdg ?_
  rw [ai_read f h0 (by omega)]
  exact kk
theorem g_aald (hexec : p.tables.exec = Jvm.exec) (hb : c.code = cc) (hK : KK g base sa s) (hW : Wd g base h H) {n : Int} {f : Int → Nat} (ha : h a = some (aq g n f)) {i : Int} (h0 : 0 ≤ i) (hi : i < n) (hn : n < 2147483648) (hdg : decode cc pc = .ok (.aaload, 1))
    (kk : W p l e R s m args below meth c H locs cells slots Q (F0 m (pc + 1) ls (.ref (f i) :: rest))) : W p l e R s m args below meth c H locs cells slots Q (F0 m pc ls (.int (J i) :: .ref a :: rest)) := by
  have hin := J_in h0 hi hn
  have hlt : (J i).toNatClampNeg < n.toNat := Nat.not_le.mp fun q => hin (Or.inr q)
  have hcell : H[a]? = some (vp_cell (g.2 3) (n.toNat, .inr (.inr (.inr (.inr (fun k => some (f k))))))) := hW.one ha 0 _ rfl
  refine W.aald (v := .ref (f i)) (ty := .array .int) hexec hb hcell ((hK.1.2 3 _ rfl).1 n.toNat (fun j => va_rf (some (f j)))) rfl (fun q => by cases q) (by show ¬ (J i < 0 ∨ (arrV _ _ _).slots.size ≤ _); rw [arrV_size]; exact hin) ?_ rfl rfl hdg kk
  show (arrV _ _ _).slots[_]? = _
  rw [arrV_read _ _ hlt, J_clamp h0 (by omega)]
  show some (Value.ref (f ((i.toNat : Nat) : Int))) = some (Value.ref (f i))
  rw [Int.toNat_of_nonneg h0]
theorem g_alen (hexec : p.tables.exec = Jvm.exec) (hb : c.code = cc) (hK : KK g base sa s) (hW : Wd g base h H) {n : Int} {f : Int → Int} (ha : h a = some (ai g n f)) (h0 : 0 ≤ n) (hdg : decode cc pc = .ok (.arraylength, 1))
    (kk : W p l e R s m args below meth c H locs cells slots Q (F0 m (pc + 1) ls (.int (J n) :: rest))) : W p l e R s m args below meth c H locs cells slots Q (F0 m pc ls (.ref a :: rest)) :=
  va_alen hexec hb hK.1 (hW.one ha) 0 0 rfl rfl (v := J n) (by rw [J_nI h0]; rfl) hdg kk
theorem g_lalen (hexec : p.tables.exec = Jvm.exec) (hb : c.code = cc) (hK : KK g base sa s) (hW : Wd g base h H) {n : Int} {f : Int → Int} (ha : h a = some (al g n f)) (h0 : 0 ≤ n) (hdg : decode cc pc = .ok (.arraylength, 1))
    (kk : W p l e R s m args below meth c H locs cells slots Q (F0 m (pc + 1) ls (.int (J n) :: rest))) : W p l e R s m args below meth c H locs cells slots Q (F0 m pc ls (.ref a :: rest)) :=
  va_alen hexec hb hK.1 (hW.one ha) 0 1 rfl rfl (v := J n) (by rw [J_nI h0]; rfl) hdg kk
theorem g_zalen (hexec : p.tables.exec = Jvm.exec) (hb : c.code = cc) (hK : KK g base sa s) (hW : Wd g base h H) {n : Int} {f : Int → Int} (ha : h a = some (az g n f)) (h0 : 0 ≤ n) (hdg : decode cc pc = .ok (.arraylength, 1))
    (kk : W p l e R s m args below meth c H locs cells slots Q (F0 m (pc + 1) ls (.int (J n) :: rest))) : W p l e R s m args below meth c H locs cells slots Q (F0 m pc ls (.ref a :: rest)) :=
  va_alen hexec hb hK.1 (hW.one ha) 0 2 rfl rfl (v := J n) (by rw [J_nI h0]; rfl) hdg kk
theorem g_iast (hexec : p.tables.exec = Jvm.exec) (hb : c.code = cc) (hK : KK g base sa s) (hW : Wd g base h H) (hS : va_S (Ab base) s.heap H locs) {n : Int} {f : Int → Int} (ha : h a = some (ai g n f)) {i x : Int} (h0 : 0 ≤ i) (hi : i < n) (hn : n < 2147483648) (hdg : decode cc pc = .ok (.iastore, 1))
    (kk : ∀ (H1 : Heap) (locs1 : List Loc), Wd g base (uh h a (ai g n (uf f i x))) H1 → va_S (Ab base) s.heap H1 locs1 → W p l e R s m args below meth c H1 locs1 cells slots Q (F0 m (pc + 1) ls rest)) : W p l e R s m args below meth c H locs cells slots Q (F0 m pc ls (.int (J x) :: .int (J i) :: .ref a :: rest)) := by
  have hba := (hW a _ ha).1
  have hcell : H[a]? = some (vp_cell (g.2 0) (n.toNat, .inl (fun k => J (f k)))) := hW.one ha 0 _ rfl
  refine W.iast hexec hb hcell ((hK.1.2 0 _ rfl).1 n.toNat (fun j => .int (J (f j)))) (fun q => by cases q) (by show ¬ (J i < 0 ∨ (arrV _ _ _).slots.size ≤ _); rw [arrV_size]; exact J_in h0 hi hn) rfl rfl hdg fun H1 e1 z oq => ?_
  refine kk H1 _ (hW.set hba ?_ (fun x _ hx => oq x hx)) (hS.put z oq hba)
  show H1[a]? = some (vp_cell (g.2 0) (n.toNat, .inl (fun k => J (uf f i x k))))
  rw [e1, vp_cell_i, vp_cell_i, arrV_store, ai_upd f x h0 (by omega)]
theorem g_last (hexec : p.tables.exec = Jvm.exec) (hb : c.code = cc) (hK : KK g base sa s) (hW : Wd g base h H) (hS : va_S (Ab base) s.heap H locs) {n : Int} {f : Int → Int} (ha : h a = some (al g n f)) {i x : Int} (h0 : 0 ≤ i) (hi : i < n) (hn : n < 2147483648) (hdg : decode cc pc = .ok (.lastore, 1))
    (kk : ∀ (H1 : Heap) (locs1 : List Loc), Wd g base (uh h a (al g n (uf f i x))) H1 → va_S (Ab base) s.heap H1 locs1 → W p l e R s m args below meth c H1 locs1 cells slots Q (F0 m (pc + 1) ls rest)) : W p l e R s m args below meth c H locs cells slots Q (F0 m pc ls (.long (JL x) :: .int (J i) :: .ref a :: rest)) := by
  have hba := (hW a _ ha).1
  have hcell : H[a]? = some (vp_cell (g.2 1) (n.toNat, .inr (.inl (fun k => JL (f k))))) := hW.one ha 0 _ rfl
  refine W.last hexec hb hcell ((hK.1.2 1 _ rfl).1 n.toNat (fun j => .long (JL (f j)))) (fun q => by cases q) (by show ¬ (J i < 0 ∨ (arrV _ _ _).slots.size ≤ _); rw [arrV_size]; exact J_in h0 hi hn) rfl rfl hdg fun H1 e1 z oq => ?_
  refine kk H1 _ (hW.set hba ?_ (fun x _ hx => oq x hx)) (hS.put z oq hba)
  show H1[a]? = some (vp_cell (g.2 1) (n.toNat, .inr (.inl (fun k => JL (uf f i x k)))))
  rw [e1, vp_cell_l, vp_cell_l, arrV_store, al_upd f x h0 (by omega)]
theorem nar_b {x : Int} (hx : x = 0 ∨ x = 1) : vp_nar .boolean (J x) = J x := by
  rcases hx with rfl | rfl <;> decide
theorem g_zast (hexec : p.tables.exec = Jvm.exec) (hb : c.code = cc) (hK : KK g base sa s) (hW : Wd g base h H) (hS : va_S (Ab base) s.heap H locs) {n : Int} {f : Int → Int} (ha : h a = some (az g n f)) {i x : Int} (h0 : 0 ≤ i) (hi : i < n) (hn : n < 2147483648) (hx : x = 0 ∨ x = 1) (hdg : decode cc pc = .ok (.bastore, 1))
    (kk : ∀ (H1 : Heap) (locs1 : List Loc), Wd g base (uh h a (az g n (uf f i x))) H1 → va_S (Ab base) s.heap H1 locs1 → W p l e R s m args below meth c H1 locs1 cells slots Q (F0 m (pc + 1) ls rest)) : W p l e R s m args below meth c H locs cells slots Q (F0 m pc ls (.int (J x) :: .int (J i) :: .ref a :: rest)) := by
  have hba := (hW a _ ha).1
  have hcell : H[a]? = some (vp_cell (g.2 2) (n.toNat, .inl (fun k => J (f k)))) := hW.one ha 0 _ rfl
  refine W.zast hexec hb hcell ((hK.1.2 2 _ rfl).1 n.toNat (fun j => .int (J (f j)))) (fun q => by cases q) (by show ¬ (J i < 0 ∨ (arrV _ _ _).slots.size ≤ _); rw [arrV_size]; exact J_in h0 hi hn) rfl rfl hdg fun H1 e1 z oq => ?_
  refine kk H1 _ (hW.set hba ?_ (fun x _ hx => oq x hx)) (hS.put z oq hba)
  show H1[a]? = some (vp_cell (g.2 2) (n.toNat, .inl (fun k => J (uf f i x k))))
  have hnb : narrow .boolean (.int (J x)) = .int (J x) := by rcases hx with rfl | rfl <;> rfl
  rw [e1, vp_cell_i, vp_cell_i, arrV_store]
  first
    | rw [ai_upd f x h0 (by omega)]
    | (rw [hnb, ai_upd f x h0 (by omega)])
    | (have hnv := nar_b hx; simp only [vp_nar] at hnv; simp only [hnb]; rw [ai_upd f x h0 (by omega)])
end GR
end
section
section JR
variable {p : Program} {l : Launch} {e : Env} {R : Room} {s : State} {m : MethodId} {args : Array Value} {below : List Frame} {meth : Method} {c : Code} {H : Heap} {locs : List Loc} {cells slots : Nat} {Q : State → Prop}
variable {cc : ByteArray} {pc : Nat} {ls : Array Slot} {rest : List Value} {g : GX} {base : Nat} {sa : Nat → Nat} {h : Hp} {a : Nat}
theorem i32_0 : i32 0 := ⟨by decide, by decide⟩
theorem j_iadd (hexec : p.tables.exec = Jvm.exec) (hb : c.code = cc) {x y : Int} (hdg : decode cc pc = .ok (.iadd, 1)) (k : W p l e R s m args below meth c H locs cells slots Q (F0 m (pc + 1) ls (.int (J (x + y)) :: rest))) : W p l e R s m args below meth c H locs cells slots Q (F0 m pc ls (.int (J y) :: .int (J x) :: rest)) := by
  refine lv_iadd hexec hb hdg ?_
  rw [J_add]
  exact k
theorem j_isub (hexec : p.tables.exec = Jvm.exec) (hb : c.code = cc) {x y : Int} (hdg : decode cc pc = .ok (.isub, 1)) (k : W p l e R s m args below meth c H locs cells slots Q (F0 m (pc + 1) ls (.int (J (x - y)) :: rest))) : W p l e R s m args below meth c H locs cells slots Q (F0 m pc ls (.int (J y) :: .int (J x) :: rest)) := by
  refine lv_isub hexec hb hdg ?_
  rw [J_sub]
  exact k
theorem j_imul (hexec : p.tables.exec = Jvm.exec) (hb : c.code = cc) {x y : Int} (hdg : decode cc pc = .ok (.imul, 1)) (k : W p l e R s m args below meth c H locs cells slots Q (F0 m (pc + 1) ls (.int (J (x * y)) :: rest))) : W p l e R s m args below meth c H locs cells slots Q (F0 m pc ls (.int (J y) :: .int (J x) :: rest)) := by
  refine lv_imul hexec hb hdg ?_
  rw [J_mul]
  exact k
theorem j_ladd (hexec : p.tables.exec = Jvm.exec) (hb : c.code = cc) {x y : Int} (hdg : decode cc pc = .ok (.ladd, 1)) (k : W p l e R s m args below meth c H locs cells slots Q (F0 m (pc + 1) ls (.long (JL (x + y)) :: rest))) : W p l e R s m args below meth c H locs cells slots Q (F0 m pc ls (.long (JL y) :: .long (JL x) :: rest)) := by
  refine lv_ladd hexec hb hdg ?_
  rw [JL_add]
  exact k
theorem j_idiv (hexec : p.tables.exec = Jvm.exec) (hb : c.code = cc) {x y : Int} (h0 : 0 ≤ x) (h1 : x < 2147483648) (h2 : 0 < y) (h3 : y < 2147483648) (hdg : decode cc pc = .ok (.idiv, 1)) (k : W p l e R s m args below meth c H locs cells slots Q (F0 m (pc + 1) ls (.int (J (x / y)) :: rest))) : W p l e R s m args below meth c H locs cells slots Q (F0 m pc ls (.int (J y) :: .int (J x) :: rest)) := by
  refine lv_idiv hexec hb hdg ?_ ?_
  · rw [J_zero, J_eq ⟨by omega, by omega⟩ ⟨by omega, by omega⟩]
    omega
  · rw [J_div h0 h1 h2 h3]
    exact k
theorem j_irem (hexec : p.tables.exec = Jvm.exec) (hb : c.code = cc) {x y : Int} (h0 : 0 ≤ x) (h1 : x < 2147483648) (h2 : 0 < y) (h3 : y < 2147483648) (hdg : decode cc pc = .ok (.irem, 1)) (k : W p l e R s m args below meth c H locs cells slots Q (F0 m (pc + 1) ls (.int (J (x % y)) :: rest))) : W p l e R s m args below meth c H locs cells slots Q (F0 m pc ls (.int (J y) :: .int (J x) :: rest)) := by
  refine lv_irem hexec hb hdg ?_ ?_
  · rw [J_zero, J_eq ⟨by omega, by omega⟩ ⟨by omega, by omega⟩]
    omega
  · rw [J_rem h0 h1 h2 h3]
    exact k
theorem j_icmp_lt (hexec : p.tables.exec = Jvm.exec) (hb : c.code = cc) {x y : Int} (hx : i32 x) (hy : i32 y) {off : Int} {tgt : Nat} (hdg : decode cc pc = .ok (.if_icmp .lt off, 3)) (ht : (pc : Int) + off = (tgt : Int))
    (kt : x < y → W p l e R s m args below meth c H locs cells slots Q (F0 m tgt ls rest)) (kf : ¬ x < y → W p l e R s m args below meth c H locs cells slots Q (F0 m (pc + 3) ls rest)) : W p l e R s m args below meth c H locs cells slots Q (F0 m pc ls (.int (J y) :: .int (J x) :: rest)) := by
  refine lv_icmp_lt hexec hb hdg ht (fun q => kt ?_) (fun q => kf ?_)
  all_goals first | exact (J_lt hx hy).mp q | exact fun z => q ((J_lt hx hy).mpr z)
theorem j_if_lt (hexec : p.tables.exec = Jvm.exec) (hb : c.code = cc) {x : Int} (hx : i32 x) {off : Int} {tgt : Nat} (hdg : decode cc pc = .ok (.ifCond .lt off, 3)) (ht : (pc : Int) + off = (tgt : Int))
    (kt : x < 0 → W p l e R s m args below meth c H locs cells slots Q (F0 m tgt ls rest)) (kf : ¬ x < 0 → W p l e R s m args below meth c H locs cells slots Q (F0 m (pc + 3) ls rest)) : W p l e R s m args below meth c H locs cells slots Q (F0 m pc ls (.int (J x) :: rest)) := by
  refine lv_if_lt hexec hb hdg ht (fun q => kt ?_) (fun q => kf ?_)
  all_goals rw [J_zero] at q
  all_goals first | exact (J_lt hx i32_0).mp q | exact fun z => q ((J_lt hx i32_0).mpr z)
theorem j_icmp_ge (hexec : p.tables.exec = Jvm.exec) (hb : c.code = cc) {x y : Int} (hx : i32 x) (hy : i32 y) {off : Int} {tgt : Nat} (hdg : decode cc pc = .ok (.if_icmp .ge off, 3)) (ht : (pc : Int) + off = (tgt : Int))
    (kt : y ≤ x → W p l e R s m args below meth c H locs cells slots Q (F0 m tgt ls rest)) (kf : ¬ y ≤ x → W p l e R s m args below meth c H locs cells slots Q (F0 m (pc + 3) ls rest)) : W p l e R s m args below meth c H locs cells slots Q (F0 m pc ls (.int (J y) :: .int (J x) :: rest)) := by
  refine lv_icmp_ge hexec hb hdg ht (fun q => kt ?_) (fun q => kf ?_)
  all_goals first | exact (J_le hy hx).mp q | exact fun z => q ((J_le hy hx).mpr z)
theorem j_if_ge (hexec : p.tables.exec = Jvm.exec) (hb : c.code = cc) {x : Int} (hx : i32 x) {off : Int} {tgt : Nat} (hdg : decode cc pc = .ok (.ifCond .ge off, 3)) (ht : (pc : Int) + off = (tgt : Int))
    (kt : 0 ≤ x → W p l e R s m args below meth c H locs cells slots Q (F0 m tgt ls rest)) (kf : ¬ 0 ≤ x → W p l e R s m args below meth c H locs cells slots Q (F0 m (pc + 3) ls rest)) : W p l e R s m args below meth c H locs cells slots Q (F0 m pc ls (.int (J x) :: rest)) := by
  refine lv_if_ge hexec hb hdg ht (fun q => kt ?_) (fun q => kf ?_)
  all_goals rw [J_zero] at q
  all_goals first | exact (J_le i32_0 hx).mp q | exact fun z => q ((J_le i32_0 hx).mpr z)
theorem j_icmp_gt (hexec : p.tables.exec = Jvm.exec) (hb : c.code = cc) {x y : Int} (hx : i32 x) (hy : i32 y) {off : Int} {tgt : Nat} (hdg : decode cc pc = .ok (.if_icmp .gt off, 3)) (ht : (pc : Int) + off = (tgt : Int))
    (kt : y < x → W p l e R s m args below meth c H locs cells slots Q (F0 m tgt ls rest)) (kf : ¬ y < x → W p l e R s m args below meth c H locs cells slots Q (F0 m (pc + 3) ls rest)) : W p l e R s m args below meth c H locs cells slots Q (F0 m pc ls (.int (J y) :: .int (J x) :: rest)) := by
  refine lv_icmp_gt hexec hb hdg ht (fun q => kt ?_) (fun q => kf ?_)
  all_goals first | exact (J_lt hy hx).mp q | exact fun z => q ((J_lt hy hx).mpr z)
theorem j_if_gt (hexec : p.tables.exec = Jvm.exec) (hb : c.code = cc) {x : Int} (hx : i32 x) {off : Int} {tgt : Nat} (hdg : decode cc pc = .ok (.ifCond .gt off, 3)) (ht : (pc : Int) + off = (tgt : Int))
    (kt : 0 < x → W p l e R s m args below meth c H locs cells slots Q (F0 m tgt ls rest)) (kf : ¬ 0 < x → W p l e R s m args below meth c H locs cells slots Q (F0 m (pc + 3) ls rest)) : W p l e R s m args below meth c H locs cells slots Q (F0 m pc ls (.int (J x) :: rest)) := by
  refine lv_if_gt hexec hb hdg ht (fun q => kt ?_) (fun q => kf ?_)
  all_goals rw [J_zero] at q
  all_goals first | exact (J_lt i32_0 hx).mp q | exact fun z => q ((J_lt i32_0 hx).mpr z)
theorem j_icmp_le (hexec : p.tables.exec = Jvm.exec) (hb : c.code = cc) {x y : Int} (hx : i32 x) (hy : i32 y) {off : Int} {tgt : Nat} (hdg : decode cc pc = .ok (.if_icmp .le off, 3)) (ht : (pc : Int) + off = (tgt : Int))
    (kt : x ≤ y → W p l e R s m args below meth c H locs cells slots Q (F0 m tgt ls rest)) (kf : ¬ x ≤ y → W p l e R s m args below meth c H locs cells slots Q (F0 m (pc + 3) ls rest)) : W p l e R s m args below meth c H locs cells slots Q (F0 m pc ls (.int (J y) :: .int (J x) :: rest)) := by
  refine lv_icmp_le hexec hb hdg ht (fun q => kt ?_) (fun q => kf ?_)
  all_goals first | exact (J_le hx hy).mp q | exact fun z => q ((J_le hx hy).mpr z)
theorem j_if_le (hexec : p.tables.exec = Jvm.exec) (hb : c.code = cc) {x : Int} (hx : i32 x) {off : Int} {tgt : Nat} (hdg : decode cc pc = .ok (.ifCond .le off, 3)) (ht : (pc : Int) + off = (tgt : Int))
    (kt : x ≤ 0 → W p l e R s m args below meth c H locs cells slots Q (F0 m tgt ls rest)) (kf : ¬ x ≤ 0 → W p l e R s m args below meth c H locs cells slots Q (F0 m (pc + 3) ls rest)) : W p l e R s m args below meth c H locs cells slots Q (F0 m pc ls (.int (J x) :: rest)) := by
  refine lv_if_le hexec hb hdg ht (fun q => kt ?_) (fun q => kf ?_)
  all_goals rw [J_zero] at q
  all_goals first | exact (J_le hx i32_0).mp q | exact fun z => q ((J_le hx i32_0).mpr z)
theorem j_icmp_eq (hexec : p.tables.exec = Jvm.exec) (hb : c.code = cc) {x y : Int} (hx : i32 x) (hy : i32 y) {off : Int} {tgt : Nat} (hdg : decode cc pc = .ok (.if_icmp .eq off, 3)) (ht : (pc : Int) + off = (tgt : Int))
    (kt : x = y → W p l e R s m args below meth c H locs cells slots Q (F0 m tgt ls rest)) (kf : ¬ x = y → W p l e R s m args below meth c H locs cells slots Q (F0 m (pc + 3) ls rest)) : W p l e R s m args below meth c H locs cells slots Q (F0 m pc ls (.int (J y) :: .int (J x) :: rest)) := by
  refine lv_icmp_eq hexec hb hdg ht (fun q => kt ?_) (fun q => kf ?_)
  all_goals first | exact (J_eq hx hy).mp q | exact fun z => q ((J_eq hx hy).mpr z)
theorem j_if_eq (hexec : p.tables.exec = Jvm.exec) (hb : c.code = cc) {x : Int} (hx : i32 x) {off : Int} {tgt : Nat} (hdg : decode cc pc = .ok (.ifCond .eq off, 3)) (ht : (pc : Int) + off = (tgt : Int))
    (kt : x = 0 → W p l e R s m args below meth c H locs cells slots Q (F0 m tgt ls rest)) (kf : ¬ x = 0 → W p l e R s m args below meth c H locs cells slots Q (F0 m (pc + 3) ls rest)) : W p l e R s m args below meth c H locs cells slots Q (F0 m pc ls (.int (J x) :: rest)) := by
  refine lv_if_eq hexec hb hdg ht (fun q => kt ?_) (fun q => kf ?_)
  all_goals rw [J_zero] at q
  all_goals first | exact (J_eq hx i32_0).mp q | exact fun z => q ((J_eq hx i32_0).mpr z)
theorem j_icmp_ne (hexec : p.tables.exec = Jvm.exec) (hb : c.code = cc) {x y : Int} (hx : i32 x) (hy : i32 y) {off : Int} {tgt : Nat} (hdg : decode cc pc = .ok (.if_icmp .ne off, 3)) (ht : (pc : Int) + off = (tgt : Int))
    (kt : ¬ x = y → W p l e R s m args below meth c H locs cells slots Q (F0 m tgt ls rest)) (kf : x = y → W p l e R s m args below meth c H locs cells slots Q (F0 m (pc + 3) ls rest)) : W p l e R s m args below meth c H locs cells slots Q (F0 m pc ls (.int (J y) :: .int (J x) :: rest)) := by
  refine lv_icmp_ne hexec hb hdg ht (fun q => kt ?_) (fun q => kf ?_)
  all_goals first | exact (J_eq hx hy).mp q | exact fun z => q ((J_eq hx hy).mpr z)
theorem j_if_ne (hexec : p.tables.exec = Jvm.exec) (hb : c.code = cc) {x : Int} (hx : i32 x) {off : Int} {tgt : Nat} (hdg : decode cc pc = .ok (.ifCond .ne off, 3)) (ht : (pc : Int) + off = (tgt : Int))
    (kt : ¬ x = 0 → W p l e R s m args below meth c H locs cells slots Q (F0 m tgt ls rest)) (kf : x = 0 → W p l e R s m args below meth c H locs cells slots Q (F0 m (pc + 3) ls rest)) : W p l e R s m args below meth c H locs cells slots Q (F0 m pc ls (.int (J x) :: rest)) := by
  refine lv_if_ne hexec hb hdg ht (fun q => kt ?_) (fun q => kf ?_)
  all_goals rw [J_zero] at q
  all_goals first | exact (J_eq hx i32_0).mp q | exact fun z => q ((J_eq hx i32_0).mpr z)
theorem g_newi (hexec : p.tables.exec = Jvm.exec) (hb : c.code = cc) (harr : (Cond.arrayClass .int).before args s = true) (hK : KK g base sa s) (hW : Wd g base h H) (hS : va_S (Ab base) s.heap H locs) {n : Int} (h0 : 0 ≤ n) (hn : n ≤ 1000000) (hcells : cells + 1 ≤ R.cells) (hslots : slots + n.toNat ≤ R.slots) (hdg : decode cc pc = .ok (.newarray .int, 2))
    (kk : ∀ (q : Nat) (H1 : Heap), h q = none → Wd g base (uh h q (ai g n (fun _ => 0))) H1 → va_S (Ab base) s.heap H1 locs → W p l e R s m args below meth c H1 locs (cells + 1) (slots + n.toNat) Q (F0 m (pc + 2) ls (.ref q :: rest))) : W p l e R s m args below meth c H locs cells slots Q (F0 m pc ls (.int (J n) :: rest)) := by
  refine va_newaK (atype := .int) (N := n.toNat) hexec hb harr rfl hdg rfl ?_ (J_clamp h0 (by omega)) ?_ hcells hslots rfl fun H1 cA e1 z1 o1 hAr hNm => ?_
  · rw [J_zero, J_lt ⟨by omega, by omega⟩ i32_0]
    omega
  · show n.toNat * componentBytes .int ≤ 536870912
    have : componentBytes .int ≤ 8 := by decide
    have h9 : n.toNat ≤ 1000000 := by omega
    calc n.toNat * componentBytes .int ≤ 1000000 * 8 := Nat.mul_le_mul h9 this
      _ ≤ 536870912 := by decide
  · have hca : cA = g.2 0 := by
      have h9 : s.vm.findClass ("[" ++ (FieldType.toString .int)) = some (g.2 0) := (hK.1.2 0 _ rfl).2
      exact Option.some.inj (hNm.symm.trans h9)
    have hbs : base ≤ H.size := Nat.le_trans hK.2.1 hS.1
    refine kk H.size H1 hW.fresh (hW.set hbs ?_ (fun x hx _ => o1 x hx)) ⟨Nat.le_trans hS.1 (by omega), fun x h1 h2 => (o1 x (Nat.lt_of_lt_of_le h1 hS.1)).trans (hS.2.1 x h1 h2), hS.2.2⟩
    show H1[H.size]? = some (vp_cell (g.2 0) _)
    rw [e1, hca, vp_cell_i]
    rfl
theorem g_newl (hexec : p.tables.exec = Jvm.exec) (hb : c.code = cc) (harr : (Cond.arrayClass .long).before args s = true) (hK : KK g base sa s) (hW : Wd g base h H) (hS : va_S (Ab base) s.heap H locs) {n : Int} (h0 : 0 ≤ n) (hn : n ≤ 1000000) (hcells : cells + 1 ≤ R.cells) (hslots : slots + n.toNat ≤ R.slots) (hdg : decode cc pc = .ok (.newarray .long, 2))
    (kk : ∀ (q : Nat) (H1 : Heap), h q = none → Wd g base (uh h q (al g n (fun _ => 0))) H1 → va_S (Ab base) s.heap H1 locs → W p l e R s m args below meth c H1 locs (cells + 1) (slots + n.toNat) Q (F0 m (pc + 2) ls (.ref q :: rest))) : W p l e R s m args below meth c H locs cells slots Q (F0 m pc ls (.int (J n) :: rest)) := by
  refine va_newaK (atype := .long) (N := n.toNat) hexec hb harr rfl hdg rfl ?_ (J_clamp h0 (by omega)) ?_ hcells hslots rfl fun H1 cA e1 z1 o1 hAr hNm => ?_
  · rw [J_zero, J_lt ⟨by omega, by omega⟩ i32_0]
    omega
  · show n.toNat * componentBytes .long ≤ 536870912
    have : componentBytes .long ≤ 8 := by decide
    have h9 : n.toNat ≤ 1000000 := by omega
    calc n.toNat * componentBytes .long ≤ 1000000 * 8 := Nat.mul_le_mul h9 this
      _ ≤ 536870912 := by decide
  · have hca : cA = g.2 1 := by
      have h9 : s.vm.findClass ("[" ++ (FieldType.toString .long)) = some (g.2 1) := (hK.1.2 1 _ rfl).2
      exact Option.some.inj (hNm.symm.trans h9)
    have hbs : base ≤ H.size := Nat.le_trans hK.2.1 hS.1
    refine kk H.size H1 hW.fresh (hW.set hbs ?_ (fun x hx _ => o1 x hx)) ⟨Nat.le_trans hS.1 (by omega), fun x h1 h2 => (o1 x (Nat.lt_of_lt_of_le h1 hS.1)).trans (hS.2.1 x h1 h2), hS.2.2⟩
    show H1[H.size]? = some (vp_cell (g.2 1) _)
    rw [e1, hca, vp_cell_l]
    rfl
theorem g_newz (hexec : p.tables.exec = Jvm.exec) (hb : c.code = cc) (harr : (Cond.arrayClass .boolean).before args s = true) (hK : KK g base sa s) (hW : Wd g base h H) (hS : va_S (Ab base) s.heap H locs) {n : Int} (h0 : 0 ≤ n) (hn : n ≤ 1000000) (hcells : cells + 1 ≤ R.cells) (hslots : slots + n.toNat ≤ R.slots) (hdg : decode cc pc = .ok (.newarray .boolean, 2))
    (kk : ∀ (q : Nat) (H1 : Heap), h q = none → Wd g base (uh h q (az g n (fun _ => 0))) H1 → va_S (Ab base) s.heap H1 locs → W p l e R s m args below meth c H1 locs (cells + 1) (slots + n.toNat) Q (F0 m (pc + 2) ls (.ref q :: rest))) : W p l e R s m args below meth c H locs cells slots Q (F0 m pc ls (.int (J n) :: rest)) := by
  refine va_newaK (atype := .boolean) (N := n.toNat) hexec hb harr rfl hdg rfl ?_ (J_clamp h0 (by omega)) ?_ hcells hslots rfl fun H1 cA e1 z1 o1 hAr hNm => ?_
  · rw [J_zero, J_lt ⟨by omega, by omega⟩ i32_0]
    omega
  · show n.toNat * componentBytes .boolean ≤ 536870912
    have : componentBytes .boolean ≤ 8 := by decide
    have h9 : n.toNat ≤ 1000000 := by omega
    calc n.toNat * componentBytes .boolean ≤ 1000000 * 8 := Nat.mul_le_mul h9 this
      _ ≤ 536870912 := by decide
  · have hca : cA = g.2 2 := by
      have h9 : s.vm.findClass ("[" ++ (FieldType.toString .boolean)) = some (g.2 2) := (hK.1.2 2 _ rfl).2
      exact Option.some.inj (hNm.symm.trans h9)
    have hbs : base ≤ H.size := Nat.le_trans hK.2.1 hS.1
    refine kk H.size H1 hW.fresh (hW.set hbs ?_ (fun x hx _ => o1 x hx)) ⟨Nat.le_trans hS.1 (by omega), fun x h1 h2 => (o1 x (Nat.lt_of_lt_of_le h1 hS.1)).trans (hS.2.1 x h1 h2), hS.2.2⟩
    show H1[H.size]? = some (vp_cell (g.2 2) _)
    rw [e1, hca, vp_cell_i]
    rfl
theorem g_new (hexec : p.tables.exec = Jvm.exec) (hb : c.code = cc) {own C : String} {T : u_T} {N ci index : Nat} {Ts : List Cond} (hts : ∀ w ∈ Ts, w.before args s = true) (hin : ∀ w ∈ u_ws C T N, w ∈ Ts) (ty : Nat → FieldType) (hty : ∀ k, k < N → parseFieldDescriptor (T k).2.2.1 = some (ty k)) (hown : s.vm.findClass own = some m.cls) (hcl : (Cond.classLink own index C).before args s = true) (hinst : (Cond.instantiable C N).before args s = true) (hini : (Cond.initialized C).before args s = true)
    (hK : KK g base sa s) (hW : Wd g base h H) (hS : va_S (Ab base) s.heap H locs) (hc : vwCl[ci]? = some (C, T, N)) {fs : List Value} (hfs : ∀ j, j < N → defaultValue (ty j) = vp_V fs j) (hcells : cells + 1 ≤ R.cells) (hslots : slots + N ≤ R.slots) (hdg : decode cc pc = .ok (.new index, 3))
    (kk : ∀ (q : Nat) (H1 : Heap), h q = none → Wd g base (uh h q (.inr (ci, fs))) H1 → va_S (Ab base) s.heap H1 locs → W p l e R s m args below meth c H1 locs (cells + 1) (slots + N) Q (F0 m (pc + 3) ls (.ref q :: rest))) : W p l e R s m args below meth c H locs cells slots Q (F0 m pc ls rest) := by
  have hKn := hK.1.1 ci _ hc
  refine W.newcK hexec hb hown hcl hinst hini rfl hdg hcells hslots hKn.2.1 rfl fun H1 kC hkC e1 z1 o1 => ?_
  have hbs : base ≤ H.size := Nat.le_trans hK.2.1 hS.1
  exact kk H.size H1 hW.fresh (hW.set hbs ⟨_, hc, (u_born ty hts hin hKn hkC e1 hty).to hfs⟩ (fun x hx _ => o1 x hx)) ⟨Nat.le_trans hS.1 (by omega), fun x h1 h2 => (o1 x (Nat.lt_of_lt_of_le h1 hS.1)).trans (hS.2.1 x h1 h2), hS.2.2⟩
theorem PcM_blind (av : List Value) : FrameBlind (PcM g base sa av h) := by
  intro a U gf mk q
  obtain ⟨q0, q1, q2⟩ := q
  exact ⟨q0, KK.moved (s := U) (U := U.calling gf mk a) (Vm.Alike.refl U.vm) (NK.same rfl) (Nat.le_refl _) (fun _ _ _ => rfl) q1, q2⟩
theorem g_pre (av : List Value) (hK : KK g base sa s) (hW : Wd g base h H) (hS : va_S (Ab base) s.heap H locs) : ∀ U : State, U.heap = H → s.WarmedH U.vm → PcM g base sa av h av.toArray U := by
  intro U hU hw
  exact ⟨rfl, KK.moved hw.alike (NK.warm hw) (by rw [hU]; exact hS.1) (fun q h1 h2 => by rw [hU]; exact hS.2.1 q h1 h2) hK, by rw [hU]; exact hW⟩
theorem g_run {mc ms : Nat} {st0 : List Value} {av : Array Value} {post : Option Value → Hp → Prop} (hr : va_Run p l e R s m args below meth c H locs cells slots mc ms (F0 m pc ls st0) rest (QcM g base post av) (Ab base)) (hS : va_S (Ab base) s.heap H locs)
    (kk : ∀ (r : Option Value) (h1 : Hp) (H1 : Heap) (locs1 : List Loc), post r h1 → Wd g base h1 H1 → va_S (Ab base) s.heap H1 locs1 → W p l e R s m args below meth c H1 locs1 (cells + mc) (slots + ms) Q (F0 m (pc + 3) ls (r.toList ++ rest))) : W p l e R s m args below meth c H locs cells slots Q (F0 m pc ls st0) := by
  intro T hT X
  obtain ⟨v, s0, t, T', L, h0, X', hL, e1, e2, ⟨⟨r, h1, hv, hp, hw⟩, hz, hk⟩, st⟩ := hr T hT X
  cases hv
  rw [h0] at hz hk
  obtain ⟨t2, a1, b1⟩ := kk v h1 T'.heap (locs ++ L) hp (by rw [e1]; exact hw)
    ⟨Nat.le_trans hS.1 (by rw [e1]; exact hz), fun q h1 h2 => by rw [e1, hk q (Nat.lt_of_lt_of_le h1 hS.1) h2]; exact hS.2.1 q h1 h2, fun q hq => by
      rcases List.mem_append.mp hq with h | h
      · exact hS.2.2 q h
      · exact hL q h⟩ T' rfl X'
  exact ⟨t2, st t2 a1, b1⟩
theorem g_callV {y : MethodName} {bytes : ByteArray} {maxL nL n index : Nat} {ret : Option FieldType} {ws Ts : List Cond} {rm : Room} {own C : String} {b : Addr} {As : List Value} {post : Option Value → Hp → Prop} (S : CallFix p m c cc nL s args Ts own) (hM : MC l g base sa y ws rm (.ref b :: As) h post) (cw : CallW R s args own C index y bytes maxL ret ws rm rm.cells rm.slots n) (hK : KK g base sa s) (hW : Wd g base h H) (hS : va_S (Ab base) s.heap H locs) {ci N : Nat} {T : u_T} {fs : List Value} (he : h b = some (.inr (ci, fs))) (hc : vwCl[ci]? = some (C, T, N)) (hn : As.length = n) (hsize : ls.size = nL) (hroom : (rest.map fun v => v.category).sum ≤ 8) (hdg : decode cc pc = .ok (.invokevirtual index, 3)) (hf : cells + rm.cells ≤ R.cells ∧ slots + rm.slots ≤ R.slots)
    (kk : ∀ (r : Option Value) (h1 : Hp) (H1 : Heap) (locs1 : List Loc), post r h1 → Wd g base h1 H1 → va_S (Ab base) s.heap H1 locs1 → W p l e R s m args below meth c H1 locs1 (cells + rm.cells) (slots + rm.slots) Q (F0 m (pc + 3) ls (r.toList ++ rest))) : W p l e R s m args below meth c H locs cells slots Q (F0 m pc ls (As.reverse ++ .ref b :: rest)) :=
  g_run (va_runV S hM cw ⟨PcM_blind _, va_recv (q0 := 0) hK.1 (hW.one he) hc rfl, g_pre _ hK hW hS⟩ rfl hn hsize rfl (by show 2 * 0 + _ ≤ 8; omega) hdg hf) hS kk
theorem g_callS {y : MethodName} {bytes : ByteArray} {maxL nL n index : Nat} {ret : Option FieldType} {ws Ts : List Cond} {rm : Room} {own : String} {As : List Value} {post : Option Value → Hp → Prop} (S : CallFix p m c cc nL s args Ts own) (hM : MC l g base sa y ws rm As h post) (cw : CallB R s args own index y bytes maxL ret ws rm rm.cells rm.slots n ∧ (Cond.static y).before args s = true) (hK : KK g base sa s) (hW : Wd g base h H) (hS : va_S (Ab base) s.heap H locs) (hn : As.length = n) (hsize : ls.size = nL) (hroom : (rest.map fun v => v.category).sum ≤ 8) (hdg : decode cc pc = .ok (.invokestatic index, 3)) (hf : cells + rm.cells ≤ R.cells ∧ slots + rm.slots ≤ R.slots)
    (kk : ∀ (r : Option Value) (h1 : Hp) (H1 : Heap) (locs1 : List Loc), post r h1 → Wd g base h1 H1 → va_S (Ab base) s.heap H1 locs1 → W p l e R s m args below meth c H1 locs1 (cells + rm.cells) (slots + rm.slots) Q (F0 m (pc + 3) ls (r.toList ++ rest))) : W p l e R s m args below meth c H locs cells slots Q (F0 m pc ls (As.reverse ++ rest)) :=
  g_run (va_runS S hM cw ⟨PcM_blind _, g_pre _ hK hW hS⟩ rfl hn hsize rfl (by show 2 * 0 + _ ≤ 8; omega) hdg hf) hS kk
theorem g_callI {y : MethodName} {bytes : ByteArray} {maxL nL n index : Nat} {ws Ts : List Cond} {rm : Room} {own : String} {b : Addr} {As : List Value} {post : Option Value → Hp → Prop} (S : CallFix p m c cc nL s args Ts own) (hM : MC l g base sa y ws rm (.ref b :: As) h post) (cw : CallB R s args own index y bytes maxL none ws rm rm.cells rm.slots n ∧ y.name = "<init>" ∧ (Cond.instanceMethod y).before args s = true) (hK : KK g base sa s) (hW : Wd g base h H) (hS : va_S (Ab base) s.heap H locs) (hn : As.length = n) (hsize : ls.size = nL) (hroom : (rest.map fun v => v.category).sum ≤ 8) (hdg : decode cc pc = .ok (.invokespecial index, 3)) (hf : cells + rm.cells ≤ R.cells ∧ slots + rm.slots ≤ R.slots)
    (kk : ∀ (r : Option Value) (h1 : Hp) (H1 : Heap) (locs1 : List Loc), post r h1 → Wd g base h1 H1 → va_S (Ab base) s.heap H1 locs1 → W p l e R s m args below meth c H1 locs1 (cells + rm.cells) (slots + rm.slots) Q (F0 m (pc + 3) ls (r.toList ++ rest))) : W p l e R s m args below meth c H locs cells slots Q (F0 m pc ls (As.reverse ++ .ref b :: rest)) :=
  g_run (va_runI S hM cw ⟨PcM_blind _, g_pre _ hK hW hS⟩ rfl hn hsize rfl (by show 2 * 0 + _ ≤ 8; omega) hdg hf) hS kk
theorem g_callVN {y : MethodName} {bytes : ByteArray} {maxL nL n index : Nat} {ret : Option FieldType} {ws Ts : List Cond} {rm : Room} {own C host : String} {b : Addr} {As : List Value} {post : Option Value → Hp → Prop} (S : CallFix p m c cc nL s args Ts own) (hM : MC l g base sa y ws rm (.ref b :: As) h post) (cw : va_CN R s args own index y host bytes maxL ret ws rm rm.cells rm.slots n ∧ (Cond.instanceMethod y).before args s = true ∧ (Cond.selects C y y).before args s = true) (hK : KK g base sa s) (hW : Wd g base h H) (hS : va_S (Ab base) s.heap H locs) {ci N : Nat} {T : u_T} {fs : List Value} (he : h b = some (.inr (ci, fs))) (hc : vwCl[ci]? = some (C, T, N)) (hn : As.length = n) (hsize : ls.size = nL) (hroom : (rest.map fun v => v.category).sum ≤ 8) (hdg : decode cc pc = .ok (.invokevirtual index, 3)) (hf : cells + rm.cells ≤ R.cells ∧ slots + rm.slots ≤ R.slots)
    (kk : ∀ (r : Option Value) (h1 : Hp) (H1 : Heap) (locs1 : List Loc), post r h1 → Wd g base h1 H1 → va_S (Ab base) s.heap H1 locs1 → W p l e R s m args below meth c H1 locs1 (cells + rm.cells) (slots + rm.slots) Q (F0 m (pc + 3) ls (r.toList ++ rest))) : W p l e R s m args below meth c H locs cells slots Q (F0 m pc ls (As.reverse ++ .ref b :: rest)) :=
  g_run (va_runVN S hM cw ⟨PcM_blind _, va_recv (q0 := 0) hK.1 (hW.one he) hc rfl, g_pre _ hK hW hS⟩ rfl hn hsize rfl (by show 2 * 0 + _ ≤ 8; omega) hdg hf) hS kk
theorem g_callSN {y : MethodName} {bytes : ByteArray} {maxL nL n index : Nat} {ret : Option FieldType} {ws Ts : List Cond} {rm : Room} {own host : String} {As : List Value} {post : Option Value → Hp → Prop} (S : CallFix p m c cc nL s args Ts own) (hM : MC l g base sa y ws rm As h post) (cw : va_CN R s args own index y host bytes maxL ret ws rm rm.cells rm.slots n ∧ (Cond.static y).before args s = true ∧ True) (hK : KK g base sa s) (hW : Wd g base h H) (hS : va_S (Ab base) s.heap H locs) (hn : As.length = n) (hsize : ls.size = nL) (hroom : (rest.map fun v => v.category).sum ≤ 8) (hdg : decode cc pc = .ok (.invokestatic index, 3)) (hf : cells + rm.cells ≤ R.cells ∧ slots + rm.slots ≤ R.slots)
    (kk : ∀ (r : Option Value) (h1 : Hp) (H1 : Heap) (locs1 : List Loc), post r h1 → Wd g base h1 H1 → va_S (Ab base) s.heap H1 locs1 → W p l e R s m args below meth c H1 locs1 (cells + rm.cells) (slots + rm.slots) Q (F0 m (pc + 3) ls (r.toList ++ rest))) : W p l e R s m args below meth c H locs cells slots Q (F0 m pc ls (As.reverse ++ rest)) :=
  g_run (va_runSN S hM cw ⟨PcM_blind _, g_pre _ hK hW hS⟩ rfl hn hsize rfl (by show 2 * 0 + _ ≤ 8; omega) hdg hf) hS kk
theorem g_callIN {y : MethodName} {bytes : ByteArray} {maxL nL n index : Nat} {ws Ts : List Cond} {rm : Room} {own host : String} {b : Addr} {As : List Value} {post : Option Value → Hp → Prop} (S : CallFix p m c cc nL s args Ts own) (hM : MC l g base sa y ws rm (.ref b :: As) h post) (cw : va_CN R s args own index y host bytes maxL none ws rm rm.cells rm.slots n ∧ y.name = "<init>" ∧ (Cond.instanceMethod y).before args s = true) (hK : KK g base sa s) (hW : Wd g base h H) (hS : va_S (Ab base) s.heap H locs) (hn : As.length = n) (hsize : ls.size = nL) (hroom : (rest.map fun v => v.category).sum ≤ 8) (hdg : decode cc pc = .ok (.invokespecial index, 3)) (hf : cells + rm.cells ≤ R.cells ∧ slots + rm.slots ≤ R.slots)
    (kk : ∀ (r : Option Value) (h1 : Hp) (H1 : Heap) (locs1 : List Loc), post r h1 → Wd g base h1 H1 → va_S (Ab base) s.heap H1 locs1 → W p l e R s m args below meth c H1 locs1 (cells + rm.cells) (slots + rm.slots) Q (F0 m (pc + 3) ls (r.toList ++ rest))) : W p l e R s m args below meth c H locs cells slots Q (F0 m pc ls (As.reverse ++ .ref b :: rest)) :=
  g_run (va_runIN S hM cw ⟨PcM_blind _, g_pre _ hK hW hS⟩ rfl hn hsize rfl (by show 2 * 0 + _ ≤ 8; omega) hdg hf) hS kk
theorem g_iret {post : Option Value → Hp → Prop} {v : Int32} (hexec : p.tables.exec = Jvm.exec) (hb : c.code = cc) (hr : meth.sig.returnType = some .int) (hW : Wd g base h H) (hS : va_S (Ab base) s.heap H locs) (hdg : decode cc pc = .ok (.ireturn, 1)) (hlocks : meth.locks = false) (hp : post (some (.int v)) h) : W p l e R s m args below meth c H locs cells slots (MQ below (QcM g base post) args s cells slots (Ab base)) (F0 m pc ls [.int v]) :=
  W.iret hexec hb hr (fun t ht hWm => ⟨⟨_, h, rfl, hp, by rw [ht]; exact hW⟩, hS.F ht⟩) hS.2.2 hdg hlocks
theorem g_lret {post : Option Value → Hp → Prop} {v : Int64} (hexec : p.tables.exec = Jvm.exec) (hb : c.code = cc) (hr : meth.sig.returnType = some .long) (hW : Wd g base h H) (hS : va_S (Ab base) s.heap H locs) (hdg : decode cc pc = .ok (.lreturn, 1)) (hlocks : meth.locks = false) (hp : post (some (.long v)) h) : W p l e R s m args below meth c H locs cells slots (MQ below (QcM g base post) args s cells slots (Ab base)) (F0 m pc ls [.long v]) :=
  W.lret hexec hb hr (fun t ht hWm => ⟨⟨_, h, rfl, hp, by rw [ht]; exact hW⟩, hS.F ht⟩) hS.2.2 hdg hlocks
theorem g_zret {post : Option Value → Hp → Prop} {v : Int} (hexec : p.tables.exec = Jvm.exec) (hb : c.code = cc) (hr : meth.sig.returnType = some .boolean) (hv : v = 0 ∨ v = 1) (hW : Wd g base h H) (hS : va_S (Ab base) s.heap H locs) (hdg : decode cc pc = .ok (.ireturn, 1)) (hlocks : meth.locks = false) (hp : post (some (.int (J v))) h) : W p l e R s m args below meth c H locs cells slots (MQ below (QcM g base post) args s cells slots (Ab base)) (F0 m pc ls [.int (J v)]) :=
  W.zret hexec hb hr (by rcases hv with rfl | rfl <;> rfl) (fun t ht hWm => ⟨⟨_, h, rfl, hp, by rw [ht]; exact hW⟩, hS.F ht⟩) hS.2.2 hdg hlocks
theorem g_vret {post : Option Value → Hp → Prop} (hexec : p.tables.exec = Jvm.exec) (hb : c.code = cc) (hr : meth.sig.returnType = none) (hW : Wd g base h H) (hS : va_S (Ab base) s.heap H locs) (hdg : decode cc pc = .ok (.return_, 1)) (hlocks : meth.locks = false) (hp : post none h) : W p l e R s m args below meth c H locs cells slots (MQ below (QcM g base post) args s cells slots (Ab base)) (F0 m pc ls []) :=
  W.vret hexec hb hr (fun t ht hWm => ⟨⟨_, h, rfl, hp, by rw [ht]; exact hW⟩, hS.F ht⟩) hS.2.2 hdg hlocks
theorem g_stat (hexec : p.tables.exec = Jvm.exec) (hb : c.code = cc) {C n own : String} {x N : Nat} {f : Int → Int} {index : Nat} (hZ : Sa base C n x N f s) (hS : va_S (Ab base) s.heap H locs) (hown : s.vm.findClass own = some m.cls) (hlink : (Cond.fieldLink own index C n "[I").before args s = true) (hdg : decode cc pc = .ok (.getstatic index, 3))
    (kk : W p l e R s m args below meth c H locs cells slots Q (F0 m (pc + 3) ls (.ref x :: rest))) : W p l e R s m args below meth c H locs cells slots Q (F0 m pc ls rest) := va_gets hexec hb hZ.1 hS hown hlink (fun _ h9 => h9) hdg kk
theorem g_statN (hexec : p.tables.exec = Jvm.exec) (hb : c.code = cc) {C n own host : String} {x N : Nat} {f : Int → Int} {index : Nat} (hZ : Sa base C n x N f s) (hS : va_S (Ab base) s.heap H locs) (hown : s.vm.findClass own = some m.cls) (hlink : (Cond.fieldLinkNest own index C n "[I" host).before args s = true) (hdg : decode cc pc = .ok (.getstatic index, 3))
    (kk : W p l e R s m args below meth c H locs cells slots Q (F0 m (pc + 3) ls (.ref x :: rest))) : W p l e R s m args below meth c H locs cells slots Q (F0 m pc ls rest) := va_getsN hexec hb hZ.1 hS hown hlink (fun _ h9 => h9) hdg kk
theorem g_sald (hexec : p.tables.exec = Jvm.exec) (hb : c.code = cc) {C n : String} {x N : Nat} {f : Int → Int} (hZ : Sa base C n x N f s) (hS : va_S (Ab base) s.heap H locs) {i : Int} (h0 : 0 ≤ i) (hi : i < N) (hN : N < 2147483648) (hdg : decode cc pc = .ok (.iaload, 1))
    (kk : W p l e R s m args below meth c H locs cells slots Q (F0 m (pc + 1) ls (.int (J (f i)) :: rest))) : W p l e R s m args below meth c H locs cells slots Q (F0 m pc ls (.int (J i) :: .ref x :: rest)) :=
  va_ti hexec hb hZ.2 hS (by have := J_in h0 hi (by omega); rwa [Int.toNat_natCast] at this) (by rw [ai_read f h0 (by omega)]) hdg kk
end JR
end
section
/-! ===== objects with their arrays: what a field is (kd: 0 a number, 1 int[], 2 long[], 3 boolean[], 4 and more: another reference) ===== -/
def Fr (P : Nat → Prop) (h h' : Hp) : Prop := ∀ (q : Nat) (e : va_E), h q = some e → ¬ P q → h' q = some e
theorem Fr.rf {P : Nat → Prop} {h : Hp} : Fr P h h := fun _ _ e _ => e
theorem Fr.tr {P P1 : Nat → Prop} {h h1 h2 : Hp} (a : Fr P h h1) (b : Fr P1 h1 h2) (c : ∀ q, P1 q → h q ≠ none → P q) : Fr P h h2 := fun q e hq hn => b q e (a q e hq hn) (fun z => hn (c q z (by rw [hq]; exact fun w => by cases w)))
theorem Fr.set {P : Nat → Prop} {h h1 : Hp} {o : Nat} {e : va_E} (a : Fr P h h1) (ho : P o) : Fr P h (uh h1 o e) := fun q x hq hn => by
  have hne : q ≠ o := fun z => hn (by rw [z]; exact ho)
  rw [uh_ne _ _ hne]
  exact a q x hq hn
theorem Fr.new {P : Nat → Prop} {h h1 : Hp} {o : Nat} {e : va_E} (a : Fr P h h1) (ho : h1 o = none) : Fr P h (uh h1 o e) := fun q x hq hn => by
  have hq1 := a q x hq hn
  have hne : q ≠ o := fun z => by rw [z, ho] at hq1; cases hq1
  rw [uh_ne _ _ hne]
  exact hq1
theorem Fr.mono {P P1 : Nat → Prop} {h h1 : Hp} (a : Fr P1 h h1) (c : ∀ q, P1 q → P q) : Fr P h h1 := fun q e hq hn => a q e hq (fun z => hn (c q z))
def fvl (kd : Nat → Nat) (R : Nat → Nat) (I : Nat → Int) (k : Nat) : Value := if kd k = 0 then .int (J (I k)) else .ref (R k)
def fls (N : Nat) (kd : Nat → Nat) (R : Nat → Nat) (I : Nat → Int) : List Value := (List.range N).map (fvl kd R I)
def acell (g : GX) (t : Nat) (n : Int) (f : Int → Int) : va_E := if t = 1 then ai g n f else if t = 2 then al g n f else az g n f
def isA (kd : Nat → Nat) (k : Nat) : Prop := 1 ≤ kd k ∧ kd k ≤ 3
def OB (g : GX) (ci N : Nat) (kd : Nat → Nat) (h : Hp) (o : Nat) (R : Nat → Nat) (I : Nat → Int) (L : Nat → Int) (A : Nat → Int → Int) : Prop :=
  h o = some (.inr (ci, fls N kd R I)) ∧ (∀ k, k < N → isA kd k → h (R k) = some (acell g (kd k) (L k) (A k))) ∧ (∀ i j, i < N → j < N → isA kd i → isA kd j → R i = R j → i = j)
def FP (N : Nat) (kd : Nat → Nat) (o : Nat) (R : Nat → Nat) (q : Nat) : Prop := q = o ∨ ∃ k, k < N ∧ isA kd k ∧ q = R k
theorem FP.o {N : Nat} {kd : Nat → Nat} {o : Nat} {R : Nat → Nat} : FP N kd o R o := Or.inl rfl
theorem FP.a {N : Nat} {kd : Nat → Nat} {o : Nat} {R : Nat → Nat} (k : Nat) (hk : k < N) (ha : isA kd k) : FP N kd o R (R k) := Or.inr ⟨k, hk, ha, rfl⟩
theorem acell_inl (g : GX) (t : Nat) (n : Int) (f : Int → Int) : ∃ x, acell g t n f = .inl x := by
  unfold acell ai al az
  split
  · exact ⟨_, rfl⟩
  · split <;> exact ⟨_, rfl⟩
theorem fls_len (N : Nat) (kd : Nat → Nat) (R : Nat → Nat) (I : Nat → Int) : (fls N kd R I).length = N := by simp [fls]
theorem fls_at {N : Nat} {kd : Nat → Nat} {R : Nat → Nat} {I : Nat → Int} {k : Nat} (hk : k < N) : (fls N kd R I)[k]? = some (fvl kd R I k) := by simp [fls, hk]
theorem fls_set {N : Nat} {kd : Nat → Nat} {R R' : Nat → Nat} {I I' : Nat → Int} {k : Nat} {v : Value} (hv : fvl kd R' I' k = v) (ho : ∀ j, j < N → j ≠ k → fvl kd R' I' j = fvl kd R I j) : (fls N kd R I).set k v = fls N kd R' I' := by
  apply List.ext_getElem?
  intro j
  by_cases hj : j < N
  · by_cases hjk : j = k
    · subst hjk
      rw [List.getElem?_set_self (by rw [fls_len]; exact hj), fls_at hj, hv]
    · rw [List.getElem?_set_ne (Ne.symm hjk), fls_at hj, fls_at hj, ho j hj hjk]
  · rw [List.getElem?_eq_none (by simp [fls]; omega), List.getElem?_eq_none (by simp [fls]; omega)]
theorem OB.ne {g : GX} {ci N : Nat} {kd : Nat → Nat} {h : Hp} {o : Nat} {R : Nat → Nat} {I : Nat → Int} {L : Nat → Int} {A : Nat → Int → Int} (hM : OB g ci N kd h o R I L A) {k : Nat} (hk : k < N) (ha : isA kd k) : R k ≠ o := by
  intro z
  have h1 := hM.2.1 k hk ha
  rw [z, hM.1] at h1
  obtain ⟨x, hx⟩ := acell_inl g (kd k) (L k) (A k)
  rw [hx] at h1
  cases h1
theorem OB.fr {g : GX} {ci N : Nat} {kd : Nat → Nat} {h h1 : Hp} {o : Nat} {R : Nat → Nat} {I : Nat → Int} {L : Nat → Int} {A : Nat → Int → Int} {P : Nat → Prop} (hM : OB g ci N kd h o R I L A) (hF : Fr P h h1) (hd : ∀ q, FP N kd o R q → ¬ P q) : OB g ci N kd h1 o R I L A :=
  ⟨hF _ _ hM.1 (hd _ FP.o), fun k hk ha => hF _ _ (hM.2.1 k hk ha) (hd _ (FP.a k hk ha)), hM.2.2⟩
theorem OB.put {g : GX} {ci N : Nat} {kd : Nat → Nat} {h : Hp} {o : Nat} {R : Nat → Nat} {I I' : Nat → Int} {L : Nat → Int} {A : Nat → Int → Int} (hM : OB g ci N kd h o R I L A) {k : Nat} {z : Int} (h0 : kd k = 0) (hI : va_up I k z = I') : OB g ci N kd (uh h o (.inr (ci, (fls N kd R I).set k (.int (J z))))) o R I' L A := by
  subst hI
  refine ⟨?_, fun j hj ha => ?_, hM.2.2⟩
  · rw [uh_same, fls_set (R' := R) (I' := va_up I k z)]
    · simp [fvl, h0, va_up]
    · intro j hj hjk
      simp [fvl, va_up, hjk]
  · rw [uh_ne _ _ (hM.ne hj ha)]
    exact hM.2.1 j hj ha
theorem OB.ast {g : GX} {ci N : Nat} {kd : Nat → Nat} {h : Hp} {o : Nat} {R : Nat → Nat} {I : Nat → Int} {L : Nat → Int} {A A' : Nat → Int → Int} (hM : OB g ci N kd h o R I L A) {k : Nat} {f : Int → Int} (hk : k < N) (ha : isA kd k) (hA : va_up A k f = A') : OB g ci N kd (uh h (R k) (acell g (kd k) (L k) f)) o R I L A' := by
  subst hA
  refine ⟨?_, fun j hj hja => ?_, hM.2.2⟩
  · rw [uh_ne _ _ (Ne.symm (hM.ne hk ha))]
    exact hM.1
  · by_cases e : j = k
    · subst e
      rw [uh_same]
      simp [va_up]
    · rw [uh_ne _ _ (fun z => e (hM.2.2 j k hj hk hja ha z)), hM.2.1 j hj hja]
      simp [va_up, e]
/-- a field is given a new array -/
theorem OB.putr {g : GX} {ci N : Nat} {kd : Nat → Nat} {h : Hp} {o q : Nat} {R R' : Nat → Nat} {I : Nat → Int} {L L' : Nat → Int} {A A' : Nat → Int → Int} {n : Int} {f : Int → Int} (hM : OB g ci N kd h o R I L A) {k : Nat} (ha : isA kd k) (hq : h q = some (acell g (kd k) n f)) (hn : ∀ j, j < N → isA kd j → j ≠ k → R j ≠ q) (hR : va_up R k q = R') (hL : va_up L k n = L') (hA : va_up A k f = A') : OB g ci N kd (uh h o (.inr (ci, (fls N kd R I).set k (.ref q)))) o R' I L' A' := by
  subst hR; subst hL; subst hA
  have h0 : ¬ kd k = 0 := fun z => by unfold isA at ha; omega
  have hqo : q ≠ o := fun z => by
    rw [z, hM.1] at hq
    obtain ⟨x, hx⟩ := acell_inl g (kd k) n f
    rw [hx] at hq
    cases hq
  refine ⟨?_, fun j hj hja => ?_, fun i j hi hj hia hja e => ?_⟩
  · rw [uh_same, fls_set (R' := va_up R k q) (I' := I)]
    · simp [fvl, h0, va_up]
    · intro j hj hjk
      simp [fvl, va_up, hjk]
  · by_cases e : j = k
    · subst e
      simp only [va_up, if_pos]
      rw [uh_ne _ _ hqo]
      exact hq
    · simp only [va_up, if_neg e]
      rw [uh_ne _ _ (hM.ne hj hja)]
      exact hM.2.1 j hj hja
  · by_cases e1 : i = k <;> by_cases e2 : j = k
    · rw [e1, e2]
    · simp only [va_up, if_pos e1, if_neg e2] at e
      exact absurd e.symm (hn j hj hja e2)
    · simp only [va_up, if_neg e1, if_pos e2] at e
      exact absurd e (hn i hi hia e1)
    · simp only [va_up, if_neg e1, if_neg e2] at e
      exact hM.2.2 i j hi hj hia hja e
theorem OB.ai {g : GX} {ci N : Nat} {kd : Nat → Nat} {h : Hp} {o : Nat} {R : Nat → Nat} {I : Nat → Int} {L : Nat → Int} {A : Nat → Int → Int} (hM : OB g ci N kd h o R I L A) (k : Nat) (hk : k < N) (h1 : kd k = 1) : h (R k) = some (ai g (L k) (A k)) := by
  rw [hM.2.1 k hk ⟨by omega, by omega⟩, acell, if_pos h1]
theorem OB.al {g : GX} {ci N : Nat} {kd : Nat → Nat} {h : Hp} {o : Nat} {R : Nat → Nat} {I : Nat → Int} {L : Nat → Int} {A : Nat → Int → Int} (hM : OB g ci N kd h o R I L A) (k : Nat) (hk : k < N) (h1 : kd k = 2) : h (R k) = some (al g (L k) (A k)) := by
  rw [hM.2.1 k hk ⟨by omega, by omega⟩, acell, if_neg (by omega), if_pos h1]
theorem OB.az {g : GX} {ci N : Nat} {kd : Nat → Nat} {h : Hp} {o : Nat} {R : Nat → Nat} {I : Nat → Int} {L : Nat → Int} {A : Nat → Int → Int} (hM : OB g ci N kd h o R I L A) (k : Nat) (hk : k < N) (h1 : kd k = 3) : h (R k) = some (az g (L k) (A k)) := by
  rw [hM.2.1 k hk ⟨by omega, by omega⟩, acell, if_neg (by omega), if_neg (by omega)]
theorem Fr.one {h : Hp} {o : Nat} {e : va_E} : Fr (fun q => q = o) h (uh h o e) := fun q x hq hn => by rw [uh_ne _ _ hn]; exact hq
section OR
variable {p : Program} {l : Launch} {e : Env} {Rm : Room} {s : State} {m : MethodId} {args : Array Value} {below : List Frame} {meth : Method} {c : Code} {H : Heap} {locs : List Loc} {cells slots : Nat} {Q : State → Prop}
variable {cc : ByteArray} {pc : Nat} {ls : Array Slot} {rest : List Value} {g : GX} {base : Nat} {sa : Nat → Nat} {h h0 : Hp} {o : Nat} {ci N : Nat} {kd : Nat → Nat} {R : Nat → Nat} {I I' : Nat → Int} {L : Nat → Int} {A A' : Nat → Int → Int} {P : Nat → Prop}
theorem o_put (hexec : p.tables.exec = Jvm.exec) (hb : c.code = cc) {own ref C : String} {T : u_T} {index : Nat} {Ts : List Cond} (hts : ∀ w ∈ Ts, w.before args s = true) (hin : ∀ w ∈ u_ws C T N, w ∈ Ts) (ty0 : Nat → FieldType) (hty : ∀ k, k < N → parseFieldDescriptor (T k).2.2.1 = some (ty0 k)) (hnm : ∀ a, a < N → ∀ b, b < N → a ≠ b → (T a).2.1 ≠ (T b).2.1) (hown : s.vm.findClass own = some m.cls) (hK : KK g base sa s) (hW : Wd g base h H) (hS : va_S (Ab base) s.heap H locs) (hM : OB g ci N kd h o R I L A) (hF : Fr P h0 h) (hPo : P o) (hc : vwCl[ci]? = some (C, T, N)) (k : Nat) (hk : k < N) (hkd : kd k = 0) (hlink : (Cond.fieldLink own index ref (T k).2.1 (T k).2.2.1).before args s = true) (hsame : (T k).1 = ref) (hfin : (T k).2.2.2 = false) {ty : FieldType} {z : Int} (hd : parseFieldDescriptor (T k).2.2.1 = some ty) (hn : narrow ty (.int (J z)) = .int (J z)) (hfit : fits ty (.int (J z)) = true) (hI : va_up I k z = I')
    (hdg : decode cc pc = .ok (.putfield index, 3)) (kk : ∀ (h1 : Hp) (H1 : Heap) (locs1 : List Loc), OB g ci N kd h1 o R I' L A → Fr P h0 h1 → Fr (fun q => q = o) h h1 → Wd g base h1 H1 → va_S (Ab base) s.heap H1 locs1 → W p l e Rm s m args below meth c H1 locs1 cells slots Q (F0 m (pc + 3) ls rest)) : W p l e Rm s m args below meth c H locs cells slots Q (F0 m pc ls (.int (J z) :: .ref o :: rest)) :=
  g_put hexec hb hts hin ty0 hty hnm hown hK hW hS hM.1 hc k hk hlink hsame hfin hd hn hfit (by rw [fls_len]; exact hk) hdg (fun H1 locs1 hW1 hS1 => kk _ H1 locs1 (hM.put hkd hI) (hF.set hPo) Fr.one hW1 hS1)
theorem o_iast (hexec : p.tables.exec = Jvm.exec) (hb : c.code = cc) (hK : KK g base sa s) (hW : Wd g base h H) (hS : va_S (Ab base) s.heap H locs) (hM : OB g ci N kd h o R I L A) (hF : Fr P h0 h) (k : Nat) (hk : k < N) (hkd : kd k = 1) (hP : P (R k)) {i x : Int} (h0i : 0 ≤ i) (hi : i < L k) (hn : L k < 2147483648) (hA : va_up A k (uf (A k) i x) = A') (hdg : decode cc pc = .ok (.iastore, 1))
    (kk : ∀ (h1 : Hp) (H1 : Heap) (locs1 : List Loc), OB g ci N kd h1 o R I L A' → Fr P h0 h1 → Fr (fun q => q = R k) h h1 → Wd g base h1 H1 → va_S (Ab base) s.heap H1 locs1 → W p l e Rm s m args below meth c H1 locs1 cells slots Q (F0 m (pc + 1) ls rest)) : W p l e Rm s m args below meth c H locs cells slots Q (F0 m pc ls (.int (J x) :: .int (J i) :: .ref (R k) :: rest)) :=
  g_iast hexec hb hK hW hS (hM.ai k hk hkd) h0i hi hn hdg (fun H1 locs1 hW1 hS1 => kk _ H1 locs1 (by have h9 := hM.ast (f := uf (A k) i x) hk ⟨by omega, by omega⟩ hA; rwa [acell, if_pos hkd] at h9) (hF.set hP) Fr.one hW1 hS1)
theorem o_last (hexec : p.tables.exec = Jvm.exec) (hb : c.code = cc) (hK : KK g base sa s) (hW : Wd g base h H) (hS : va_S (Ab base) s.heap H locs) (hM : OB g ci N kd h o R I L A) (hF : Fr P h0 h) (k : Nat) (hk : k < N) (hkd : kd k = 2) (hP : P (R k)) {i x : Int} (h0i : 0 ≤ i) (hi : i < L k) (hn : L k < 2147483648) (hA : va_up A k (uf (A k) i x) = A') (hdg : decode cc pc = .ok (.lastore, 1))
    (kk : ∀ (h1 : Hp) (H1 : Heap) (locs1 : List Loc), OB g ci N kd h1 o R I L A' → Fr P h0 h1 → Fr (fun q => q = R k) h h1 → Wd g base h1 H1 → va_S (Ab base) s.heap H1 locs1 → W p l e Rm s m args below meth c H1 locs1 cells slots Q (F0 m (pc + 1) ls rest)) : W p l e Rm s m args below meth c H locs cells slots Q (F0 m pc ls (.long (JL x) :: .int (J i) :: .ref (R k) :: rest)) :=
  g_last hexec hb hK hW hS (hM.al k hk hkd) h0i hi hn hdg (fun H1 locs1 hW1 hS1 => kk _ H1 locs1 (by have h9 := hM.ast (f := uf (A k) i x) hk ⟨by omega, by omega⟩ hA; rwa [acell, if_neg (by omega), if_pos hkd] at h9) (hF.set hP) Fr.one hW1 hS1)
theorem o_zast (hexec : p.tables.exec = Jvm.exec) (hb : c.code = cc) (hK : KK g base sa s) (hW : Wd g base h H) (hS : va_S (Ab base) s.heap H locs) (hM : OB g ci N kd h o R I L A) (hF : Fr P h0 h) (k : Nat) (hk : k < N) (hkd : kd k = 3) (hP : P (R k)) {i x : Int} (h0i : 0 ≤ i) (hi : i < L k) (hn : L k < 2147483648) (hx : x = 0 ∨ x = 1) (hA : va_up A k (uf (A k) i x) = A') (hdg : decode cc pc = .ok (.bastore, 1))
    (kk : ∀ (h1 : Hp) (H1 : Heap) (locs1 : List Loc), OB g ci N kd h1 o R I L A' → Fr P h0 h1 → Fr (fun q => q = R k) h h1 → Wd g base h1 H1 → va_S (Ab base) s.heap H1 locs1 → W p l e Rm s m args below meth c H1 locs1 cells slots Q (F0 m (pc + 1) ls rest)) : W p l e Rm s m args below meth c H locs cells slots Q (F0 m pc ls (.int (J x) :: .int (J i) :: .ref (R k) :: rest)) :=
  g_zast hexec hb hK hW hS (hM.az k hk hkd) h0i hi hn hx hdg (fun H1 locs1 hW1 hS1 => kk _ H1 locs1 (by have h9 := hM.ast (f := uf (A k) i x) hk ⟨by omega, by omega⟩ hA; rwa [acell, if_neg (by omega), if_neg (by omega)] at h9) (hF.set hP) Fr.one hW1 hS1)
theorem j_ldc (hexec : p.tables.exec = Jvm.exec) (hb : c.code = cc) {own : String} {index : Nat} {v : Int32} {z : Int} (hv : v = J z) (hown : s.vm.findClass own = some m.cls) (hconst : (Jvm.Cond.constant own index v).before args s = true) (hdg : decode cc pc = .ok (.ldc index, 2)) (k : W p l e Rm s m args below meth c H locs cells slots Q (F0 m (pc + 2) ls (.int (J z) :: rest))) : W p l e Rm s m args below meth c H locs cells slots Q (F0 m pc ls rest) := by
  subst hv
  exact lv_ldc hexec hb hown hconst hdg k
theorem j_ldc2 (hexec : p.tables.exec = Jvm.exec) (hb : c.code = cc) {own : String} {index : Nat} {v : Int64} {z : Int} (hv : v = JL z) (hown : s.vm.findClass own = some m.cls) (hconst : (Jvm.Cond.constantLong own index v).before args s = true) (hdg : decode cc pc = .ok (.ldc2_w index, 3)) (k : W p l e Rm s m args below meth c H locs cells slots Q (F0 m (pc + 3) ls (.long (JL z) :: rest))) : W p l e Rm s m args below meth c H locs cells slots Q (F0 m pc ls rest) := by
  subst hv
  exact lv_ldc2 hexec hb hown hconst hdg k
end OR
/-! ===== the classes ===== -/
def kd0 (k : Nat) : Nat := match k with | 0 => 0 | 1 => 1 | 2 => 1 | 3 => 1 | 4 => 0 | 5 => 1 | 6 => 3 | 7 => 0 | 8 => 1 | 9 => 1 | 10 => 1 | _ => 4
def kd1 (k : Nat) : Nat := match k with | 0 => 0 | 1 => 0 | 2 => 0 | 3 => 0 | _ => 1
def kd2 (k : Nat) : Nat := match k with | 0 => 5 | 1 => 5 | 2 => 5 | 3 => 5 | 4 => 5 | 5 => 2 | _ => 0
def kd3 (_ : Nat) : Nat := 1
def kd4 (k : Nat) : Nat := match k with | 3 => 0 | _ => 1
def kd5 (_ : Nat) : Nat := 5
def kd6 (k : Nat) : Nat := match k with | 1 => 1 | 2 => 1 | 6 => 1 | 8 => 1 | 9 => 1 | 14 => 1 | 15 => 1 | 16 => 1 | 18 => 2 | 19 => 3 | 20 => 1 | 23 => 1 | 24 => 1 | 25 => 1 | 26 => 1 | _ => 0
def mL (k : Nat) : Int := match k with | 1 => 4 | 2 => 4 | 6 => 3 | 8 => 4 | 9 => 4 | 14 => 351384 | 15 => 351384 | 16 => 14641 | 18 => 14641 | 19 => 14641 | 20 => 14641 | 23 => 17576 | 24 => 17576 | 25 => 134017 | 26 => 90077 | _ => 0
def L4 (_ : Nat) : Int := 4
theorem J_inc {x n v : Int} (h : x + n = v) : J x + Int32.ofInt n = J v := by
  subst h
  exact J_add x n
theorem nb_n {z : Int} (h : z = 0 ∨ z = 1) : narrow .boolean (.int (J z)) = .int (J z) := by rcases h with rfl | rfl <;> rfl
theorem nb_f {z : Int} (h : z = 0 ∨ z = 1) : fits .boolean (.int (J z)) = true := by rcases h with rfl | rfl <;> rfl
section MR
variable {p : Program} {l : Launch} {e : Env} {R : Room} {s : State} {m : MethodId} {args : Array Value} {below : List Frame} {meth : Method} {c : Code} {H : Heap} {locs : List Loc} {cells slots : Nat} {Q : State → Prop}
variable {cc : ByteArray} {pc : Nat} {ls : Array Slot} {rest : List Value}
theorem min_if (x y : Int) : (if y < x then y else x) = min x y := by
  rw [Int.min_def]
  split <;> split <;> omega
theorem max_if (x y : Int) : (if x < y then y else x) = max x y := by
  rw [Int.max_def]
  split <;> split <;> omega
theorem j_mmin (hexec : p.tables.exec = Jvm.exec) (hb : c.code = cc) (hml : c.maxLocals = ls.size) {own : String} {index : Nat} (hown : s.vm.findClass own = some m.cls) (hlink : (Cond.methodLink own index Lib.Math.min.name).before args s = true) (hstat : (Cond.static Lib.Math.min.name).before args s = true) (hini : (Cond.initialized "java/lang/Math").before args s = true) (hcode : (Cond.code Lib.Math.min.name Lib.Math.min.code 2 (some .int)).before args s = true)
    (hframes : 1 ≤ R.frames) (hlocals : (rest.map fun v => v.category).sum + 13 ≤ R.locals) (hc : cells ≤ R.cells) (hs : slots ≤ R.slots) {x y : Int} (hx : i32 x) (hy : i32 y) (hdg : decode cc pc = .ok (.invokestatic index, 3))
    (kk : W p l e R s m args below meth c H locs cells slots Q (F0 m (pc + 3) ls (.int (J (min x y)) :: rest))) : W p l e R s m args below meth c H locs cells slots Q (F0 m pc ls (.int (J y) :: .int (J x) :: rest)) := by
  refine va_mmin hexec hb hml hown hlink hstat hini hcode hframes hlocals hc hs hdg ?_
  have h9 : (if J y < J x then J y else J x) = J (min x y) := by
    rw [← min_if]
    by_cases q : y < x
    · rw [if_pos ((J_lt hy hx).mpr q), if_pos q]
    · rw [if_neg (fun z => q ((J_lt hy hx).mp z)), if_neg q]
  rw [h9]
  exact kk
theorem j_mmax (hexec : p.tables.exec = Jvm.exec) (hb : c.code = cc) (hml : c.maxLocals = ls.size) {own : String} {index : Nat} (hown : s.vm.findClass own = some m.cls) (hlink : (Cond.methodLink own index Lib.Math.max.name).before args s = true) (hstat : (Cond.static Lib.Math.max.name).before args s = true) (hini : (Cond.initialized "java/lang/Math").before args s = true) (hcode : (Cond.code Lib.Math.max.name Lib.Math.max.code 2 (some .int)).before args s = true)
    (hframes : 1 ≤ R.frames) (hlocals : (rest.map fun v => v.category).sum + 13 ≤ R.locals) (hc : cells ≤ R.cells) (hs : slots ≤ R.slots) {x y : Int} (hx : i32 x) (hy : i32 y) (hdg : decode cc pc = .ok (.invokestatic index, 3))
    (kk : W p l e R s m args below meth c H locs cells slots Q (F0 m (pc + 3) ls (.int (J (max x y)) :: rest))) : W p l e R s m args below meth c H locs cells slots Q (F0 m pc ls (.int (J y) :: .int (J x) :: rest)) := by
  refine va_mmax hexec hb hml hown hlink hstat hini hcode hframes hlocals hc hs hdg ?_
  have h9 : (if J x < J y then J y else J x) = J (max x y) := by
    rw [← max_if]
    by_cases q : x < y
    · rw [if_pos ((J_lt hx hy).mpr q), if_pos q]
    · rw [if_neg (fun z => q ((J_lt hx hy).mp z)), if_neg q]
  rw [h9]
  exact kk
theorem j_mminl (hexec : p.tables.exec = Jvm.exec) (hb : c.code = cc) (hml : c.maxLocals = ls.size) {own : String} {index : Nat} (hown : s.vm.findClass own = some m.cls) (hlink : (Cond.methodLink own index Lib.MathLoose.min_long.x).before args s = true) (hstat : (Cond.static Lib.MathLoose.min_long.x).before args s = true) (hini : (Cond.initialized "java/lang/Math").before args s = true) (hcode : (Cond.code Lib.MathLoose.min_long.x Lib.MathLoose.min_long.code 4 (some .long)).before args s = true)
    (hframes : 1 ≤ R.frames) (hlocals : (rest.map fun v => v.category).sum + 15 ≤ R.locals) (hc : cells ≤ R.cells) (hs : slots ≤ R.slots) {x y : Int} (hx : i64 x) (hy : i64 y) (hdg : decode cc pc = .ok (.invokestatic index, 3))
    (kk : W p l e R s m args below meth c H locs cells slots Q (F0 m (pc + 3) ls (.long (JL (min x y)) :: rest))) : W p l e R s m args below meth c H locs cells slots Q (F0 m pc ls (.long (JL y) :: .long (JL x) :: rest)) := by
  refine va_mmin_long hexec hb hml hown hlink hstat hini hcode hframes hlocals hc hs hdg ?_
  have h9 : (if JL y < JL x then JL y else JL x) = JL (min x y) := by
    rw [← min_if]
    by_cases q : y < x
    · rw [if_pos ((JL_lt hy hx).mpr q), if_pos q]
    · rw [if_neg (fun z => q ((JL_lt hy hx).mp z)), if_neg q]
  rw [h9]
  exact kk
end MR
end
section
/-! ===== pure words: the jugs ===== -/
def p_has (n a : Int) : Int := if 0 ≤ a ∧ a < n ∧ a < 4 then 1 else 0
def p_haveAct (n a : Int) : Int := if 0 ≤ a ∧ a < 24 ∧ k_giver a < n ∧ k_taker a < n ∧ k_giver a ≠ k_taker a then 1 else 0
def p_there (tp : Int) (hd : Int → Int) (f : Int) : Int := if 0 ≤ f then hd f else if tp = 0 then 0 else 10
def p_room (dr : Int) (sz hd : Int → Int) (t : Int) : Int := if 0 ≤ t then sz t - hd t else if dr = 0 then 0 else 10
def p_mv (n tp dr : Int) (sz hd : Int → Int) (a : Int) : Int :=
  if a < 0 ∨ 24 ≤ a then 0 else if n ≤ k_giver a ∨ n ≤ k_taker a ∨ k_giver a = k_taker a then 0
  else if p_there tp hd (k_giver a) < p_room dr sz hd (k_taker a) then p_there tp hd (k_giver a) else p_room dr sz hd (k_taker a)
def p_wt (wt : Int → Int) (f : Int) : Int := if 0 ≤ f then wt f else 0
def p_shift (n tp dr : Int) (sz hd wt : Int → Int) (a : Int) : Int :=
  if p_mv n tp dr sz hd a = 0 then 0 else p_mv n tp dr sz hd a * (p_wt wt (k_taker a) - p_wt wt (k_giver a))
def p_spilt (hd : Int → Int) (a : Int) : Int := if 0 ≤ a ∧ a < 24 ∧ k_taker a < 0 ∧ 0 ≤ k_giver a then hd (k_giver a) else 0
/-- the sum of f over 0 .. i - 1 -/
def sN (f : Int → Int) : Nat → Int
  | 0 => 0
  | k + 1 => sN f k + f k
def sT (f : Int → Int) (i : Int) : Int := sN f i.toNat
theorem sT_0 (f : Int → Int) : sT f 0 = 0 := rfl
theorem sT_s (f : Int → Int) {i : Int} (h : 0 ≤ i) : sT f (i + 1) = sT f i + f i := by
  unfold sT
  have h1 : (i + 1).toNat = i.toNat + 1 := by omega
  rw [h1, sN, Int.toNat_of_nonneg h]
/-- what is left of a code behind k digits -/
def rN (sz : Int → Int) (c : Int) : Nat → Int
  | 0 => c
  | k + 1 => rN sz c k / (sz k + 1)
def rT (sz : Int → Int) (c i : Int) : Int := rN sz c i.toNat
theorem rT_0 (sz : Int → Int) (c : Int) : rT sz c 0 = c := rfl
theorem rT_s (sz : Int → Int) (c : Int) {i : Int} (h : 0 ≤ i) : rT sz c (i + 1) = rT sz c i / (sz i + 1) := by
  unfold rT
  have h1 : (i + 1).toNat = i.toNat + 1 := by omega
  rw [h1, rN, Int.toNat_of_nonneg h]
/-- what the jugs hold when a code is laid out -/
def p_stand (n : Int) (sz hd : Int → Int) (c : Int) : Int → Int := fun j => if 0 ≤ j ∧ j < n then rT sz c j % (sz j + 1) else hd j
/-- some of the first i jugs holds v -/
def p_any (hd : Int → Int) (v : Int) : Nat → Bool
  | 0 => false
  | k + 1 => p_any hd v k || decide (hd k = v)
def p_meet (n : Int) (hd : Int → Int) (i v : Int) : Int := if 0 ≤ i then (if 0 ≤ i ∧ i < n ∧ i < 4 ∧ hd i = v then 1 else 0) else if p_any hd v n.toNat then 1 else 0
theorem p_any_s (hd : Int → Int) (v : Int) {i : Int} (h : 0 ≤ i) : p_any hd v (i + 1).toNat = (p_any hd v i.toNat || decide (hd i = v)) := by
  have h1 : (i + 1).toNat = i.toNat + 1 := by omega
  rw [h1, p_any, Int.toNat_of_nonneg h]
theorem p_any_mono (hd : Int → Int) (v : Int) {a b : Nat} (h : a ≤ b) (ha : p_any hd v a = true) : p_any hd v b = true := by
  induction h with
  | refl => exact ha
  | step _ ih => simp [p_any, ih]
theorem k_giver_r (a : Int) : -1 ≤ k_giver a ∧ k_giver a ≤ 3 := by
  unfold k_giver
  by_cases h : a.toNat < 24
  · have : ∀ j, j < 24 → -1 ≤ ([-1, -1, -1, -1, 0, 1, 2, 3, 0, 0, 0, 0, 1, 1, 1, 1, 2, 2, 2, 2, 3, 3, 3, 3] : List Int).getD j 0 ∧ ([-1, -1, -1, -1, 0, 1, 2, 3, 0, 0, 0, 0, 1, 1, 1, 1, 2, 2, 2, 2, 3, 3, 3, 3] : List Int).getD j 0 ≤ 3 := by decide
    exact this _ h
  · rw [List.getD_eq_getElem?_getD, List.getElem?_eq_none (by simp; omega)]
    exact ⟨by decide, by decide⟩
theorem k_taker_r (a : Int) : -1 ≤ k_taker a ∧ k_taker a ≤ 3 := by
  unfold k_taker
  by_cases h : a.toNat < 24
  · have : ∀ j, j < 24 → -1 ≤ ([0, 1, 2, 3, -1, -1, -1, -1, 0, 1, 2, 3, 0, 1, 2, 3, 0, 1, 2, 3, 0, 1, 2, 3] : List Int).getD j 0 ∧ ([0, 1, 2, 3, -1, -1, -1, -1, 0, 1, 2, 3, 0, 1, 2, 3, 0, 1, 2, 3, 0, 1, 2, 3] : List Int).getD j 0 ≤ 3 := by decide
    exact this _ h
  · rw [List.getD_eq_getElem?_getD, List.getElem?_eq_none (by simp; omega)]
    exact ⟨by decide, by decide⟩
/-- the jugs of an object are in order: how many, sizes, what is held, tap and drain -/
def Jok (I : Nat → Int) (A : Nat → Int → Int) : Prop := 0 ≤ I 0 ∧ I 0 ≤ 4 ∧ (I 2 = 0 ∨ I 2 = 1) ∧ (I 3 = 0 ∨ I 3 = 1) ∧ (∀ i, 0 ≤ i → i < I 0 → 1 ≤ A 4 i ∧ A 4 i ≤ 10) ∧ (∀ i, 0 ≤ i → i < I 0 → 0 ≤ A 5 i ∧ A 5 i ≤ A 4 i) ∧ (∀ i, 0 ≤ i → i < I 0 → 1 ≤ A 6 i ∧ A 6 i ≤ 1331) ∧ 1 ≤ I 1 ∧ I 1 ≤ 14641
theorem va_up_id {α : Type} (f : Nat → α) (k : Nat) : va_up f k (f k) = f := by
  funext j
  unfold va_up
  split
  · next q => rw [q]
  · rfl
theorem div_rng {z d : Int} (h0 : 0 ≤ z) (h1 : z < 2147483648) (hd : 0 < d) : 0 ≤ z / d ∧ z / d < 2147483648 := by
  refine ⟨Int.ediv_nonneg h0 (by omega), ?_⟩
  have := Int.ediv_le_self d h0
  omega
theorem p_stand_s (sz hd : Int → Int) (c : Int) {i : Int} (h : 0 ≤ i) : uf (p_stand i sz hd c) i (rT sz c i % (sz i + 1)) = p_stand (i + 1) sz hd c := by
  funext j
  unfold uf p_stand
  by_cases hj : j = i
  · subst hj
    rw [if_pos rfl, if_pos (by omega)]
  · rw [if_neg hj]
    by_cases h2 : 0 ≤ j ∧ j < i
    · rw [if_pos h2, if_pos (by omega)]
    · rw [if_neg h2, if_neg (by omega)]
theorem p_has_r (n a : Int) : p_has n a = 0 ∨ p_has n a = 1 := by unfold p_has; split <;> omega
theorem p_has_1 {n a : Int} (h : ¬ p_has n a = 0) : 0 ≤ a ∧ a < n ∧ a < 4 := by
  unfold p_has at h
  split at h
  · assumption
  · omega
theorem p_has_0 {n a : Int} (h : p_has n a = 0) : ¬ (0 ≤ a ∧ a < n ∧ a < 4) := by
  unfold p_has at h
  split at h
  · omega
  · assumption
theorem p_haveAct_r (n a : Int) : p_haveAct n a = 0 ∨ p_haveAct n a = 1 := by unfold p_haveAct; split <;> omega
theorem p_haveAct_1 {n a : Int} (h : ¬ p_haveAct n a = 0) : 0 ≤ a ∧ a < 24 ∧ k_giver a < n ∧ k_taker a < n ∧ k_giver a ≠ k_taker a := by
  unfold p_haveAct at h
  split at h
  · assumption
  · omega
theorem p_mv_1 {n tp dr : Int} {sz hd : Int → Int} {a : Int} (h : ¬ p_mv n tp dr sz hd a = 0) : 0 ≤ a ∧ a < 24 ∧ k_giver a < n ∧ k_taker a < n ∧ k_giver a ≠ k_taker a := by
  unfold p_mv at h
  split at h
  · omega
  · split at h
    · omega
    · omega
theorem p_mv_r {I : Nat → Int} {A : Nat → Int → Int} (hj : Jok I A) (a : Int) : 0 ≤ p_mv (I 0) (I 2) (I 3) (A 4) (A 5) a ∧ p_mv (I 0) (I 2) (I 3) (A 4) (A 5) a ≤ 10 := by
  obtain ⟨hj1, hj2, hj3, hj4, hj5, hj6, hj7, hj8, hj9⟩ := hj
  unfold p_mv
  split
  · omega
  · split
    · omega
    · have h1 : 0 ≤ p_there (I 2) (A 5) (k_giver a) ∧ p_there (I 2) (A 5) (k_giver a) ≤ 10 := by
        unfold p_there
        split
        · have h5 := hj5 (k_giver a) (by omega) (by omega)
          have h6 := hj6 (k_giver a) (by omega) (by omega)
          omega
        · split <;> omega
      have h2 : 0 ≤ p_room (I 3) (A 4) (A 5) (k_taker a) ∧ p_room (I 3) (A 4) (A 5) (k_taker a) ≤ 10 := by
        unfold p_room
        split
        · have h5 := hj5 (k_taker a) (by omega) (by omega)
          have h6 := hj6 (k_taker a) (by omega) (by omega)
          omega
        · split <;> omega
      split <;> omega
def p_move (hd : Int → Int) (a u : Int) : Int → Int :=
  if 0 ≤ k_taker a then (if 0 ≤ k_giver a then uf (uf hd (k_giver a) (hd (k_giver a) - u)) (k_taker a) (uf hd (k_giver a) (hd (k_giver a) - u) (k_taker a) + u) else uf hd (k_taker a) (hd (k_taker a) + u))
  else if 0 ≤ k_giver a then uf hd (k_giver a) (hd (k_giver a) - u) else hd
end
section
set_option maxHeartbeats 4000000 in
set_option maxRecDepth 100000 in
theorem k_has (l : Launch) (g : GX) (base : Nat) (sa : Nat → Nat) (h0 : Hp) (o : Nat) (R : Nat → Nat) (I : Nat → Int) (A : Nat → Int → Int) (a : Int) (hM : OB g 1 7 kd1 h0 o R I L4 A) (ha : i32 a) (hn : 0 ≤ I 0 ∧ I 0 ≤ 4) : MC l g base sa yX1_has wsX1_has ({ frames := 0, cells := 0, slots := 0, locals := 0 }) ([.ref o, .int (J a)]) h0 (fun r h' => r = some (.int (J (p_has (I 0) a))) ∧ h' = h0) := by
  refine Met.ofW (cc := cX1_has) (maxL := 2) (ret := (some .boolean)) (by decide) rfl ?_
  intro p e s m args below meth c s₁ B hml hv
  obtain ⟨rfl, hk, hW⟩ := hv
  have hx := B.exec
  have hb := B.bytes
  have hr := B.returns
  have hts := atoms_spec (ws := wsX1_has) B.pre
  have hown : s.vm.findClass RX1 = some m.cls := findClass_of_methodNamed B.named
  have hlocks := B.notSynchronized
  have hfX1 : ∀ w ∈ wsX10, w.before ([.ref o, .int (J a)]).toArray s = true := fun w h => hts w (List.mem_cons_of_mem _ (List.mem_append_right _ h))
  have hS : va_S (Ab base) s.heap s.heap [] := va_S.rf
  have hl := lv_entry ([.ref o, .int (J a)]) (n := 2) (Nat.le_of_ble_eq_true rfl)
  rw [lg_entry_eq]
  generalize (lg_sl ([.ref o, .int (J a)]) ++ List.replicate (2 - (lg_sl ([.ref o, .int (J a)])).length) Slot.unset).toArray = ls at hl ⊢
  have hl : lv_has ls 2 [(0, .ref o), (1, .int (J a))] := hl
  obtain ⟨ha1, ha2⟩ := ha
  refine lv_iload_n hx hb dX1_has_0 rfl (lv_at hl 1 rfl) ?_
  refine j_if_lt (x := a) (tgt := 21) hx hb ⟨by omega, by omega⟩ dX1_has_1 (by decide) (fun c_1 => ?_) (fun c_1 => ?_)
  · refine lv_iconst (v := J (0)) hx hb dX1_has_21 rfl ?_
    exact g_zret hx hb hr (by omega) hW hS dX1_has_22 hlocks (⟨congrArg (fun z : Int => some (Value.int (J z))) (show 0 = p_has (I 0) a from by unfold p_has; (repeat' split) <;> omega), rfl⟩)
  · refine lv_iload_n hx hb dX1_has_4 rfl (lv_at hl 1 rfl) ?_
    refine lv_aload_n hx hb dX1_has_5 rfl (lv_at hl 0 rfl) ?_
    refine g_get (ci := 1) (C := RX1) (T := TX1) (N := 7) (v := .int (J (I 0))) hx hb hfX1 (fun _ h9 => h9) hown hk hW hM.1 rfl 0 (by decide) (hts (.fieldLink RX1 9 "JugsAndGlasses$Jugs" "number" "I") (by decide +kernel)) rfl rfl dX1_has_6 ?_
    refine j_icmp_ge (x := a) (y := I 0) (tgt := 21) hx hb ⟨by omega, by omega⟩ ⟨by omega, by omega⟩ dX1_has_9 (by decide) (fun c_9 => ?_) (fun c_9 => ?_)
    · refine lv_iconst (v := J (0)) hx hb dX1_has_21 rfl ?_
      exact g_zret hx hb hr (by omega) hW hS dX1_has_22 hlocks (⟨congrArg (fun z : Int => some (Value.int (J z))) (show 0 = p_has (I 0) a from by unfold p_has; (repeat' split) <;> omega), rfl⟩)
    · refine lv_iload_n hx hb dX1_has_12 rfl (lv_at hl 1 rfl) ?_
      refine lv_iconst (v := J (4)) hx hb dX1_has_13 rfl ?_
      refine j_icmp_ge (x := a) (y := 4) (tgt := 21) hx hb ⟨by omega, by omega⟩ ⟨by decide, by decide⟩ dX1_has_14 (by decide) (fun c_14 => ?_) (fun c_14 => ?_)
      · refine lv_iconst (v := J (0)) hx hb dX1_has_21 rfl ?_
        exact g_zret hx hb hr (by omega) hW hS dX1_has_22 hlocks (⟨congrArg (fun z : Int => some (Value.int (J z))) (show 0 = p_has (I 0) a from by unfold p_has; (repeat' split) <;> omega), rfl⟩)
      · refine lv_iconst (v := J (1)) hx hb dX1_has_17 rfl ?_
        refine lv_goto (tgt := 22) hx hb dX1_has_18 (by decide) ?_
        exact g_zret hx hb hr (by omega) hW hS dX1_has_22 hlocks (⟨congrArg (fun z : Int => some (Value.int (J z))) (show 1 = p_has (I 0) a from by unfold p_has; (repeat' split) <;> omega), rfl⟩)

set_option maxHeartbeats 4000000 in
set_option maxRecDepth 100000 in
theorem k_haveAct (l : Launch) (g : GX) (base : Nat) (sa : Nat → Nat) (h0 : Hp) (o : Nat) (R : Nat → Nat) (I : Nat → Int) (A : Nat → Int → Int) (a : Int) (hM : OB g 1 7 kd1 h0 o R I L4 A) (ha : i32 a) (hn : 0 ≤ I 0 ∧ I 0 ≤ 4) : MC l g base sa yX1_haveAct wsX1_haveAct ({ frames := 0, cells := 0, slots := 0, locals := 0 }) ([.ref o, .int (J a)]) h0 (fun r h' => r = some (.int (J (p_haveAct (I 0) a))) ∧ h' = h0) := by
  refine Met.ofW (cc := cX1_haveAct) (maxL := 2) (ret := (some .boolean)) (by decide) rfl ?_
  intro p e s m args below meth c s₁ B hml hv
  obtain ⟨rfl, hk, hW⟩ := hv
  have hx := B.exec
  have hb := B.bytes
  have hr := B.returns
  have hts := atoms_spec (ws := wsX1_haveAct) B.pre
  have hown : s.vm.findClass RX1 = some m.cls := findClass_of_methodNamed B.named
  have hlocks := B.notSynchronized
  have hfX1 : ∀ w ∈ wsX10, w.before ([.ref o, .int (J a)]).toArray s = true := fun w h => hts w (List.mem_cons_of_mem _ (List.mem_append_right _ h))
  have hS : va_S (Ab base) s.heap s.heap [] := va_S.rf
  have hl := lv_entry ([.ref o, .int (J a)]) (n := 2) (Nat.le_of_ble_eq_true rfl)
  rw [lg_entry_eq]
  generalize (lg_sl ([.ref o, .int (J a)]) ++ List.replicate (2 - (lg_sl ([.ref o, .int (J a)])).length) Slot.unset).toArray = ls at hl ⊢
  have hl : lv_has ls 2 [(0, .ref o), (1, .int (J a))] := hl
  obtain ⟨ha1, ha2⟩ := ha
  have hg := k_giver_r a
  have ht := k_taker_r a
  have cut_52 : ∀ (t : Int) (ls : Array Slot), t = p_haveAct (I 0) a → t = 0 ∨ t = 1 → lv_has ls 2 [(0, .ref o), (1, .int (J a))] → W p l e (headSpec wsX1_haveAct ({ frames := 0, cells := 0, slots := 0, locals := 0 })).room s m ([.ref o, .int (J a)]).toArray below meth c s.heap [] 0 0 (MQ below (QcM g base (fun r h' => r = some (.int (J (p_haveAct (I 0) a))) ∧ h' = h0)) ([.ref o, .int (J a)]).toArray s (0) (0) (Ab base)) (F0 m 52 ls [.int (J t)]) := by
    intro t  ls et et2 hl
    exact g_zret hx hb hr (et2) hW hS dX1_haveAct_52 hlocks (⟨congrArg (fun z : Int => some (Value.int (J z))) (et), rfl⟩)
  refine lv_iload_n hx hb dX1_haveAct_0 rfl (lv_at hl 1 rfl) ?_
  refine j_if_lt (x := a) (tgt := 51) hx hb ⟨by omega, by omega⟩ dX1_haveAct_1 (by decide) (fun c_1 => ?_) (fun c_1 => ?_)
  · refine lv_iconst (v := J (0)) hx hb dX1_haveAct_51 rfl ?_
    exact cut_52 _  ls (by unfold p_haveAct; (repeat' split) <;> omega) (by omega) (lv_sub hl [0, 1] rfl)
  · refine lv_iload_n hx hb dX1_haveAct_4 rfl (lv_at hl 1 rfl) ?_
    refine lv_bipush (v := J (24)) hx hb dX1_haveAct_5 (by decide) ?_
    refine j_icmp_ge (x := a) (y := 24) (tgt := 51) hx hb ⟨by omega, by omega⟩ ⟨by decide, by decide⟩ dX1_haveAct_7 (by decide) (fun c_7 => ?_) (fun c_7 => ?_)
    · refine lv_iconst (v := J (0)) hx hb dX1_haveAct_51 rfl ?_
      exact cut_52 _  ls (by unfold p_haveAct; (repeat' split) <;> omega) (by omega) (lv_sub hl [0, 1] rfl)
    · refine g_statN hx hb hk.2.2.1 hS hown (va_Nw.use rfl hk.2.2.2.2.2.2.2.2.2.2.2.2.1) dX1_haveAct_10 ?_
      refine lv_iload_n hx hb dX1_haveAct_13 rfl (lv_at hl 1 rfl) ?_
      refine g_sald hx hb hk.2.2.1 hS (by omega) (by omega) (by decide) dX1_haveAct_14 ?_
      refine lv_aload_n hx hb dX1_haveAct_15 rfl (lv_at hl 0 rfl) ?_
      refine g_get (ci := 1) (C := RX1) (T := TX1) (N := 7) (v := .int (J (I 0))) hx hb hfX1 (fun _ h9 => h9) hown hk hW hM.1 rfl 0 (by decide) (hts (.fieldLink RX1 9 "JugsAndGlasses$Jugs" "number" "I") (by decide +kernel)) rfl rfl dX1_haveAct_16 ?_
      refine j_icmp_ge (x := k_giver a) (y := I 0) (tgt := 51) hx hb ⟨by omega, by omega⟩ ⟨by omega, by omega⟩ dX1_haveAct_19 (by decide) (fun c_19 => ?_) (fun c_19 => ?_)
      · refine lv_iconst (v := J (0)) hx hb dX1_haveAct_51 rfl ?_
        exact cut_52 _  ls (by unfold p_haveAct; (repeat' split) <;> omega) (by omega) (lv_sub hl [0, 1] rfl)
      · refine g_statN hx hb hk.2.2.2.1 hS hown (va_Nw.use rfl hk.2.2.2.2.2.2.2.2.2.2.2.2.2) dX1_haveAct_22 ?_
        refine lv_iload_n hx hb dX1_haveAct_25 rfl (lv_at hl 1 rfl) ?_
        refine g_sald hx hb hk.2.2.2.1 hS (by omega) (by omega) (by decide) dX1_haveAct_26 ?_
        refine lv_aload_n hx hb dX1_haveAct_27 rfl (lv_at hl 0 rfl) ?_
        refine g_get (ci := 1) (C := RX1) (T := TX1) (N := 7) (v := .int (J (I 0))) hx hb hfX1 (fun _ h9 => h9) hown hk hW hM.1 rfl 0 (by decide) (hts (.fieldLink RX1 9 "JugsAndGlasses$Jugs" "number" "I") (by decide +kernel)) rfl rfl dX1_haveAct_28 ?_
        refine j_icmp_ge (x := k_taker a) (y := I 0) (tgt := 51) hx hb ⟨by omega, by omega⟩ ⟨by omega, by omega⟩ dX1_haveAct_31 (by decide) (fun c_31 => ?_) (fun c_31 => ?_)
        · refine lv_iconst (v := J (0)) hx hb dX1_haveAct_51 rfl ?_
          exact cut_52 _  ls (by unfold p_haveAct; (repeat' split) <;> omega) (by omega) (lv_sub hl [0, 1] rfl)
        · refine g_statN hx hb hk.2.2.1 hS hown (va_Nw.use rfl hk.2.2.2.2.2.2.2.2.2.2.2.2.1) dX1_haveAct_34 ?_
          refine lv_iload_n hx hb dX1_haveAct_37 rfl (lv_at hl 1 rfl) ?_
          refine g_sald hx hb hk.2.2.1 hS (by omega) (by omega) (by decide) dX1_haveAct_38 ?_
          refine g_statN hx hb hk.2.2.2.1 hS hown (va_Nw.use rfl hk.2.2.2.2.2.2.2.2.2.2.2.2.2) dX1_haveAct_39 ?_
          refine lv_iload_n hx hb dX1_haveAct_42 rfl (lv_at hl 1 rfl) ?_
          refine g_sald hx hb hk.2.2.2.1 hS (by omega) (by omega) (by decide) dX1_haveAct_43 ?_
          refine j_icmp_eq (x := k_giver a) (y := k_taker a) (tgt := 51) hx hb ⟨by omega, by omega⟩ ⟨by omega, by omega⟩ dX1_haveAct_44 (by decide) (fun c_44 => ?_) (fun c_44 => ?_)
          · refine lv_iconst (v := J (0)) hx hb dX1_haveAct_51 rfl ?_
            exact cut_52 _  ls (by unfold p_haveAct; (repeat' split) <;> omega) (by omega) (lv_sub hl [0, 1] rfl)
          · refine lv_iconst (v := J (1)) hx hb dX1_haveAct_47 rfl ?_
            refine lv_goto (tgt := 52) hx hb dX1_haveAct_48 (by decide) ?_
            exact cut_52 _  ls (by unfold p_haveAct; (repeat' split) <;> omega) (by omega) (lv_sub hl [0, 1] rfl)

set_option maxHeartbeats 4000000 in
set_option maxRecDepth 100000 in
theorem k_moved (l : Launch) (g : GX) (base : Nat) (sa : Nat → Nat) (h0 : Hp) (o : Nat) (R : Nat → Nat) (I : Nat → Int) (A : Nat → Int → Int) (a : Int) (hM : OB g 1 7 kd1 h0 o R I L4 A) (ha : i32 a) (hj : Jok I A) : MC l g base sa yX1_moved wsX1_moved ({ frames := 0, cells := 0, slots := 0, locals := 0 }) ([.ref o, .int (J a)]) h0 (fun r h' => r = some (.int (J (p_mv (I 0) (I 2) (I 3) (A 4) (A 5) a))) ∧ h' = h0) := by
  refine Met.ofW (cc := cX1_moved) (maxL := 6) (ret := (some .int)) (by decide) rfl ?_
  intro p e s m args below meth c s₁ B hml hv
  obtain ⟨rfl, hk, hW⟩ := hv
  have hx := B.exec
  have hb := B.bytes
  have hr := B.returns
  have hts := atoms_spec (ws := wsX1_moved) B.pre
  have hown : s.vm.findClass RX1 = some m.cls := findClass_of_methodNamed B.named
  have hlocks := B.notSynchronized
  have hfX1 : ∀ w ∈ wsX10, w.before ([.ref o, .int (J a)]).toArray s = true := fun w h => hts w (List.mem_cons_of_mem _ (List.mem_append_right _ h))
  have hS : va_S (Ab base) s.heap s.heap [] := va_S.rf
  have hl := lv_entry ([.ref o, .int (J a)]) (n := 6) (Nat.le_of_ble_eq_true rfl)
  rw [lg_entry_eq]
  generalize (lg_sl ([.ref o, .int (J a)]) ++ List.replicate (6 - (lg_sl ([.ref o, .int (J a)])).length) Slot.unset).toArray = ls at hl ⊢
  have hl : lv_has ls 6 [(0, .ref o), (1, .int (J a))] := hl
  obtain ⟨ha1, ha2⟩ := ha
  have hg := k_giver_r a
  have ht := k_taker_r a
  obtain ⟨hj1, hj2, hj3, hj4, hj5, hj6, hj7, hj8, hj9⟩ := hj
  refine lv_iload_n hx hb dX1_moved_0 rfl (lv_at hl 1 rfl) ?_
  refine j_if_lt (x := a) (tgt := 10) hx hb ⟨by omega, by omega⟩ dX1_moved_1 (by decide) (fun c_1 => ?_) (fun c_1 => ?_)
  · refine lv_iconst (v := J (0)) hx hb dX1_moved_10 rfl ?_
    exact g_iret hx hb hr hW hS dX1_moved_11 hlocks (⟨congrArg (fun z : Int => some (Value.int (J z))) (show 0 = p_mv (I 0) (I 2) (I 3) (A 4) (A 5) a from by unfold p_mv; rw [if_pos (by omega)]), rfl⟩)
  · refine lv_iload_n hx hb dX1_moved_4 rfl (lv_at hl 1 rfl) ?_
    refine lv_bipush (v := J (24)) hx hb dX1_moved_5 (by decide) ?_
    refine j_icmp_lt (x := a) (y := 24) (tgt := 12) hx hb ⟨by omega, by omega⟩ ⟨by decide, by decide⟩ dX1_moved_7 (by decide) (fun c_7 => ?_) (fun c_7 => ?_)
    · refine g_statN hx hb hk.2.2.1 hS hown (va_Nw.use rfl hk.2.2.2.2.2.2.2.2.2.2.2.2.1) dX1_moved_12 ?_
      refine lv_iload_n hx hb dX1_moved_15 rfl (lv_at hl 1 rfl) ?_
      refine g_sald hx hb hk.2.2.1 hS (by omega) (by omega) (by decide) dX1_moved_16 ?_
      refine lv_istore_n (lv' := [(2, .int (J (k_giver a))), (0, .ref o), (1, .int (J a))]) hx hb dX1_moved_17 rfl hl (by decide) rfl (fun ls hl => ?_)
      refine g_statN hx hb hk.2.2.2.1 hS hown (va_Nw.use rfl hk.2.2.2.2.2.2.2.2.2.2.2.2.2) dX1_moved_18 ?_
      refine lv_iload_n hx hb dX1_moved_21 rfl (lv_at hl 2 rfl) ?_
      refine g_sald hx hb hk.2.2.2.1 hS (by omega) (by omega) (by decide) dX1_moved_22 ?_
      refine lv_istore_n (lv' := [(3, .int (J (k_taker a))), (2, .int (J (k_giver a))), (0, .ref o), (1, .int (J a))]) hx hb dX1_moved_23 rfl hl (by decide) rfl (fun ls hl => ?_)
      refine lv_iload_n hx hb dX1_moved_24 rfl (lv_at hl 1 rfl) ?_
      refine lv_aload_n hx hb dX1_moved_25 rfl (lv_at hl 2 rfl) ?_
      refine g_get (ci := 1) (C := RX1) (T := TX1) (N := 7) (v := .int (J (I 0))) hx hb hfX1 (fun _ h9 => h9) hown hk hW hM.1 rfl 0 (by decide) (hts (.fieldLink RX1 9 "JugsAndGlasses$Jugs" "number" "I") (by decide +kernel)) rfl rfl dX1_moved_26 ?_
      refine j_icmp_ge (x := k_giver a) (y := I 0) (tgt := 45) hx hb ⟨by omega, by omega⟩ ⟨by omega, by omega⟩ dX1_moved_29 (by decide) (fun c_29 => ?_) (fun c_29 => ?_)
      · refine lv_iconst (v := J (0)) hx hb dX1_moved_45 rfl ?_
        exact g_iret hx hb hr hW hS dX1_moved_46 hlocks (⟨congrArg (fun z : Int => some (Value.int (J z))) (show 0 = p_mv (I 0) (I 2) (I 3) (A 4) (A 5) a from by unfold p_mv; rw [if_neg (by omega), if_pos (by omega)]), rfl⟩)
      · refine lv_iload_n hx hb dX1_moved_32 rfl (lv_at hl 0 rfl) ?_
        refine lv_aload_n hx hb dX1_moved_33 rfl (lv_at hl 2 rfl) ?_
        refine g_get (ci := 1) (C := RX1) (T := TX1) (N := 7) (v := .int (J (I 0))) hx hb hfX1 (fun _ h9 => h9) hown hk hW hM.1 rfl 0 (by decide) (hts (.fieldLink RX1 9 "JugsAndGlasses$Jugs" "number" "I") (by decide +kernel)) rfl rfl dX1_moved_34 ?_
        refine j_icmp_ge (x := k_taker a) (y := I 0) (tgt := 45) hx hb ⟨by omega, by omega⟩ ⟨by omega, by omega⟩ dX1_moved_37 (by decide) (fun c_37 => ?_) (fun c_37 => ?_)
        · refine lv_iconst (v := J (0)) hx hb dX1_moved_45 rfl ?_
          exact g_iret hx hb hr hW hS dX1_moved_46 hlocks (⟨congrArg (fun z : Int => some (Value.int (J z))) (show 0 = p_mv (I 0) (I 2) (I 3) (A 4) (A 5) a from by unfold p_mv; rw [if_neg (by omega), if_pos (by omega)]), rfl⟩)
        · refine lv_iload_n hx hb dX1_moved_40 rfl (lv_at hl 1 rfl) ?_
          refine lv_iload_n hx hb dX1_moved_41 rfl (lv_at hl 0 rfl) ?_
          refine j_icmp_ne (x := k_giver a) (y := k_taker a) (tgt := 47) hx hb ⟨by omega, by omega⟩ ⟨by omega, by omega⟩ dX1_moved_42 (by decide) (fun c_42 => ?_) (fun c_42 => ?_)
          · have cut_73 : ∀ (t : Int) (ls : Array Slot), t = p_there (I 2) (A 5) (k_giver a) → 0 ≤ t ∧ t ≤ 10 → lv_has ls 6 [(3, .int (J (k_taker a))), (2, .int (J (k_giver a))), (0, .ref o), (1, .int (J a))] → W p l e (headSpec wsX1_moved ({ frames := 0, cells := 0, slots := 0, locals := 0 })).room s m ([.ref o, .int (J a)]).toArray below meth c s.heap [] 0 0 (MQ below (QcM g base (fun r h' => r = some (.int (J (p_mv (I 0) (I 2) (I 3) (A 4) (A 5) a))) ∧ h' = h0)) ([.ref o, .int (J a)]).toArray s (0) (0) (Ab base)) (F0 m 73 ls [.int (J t)]) := by
              intro t  ls et etr hl
              refine lv_istore (lv' := [(4, .int (J t)), (3, .int (J (k_taker a))), (2, .int (J (k_giver a))), (0, .ref o), (1, .int (J a))]) hx hb dX1_moved_73 hl (by decide) rfl (fun ls hl => ?_)
              have cut_108 : ∀ (u : Int) (ls : Array Slot), u = p_room (I 3) (A 4) (A 5) (k_taker a) → 0 ≤ u ∧ u ≤ 10 → lv_has ls 6 [(4, .int (J t)), (3, .int (J (k_taker a))), (2, .int (J (k_giver a))), (0, .ref o), (1, .int (J a))] → W p l e (headSpec wsX1_moved ({ frames := 0, cells := 0, slots := 0, locals := 0 })).room s m ([.ref o, .int (J a)]).toArray below meth c s.heap [] 0 0 (MQ below (QcM g base (fun r h' => r = some (.int (J (p_mv (I 0) (I 2) (I 3) (A 4) (A 5) a))) ∧ h' = h0)) ([.ref o, .int (J a)]).toArray s (0) (0) (Ab base)) (F0 m 108 ls [.int (J u)]) := by
                intro u  ls et2 etr2 hl
                refine lv_istore (lv' := [(5, .int (J u)), (4, .int (J t)), (3, .int (J (k_taker a))), (2, .int (J (k_giver a))), (0, .ref o), (1, .int (J a))]) hx hb dX1_moved_108 hl (by decide) rfl (fun ls hl => ?_)
                refine lv_iload hx hb dX1_moved_110 (lv_at hl 1 rfl) ?_
                refine lv_iload hx hb dX1_moved_112 (lv_at hl 0 rfl) ?_
                refine j_icmp_ge (x := t) (y := u) (tgt := 122) hx hb ⟨by omega, by omega⟩ ⟨by omega, by omega⟩ dX1_moved_114 (by decide) (fun c_114 => ?_) (fun c_114 => ?_)
                · refine lv_iload hx hb dX1_moved_122 (lv_at hl 0 rfl) ?_
                  exact g_iret hx hb hr hW hS dX1_moved_124 hlocks (⟨congrArg (fun z : Int => some (Value.int (J z))) (show u = p_mv (I 0) (I 2) (I 3) (A 4) (A 5) a from by unfold p_mv; rw [if_neg (by omega), if_neg (by omega), ← et, ← et2]; split <;> omega), rfl⟩)
                · refine lv_iload hx hb dX1_moved_117 (lv_at hl 1 rfl) ?_
                  refine lv_goto (tgt := 124) hx hb dX1_moved_119 (by decide) ?_
                  exact g_iret hx hb hr hW hS dX1_moved_124 hlocks (⟨congrArg (fun z : Int => some (Value.int (J z))) (show t = p_mv (I 0) (I 2) (I 3) (A 4) (A 5) a from by unfold p_mv; rw [if_neg (by omega), if_neg (by omega), ← et, ← et2]; split <;> omega), rfl⟩)
              refine lv_iload_n hx hb dX1_moved_75 rfl (lv_at hl 1 rfl) ?_
              refine j_if_lt (x := k_taker a) (tgt := 95) hx hb ⟨by omega, by omega⟩ dX1_moved_76 (by decide) (fun c_76 => ?_) (fun c_76 => ?_)
              · refine lv_aload_n hx hb dX1_moved_95 rfl (lv_at hl 3 rfl) ?_
                refine g_get (ci := 1) (C := RX1) (T := TX1) (N := 7) (v := .int (J (I 3))) hx hb hfX1 (fun _ h9 => h9) hown hk hW hM.1 rfl 3 (by decide) (hts (.fieldLink RX1 22 "JugsAndGlasses$Jugs" "drain" "Z") (by decide +kernel)) rfl rfl dX1_moved_96 ?_
                refine j_if_eq (x := I 3) (tgt := 107) hx hb ⟨by omega, by omega⟩ dX1_moved_99 (by decide) (fun c_99 => ?_) (fun c_99 => ?_)
                · refine lv_iconst (v := J (0)) hx hb dX1_moved_107 rfl ?_
                  exact cut_108 _  ls (by unfold p_room; (repeat' split) <;> omega) (by first | omega | (have h1 := hj5 (k_taker a) (by omega) (by omega); have h2 := hj6 (k_taker a) (by omega) (by omega); omega)) (lv_sub hl [0, 1, 2, 3, 4] rfl)
                · refine lv_bipush (v := J (10)) hx hb dX1_moved_102 (by decide) ?_
                  refine lv_goto (tgt := 108) hx hb dX1_moved_104 (by decide) ?_
                  exact cut_108 _  ls (by unfold p_room; (repeat' split) <;> omega) (by first | omega | (have h1 := hj5 (k_taker a) (by omega) (by omega); have h2 := hj6 (k_taker a) (by omega) (by omega); omega)) (lv_sub hl [0, 1, 2, 3, 4] rfl)
              · refine lv_aload_n hx hb dX1_moved_79 rfl (lv_at hl 3 rfl) ?_
                refine g_get (ci := 1) (C := RX1) (T := TX1) (N := 7) (v := .ref (R 4)) hx hb hfX1 (fun _ h9 => h9) hown hk hW hM.1 rfl 4 (by decide) (hts (.fieldLink RX1 25 "JugsAndGlasses$Jugs" "size" "[I") (by decide +kernel)) rfl rfl dX1_moved_80 ?_
                refine lv_iload_n hx hb dX1_moved_83 rfl (lv_at hl 1 rfl) ?_
                refine g_iald (n := 4) (f := A 4) (i := k_taker a) hx hb hk hW (hM.ai 4 (by decide) rfl) (by omega) (by omega) (by omega) dX1_moved_84 ?_
                refine lv_aload_n hx hb dX1_moved_85 rfl (lv_at hl 3 rfl) ?_
                refine g_get (ci := 1) (C := RX1) (T := TX1) (N := 7) (v := .ref (R 5)) hx hb hfX1 (fun _ h9 => h9) hown hk hW hM.1 rfl 5 (by decide) (hts (.fieldLink RX1 29 "JugsAndGlasses$Jugs" "held" "[I") (by decide +kernel)) rfl rfl dX1_moved_86 ?_
                refine lv_iload_n hx hb dX1_moved_89 rfl (lv_at hl 1 rfl) ?_
                refine g_iald (n := 4) (f := A 5) (i := k_taker a) hx hb hk hW (hM.ai 5 (by decide) rfl) (by omega) (by omega) (by omega) dX1_moved_90 ?_
                refine j_isub hx hb dX1_moved_91 ?_
                refine lv_goto (tgt := 108) hx hb dX1_moved_92 (by decide) ?_
                exact cut_108 _  ls (by unfold p_room; (repeat' split) <;> omega) (by first | omega | (have h1 := hj5 (k_taker a) (by omega) (by omega); have h2 := hj6 (k_taker a) (by omega) (by omega); omega)) (lv_sub hl [0, 1, 2, 3, 4] rfl)
            refine lv_iload_n hx hb dX1_moved_47 rfl (lv_at hl 1 rfl) ?_
            refine j_if_lt (x := k_giver a) (tgt := 60) hx hb ⟨by omega, by omega⟩ dX1_moved_48 (by decide) (fun c_48 => ?_) (fun c_48 => ?_)
            · refine lv_aload_n hx hb dX1_moved_60 rfl (lv_at hl 2 rfl) ?_
              refine g_get (ci := 1) (C := RX1) (T := TX1) (N := 7) (v := .int (J (I 2))) hx hb hfX1 (fun _ h9 => h9) hown hk hW hM.1 rfl 2 (by decide) (hts (.fieldLink RX1 18 "JugsAndGlasses$Jugs" "tap" "Z") (by decide +kernel)) rfl rfl dX1_moved_61 ?_
              refine j_if_eq (x := I 2) (tgt := 72) hx hb ⟨by omega, by omega⟩ dX1_moved_64 (by decide) (fun c_64 => ?_) (fun c_64 => ?_)
              · refine lv_iconst (v := J (0)) hx hb dX1_moved_72 rfl ?_
                exact cut_73 _  ls (by unfold p_there; (repeat' split) <;> omega) (by first | omega | (have h1 := hj5 (k_giver a) (by omega) (by omega); have h2 := hj6 (k_giver a) (by omega) (by omega); omega)) (lv_sub hl [0, 1, 2, 3] rfl)
              · refine lv_bipush (v := J (10)) hx hb dX1_moved_67 (by decide) ?_
                refine lv_goto (tgt := 73) hx hb dX1_moved_69 (by decide) ?_
                exact cut_73 _  ls (by unfold p_there; (repeat' split) <;> omega) (by first | omega | (have h1 := hj5 (k_giver a) (by omega) (by omega); have h2 := hj6 (k_giver a) (by omega) (by omega); omega)) (lv_sub hl [0, 1, 2, 3] rfl)
            · refine lv_aload_n hx hb dX1_moved_51 rfl (lv_at hl 2 rfl) ?_
              refine g_get (ci := 1) (C := RX1) (T := TX1) (N := 7) (v := .ref (R 5)) hx hb hfX1 (fun _ h9 => h9) hown hk hW hM.1 rfl 5 (by decide) (hts (.fieldLink RX1 29 "JugsAndGlasses$Jugs" "held" "[I") (by decide +kernel)) rfl rfl dX1_moved_52 ?_
              refine lv_iload_n hx hb dX1_moved_55 rfl (lv_at hl 1 rfl) ?_
              refine g_iald (n := 4) (f := A 5) (i := k_giver a) hx hb hk hW (hM.ai 5 (by decide) rfl) (by omega) (by omega) (by omega) dX1_moved_56 ?_
              refine lv_goto (tgt := 73) hx hb dX1_moved_57 (by decide) ?_
              exact cut_73 _  ls (by unfold p_there; (repeat' split) <;> omega) (by first | omega | (have h1 := hj5 (k_giver a) (by omega) (by omega); have h2 := hj6 (k_giver a) (by omega) (by omega); omega)) (lv_sub hl [0, 1, 2, 3] rfl)
          · refine lv_iconst (v := J (0)) hx hb dX1_moved_45 rfl ?_
            exact g_iret hx hb hr hW hS dX1_moved_46 hlocks (⟨congrArg (fun z : Int => some (Value.int (J z))) (show 0 = p_mv (I 0) (I 2) (I 3) (A 4) (A 5) a from by unfold p_mv; rw [if_neg (by omega), if_pos (by omega)]), rfl⟩)
    · refine lv_iconst (v := J (0)) hx hb dX1_moved_10 rfl ?_
      exact g_iret hx hb hr hW hS dX1_moved_11 hlocks (⟨congrArg (fun z : Int => some (Value.int (J z))) (show 0 = p_mv (I 0) (I 2) (I 3) (A 4) (A 5) a from by unfold p_mv; rw [if_pos (by omega)]), rfl⟩)

set_option maxHeartbeats 4000000 in
set_option maxRecDepth 100000 in
theorem k_code (l : Launch) (g : GX) (base : Nat) (sa : Nat → Nat) (h0 : Hp) (o : Nat) (R : Nat → Nat) (I : Nat → Int) (A : Nat → Int → Int) (hM : OB g 1 7 kd1 h0 o R I L4 A) (hn : 0 ≤ I 0 ∧ I 0 ≤ 4) : MC l g base sa yX1_code wsX1_code ({ frames := 0, cells := 0, slots := 0, locals := 0 }) ([.ref o]) h0 (fun r h' => r = some (.int (J (sT (fun j => A 5 j * A 6 j) (I 0)))) ∧ h' = h0) := by
  refine Met.ofW (cc := cX1_code) (maxL := 3) (ret := (some .int)) (by decide) rfl ?_
  intro p e s m args below meth c s₁ B hml hv
  obtain ⟨rfl, hk, hW⟩ := hv
  have hx := B.exec
  have hb := B.bytes
  have hr := B.returns
  have hts := atoms_spec (ws := wsX1_code) B.pre
  have hown : s.vm.findClass RX1 = some m.cls := findClass_of_methodNamed B.named
  have hlocks := B.notSynchronized
  have hfX1 : ∀ w ∈ wsX10, w.before ([.ref o]).toArray s = true := fun w h => hts w (List.mem_cons_of_mem _ (List.mem_append_right _ h))
  have hS : va_S (Ab base) s.heap s.heap [] := va_S.rf
  have hl := lv_entry ([.ref o]) (n := 3) (Nat.le_of_ble_eq_true rfl)
  rw [lg_entry_eq]
  generalize (lg_sl ([.ref o]) ++ List.replicate (3 - (lg_sl ([.ref o])).length) Slot.unset).toArray = ls at hl ⊢
  have hl : lv_has ls 3 [(0, .ref o)] := hl
  refine lv_iconst (v := J (0)) hx hb dX1_code_0 rfl ?_
  refine lv_istore_n (lv' := [(1, .int (J 0)), (0, .ref o)]) hx hb dX1_code_1 rfl hl (by decide) rfl (fun ls hl => ?_)
  refine lv_iconst (v := J (0)) hx hb dX1_code_2 rfl ?_
  refine lv_istore_n (lv' := [(2, .int (J 0)), (1, .int (J 0)), (0, .ref o)]) hx hb dX1_code_3 rfl hl (by decide) rfl (fun ls hl => ?_)
  have loop_4 : ∀ (n : Nat) (i : Int) (z : Int) (h : Hp) (H : Heap) (locs : List Loc) (ls : Array Slot), I 0 - i < (n : Int) → 0 ≤ i ∧ i ≤ I 0 → z = sT (fun j => A 5 j * A 6 j) i → h = h0 → OB g 1 7 kd1 h o R I L4 A → Wd g base h H → va_S (Ab base) s.heap H locs → lv_has ls 3 [(0, .ref o), (1, .int (J z)), (2, .int (J i))] → W p l e (headSpec wsX1_code ({ frames := 0, cells := 0, slots := 0, locals := 0 })).room s m ([.ref o]).toArray below meth c H locs 0 0 (MQ below (QcM g base (fun r h' => r = some (.int (J (sT (fun j => A 5 j * A 6 j) (I 0)))) ∧ h' = h0)) ([.ref o]).toArray s (0) (0) (Ab base)) (F0 m 4 ls []) := by
    intro n
    induction n with
    | zero =>
      intro i z h H locs ls hmu hi ez eh hM hW hS hl
      exact absurd hmu (by omega)
    | succ n ih =>
      intro i z h H locs ls hmu hi ez eh hM hW hS hl
      have ih_4 := ih
      refine lv_iload_n hx hb dX1_code_4 rfl (lv_at hl 2 rfl) ?_
      refine lv_aload_n hx hb dX1_code_5 rfl (lv_at hl 0 rfl) ?_
      refine g_get (ci := 1) (C := RX1) (T := TX1) (N := 7) (v := .int (J (I 0))) hx hb hfX1 (fun _ h9 => h9) hown hk hW hM.1 rfl 0 (by decide) (hts (.fieldLink RX1 9 "JugsAndGlasses$Jugs" "number" "I") (by decide +kernel)) rfl rfl dX1_code_6 ?_
      refine j_icmp_ge (x := i) (y := I 0) (tgt := 39) hx hb ⟨by omega, by omega⟩ ⟨by omega, by omega⟩ dX1_code_9 (by decide) (fun c_9 => ?_) (fun c_9 => ?_)
      · refine lv_iload_n hx hb dX1_code_39 rfl (lv_at hl 1 rfl) ?_
        exact g_iret hx hb hr hW hS dX1_code_40 hlocks (⟨congrArg (fun q : Int => some (Value.int (J q))) (show z = sT (fun j => A 5 j * A 6 j) (I 0) from by rw [ez]; congr 1; omega), eh⟩)
      · refine lv_iload_n hx hb dX1_code_12 rfl (lv_at hl 2 rfl) ?_
        refine lv_iconst (v := J (4)) hx hb dX1_code_13 rfl ?_
        refine j_icmp_ge (x := i) (y := 4) (tgt := 39) hx hb ⟨by omega, by omega⟩ ⟨by decide, by decide⟩ dX1_code_14 (by decide) (fun c_14 => ?_) (fun c_14 => ?_)
        · exfalso
          omega
        · refine lv_iload_n hx hb dX1_code_17 rfl (lv_at hl 1 rfl) ?_
          refine lv_aload_n hx hb dX1_code_18 rfl (lv_at hl 0 rfl) ?_
          refine g_get (ci := 1) (C := RX1) (T := TX1) (N := 7) (v := .ref (R 5)) hx hb hfX1 (fun _ h9 => h9) hown hk hW hM.1 rfl 5 (by decide) (hts (.fieldLink RX1 29 "JugsAndGlasses$Jugs" "held" "[I") (by decide +kernel)) rfl rfl dX1_code_19 ?_
          refine lv_iload_n hx hb dX1_code_22 rfl (lv_at hl 2 rfl) ?_
          refine g_iald (n := 4) (f := A 5) (i := i) hx hb hk hW (hM.ai 5 (by decide) rfl) (by omega) (by omega) (by omega) dX1_code_23 ?_
          refine lv_aload_n hx hb dX1_code_24 rfl (lv_at hl 0 rfl) ?_
          refine g_get (ci := 1) (C := RX1) (T := TX1) (N := 7) (v := .ref (R 6)) hx hb hfX1 (fun _ h9 => h9) hown hk hW hM.1 rfl 6 (by decide) (hts (.fieldLink RX1 32 "JugsAndGlasses$Jugs" "weight" "[I") (by decide +kernel)) rfl rfl dX1_code_25 ?_
          refine lv_iload_n hx hb dX1_code_28 rfl (lv_at hl 2 rfl) ?_
          refine g_iald (n := 4) (f := A 6) (i := i) hx hb hk hW (hM.ai 6 (by decide) rfl) (by omega) (by omega) (by omega) dX1_code_29 ?_
          refine j_imul hx hb dX1_code_30 ?_
          refine j_iadd hx hb dX1_code_31 ?_
          refine lv_istore_n (lv' := [(1, .int (J (z + ((A 5 i) * (A 6 i))))), (0, .ref o), (2, .int (J i))]) hx hb dX1_code_32 rfl hl (by decide) rfl (fun ls hl => ?_)
          refine lv_iinc (v := J (i + 1)) (lv' := [(2, .int (J (i + 1))), (1, .int (J (z + ((A 5 i) * (A 6 i))))), (0, .ref o)]) hx hb dX1_code_33 hl (k := 2) rfl (J_inc (by omega)) (by decide) rfl (fun ls hl => ?_)
          refine lv_goto (tgt := 4) hx hb dX1_code_36 (by decide) ?_
          exact ih_4 (i + 1) (z + ((A 5 i) * (A 6 i))) h H locs ls (by omega) (by omega) (by rw [sT_s _ hi.1, ez]) eh hM hW hS (lv_sub hl [2, 1, 0] rfl)
  exact loop_4 ((I 0).toNat + 1) 0 0 h0 s.heap [] ls (by omega) (by omega) rfl rfl hM hW hS (lv_sub hl [2, 1, 0] rfl)

set_option maxHeartbeats 4000000 in
set_option maxRecDepth 100000 in
theorem k_stand (l : Launch) (g : GX) (base : Nat) (sa : Nat → Nat) (h0 : Hp) (o : Nat) (R : Nat → Nat) (I : Nat → Int) (A : Nat → Int → Int) (x : Int) (hM : OB g 1 7 kd1 h0 o R I L4 A) (ha : 0 ≤ x ∧ x < 2147483648) (hn : 0 ≤ I 0 ∧ I 0 ≤ 4) (hs : ∀ i, 0 ≤ i → i < I 0 → 1 ≤ A 4 i ∧ A 4 i ≤ 10) : MC l g base sa yX1_stand wsX1_stand ({ frames := 0, cells := 0, slots := 0, locals := 0 }) ([.ref o, .int (J x)]) h0 (fun r h' => r = none ∧ OB g 1 7 kd1 h' o R I L4 (va_up A 5 (p_stand (I 0) (A 4) (A 5) x)) ∧ Fr (FP 7 kd1 o R) h0 h') := by
  refine Met.ofW (cc := cX1_stand) (maxL := 5) (ret := none) (by decide) rfl ?_
  intro p e s m args below meth c s₁ B hml hv
  obtain ⟨rfl, hk, hW⟩ := hv
  have hx := B.exec
  have hb := B.bytes
  have hr := B.returns
  have hts := atoms_spec (ws := wsX1_stand) B.pre
  have hown : s.vm.findClass RX1 = some m.cls := findClass_of_methodNamed B.named
  have hlocks := B.notSynchronized
  have hfX1 : ∀ w ∈ wsX10, w.before ([.ref o, .int (J x)]).toArray s = true := fun w h => hts w (List.mem_cons_of_mem _ (List.mem_append_right _ h))
  have hS : va_S (Ab base) s.heap s.heap [] := va_S.rf
  have hl := lv_entry ([.ref o, .int (J x)]) (n := 5) (Nat.le_of_ble_eq_true rfl)
  rw [lg_entry_eq]
  generalize (lg_sl ([.ref o, .int (J x)]) ++ List.replicate (5 - (lg_sl ([.ref o, .int (J x)])).length) Slot.unset).toArray = ls at hl ⊢
  have hl : lv_has ls 5 [(0, .ref o), (1, .int (J x))] := hl
  have hF : Fr (FP 7 kd1 o R) h0 h0 := Fr.rf
  refine lv_iload_n hx hb dX1_stand_0 rfl (lv_at hl 1 rfl) ?_
  refine lv_istore_n (lv' := [(2, .int (J x)), (0, .ref o), (1, .int (J x))]) hx hb dX1_stand_1 rfl hl (by decide) rfl (fun ls hl => ?_)
  refine lv_iconst (v := J (0)) hx hb dX1_stand_2 rfl ?_
  refine lv_istore_n (lv' := [(3, .int (J 0)), (2, .int (J x)), (0, .ref o), (1, .int (J x))]) hx hb dX1_stand_3 rfl hl (by decide) rfl (fun ls hl => ?_)
  have loop_4 : ∀ (n : Nat) (i : Int) (f : Int → Int) (z : Int) (h : Hp) (H : Heap) (locs : List Loc) (ls : Array Slot), I 0 - i < (n : Int) → 0 ≤ i ∧ i ≤ I 0 → f = p_stand i (A 4) (A 5) x → z = rT (A 4) x i → 0 ≤ z ∧ z < 2147483648 → OB g 1 7 kd1 h o R I L4 (va_up A 5 (f)) → Fr (FP 7 kd1 o R) h0 h → Wd g base h H → va_S (Ab base) s.heap H locs → lv_has ls 5 [(0, .ref o), (1, .int (J x)), (2, .int (J z)), (3, .int (J i))] → W p l e (headSpec wsX1_stand ({ frames := 0, cells := 0, slots := 0, locals := 0 })).room s m ([.ref o, .int (J x)]).toArray below meth c H locs 0 0 (MQ below (QcM g base (fun r h' => r = none ∧ OB g 1 7 kd1 h' o R I L4 (va_up A 5 (p_stand (I 0) (A 4) (A 5) x)) ∧ Fr (FP 7 kd1 o R) h0 h')) ([.ref o, .int (J x)]).toArray s (0) (0) (Ab base)) (F0 m 4 ls []) := by
    intro n
    induction n with
    | zero =>
      intro i f z h H locs ls hmu hi ef ez hz hM hF hW hS hl
      exact absurd hmu (by omega)
    | succ n ih =>
      intro i f z h H locs ls hmu hi ef ez hz hM hF hW hS hl
      have ih_4 := ih
      refine lv_iload_n hx hb dX1_stand_4 rfl (lv_at hl 3 rfl) ?_
      refine lv_aload_n hx hb dX1_stand_5 rfl (lv_at hl 0 rfl) ?_
      refine g_get (ci := 1) (C := RX1) (T := TX1) (N := 7) (v := .int (J (I 0))) hx hb hfX1 (fun _ h9 => h9) hown hk hW hM.1 rfl 0 (by decide) (hts (.fieldLink RX1 9 "JugsAndGlasses$Jugs" "number" "I") (by decide +kernel)) rfl rfl dX1_stand_6 ?_
      refine j_icmp_ge (x := i) (y := I 0) (tgt := 54) hx hb ⟨by omega, by omega⟩ ⟨by omega, by omega⟩ dX1_stand_9 (by decide) (fun c_9 => ?_) (fun c_9 => ?_)
      · exact g_vret hx hb hr hW hS dX1_stand_54 hlocks (⟨rfl, by have e9 : i = I 0 := (by omega); rw [← e9, ← ef]; exact hM, hF⟩)
      · refine lv_iload_n hx hb dX1_stand_12 rfl (lv_at hl 3 rfl) ?_
        refine lv_iconst (v := J (4)) hx hb dX1_stand_13 rfl ?_
        refine j_icmp_ge (x := i) (y := 4) (tgt := 54) hx hb ⟨by omega, by omega⟩ ⟨by decide, by decide⟩ dX1_stand_14 (by decide) (fun c_14 => ?_) (fun c_14 => ?_)
        · exfalso
          omega
        · have hsi := hs i hi.1 (by omega)
          refine lv_aload_n hx hb dX1_stand_17 rfl (lv_at hl 0 rfl) ?_
          refine g_get (ci := 1) (C := RX1) (T := TX1) (N := 7) (v := .ref (R 4)) hx hb hfX1 (fun _ h9 => h9) hown hk hW hM.1 rfl 4 (by decide) (hts (.fieldLink RX1 25 "JugsAndGlasses$Jugs" "size" "[I") (by decide +kernel)) rfl rfl dX1_stand_18 ?_
          refine lv_iload_n hx hb dX1_stand_21 rfl (lv_at hl 3 rfl) ?_
          refine g_iald (n := 4) (f := A 4) (i := i) hx hb hk hW (hM.ai 4 (by decide) rfl) (by omega) (by omega) (by omega) dX1_stand_22 ?_
          refine lv_iconst (v := J (1)) hx hb dX1_stand_23 rfl ?_
          refine j_iadd hx hb dX1_stand_24 ?_
          refine lv_istore (lv' := [(4, .int (J ((A 4 i) + 1))), (0, .ref o), (1, .int (J x)), (2, .int (J z)), (3, .int (J i))]) hx hb dX1_stand_25 hl (by decide) rfl (fun ls hl => ?_)
          refine lv_iload hx hb dX1_stand_27 (lv_at hl 0 rfl) ?_
          refine lv_iconst (v := J (1)) hx hb dX1_stand_29 rfl ?_
          refine j_icmp_le (x := (A 4 i) + 1) (y := 1) (tgt := 48) hx hb ⟨by omega, by omega⟩ ⟨by decide, by decide⟩ dX1_stand_30 (by decide) (fun c_30 => ?_) (fun c_30 => ?_)
          · exfalso
            omega
          · refine lv_aload_n hx hb dX1_stand_33 rfl (lv_at hl 1 rfl) ?_
            refine g_get (ci := 1) (C := RX1) (T := TX1) (N := 7) (v := .ref (R 5)) hx hb hfX1 (fun _ h9 => h9) hown hk hW hM.1 rfl 5 (by decide) (hts (.fieldLink RX1 29 "JugsAndGlasses$Jugs" "held" "[I") (by decide +kernel)) rfl rfl dX1_stand_34 ?_
            refine lv_iload_n hx hb dX1_stand_37 rfl (lv_at hl 4 rfl) ?_
            refine lv_iload_n hx hb dX1_stand_38 rfl (lv_at hl 3 rfl) ?_
            refine lv_iload hx hb dX1_stand_39 (lv_at hl 0 rfl) ?_
            refine j_irem hx hb (by omega) (by omega) (by omega) (by omega) dX1_stand_41 ?_
            refine o_iast (A' := (va_up A 5 (uf f i (z % ((A 4 i) + 1))))) (i := i) (x := z % ((A 4 i) + 1)) hx hb hk hW hS hM hF 5 (by decide) rfl (FP.a 5 (by decide) ⟨by decide, by decide⟩) (by omega) (show i < 4 from by omega) (show 4 < 2147483648 from by omega) (bx_uu _ _ _ _) dX1_stand_42 (fun h H locs hM hF hst hW hS => ?_)
            refine lv_iload_n hx hb dX1_stand_43 rfl (lv_at hl 3 rfl) ?_
            refine lv_iload hx hb dX1_stand_44 (lv_at hl 0 rfl) ?_
            refine j_idiv hx hb (by omega) (by omega) (by omega) (by omega) dX1_stand_46 ?_
            refine lv_istore_n (lv' := [(2, .int (J (z / ((A 4 i) + 1)))), (4, .int (J ((A 4 i) + 1))), (0, .ref o), (1, .int (J x)), (3, .int (J i))]) hx hb dX1_stand_47 rfl hl (by decide) rfl (fun ls hl => ?_)
            refine lv_iinc (v := J (i + 1)) (lv' := [(3, .int (J (i + 1))), (2, .int (J (z / ((A 4 i) + 1)))), (4, .int (J ((A 4 i) + 1))), (0, .ref o), (1, .int (J x))]) hx hb dX1_stand_48 hl (k := 4) rfl (J_inc (by omega)) (by decide) rfl (fun ls hl => ?_)
            refine lv_goto (tgt := 4) hx hb dX1_stand_51 (by decide) ?_
            exact ih_4 (i + 1) (uf f i (z % ((A 4 i) + 1))) (z / (A 4 i + 1)) h H locs ls (by omega) (by omega) (by rw [ef, ez, p_stand_s _ _ _ hi.1]) (by rw [rT_s _ _ hi.1, ez]) (div_rng hz.1 hz.2 (by omega)) hM hF hW hS (lv_sub hl [3, 4, 1, 0] rfl)
  exact loop_4 ((I 0).toNat + 1) 0 (A 5) x h0 s.heap [] ls (by omega) (by omega) (by unfold p_stand; funext j; rw [if_neg (by omega)]) rfl ha (by rw [va_up_id]; exact hM) hF hW hS (lv_sub hl [2, 3, 1, 0] rfl)

set_option maxHeartbeats 4000000 in
set_option maxRecDepth 100000 in
theorem k_meet (l : Launch) (g : GX) (base : Nat) (sa : Nat → Nat) (h0 : Hp) (o : Nat) (R : Nat → Nat) (I : Nat → Int) (A : Nat → Int → Int) (a v : Int) (hM : OB g 1 7 kd1 h0 o R I L4 A) (ha : i32 a) (hv : i32 v) (hn : 0 ≤ I 0 ∧ I 0 ≤ 4) (hh : ∀ i, 0 ≤ i → i < I 0 → 0 ≤ A 5 i ∧ A 5 i ≤ 10) : MC l g base sa yX1_meet wsX1_meet ({ frames := 1, cells := 0, slots := 0, locals := 21 }) ([.ref o, .int (J a), .int (J v)]) h0 (fun r h' => r = some (.int (J (p_meet (I 0) (A 5) a v))) ∧ h' = h0) := by
  refine Met.ofW (cc := cX1_meet) (maxL := 4) (ret := (some .boolean)) (by decide) rfl ?_
  intro p e s m args below meth c s₁ B hml hv
  obtain ⟨rfl, hk, hW⟩ := hv
  have hx := B.exec
  have hb := B.bytes
  have hr := B.returns
  have hts := atoms_spec (ws := wsX1_meet) B.pre
  have hown : s.vm.findClass RX1 = some m.cls := findClass_of_methodNamed B.named
  have hlocks := B.notSynchronized
  have hfX1 : ∀ w ∈ wsX10, w.before ([.ref o, .int (J a), .int (J v)]).toArray s = true := fun w h => hts w (List.mem_cons_of_mem _ (List.mem_append_right _ h))
  have hS : va_S (Ab base) s.heap s.heap [] := va_S.rf
  have hl := lv_entry ([.ref o, .int (J a), .int (J v)]) (n := 4) (Nat.le_of_ble_eq_true rfl)
  rw [lg_entry_eq]
  generalize (lg_sl ([.ref o, .int (J a), .int (J v)]) ++ List.replicate (4 - (lg_sl ([.ref o, .int (J a), .int (J v)])).length) Slot.unset).toArray = ls at hl ⊢
  have hl : lv_has ls 4 [(0, .ref o), (1, .int (J a)), (2, .int (J v))] := hl
  obtain ⟨ha1, ha2⟩ := ha
  obtain ⟨hv1, hv2⟩ := hv
  refine lv_iload_n hx hb dX1_meet_0 rfl (lv_at hl 1 rfl) ?_
  refine j_if_lt (x := a) (tgt := 28) hx hb ⟨by omega, by omega⟩ dX1_meet_1 (by decide) (fun c_1 => ?_) (fun c_1 => ?_)
  · refine lv_iconst (v := J (0)) hx hb dX1_meet_28 rfl ?_
    refine lv_istore_n (lv' := [(3, .int (J 0)), (0, .ref o), (1, .int (J a)), (2, .int (J v))]) hx hb dX1_meet_29 rfl hl (by decide) rfl (fun ls hl => ?_)
    have loop_30 : ∀ (n : Nat) (j : Int) (h : Hp) (H : Heap) (locs : List Loc) (ls : Array Slot), I 0 - j < (n : Int) → 0 ≤ j ∧ j ≤ I 0 → p_any (A 5) v j.toNat = false → h = h0 → OB g 1 7 kd1 h o R I L4 A → Wd g base h H → va_S (Ab base) s.heap H locs → lv_has ls 4 [(0, .ref o), (1, .int (J a)), (2, .int (J v)), (3, .int (J j))] → W p l e (headSpec wsX1_meet ({ frames := 1, cells := 0, slots := 0, locals := 21 })).room s m ([.ref o, .int (J a), .int (J v)]).toArray below meth c H locs 0 0 (MQ below (QcM g base (fun r h' => r = some (.int (J (p_meet (I 0) (A 5) a v))) ∧ h' = h0)) ([.ref o, .int (J a), .int (J v)]).toArray s (0) (0) (Ab base)) (F0 m 30 ls []) := by
      intro n
      induction n with
      | zero =>
        intro j h H locs ls hmu hi ez eh hM hW hS hl
        exact absurd hmu (by omega)
      | succ n ih =>
        intro j h H locs ls hmu hi ez eh hM hW hS hl
        have ih_30 := ih
        refine lv_iload_n hx hb dX1_meet_30 rfl (lv_at hl 3 rfl) ?_
        refine lv_aload_n hx hb dX1_meet_31 rfl (lv_at hl 0 rfl) ?_
        refine g_get (ci := 1) (C := RX1) (T := TX1) (N := 7) (v := .int (J (I 0))) hx hb hfX1 (fun _ h9 => h9) hown hk hW hM.1 rfl 0 (by decide) (hts (.fieldLink RX1 9 "JugsAndGlasses$Jugs" "number" "I") (by decide +kernel)) rfl rfl dX1_meet_32 ?_
        refine j_icmp_ge (x := j) (y := I 0) (tgt := 61) hx hb ⟨by omega, by omega⟩ ⟨by omega, by omega⟩ dX1_meet_35 (by decide) (fun c_35 => ?_) (fun c_35 => ?_)
        · refine lv_iconst (v := J (0)) hx hb dX1_meet_61 rfl ?_
          exact g_zret hx hb hr (by omega) hW hS dX1_meet_62 hlocks (⟨congrArg (fun z : Int => some (Value.int (J z))) (show 0 = p_meet (I 0) (A 5) a v from by unfold p_meet; have e9 : j = I 0 := (by omega); rw [← e9, if_neg (by omega), ez]; rfl), eh⟩)
        · refine lv_iload_n hx hb dX1_meet_38 rfl (lv_at hl 3 rfl) ?_
          refine lv_iconst (v := J (4)) hx hb dX1_meet_39 rfl ?_
          refine j_icmp_ge (x := j) (y := 4) (tgt := 61) hx hb ⟨by omega, by omega⟩ ⟨by decide, by decide⟩ dX1_meet_40 (by decide) (fun c_40 => ?_) (fun c_40 => ?_)
          · exfalso
            omega
          · have hq2 := hh j hi.1 (by omega)
            refine lv_aload_n hx hb dX1_meet_43 rfl (lv_at hl 0 rfl) ?_
            refine g_get (ci := 1) (C := RX1) (T := TX1) (N := 7) (v := .ref (R 5)) hx hb hfX1 (fun _ h9 => h9) hown hk hW hM.1 rfl 5 (by decide) (hts (.fieldLink RX1 29 "JugsAndGlasses$Jugs" "held" "[I") (by decide +kernel)) rfl rfl dX1_meet_44 ?_
            refine lv_iload_n hx hb dX1_meet_47 rfl (lv_at hl 3 rfl) ?_
            refine g_iald (n := 4) (f := A 5) (i := j) hx hb hk hW (hM.ai 5 (by decide) rfl) (by omega) (by omega) (by omega) dX1_meet_48 ?_
            refine lv_iload_n hx hb dX1_meet_49 rfl (lv_at hl 2 rfl) ?_
            refine j_icmp_ne (x := A 5 j) (y := v) (tgt := 55) hx hb ⟨by omega, by omega⟩ ⟨by omega, by omega⟩ dX1_meet_50 (by decide) (fun c_50 => ?_) (fun c_50 => ?_)
            · refine lv_iinc (v := J (j + 1)) (lv' := [(3, .int (J (j + 1))), (0, .ref o), (1, .int (J a)), (2, .int (J v))]) hx hb dX1_meet_55 hl (k := 3) rfl (J_inc (by omega)) (by decide) rfl (fun ls hl => ?_)
              refine lv_goto (tgt := 30) hx hb dX1_meet_58 (by decide) ?_
              exact ih_30 (j + 1) h H locs ls (by omega) (by omega) (by rw [p_any_s _ _ hi.1, ez]; simp [c_50]) eh hM hW hS (lv_sub hl [1, 2, 3, 0] rfl)
            · refine lv_iconst (v := J (1)) hx hb dX1_meet_53 rfl ?_
              exact g_zret hx hb hr (by omega) hW hS dX1_meet_54 hlocks (⟨congrArg (fun z : Int => some (Value.int (J z))) (show 1 = p_meet (I 0) (A 5) a v from by unfold p_meet; rw [if_neg (by omega), if_pos (p_any_mono _ _ (show (j + 1).toNat ≤ (I 0).toNat by omega) (by rw [p_any_s _ _ hi.1]; simp [c_50]))]), eh⟩)
    exact loop_30 ((I 0).toNat + 1) 0 h0 s.heap [] ls (by omega) (by omega) rfl rfl hM hW hS (lv_sub hl [1, 2, 3, 0] rfl)
  · refine lv_aload_n hx hb dX1_meet_4 rfl (lv_at hl 0 rfl) ?_
    refine lv_iload_n hx hb dX1_meet_5 rfl (lv_at hl 1 rfl) ?_
    refine g_callV (As := [.int (J a)]) (rest := []) (b := o) (ci := 1) (C := RX1) (T := TX1) (N := 7) ⟨hx, hb, hml, hown, hts⟩ (k_has l g base sa h0 o R I A a hM ⟨by omega, by omega⟩ hn) (cwV 1 hts gX1_meet_X1_has rfl rfl rfl (by decide +kernel) ⟨Nat.le_of_ble_eq_true rfl, Nat.le_of_ble_eq_true rfl⟩) hk hW hS hM.1 rfl rfl hl.1 (Nat.le_of_ble_eq_true rfl) dX1_meet_6 ⟨Nat.le_of_ble_eq_true rfl, Nat.le_of_ble_eq_true rfl⟩ (fun r9 h9 H locs hp hW hS => ?_)
    obtain ⟨rfl, e9⟩ := hp
    rw [e9] at hW
    refine W.eq (g2 := F0 m 9 ls [.int (J (p_has (I 0) a))]) rfl ?_
    have hph := p_has_r (I 0) a
    refine j_if_eq (x := p_has (I 0) a) (tgt := 26) hx hb ⟨by omega, by omega⟩ dX1_meet_9 (by decide) (fun c_9 => ?_) (fun c_9 => ?_)
    · refine lv_iconst (v := J (0)) hx hb dX1_meet_26 rfl ?_
      exact g_zret hx hb hr (by omega) hW hS dX1_meet_27 hlocks (⟨congrArg (fun z : Int => some (Value.int (J z))) (show 0 = p_meet (I 0) (A 5) a v from by unfold p_meet; rw [if_pos (by omega)]; split <;> first | omega | (have := p_has_0 c_9; omega)), rfl⟩)
    · have hq := p_has_1 c_9
      have hq2 := hh a (by omega) (by omega)
      refine lv_aload_n hx hb dX1_meet_12 rfl (lv_at hl 0 rfl) ?_
      refine g_get (ci := 1) (C := RX1) (T := TX1) (N := 7) (v := .ref (R 5)) hx hb hfX1 (fun _ h9 => h9) hown hk hW hM.1 rfl 5 (by decide) (hts (.fieldLink RX1 29 "JugsAndGlasses$Jugs" "held" "[I") (by decide +kernel)) rfl rfl dX1_meet_13 ?_
      refine lv_iload_n hx hb dX1_meet_16 rfl (lv_at hl 1 rfl) ?_
      refine g_iald (n := 4) (f := A 5) (i := a) hx hb hk hW (hM.ai 5 (by decide) rfl) (by omega) (by omega) (by omega) dX1_meet_17 ?_
      refine lv_iload_n hx hb dX1_meet_18 rfl (lv_at hl 2 rfl) ?_
      refine j_icmp_ne (x := A 5 a) (y := v) (tgt := 26) hx hb ⟨by omega, by omega⟩ ⟨by omega, by omega⟩ dX1_meet_19 (by decide) (fun c_19 => ?_) (fun c_19 => ?_)
      · refine lv_iconst (v := J (0)) hx hb dX1_meet_26 rfl ?_
        exact g_zret hx hb hr (by omega) hW hS dX1_meet_27 hlocks (⟨congrArg (fun z : Int => some (Value.int (J z))) (show 0 = p_meet (I 0) (A 5) a v from by unfold p_meet; rw [if_pos (by omega)]; split <;> first | omega | (have := p_has_0 c_9; omega)), rfl⟩)
      · refine lv_iconst (v := J (1)) hx hb dX1_meet_22 rfl ?_
        refine lv_goto (tgt := 27) hx hb dX1_meet_23 (by decide) ?_
        exact g_zret hx hb hr (by omega) hW hS dX1_meet_27 hlocks (⟨congrArg (fun z : Int => some (Value.int (J z))) (show 1 = p_meet (I 0) (A 5) a v from by unfold p_meet; rw [if_pos (by omega)]; split <;> first | omega | (have := p_has_0 c_9; omega)), rfl⟩)

set_option maxHeartbeats 4000000 in
set_option maxRecDepth 100000 in
theorem k_spiltBy (l : Launch) (g : GX) (base : Nat) (sa : Nat → Nat) (h0 : Hp) (o : Nat) (R : Nat → Nat) (I : Nat → Int) (A : Nat → Int → Int) (a : Int) (hM : OB g 1 7 kd1 h0 o R I L4 A) (ha : i32 a) : MC l g base sa yX1_spiltBy wsX1_spiltBy ({ frames := 0, cells := 0, slots := 0, locals := 0 }) ([.ref o, .int (J a)]) h0 (fun r h' => r = some (.int (J (p_spilt (A 5) a))) ∧ h' = h0) := by
  refine Met.ofW (cc := cX1_spiltBy) (maxL := 2) (ret := (some .int)) (by decide) rfl ?_
  intro p e s m args below meth c s₁ B hml hv
  obtain ⟨rfl, hk, hW⟩ := hv
  have hx := B.exec
  have hb := B.bytes
  have hr := B.returns
  have hts := atoms_spec (ws := wsX1_spiltBy) B.pre
  have hown : s.vm.findClass RX1 = some m.cls := findClass_of_methodNamed B.named
  have hlocks := B.notSynchronized
  have hfX1 : ∀ w ∈ wsX10, w.before ([.ref o, .int (J a)]).toArray s = true := fun w h => hts w (List.mem_cons_of_mem _ (List.mem_append_right _ h))
  have hS : va_S (Ab base) s.heap s.heap [] := va_S.rf
  have hl := lv_entry ([.ref o, .int (J a)]) (n := 2) (Nat.le_of_ble_eq_true rfl)
  rw [lg_entry_eq]
  generalize (lg_sl ([.ref o, .int (J a)]) ++ List.replicate (2 - (lg_sl ([.ref o, .int (J a)])).length) Slot.unset).toArray = ls at hl ⊢
  have hl : lv_has ls 2 [(0, .ref o), (1, .int (J a))] := hl
  obtain ⟨ha1, ha2⟩ := ha
  have hg := k_giver_r a
  have ht := k_taker_r a
  refine lv_iload_n hx hb dX1_spiltBy_0 rfl (lv_at hl 1 rfl) ?_
  refine j_if_lt (x := a) (tgt := 39) hx hb ⟨by omega, by omega⟩ dX1_spiltBy_1 (by decide) (fun c_1 => ?_) (fun c_1 => ?_)
  · refine lv_iconst (v := J (0)) hx hb dX1_spiltBy_39 rfl ?_
    exact g_iret hx hb hr hW hS dX1_spiltBy_40 hlocks (⟨congrArg (fun z : Int => some (Value.int (J z))) (show 0 = p_spilt (A 5) a from by unfold p_spilt; (repeat' split) <;> omega), rfl⟩)
  · refine lv_iload_n hx hb dX1_spiltBy_4 rfl (lv_at hl 1 rfl) ?_
    refine lv_bipush (v := J (24)) hx hb dX1_spiltBy_5 (by decide) ?_
    refine j_icmp_ge (x := a) (y := 24) (tgt := 39) hx hb ⟨by omega, by omega⟩ ⟨by decide, by decide⟩ dX1_spiltBy_7 (by decide) (fun c_7 => ?_) (fun c_7 => ?_)
    · refine lv_iconst (v := J (0)) hx hb dX1_spiltBy_39 rfl ?_
      exact g_iret hx hb hr hW hS dX1_spiltBy_40 hlocks (⟨congrArg (fun z : Int => some (Value.int (J z))) (show 0 = p_spilt (A 5) a from by unfold p_spilt; (repeat' split) <;> omega), rfl⟩)
    · refine g_statN hx hb hk.2.2.2.1 hS hown (va_Nw.use rfl hk.2.2.2.2.2.2.2.2.2.2.2.2.2) dX1_spiltBy_10 ?_
      refine lv_iload_n hx hb dX1_spiltBy_13 rfl (lv_at hl 1 rfl) ?_
      refine g_sald hx hb hk.2.2.2.1 hS (by omega) (by omega) (by decide) dX1_spiltBy_14 ?_
      refine j_if_ge (x := k_taker a) (tgt := 39) hx hb ⟨by omega, by omega⟩ dX1_spiltBy_15 (by decide) (fun c_15 => ?_) (fun c_15 => ?_)
      · refine lv_iconst (v := J (0)) hx hb dX1_spiltBy_39 rfl ?_
        exact g_iret hx hb hr hW hS dX1_spiltBy_40 hlocks (⟨congrArg (fun z : Int => some (Value.int (J z))) (show 0 = p_spilt (A 5) a from by unfold p_spilt; (repeat' split) <;> omega), rfl⟩)
      · refine g_statN hx hb hk.2.2.1 hS hown (va_Nw.use rfl hk.2.2.2.2.2.2.2.2.2.2.2.2.1) dX1_spiltBy_18 ?_
        refine lv_iload_n hx hb dX1_spiltBy_21 rfl (lv_at hl 1 rfl) ?_
        refine g_sald hx hb hk.2.2.1 hS (by omega) (by omega) (by decide) dX1_spiltBy_22 ?_
        refine j_if_lt (x := k_giver a) (tgt := 39) hx hb ⟨by omega, by omega⟩ dX1_spiltBy_23 (by decide) (fun c_23 => ?_) (fun c_23 => ?_)
        · refine lv_iconst (v := J (0)) hx hb dX1_spiltBy_39 rfl ?_
          exact g_iret hx hb hr hW hS dX1_spiltBy_40 hlocks (⟨congrArg (fun z : Int => some (Value.int (J z))) (show 0 = p_spilt (A 5) a from by unfold p_spilt; (repeat' split) <;> omega), rfl⟩)
        · refine lv_aload_n hx hb dX1_spiltBy_26 rfl (lv_at hl 0 rfl) ?_
          refine g_get (ci := 1) (C := RX1) (T := TX1) (N := 7) (v := .ref (R 5)) hx hb hfX1 (fun _ h9 => h9) hown hk hW hM.1 rfl 5 (by decide) (hts (.fieldLink RX1 29 "JugsAndGlasses$Jugs" "held" "[I") (by decide +kernel)) rfl rfl dX1_spiltBy_27 ?_
          refine g_statN hx hb hk.2.2.1 hS hown (va_Nw.use rfl hk.2.2.2.2.2.2.2.2.2.2.2.2.1) dX1_spiltBy_30 ?_
          refine lv_iload_n hx hb dX1_spiltBy_33 rfl (lv_at hl 1 rfl) ?_
          refine g_sald hx hb hk.2.2.1 hS (by omega) (by omega) (by decide) dX1_spiltBy_34 ?_
          refine g_iald (n := 4) (f := A 5) (i := k_giver a) hx hb hk hW (hM.ai 5 (by decide) rfl) (by omega) (by omega) (by omega) dX1_spiltBy_35 ?_
          refine lv_goto (tgt := 40) hx hb dX1_spiltBy_36 (by decide) ?_
          exact g_iret hx hb hr hW hS dX1_spiltBy_40 hlocks (⟨congrArg (fun z : Int => some (Value.int (J z))) (show A 5 (k_giver a) = p_spilt (A 5) a from by unfold p_spilt; (repeat' split) <;> omega), rfl⟩)

set_option maxHeartbeats 4000000 in
set_option maxRecDepth 100000 in
theorem k_shiftBy (l : Launch) (g : GX) (base : Nat) (sa : Nat → Nat) (h0 : Hp) (o : Nat) (R : Nat → Nat) (I : Nat → Int) (A : Nat → Int → Int) (a : Int) (hM : OB g 1 7 kd1 h0 o R I L4 A) (ha : i32 a) (hj : Jok I A) : MC l g base sa yX1_shiftBy wsX1_shiftBy ({ frames := 1, cells := 0, slots := 0, locals := 25 }) ([.ref o, .int (J a)]) h0 (fun r h' => r = some (.int (J (p_shift (I 0) (I 2) (I 3) (A 4) (A 5) (A 6) a))) ∧ h' = h0) := by
  refine Met.ofW (cc := cX1_shiftBy) (maxL := 5) (ret := (some .int)) (by decide) rfl ?_
  intro p e s m args below meth c s₁ B hml hv
  obtain ⟨rfl, hk, hW⟩ := hv
  have hx := B.exec
  have hb := B.bytes
  have hr := B.returns
  have hts := atoms_spec (ws := wsX1_shiftBy) B.pre
  have hown : s.vm.findClass RX1 = some m.cls := findClass_of_methodNamed B.named
  have hlocks := B.notSynchronized
  have hfX1 : ∀ w ∈ wsX10, w.before ([.ref o, .int (J a)]).toArray s = true := fun w h => hts w (List.mem_cons_of_mem _ (List.mem_append_right _ h))
  have hS : va_S (Ab base) s.heap s.heap [] := va_S.rf
  have hl := lv_entry ([.ref o, .int (J a)]) (n := 5) (Nat.le_of_ble_eq_true rfl)
  rw [lg_entry_eq]
  generalize (lg_sl ([.ref o, .int (J a)]) ++ List.replicate (5 - (lg_sl ([.ref o, .int (J a)])).length) Slot.unset).toArray = ls at hl ⊢
  have hl : lv_has ls 5 [(0, .ref o), (1, .int (J a))] := hl
  have hmr := p_mv_r hj a
  have hg := k_giver_r a
  have ht := k_taker_r a
  refine lv_aload_n hx hb dX1_shiftBy_0 rfl (lv_at hl 0 rfl) ?_
  refine lv_iload_n hx hb dX1_shiftBy_1 rfl (lv_at hl 1 rfl) ?_
  refine g_callV (As := [.int (J a)]) (rest := []) (b := o) (ci := 1) (C := RX1) (T := TX1) (N := 7) ⟨hx, hb, hml, hown, hts⟩ (k_moved l g base sa h0 o R I A a hM ha hj) (cwV 1 hts gX1_shiftBy_X1_moved rfl rfl rfl (by decide +kernel) ⟨Nat.le_of_ble_eq_true rfl, Nat.le_of_ble_eq_true rfl⟩) hk hW hS hM.1 rfl rfl hl.1 (Nat.le_of_ble_eq_true rfl) dX1_shiftBy_2 ⟨Nat.le_of_ble_eq_true rfl, Nat.le_of_ble_eq_true rfl⟩ (fun r9 h9 H locs hp hW hS => ?_)
  obtain ⟨rfl, e9⟩ := hp
  rw [e9] at hW
  refine W.eq (g2 := F0 m 5 ls [.int (J (p_mv (I 0) (I 2) (I 3) (A 4) (A 5) a))]) rfl ?_
  refine lv_istore_n (lv' := [(2, .int (J (p_mv (I 0) (I 2) (I 3) (A 4) (A 5) a))), (0, .ref o), (1, .int (J a))]) hx hb dX1_shiftBy_5 rfl hl (by decide) rfl (fun ls hl => ?_)
  refine lv_iload_n hx hb dX1_shiftBy_6 rfl (lv_at hl 0 rfl) ?_
  refine j_if_ne (x := p_mv (I 0) (I 2) (I 3) (A 4) (A 5) a) (tgt := 12) hx hb ⟨by omega, by omega⟩ dX1_shiftBy_7 (by decide) (fun c_7 => ?_) (fun c_7 => ?_)
  · have hq := p_mv_1 c_7
    have cut_34 : ∀ (t : Int) (ls : Array Slot), t = p_wt (A 6) (k_giver a) → lv_has ls 5 [(2, .int (J (p_mv (I 0) (I 2) (I 3) (A 4) (A 5) a))), (0, .ref o), (1, .int (J a))] → W p l e (headSpec wsX1_shiftBy ({ frames := 1, cells := 0, slots := 0, locals := 25 })).room s m ([.ref o, .int (J a)]).toArray below meth c H locs 0 0 (MQ below (QcM g base (fun r h' => r = some (.int (J (p_shift (I 0) (I 2) (I 3) (A 4) (A 5) (A 6) a))) ∧ h' = h0)) ([.ref o, .int (J a)]).toArray s (0) (0) (Ab base)) (F0 m 34 ls [.int (J t)]) := by
      intro t  ls et hl
      refine lv_istore_n (lv' := [(3, .int (J t)), (2, .int (J (p_mv (I 0) (I 2) (I 3) (A 4) (A 5) a))), (0, .ref o), (1, .int (J a))]) hx hb dX1_shiftBy_34 rfl hl (by decide) rfl (fun ls hl => ?_)
      have cut_57 : ∀ (u : Int) (ls : Array Slot), u = p_wt (A 6) (k_taker a) → lv_has ls 5 [(3, .int (J t)), (2, .int (J (p_mv (I 0) (I 2) (I 3) (A 4) (A 5) a))), (0, .ref o), (1, .int (J a))] → W p l e (headSpec wsX1_shiftBy ({ frames := 1, cells := 0, slots := 0, locals := 25 })).room s m ([.ref o, .int (J a)]).toArray below meth c H locs 0 0 (MQ below (QcM g base (fun r h' => r = some (.int (J (p_shift (I 0) (I 2) (I 3) (A 4) (A 5) (A 6) a))) ∧ h' = h0)) ([.ref o, .int (J a)]).toArray s (0) (0) (Ab base)) (F0 m 57 ls [.int (J u)]) := by
        intro u  ls et2 hl
        refine lv_istore (lv' := [(4, .int (J u)), (3, .int (J t)), (2, .int (J (p_mv (I 0) (I 2) (I 3) (A 4) (A 5) a))), (0, .ref o), (1, .int (J a))]) hx hb dX1_shiftBy_57 hl (by decide) rfl (fun ls hl => ?_)
        refine lv_iload_n hx hb dX1_shiftBy_59 rfl (lv_at hl 2 rfl) ?_
        refine lv_iload hx hb dX1_shiftBy_60 (lv_at hl 0 rfl) ?_
        refine lv_iload_n hx hb dX1_shiftBy_62 rfl (lv_at hl 1 rfl) ?_
        refine j_isub hx hb dX1_shiftBy_63 ?_
        refine j_imul hx hb dX1_shiftBy_64 ?_
        exact g_iret hx hb hr hW hS dX1_shiftBy_65 hlocks (⟨congrArg (fun z : Int => some (Value.int (J z))) (show (p_mv (I 0) (I 2) (I 3) (A 4) (A 5) a) * (u - t) = p_shift (I 0) (I 2) (I 3) (A 4) (A 5) (A 6) a from by unfold p_shift; rw [if_neg c_7, et, et2]), rfl⟩)
      refine g_statN hx hb hk.2.2.2.1 hS hown (va_Nw.use rfl hk.2.2.2.2.2.2.2.2.2.2.2.2.2) dX1_shiftBy_35 ?_
      refine lv_iload_n hx hb dX1_shiftBy_38 rfl (lv_at hl 3 rfl) ?_
      refine g_sald hx hb hk.2.2.2.1 hS (by omega) (by omega) (by decide) dX1_shiftBy_39 ?_
      refine j_if_lt (x := k_taker a) (tgt := 56) hx hb ⟨by omega, by omega⟩ dX1_shiftBy_40 (by decide) (fun c_40 => ?_) (fun c_40 => ?_)
      · refine lv_iconst (v := J (0)) hx hb dX1_shiftBy_56 rfl ?_
        exact cut_57 _  ls (by unfold p_wt; split <;> omega) (lv_sub hl [0, 1, 2, 3] rfl)
      · refine lv_aload_n hx hb dX1_shiftBy_43 rfl (lv_at hl 2 rfl) ?_
        refine g_get (ci := 1) (C := RX1) (T := TX1) (N := 7) (v := .ref (R 6)) hx hb hfX1 (fun _ h9 => h9) hown hk hW hM.1 rfl 6 (by decide) (hts (.fieldLink RX1 32 "JugsAndGlasses$Jugs" "weight" "[I") (by decide +kernel)) rfl rfl dX1_shiftBy_44 ?_
        refine g_statN hx hb hk.2.2.2.1 hS hown (va_Nw.use rfl hk.2.2.2.2.2.2.2.2.2.2.2.2.2) dX1_shiftBy_47 ?_
        refine lv_iload_n hx hb dX1_shiftBy_50 rfl (lv_at hl 3 rfl) ?_
        refine g_sald hx hb hk.2.2.2.1 hS (by omega) (by omega) (by decide) dX1_shiftBy_51 ?_
        refine g_iald (n := 4) (f := A 6) (i := k_taker a) hx hb hk hW (hM.ai 6 (by decide) rfl) (by omega) (by omega) (by omega) dX1_shiftBy_52 ?_
        refine lv_goto (tgt := 57) hx hb dX1_shiftBy_53 (by decide) ?_
        exact cut_57 _  ls (by unfold p_wt; split <;> omega) (lv_sub hl [0, 1, 2, 3] rfl)
    refine g_statN hx hb hk.2.2.1 hS hown (va_Nw.use rfl hk.2.2.2.2.2.2.2.2.2.2.2.2.1) dX1_shiftBy_12 ?_
    refine lv_iload_n hx hb dX1_shiftBy_15 rfl (lv_at hl 2 rfl) ?_
    refine g_sald hx hb hk.2.2.1 hS (by omega) (by omega) (by decide) dX1_shiftBy_16 ?_
    refine j_if_lt (x := k_giver a) (tgt := 33) hx hb ⟨by omega, by omega⟩ dX1_shiftBy_17 (by decide) (fun c_17 => ?_) (fun c_17 => ?_)
    · refine lv_iconst (v := J (0)) hx hb dX1_shiftBy_33 rfl ?_
      exact cut_34 _  ls (by unfold p_wt; split <;> omega) (lv_sub hl [0, 1, 2] rfl)
    · refine lv_aload_n hx hb dX1_shiftBy_20 rfl (lv_at hl 1 rfl) ?_
      refine g_get (ci := 1) (C := RX1) (T := TX1) (N := 7) (v := .ref (R 6)) hx hb hfX1 (fun _ h9 => h9) hown hk hW hM.1 rfl 6 (by decide) (hts (.fieldLink RX1 32 "JugsAndGlasses$Jugs" "weight" "[I") (by decide +kernel)) rfl rfl dX1_shiftBy_21 ?_
      refine g_statN hx hb hk.2.2.1 hS hown (va_Nw.use rfl hk.2.2.2.2.2.2.2.2.2.2.2.2.1) dX1_shiftBy_24 ?_
      refine lv_iload_n hx hb dX1_shiftBy_27 rfl (lv_at hl 2 rfl) ?_
      refine g_sald hx hb hk.2.2.1 hS (by omega) (by omega) (by decide) dX1_shiftBy_28 ?_
      refine g_iald (n := 4) (f := A 6) (i := k_giver a) hx hb hk hW (hM.ai 6 (by decide) rfl) (by omega) (by omega) (by omega) dX1_shiftBy_29 ?_
      refine lv_goto (tgt := 34) hx hb dX1_shiftBy_30 (by decide) ?_
      exact cut_34 _  ls (by unfold p_wt; split <;> omega) (lv_sub hl [0, 1, 2] rfl)
  · refine lv_iconst (v := J (0)) hx hb dX1_shiftBy_10 rfl ?_
    exact g_iret hx hb hr hW hS dX1_shiftBy_11 hlocks (⟨congrArg (fun z : Int => some (Value.int (J z))) (show 0 = p_shift (I 0) (I 2) (I 3) (A 4) (A 5) (A 6) a from by unfold p_shift; rw [if_pos c_7]), rfl⟩)

set_option maxHeartbeats 4000000 in
set_option maxRecDepth 100000 in
theorem k_heldTogether (l : Launch) (g : GX) (base : Nat) (sa : Nat → Nat) (h0 : Hp) (o : Nat) (R : Nat → Nat) (I : Nat → Int) (A : Nat → Int → Int) (hM : OB g 1 7 kd1 h0 o R I L4 A) (hn : 0 ≤ I 0 ∧ I 0 ≤ 4) : MC l g base sa yX1_heldTogether wsX1_heldTogether ({ frames := 0, cells := 0, slots := 0, locals := 0 }) ([.ref o]) h0 (fun r h' => r = some (.int (J (sT (A 5) (I 0)))) ∧ h' = h0) := by
  refine Met.ofW (cc := cX1_heldTogether) (maxL := 3) (ret := (some .int)) (by decide) rfl ?_
  intro p e s m args below meth c s₁ B hml hv
  obtain ⟨rfl, hk, hW⟩ := hv
  have hx := B.exec
  have hb := B.bytes
  have hr := B.returns
  have hts := atoms_spec (ws := wsX1_heldTogether) B.pre
  have hown : s.vm.findClass RX1 = some m.cls := findClass_of_methodNamed B.named
  have hlocks := B.notSynchronized
  have hfX1 : ∀ w ∈ wsX10, w.before ([.ref o]).toArray s = true := fun w h => hts w (List.mem_cons_of_mem _ (List.mem_append_right _ h))
  have hS : va_S (Ab base) s.heap s.heap [] := va_S.rf
  have hl := lv_entry ([.ref o]) (n := 3) (Nat.le_of_ble_eq_true rfl)
  rw [lg_entry_eq]
  generalize (lg_sl ([.ref o]) ++ List.replicate (3 - (lg_sl ([.ref o])).length) Slot.unset).toArray = ls at hl ⊢
  have hl : lv_has ls 3 [(0, .ref o)] := hl
  refine lv_iconst (v := J (0)) hx hb dX1_heldTogether_0 rfl ?_
  refine lv_istore_n (lv' := [(1, .int (J 0)), (0, .ref o)]) hx hb dX1_heldTogether_1 rfl hl (by decide) rfl (fun ls hl => ?_)
  refine lv_iconst (v := J (0)) hx hb dX1_heldTogether_2 rfl ?_
  refine lv_istore_n (lv' := [(2, .int (J 0)), (1, .int (J 0)), (0, .ref o)]) hx hb dX1_heldTogether_3 rfl hl (by decide) rfl (fun ls hl => ?_)
  have loop_4 : ∀ (n : Nat) (i : Int) (z : Int) (h : Hp) (H : Heap) (locs : List Loc) (ls : Array Slot), I 0 - i < (n : Int) → 0 ≤ i ∧ i ≤ I 0 → z = sT (A 5) i → h = h0 → OB g 1 7 kd1 h o R I L4 A → Wd g base h H → va_S (Ab base) s.heap H locs → lv_has ls 3 [(0, .ref o), (1, .int (J z)), (2, .int (J i))] → W p l e (headSpec wsX1_heldTogether ({ frames := 0, cells := 0, slots := 0, locals := 0 })).room s m ([.ref o]).toArray below meth c H locs 0 0 (MQ below (QcM g base (fun r h' => r = some (.int (J (sT (A 5) (I 0)))) ∧ h' = h0)) ([.ref o]).toArray s (0) (0) (Ab base)) (F0 m 4 ls []) := by
    intro n
    induction n with
    | zero =>
      intro i z h H locs ls hmu hi ez eh hM hW hS hl
      exact absurd hmu (by omega)
    | succ n ih =>
      intro i z h H locs ls hmu hi ez eh hM hW hS hl
      have ih_4 := ih
      refine lv_iload_n hx hb dX1_heldTogether_4 rfl (lv_at hl 2 rfl) ?_
      refine lv_aload_n hx hb dX1_heldTogether_5 rfl (lv_at hl 0 rfl) ?_
      refine g_get (ci := 1) (C := RX1) (T := TX1) (N := 7) (v := .int (J (I 0))) hx hb hfX1 (fun _ h9 => h9) hown hk hW hM.1 rfl 0 (by decide) (hts (.fieldLink RX1 9 "JugsAndGlasses$Jugs" "number" "I") (by decide +kernel)) rfl rfl dX1_heldTogether_6 ?_
      refine j_icmp_ge (x := i) (y := I 0) (tgt := 32) hx hb ⟨by omega, by omega⟩ ⟨by omega, by omega⟩ dX1_heldTogether_9 (by decide) (fun c_9 => ?_) (fun c_9 => ?_)
      · refine lv_iload_n hx hb dX1_heldTogether_32 rfl (lv_at hl 1 rfl) ?_
        exact g_iret hx hb hr hW hS dX1_heldTogether_33 hlocks (⟨congrArg (fun q : Int => some (Value.int (J q))) (show z = sT (A 5) (I 0) from by rw [ez]; congr 1; omega), eh⟩)
      · refine lv_iload_n hx hb dX1_heldTogether_12 rfl (lv_at hl 2 rfl) ?_
        refine lv_iconst (v := J (4)) hx hb dX1_heldTogether_13 rfl ?_
        refine j_icmp_ge (x := i) (y := 4) (tgt := 32) hx hb ⟨by omega, by omega⟩ ⟨by decide, by decide⟩ dX1_heldTogether_14 (by decide) (fun c_14 => ?_) (fun c_14 => ?_)
        · exfalso
          omega
        · refine lv_iload_n hx hb dX1_heldTogether_17 rfl (lv_at hl 1 rfl) ?_
          refine lv_aload_n hx hb dX1_heldTogether_18 rfl (lv_at hl 0 rfl) ?_
          refine g_get (ci := 1) (C := RX1) (T := TX1) (N := 7) (v := .ref (R 5)) hx hb hfX1 (fun _ h9 => h9) hown hk hW hM.1 rfl 5 (by decide) (hts (.fieldLink RX1 29 "JugsAndGlasses$Jugs" "held" "[I") (by decide +kernel)) rfl rfl dX1_heldTogether_19 ?_
          refine lv_iload_n hx hb dX1_heldTogether_22 rfl (lv_at hl 2 rfl) ?_
          refine g_iald (n := 4) (f := A 5) (i := i) hx hb hk hW (hM.ai 5 (by decide) rfl) (by omega) (by omega) (by omega) dX1_heldTogether_23 ?_
          refine j_iadd hx hb dX1_heldTogether_24 ?_
          refine lv_istore_n (lv' := [(1, .int (J (z + (A 5 i)))), (0, .ref o), (2, .int (J i))]) hx hb dX1_heldTogether_25 rfl hl (by decide) rfl (fun ls hl => ?_)
          refine lv_iinc (v := J (i + 1)) (lv' := [(2, .int (J (i + 1))), (1, .int (J (z + (A 5 i)))), (0, .ref o)]) hx hb dX1_heldTogether_26 hl (k := 2) rfl (J_inc (by omega)) (by decide) rfl (fun ls hl => ?_)
          refine lv_goto (tgt := 4) hx hb dX1_heldTogether_29 (by decide) ?_
          exact ih_4 (i + 1) (z + (A 5 i)) h H locs ls (by omega) (by omega) (by rw [sT_s _ hi.1, ez]) eh hM hW hS (lv_sub hl [2, 1, 0] rfl)
  exact loop_4 ((I 0).toNat + 1) 0 0 h0 s.heap [] ls (by omega) (by omega) rfl rfl hM hW hS (lv_sub hl [2, 1, 0] rfl)

set_option maxHeartbeats 4000000 in
set_option maxRecDepth 100000 in
theorem k_actsNow (l : Launch) (g : GX) (base : Nat) (sa : Nat → Nat) (h0 : Hp) (o : Nat) (R : Nat → Nat) (I : Nat → Int) (A : Nat → Int → Int) (hM : OB g 1 7 kd1 h0 o R I L4 A) (hj : Jok I A) : MC l g base sa yX1_actsNow wsX1_actsNow ({ frames := 1, cells := 0, slots := 0, locals := 25 }) ([.ref o]) h0 (fun r h' => r = some (.int (J (sT (fun b => if 0 < p_mv (I 0) (I 2) (I 3) (A 4) (A 5) b then 1 else 0) 24))) ∧ h' = h0) := by
  refine Met.ofW (cc := cX1_actsNow) (maxL := 3) (ret := (some .int)) (by decide) rfl ?_
  intro p e s m args below meth c s₁ B hml hv
  obtain ⟨rfl, hk, hW⟩ := hv
  have hx := B.exec
  have hb := B.bytes
  have hr := B.returns
  have hts := atoms_spec (ws := wsX1_actsNow) B.pre
  have hown : s.vm.findClass RX1 = some m.cls := findClass_of_methodNamed B.named
  have hlocks := B.notSynchronized
  have hfX1 : ∀ w ∈ wsX10, w.before ([.ref o]).toArray s = true := fun w h => hts w (List.mem_cons_of_mem _ (List.mem_append_right _ h))
  have hS : va_S (Ab base) s.heap s.heap [] := va_S.rf
  have hl := lv_entry ([.ref o]) (n := 3) (Nat.le_of_ble_eq_true rfl)
  rw [lg_entry_eq]
  generalize (lg_sl ([.ref o]) ++ List.replicate (3 - (lg_sl ([.ref o])).length) Slot.unset).toArray = ls at hl ⊢
  have hl : lv_has ls 3 [(0, .ref o)] := hl
  refine lv_iconst (v := J (0)) hx hb dX1_actsNow_0 rfl ?_
  refine lv_istore_n (lv' := [(1, .int (J 0)), (0, .ref o)]) hx hb dX1_actsNow_1 rfl hl (by decide) rfl (fun ls hl => ?_)
  refine lv_iconst (v := J (0)) hx hb dX1_actsNow_2 rfl ?_
  refine lv_istore_n (lv' := [(2, .int (J 0)), (1, .int (J 0)), (0, .ref o)]) hx hb dX1_actsNow_3 rfl hl (by decide) rfl (fun ls hl => ?_)
  have loop_4 : ∀ (n : Nat) (a : Int) (z : Int) (h : Hp) (H : Heap) (locs : List Loc) (ls : Array Slot), 24 - a < (n : Int) → 0 ≤ a ∧ a ≤ 24 → z = sT (fun b => if 0 < p_mv (I 0) (I 2) (I 3) (A 4) (A 5) b then 1 else 0) a → h = h0 → OB g 1 7 kd1 h o R I L4 A → Wd g base h H → va_S (Ab base) s.heap H locs → lv_has ls 3 [(0, .ref o), (1, .int (J z)), (2, .int (J a))] → W p l e (headSpec wsX1_actsNow ({ frames := 1, cells := 0, slots := 0, locals := 25 })).room s m ([.ref o]).toArray below meth c H locs 0 0 (MQ below (QcM g base (fun r h' => r = some (.int (J (sT (fun b => if 0 < p_mv (I 0) (I 2) (I 3) (A 4) (A 5) b then 1 else 0) 24))) ∧ h' = h0)) ([.ref o]).toArray s (0) (0) (Ab base)) (F0 m 4 ls []) := by
    intro n
    induction n with
    | zero =>
      intro a z h H locs ls hmu hi ez eh hM hW hS hl
      exact absurd hmu (by omega)
    | succ n ih =>
      intro a z h H locs ls hmu hi ez eh hM hW hS hl
      have hmr := p_mv_r hj a
      have ih_4 := ih
      refine lv_iload_n hx hb dX1_actsNow_4 rfl (lv_at hl 2 rfl) ?_
      refine lv_bipush (v := J (24)) hx hb dX1_actsNow_5 (by decide) ?_
      refine j_icmp_ge (x := a) (y := 24) (tgt := 27) hx hb ⟨by omega, by omega⟩ ⟨by decide, by decide⟩ dX1_actsNow_7 (by decide) (fun c_7 => ?_) (fun c_7 => ?_)
      · refine lv_iload_n hx hb dX1_actsNow_27 rfl (lv_at hl 1 rfl) ?_
        exact g_iret hx hb hr hW hS dX1_actsNow_28 hlocks (⟨congrArg (fun q : Int => some (Value.int (J q))) (show z = sT (fun b => if 0 < p_mv (I 0) (I 2) (I 3) (A 4) (A 5) b then 1 else 0) 24 from by rw [ez]; congr 1; omega), eh⟩)
      · refine lv_aload_n hx hb dX1_actsNow_10 rfl (lv_at hl 0 rfl) ?_
        refine lv_iload_n hx hb dX1_actsNow_11 rfl (lv_at hl 2 rfl) ?_
        refine g_callV (As := [.int (J a)]) (rest := []) (b := o) (ci := 1) (C := RX1) (T := TX1) (N := 7) ⟨hx, hb, hml, hown, hts⟩ (k_moved l g base sa h o R I A a hM ⟨by omega, by omega⟩ hj) (cwV 1 hts gX1_actsNow_X1_moved rfl rfl rfl (by decide +kernel) ⟨Nat.le_of_ble_eq_true rfl, Nat.le_of_ble_eq_true rfl⟩) hk hW hS hM.1 rfl rfl hl.1 (Nat.le_of_ble_eq_true rfl) dX1_actsNow_12 ⟨Nat.le_of_ble_eq_true rfl, Nat.le_of_ble_eq_true rfl⟩ (fun r9 h9 H locs hp hW hS => ?_)
        obtain ⟨rfl, e9⟩ := hp
        rw [e9] at hW
        refine W.eq (g2 := F0 m 15 ls [.int (J (p_mv (I 0) (I 2) (I 3) (A 4) (A 5) a))]) rfl ?_
        refine j_if_le (x := p_mv (I 0) (I 2) (I 3) (A 4) (A 5) a) (tgt := 21) hx hb ⟨by omega, by omega⟩ dX1_actsNow_15 (by decide) (fun c_15 => ?_) (fun c_15 => ?_)
        · refine lv_iinc (v := J (a + 1)) (lv' := [(2, .int (J (a + 1))), (0, .ref o), (1, .int (J z))]) hx hb dX1_actsNow_21 hl (k := 2) rfl (J_inc (by omega)) (by decide) rfl (fun ls hl => ?_)
          refine lv_goto (tgt := 4) hx hb dX1_actsNow_24 (by decide) ?_
          exact ih_4 (a + 1) z h H locs ls (by omega) (by omega) (by rw [sT_s _ hi.1, ez]; split <;> omega) eh hM hW hS (lv_sub hl [1, 2, 0] rfl)
        · refine lv_iinc (v := J (z + 1)) (lv' := [(1, .int (J (z + 1))), (0, .ref o), (2, .int (J a))]) hx hb dX1_actsNow_18 hl (k := 1) rfl (J_inc (by omega)) (by decide) rfl (fun ls hl => ?_)
          refine lv_iinc (v := J (a + 1)) (lv' := [(2, .int (J (a + 1))), (1, .int (J (z + 1))), (0, .ref o)]) hx hb dX1_actsNow_21 hl (k := 2) rfl (J_inc (by omega)) (by decide) rfl (fun ls hl => ?_)
          refine lv_goto (tgt := 4) hx hb dX1_actsNow_24 (by decide) ?_
          exact ih_4 (a + 1) (z + 1) h H locs ls (by omega) (by omega) (by rw [sT_s _ hi.1, ez]; split <;> omega) eh hM hW hS (lv_sub hl [2, 1, 0] rfl)
  exact loop_4 25 0 0 h0 s.heap [] ls (by omega) (by omega) rfl rfl hM hW hS (lv_sub hl [2, 1, 0] rfl)

set_option maxHeartbeats 4000000 in
set_option maxRecDepth 100000 in
theorem k_removeAll (l : Launch) (g : GX) (base : Nat) (sa : Nat → Nat) (h0 : Hp) (o : Nat) (R : Nat → Nat) (I : Nat → Int) (A : Nat → Int → Int) (hM : OB g 1 7 kd1 h0 o R I L4 A) : MC l g base sa yX1_removeAll wsX1_removeAll ({ frames := 0, cells := 0, slots := 0, locals := 0 }) ([.ref o]) h0 (fun r h' => r = some (.int (J (I 0))) ∧ OB g 1 7 kd1 h' o R (va_up (va_up I 0 0) 1 1) L4 A ∧ Fr (FP 7 kd1 o R) h0 h') := by
  refine Met.ofW (cc := cX1_removeAll) (maxL := 2) (ret := (some .int)) (by decide) rfl ?_
  intro p e s m args below meth c s₁ B hml hv
  obtain ⟨rfl, hk, hW⟩ := hv
  have hx := B.exec
  have hb := B.bytes
  have hr := B.returns
  have hts := atoms_spec (ws := wsX1_removeAll) B.pre
  have hown : s.vm.findClass RX1 = some m.cls := findClass_of_methodNamed B.named
  have hlocks := B.notSynchronized
  have hfX1 : ∀ w ∈ wsX10, w.before ([.ref o]).toArray s = true := fun w h => hts w (List.mem_cons_of_mem _ (List.mem_append_right _ h))
  have hS : va_S (Ab base) s.heap s.heap [] := va_S.rf
  have hl := lv_entry ([.ref o]) (n := 2) (Nat.le_of_ble_eq_true rfl)
  rw [lg_entry_eq]
  generalize (lg_sl ([.ref o]) ++ List.replicate (2 - (lg_sl ([.ref o])).length) Slot.unset).toArray = ls at hl ⊢
  have hl : lv_has ls 2 [(0, .ref o)] := hl
  have hF : Fr (FP 7 kd1 o R) h0 h0 := Fr.rf
  refine lv_aload_n hx hb dX1_removeAll_0 rfl (lv_at hl 0 rfl) ?_
  refine g_get (ci := 1) (C := RX1) (T := TX1) (N := 7) (v := .int (J (I 0))) hx hb hfX1 (fun _ h9 => h9) hown hk hW hM.1 rfl 0 (by decide) (hts (.fieldLink RX1 9 "JugsAndGlasses$Jugs" "number" "I") (by decide +kernel)) rfl rfl dX1_removeAll_1 ?_
  refine lv_istore_n (lv' := [(1, .int (J (I 0))), (0, .ref o)]) hx hb dX1_removeAll_4 rfl hl (by decide) rfl (fun ls hl => ?_)
  refine lv_aload_n hx hb dX1_removeAll_5 rfl (lv_at hl 1 rfl) ?_
  refine lv_iconst (v := J (0)) hx hb dX1_removeAll_6 rfl ?_
  refine o_put (I' := (va_up I 0 (0))) (ci := 1) (C := RX1) (T := TX1) (N := 7) (ty := .int) hx hb hfX1 (fun _ h9 => h9) tyX1 tyX1_ok nmX1 hown hk hW hS hM hF FP.o rfl 0 (by decide) rfl (hts (.fieldLink RX1 9 "JugsAndGlasses$Jugs" "number" "I") (by decide +kernel)) rfl rfl (by decide +kernel) rfl rfl rfl dX1_removeAll_7 (fun h H locs hM hF hst hW hS => ?_)
  refine lv_aload_n hx hb dX1_removeAll_10 rfl (lv_at hl 1 rfl) ?_
  refine lv_iconst (v := J (1)) hx hb dX1_removeAll_11 rfl ?_
  refine o_put (I' := (va_up (va_up I 0 (0)) 1 (1))) (ci := 1) (C := RX1) (T := TX1) (N := 7) (ty := .int) hx hb hfX1 (fun _ h9 => h9) tyX1 tyX1_ok nmX1 hown hk hW hS hM hF FP.o rfl 1 (by decide) rfl (hts (.fieldLink RX1 15 "JugsAndGlasses$Jugs" "codes" "I") (by decide +kernel)) rfl rfl (by decide +kernel) rfl rfl rfl dX1_removeAll_12 (fun h H locs hM hF hst hW hS => ?_)
  refine lv_iload_n hx hb dX1_removeAll_15 rfl (lv_at hl 0 rfl) ?_
  exact g_iret hx hb hr hW hS dX1_removeAll_16 hlocks (⟨rfl, hM, hF⟩)

set_option maxHeartbeats 4000000 in
set_option maxRecDepth 100000 in
theorem k_add (l : Launch) (g : GX) (base : Nat) (sa : Nat → Nat) (h0 : Hp) (o : Nat) (R : Nat → Nat) (I : Nat → Int) (A : Nat → Int → Int) (a b : Int) (hM : OB g 1 7 kd1 h0 o R I L4 A) (hn : 0 ≤ I 0 ∧ I 0 < 4) : MC l g base sa yX1_add wsX1_add ({ frames := 0, cells := 0, slots := 0, locals := 0 }) ([.ref o, .int (J a), .int (J b)]) h0 (fun r h' => r = some (.int (J (I 0))) ∧ OB g 1 7 kd1 h' o R (va_up (va_up I 1 (I 1 * (a + 1))) 0 (I 0 + 1)) L4 (va_up (va_up (va_up A 4 (uf (A 4) (I 0) a)) 5 (uf (A 5) (I 0) b)) 6 (uf (A 6) (I 0) (I 1))) ∧ Fr (FP 7 kd1 o R) h0 h') := by
  refine Met.ofW (cc := cX1_add) (maxL := 3) (ret := (some .int)) (by decide) rfl ?_
  intro p e s m args below meth c s₁ B hml hv
  obtain ⟨rfl, hk, hW⟩ := hv
  have hx := B.exec
  have hb := B.bytes
  have hr := B.returns
  have hts := atoms_spec (ws := wsX1_add) B.pre
  have hown : s.vm.findClass RX1 = some m.cls := findClass_of_methodNamed B.named
  have hlocks := B.notSynchronized
  have hfX1 : ∀ w ∈ wsX10, w.before ([.ref o, .int (J a), .int (J b)]).toArray s = true := fun w h => hts w (List.mem_cons_of_mem _ (List.mem_append_right _ h))
  have hS : va_S (Ab base) s.heap s.heap [] := va_S.rf
  have hl := lv_entry ([.ref o, .int (J a), .int (J b)]) (n := 3) (Nat.le_of_ble_eq_true rfl)
  rw [lg_entry_eq]
  generalize (lg_sl ([.ref o, .int (J a), .int (J b)]) ++ List.replicate (3 - (lg_sl ([.ref o, .int (J a), .int (J b)])).length) Slot.unset).toArray = ls at hl ⊢
  have hl : lv_has ls 3 [(0, .ref o), (1, .int (J a)), (2, .int (J b))] := hl
  have hF : Fr (FP 7 kd1 o R) h0 h0 := Fr.rf
  refine lv_aload_n hx hb dX1_add_0 rfl (lv_at hl 0 rfl) ?_
  refine g_get (ci := 1) (C := RX1) (T := TX1) (N := 7) (v := .int (J (I 0))) hx hb hfX1 (fun _ h9 => h9) hown hk hW hM.1 rfl 0 (by decide) (hts (.fieldLink RX1 9 "JugsAndGlasses$Jugs" "number" "I") (by decide +kernel)) rfl rfl dX1_add_1 ?_
  refine lv_iconst (v := J (4)) hx hb dX1_add_4 rfl ?_
  refine j_icmp_lt (x := I 0) (y := 4) (tgt := 11) hx hb ⟨by omega, by omega⟩ ⟨by decide, by decide⟩ dX1_add_5 (by decide) (fun c_5 => ?_) (fun c_5 => ?_)
  · refine lv_aload_n hx hb dX1_add_11 rfl (lv_at hl 0 rfl) ?_
    refine g_get (ci := 1) (C := RX1) (T := TX1) (N := 7) (v := .ref (R 4)) hx hb hfX1 (fun _ h9 => h9) hown hk hW hM.1 rfl 4 (by decide) (hts (.fieldLink RX1 25 "JugsAndGlasses$Jugs" "size" "[I") (by decide +kernel)) rfl rfl dX1_add_12 ?_
    refine lv_aload_n hx hb dX1_add_15 rfl (lv_at hl 0 rfl) ?_
    refine g_get (ci := 1) (C := RX1) (T := TX1) (N := 7) (v := .int (J (I 0))) hx hb hfX1 (fun _ h9 => h9) hown hk hW hM.1 rfl 0 (by decide) (hts (.fieldLink RX1 9 "JugsAndGlasses$Jugs" "number" "I") (by decide +kernel)) rfl rfl dX1_add_16 ?_
    refine lv_iload_n hx hb dX1_add_19 rfl (lv_at hl 1 rfl) ?_
    refine o_iast (A' := (va_up A 4 (uf (A 4) (I 0) a))) (i := I 0) (x := a) hx hb hk hW hS hM hF 4 (by decide) rfl (FP.a 4 (by decide) ⟨by decide, by decide⟩) (by omega) (show I 0 < 4 from by omega) (show 4 < 2147483648 from by omega) rfl dX1_add_20 (fun h H locs hM hF hst hW hS => ?_)
    refine lv_aload_n hx hb dX1_add_21 rfl (lv_at hl 0 rfl) ?_
    refine g_get (ci := 1) (C := RX1) (T := TX1) (N := 7) (v := .ref (R 5)) hx hb hfX1 (fun _ h9 => h9) hown hk hW hM.1 rfl 5 (by decide) (hts (.fieldLink RX1 29 "JugsAndGlasses$Jugs" "held" "[I") (by decide +kernel)) rfl rfl dX1_add_22 ?_
    refine lv_aload_n hx hb dX1_add_25 rfl (lv_at hl 0 rfl) ?_
    refine g_get (ci := 1) (C := RX1) (T := TX1) (N := 7) (v := .int (J (I 0))) hx hb hfX1 (fun _ h9 => h9) hown hk hW hM.1 rfl 0 (by decide) (hts (.fieldLink RX1 9 "JugsAndGlasses$Jugs" "number" "I") (by decide +kernel)) rfl rfl dX1_add_26 ?_
    refine lv_iload_n hx hb dX1_add_29 rfl (lv_at hl 2 rfl) ?_
    refine o_iast (A' := (va_up (va_up A 4 (uf (A 4) (I 0) a)) 5 (uf (A 5) (I 0) b))) (i := I 0) (x := b) hx hb hk hW hS hM hF 5 (by decide) rfl (FP.a 5 (by decide) ⟨by decide, by decide⟩) (by omega) (show I 0 < 4 from by omega) (show 4 < 2147483648 from by omega) rfl dX1_add_30 (fun h H locs hM hF hst hW hS => ?_)
    refine lv_aload_n hx hb dX1_add_31 rfl (lv_at hl 0 rfl) ?_
    refine g_get (ci := 1) (C := RX1) (T := TX1) (N := 7) (v := .ref (R 6)) hx hb hfX1 (fun _ h9 => h9) hown hk hW hM.1 rfl 6 (by decide) (hts (.fieldLink RX1 32 "JugsAndGlasses$Jugs" "weight" "[I") (by decide +kernel)) rfl rfl dX1_add_32 ?_
    refine lv_aload_n hx hb dX1_add_35 rfl (lv_at hl 0 rfl) ?_
    refine g_get (ci := 1) (C := RX1) (T := TX1) (N := 7) (v := .int (J (I 0))) hx hb hfX1 (fun _ h9 => h9) hown hk hW hM.1 rfl 0 (by decide) (hts (.fieldLink RX1 9 "JugsAndGlasses$Jugs" "number" "I") (by decide +kernel)) rfl rfl dX1_add_36 ?_
    refine lv_aload_n hx hb dX1_add_39 rfl (lv_at hl 0 rfl) ?_
    refine g_get (ci := 1) (C := RX1) (T := TX1) (N := 7) (v := .int (J (I 1))) hx hb hfX1 (fun _ h9 => h9) hown hk hW hM.1 rfl 1 (by decide) (hts (.fieldLink RX1 15 "JugsAndGlasses$Jugs" "codes" "I") (by decide +kernel)) rfl rfl dX1_add_40 ?_
    refine o_iast (A' := (va_up (va_up (va_up A 4 (uf (A 4) (I 0) a)) 5 (uf (A 5) (I 0) b)) 6 (uf (A 6) (I 0) (I 1)))) (i := I 0) (x := I 1) hx hb hk hW hS hM hF 6 (by decide) rfl (FP.a 6 (by decide) ⟨by decide, by decide⟩) (by omega) (show I 0 < 4 from by omega) (show 4 < 2147483648 from by omega) rfl dX1_add_43 (fun h H locs hM hF hst hW hS => ?_)
    refine lv_aload_n hx hb dX1_add_44 rfl (lv_at hl 0 rfl) ?_
    refine lv_dup hx hb dX1_add_45 rfl ?_
    refine g_get (ci := 1) (C := RX1) (T := TX1) (N := 7) (v := .int (J (I 1))) hx hb hfX1 (fun _ h9 => h9) hown hk hW hM.1 rfl 1 (by decide) (hts (.fieldLink RX1 15 "JugsAndGlasses$Jugs" "codes" "I") (by decide +kernel)) rfl rfl dX1_add_46 ?_
    refine lv_iload_n hx hb dX1_add_49 rfl (lv_at hl 1 rfl) ?_
    refine lv_iconst (v := J (1)) hx hb dX1_add_50 rfl ?_
    refine j_iadd hx hb dX1_add_51 ?_
    refine j_imul hx hb dX1_add_52 ?_
    refine o_put (I' := (va_up I 1 ((I 1) * (a + 1)))) (ci := 1) (C := RX1) (T := TX1) (N := 7) (ty := .int) hx hb hfX1 (fun _ h9 => h9) tyX1 tyX1_ok nmX1 hown hk hW hS hM hF FP.o rfl 1 (by decide) rfl (hts (.fieldLink RX1 15 "JugsAndGlasses$Jugs" "codes" "I") (by decide +kernel)) rfl rfl (by decide +kernel) rfl rfl rfl dX1_add_53 (fun h H locs hM hF hst hW hS => ?_)
    refine lv_aload_n hx hb dX1_add_56 rfl (lv_at hl 0 rfl) ?_
    refine lv_dup hx hb dX1_add_57 rfl ?_
    refine g_get (ci := 1) (C := RX1) (T := TX1) (N := 7) (v := .int (J (I 0))) hx hb hfX1 (fun _ h9 => h9) hown hk hW hM.1 rfl 0 (by decide) (hts (.fieldLink RX1 9 "JugsAndGlasses$Jugs" "number" "I") (by decide +kernel)) rfl rfl dX1_add_58 ?_
    refine lv_iconst (v := J (1)) hx hb dX1_add_61 rfl ?_
    refine j_iadd hx hb dX1_add_62 ?_
    refine o_put (I' := (va_up (va_up I 1 ((I 1) * (a + 1))) 0 ((I 0) + 1))) (ci := 1) (C := RX1) (T := TX1) (N := 7) (ty := .int) hx hb hfX1 (fun _ h9 => h9) tyX1 tyX1_ok nmX1 hown hk hW hS hM hF FP.o rfl 0 (by decide) rfl (hts (.fieldLink RX1 9 "JugsAndGlasses$Jugs" "number" "I") (by decide +kernel)) rfl rfl (by decide +kernel) rfl rfl rfl dX1_add_63 (fun h H locs hM hF hst hW hS => ?_)
    refine lv_aload_n hx hb dX1_add_66 rfl (lv_at hl 0 rfl) ?_
    refine g_get (ci := 1) (C := RX1) (T := TX1) (N := 7) (v := .int (J ((I 0) + 1))) hx hb hfX1 (fun _ h9 => h9) hown hk hW hM.1 rfl 0 (by decide) (hts (.fieldLink RX1 9 "JugsAndGlasses$Jugs" "number" "I") (by decide +kernel)) rfl rfl dX1_add_67 ?_
    refine lv_iconst (v := J (1)) hx hb dX1_add_70 rfl ?_
    refine j_isub hx hb dX1_add_71 ?_
    exact g_iret hx hb hr hW hS dX1_add_72 hlocks (⟨congrArg (fun q : Int => some (Value.int (J q))) (show (I 0 + 1) - 1 = I 0 from by omega), hM, hF⟩)
  · exfalso
    omega

set_option maxHeartbeats 4000000 in
set_option maxRecDepth 100000 in
theorem k_move (l : Launch) (g : GX) (base : Nat) (sa : Nat → Nat) (h0 : Hp) (o : Nat) (R : Nat → Nat) (I : Nat → Int) (A : Nat → Int → Int) (a u : Int) (hM : OB g 1 7 kd1 h0 o R I L4 A) (ha : i32 a) (hn : 0 ≤ I 0 ∧ I 0 ≤ 4) : MC l g base sa yX1_move wsX1_move ({ frames := 1, cells := 0, slots := 0, locals := 21 }) ([.ref o, .int (J a), .int (J u)]) h0 (fun r h' => r = none ∧ OB g 1 7 kd1 h' o R I L4 (va_up A 5 (if p_haveAct (I 0) a = 0 then A 5 else p_move (A 5) a u)) ∧ Fr (FP 7 kd1 o R) h0 h') := by
  refine Met.ofW (cc := cX1_move) (maxL := 3) (ret := none) (by decide) rfl ?_
  intro p e s m args below meth c s₁ B hml hv
  obtain ⟨rfl, hk, hW⟩ := hv
  have hx := B.exec
  have hb := B.bytes
  have hr := B.returns
  have hts := atoms_spec (ws := wsX1_move) B.pre
  have hown : s.vm.findClass RX1 = some m.cls := findClass_of_methodNamed B.named
  have hlocks := B.notSynchronized
  have hfX1 : ∀ w ∈ wsX10, w.before ([.ref o, .int (J a), .int (J u)]).toArray s = true := fun w h => hts w (List.mem_cons_of_mem _ (List.mem_append_right _ h))
  have hS : va_S (Ab base) s.heap s.heap [] := va_S.rf
  have hl := lv_entry ([.ref o, .int (J a), .int (J u)]) (n := 3) (Nat.le_of_ble_eq_true rfl)
  rw [lg_entry_eq]
  generalize (lg_sl ([.ref o, .int (J a), .int (J u)]) ++ List.replicate (3 - (lg_sl ([.ref o, .int (J a), .int (J u)])).length) Slot.unset).toArray = ls at hl ⊢
  have hl : lv_has ls 3 [(0, .ref o), (1, .int (J a)), (2, .int (J u))] := hl
  have hF : Fr (FP 7 kd1 o R) h0 h0 := Fr.rf
  have hg := k_giver_r a
  have ht := k_taker_r a
  have hpr := p_haveAct_r (I 0) a
  refine lv_aload_n hx hb dX1_move_0 rfl (lv_at hl 0 rfl) ?_
  refine lv_iload_n hx hb dX1_move_1 rfl (lv_at hl 1 rfl) ?_
  refine g_callV (As := [.int (J a)]) (rest := []) (b := o) (ci := 1) (C := RX1) (T := TX1) (N := 7) ⟨hx, hb, hml, hown, hts⟩ (k_haveAct l g base sa h0 o R I A a hM ha hn) (cwV 1 hts gX1_move_X1_haveAct rfl rfl rfl (by decide +kernel) ⟨Nat.le_of_ble_eq_true rfl, Nat.le_of_ble_eq_true rfl⟩) hk hW hS hM.1 rfl rfl hl.1 (Nat.le_of_ble_eq_true rfl) dX1_move_2 ⟨Nat.le_of_ble_eq_true rfl, Nat.le_of_ble_eq_true rfl⟩ (fun r9 h9 H locs hp hW hS => ?_)
  obtain ⟨rfl, e9⟩ := hp
  rw [e9] at hW
  refine W.eq (g2 := F0 m 5 ls [.int (J (p_haveAct (I 0) a))]) rfl ?_
  refine j_if_ne (x := p_haveAct (I 0) a) (tgt := 9) hx hb ⟨by omega, by omega⟩ dX1_move_5 (by decide) (fun c_5 => ?_) (fun c_5 => ?_)
  · have hq := p_haveAct_1 c_5
    refine g_statN hx hb hk.2.2.1 hS hown (va_Nw.use rfl hk.2.2.2.2.2.2.2.2.2.2.2.2.1) dX1_move_9 ?_
    refine lv_iload_n hx hb dX1_move_12 rfl (lv_at hl 1 rfl) ?_
    refine g_sald hx hb hk.2.2.1 hS (by omega) (by omega) (by decide) dX1_move_13 ?_
    refine j_if_lt (x := k_giver a) (tgt := 31) hx hb ⟨by omega, by omega⟩ dX1_move_14 (by decide) (fun c_14 => ?_) (fun c_14 => ?_)
    · refine g_statN hx hb hk.2.2.2.1 hS hown (va_Nw.use rfl hk.2.2.2.2.2.2.2.2.2.2.2.2.2) dX1_move_31 ?_
      refine lv_iload_n hx hb dX1_move_34 rfl (lv_at hl 1 rfl) ?_
      refine g_sald hx hb hk.2.2.2.1 hS (by omega) (by omega) (by decide) dX1_move_35 ?_
      refine j_if_lt (x := k_taker a) (tgt := 53) hx hb ⟨by omega, by omega⟩ dX1_move_36 (by decide) (fun c_36 => ?_) (fun c_36 => ?_)
      · exact g_vret hx hb hr hW hS dX1_move_53 hlocks (⟨rfl, by rw [if_neg c_5]; unfold p_move; first | (rw [if_pos (by omega), if_pos (by omega)]; exact hM) | (rw [if_pos (by omega), if_neg (by omega)]; exact hM) | (rw [if_neg (by omega), if_pos (by omega)]; exact hM) | (rw [if_neg (by omega), if_neg (by omega), va_up_id]; exact hM), hF⟩)
      · refine lv_aload_n hx hb dX1_move_39 rfl (lv_at hl 0 rfl) ?_
        refine g_get (ci := 1) (C := RX1) (T := TX1) (N := 7) (v := .ref (R 5)) hx hb hfX1 (fun _ h9 => h9) hown hk hW hM.1 rfl 5 (by decide) (hts (.fieldLink RX1 29 "JugsAndGlasses$Jugs" "held" "[I") (by decide +kernel)) rfl rfl dX1_move_40 ?_
        refine g_statN hx hb hk.2.2.2.1 hS hown (va_Nw.use rfl hk.2.2.2.2.2.2.2.2.2.2.2.2.2) dX1_move_43 ?_
        refine lv_iload_n hx hb dX1_move_46 rfl (lv_at hl 1 rfl) ?_
        refine g_sald hx hb hk.2.2.2.1 hS (by omega) (by omega) (by decide) dX1_move_47 ?_
        refine lv_dup2_11 hx hb dX1_move_48 rfl rfl ?_
        refine g_iald (n := 4) (f := A 5) (i := k_taker a) hx hb hk hW (hM.ai 5 (by decide) rfl) (by omega) (by omega) (by omega) dX1_move_49 ?_
        refine lv_iload_n hx hb dX1_move_50 rfl (lv_at hl 2 rfl) ?_
        refine j_iadd hx hb dX1_move_51 ?_
        refine o_iast (A' := (va_up A 5 (uf (A 5) (k_taker a) ((A 5 (k_taker a)) + u)))) (i := k_taker a) (x := (A 5 (k_taker a)) + u) hx hb hk hW hS hM hF 5 (by decide) rfl (FP.a 5 (by decide) ⟨by decide, by decide⟩) (by omega) (show k_taker a < 4 from by omega) (show 4 < 2147483648 from by omega) rfl dX1_move_52 (fun h H locs hM hF hst hW hS => ?_)
        exact g_vret hx hb hr hW hS dX1_move_53 hlocks (⟨rfl, by rw [if_neg c_5]; unfold p_move; first | (rw [if_pos (by omega), if_pos (by omega)]; exact hM) | (rw [if_pos (by omega), if_neg (by omega)]; exact hM) | (rw [if_neg (by omega), if_pos (by omega)]; exact hM) | (rw [if_neg (by omega), if_neg (by omega), va_up_id]; exact hM), hF⟩)
    · refine lv_aload_n hx hb dX1_move_17 rfl (lv_at hl 0 rfl) ?_
      refine g_get (ci := 1) (C := RX1) (T := TX1) (N := 7) (v := .ref (R 5)) hx hb hfX1 (fun _ h9 => h9) hown hk hW hM.1 rfl 5 (by decide) (hts (.fieldLink RX1 29 "JugsAndGlasses$Jugs" "held" "[I") (by decide +kernel)) rfl rfl dX1_move_18 ?_
      refine g_statN hx hb hk.2.2.1 hS hown (va_Nw.use rfl hk.2.2.2.2.2.2.2.2.2.2.2.2.1) dX1_move_21 ?_
      refine lv_iload_n hx hb dX1_move_24 rfl (lv_at hl 1 rfl) ?_
      refine g_sald hx hb hk.2.2.1 hS (by omega) (by omega) (by decide) dX1_move_25 ?_
      refine lv_dup2_11 hx hb dX1_move_26 rfl rfl ?_
      refine g_iald (n := 4) (f := A 5) (i := k_giver a) hx hb hk hW (hM.ai 5 (by decide) rfl) (by omega) (by omega) (by omega) dX1_move_27 ?_
      refine lv_iload_n hx hb dX1_move_28 rfl (lv_at hl 2 rfl) ?_
      refine j_isub hx hb dX1_move_29 ?_
      refine o_iast (A' := (va_up A 5 (uf (A 5) (k_giver a) ((A 5 (k_giver a)) - u)))) (i := k_giver a) (x := (A 5 (k_giver a)) - u) hx hb hk hW hS hM hF 5 (by decide) rfl (FP.a 5 (by decide) ⟨by decide, by decide⟩) (by omega) (show k_giver a < 4 from by omega) (show 4 < 2147483648 from by omega) rfl dX1_move_30 (fun h H locs hM hF hst hW hS => ?_)
      refine g_statN hx hb hk.2.2.2.1 hS hown (va_Nw.use rfl hk.2.2.2.2.2.2.2.2.2.2.2.2.2) dX1_move_31 ?_
      refine lv_iload_n hx hb dX1_move_34 rfl (lv_at hl 1 rfl) ?_
      refine g_sald hx hb hk.2.2.2.1 hS (by omega) (by omega) (by decide) dX1_move_35 ?_
      refine j_if_lt (x := k_taker a) (tgt := 53) hx hb ⟨by omega, by omega⟩ dX1_move_36 (by decide) (fun c_36 => ?_) (fun c_36 => ?_)
      · exact g_vret hx hb hr hW hS dX1_move_53 hlocks (⟨rfl, by rw [if_neg c_5]; unfold p_move; first | (rw [if_pos (by omega), if_pos (by omega)]; exact hM) | (rw [if_pos (by omega), if_neg (by omega)]; exact hM) | (rw [if_neg (by omega), if_pos (by omega)]; exact hM) | (rw [if_neg (by omega), if_neg (by omega), va_up_id]; exact hM), hF⟩)
      · refine lv_aload_n hx hb dX1_move_39 rfl (lv_at hl 0 rfl) ?_
        refine g_get (ci := 1) (C := RX1) (T := TX1) (N := 7) (v := .ref (R 5)) hx hb hfX1 (fun _ h9 => h9) hown hk hW hM.1 rfl 5 (by decide) (hts (.fieldLink RX1 29 "JugsAndGlasses$Jugs" "held" "[I") (by decide +kernel)) rfl rfl dX1_move_40 ?_
        refine g_statN hx hb hk.2.2.2.1 hS hown (va_Nw.use rfl hk.2.2.2.2.2.2.2.2.2.2.2.2.2) dX1_move_43 ?_
        refine lv_iload_n hx hb dX1_move_46 rfl (lv_at hl 1 rfl) ?_
        refine g_sald hx hb hk.2.2.2.1 hS (by omega) (by omega) (by decide) dX1_move_47 ?_
        refine lv_dup2_11 hx hb dX1_move_48 rfl rfl ?_
        refine g_iald (n := 4) (f := uf (A 5) (k_giver a) ((A 5 (k_giver a)) - u)) (i := k_taker a) hx hb hk hW (hM.ai 5 (by decide) rfl) (by omega) (by omega) (by omega) dX1_move_49 ?_
        refine lv_iload_n hx hb dX1_move_50 rfl (lv_at hl 2 rfl) ?_
        refine j_iadd hx hb dX1_move_51 ?_
        refine o_iast (A' := (va_up A 5 (uf (uf (A 5) (k_giver a) ((A 5 (k_giver a)) - u)) (k_taker a) (((uf (A 5) (k_giver a) ((A 5 (k_giver a)) - u)) (k_taker a)) + u)))) (i := k_taker a) (x := ((uf (A 5) (k_giver a) ((A 5 (k_giver a)) - u)) (k_taker a)) + u) hx hb hk hW hS hM hF 5 (by decide) rfl (FP.a 5 (by decide) ⟨by decide, by decide⟩) (by omega) (show k_taker a < 4 from by omega) (show 4 < 2147483648 from by omega) (bx_uu _ _ _ _) dX1_move_52 (fun h H locs hM hF hst hW hS => ?_)
        exact g_vret hx hb hr hW hS dX1_move_53 hlocks (⟨rfl, by rw [if_neg c_5]; unfold p_move; first | (rw [if_pos (by omega), if_pos (by omega)]; exact hM) | (rw [if_pos (by omega), if_neg (by omega)]; exact hM) | (rw [if_neg (by omega), if_pos (by omega)]; exact hM) | (rw [if_neg (by omega), if_neg (by omega), va_up_id]; exact hM), hF⟩)
  · exact g_vret hx hb hr hW hS dX1_move_8 hlocks (⟨rfl, by rw [if_pos c_5, va_up_id]; exact hM, hF⟩)
end
section
/-! ===== pure words: the reference's own ===== -/
def p_in (v a b : Int) : Int := if a ≤ v ∧ v ≤ b then 1 else 0
theorem p_in_r (v a b : Int) : p_in v a b = 0 ∨ p_in v a b = 1 := by unfold p_in; split <;> omega
theorem p_in_1 {v a b : Int} (h : ¬ p_in v a b = 0) : a ≤ v ∧ v ≤ b := by
  unfold p_in at h
  split at h
  · assumption
  · omega
theorem p_in_0 {v a b : Int} (h : p_in v a b = 0) : ¬ (a ≤ v ∧ v ≤ b) := by
  unfold p_in at h
  split at h
  · omega
  · assumption
def cpN (n : Int) (f g : Int → Int) : Int → Int := fun j => if 0 ≤ j ∧ j < n then f j else g j
theorem cpN_s (f g : Int → Int) {i : Int} (h : 0 ≤ i) : uf (cpN i f g) i (f i) = cpN (i + 1) f g := by
  funext j
  unfold uf cpN
  by_cases hj : j = i
  · subst hj
    rw [if_pos rfl, if_pos (by omega)]
  · rw [if_neg hj]
    by_cases h2 : 0 ≤ j ∧ j < i
    · rw [if_pos h2, if_pos (by omega)]
    · rw [if_neg h2, if_neg (by omega)]
theorem cpN_0 (f g : Int → Int) : cpN 0 f g = g := by
  funext j
  unfold cpN
  rw [if_neg (by omega)]
/-- the number of a state, from the first jug on -/
def nN (rm hs : Int → Int) : Nat → Int
  | 0 => 0
  | k + 1 => nN rm hs k * (rm k + 1) + hs k
def nT (rm hs : Int → Int) (i : Int) : Int := nN rm hs i.toNat
theorem nT_s (rm hs : Int → Int) {i : Int} (h : 0 ≤ i) : nT rm hs (i + 1) = nT rm hs i * (rm i + 1) + hs i := by
  unfold nT
  have h1 : (i + 1).toNat = i.toNat + 1 := by omega
  rw [h1, nN, Int.toNat_of_nonneg h]
/-- how many states there are -/
def mN (rm : Int → Int) : Nat → Int
  | 0 => 1
  | k + 1 => mN rm k * (rm k + 1)
def mT (rm : Int → Int) (i : Int) : Int := mN rm i.toNat
theorem mT_s (rm : Int → Int) {i : Int} (h : 0 ≤ i) : mT rm (i + 1) = mT rm i * (rm i + 1) := by
  unfold mT
  have h1 : (i + 1).toNat = i.toNat + 1 := by omega
  rw [h1, mN, Int.toNat_of_nonneg h]
def rv (n : Int) (f : Int → Int) : Int → Int := fun j => f (n - 1 - j)
/-- what is held in the state of that number; digits from the last jug on, those from i on are laid -/
def p_layI (n i : Int) (rm hs : Int → Int) (x : Int) : Int → Int := fun j => if i ≤ j ∧ j < n then rT (rv n rm) x (n - 1 - j) % (rm j + 1) else hs j
theorem p_layI_s (n : Int) (rm hs : Int → Int) (x : Int) {i : Int} (h : 0 ≤ i) (hn : i < n) : uf (p_layI n (i + 1) rm hs x) i (rT (rv n rm) x (n - 1 - i) % (rm i + 1)) = p_layI n i rm hs x := by
  funext j
  unfold uf p_layI
  by_cases hj : j = i
  · subst hj
    rw [if_pos rfl, if_pos (by omega)]
  · rw [if_neg hj]
    by_cases h2 : i + 1 ≤ j ∧ j < n
    · rw [if_pos h2, if_pos (by omega)]
    · rw [if_neg h2, if_neg (by omega)]
def p_lay (n : Int) (rm hs : Int → Int) (x : Int) : Int → Int := p_layI n 0 rm hs x
/-- the trial's jugs are in order -/
def Tok (I : Nat → Int) (A : Nat → Int → Int) : Prop := 0 ≤ I 7 ∧ I 7 ≤ 4 ∧ (I 10 = 0 ∨ I 10 = 1) ∧ (I 11 = 0 ∨ I 11 = 1) ∧ (∀ i, 0 ≤ i → i < I 7 → 1 ≤ A 8 i ∧ A 8 i ≤ 10) ∧ (∀ i, 0 ≤ i → i < I 7 → 0 ≤ A 9 i ∧ A 9 i ≤ A 8 i)
/-- the reference's own jugs and glasses are in order -/
def Mok (I : Nat → Int) (A : Nat → Int → Int) : Prop := 0 ≤ I 0 ∧ I 0 ≤ 4 ∧ (I 3 = 0 ∨ I 3 = 1) ∧ (I 4 = 0 ∨ I 4 = 1) ∧ (∀ i, 0 ≤ i → i < I 0 → 1 ≤ A 1 i ∧ A 1 i ≤ 10) ∧ (∀ i, 0 ≤ i → i < I 0 → 0 ≤ A 2 i ∧ A 2 i ≤ A 1 i) ∧ 0 ≤ I 5 ∧ I 5 ≤ 3 ∧ (∀ i, 0 ≤ i → i < I 5 → 1 ≤ A 6 i ∧ A 6 i ≤ 12)
def p_do (hd : Int → Int) (a u : Int) : Int → Int := if 0 < u then p_move hd a u else hd
theorem k_acts {a : Int} (h0 : 0 ≤ a) (h : a < 24) : (a < 4 → k_taker a = a % 4 ∧ k_giver a = -1) ∧ (4 ≤ a → a < 8 → k_giver a = a % 4 ∧ k_taker a = -1) ∧ (8 ≤ a → k_giver a = (a - 8) / 4 ∧ k_taker a = a % 4) := by
  have key : ∀ j : Nat, j < 24 → ((j : Int) < 4 → k_taker j = j % 4 ∧ k_giver j = -1) ∧ (4 ≤ (j : Int) → (j : Int) < 8 → k_giver j = j % 4 ∧ k_taker j = -1) ∧ (8 ≤ (j : Int) → k_giver j = (j - 8) / 4 ∧ k_taker j = j % 4) := by decide
  have := key a.toNat (by omega)
  rwa [Int.toNat_of_nonneg h0] at this
/-- which moves there are: the act's jugs are there -/
def p_act (n a : Int) : Prop := k_giver a < n ∧ k_taker a < n ∧ k_giver a ≠ k_taker a
theorem p_mv_act {n tp dr : Int} {sz hd : Int → Int} {a : Int} (h0 : 0 ≤ a) (h : a < 24) (hp : p_act n a) : p_mv n tp dr sz hd a = if p_there tp hd (k_giver a) < p_room dr sz hd (k_taker a) then p_there tp hd (k_giver a) else p_room dr sz hd (k_taker a) := by
  unfold p_mv
  unfold p_act at hp
  rw [if_neg (by omega), if_neg (by omega)]
theorem p_mv_no {n tp dr : Int} {sz hd : Int → Int} {a : Int} (hp : ¬ p_act n a) : p_mv n tp dr sz hd a = 0 := by
  unfold p_mv
  unfold p_act at hp
  split
  · rfl
  · rw [if_pos (by omega)]
end
section
set_option maxHeartbeats 4000000 in
set_option maxRecDepth 100000 in
theorem m_in (l : Launch) (g : GX) (base : Nat) (sa : Nat → Nat) (h0 : Hp) (v a b : Int) (hv : i32 v) (ha : i32 a) (hb9 : i32 b) : MC l g base sa yX6_in wsX6_in ({ frames := 0, cells := 0, slots := 0, locals := 0 }) ([.int (J v), .int (J a), .int (J b)]) h0 (fun r h' => r = some (.int (J (p_in v a b))) ∧ h' = h0) := by
  refine Met.ofW (cc := cX6_in) (maxL := 3) (ret := (some .boolean)) (by decide) rfl ?_
  intro p e s m args below meth c s₁ B hml hv
  obtain ⟨rfl, hk, hW⟩ := hv
  have hx := B.exec
  have hb := B.bytes
  have hr := B.returns
  have hts := atoms_spec (ws := wsX6_in) B.pre
  have hown : s.vm.findClass RX6 = some m.cls := findClass_of_methodNamed B.named
  have hlocks := B.notSynchronized
  have hS : va_S (Ab base) s.heap s.heap [] := va_S.rf
  have hl := lv_entry ([.int (J v), .int (J a), .int (J b)]) (n := 3) (Nat.le_of_ble_eq_true rfl)
  rw [lg_entry_eq]
  generalize (lg_sl ([.int (J v), .int (J a), .int (J b)]) ++ List.replicate (3 - (lg_sl ([.int (J v), .int (J a), .int (J b)])).length) Slot.unset).toArray = ls at hl ⊢
  have hl : lv_has ls 3 [(0, .int (J v)), (1, .int (J a)), (2, .int (J b))] := hl
  obtain ⟨hv1, hv2⟩ := hv
  obtain ⟨ha1, ha2⟩ := ha
  obtain ⟨hb1, hb2⟩ := hb9
  refine lv_iload_n hx hb dX6_in_0 rfl (lv_at hl 0 rfl) ?_
  refine lv_iload_n hx hb dX6_in_1 rfl (lv_at hl 1 rfl) ?_
  refine j_icmp_lt (x := v) (y := a) (tgt := 14) hx hb ⟨by omega, by omega⟩ ⟨by omega, by omega⟩ dX6_in_2 (by decide) (fun c_2 => ?_) (fun c_2 => ?_)
  · refine lv_iconst (v := J (0)) hx hb dX6_in_14 rfl ?_
    exact g_zret hx hb hr (by omega) hW hS dX6_in_15 hlocks (⟨congrArg (fun z : Int => some (Value.int (J z))) (show 0 = p_in v a b from by unfold p_in; (repeat' split) <;> omega), rfl⟩)
  · refine lv_iload_n hx hb dX6_in_5 rfl (lv_at hl 0 rfl) ?_
    refine lv_iload_n hx hb dX6_in_6 rfl (lv_at hl 2 rfl) ?_
    refine j_icmp_gt (x := v) (y := b) (tgt := 14) hx hb ⟨by omega, by omega⟩ ⟨by omega, by omega⟩ dX6_in_7 (by decide) (fun c_7 => ?_) (fun c_7 => ?_)
    · refine lv_iconst (v := J (0)) hx hb dX6_in_14 rfl ?_
      exact g_zret hx hb hr (by omega) hW hS dX6_in_15 hlocks (⟨congrArg (fun z : Int => some (Value.int (J z))) (show 0 = p_in v a b from by unfold p_in; (repeat' split) <;> omega), rfl⟩)
    · refine lv_iconst (v := J (1)) hx hb dX6_in_10 rfl ?_
      refine lv_goto (tgt := 15) hx hb dX6_in_11 (by decide) ?_
      exact g_zret hx hb hr (by omega) hW hS dX6_in_15 hlocks (⟨congrArg (fun z : Int => some (Value.int (J z))) (show 1 = p_in v a b from by unfold p_in; (repeat' split) <;> omega), rfl⟩)

set_option maxHeartbeats 4000000 in
set_option maxRecDepth 100000 in
theorem m_isJug (l : Launch) (g : GX) (base : Nat) (sa : Nat → Nat) (h0 : Hp) (o : Nat) (R : Nat → Nat) (I : Nat → Int) (A : Nat → Int → Int) (a : Int) (hM : OB g 6 28 kd6 h0 o R I mL A) (ha : i32 a) (hn : 0 ≤ I 0 ∧ I 0 ≤ 4) : MC l g base sa yX6_isJug wsX6_isJug ({ frames := 1, cells := 0, slots := 0, locals := 22 }) ([.ref o, .int (J a)]) h0 (fun r h' => r = some (.int (J (p_in a 0 (I 0 - 1)))) ∧ h' = h0) := by
  refine Met.ofW (cc := cX6_isJug) (maxL := 2) (ret := (some .boolean)) (by decide) rfl ?_
  intro p e s m args below meth c s₁ B hml hv
  obtain ⟨rfl, hk, hW⟩ := hv
  have hx := B.exec
  have hb := B.bytes
  have hr := B.returns
  have hts := atoms_spec (ws := wsX6_isJug) B.pre
  have hown : s.vm.findClass RX6 = some m.cls := findClass_of_methodNamed B.named
  have hlocks := B.notSynchronized
  have hfX6 : ∀ w ∈ wsX60, w.before ([.ref o, .int (J a)]).toArray s = true := fun w h => hts w (List.mem_cons_of_mem _ (List.mem_append_right _ h))
  have hS : va_S (Ab base) s.heap s.heap [] := va_S.rf
  have hl := lv_entry ([.ref o, .int (J a)]) (n := 2) (Nat.le_of_ble_eq_true rfl)
  rw [lg_entry_eq]
  generalize (lg_sl ([.ref o, .int (J a)]) ++ List.replicate (2 - (lg_sl ([.ref o, .int (J a)])).length) Slot.unset).toArray = ls at hl ⊢
  have hl : lv_has ls 2 [(0, .ref o), (1, .int (J a))] := hl
  refine lv_iload_n hx hb dX6_isJug_0 rfl (lv_at hl 1 rfl) ?_
  refine lv_iconst (v := J (0)) hx hb dX6_isJug_1 rfl ?_
  refine lv_aload_n hx hb dX6_isJug_2 rfl (lv_at hl 0 rfl) ?_
  refine g_get (ci := 6) (C := RX6) (T := TX6) (N := 28) (v := .int (J (I 0))) hx hb hfX6 (fun _ h9 => h9) hown hk hW hM.1 rfl 0 (by decide) (hts (.fieldLink RX6 67 "JugsAndGlassesModel" "jugs" "I") (by decide +kernel)) rfl rfl dX6_isJug_3 ?_
  refine lv_iconst (v := J (1)) hx hb dX6_isJug_6 rfl ?_
  refine j_isub hx hb dX6_isJug_7 ?_
  refine g_callS (As := [.int (J a), .int (J 0), .int (J ((I 0) - 1))]) (rest := []) ⟨hx, hb, hml, hown, hts⟩ (m_in l g base sa h0 a 0 ((I 0) - 1) ha ⟨by decide, by decide⟩ ⟨by omega, by omega⟩) (va_cwS 3 hts gX6_isJug_X6_in rfl rfl rfl (by decide +kernel) ⟨Nat.le_of_ble_eq_true rfl, Nat.le_of_ble_eq_true rfl⟩) hk hW hS rfl hl.1 (Nat.le_of_ble_eq_true rfl) dX6_isJug_8 ⟨Nat.le_of_ble_eq_true rfl, Nat.le_of_ble_eq_true rfl⟩ (fun r9 h9 H locs hp hW hS => ?_)
  obtain ⟨rfl, e9⟩ := hp
  rw [e9] at hW
  refine W.eq (g2 := F0 m 11 ls [.int (J (p_in a 0 ((I 0) - 1)))]) rfl ?_
  have hpr_11 := p_in_r a 0 ((I 0) - 1)
  exact g_zret hx hb hr (p_in_r _ _ _) hW hS dX6_isJug_11 hlocks (⟨rfl, rfl⟩)

set_option maxHeartbeats 4000000 in
set_option maxRecDepth 100000 in
theorem m_jug (l : Launch) (g : GX) (base : Nat) (sa : Nat → Nat) (h0 : Hp) (o : Nat) (R : Nat → Nat) (I : Nat → Int) (A : Nat → Int → Int) (a b : Int) (hM : OB g 6 28 kd6 h0 o R I mL A) (ha : i32 a) (hb9 : i32 b) (hn : 0 ≤ I 0 ∧ I 0 ≤ 4) : MC l g base sa yX6_jug wsX6_jug ({ frames := 1, cells := 0, slots := 0, locals := 22 }) ([.ref o, .int (J a), .int (J b)]) h0 (fun r h' => Fr (FP 28 kd6 o R) h0 h' ∧ ((¬ (1 ≤ a ∧ a ≤ 10 ∧ 0 ≤ b ∧ b ≤ a) ∧ r = some (.int (J (-2))) ∧ OB g 6 28 kd6 h' o R I mL A) ∨ ((1 ≤ a ∧ a ≤ 10 ∧ 0 ≤ b ∧ b ≤ a) ∧ I 0 = 4 ∧ r = some (.int (J (-4))) ∧ OB g 6 28 kd6 h' o R I mL A) ∨ ((1 ≤ a ∧ a ≤ 10 ∧ 0 ≤ b ∧ b ≤ a) ∧ I 0 < 4 ∧ r = some (.int (J (I 0))) ∧ OB g 6 28 kd6 h' o R (va_up I 0 (I 0 + 1)) mL (va_up (va_up A 1 (uf (A 1) (I 0) a)) 2 (uf (A 2) (I 0) b))))) := by
  refine Met.ofW (cc := cX6_jug) (maxL := 3) (ret := (some .int)) (by decide) rfl ?_
  intro p e s m args below meth c s₁ B hml hv
  obtain ⟨rfl, hk, hW⟩ := hv
  have hx := B.exec
  have hb := B.bytes
  have hr := B.returns
  have hts := atoms_spec (ws := wsX6_jug) B.pre
  have hown : s.vm.findClass RX6 = some m.cls := findClass_of_methodNamed B.named
  have hlocks := B.notSynchronized
  have hfX6 : ∀ w ∈ wsX60, w.before ([.ref o, .int (J a), .int (J b)]).toArray s = true := fun w h => hts w (List.mem_cons_of_mem _ (List.mem_append_right _ h))
  have hS : va_S (Ab base) s.heap s.heap [] := va_S.rf
  have hl := lv_entry ([.ref o, .int (J a), .int (J b)]) (n := 3) (Nat.le_of_ble_eq_true rfl)
  rw [lg_entry_eq]
  generalize (lg_sl ([.ref o, .int (J a), .int (J b)]) ++ List.replicate (3 - (lg_sl ([.ref o, .int (J a), .int (J b)])).length) Slot.unset).toArray = ls at hl ⊢
  have hl : lv_has ls 3 [(0, .ref o), (1, .int (J a)), (2, .int (J b))] := hl
  have hF : Fr (FP 28 kd6 o R) h0 h0 := Fr.rf
  refine lv_iload_n hx hb dX6_jug_0 rfl (lv_at hl 1 rfl) ?_
  refine lv_iconst (v := J (1)) hx hb dX6_jug_1 rfl ?_
  refine lv_bipush (v := J (10)) hx hb dX6_jug_2 (by decide) ?_
  refine g_callS (As := [.int (J a), .int (J 1), .int (J 10)]) (rest := []) ⟨hx, hb, hml, hown, hts⟩ (m_in l g base sa h0 a 1 10 ha ⟨by decide, by decide⟩ ⟨by decide, by decide⟩) (va_cwS 3 hts gX6_jug_X6_in rfl rfl rfl (by decide +kernel) ⟨Nat.le_of_ble_eq_true rfl, Nat.le_of_ble_eq_true rfl⟩) hk hW hS rfl hl.1 (Nat.le_of_ble_eq_true rfl) dX6_jug_4 ⟨Nat.le_of_ble_eq_true rfl, Nat.le_of_ble_eq_true rfl⟩ (fun r9 h9 H locs hp hW hS => ?_)
  obtain ⟨rfl, e9⟩ := hp
  rw [e9] at hW
  refine W.eq (g2 := F0 m 7 ls [.int (J (p_in a 1 10))]) rfl ?_
  have hpr_7 := p_in_r a 1 10
  refine j_if_eq (x := p_in a 1 10) (tgt := 19) hx hb ⟨by omega, by omega⟩ dX6_jug_7 (by decide) (fun c_7 => ?_) (fun c_7 => ?_)
  · refine lv_bipush (v := J (-2)) hx hb dX6_jug_19 (by decide) ?_
    exact g_iret hx hb hr hW hS dX6_jug_21 hlocks (⟨hF, Or.inl ⟨by first | (have := p_in_0 c_16; omega) | (have := p_in_0 c_7; omega), rfl, hM⟩⟩)
  · have hq1 := p_in_1 c_7
    refine lv_iload_n hx hb dX6_jug_10 rfl (lv_at hl 2 rfl) ?_
    refine lv_iconst (v := J (0)) hx hb dX6_jug_11 rfl ?_
    refine lv_iload_n hx hb dX6_jug_12 rfl (lv_at hl 1 rfl) ?_
    refine g_callS (As := [.int (J b), .int (J 0), .int (J a)]) (rest := []) ⟨hx, hb, hml, hown, hts⟩ (m_in l g base sa h0 b 0 a hb9 ⟨by decide, by decide⟩ ha) (va_cwS 3 hts gX6_jug_X6_in rfl rfl rfl (by decide +kernel) ⟨Nat.le_of_ble_eq_true rfl, Nat.le_of_ble_eq_true rfl⟩) hk hW hS rfl hl.1 (Nat.le_of_ble_eq_true rfl) dX6_jug_13 ⟨Nat.le_of_ble_eq_true rfl, Nat.le_of_ble_eq_true rfl⟩ (fun r9 h9 H locs hp hW hS => ?_)
    obtain ⟨rfl, e9⟩ := hp
    rw [e9] at hW
    refine W.eq (g2 := F0 m 16 ls [.int (J (p_in b 0 a))]) rfl ?_
    have hpr_16 := p_in_r b 0 a
    refine j_if_ne (x := p_in b 0 a) (tgt := 22) hx hb ⟨by omega, by omega⟩ dX6_jug_16 (by decide) (fun c_16 => ?_) (fun c_16 => ?_)
    · have hq2 := p_in_1 c_16
      refine lv_aload_n hx hb dX6_jug_22 rfl (lv_at hl 0 rfl) ?_
      refine g_get (ci := 6) (C := RX6) (T := TX6) (N := 28) (v := .int (J (I 0))) hx hb hfX6 (fun _ h9 => h9) hown hk hW hM.1 rfl 0 (by decide) (hts (.fieldLink RX6 67 "JugsAndGlassesModel" "jugs" "I") (by decide +kernel)) rfl rfl dX6_jug_23 ?_
      refine lv_iconst (v := J (4)) hx hb dX6_jug_26 rfl ?_
      refine j_icmp_ne (x := I 0) (y := 4) (tgt := 33) hx hb ⟨by omega, by omega⟩ ⟨by decide, by decide⟩ dX6_jug_27 (by decide) (fun c_27 => ?_) (fun c_27 => ?_)
      · refine lv_aload_n hx hb dX6_jug_33 rfl (lv_at hl 0 rfl) ?_
        refine g_get (ci := 6) (C := RX6) (T := TX6) (N := 28) (v := .ref (R 1)) hx hb hfX6 (fun _ h9 => h9) hown hk hW hM.1 rfl 1 (by decide) (hts (.fieldLink RX6 7 "JugsAndGlassesModel" "size" "[I") (by decide +kernel)) rfl rfl dX6_jug_34 ?_
        refine lv_aload_n hx hb dX6_jug_37 rfl (lv_at hl 0 rfl) ?_
        refine g_get (ci := 6) (C := RX6) (T := TX6) (N := 28) (v := .int (J (I 0))) hx hb hfX6 (fun _ h9 => h9) hown hk hW hM.1 rfl 0 (by decide) (hts (.fieldLink RX6 67 "JugsAndGlassesModel" "jugs" "I") (by decide +kernel)) rfl rfl dX6_jug_38 ?_
        refine lv_iload_n hx hb dX6_jug_41 rfl (lv_at hl 1 rfl) ?_
        refine o_iast (A' := (va_up A 1 (uf (A 1) (I 0) a))) (i := I 0) (x := a) hx hb hk hW hS hM hF 1 (by decide) rfl (FP.a 1 (by decide) ⟨by decide, by decide⟩) (by omega) (show I 0 < 4 from by omega) (show 4 < 2147483648 from by omega) rfl dX6_jug_42 (fun h H locs hM hF hst hW hS => ?_)
        refine lv_aload_n hx hb dX6_jug_43 rfl (lv_at hl 0 rfl) ?_
        refine g_get (ci := 6) (C := RX6) (T := TX6) (N := 28) (v := .ref (R 2)) hx hb hfX6 (fun _ h9 => h9) hown hk hW hM.1 rfl 2 (by decide) (hts (.fieldLink RX6 13 "JugsAndGlassesModel" "held" "[I") (by decide +kernel)) rfl rfl dX6_jug_44 ?_
        refine lv_aload_n hx hb dX6_jug_47 rfl (lv_at hl 0 rfl) ?_
        refine g_get (ci := 6) (C := RX6) (T := TX6) (N := 28) (v := .int (J (I 0))) hx hb hfX6 (fun _ h9 => h9) hown hk hW hM.1 rfl 0 (by decide) (hts (.fieldLink RX6 67 "JugsAndGlassesModel" "jugs" "I") (by decide +kernel)) rfl rfl dX6_jug_48 ?_
        refine lv_iload_n hx hb dX6_jug_51 rfl (lv_at hl 2 rfl) ?_
        refine o_iast (A' := (va_up (va_up A 1 (uf (A 1) (I 0) a)) 2 (uf (A 2) (I 0) b))) (i := I 0) (x := b) hx hb hk hW hS hM hF 2 (by decide) rfl (FP.a 2 (by decide) ⟨by decide, by decide⟩) (by omega) (show I 0 < 4 from by omega) (show 4 < 2147483648 from by omega) rfl dX6_jug_52 (fun h H locs hM hF hst hW hS => ?_)
        refine lv_aload_n hx hb dX6_jug_53 rfl (lv_at hl 0 rfl) ?_
        refine lv_dup hx hb dX6_jug_54 rfl ?_
        refine g_get (ci := 6) (C := RX6) (T := TX6) (N := 28) (v := .int (J (I 0))) hx hb hfX6 (fun _ h9 => h9) hown hk hW hM.1 rfl 0 (by decide) (hts (.fieldLink RX6 67 "JugsAndGlassesModel" "jugs" "I") (by decide +kernel)) rfl rfl dX6_jug_55 ?_
        refine lv_iconst (v := J (1)) hx hb dX6_jug_58 rfl ?_
        refine j_iadd hx hb dX6_jug_59 ?_
        refine o_put (I' := (va_up I 0 ((I 0) + 1))) (ci := 6) (C := RX6) (T := TX6) (N := 28) (ty := .int) hx hb hfX6 (fun _ h9 => h9) tyX6 tyX6_ok nmX6 hown hk hW hS hM hF FP.o rfl 0 (by decide) rfl (hts (.fieldLink RX6 67 "JugsAndGlassesModel" "jugs" "I") (by decide +kernel)) rfl rfl (by decide +kernel) rfl rfl rfl dX6_jug_60 (fun h H locs hM hF hst hW hS => ?_)
        refine lv_aload_n hx hb dX6_jug_63 rfl (lv_at hl 0 rfl) ?_
        refine g_get (ci := 6) (C := RX6) (T := TX6) (N := 28) (v := .int (J ((I 0) + 1))) hx hb hfX6 (fun _ h9 => h9) hown hk hW hM.1 rfl 0 (by decide) (hts (.fieldLink RX6 67 "JugsAndGlassesModel" "jugs" "I") (by decide +kernel)) rfl rfl dX6_jug_64 ?_
        refine lv_iconst (v := J (1)) hx hb dX6_jug_67 rfl ?_
        refine j_isub hx hb dX6_jug_68 ?_
        exact g_iret hx hb hr hW hS dX6_jug_69 hlocks (⟨hF, Or.inr (Or.inr ⟨by omega, by omega, congrArg (fun q : Int => some (Value.int (J q))) (show (I 0 + 1) - 1 = I 0 from by omega), hM⟩)⟩)
      · refine lv_bipush (v := J (-4)) hx hb dX6_jug_30 (by decide) ?_
        exact g_iret hx hb hr hW hS dX6_jug_32 hlocks (⟨hF, Or.inr (Or.inl ⟨by omega, by omega, rfl, hM⟩)⟩)
    · refine lv_bipush (v := J (-2)) hx hb dX6_jug_19 (by decide) ?_
      exact g_iret hx hb hr hW hS dX6_jug_21 hlocks (⟨hF, Or.inl ⟨by first | (have := p_in_0 c_16; omega) | (have := p_in_0 c_7; omega), rfl, hM⟩⟩)

set_option maxHeartbeats 4000000 in
set_option maxRecDepth 100000 in
theorem m_set (l : Launch) (g : GX) (base : Nat) (sa : Nat → Nat) (h0 : Hp) (o : Nat) (R : Nat → Nat) (I : Nat → Int) (A : Nat → Int → Int) (a b : Int) (hM : OB g 6 28 kd6 h0 o R I mL A) (ha : i32 a) (hb9 : b = 0 ∨ b = 1) (h3 : I 3 = 0 ∨ I 3 = 1) (h4 : I 4 = 0 ∨ I 4 = 1) : MC l g base sa yX6_set wsX6_set ({ frames := 1, cells := 0, slots := 0, locals := 22 }) ([.ref o, .int (J a), .int (J b)]) h0 (fun r h' => Fr (FP 28 kd6 o R) h0 h' ∧ ((¬ (a = 0 ∨ a = 1) ∧ r = some (.int (J (-2))) ∧ OB g 6 28 kd6 h' o R I mL A) ∨ (a = 0 ∧ r = some (.int (J (I 3))) ∧ OB g 6 28 kd6 h' o R (va_up I 3 b) mL A) ∨ (a = 1 ∧ r = some (.int (J (I 4))) ∧ OB g 6 28 kd6 h' o R (va_up I 4 b) mL A))) := by
  refine Met.ofW (cc := cX6_set) (maxL := 4) (ret := (some .int)) (by decide) rfl ?_
  intro p e s m args below meth c s₁ B hml hv
  obtain ⟨rfl, hk, hW⟩ := hv
  have hx := B.exec
  have hb := B.bytes
  have hr := B.returns
  have hts := atoms_spec (ws := wsX6_set) B.pre
  have hown : s.vm.findClass RX6 = some m.cls := findClass_of_methodNamed B.named
  have hlocks := B.notSynchronized
  have hfX6 : ∀ w ∈ wsX60, w.before ([.ref o, .int (J a), .int (J b)]).toArray s = true := fun w h => hts w (List.mem_cons_of_mem _ (List.mem_append_right _ h))
  have hS : va_S (Ab base) s.heap s.heap [] := va_S.rf
  have hl := lv_entry ([.ref o, .int (J a), .int (J b)]) (n := 4) (Nat.le_of_ble_eq_true rfl)
  rw [lg_entry_eq]
  generalize (lg_sl ([.ref o, .int (J a), .int (J b)]) ++ List.replicate (4 - (lg_sl ([.ref o, .int (J a), .int (J b)])).length) Slot.unset).toArray = ls at hl ⊢
  have hl : lv_has ls 4 [(0, .ref o), (1, .int (J a)), (2, .int (J b))] := hl
  have hF : Fr (FP 28 kd6 o R) h0 h0 := Fr.rf
  refine lv_iload_n hx hb dX6_set_0 rfl (lv_at hl 1 rfl) ?_
  refine lv_iconst (v := J (0)) hx hb dX6_set_1 rfl ?_
  refine lv_iconst (v := J (1)) hx hb dX6_set_2 rfl ?_
  refine g_callS (As := [.int (J a), .int (J 0), .int (J 1)]) (rest := []) ⟨hx, hb, hml, hown, hts⟩ (m_in l g base sa h0 a 0 1 ha ⟨by decide, by decide⟩ ⟨by decide, by decide⟩) (va_cwS 3 hts gX6_set_X6_in rfl rfl rfl (by decide +kernel) ⟨Nat.le_of_ble_eq_true rfl, Nat.le_of_ble_eq_true rfl⟩) hk hW hS rfl hl.1 (Nat.le_of_ble_eq_true rfl) dX6_set_3 ⟨Nat.le_of_ble_eq_true rfl, Nat.le_of_ble_eq_true rfl⟩ (fun r9 h9 H locs hp hW hS => ?_)
  obtain ⟨rfl, e9⟩ := hp
  rw [e9] at hW
  refine W.eq (g2 := F0 m 6 ls [.int (J (p_in a 0 1))]) rfl ?_
  have hpr_6 := p_in_r a 0 1
  refine j_if_ne (x := p_in a 0 1) (tgt := 12) hx hb ⟨by omega, by omega⟩ dX6_set_6 (by decide) (fun c_6 => ?_) (fun c_6 => ?_)
  · have hq1 := p_in_1 c_6
    have cut_38 : ∀ (t : Int) (ls : Array Slot), (t = if a = 0 then I 3 else I 4) → (lv_has ls 4 [(0, .ref o), (1, .int (J a)), (2, .int (J b))]) → W p l e (headSpec wsX6_set ({ frames := 1, cells := 0, slots := 0, locals := 22 })).room s m ([.ref o, .int (J a), .int (J b)]).toArray below meth c H locs 0 0 (MQ below (QcM g base (fun r h' => Fr (FP 28 kd6 o R) h0 h' ∧ ((¬ (a = 0 ∨ a = 1) ∧ r = some (.int (J (-2))) ∧ OB g 6 28 kd6 h' o R I mL A) ∨ (a = 0 ∧ r = some (.int (J (I 3))) ∧ OB g 6 28 kd6 h' o R (va_up I 3 b) mL A) ∨ (a = 1 ∧ r = some (.int (J (I 4))) ∧ OB g 6 28 kd6 h' o R (va_up I 4 b) mL A)))) ([.ref o, .int (J a), .int (J b)]).toArray s (0) (0) (Ab base)) (F0 m 38 ls [.int (J t)]) := by
      intro t  ls et hl
      refine lv_istore_n (lv' := [(3, .int (J t)), (0, .ref o), (1, .int (J a)), (2, .int (J b))]) hx hb dX6_set_38 rfl hl (by decide) rfl (fun ls hl => ?_)
      refine lv_aload_n hx hb dX6_set_39 rfl (lv_at hl 1 rfl) ?_
      refine lv_iload_n hx hb dX6_set_40 rfl (lv_at hl 2 rfl) ?_
      refine j_if_ne (x := a) (tgt := 48) hx hb ⟨by omega, by omega⟩ dX6_set_41 (by decide) (fun c_41 => ?_) (fun c_41 => ?_)
      · refine lv_aload_n hx hb dX6_set_48 rfl (lv_at hl 1 rfl) ?_
        refine g_get (ci := 6) (C := RX6) (T := TX6) (N := 28) (v := .int (J (I 3))) hx hb hfX6 (fun _ h9 => h9) hown hk hW hM.1 rfl 3 (by decide) (hts (.fieldLink RX6 16 "JugsAndGlassesModel" "hasTap" "Z") (by decide +kernel)) rfl rfl dX6_set_49 ?_
        refine o_put (I' := (va_up I 3 (I 3))) (ci := 6) (C := RX6) (T := TX6) (N := 28) (ty := .boolean) hx hb hfX6 (fun _ h9 => h9) tyX6 tyX6_ok nmX6 hown hk hW hS hM hF FP.o rfl 3 (by decide) rfl (hts (.fieldLink RX6 16 "JugsAndGlassesModel" "hasTap" "Z") (by decide +kernel)) rfl rfl (by decide +kernel) (nb_n (by omega)) (nb_f (by omega)) rfl dX6_set_52 (fun h H locs hM hF hst hW hS => ?_)
        refine lv_aload_n hx hb dX6_set_55 rfl (lv_at hl 1 rfl) ?_
        refine lv_iload_n hx hb dX6_set_56 rfl (lv_at hl 2 rfl) ?_
        refine lv_iconst (v := J (1)) hx hb dX6_set_57 rfl ?_
        refine j_icmp_ne (x := a) (y := 1) (tgt := 65) hx hb ⟨by omega, by omega⟩ ⟨by decide, by decide⟩ dX6_set_58 (by decide) (fun c_58 => ?_) (fun c_58 => ?_)
        · refine lv_aload_n hx hb dX6_set_65 rfl (lv_at hl 1 rfl) ?_
          refine g_get (ci := 6) (C := RX6) (T := TX6) (N := 28) (v := .int (J (I 4))) hx hb hfX6 (fun _ h9 => h9) hown hk hW hM.1 rfl 4 (by decide) (hts (.fieldLink RX6 20 "JugsAndGlassesModel" "hasDrain" "Z") (by decide +kernel)) rfl rfl dX6_set_66 ?_
          refine o_put (I' := (va_up (va_up I 3 (I 3)) 4 (I 4))) (ci := 6) (C := RX6) (T := TX6) (N := 28) (ty := .boolean) hx hb hfX6 (fun _ h9 => h9) tyX6 tyX6_ok nmX6 hown hk hW hS hM hF FP.o rfl 4 (by decide) rfl (hts (.fieldLink RX6 20 "JugsAndGlassesModel" "hasDrain" "Z") (by decide +kernel)) rfl rfl (by decide +kernel) (nb_n (by omega)) (nb_f (by omega)) rfl dX6_set_69 (fun h H locs hM hF hst hW hS => ?_)
          refine lv_iload_n hx hb dX6_set_72 rfl (lv_at hl 0 rfl) ?_
          exact g_iret hx hb hr hW hS dX6_set_73 hlocks (⟨hF, by first | (exfalso; omega) | (refine Or.inr (Or.inl ⟨by omega, ?_, ?_⟩); (rw [et, if_pos (by omega)]); (refine (show va_up I 3 b = (va_up (va_up I 3 (I 3)) 4 (I 4)) from ?_) ▸ hM; funext j; unfold va_up; (repeat' split) <;> first | rfl | omega | simp_all)) | (refine Or.inr (Or.inr ⟨by omega, ?_, ?_⟩); (rw [et, if_neg (by omega)]); (refine (show va_up I 4 b = (va_up (va_up I 3 (I 3)) 4 (I 4)) from ?_) ▸ hM; funext j; unfold va_up; (repeat' split) <;> first | rfl | omega | simp_all))⟩)
        · refine lv_iload_n hx hb dX6_set_61 rfl (lv_at hl 3 rfl) ?_
          refine lv_goto (tgt := 69) hx hb dX6_set_62 (by decide) ?_
          refine o_put (I' := (va_up (va_up I 3 (I 3)) 4 (b))) (ci := 6) (C := RX6) (T := TX6) (N := 28) (ty := .boolean) hx hb hfX6 (fun _ h9 => h9) tyX6 tyX6_ok nmX6 hown hk hW hS hM hF FP.o rfl 4 (by decide) rfl (hts (.fieldLink RX6 20 "JugsAndGlassesModel" "hasDrain" "Z") (by decide +kernel)) rfl rfl (by decide +kernel) (nb_n (by omega)) (nb_f (by omega)) rfl dX6_set_69 (fun h H locs hM hF hst hW hS => ?_)
          refine lv_iload_n hx hb dX6_set_72 rfl (lv_at hl 0 rfl) ?_
          exact g_iret hx hb hr hW hS dX6_set_73 hlocks (⟨hF, by first | (exfalso; omega) | (refine Or.inr (Or.inl ⟨by omega, ?_, ?_⟩); (rw [et, if_pos (by omega)]); (refine (show va_up I 3 b = (va_up (va_up I 3 (I 3)) 4 (b)) from ?_) ▸ hM; funext j; unfold va_up; (repeat' split) <;> first | rfl | omega | simp_all)) | (refine Or.inr (Or.inr ⟨by omega, ?_, ?_⟩); (rw [et, if_neg (by omega)]); (refine (show va_up I 4 b = (va_up (va_up I 3 (I 3)) 4 (b)) from ?_) ▸ hM; funext j; unfold va_up; (repeat' split) <;> first | rfl | omega | simp_all))⟩)
      · refine lv_iload_n hx hb dX6_set_44 rfl (lv_at hl 3 rfl) ?_
        refine lv_goto (tgt := 52) hx hb dX6_set_45 (by decide) ?_
        refine o_put (I' := (va_up I 3 (b))) (ci := 6) (C := RX6) (T := TX6) (N := 28) (ty := .boolean) hx hb hfX6 (fun _ h9 => h9) tyX6 tyX6_ok nmX6 hown hk hW hS hM hF FP.o rfl 3 (by decide) rfl (hts (.fieldLink RX6 16 "JugsAndGlassesModel" "hasTap" "Z") (by decide +kernel)) rfl rfl (by decide +kernel) (nb_n (by omega)) (nb_f (by omega)) rfl dX6_set_52 (fun h H locs hM hF hst hW hS => ?_)
        refine lv_aload_n hx hb dX6_set_55 rfl (lv_at hl 1 rfl) ?_
        refine lv_iload_n hx hb dX6_set_56 rfl (lv_at hl 2 rfl) ?_
        refine lv_iconst (v := J (1)) hx hb dX6_set_57 rfl ?_
        refine j_icmp_ne (x := a) (y := 1) (tgt := 65) hx hb ⟨by omega, by omega⟩ ⟨by decide, by decide⟩ dX6_set_58 (by decide) (fun c_58 => ?_) (fun c_58 => ?_)
        · refine lv_aload_n hx hb dX6_set_65 rfl (lv_at hl 1 rfl) ?_
          refine g_get (ci := 6) (C := RX6) (T := TX6) (N := 28) (v := .int (J (I 4))) hx hb hfX6 (fun _ h9 => h9) hown hk hW hM.1 rfl 4 (by decide) (hts (.fieldLink RX6 20 "JugsAndGlassesModel" "hasDrain" "Z") (by decide +kernel)) rfl rfl dX6_set_66 ?_
          refine o_put (I' := (va_up (va_up I 3 (b)) 4 (I 4))) (ci := 6) (C := RX6) (T := TX6) (N := 28) (ty := .boolean) hx hb hfX6 (fun _ h9 => h9) tyX6 tyX6_ok nmX6 hown hk hW hS hM hF FP.o rfl 4 (by decide) rfl (hts (.fieldLink RX6 20 "JugsAndGlassesModel" "hasDrain" "Z") (by decide +kernel)) rfl rfl (by decide +kernel) (nb_n (by omega)) (nb_f (by omega)) rfl dX6_set_69 (fun h H locs hM hF hst hW hS => ?_)
          refine lv_iload_n hx hb dX6_set_72 rfl (lv_at hl 0 rfl) ?_
          exact g_iret hx hb hr hW hS dX6_set_73 hlocks (⟨hF, by first | (exfalso; omega) | (refine Or.inr (Or.inl ⟨by omega, ?_, ?_⟩); (rw [et, if_pos (by omega)]); (refine (show va_up I 3 b = (va_up (va_up I 3 (b)) 4 (I 4)) from ?_) ▸ hM; funext j; unfold va_up; (repeat' split) <;> first | rfl | omega | simp_all)) | (refine Or.inr (Or.inr ⟨by omega, ?_, ?_⟩); (rw [et, if_neg (by omega)]); (refine (show va_up I 4 b = (va_up (va_up I 3 (b)) 4 (I 4)) from ?_) ▸ hM; funext j; unfold va_up; (repeat' split) <;> first | rfl | omega | simp_all))⟩)
        · refine lv_iload_n hx hb dX6_set_61 rfl (lv_at hl 3 rfl) ?_
          refine lv_goto (tgt := 69) hx hb dX6_set_62 (by decide) ?_
          refine o_put (I' := (va_up (va_up I 3 (b)) 4 (b))) (ci := 6) (C := RX6) (T := TX6) (N := 28) (ty := .boolean) hx hb hfX6 (fun _ h9 => h9) tyX6 tyX6_ok nmX6 hown hk hW hS hM hF FP.o rfl 4 (by decide) rfl (hts (.fieldLink RX6 20 "JugsAndGlassesModel" "hasDrain" "Z") (by decide +kernel)) rfl rfl (by decide +kernel) (nb_n (by omega)) (nb_f (by omega)) rfl dX6_set_69 (fun h H locs hM hF hst hW hS => ?_)
          refine lv_iload_n hx hb dX6_set_72 rfl (lv_at hl 0 rfl) ?_
          exact g_iret hx hb hr hW hS dX6_set_73 hlocks (⟨hF, by first | (exfalso; omega) | (refine Or.inr (Or.inl ⟨by omega, ?_, ?_⟩); (rw [et, if_pos (by omega)]); (refine (show va_up I 3 b = (va_up (va_up I 3 (b)) 4 (b)) from ?_) ▸ hM; funext j; unfold va_up; (repeat' split) <;> first | rfl | omega | simp_all)) | (refine Or.inr (Or.inr ⟨by omega, ?_, ?_⟩); (rw [et, if_neg (by omega)]); (refine (show va_up I 4 b = (va_up (va_up I 3 (b)) 4 (b)) from ?_) ▸ hM; funext j; unfold va_up; (repeat' split) <;> first | rfl | omega | simp_all))⟩)
    refine lv_iload_n hx hb dX6_set_12 rfl (lv_at hl 1 rfl) ?_
    refine j_if_ne (x := a) (tgt := 26) hx hb ⟨by omega, by omega⟩ dX6_set_13 (by decide) (fun c_13 => ?_) (fun c_13 => ?_)
    · refine lv_aload_n hx hb dX6_set_26 rfl (lv_at hl 0 rfl) ?_
      refine g_get (ci := 6) (C := RX6) (T := TX6) (N := 28) (v := .int (J (I 4))) hx hb hfX6 (fun _ h9 => h9) hown hk hW hM.1 rfl 4 (by decide) (hts (.fieldLink RX6 20 "JugsAndGlassesModel" "hasDrain" "Z") (by decide +kernel)) rfl rfl dX6_set_27 ?_
      refine j_if_eq (x := I 4) (tgt := 37) hx hb ⟨by omega, by omega⟩ dX6_set_30 (by decide) (fun c_30 => ?_) (fun c_30 => ?_)
      · refine lv_iconst (v := J (0)) hx hb dX6_set_37 rfl ?_
        exact cut_38 _  ls (by split <;> omega) (lv_sub hl [0, 1, 2] rfl)
      · refine lv_iconst (v := J (1)) hx hb dX6_set_33 rfl ?_
        refine lv_goto (tgt := 38) hx hb dX6_set_34 (by decide) ?_
        exact cut_38 _  ls (by split <;> omega) (lv_sub hl [0, 1, 2] rfl)
    · refine lv_aload_n hx hb dX6_set_16 rfl (lv_at hl 0 rfl) ?_
      refine g_get (ci := 6) (C := RX6) (T := TX6) (N := 28) (v := .int (J (I 3))) hx hb hfX6 (fun _ h9 => h9) hown hk hW hM.1 rfl 3 (by decide) (hts (.fieldLink RX6 16 "JugsAndGlassesModel" "hasTap" "Z") (by decide +kernel)) rfl rfl dX6_set_17 ?_
      refine j_if_eq (x := I 3) (tgt := 37) hx hb ⟨by omega, by omega⟩ dX6_set_20 (by decide) (fun c_20 => ?_) (fun c_20 => ?_)
      · refine lv_iconst (v := J (0)) hx hb dX6_set_37 rfl ?_
        exact cut_38 _  ls (by split <;> omega) (lv_sub hl [0, 1, 2] rfl)
      · refine lv_goto (tgt := 33) hx hb dX6_set_23 (by decide) ?_
        refine lv_iconst (v := J (1)) hx hb dX6_set_33 rfl ?_
        refine lv_goto (tgt := 38) hx hb dX6_set_34 (by decide) ?_
        exact cut_38 _  ls (by split <;> omega) (lv_sub hl [0, 1, 2] rfl)
  · refine lv_bipush (v := J (-2)) hx hb dX6_set_9 (by decide) ?_
    exact g_iret hx hb hr hW hS dX6_set_11 hlocks (⟨hF, Or.inl ⟨by have := p_in_0 c_6; omega, rfl, hM⟩⟩)

set_option maxHeartbeats 4000000 in
set_option maxRecDepth 100000 in
theorem m_put (l : Launch) (g : GX) (base : Nat) (sa : Nat → Nat) (h0 : Hp) (o : Nat) (R : Nat → Nat) (I : Nat → Int) (A : Nat → Int → Int) (a b : Int) (hM : OB g 6 28 kd6 h0 o R I mL A) (ha : i32 a) (hb9 : i32 b) (hn : 0 ≤ I 0 ∧ I 0 ≤ 4) (hs : ∀ i, 0 ≤ i → i < I 0 → 1 ≤ A 1 i ∧ A 1 i ≤ 10) : MC l g base sa yX6_put wsX6_put ({ frames := 2, cells := 0, slots := 0, locals := 43 }) ([.ref o, .int (J a), .int (J b)]) h0 (fun r h' => Fr (FP 28 kd6 o R) h0 h' ∧ ((¬ (0 ≤ a ∧ a < I 0 ∧ 0 ≤ b ∧ b ≤ A 1 a) ∧ r = some (.int (J (-2))) ∧ OB g 6 28 kd6 h' o R I mL A) ∨ ((0 ≤ a ∧ a < I 0 ∧ 0 ≤ b ∧ b ≤ A 1 a) ∧ r = some (.int (J (A 2 a))) ∧ OB g 6 28 kd6 h' o R I mL (va_up A 2 (uf (A 2) a b))))) := by
  refine Met.ofW (cc := cX6_put) (maxL := 4) (ret := (some .int)) (by decide) rfl ?_
  intro p e s m args below meth c s₁ B hml hv
  obtain ⟨rfl, hk, hW⟩ := hv
  have hx := B.exec
  have hb := B.bytes
  have hr := B.returns
  have hts := atoms_spec (ws := wsX6_put) B.pre
  have hown : s.vm.findClass RX6 = some m.cls := findClass_of_methodNamed B.named
  have hlocks := B.notSynchronized
  have hfX6 : ∀ w ∈ wsX60, w.before ([.ref o, .int (J a), .int (J b)]).toArray s = true := fun w h => hts w (List.mem_cons_of_mem _ (List.mem_append_right _ h))
  have hS : va_S (Ab base) s.heap s.heap [] := va_S.rf
  have hl := lv_entry ([.ref o, .int (J a), .int (J b)]) (n := 4) (Nat.le_of_ble_eq_true rfl)
  rw [lg_entry_eq]
  generalize (lg_sl ([.ref o, .int (J a), .int (J b)]) ++ List.replicate (4 - (lg_sl ([.ref o, .int (J a), .int (J b)])).length) Slot.unset).toArray = ls at hl ⊢
  have hl : lv_has ls 4 [(0, .ref o), (1, .int (J a)), (2, .int (J b))] := hl
  have hF : Fr (FP 28 kd6 o R) h0 h0 := Fr.rf
  refine lv_aload_n hx hb dX6_put_0 rfl (lv_at hl 0 rfl) ?_
  refine lv_iload_n hx hb dX6_put_1 rfl (lv_at hl 1 rfl) ?_
  refine g_callV (As := [.int (J a)]) (rest := []) (b := o) (ci := 6) (C := RX6) (T := TX6) (N := 28) ⟨hx, hb, hml, hown, hts⟩ (m_isJug l g base sa h0 o R I A a hM ha hn) (cwV 1 hts gX6_put_X6_isJug rfl rfl rfl (by decide +kernel) ⟨Nat.le_of_ble_eq_true rfl, Nat.le_of_ble_eq_true rfl⟩) hk hW hS hM.1 rfl rfl hl.1 (Nat.le_of_ble_eq_true rfl) dX6_put_2 ⟨Nat.le_of_ble_eq_true rfl, Nat.le_of_ble_eq_true rfl⟩ (fun r9 h9 H locs hp hW hS => ?_)
  obtain ⟨rfl, e9⟩ := hp
  rw [e9] at hW
  refine W.eq (g2 := F0 m 5 ls [.int (J (p_in a 0 (I 0 - 1)))]) rfl ?_
  have hpr_5 := p_in_r a 0 (I 0 - 1)
  refine j_if_eq (x := p_in a 0 (I 0 - 1)) (tgt := 22) hx hb ⟨by omega, by omega⟩ dX6_put_5 (by decide) (fun c_5 => ?_) (fun c_5 => ?_)
  · refine lv_bipush (v := J (-2)) hx hb dX6_put_22 (by decide) ?_
    exact g_iret hx hb hr hW hS dX6_put_24 hlocks (⟨hF, Or.inl ⟨by first | (have := p_in_0 c_19; omega) | (have := p_in_0 c_5; omega), rfl, hM⟩⟩)
  · have hq1 := p_in_1 c_5
    have hq3 := hs a (by omega) (by omega)
    refine lv_iload_n hx hb dX6_put_8 rfl (lv_at hl 2 rfl) ?_
    refine lv_iconst (v := J (0)) hx hb dX6_put_9 rfl ?_
    refine lv_aload_n hx hb dX6_put_10 rfl (lv_at hl 0 rfl) ?_
    refine g_get (ci := 6) (C := RX6) (T := TX6) (N := 28) (v := .ref (R 1)) hx hb hfX6 (fun _ h9 => h9) hown hk hW hM.1 rfl 1 (by decide) (hts (.fieldLink RX6 7 "JugsAndGlassesModel" "size" "[I") (by decide +kernel)) rfl rfl dX6_put_11 ?_
    refine lv_iload_n hx hb dX6_put_14 rfl (lv_at hl 1 rfl) ?_
    refine g_iald (n := 4) (f := A 1) (i := a) hx hb hk hW (hM.ai 1 (by decide) rfl) (by omega) (by omega) (by omega) dX6_put_15 ?_
    refine g_callS (As := [.int (J b), .int (J 0), .int (J (A 1 a))]) (rest := []) ⟨hx, hb, hml, hown, hts⟩ (m_in l g base sa h0 b 0 (A 1 a) hb9 ⟨by decide, by decide⟩ ⟨by omega, by omega⟩) (va_cwS 3 hts gX6_put_X6_in rfl rfl rfl (by decide +kernel) ⟨Nat.le_of_ble_eq_true rfl, Nat.le_of_ble_eq_true rfl⟩) hk hW hS rfl hl.1 (Nat.le_of_ble_eq_true rfl) dX6_put_16 ⟨Nat.le_of_ble_eq_true rfl, Nat.le_of_ble_eq_true rfl⟩ (fun r9 h9 H locs hp hW hS => ?_)
    obtain ⟨rfl, e9⟩ := hp
    rw [e9] at hW
    refine W.eq (g2 := F0 m 19 ls [.int (J (p_in b 0 (A 1 a)))]) rfl ?_
    have hpr_19 := p_in_r b 0 (A 1 a)
    refine j_if_ne (x := p_in b 0 (A 1 a)) (tgt := 25) hx hb ⟨by omega, by omega⟩ dX6_put_19 (by decide) (fun c_19 => ?_) (fun c_19 => ?_)
    · have hq2 := p_in_1 c_19
      refine lv_aload_n hx hb dX6_put_25 rfl (lv_at hl 0 rfl) ?_
      refine g_get (ci := 6) (C := RX6) (T := TX6) (N := 28) (v := .ref (R 2)) hx hb hfX6 (fun _ h9 => h9) hown hk hW hM.1 rfl 2 (by decide) (hts (.fieldLink RX6 13 "JugsAndGlassesModel" "held" "[I") (by decide +kernel)) rfl rfl dX6_put_26 ?_
      refine lv_iload_n hx hb dX6_put_29 rfl (lv_at hl 1 rfl) ?_
      refine g_iald (n := 4) (f := A 2) (i := a) hx hb hk hW (hM.ai 2 (by decide) rfl) (by omega) (by omega) (by omega) dX6_put_30 ?_
      refine lv_istore_n (lv' := [(3, .int (J (A 2 a))), (0, .ref o), (1, .int (J a)), (2, .int (J b))]) hx hb dX6_put_31 rfl hl (by decide) rfl (fun ls hl => ?_)
      refine lv_aload_n hx hb dX6_put_32 rfl (lv_at hl 1 rfl) ?_
      refine g_get (ci := 6) (C := RX6) (T := TX6) (N := 28) (v := .ref (R 2)) hx hb hfX6 (fun _ h9 => h9) hown hk hW hM.1 rfl 2 (by decide) (hts (.fieldLink RX6 13 "JugsAndGlassesModel" "held" "[I") (by decide +kernel)) rfl rfl dX6_put_33 ?_
      refine lv_iload_n hx hb dX6_put_36 rfl (lv_at hl 2 rfl) ?_
      refine lv_iload_n hx hb dX6_put_37 rfl (lv_at hl 3 rfl) ?_
      refine o_iast (A' := (va_up A 2 (uf (A 2) a b))) (i := a) (x := b) hx hb hk hW hS hM hF 2 (by decide) rfl (FP.a 2 (by decide) ⟨by decide, by decide⟩) (by omega) (show a < 4 from by omega) (show 4 < 2147483648 from by omega) rfl dX6_put_38 (fun h H locs hM hF hst hW hS => ?_)
      refine lv_iload_n hx hb dX6_put_39 rfl (lv_at hl 0 rfl) ?_
      exact g_iret hx hb hr hW hS dX6_put_40 hlocks (⟨hF, Or.inr ⟨by omega, rfl, hM⟩⟩)
    · refine lv_bipush (v := J (-2)) hx hb dX6_put_22 (by decide) ?_
      exact g_iret hx hb hr hW hS dX6_put_24 hlocks (⟨hF, Or.inl ⟨by first | (have := p_in_0 c_19; omega) | (have := p_in_0 c_5; omega), rfl, hM⟩⟩)

set_option maxHeartbeats 4000000 in
set_option maxRecDepth 100000 in
theorem m_holds (l : Launch) (g : GX) (base : Nat) (sa : Nat → Nat) (h0 : Hp) (o : Nat) (R : Nat → Nat) (I : Nat → Int) (A : Nat → Int → Int) (a : Int) (hM : OB g 6 28 kd6 h0 o R I mL A) (ha : i32 a) (hn : 0 ≤ I 0 ∧ I 0 ≤ 4) : MC l g base sa yX6_holds wsX6_holds ({ frames := 2, cells := 0, slots := 0, locals := 43 }) ([.ref o, .int (J a)]) h0 (fun r h' => r = some (.int (J (if 0 ≤ a ∧ a < I 0 then A 2 a else -2))) ∧ h' = h0) := by
  refine Met.ofW (cc := cX6_holds) (maxL := 2) (ret := (some .int)) (by decide) rfl ?_
  intro p e s m args below meth c s₁ B hml hv
  obtain ⟨rfl, hk, hW⟩ := hv
  have hx := B.exec
  have hb := B.bytes
  have hr := B.returns
  have hts := atoms_spec (ws := wsX6_holds) B.pre
  have hown : s.vm.findClass RX6 = some m.cls := findClass_of_methodNamed B.named
  have hlocks := B.notSynchronized
  have hfX6 : ∀ w ∈ wsX60, w.before ([.ref o, .int (J a)]).toArray s = true := fun w h => hts w (List.mem_cons_of_mem _ (List.mem_append_right _ h))
  have hS : va_S (Ab base) s.heap s.heap [] := va_S.rf
  have hl := lv_entry ([.ref o, .int (J a)]) (n := 2) (Nat.le_of_ble_eq_true rfl)
  rw [lg_entry_eq]
  generalize (lg_sl ([.ref o, .int (J a)]) ++ List.replicate (2 - (lg_sl ([.ref o, .int (J a)])).length) Slot.unset).toArray = ls at hl ⊢
  have hl : lv_has ls 2 [(0, .ref o), (1, .int (J a))] := hl
  refine lv_aload_n hx hb dX6_holds_0 rfl (lv_at hl 0 rfl) ?_
  refine lv_iload_n hx hb dX6_holds_1 rfl (lv_at hl 1 rfl) ?_
  refine g_callV (As := [.int (J a)]) (rest := []) (b := o) (ci := 6) (C := RX6) (T := TX6) (N := 28) ⟨hx, hb, hml, hown, hts⟩ (m_isJug l g base sa h0 o R I A a hM ha hn) (cwV 1 hts gX6_holds_X6_isJug rfl rfl rfl (by decide +kernel) ⟨Nat.le_of_ble_eq_true rfl, Nat.le_of_ble_eq_true rfl⟩) hk hW hS hM.1 rfl rfl hl.1 (Nat.le_of_ble_eq_true rfl) dX6_holds_2 ⟨Nat.le_of_ble_eq_true rfl, Nat.le_of_ble_eq_true rfl⟩ (fun r9 h9 H locs hp hW hS => ?_)
  obtain ⟨rfl, e9⟩ := hp
  rw [e9] at hW
  refine W.eq (g2 := F0 m 5 ls [.int (J (p_in a 0 (I 0 - 1)))]) rfl ?_
  have hpr_5 := p_in_r a 0 (I 0 - 1)
  refine j_if_eq (x := p_in a 0 (I 0 - 1)) (tgt := 17) hx hb ⟨by omega, by omega⟩ dX6_holds_5 (by decide) (fun c_5 => ?_) (fun c_5 => ?_)
  · refine lv_bipush (v := J (-2)) hx hb dX6_holds_17 (by decide) ?_
    exact g_iret hx hb hr hW hS dX6_holds_19 hlocks (⟨congrArg (fun z : Int => some (Value.int (J z))) (show (-2) = if 0 ≤ a ∧ a < I 0 then A 2 a else -2 from by first | (rw [if_pos (by omega)]) | (have := p_in_0 c_5; rw [if_neg (by omega)])), rfl⟩)
  · have hq1 := p_in_1 c_5
    refine lv_aload_n hx hb dX6_holds_8 rfl (lv_at hl 0 rfl) ?_
    refine g_get (ci := 6) (C := RX6) (T := TX6) (N := 28) (v := .ref (R 2)) hx hb hfX6 (fun _ h9 => h9) hown hk hW hM.1 rfl 2 (by decide) (hts (.fieldLink RX6 13 "JugsAndGlassesModel" "held" "[I") (by decide +kernel)) rfl rfl dX6_holds_9 ?_
    refine lv_iload_n hx hb dX6_holds_12 rfl (lv_at hl 1 rfl) ?_
    refine g_iald (n := 4) (f := A 2) (i := a) hx hb hk hW (hM.ai 2 (by decide) rfl) (by omega) (by omega) (by omega) dX6_holds_13 ?_
    refine lv_goto (tgt := 19) hx hb dX6_holds_14 (by decide) ?_
    exact g_iret hx hb hr hW hS dX6_holds_19 hlocks (⟨congrArg (fun z : Int => some (Value.int (J z))) (show A 2 a = if 0 ≤ a ∧ a < I 0 then A 2 a else -2 from by first | (rw [if_pos (by omega)]) | (have := p_in_0 c_5; rw [if_neg (by omega)])), rfl⟩)

set_option maxHeartbeats 4000000 in
set_option maxRecDepth 100000 in
theorem m_clear (l : Launch) (g : GX) (base : Nat) (sa : Nat → Nat) (h0 : Hp) (o : Nat) (R : Nat → Nat) (I : Nat → Int) (A : Nat → Int → Int) (hM : OB g 6 28 kd6 h0 o R I mL A) : MC l g base sa yX6_clear wsX6_clear ({ frames := 0, cells := 0, slots := 0, locals := 0 }) ([.ref o]) h0 (fun r h' => Fr (FP 28 kd6 o R) h0 h' ∧ r = some (.int (J (I 0))) ∧ OB g 6 28 kd6 h' o R (va_up I 0 0) mL A) := by
  refine Met.ofW (cc := cX6_clear) (maxL := 2) (ret := (some .int)) (by decide) rfl ?_
  intro p e s m args below meth c s₁ B hml hv
  obtain ⟨rfl, hk, hW⟩ := hv
  have hx := B.exec
  have hb := B.bytes
  have hr := B.returns
  have hts := atoms_spec (ws := wsX6_clear) B.pre
  have hown : s.vm.findClass RX6 = some m.cls := findClass_of_methodNamed B.named
  have hlocks := B.notSynchronized
  have hfX6 : ∀ w ∈ wsX60, w.before ([.ref o]).toArray s = true := fun w h => hts w (List.mem_cons_of_mem _ (List.mem_append_right _ h))
  have hS : va_S (Ab base) s.heap s.heap [] := va_S.rf
  have hl := lv_entry ([.ref o]) (n := 2) (Nat.le_of_ble_eq_true rfl)
  rw [lg_entry_eq]
  generalize (lg_sl ([.ref o]) ++ List.replicate (2 - (lg_sl ([.ref o])).length) Slot.unset).toArray = ls at hl ⊢
  have hl : lv_has ls 2 [(0, .ref o)] := hl
  have hF : Fr (FP 28 kd6 o R) h0 h0 := Fr.rf
  refine lv_aload_n hx hb dX6_clear_0 rfl (lv_at hl 0 rfl) ?_
  refine g_get (ci := 6) (C := RX6) (T := TX6) (N := 28) (v := .int (J (I 0))) hx hb hfX6 (fun _ h9 => h9) hown hk hW hM.1 rfl 0 (by decide) (hts (.fieldLink RX6 67 "JugsAndGlassesModel" "jugs" "I") (by decide +kernel)) rfl rfl dX6_clear_1 ?_
  refine lv_istore_n (lv' := [(1, .int (J (I 0))), (0, .ref o)]) hx hb dX6_clear_4 rfl hl (by decide) rfl (fun ls hl => ?_)
  refine lv_aload_n hx hb dX6_clear_5 rfl (lv_at hl 1 rfl) ?_
  refine lv_iconst (v := J (0)) hx hb dX6_clear_6 rfl ?_
  refine o_put (I' := (va_up I 0 (0))) (ci := 6) (C := RX6) (T := TX6) (N := 28) (ty := .int) hx hb hfX6 (fun _ h9 => h9) tyX6 tyX6_ok nmX6 hown hk hW hS hM hF FP.o rfl 0 (by decide) rfl (hts (.fieldLink RX6 67 "JugsAndGlassesModel" "jugs" "I") (by decide +kernel)) rfl rfl (by decide +kernel) rfl rfl rfl dX6_clear_7 (fun h H locs hM hF hst hW hS => ?_)
  refine lv_iload_n hx hb dX6_clear_10 rfl (lv_at hl 0 rfl) ?_
  exact g_iret hx hb hr hW hS dX6_clear_11 hlocks (⟨hF, rfl, hM⟩)

set_option maxHeartbeats 4000000 in
set_option maxRecDepth 100000 in
theorem m_smash (l : Launch) (g : GX) (base : Nat) (sa : Nat → Nat) (h0 : Hp) (o : Nat) (R : Nat → Nat) (I : Nat → Int) (A : Nat → Int → Int) (hM : OB g 6 28 kd6 h0 o R I mL A) : MC l g base sa yX6_smash wsX6_smash ({ frames := 0, cells := 0, slots := 0, locals := 0 }) ([.ref o]) h0 (fun r h' => Fr (FP 28 kd6 o R) h0 h' ∧ r = some (.int (J (I 5))) ∧ OB g 6 28 kd6 h' o R (va_up I 5 0) mL A) := by
  refine Met.ofW (cc := cX6_smash) (maxL := 2) (ret := (some .int)) (by decide) rfl ?_
  intro p e s m args below meth c s₁ B hml hv
  obtain ⟨rfl, hk, hW⟩ := hv
  have hx := B.exec
  have hb := B.bytes
  have hr := B.returns
  have hts := atoms_spec (ws := wsX6_smash) B.pre
  have hown : s.vm.findClass RX6 = some m.cls := findClass_of_methodNamed B.named
  have hlocks := B.notSynchronized
  have hfX6 : ∀ w ∈ wsX60, w.before ([.ref o]).toArray s = true := fun w h => hts w (List.mem_cons_of_mem _ (List.mem_append_right _ h))
  have hS : va_S (Ab base) s.heap s.heap [] := va_S.rf
  have hl := lv_entry ([.ref o]) (n := 2) (Nat.le_of_ble_eq_true rfl)
  rw [lg_entry_eq]
  generalize (lg_sl ([.ref o]) ++ List.replicate (2 - (lg_sl ([.ref o])).length) Slot.unset).toArray = ls at hl ⊢
  have hl : lv_has ls 2 [(0, .ref o)] := hl
  have hF : Fr (FP 28 kd6 o R) h0 h0 := Fr.rf
  refine lv_aload_n hx hb dX6_smash_0 rfl (lv_at hl 0 rfl) ?_
  refine g_get (ci := 6) (C := RX6) (T := TX6) (N := 28) (v := .int (J (I 5))) hx hb hfX6 (fun _ h9 => h9) hown hk hW hM.1 rfl 5 (by decide) (hts (.fieldLink RX6 155 "JugsAndGlassesModel" "glasses" "I") (by decide +kernel)) rfl rfl dX6_smash_1 ?_
  refine lv_istore_n (lv' := [(1, .int (J (I 5))), (0, .ref o)]) hx hb dX6_smash_4 rfl hl (by decide) rfl (fun ls hl => ?_)
  refine lv_aload_n hx hb dX6_smash_5 rfl (lv_at hl 1 rfl) ?_
  refine lv_iconst (v := J (0)) hx hb dX6_smash_6 rfl ?_
  refine o_put (I' := (va_up I 5 (0))) (ci := 6) (C := RX6) (T := TX6) (N := 28) (ty := .int) hx hb hfX6 (fun _ h9 => h9) tyX6 tyX6_ok nmX6 hown hk hW hS hM hF FP.o rfl 5 (by decide) rfl (hts (.fieldLink RX6 155 "JugsAndGlassesModel" "glasses" "I") (by decide +kernel)) rfl rfl (by decide +kernel) rfl rfl rfl dX6_smash_7 (fun h H locs hM hF hst hW hS => ?_)
  refine lv_iload_n hx hb dX6_smash_10 rfl (lv_at hl 0 rfl) ?_
  exact g_iret hx hb hr hW hS dX6_smash_11 hlocks (⟨hF, rfl, hM⟩)

set_option maxHeartbeats 4000000 in
set_option maxRecDepth 100000 in
theorem m_glass (l : Launch) (g : GX) (base : Nat) (sa : Nat → Nat) (h0 : Hp) (o : Nat) (R : Nat → Nat) (I : Nat → Int) (A : Nat → Int → Int) (a : Int) (hM : OB g 6 28 kd6 h0 o R I mL A) (ha : i32 a) (hn : 0 ≤ I 5 ∧ I 5 ≤ 3) : MC l g base sa yX6_glass wsX6_glass ({ frames := 1, cells := 0, slots := 0, locals := 22 }) ([.ref o, .int (J a)]) h0 (fun r h' => Fr (FP 28 kd6 o R) h0 h' ∧ ((¬ (1 ≤ a ∧ a ≤ 12) ∧ r = some (.int (J (-2))) ∧ OB g 6 28 kd6 h' o R I mL A) ∨ ((1 ≤ a ∧ a ≤ 12) ∧ I 5 = 3 ∧ r = some (.int (J (-4))) ∧ OB g 6 28 kd6 h' o R I mL A) ∨ ((1 ≤ a ∧ a ≤ 12) ∧ I 5 < 3 ∧ r = some (.int (J (I 5))) ∧ OB g 6 28 kd6 h' o R (va_up I 5 (I 5 + 1)) mL (va_up A 6 (uf (A 6) (I 5) a))))) := by
  refine Met.ofW (cc := cX6_glass) (maxL := 2) (ret := (some .int)) (by decide) rfl ?_
  intro p e s m args below meth c s₁ B hml hv
  obtain ⟨rfl, hk, hW⟩ := hv
  have hx := B.exec
  have hb := B.bytes
  have hr := B.returns
  have hts := atoms_spec (ws := wsX6_glass) B.pre
  have hown : s.vm.findClass RX6 = some m.cls := findClass_of_methodNamed B.named
  have hlocks := B.notSynchronized
  have hfX6 : ∀ w ∈ wsX60, w.before ([.ref o, .int (J a)]).toArray s = true := fun w h => hts w (List.mem_cons_of_mem _ (List.mem_append_right _ h))
  have hS : va_S (Ab base) s.heap s.heap [] := va_S.rf
  have hl := lv_entry ([.ref o, .int (J a)]) (n := 2) (Nat.le_of_ble_eq_true rfl)
  rw [lg_entry_eq]
  generalize (lg_sl ([.ref o, .int (J a)]) ++ List.replicate (2 - (lg_sl ([.ref o, .int (J a)])).length) Slot.unset).toArray = ls at hl ⊢
  have hl : lv_has ls 2 [(0, .ref o), (1, .int (J a))] := hl
  have hF : Fr (FP 28 kd6 o R) h0 h0 := Fr.rf
  refine lv_iload_n hx hb dX6_glass_0 rfl (lv_at hl 1 rfl) ?_
  refine lv_iconst (v := J (1)) hx hb dX6_glass_1 rfl ?_
  refine lv_bipush (v := J (12)) hx hb dX6_glass_2 (by decide) ?_
  refine g_callS (As := [.int (J a), .int (J 1), .int (J 12)]) (rest := []) ⟨hx, hb, hml, hown, hts⟩ (m_in l g base sa h0 a 1 12 ha ⟨by decide, by decide⟩ ⟨by decide, by decide⟩) (va_cwS 3 hts gX6_glass_X6_in rfl rfl rfl (by decide +kernel) ⟨Nat.le_of_ble_eq_true rfl, Nat.le_of_ble_eq_true rfl⟩) hk hW hS rfl hl.1 (Nat.le_of_ble_eq_true rfl) dX6_glass_4 ⟨Nat.le_of_ble_eq_true rfl, Nat.le_of_ble_eq_true rfl⟩ (fun r9 h9 H locs hp hW hS => ?_)
  obtain ⟨rfl, e9⟩ := hp
  rw [e9] at hW
  refine W.eq (g2 := F0 m 7 ls [.int (J (p_in a 1 12))]) rfl ?_
  have hpr_7 := p_in_r a 1 12
  refine j_if_ne (x := p_in a 1 12) (tgt := 13) hx hb ⟨by omega, by omega⟩ dX6_glass_7 (by decide) (fun c_7 => ?_) (fun c_7 => ?_)
  · have hq1 := p_in_1 c_7
    refine lv_aload_n hx hb dX6_glass_13 rfl (lv_at hl 0 rfl) ?_
    refine g_get (ci := 6) (C := RX6) (T := TX6) (N := 28) (v := .int (J (I 5))) hx hb hfX6 (fun _ h9 => h9) hown hk hW hM.1 rfl 5 (by decide) (hts (.fieldLink RX6 155 "JugsAndGlassesModel" "glasses" "I") (by decide +kernel)) rfl rfl dX6_glass_14 ?_
    refine lv_iconst (v := J (3)) hx hb dX6_glass_17 rfl ?_
    refine j_icmp_ne (x := I 5) (y := 3) (tgt := 24) hx hb ⟨by omega, by omega⟩ ⟨by decide, by decide⟩ dX6_glass_18 (by decide) (fun c_18 => ?_) (fun c_18 => ?_)
    · refine lv_aload_n hx hb dX6_glass_24 rfl (lv_at hl 0 rfl) ?_
      refine g_get (ci := 6) (C := RX6) (T := TX6) (N := 28) (v := .ref (R 6)) hx hb hfX6 (fun _ h9 => h9) hown hk hW hM.1 rfl 6 (by decide) (hts (.fieldLink RX6 23 "JugsAndGlassesModel" "span" "[I") (by decide +kernel)) rfl rfl dX6_glass_25 ?_
      refine lv_aload_n hx hb dX6_glass_28 rfl (lv_at hl 0 rfl) ?_
      refine g_get (ci := 6) (C := RX6) (T := TX6) (N := 28) (v := .int (J (I 5))) hx hb hfX6 (fun _ h9 => h9) hown hk hW hM.1 rfl 5 (by decide) (hts (.fieldLink RX6 155 "JugsAndGlassesModel" "glasses" "I") (by decide +kernel)) rfl rfl dX6_glass_29 ?_
      refine lv_iload_n hx hb dX6_glass_32 rfl (lv_at hl 1 rfl) ?_
      refine o_iast (A' := (va_up A 6 (uf (A 6) (I 5) a))) (i := I 5) (x := a) hx hb hk hW hS hM hF 6 (by decide) rfl (FP.a 6 (by decide) ⟨by decide, by decide⟩) (by omega) (show I 5 < 3 from by omega) (show 3 < 2147483648 from by omega) rfl dX6_glass_33 (fun h H locs hM hF hst hW hS => ?_)
      refine lv_aload_n hx hb dX6_glass_34 rfl (lv_at hl 0 rfl) ?_
      refine lv_dup hx hb dX6_glass_35 rfl ?_
      refine g_get (ci := 6) (C := RX6) (T := TX6) (N := 28) (v := .int (J (I 5))) hx hb hfX6 (fun _ h9 => h9) hown hk hW hM.1 rfl 5 (by decide) (hts (.fieldLink RX6 155 "JugsAndGlassesModel" "glasses" "I") (by decide +kernel)) rfl rfl dX6_glass_36 ?_
      refine lv_iconst (v := J (1)) hx hb dX6_glass_39 rfl ?_
      refine j_iadd hx hb dX6_glass_40 ?_
      refine o_put (I' := (va_up I 5 ((I 5) + 1))) (ci := 6) (C := RX6) (T := TX6) (N := 28) (ty := .int) hx hb hfX6 (fun _ h9 => h9) tyX6 tyX6_ok nmX6 hown hk hW hS hM hF FP.o rfl 5 (by decide) rfl (hts (.fieldLink RX6 155 "JugsAndGlassesModel" "glasses" "I") (by decide +kernel)) rfl rfl (by decide +kernel) rfl rfl rfl dX6_glass_41 (fun h H locs hM hF hst hW hS => ?_)
      refine lv_aload_n hx hb dX6_glass_44 rfl (lv_at hl 0 rfl) ?_
      refine g_get (ci := 6) (C := RX6) (T := TX6) (N := 28) (v := .int (J ((I 5) + 1))) hx hb hfX6 (fun _ h9 => h9) hown hk hW hM.1 rfl 5 (by decide) (hts (.fieldLink RX6 155 "JugsAndGlassesModel" "glasses" "I") (by decide +kernel)) rfl rfl dX6_glass_45 ?_
      refine lv_iconst (v := J (1)) hx hb dX6_glass_48 rfl ?_
      refine j_isub hx hb dX6_glass_49 ?_
      exact g_iret hx hb hr hW hS dX6_glass_50 hlocks (⟨hF, Or.inr (Or.inr ⟨by omega, by omega, congrArg (fun q : Int => some (Value.int (J q))) (show (I 5 + 1) - 1 = I 5 from by omega), hM⟩)⟩)
    · refine lv_bipush (v := J (-4)) hx hb dX6_glass_21 (by decide) ?_
      exact g_iret hx hb hr hW hS dX6_glass_23 hlocks (⟨hF, Or.inr (Or.inl ⟨by omega, by omega, rfl, hM⟩)⟩)
  · refine lv_bipush (v := J (-2)) hx hb dX6_glass_10 (by decide) ?_
    exact g_iret hx hb hr hW hS dX6_glass_12 hlocks (⟨hF, Or.inl ⟨by have := p_in_0 c_7; omega, rfl, hM⟩⟩)

set_option maxHeartbeats 4000000 in
set_option maxRecDepth 100000 in
theorem m_tryOwn (l : Launch) (g : GX) (base : Nat) (sa : Nat → Nat) (h0 : Hp) (o : Nat) (R : Nat → Nat) (I : Nat → Int) (A : Nat → Int → Int) (hM : OB g 6 28 kd6 h0 o R I mL A) (hn : 0 ≤ I 0 ∧ I 0 ≤ 4) (h3 : I 3 = 0 ∨ I 3 = 1) (h4 : I 4 = 0 ∨ I 4 = 1) : MC l g base sa yX6_tryOwn wsX6_tryOwn ({ frames := 0, cells := 0, slots := 0, locals := 0 }) ([.ref o]) h0 (fun r h' => r = none ∧ Fr (FP 28 kd6 o R) h0 h' ∧ OB g 6 28 kd6 h' o R (va_up (va_up (va_up I 7 (I 0)) 10 (I 3)) 11 (I 4)) mL (va_up (va_up A 8 (cpN (I 0) (A 1) (A 8))) 9 (cpN (I 0) (A 2) (A 9)))) := by
  refine Met.ofW (cc := cX6_tryOwn) (maxL := 2) (ret := none) (by decide) rfl ?_
  intro p e s m args below meth c s₁ B hml hv
  obtain ⟨rfl, hk, hW⟩ := hv
  have hx := B.exec
  have hb := B.bytes
  have hr := B.returns
  have hts := atoms_spec (ws := wsX6_tryOwn) B.pre
  have hown : s.vm.findClass RX6 = some m.cls := findClass_of_methodNamed B.named
  have hlocks := B.notSynchronized
  have hfX6 : ∀ w ∈ wsX60, w.before ([.ref o]).toArray s = true := fun w h => hts w (List.mem_cons_of_mem _ (List.mem_append_right _ h))
  have hS : va_S (Ab base) s.heap s.heap [] := va_S.rf
  have hl := lv_entry ([.ref o]) (n := 2) (Nat.le_of_ble_eq_true rfl)
  rw [lg_entry_eq]
  generalize (lg_sl ([.ref o]) ++ List.replicate (2 - (lg_sl ([.ref o])).length) Slot.unset).toArray = ls at hl ⊢
  have hl : lv_has ls 2 [(0, .ref o)] := hl
  have hF : Fr (FP 28 kd6 o R) h0 h0 := Fr.rf
  refine lv_aload_n hx hb dX6_tryOwn_0 rfl (lv_at hl 0 rfl) ?_
  refine lv_aload_n hx hb dX6_tryOwn_1 rfl (lv_at hl 0 rfl) ?_
  refine g_get (ci := 6) (C := RX6) (T := TX6) (N := 28) (v := .int (J (I 0))) hx hb hfX6 (fun _ h9 => h9) hown hk hW hM.1 rfl 0 (by decide) (hts (.fieldLink RX6 67 "JugsAndGlassesModel" "jugs" "I") (by decide +kernel)) rfl rfl dX6_tryOwn_2 ?_
  refine o_put (I' := (va_up I 7 (I 0))) (ci := 6) (C := RX6) (T := TX6) (N := 28) (ty := .int) hx hb hfX6 (fun _ h9 => h9) tyX6 tyX6_ok nmX6 hown hk hW hS hM hF FP.o rfl 7 (by decide) rfl (hts (.fieldLink RX6 79 "JugsAndGlassesModel" "tried" "I") (by decide +kernel)) rfl rfl (by decide +kernel) rfl rfl rfl dX6_tryOwn_5 (fun h H locs hM hF hst hW hS => ?_)
  refine lv_aload_n hx hb dX6_tryOwn_8 rfl (lv_at hl 0 rfl) ?_
  refine lv_aload_n hx hb dX6_tryOwn_9 rfl (lv_at hl 0 rfl) ?_
  refine g_get (ci := 6) (C := RX6) (T := TX6) (N := 28) (v := .int (J (I 3))) hx hb hfX6 (fun _ h9 => h9) hown hk hW hM.1 rfl 3 (by decide) (hts (.fieldLink RX6 16 "JugsAndGlassesModel" "hasTap" "Z") (by decide +kernel)) rfl rfl dX6_tryOwn_10 ?_
  refine o_put (I' := (va_up (va_up I 7 (I 0)) 10 (I 3))) (ci := 6) (C := RX6) (T := TX6) (N := 28) (ty := .boolean) hx hb hfX6 (fun _ h9 => h9) tyX6 tyX6_ok nmX6 hown hk hW hS hM hF FP.o rfl 10 (by decide) rfl (hts (.fieldLink RX6 82 "JugsAndGlassesModel" "tap" "Z") (by decide +kernel)) rfl rfl (by decide +kernel) (nb_n (h3)) (nb_f (h3)) rfl dX6_tryOwn_13 (fun h H locs hM hF hst hW hS => ?_)
  refine lv_aload_n hx hb dX6_tryOwn_16 rfl (lv_at hl 0 rfl) ?_
  refine lv_aload_n hx hb dX6_tryOwn_17 rfl (lv_at hl 0 rfl) ?_
  refine g_get (ci := 6) (C := RX6) (T := TX6) (N := 28) (v := .int (J (I 4))) hx hb hfX6 (fun _ h9 => h9) hown hk hW hM.1 rfl 4 (by decide) (hts (.fieldLink RX6 20 "JugsAndGlassesModel" "hasDrain" "Z") (by decide +kernel)) rfl rfl dX6_tryOwn_18 ?_
  refine o_put (I' := (va_up (va_up (va_up I 7 (I 0)) 10 (I 3)) 11 (I 4))) (ci := 6) (C := RX6) (T := TX6) (N := 28) (ty := .boolean) hx hb hfX6 (fun _ h9 => h9) tyX6 tyX6_ok nmX6 hown hk hW hS hM hF FP.o rfl 11 (by decide) rfl (hts (.fieldLink RX6 85 "JugsAndGlassesModel" "drain" "Z") (by decide +kernel)) rfl rfl (by decide +kernel) (nb_n (h4)) (nb_f (h4)) rfl dX6_tryOwn_21 (fun h H locs hM hF hst hW hS => ?_)
  refine lv_iconst (v := J (0)) hx hb dX6_tryOwn_24 rfl ?_
  refine lv_istore_n (lv' := [(1, .int (J 0)), (0, .ref o)]) hx hb dX6_tryOwn_25 rfl hl (by decide) rfl (fun ls hl => ?_)
  have loop_26 : ∀ (n : Nat) (i : Int) (f : Int → Int) (f2 : Int → Int) (h : Hp) (H : Heap) (locs : List Loc) (ls : Array Slot), I 0 - i < (n : Int) → (0 ≤ i ∧ i ≤ I 0) → (f = cpN i (A 1) (A 8)) → (f2 = cpN i (A 2) (A 9)) → (OB g 6 28 kd6 h o R (va_up (va_up (va_up I 7 (I 0)) 10 (I 3)) 11 (I 4)) mL (va_up (va_up A 8 (f)) 9 (f2))) → (Fr (FP 28 kd6 o R) h0 h) → (Wd g base h H) → (va_S (Ab base) s.heap H locs) → (lv_has ls 2 [(0, .ref o), (1, .int (J i))]) → W p l e (headSpec wsX6_tryOwn ({ frames := 0, cells := 0, slots := 0, locals := 0 })).room s m ([.ref o]).toArray below meth c H locs 0 0 (MQ below (QcM g base (fun r h' => r = none ∧ Fr (FP 28 kd6 o R) h0 h' ∧ OB g 6 28 kd6 h' o R (va_up (va_up (va_up I 7 (I 0)) 10 (I 3)) 11 (I 4)) mL (va_up (va_up A 8 (cpN (I 0) (A 1) (A 8))) 9 (cpN (I 0) (A 2) (A 9))))) ([.ref o]).toArray s (0) (0) (Ab base)) (F0 m 26 ls []) := by
    intro n
    induction n with
    | zero =>
      intro i f f2 h H locs ls hmu hi ef ef2 hM hF hW hS hl
      exact absurd hmu (by omega)
    | succ n ih =>
      intro i f f2 h H locs ls hmu hi ef ef2 hM hF hW hS hl
      have ih_26 := ih
      refine lv_iload_n hx hb dX6_tryOwn_26 rfl (lv_at hl 1 rfl) ?_
      refine lv_aload_n hx hb dX6_tryOwn_27 rfl (lv_at hl 0 rfl) ?_
      refine g_get (ci := 6) (C := RX6) (T := TX6) (N := 28) (v := .int (J (I 0))) hx hb hfX6 (fun _ h9 => h9) hown hk hW hM.1 rfl 0 (by decide) (hts (.fieldLink RX6 67 "JugsAndGlassesModel" "jugs" "I") (by decide +kernel)) rfl rfl dX6_tryOwn_28 ?_
      refine j_icmp_ge (x := i) (y := I 0) (tgt := 64) hx hb ⟨by omega, by omega⟩ ⟨by omega, by omega⟩ dX6_tryOwn_31 (by decide) (fun c_31 => ?_) (fun c_31 => ?_)
      · exact g_vret hx hb hr hW hS dX6_tryOwn_64 hlocks (⟨rfl, hF, by have e9 : i = I 0 := (by omega); rw [← e9, ← ef, ← ef2, e9]; exact hM⟩)
      · refine lv_aload_n hx hb dX6_tryOwn_34 rfl (lv_at hl 0 rfl) ?_
        refine g_get (ci := 6) (C := RX6) (T := TX6) (N := 28) (v := .ref (R 8)) hx hb hfX6 (fun _ h9 => h9) hown hk hW hM.1 rfl 8 (by decide) (hts (.fieldLink RX6 26 "JugsAndGlassesModel" "room" "[I") (by decide +kernel)) rfl rfl dX6_tryOwn_35 ?_
        refine lv_iload_n hx hb dX6_tryOwn_38 rfl (lv_at hl 1 rfl) ?_
        refine lv_aload_n hx hb dX6_tryOwn_39 rfl (lv_at hl 0 rfl) ?_
        refine g_get (ci := 6) (C := RX6) (T := TX6) (N := 28) (v := .ref (R 1)) hx hb hfX6 (fun _ h9 => h9) hown hk hW hM.1 rfl 1 (by decide) (hts (.fieldLink RX6 7 "JugsAndGlassesModel" "size" "[I") (by decide +kernel)) rfl rfl dX6_tryOwn_40 ?_
        refine lv_iload_n hx hb dX6_tryOwn_43 rfl (lv_at hl 1 rfl) ?_
        refine g_iald (n := 4) (f := A 1) (i := i) hx hb hk hW (hM.ai 1 (by decide) rfl) (by omega) (by omega) (by omega) dX6_tryOwn_44 ?_
        refine o_iast (A' := (va_up (va_up A 9 (f2)) 8 (uf f i (A 1 i)))) (i := i) (x := A 1 i) hx hb hk hW hS hM hF 8 (by decide) rfl (FP.a 8 (by decide) ⟨by decide, by decide⟩) (by omega) (show i < 4 from by omega) (show 4 < 2147483648 from by omega) (by funext j9; by_cases q9 : j9 = 8 <;> simp [q9, va_up]) dX6_tryOwn_45 (fun h H locs hM hF hst hW hS => ?_)
        refine lv_aload_n hx hb dX6_tryOwn_46 rfl (lv_at hl 0 rfl) ?_
        refine g_get (ci := 6) (C := RX6) (T := TX6) (N := 28) (v := .ref (R 9)) hx hb hfX6 (fun _ h9 => h9) hown hk hW hM.1 rfl 9 (by decide) (hts (.fieldLink RX6 29 "JugsAndGlassesModel" "has" "[I") (by decide +kernel)) rfl rfl dX6_tryOwn_47 ?_
        refine lv_iload_n hx hb dX6_tryOwn_50 rfl (lv_at hl 1 rfl) ?_
        refine lv_aload_n hx hb dX6_tryOwn_51 rfl (lv_at hl 0 rfl) ?_
        refine g_get (ci := 6) (C := RX6) (T := TX6) (N := 28) (v := .ref (R 2)) hx hb hfX6 (fun _ h9 => h9) hown hk hW hM.1 rfl 2 (by decide) (hts (.fieldLink RX6 13 "JugsAndGlassesModel" "held" "[I") (by decide +kernel)) rfl rfl dX6_tryOwn_52 ?_
        refine lv_iload_n hx hb dX6_tryOwn_55 rfl (lv_at hl 1 rfl) ?_
        refine g_iald (n := 4) (f := A 2) (i := i) hx hb hk hW (hM.ai 2 (by decide) rfl) (by omega) (by omega) (by omega) dX6_tryOwn_56 ?_
        refine o_iast (A' := (va_up (va_up A 8 (uf f i (A 1 i))) 9 (uf f2 i (A 2 i)))) (i := i) (x := A 2 i) hx hb hk hW hS hM hF 9 (by decide) rfl (FP.a 9 (by decide) ⟨by decide, by decide⟩) (by omega) (show i < 4 from by omega) (show 4 < 2147483648 from by omega) (by funext j9; by_cases q9 : j9 = 9 <;> simp [q9, va_up]) dX6_tryOwn_57 (fun h H locs hM hF hst hW hS => ?_)
        refine lv_iinc (v := J (i + 1)) (lv' := [(1, .int (J (i + 1))), (0, .ref o)]) hx hb dX6_tryOwn_58 hl (k := 1) rfl (J_inc (by omega)) (by decide) rfl (fun ls hl => ?_)
        refine lv_goto (tgt := 26) hx hb dX6_tryOwn_61 (by decide) ?_
        exact ih_26 (i + 1) (uf f i (A 1 i)) (uf f2 i (A 2 i)) h H locs ls (by omega) (by omega) (by rw [ef, cpN_s _ _ hi.1]) (by rw [ef2, cpN_s _ _ hi.1]) hM hF hW hS (lv_sub hl [1, 0] rfl)
  exact loop_26 ((I 0).toNat + 1) 0 (A 8) (A 9) h H locs ls (by omega) (by omega) ((cpN_0 _ _).symm) ((cpN_0 _ _).symm) (by rw [va_up_id, va_up_id]; exact hM) hF hW hS (lv_sub hl [1, 0] rfl)

set_option maxHeartbeats 4000000 in
set_option maxRecDepth 100000 in
theorem m_numberOf (l : Launch) (g : GX) (base : Nat) (sa : Nat → Nat) (h0 : Hp) (o : Nat) (R : Nat → Nat) (I : Nat → Int) (A : Nat → Int → Int) (hM : OB g 6 28 kd6 h0 o R I mL A) (hn : 0 ≤ I 7 ∧ I 7 ≤ 4) : MC l g base sa yX6_numberOf wsX6_numberOf ({ frames := 0, cells := 0, slots := 0, locals := 0 }) ([.ref o]) h0 (fun r h' => r = some (.int (J (nT (A 8) (A 9) (I 7)))) ∧ h' = h0) := by
  refine Met.ofW (cc := cX6_numberOf) (maxL := 3) (ret := (some .int)) (by decide) rfl ?_
  intro p e s m args below meth c s₁ B hml hv
  obtain ⟨rfl, hk, hW⟩ := hv
  have hx := B.exec
  have hb := B.bytes
  have hr := B.returns
  have hts := atoms_spec (ws := wsX6_numberOf) B.pre
  have hown : s.vm.findClass RX6 = some m.cls := findClass_of_methodNamed B.named
  have hlocks := B.notSynchronized
  have hfX6 : ∀ w ∈ wsX60, w.before ([.ref o]).toArray s = true := fun w h => hts w (List.mem_cons_of_mem _ (List.mem_append_right _ h))
  have hS : va_S (Ab base) s.heap s.heap [] := va_S.rf
  have hl := lv_entry ([.ref o]) (n := 3) (Nat.le_of_ble_eq_true rfl)
  rw [lg_entry_eq]
  generalize (lg_sl ([.ref o]) ++ List.replicate (3 - (lg_sl ([.ref o])).length) Slot.unset).toArray = ls at hl ⊢
  have hl : lv_has ls 3 [(0, .ref o)] := hl
  refine lv_iconst (v := J (0)) hx hb dX6_numberOf_0 rfl ?_
  refine lv_istore_n (lv' := [(1, .int (J 0)), (0, .ref o)]) hx hb dX6_numberOf_1 rfl hl (by decide) rfl (fun ls hl => ?_)
  refine lv_iconst (v := J (0)) hx hb dX6_numberOf_2 rfl ?_
  refine lv_istore_n (lv' := [(2, .int (J 0)), (1, .int (J 0)), (0, .ref o)]) hx hb dX6_numberOf_3 rfl hl (by decide) rfl (fun ls hl => ?_)
  have loop_4 : ∀ (n : Nat) (i : Int) (z : Int) (h : Hp) (H : Heap) (locs : List Loc) (ls : Array Slot), I 7 - i < (n : Int) → (0 ≤ i ∧ i ≤ I 7) → (z = nT (A 8) (A 9) i) → (h = h0) → (OB g 6 28 kd6 h o R I mL A) → (Wd g base h H) → (va_S (Ab base) s.heap H locs) → (lv_has ls 3 [(0, .ref o), (1, .int (J z)), (2, .int (J i))]) → W p l e (headSpec wsX6_numberOf ({ frames := 0, cells := 0, slots := 0, locals := 0 })).room s m ([.ref o]).toArray below meth c H locs 0 0 (MQ below (QcM g base (fun r h' => r = some (.int (J (nT (A 8) (A 9) (I 7)))) ∧ h' = h0)) ([.ref o]).toArray s (0) (0) (Ab base)) (F0 m 4 ls []) := by
    intro n
    induction n with
    | zero =>
      intro i z h H locs ls hmu hi ez eh hM hW hS hl
      exact absurd hmu (by omega)
    | succ n ih =>
      intro i z h H locs ls hmu hi ez eh hM hW hS hl
      have ih_4 := ih
      refine lv_iload_n hx hb dX6_numberOf_4 rfl (lv_at hl 2 rfl) ?_
      refine lv_aload_n hx hb dX6_numberOf_5 rfl (lv_at hl 0 rfl) ?_
      refine g_get (ci := 6) (C := RX6) (T := TX6) (N := 28) (v := .int (J (I 7))) hx hb hfX6 (fun _ h9 => h9) hown hk hW hM.1 rfl 7 (by decide) (hts (.fieldLink RX6 79 "JugsAndGlassesModel" "tried" "I") (by decide +kernel)) rfl rfl dX6_numberOf_6 ?_
      refine j_icmp_ge (x := i) (y := I 7) (tgt := 36) hx hb ⟨by omega, by omega⟩ ⟨by omega, by omega⟩ dX6_numberOf_9 (by decide) (fun c_9 => ?_) (fun c_9 => ?_)
      · refine lv_iload_n hx hb dX6_numberOf_36 rfl (lv_at hl 1 rfl) ?_
        exact g_iret hx hb hr hW hS dX6_numberOf_37 hlocks (⟨congrArg (fun q : Int => some (Value.int (J q))) (show z = nT (A 8) (A 9) (I 7) from by rw [ez]; congr 1; omega), eh⟩)
      · refine lv_iload_n hx hb dX6_numberOf_12 rfl (lv_at hl 1 rfl) ?_
        refine lv_aload_n hx hb dX6_numberOf_13 rfl (lv_at hl 0 rfl) ?_
        refine g_get (ci := 6) (C := RX6) (T := TX6) (N := 28) (v := .ref (R 8)) hx hb hfX6 (fun _ h9 => h9) hown hk hW hM.1 rfl 8 (by decide) (hts (.fieldLink RX6 26 "JugsAndGlassesModel" "room" "[I") (by decide +kernel)) rfl rfl dX6_numberOf_14 ?_
        refine lv_iload_n hx hb dX6_numberOf_17 rfl (lv_at hl 2 rfl) ?_
        refine g_iald (n := 4) (f := A 8) (i := i) hx hb hk hW (hM.ai 8 (by decide) rfl) (by omega) (by omega) (by omega) dX6_numberOf_18 ?_
        refine lv_iconst (v := J (1)) hx hb dX6_numberOf_19 rfl ?_
        refine j_iadd hx hb dX6_numberOf_20 ?_
        refine j_imul hx hb dX6_numberOf_21 ?_
        refine lv_aload_n hx hb dX6_numberOf_22 rfl (lv_at hl 0 rfl) ?_
        refine g_get (ci := 6) (C := RX6) (T := TX6) (N := 28) (v := .ref (R 9)) hx hb hfX6 (fun _ h9 => h9) hown hk hW hM.1 rfl 9 (by decide) (hts (.fieldLink RX6 29 "JugsAndGlassesModel" "has" "[I") (by decide +kernel)) rfl rfl dX6_numberOf_23 ?_
        refine lv_iload_n hx hb dX6_numberOf_26 rfl (lv_at hl 2 rfl) ?_
        refine g_iald (n := 4) (f := A 9) (i := i) hx hb hk hW (hM.ai 9 (by decide) rfl) (by omega) (by omega) (by omega) dX6_numberOf_27 ?_
        refine j_iadd hx hb dX6_numberOf_28 ?_
        refine lv_istore_n (lv' := [(1, .int (J ((z * ((A 8 i) + 1)) + (A 9 i)))), (0, .ref o), (2, .int (J i))]) hx hb dX6_numberOf_29 rfl hl (by decide) rfl (fun ls hl => ?_)
        refine lv_iinc (v := J (i + 1)) (lv' := [(2, .int (J (i + 1))), (1, .int (J ((z * ((A 8 i) + 1)) + (A 9 i)))), (0, .ref o)]) hx hb dX6_numberOf_30 hl (k := 2) rfl (J_inc (by omega)) (by decide) rfl (fun ls hl => ?_)
        refine lv_goto (tgt := 4) hx hb dX6_numberOf_33 (by decide) ?_
        exact ih_4 (i + 1) ((z * ((A 8 i) + 1)) + (A 9 i)) h H locs ls (by omega) (by omega) (by rw [nT_s _ _ hi.1, ez]) eh hM hW hS (lv_sub hl [2, 1, 0] rfl)
  exact loop_4 ((I 7).toNat + 1) 0 0 h0 s.heap [] ls (by omega) (by omega) rfl rfl hM hW hS (lv_sub hl [2, 1, 0] rfl)

set_option maxHeartbeats 4000000 in
set_option maxRecDepth 100000 in
theorem m_stateMany (l : Launch) (g : GX) (base : Nat) (sa : Nat → Nat) (h0 : Hp) (o : Nat) (R : Nat → Nat) (I : Nat → Int) (A : Nat → Int → Int) (hM : OB g 6 28 kd6 h0 o R I mL A) (hn : 0 ≤ I 7 ∧ I 7 ≤ 4) : MC l g base sa yX6_stateMany wsX6_stateMany ({ frames := 0, cells := 0, slots := 0, locals := 0 }) ([.ref o]) h0 (fun r h' => r = some (.int (J (mT (A 8) (I 7)))) ∧ h' = h0) := by
  refine Met.ofW (cc := cX6_stateMany) (maxL := 3) (ret := (some .int)) (by decide) rfl ?_
  intro p e s m args below meth c s₁ B hml hv
  obtain ⟨rfl, hk, hW⟩ := hv
  have hx := B.exec
  have hb := B.bytes
  have hr := B.returns
  have hts := atoms_spec (ws := wsX6_stateMany) B.pre
  have hown : s.vm.findClass RX6 = some m.cls := findClass_of_methodNamed B.named
  have hlocks := B.notSynchronized
  have hfX6 : ∀ w ∈ wsX60, w.before ([.ref o]).toArray s = true := fun w h => hts w (List.mem_cons_of_mem _ (List.mem_append_right _ h))
  have hS : va_S (Ab base) s.heap s.heap [] := va_S.rf
  have hl := lv_entry ([.ref o]) (n := 3) (Nat.le_of_ble_eq_true rfl)
  rw [lg_entry_eq]
  generalize (lg_sl ([.ref o]) ++ List.replicate (3 - (lg_sl ([.ref o])).length) Slot.unset).toArray = ls at hl ⊢
  have hl : lv_has ls 3 [(0, .ref o)] := hl
  refine lv_iconst (v := J (1)) hx hb dX6_stateMany_0 rfl ?_
  refine lv_istore_n (lv' := [(1, .int (J 1)), (0, .ref o)]) hx hb dX6_stateMany_1 rfl hl (by decide) rfl (fun ls hl => ?_)
  refine lv_iconst (v := J (0)) hx hb dX6_stateMany_2 rfl ?_
  refine lv_istore_n (lv' := [(2, .int (J 0)), (1, .int (J 1)), (0, .ref o)]) hx hb dX6_stateMany_3 rfl hl (by decide) rfl (fun ls hl => ?_)
  have loop_4 : ∀ (n : Nat) (i : Int) (z : Int) (h : Hp) (H : Heap) (locs : List Loc) (ls : Array Slot), I 7 - i < (n : Int) → (0 ≤ i ∧ i ≤ I 7) → (z = mT (A 8) i) → (h = h0) → (OB g 6 28 kd6 h o R I mL A) → (Wd g base h H) → (va_S (Ab base) s.heap H locs) → (lv_has ls 3 [(0, .ref o), (1, .int (J z)), (2, .int (J i))]) → W p l e (headSpec wsX6_stateMany ({ frames := 0, cells := 0, slots := 0, locals := 0 })).room s m ([.ref o]).toArray below meth c H locs 0 0 (MQ below (QcM g base (fun r h' => r = some (.int (J (mT (A 8) (I 7)))) ∧ h' = h0)) ([.ref o]).toArray s (0) (0) (Ab base)) (F0 m 4 ls []) := by
    intro n
    induction n with
    | zero =>
      intro i z h H locs ls hmu hi ez eh hM hW hS hl
      exact absurd hmu (by omega)
    | succ n ih =>
      intro i z h H locs ls hmu hi ez eh hM hW hS hl
      have ih_4 := ih
      refine lv_iload_n hx hb dX6_stateMany_4 rfl (lv_at hl 2 rfl) ?_
      refine lv_aload_n hx hb dX6_stateMany_5 rfl (lv_at hl 0 rfl) ?_
      refine g_get (ci := 6) (C := RX6) (T := TX6) (N := 28) (v := .int (J (I 7))) hx hb hfX6 (fun _ h9 => h9) hown hk hW hM.1 rfl 7 (by decide) (hts (.fieldLink RX6 79 "JugsAndGlassesModel" "tried" "I") (by decide +kernel)) rfl rfl dX6_stateMany_6 ?_
      refine j_icmp_ge (x := i) (y := I 7) (tgt := 29) hx hb ⟨by omega, by omega⟩ ⟨by omega, by omega⟩ dX6_stateMany_9 (by decide) (fun c_9 => ?_) (fun c_9 => ?_)
      · refine lv_iload_n hx hb dX6_stateMany_29 rfl (lv_at hl 1 rfl) ?_
        exact g_iret hx hb hr hW hS dX6_stateMany_30 hlocks (⟨congrArg (fun q : Int => some (Value.int (J q))) (show z = mT (A 8) (I 7) from by rw [ez]; congr 1; omega), eh⟩)
      · refine lv_iload_n hx hb dX6_stateMany_12 rfl (lv_at hl 1 rfl) ?_
        refine lv_aload_n hx hb dX6_stateMany_13 rfl (lv_at hl 0 rfl) ?_
        refine g_get (ci := 6) (C := RX6) (T := TX6) (N := 28) (v := .ref (R 8)) hx hb hfX6 (fun _ h9 => h9) hown hk hW hM.1 rfl 8 (by decide) (hts (.fieldLink RX6 26 "JugsAndGlassesModel" "room" "[I") (by decide +kernel)) rfl rfl dX6_stateMany_14 ?_
        refine lv_iload_n hx hb dX6_stateMany_17 rfl (lv_at hl 2 rfl) ?_
        refine g_iald (n := 4) (f := A 8) (i := i) hx hb hk hW (hM.ai 8 (by decide) rfl) (by omega) (by omega) (by omega) dX6_stateMany_18 ?_
        refine lv_iconst (v := J (1)) hx hb dX6_stateMany_19 rfl ?_
        refine j_iadd hx hb dX6_stateMany_20 ?_
        refine j_imul hx hb dX6_stateMany_21 ?_
        refine lv_istore_n (lv' := [(1, .int (J (z * ((A 8 i) + 1)))), (0, .ref o), (2, .int (J i))]) hx hb dX6_stateMany_22 rfl hl (by decide) rfl (fun ls hl => ?_)
        refine lv_iinc (v := J (i + 1)) (lv' := [(2, .int (J (i + 1))), (1, .int (J (z * ((A 8 i) + 1)))), (0, .ref o)]) hx hb dX6_stateMany_23 hl (k := 2) rfl (J_inc (by omega)) (by decide) rfl (fun ls hl => ?_)
        refine lv_goto (tgt := 4) hx hb dX6_stateMany_26 (by decide) ?_
        exact ih_4 (i + 1) (z * ((A 8 i) + 1)) h H locs ls (by omega) (by omega) (by rw [mT_s _ hi.1, ez]) eh hM hW hS (lv_sub hl [2, 1, 0] rfl)
  exact loop_4 ((I 7).toNat + 1) 0 1 h0 s.heap [] ls (by omega) (by omega) rfl rfl hM hW hS (lv_sub hl [2, 1, 0] rfl)

set_option maxHeartbeats 4000000 in
set_option maxRecDepth 100000 in
theorem m_layState (l : Launch) (g : GX) (base : Nat) (sa : Nat → Nat) (h0 : Hp) (o : Nat) (R : Nat → Nat) (I : Nat → Int) (A : Nat → Int → Int) (x : Int) (hM : OB g 6 28 kd6 h0 o R I mL A) (ha : 0 ≤ x ∧ x < 2147483648) (hn : 0 ≤ I 7 ∧ I 7 ≤ 4) (hs : ∀ i, 0 ≤ i → i < I 7 → 1 ≤ A 8 i ∧ A 8 i ≤ 10) : MC l g base sa yX6_layState wsX6_layState ({ frames := 0, cells := 0, slots := 0, locals := 0 }) ([.ref o, .int (J x)]) h0 (fun r h' => r = none ∧ Fr (FP 28 kd6 o R) h0 h' ∧ OB g 6 28 kd6 h' o R I mL (va_up A 9 (p_lay (I 7) (A 8) (A 9) x))) := by
  refine Met.ofW (cc := cX6_layState) (maxL := 4) (ret := none) (by decide) rfl ?_
  intro p e s m args below meth c s₁ B hml hv
  obtain ⟨rfl, hk, hW⟩ := hv
  have hx := B.exec
  have hb := B.bytes
  have hr := B.returns
  have hts := atoms_spec (ws := wsX6_layState) B.pre
  have hown : s.vm.findClass RX6 = some m.cls := findClass_of_methodNamed B.named
  have hlocks := B.notSynchronized
  have hfX6 : ∀ w ∈ wsX60, w.before ([.ref o, .int (J x)]).toArray s = true := fun w h => hts w (List.mem_cons_of_mem _ (List.mem_append_right _ h))
  have hS : va_S (Ab base) s.heap s.heap [] := va_S.rf
  have hl := lv_entry ([.ref o, .int (J x)]) (n := 4) (Nat.le_of_ble_eq_true rfl)
  rw [lg_entry_eq]
  generalize (lg_sl ([.ref o, .int (J x)]) ++ List.replicate (4 - (lg_sl ([.ref o, .int (J x)])).length) Slot.unset).toArray = ls at hl ⊢
  have hl : lv_has ls 4 [(0, .ref o), (1, .int (J x))] := hl
  have hF : Fr (FP 28 kd6 o R) h0 h0 := Fr.rf
  refine lv_iload_n hx hb dX6_layState_0 rfl (lv_at hl 1 rfl) ?_
  refine lv_istore_n (lv' := [(2, .int (J x)), (0, .ref o), (1, .int (J x))]) hx hb dX6_layState_1 rfl hl (by decide) rfl (fun ls hl => ?_)
  refine lv_aload_n hx hb dX6_layState_2 rfl (lv_at hl 1 rfl) ?_
  refine g_get (ci := 6) (C := RX6) (T := TX6) (N := 28) (v := .int (J (I 7))) hx hb hfX6 (fun _ h9 => h9) hown hk hW hM.1 rfl 7 (by decide) (hts (.fieldLink RX6 79 "JugsAndGlassesModel" "tried" "I") (by decide +kernel)) rfl rfl dX6_layState_3 ?_
  refine lv_iconst (v := J (1)) hx hb dX6_layState_6 rfl ?_
  refine j_isub hx hb dX6_layState_7 ?_
  refine lv_istore_n (lv' := [(3, .int (J ((I 7) - 1))), (2, .int (J x)), (0, .ref o), (1, .int (J x))]) hx hb dX6_layState_8 rfl hl (by decide) rfl (fun ls hl => ?_)
  have loop_9 : ∀ (n : Nat) (i : Int) (f : Int → Int) (z : Int) (h : Hp) (H : Heap) (locs : List Loc) (ls : Array Slot), i + 1 < (n : Int) → (-1 ≤ i ∧ i < I 7) → (f = p_layI (I 7) (i + 1) (A 8) (A 9) x) → (z = rT (rv (I 7) (A 8)) x (I 7 - 1 - i)) → (0 ≤ z ∧ z < 2147483648) → (OB g 6 28 kd6 h o R I mL (va_up A 9 (f))) → (Fr (FP 28 kd6 o R) h0 h) → (Wd g base h H) → (va_S (Ab base) s.heap H locs) → (lv_has ls 4 [(0, .ref o), (1, .int (J x)), (2, .int (J z)), (3, .int (J i))]) → W p l e (headSpec wsX6_layState ({ frames := 0, cells := 0, slots := 0, locals := 0 })).room s m ([.ref o, .int (J x)]).toArray below meth c H locs 0 0 (MQ below (QcM g base (fun r h' => r = none ∧ Fr (FP 28 kd6 o R) h0 h' ∧ OB g 6 28 kd6 h' o R I mL (va_up A 9 (p_lay (I 7) (A 8) (A 9) x)))) ([.ref o, .int (J x)]).toArray s (0) (0) (Ab base)) (F0 m 9 ls []) := by
    intro n
    induction n with
    | zero =>
      intro i f z h H locs ls hmu hi ef ez hz hM hF hW hS hl
      exact absurd hmu (by omega)
    | succ n ih =>
      intro i f z h H locs ls hmu hi ef ez hz hM hF hW hS hl
      have ih_9 := ih
      refine lv_iload_n hx hb dX6_layState_9 rfl (lv_at hl 3 rfl) ?_
      refine j_if_lt (x := i) (tgt := 46) hx hb ⟨by omega, by omega⟩ dX6_layState_10 (by decide) (fun c_10 => ?_) (fun c_10 => ?_)
      · exact g_vret hx hb hr hW hS dX6_layState_46 hlocks (⟨rfl, hF, by have e9 : i + 1 = 0 := (by omega); rw [e9] at ef; unfold p_lay; rw [← ef]; exact hM⟩)
      · have hsi := hs i (by omega) (by omega)
        refine lv_aload_n hx hb dX6_layState_13 rfl (lv_at hl 0 rfl) ?_
        refine g_get (ci := 6) (C := RX6) (T := TX6) (N := 28) (v := .ref (R 9)) hx hb hfX6 (fun _ h9 => h9) hown hk hW hM.1 rfl 9 (by decide) (hts (.fieldLink RX6 29 "JugsAndGlassesModel" "has" "[I") (by decide +kernel)) rfl rfl dX6_layState_14 ?_
        refine lv_iload_n hx hb dX6_layState_17 rfl (lv_at hl 3 rfl) ?_
        refine lv_iload_n hx hb dX6_layState_18 rfl (lv_at hl 2 rfl) ?_
        refine lv_aload_n hx hb dX6_layState_19 rfl (lv_at hl 0 rfl) ?_
        refine g_get (ci := 6) (C := RX6) (T := TX6) (N := 28) (v := .ref (R 8)) hx hb hfX6 (fun _ h9 => h9) hown hk hW hM.1 rfl 8 (by decide) (hts (.fieldLink RX6 26 "JugsAndGlassesModel" "room" "[I") (by decide +kernel)) rfl rfl dX6_layState_20 ?_
        refine lv_iload_n hx hb dX6_layState_23 rfl (lv_at hl 3 rfl) ?_
        refine g_iald (n := 4) (f := A 8) (i := i) hx hb hk hW (hM.ai 8 (by decide) rfl) (by omega) (by omega) (by omega) dX6_layState_24 ?_
        refine lv_iconst (v := J (1)) hx hb dX6_layState_25 rfl ?_
        refine j_iadd hx hb dX6_layState_26 ?_
        refine j_irem hx hb (by omega) (by omega) (by omega) (by omega) dX6_layState_27 ?_
        refine o_iast (A' := (va_up A 9 (uf f i (z % ((A 8 i) + 1))))) (i := i) (x := z % ((A 8 i) + 1)) hx hb hk hW hS hM hF 9 (by decide) rfl (FP.a 9 (by decide) ⟨by decide, by decide⟩) (by omega) (show i < 4 from by omega) (show 4 < 2147483648 from by omega) (bx_uu _ _ _ _) dX6_layState_28 (fun h H locs hM hF hst hW hS => ?_)
        refine lv_iload_n hx hb dX6_layState_29 rfl (lv_at hl 2 rfl) ?_
        refine lv_aload_n hx hb dX6_layState_30 rfl (lv_at hl 0 rfl) ?_
        refine g_get (ci := 6) (C := RX6) (T := TX6) (N := 28) (v := .ref (R 8)) hx hb hfX6 (fun _ h9 => h9) hown hk hW hM.1 rfl 8 (by decide) (hts (.fieldLink RX6 26 "JugsAndGlassesModel" "room" "[I") (by decide +kernel)) rfl rfl dX6_layState_31 ?_
        refine lv_iload_n hx hb dX6_layState_34 rfl (lv_at hl 3 rfl) ?_
        refine g_iald (n := 4) (f := A 8) (i := i) hx hb hk hW (hM.ai 8 (by decide) rfl) (by omega) (by omega) (by omega) dX6_layState_35 ?_
        refine lv_iconst (v := J (1)) hx hb dX6_layState_36 rfl ?_
        refine j_iadd hx hb dX6_layState_37 ?_
        refine j_idiv hx hb (by omega) (by omega) (by omega) (by omega) dX6_layState_38 ?_
        refine lv_istore_n (lv' := [(2, .int (J (z / ((A 8 i) + 1)))), (0, .ref o), (1, .int (J x)), (3, .int (J i))]) hx hb dX6_layState_39 rfl hl (by decide) rfl (fun ls hl => ?_)
        refine lv_iinc (v := J (i - 1)) (lv' := [(3, .int (J (i - 1))), (2, .int (J (z / ((A 8 i) + 1)))), (0, .ref o), (1, .int (J x))]) hx hb dX6_layState_40 hl (k := 3) rfl (J_inc (by omega)) (by decide) rfl (fun ls hl => ?_)
        refine lv_goto (tgt := 9) hx hb dX6_layState_43 (by decide) ?_
        exact ih_9 (i - 1) (uf f i (z % ((A 8 i) + 1))) (z / (A 8 i + 1)) h H locs ls (by omega) (by omega) (by rw [ef, ez, p_layI_s _ _ _ _ (by omega) (by omega), show i - 1 + 1 = i by omega]) (by rw [show I 7 - 1 - (i - 1) = (I 7 - 1 - i) + 1 by omega, rT_s _ _ (by omega), ez]; unfold rv; rw [show I 7 - 1 - (I 7 - 1 - i) = i by omega]) (div_rng hz.1 hz.2 (by omega)) hM hF hW hS (lv_sub hl [2, 3, 1, 0] rfl)
  exact loop_9 ((I 7).toNat + 1) (I 7 - 1) (A 9) x h0 s.heap [] ls (by omega) (by omega) (by unfold p_layI; funext j; rw [if_neg (by omega)]) (by rw [show I 7 - 1 - (I 7 - 1) = 0 by omega]; rfl) ha (by rw [va_up_id]; exact hM) hF hW hS (lv_sub hl [2, 3, 1, 0] rfl)
end
section
theorem zz_last : True := trivial
end
