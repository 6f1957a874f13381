section
-- ===== PART A: goes FIRST, ahead of the names: the tables' words, and 'selects' of the private methods out of them =====
/-- a private method of a class that the tables say can be made, by its rows of tables_1 -/
def lw_okq (q : MethodName × Nat) : Prop := (q.1.cls ≠ "java/lang/invoke/MethodHandle" ∧ q.1.cls ≠ "java/lang/invoke/VarHandle") ∧ Cond.instantiable q.1.cls q.2 ∈ tables_1 ∧ Cond.privateMethod q.1 ∈ tables_1 ∧ Cond.instanceMethod q.1 ∈ tables_1
theorem lw_p0 : lw_okq (⟨"FilterWaterworks", "change", "(IIII)I"⟩, 11) := ⟨⟨by decide +kernel, by decide +kernel⟩, List.mem_of_getElem? (i := 30) (by decide +kernel), List.mem_of_getElem? (i := 321) (by decide +kernel), List.mem_of_getElem? (i := 322) (by decide +kernel)⟩
theorem lw_p1 : lw_okq (⟨"FilterWaterworks$State", "refusalOfTank", "(I)I"⟩, 16) := ⟨⟨by decide +kernel, by decide +kernel⟩, List.mem_of_getElem? (i := 38) (by decide +kernel), List.mem_of_getElem? (i := 329) (by decide +kernel), List.mem_of_getElem? (i := 330) (by decide +kernel)⟩
theorem lw_p2 : lw_okq (⟨"FilterWaterworks$State", "refusalOfPipe", "(III)I"⟩, 16) := ⟨⟨by decide +kernel, by decide +kernel⟩, List.mem_of_getElem? (i := 38) (by decide +kernel), List.mem_of_getElem? (i := 336) (by decide +kernel), List.mem_of_getElem? (i := 337) (by decide +kernel)⟩
theorem lw_p3 : lw_okq (⟨"FilterWaterworks$State", "refusalOfPouring", "(III)I"⟩, 16) := ⟨⟨by decide +kernel, by decide +kernel⟩, List.mem_of_getElem? (i := 38) (by decide +kernel), List.mem_of_getElem? (i := 344) (by decide +kernel), List.mem_of_getElem? (i := 345) (by decide +kernel)⟩
theorem lw_p4 : lw_okq (⟨"FilterWaterworks$State", "refusalOfDrawing", "(II)I"⟩, 16) := ⟨⟨by decide +kernel, by decide +kernel⟩, List.mem_of_getElem? (i := 38) (by decide +kernel), List.mem_of_getElem? (i := 348) (by decide +kernel), List.mem_of_getElem? (i := 349) (by decide +kernel)⟩
theorem lw_p5 : lw_okq (⟨"FilterWaterworks$State", "refusalForPipe", "(IZ)I"⟩, 16) := ⟨⟨by decide +kernel, by decide +kernel⟩, List.mem_of_getElem? (i := 38) (by decide +kernel), List.mem_of_getElem? (i := 352) (by decide +kernel), List.mem_of_getElem? (i := 353) (by decide +kernel)⟩
theorem lw_p6 : lw_okq (⟨"java/lang/Throwable", "fillInStackTrace", "(I)Ljava/lang/Throwable;"⟩, 6) := ⟨⟨by decide +kernel, by decide +kernel⟩, List.mem_of_getElem? (i := 406) (by decide +kernel), List.mem_of_getElem? (i := 404) (by decide +kernel), List.mem_of_getElem? (i := 405) (by decide +kernel)⟩
theorem lw_p7 : lw_okq (⟨"FilterWaterworks$State", "newTank", "(I)I"⟩, 16) := ⟨⟨by decide +kernel, by decide +kernel⟩, List.mem_of_getElem? (i := 38) (by decide +kernel), List.mem_of_getElem? (i := 495) (by decide +kernel), List.mem_of_getElem? (i := 496) (by decide +kernel)⟩
theorem lw_p8 : lw_okq (⟨"FilterWaterworks$State", "newPipe", "(III)I"⟩, 16) := ⟨⟨by decide +kernel, by decide +kernel⟩, List.mem_of_getElem? (i := 38) (by decide +kernel), List.mem_of_getElem? (i := 499) (by decide +kernel), List.mem_of_getElem? (i := 500) (by decide +kernel)⟩
theorem lw_p9 : lw_okq (⟨"FilterWaterworks$State", "pourInto", "(III)I"⟩, 16) := ⟨⟨by decide +kernel, by decide +kernel⟩, List.mem_of_getElem? (i := 38) (by decide +kernel), List.mem_of_getElem? (i := 503) (by decide +kernel), List.mem_of_getElem? (i := 504) (by decide +kernel)⟩
theorem lw_p10 : lw_okq (⟨"FilterWaterworks$State", "drawFrom", "(II)I"⟩, 16) := ⟨⟨by decide +kernel, by decide +kernel⟩, List.mem_of_getElem? (i := 38) (by decide +kernel), List.mem_of_getElem? (i := 507) (by decide +kernel), List.mem_of_getElem? (i := 508) (by decide +kernel)⟩
theorem lw_p11 : lw_okq (⟨"FilterWaterworks$State", "passMinutes", "(I)I"⟩, 16) := ⟨⟨by decide +kernel, by decide +kernel⟩, List.mem_of_getElem? (i := 38) (by decide +kernel), List.mem_of_getElem? (i := 514) (by decide +kernel), List.mem_of_getElem? (i := 515) (by decide +kernel)⟩
theorem lw_p12 : lw_okq (⟨"FilterWaterworks$State", "let", "(IIII)V"⟩, 16) := ⟨⟨by decide +kernel, by decide +kernel⟩, List.mem_of_getElem? (i := 38) (by decide +kernel), List.mem_of_getElem? (i := 534) (by decide +kernel), List.mem_of_getElem? (i := 535) (by decide +kernel)⟩
theorem lw_p13 : lw_okq (⟨"FilterWaterworks", "needTank", "(I)V"⟩, 11) := ⟨⟨by decide +kernel, by decide +kernel⟩, List.mem_of_getElem? (i := 30) (by decide +kernel), List.mem_of_getElem? (i := 615) (by decide +kernel), List.mem_of_getElem? (i := 616) (by decide +kernel)⟩
theorem lw_p14 : lw_okq (⟨"FilterWaterworks", "needPipe", "(I)V"⟩, 11) := ⟨⟨by decide +kernel, by decide +kernel⟩, List.mem_of_getElem? (i := 30) (by decide +kernel), List.mem_of_getElem? (i := 635) (by decide +kernel), List.mem_of_getElem? (i := 636) (by decide +kernel)⟩
theorem lw_p15 : lw_okq (⟨"FilterWaterworks$Script", "readCommand", "()Z"⟩, 6) := ⟨⟨by decide +kernel, by decide +kernel⟩, List.mem_of_getElem? (i := 182) (by decide +kernel), List.mem_of_getElem? (i := 683) (by decide +kernel), List.mem_of_getElem? (i := 684) (by decide +kernel)⟩
def lw_privs_1 : List (MethodName × Nat) := [(⟨"FilterWaterworks", "change", "(IIII)I"⟩, 11), (⟨"FilterWaterworks$State", "refusalOfTank", "(I)I"⟩, 16), (⟨"FilterWaterworks$State", "refusalOfPipe", "(III)I"⟩, 16), (⟨"FilterWaterworks$State", "refusalOfPouring", "(III)I"⟩, 16), (⟨"FilterWaterworks$State", "refusalOfDrawing", "(II)I"⟩, 16), (⟨"FilterWaterworks$State", "refusalForPipe", "(IZ)I"⟩, 16), (⟨"java/lang/Throwable", "fillInStackTrace", "(I)Ljava/lang/Throwable;"⟩, 6), (⟨"FilterWaterworks$State", "newTank", "(I)I"⟩, 16), (⟨"FilterWaterworks$State", "newPipe", "(III)I"⟩, 16), (⟨"FilterWaterworks$State", "pourInto", "(III)I"⟩, 16), (⟨"FilterWaterworks$State", "drawFrom", "(II)I"⟩, 16), (⟨"FilterWaterworks$State", "passMinutes", "(I)I"⟩, 16), (⟨"FilterWaterworks$State", "let", "(IIII)V"⟩, 16), (⟨"FilterWaterworks", "needTank", "(I)V"⟩, 11), (⟨"FilterWaterworks", "needPipe", "(I)V"⟩, 11), (⟨"FilterWaterworks$Script", "readCommand", "()Z"⟩, 6)]
theorem lw_r1 : ∀ q ∈ lw_privs_1, lw_okq q := List.forall_mem_cons.mpr ⟨lw_p0, List.forall_mem_cons.mpr ⟨lw_p1, List.forall_mem_cons.mpr ⟨lw_p2, List.forall_mem_cons.mpr ⟨lw_p3, List.forall_mem_cons.mpr ⟨lw_p4, List.forall_mem_cons.mpr ⟨lw_p5, List.forall_mem_cons.mpr ⟨lw_p6, List.forall_mem_cons.mpr ⟨lw_p7, List.forall_mem_cons.mpr ⟨lw_p8, List.forall_mem_cons.mpr ⟨lw_p9, List.forall_mem_cons.mpr ⟨lw_p10, List.forall_mem_cons.mpr ⟨lw_p11, List.forall_mem_cons.mpr ⟨lw_p12, List.forall_mem_cons.mpr ⟨lw_p13, List.forall_mem_cons.mpr ⟨lw_p14, List.forall_mem_cons.mpr ⟨lw_p15, fun _ h => absurd h List.not_mem_nil⟩⟩⟩⟩⟩⟩⟩⟩⟩⟩⟩⟩⟩⟩⟩⟩
theorem lw_p16 : lw_okq (⟨"FilterWaterworks$Script", "readWord", "()I"⟩, 6) := ⟨⟨by decide +kernel, by decide +kernel⟩, List.mem_of_getElem? (i := 182) (by decide +kernel), List.mem_of_getElem? (i := 687) (by decide +kernel), List.mem_of_getElem? (i := 688) (by decide +kernel)⟩
theorem lw_p17 : lw_okq (⟨"FilterWaterworks$Script", "lengthInCommon", "(Ljava/lang/String;)I"⟩, 6) := ⟨⟨by decide +kernel, by decide +kernel⟩, List.mem_of_getElem? (i := 182) (by decide +kernel), List.mem_of_getElem? (i := 702) (by decide +kernel), List.mem_of_getElem? (i := 703) (by decide +kernel)⟩
theorem lw_p18 : lw_okq (⟨"FilterWaterworks$Script", "skip", "(C)Z"⟩, 6) := ⟨⟨by decide +kernel, by decide +kernel⟩, List.mem_of_getElem? (i := 182) (by decide +kernel), List.mem_of_getElem? (i := 766) (by decide +kernel), List.mem_of_getElem? (i := 767) (by decide +kernel)⟩
theorem lw_p19 : lw_okq (⟨"FilterWaterworks$Script", "isNext", "(CC)Z"⟩, 6) := ⟨⟨by decide +kernel, by decide +kernel⟩, List.mem_of_getElem? (i := 182) (by decide +kernel), List.mem_of_getElem? (i := 770) (by decide +kernel), List.mem_of_getElem? (i := 771) (by decide +kernel)⟩
theorem lw_p20 : lw_okq (⟨"FilterWaterworks$Script", "readPart", "(C)I"⟩, 6) := ⟨⟨by decide +kernel, by decide +kernel⟩, List.mem_of_getElem? (i := 182) (by decide +kernel), List.mem_of_getElem? (i := 774) (by decide +kernel), List.mem_of_getElem? (i := 775) (by decide +kernel)⟩
theorem lw_p21 : lw_okq (⟨"FilterWaterworks$Script", "readNumber", "(I)I"⟩, 6) := ⟨⟨by decide +kernel, by decide +kernel⟩, List.mem_of_getElem? (i := 182) (by decide +kernel), List.mem_of_getElem? (i := 778) (by decide +kernel), List.mem_of_getElem? (i := 779) (by decide +kernel)⟩
theorem lw_p22 : lw_okq (⟨"FilterWaterworks$Script", "readSet", "()I"⟩, 6) := ⟨⟨by decide +kernel, by decide +kernel⟩, List.mem_of_getElem? (i := 182) (by decide +kernel), List.mem_of_getElem? (i := 782) (by decide +kernel), List.mem_of_getElem? (i := 783) (by decide +kernel)⟩
theorem lw_p23 : lw_okq (⟨"FilterWaterworks", "performed", "(I)Z"⟩, 11) := ⟨⟨by decide +kernel, by decide +kernel⟩, List.mem_of_getElem? (i := 30) (by decide +kernel), List.mem_of_getElem? (i := 791) (by decide +kernel), List.mem_of_getElem? (i := 792) (by decide +kernel)⟩
theorem lw_p24 : lw_okq (⟨"FilterWaterworks$Connections", "reachedFrom", "(III)I"⟩, 12) := ⟨⟨by decide +kernel, by decide +kernel⟩, List.mem_of_getElem? (i := 137) (by decide +kernel), List.mem_of_getElem? (i := 924) (by decide +kernel), List.mem_of_getElem? (i := 925) (by decide +kernel)⟩
theorem lw_p25 : lw_okq (⟨"FilterWaterworks$Connections", "neighbours", "(III)I"⟩, 12) := ⟨⟨by decide +kernel, by decide +kernel⟩, List.mem_of_getElem? (i := 137) (by decide +kernel), List.mem_of_getElem? (i := 928) (by decide +kernel), List.mem_of_getElem? (i := 929) (by decide +kernel)⟩
theorem lw_p26 : lw_okq (⟨"FilterWaterworks", "tanksBefore", "(I)I"⟩, 11) := ⟨⟨by decide +kernel, by decide +kernel⟩, List.mem_of_getElem? (i := 30) (by decide +kernel), List.mem_of_getElem? (i := 973) (by decide +kernel), List.mem_of_getElem? (i := 974) (by decide +kernel)⟩
theorem lw_p27 : lw_okq (⟨"FilterWaterworks", "needConnection", "(II)V"⟩, 11) := ⟨⟨by decide +kernel, by decide +kernel⟩, List.mem_of_getElem? (i := 30) (by decide +kernel), List.mem_of_getElem? (i := 989) (by decide +kernel), List.mem_of_getElem? (i := 990) (by decide +kernel)⟩
theorem lw_p28 : lw_okq (⟨"FilterWaterworks$Connections", "arrive", "(II)V"⟩, 12) := ⟨⟨by decide +kernel, by decide +kernel⟩, List.mem_of_getElem? (i := 137) (by decide +kernel), List.mem_of_getElem? (i := 1002) (by decide +kernel), List.mem_of_getElem? (i := 1003) (by decide +kernel)⟩
theorem lw_p29 : lw_okq (⟨"FilterWaterworks", "appendLetters", "(I)V"⟩, 11) := ⟨⟨by decide +kernel, by decide +kernel⟩, List.mem_of_getElem? (i := 30) (by decide +kernel), List.mem_of_getElem? (i := 1257) (by decide +kernel), List.mem_of_getElem? (i := 1258) (by decide +kernel)⟩
theorem lw_p30 : lw_okq (⟨"FilterWaterworks", "pipesBefore", "(I)I"⟩, 11) := ⟨⟨by decide +kernel, by decide +kernel⟩, List.mem_of_getElem? (i := 30) (by decide +kernel), List.mem_of_getElem? (i := 1296) (by decide +kernel), List.mem_of_getElem? (i := 1297) (by decide +kernel)⟩
theorem lw_p31 : lw_okq (⟨"FilterWaterworks$Connections", "passReachesNew", "()Z"⟩, 12) := ⟨⟨by decide +kernel, by decide +kernel⟩, List.mem_of_getElem? (i := 137) (by decide +kernel), List.mem_of_getElem? (i := 1382) (by decide +kernel), List.mem_of_getElem? (i := 1383) (by decide +kernel)⟩
def lw_privs_2 : List (MethodName × Nat) := [(⟨"FilterWaterworks$Script", "readWord", "()I"⟩, 6), (⟨"FilterWaterworks$Script", "lengthInCommon", "(Ljava/lang/String;)I"⟩, 6), (⟨"FilterWaterworks$Script", "skip", "(C)Z"⟩, 6), (⟨"FilterWaterworks$Script", "isNext", "(CC)Z"⟩, 6), (⟨"FilterWaterworks$Script", "readPart", "(C)I"⟩, 6), (⟨"FilterWaterworks$Script", "readNumber", "(I)I"⟩, 6), (⟨"FilterWaterworks$Script", "readSet", "()I"⟩, 6), (⟨"FilterWaterworks", "performed", "(I)Z"⟩, 11), (⟨"FilterWaterworks$Connections", "reachedFrom", "(III)I"⟩, 12), (⟨"FilterWaterworks$Connections", "neighbours", "(III)I"⟩, 12), (⟨"FilterWaterworks", "tanksBefore", "(I)I"⟩, 11), (⟨"FilterWaterworks", "needConnection", "(II)V"⟩, 11), (⟨"FilterWaterworks$Connections", "arrive", "(II)V"⟩, 12), (⟨"FilterWaterworks", "appendLetters", "(I)V"⟩, 11), (⟨"FilterWaterworks", "pipesBefore", "(I)I"⟩, 11), (⟨"FilterWaterworks$Connections", "passReachesNew", "()Z"⟩, 12)]
theorem lw_r2 : ∀ q ∈ lw_privs_2, lw_okq q := List.forall_mem_cons.mpr ⟨lw_p16, List.forall_mem_cons.mpr ⟨lw_p17, List.forall_mem_cons.mpr ⟨lw_p18, List.forall_mem_cons.mpr ⟨lw_p19, List.forall_mem_cons.mpr ⟨lw_p20, List.forall_mem_cons.mpr ⟨lw_p21, List.forall_mem_cons.mpr ⟨lw_p22, List.forall_mem_cons.mpr ⟨lw_p23, List.forall_mem_cons.mpr ⟨lw_p24, List.forall_mem_cons.mpr ⟨lw_p25, List.forall_mem_cons.mpr ⟨lw_p26, List.forall_mem_cons.mpr ⟨lw_p27, List.forall_mem_cons.mpr ⟨lw_p28, List.forall_mem_cons.mpr ⟨lw_p29, List.forall_mem_cons.mpr ⟨lw_p30, List.forall_mem_cons.mpr ⟨lw_p31, fun _ h => absurd h List.not_mem_nil⟩⟩⟩⟩⟩⟩⟩⟩⟩⟩⟩⟩⟩⟩⟩⟩
theorem lw_p32 : lw_okq (⟨"FilterWaterworks$Connections", "carriesNew", "(IIII)Z"⟩, 12) := ⟨⟨by decide +kernel, by decide +kernel⟩, List.mem_of_getElem? (i := 137) (by decide +kernel), List.mem_of_getElem? (i := 1386) (by decide +kernel), List.mem_of_getElem? (i := 1387) (by decide +kernel)⟩
theorem lw_p33 : lw_okq (⟨"FilterWaterworks$Connections", "fewestLeftIn", "(I)I"⟩, 12) := ⟨⟨by decide +kernel, by decide +kernel⟩, List.mem_of_getElem? (i := 137) (by decide +kernel), List.mem_of_getElem? (i := 1390) (by decide +kernel), List.mem_of_getElem? (i := 1391) (by decide +kernel)⟩
theorem lw_p34 : lw_okq (⟨"FilterWaterworks$Connections", "mostWidelyReached", "(I)I"⟩, 12) := ⟨⟨by decide +kernel, by decide +kernel⟩, List.mem_of_getElem? (i := 137) (by decide +kernel), List.mem_of_getElem? (i := 1446) (by decide +kernel), List.mem_of_getElem? (i := 1447) (by decide +kernel)⟩
theorem lw_p35 : lw_okq (⟨"FilterWaterworks$Connections", "widenFrom", "(I)V"⟩, 12) := ⟨⟨by decide +kernel, by decide +kernel⟩, List.mem_of_getElem? (i := 137) (by decide +kernel), List.mem_of_getElem? (i := 1450) (by decide +kernel), List.mem_of_getElem? (i := 1451) (by decide +kernel)⟩
def lw_privs_3 : List (MethodName × Nat) := [(⟨"FilterWaterworks$Connections", "carriesNew", "(IIII)Z"⟩, 12), (⟨"FilterWaterworks$Connections", "fewestLeftIn", "(I)I"⟩, 12), (⟨"FilterWaterworks$Connections", "mostWidelyReached", "(I)I"⟩, 12), (⟨"FilterWaterworks$Connections", "widenFrom", "(I)V"⟩, 12)]
theorem lw_r3 : ∀ q ∈ lw_privs_3, lw_okq q := List.forall_mem_cons.mpr ⟨lw_p32, List.forall_mem_cons.mpr ⟨lw_p33, List.forall_mem_cons.mpr ⟨lw_p34, List.forall_mem_cons.mpr ⟨lw_p35, fun _ h => absurd h List.not_mem_nil⟩⟩⟩⟩
def lw_privs : List (MethodName × Nat) := lw_privs_1 ++ (lw_privs_2 ++ (lw_privs_3))
def lw_tbl : List Cond := k2_sels lw_privs ++ tables_1
theorem lw_privs_ok : ∀ q ∈ lw_privs, lw_okq q := by
  show ∀ q ∈ lw_privs_1 ++ (lw_privs_2 ++ (lw_privs_3)), lw_okq q
  exact List.forall_mem_append.mpr ⟨lw_r1, List.forall_mem_append.mpr ⟨lw_r2, lw_r3⟩⟩
/-- the streams that the claim lets the run draw from -/
abbrev lw_cs : List Choice := [Jvm.Choice.named "NaN.bits"]
theorem lw_bits : nanBits ∈ lw_cs := by first | decide | exact List.mem_cons_self | simp [lw_cs, nanBits]
-- ===== end of PART A; then your names; then what follows =====
/-! ===== BEGIN words of one list among another's, by their places ===== -/
theorem goodIn_r {big : List Cond} (ws : List Cond) (ps : List Nat) (hp : ws = ps.filterMap (fun i => big[i]?)) (h : ws.all goodWord = true) : GoodIn big ws := by
  intro w hw
  have h1 := List.all_eq_true.mp h w hw
  rw [hp] at hw
  obtain ⟨i, -, hi⟩ := List.mem_filterMap.mp hw
  have hm : w ∈ big := by first | exact List.mem_of_getElem? hi | exact List.getElem?_mem hi
  exact ⟨hm, good_of_word h1⟩
theorem goodIn_app {big a b : List Cond} (ha : GoodIn big a) (hb : GoodIn big b) : GoodIn big (a ++ b) := fun w h => (List.mem_append.mp h).elim (ha w) (hb w)
theorem goodIn_ca {big a b : List Cond} {c : Cond} (ha : GoodIn big (c :: a)) (hb : GoodIn big b) : GoodIn big (c :: (a ++ b)) := fun w h => (List.mem_cons.mp h).elim (fun e => ha w (List.mem_cons.mpr (Or.inl e))) (fun h => (List.mem_append.mp h).elim (fun h => ha w (List.mem_cons.mpr (Or.inr h))) (hb w))
theorem goodIn_sub {big ws : List Cond} (hm : ∀ w ∈ ws, w ∈ big) (h : ws.all goodWord = true) : GoodIn big ws := fun w hw => ⟨hm w hw, good_of_word (List.all_eq_true.mp h w hw)⟩
/-! ===== END ===== -/
/-! ===== BEGIN exceptions that leave a method, and their catching by the caller (launches without stack traces) ===== -/
section VXA
/-! The laws vx_back, vx_callV, vx_callS, vx_callSW, vx_throw0, vx_throwS follow proofs of the library, with one case more: JvmDerived/Free/Laws.lean (Back.of_free), Shelf42/LK1.lean (callV, callS), Shelf/KitTraced.lean (throwNew0V, throwNewS). -/
/-- where a method has thrown q: the class by its name, the cell, what was written, the world -/
def vx_T (XC : String → State → State → Prop) (st : State) (q : Addr) (t : State) (mc ms : Nat) (free : Addr → Prop) : Prop :=
  ∃ (E : String) (ce : Cell) (L : List Loc), XC E st t ∧ t.heap[q]? = some ce ∧ ce.vm = .none ∧ st.vm.findClass E = some ce.cls ∧ st.WarmedH t.vm ∧ st.sameButNew ({ t with vm := st.vm } : State) L mc ms ∧ ∀ z ∈ L, free z.base
def vx_Q (Qc : Array Value → State → Outcome → State → Prop) (XC : String → State → State → Prop) (mc ms : Nat) (free : Addr → Prop) : Array Value → State → Outcome → State → Prop := fun a st o t =>
  (Qc a st o t ∧ ∃ L, FrameEnd st o t L mc ms ∧ ∀ q ∈ L, free q.base) ∨ ∃ q, o = .threw q ∧ vx_T XC st q t mc ms free
/-- a callee that returns or throws -/
def vx_Met (l : Launch) (y : MethodName) (ws : List Cond) (rm : Room) (Pc : Array Value → State → Prop) (Qc : Array Value → State → Outcome → State → Prop) (XC : String → State → State → Prop) (mc ms : Nat) (free : Addr → Prop) : Prop :=
  MetFree l y (headSpec ws rm) Pc (fun _ _ _ _ _ => True) (vx_Q Qc XC mc ms free)
def vx_Post (XC : String → State → State → Prop) (mc ms : Nat) (free : Addr → Prop) : Pt → Array Value → Addr → Pt → Prop := fun A a q B =>
  ∃ (g : JFrame) (mk : MethodId) (t : State) (L : List Loc) (E : String) (ce : Cell), B.U.heap = t.heap ∧ B.U.vm = t.vm ∧ XC E (A.U.calling g mk a) t ∧ t.heap[q]? = some ce ∧ ce.vm = .none ∧ A.U.vm.findClass E = some ce.cls ∧ B.locs = A.locs ++ L ∧ (∀ z ∈ L, free z.base) ∧ B.cells = A.cells + mc ∧ B.slots = A.slots + ms
def vx_Back (l : Launch) (R : Room) (p : Program) (e : Env) (below : List Frame) (s : State) (sargs : Array Value) (y : MethodName) (len W9 : Nat)
    (Pre : Pt → Array Value → Prop) (Post : Pt → Array Value → Option Value → Pt → Prop) (PostX : Pt → Array Value → Addr → Pt → Prop) : Prop :=
  ∀ (m : MethodId) (meth : Method) (c : Code) (A : Pt) (g : JFrame) (ig : Instr) (mk : MethodId) (a : Array Value),
    Stand p l e R s m sargs below meth c A.U A.locs A.cells A.slots → g.method = m → g.locals.size = c.maxLocals → decode c.code g.pc = .ok (ig, len) →
    2 * g.monitorRoom + (g.stack.map fun v => v.category).sum ≤ W9 → A.U.methodNamed? y = some mk → Pre A a →
    (∃ (v : Option Value) (B : Pt), Stand p l e R s m sargs below meth c B.U B.locs B.cells B.slots ∧ Post A a v B ∧
      Steps p.tables e below (doInvoke e (A.U.setTop g) [] mk a).1 (B.U.setTop { g with pc := g.pc + len, stack := v.toList ++ g.stack })) ∨
    (∃ (q : Addr) (B : Pt), Stand p l e R s m sargs below meth c B.U B.locs B.cells B.slots ∧ PostX A a q B ∧
      Steps p.tables e below (doInvoke e (A.U.setTop g) [] mk a).1 ((B.U.setTop g).pushFrame (.throwing q)))
section Payer
variable {l : Launch} {R : Room} {p : Program} {e : Env} {below : List Frame} {s : State} {sargs : Array Value} {y : MethodName} {len W9 : Nat}
theorem vx_back {ws : List Cond} {rm : Room} {Pc : Array Value → State → Prop} {Qc : Array Value → State → Outcome → State → Prop} {XC : String → State → State → Prop} {mc ms : Nat} {free : Addr → Prop} {bytes : ByteArray} {maxL : Nat} {ret : Option FieldType}
    (hM : vx_Met l y ws rm Pc Qc XC mc ms free) (hblind : FrameBlind Pc) (hrc : rm.cells = mc) (hrs : rm.slots = ms)
    (hframes : rm.frames + 1 ≤ R.frames) (hlocals : W9 + (maxL + 11) + rm.locals ≤ R.locals)
    (hws : ∀ w ∈ ws, ∀ a' U, s.WarmedH U.vm → w.before a' U = true) (hcode : Cond.code y bytes maxL ret ∈ ws) (hinit : ∀ a' U, s.WarmedH U.vm → (Cond.initialized y.cls).before a' U = true) :
    vx_Back l R p e below s sargs y len W9 (PreOf R mc ms Pc) (PostOf Qc mc ms free) (vx_Post XC mc ms free) := by
  intro m meth c A g ig mk a X hg hsize hdg hW hn hp
  have h1 : (headSpec ws rm).pre.before a A.U = true := atoms_intro fun w hw => hws w hw _ _ X.warmed
  have h2 : (Cond.code y bytes maxL ret).before a A.U = true := hws _ hcode _ _ X.warmed
  have h3 : (Cond.initialized y.cls).before a A.U = true := hinit _ _ X.warmed
  have h4 : A.cells + (headSpec ws rm).room.cells ≤ R.cells := by rw [show (headSpec ws rm).room.cells = mc from hrc]; exact hp.1
  have h5 : A.slots + (headSpec ws rm).room.slots ≤ R.slots := by rw [show (headSpec ws rm).room.slots = ms from hrs]; exact hp.2.1
  have hPc : Pc a (A.U.calling g mk a) := hblind _ _ _ _ hp.2.2
  obtain ⟨U, Ls, c0, s0⟩ := A
  dsimp only [Pt.U, Pt.locs, Pt.cells, Pt.slots] at h1 h2 h3 h4 h5 X hn hPc ⊢
  obtain ⟨methY, cY, hmY, hcY, -, hlY, -, -, -, -⟩ := Cond.code_spec hn h2
  obtain ⟨kY, hkY, -⟩ := className_of_methodNamed hn
  have hinitY : kY.init = .initialized := Cond.initialized_spec (findClass_of_methodNamed hn) hkY h3
  have h : At U g.method c below := by rw [hg]; exact X.here
  have hlocals9 : W9 + (maxL + 11) + (headSpec ws rm).room.locals ≤ R.locals := hlocals
  have happ : (headSpec ws rm).appliesLoose y e.platform (U.calling g mk a) = true :=
    Spec.appliesLoose_calling (g := g) h hdg hn hkY hinitY
      (X.room_calling (g := g) (R' := (headSpec ws rm).room) hsize hmY hcY hframes (by rw [hlY]; omega) h4 h5) h1
  obtain ⟨mid, hmid⟩ := h.above
  have hfr : (U.setTop g).frames = (.java g :: mid) ++ below := by rw [State.frames_setTop' g h.top, hmid]; rfl
  obtain ⟨o, s₂, hsteps, -, hend, hq⟩ := Steps.callFree hM p X.admits X.cas X.clock (acts := []) hfr happ hPc trivial
  have hq' : vx_Q Qc XC mc ms free a (U.calling g mk a) o s₂ := hq
  rw [State.frames_setTop' g h.top] at hend
  obtain ⟨g₀, hg0⟩ := Option.isSome_iff_exists.mp h.top
  obtain ⟨r, hr⟩ := State.topJava?_eq_some.mp hg0
  have hr' : (({ U with heap := s₂.heap, slotsUsed := s₂.slotsUsed } : State).setVm s₂.vm).frames = .java g₀ :: r := hr
  rcases hq' with ⟨hqc, L, hfe, hL⟩ | ⟨q, rfl, E, ce, L, hx, hce, hcv, hcl, hW₂, hsm, hL⟩
  · obtain ⟨⟨v, rfl⟩, hW₂, e2, q2, q3, q4, q5, q6⟩ := id hfe
    have e3 : s₂ = ({ (U.calling g mk a).setFrames s₂.frames with heap := s₂.heap, slotsUsed := s₂.slotsUsed } : State).setVm s₂.vm := by
      have : s₂ = ({ s₂ with vm := (U.calling g mk a).vm } : State).setVm s₂.vm := rfl
      rw [e2] at this
      exact this
    obtain ⟨c₂, i₂, len₂, hc₂, hd₂, hf₂⟩ := hend
    have hW' : U.WarmedH s₂.vm := hW₂
    have hcc : c₂ = c := by
      have h1 : s₂.code? g.method = U.code? g.method := by
        rw [State.code?_eq, State.code?_eq, hW'.alike.method?]
      exact Option.some.inj (hc₂.symm.trans (h1.trans h.code))
    subst hcc
    have hlen : len₂ = len := by rw [hdg] at hd₂; cases hd₂; rfl
    subst hlen
    have hs₂ : s₂ = (({ U with heap := s₂.heap, slotsUsed := s₂.slotsUsed } : State).setVm s₂.vm).setTop { g with pc := g.pc + len₂, stack := v.toList ++ g.stack } := by
      refine e3.trans ?_
      rw [hf₂, State.calling_eq h.top, State.setFrames_setFrames, State.setTop_of_frames _ hr', hr]
      rfl
    have hsame : U.sameButNew ({ U with heap := s₂.heap, slotsUsed := s₂.slotsUsed } : State) L mc ms := by
      refine ⟨?_, q2, q3, q4, q5, q6⟩
      obtain ⟨t, ht, -⟩ := State.frames_cons hr
      show ({ U with heap := s₂.heap, slotsUsed := s₂.slotsUsed } : State) = { U.setFrames U.frames with heap := s₂.heap, slotsUsed := s₂.slotsUsed }
      rw [State.setFrames_self ht]
    subst hg
    refine Or.inl ⟨v, ⟨(({ U with heap := s₂.heap, slotsUsed := s₂.slotsUsed } : State).setVm s₂.vm), Ls ++ L, c0 + mc, s0 + ms⟩,
      ⟨X.admits, X.cas, X.clock, X.frames, X.room, X.hears, X.method, X.code, (X.here.setHeapUsed s₂.heap s₂.slotsUsed).setVm hW'.alike, X.tail, State.WarmedH.trans X.warmed hW', X.limits, X.bytes, X.same.trans (hsame.setVm s.vm)⟩,
      ⟨g, mk, s₂, L, rfl, rfl, hqc, rfl, hL, rfl, rfl⟩, ?_⟩
    show Steps p.tables e below _ ((({ U with heap := s₂.heap, slotsUsed := s₂.slotsUsed } : State).setVm s₂.vm).setTop { g with pc := g.pc + len₂, stack := v.toList ++ g.stack })
    rw [← hs₂]
    exact hsteps
  · obtain ⟨e2, q2, q3, q4, q5, q6⟩ := id hsm
    have e3 : s₂ = ({ (U.calling g mk a).setFrames s₂.frames with heap := s₂.heap, slotsUsed := s₂.slotsUsed } : State).setVm s₂.vm := by
      have : s₂ = ({ s₂ with vm := (U.calling g mk a).vm } : State).setVm s₂.vm := rfl
      rw [e2] at this
      exact this
    have hf₂ : s₂.frames = .throwing q :: .java g :: U.frames.tail := hend
    have hW' : U.WarmedH s₂.vm := hW₂
    have hs₂ : s₂ = ((({ U with heap := s₂.heap, slotsUsed := s₂.slotsUsed } : State).setVm s₂.vm).setTop g).pushFrame (.throwing q) := by
      refine e3.trans ?_
      rw [hf₂, State.calling_eq h.top, State.setFrames_setFrames, State.pushFrame, State.frames_setTop _ hr', State.setTop_of_frames _ hr', State.setFrames_setFrames, hr]
      rfl
    have hsame : U.sameButNew ({ U with heap := s₂.heap, slotsUsed := s₂.slotsUsed } : State) L mc ms := by
      refine ⟨?_, q2, q3, q4, q5, q6⟩
      obtain ⟨t, ht, -⟩ := State.frames_cons hr
      show ({ U with heap := s₂.heap, slotsUsed := s₂.slotsUsed } : State) = { U.setFrames U.frames with heap := s₂.heap, slotsUsed := s₂.slotsUsed }
      rw [State.setFrames_self ht]
    subst hg
    refine Or.inr ⟨q, ⟨(({ U with heap := s₂.heap, slotsUsed := s₂.slotsUsed } : State).setVm s₂.vm), Ls ++ L, c0 + mc, s0 + ms⟩,
      ⟨X.admits, X.cas, X.clock, X.frames, X.room, X.hears, X.method, X.code, (X.here.setHeapUsed s₂.heap s₂.slotsUsed).setVm hW'.alike, X.tail, State.WarmedH.trans X.warmed hW', X.limits, X.bytes, X.same.trans (hsame.setVm s.vm)⟩,
      ⟨g, mk, s₂, L, E, ce, rfl, rfl, hx, hce, hcv, hcl, rfl, hL, rfl, rfl⟩, ?_⟩
    show Steps p.tables e below _ (((({ U with heap := s₂.heap, slotsUsed := s₂.slotsUsed } : State).setVm s₂.vm).setTop g).pushFrame (.throwing q))
    rw [← hs₂]
    exact hsteps
end Payer
section Calls
variable {p : Program} {l : Launch} {e : Env} {R : Room} {s : State} {m : MethodId} {args : Array Value} {below : List Frame} {meth : Method} {c : Code} {T : State} {locs : List Loc} {cells slots : Nat}
theorem vx_callV (X : Stand p l e R s m args below meth c T locs cells slots) (hexec : p.tables.exec = Jvm.exec) {own C : String} {index : Nat} {y : MethodName} {bytes : ByteArray} {maxL : Nat} {ret : Option FieldType}
    (hown : s.vm.findClass own = some m.cls) (hlink : (Cond.methodLink own index y).before args s = true) (hinst : (Cond.instanceMethod y).before args s = true) (hsel : (Cond.selects C y y).before args s = true)
    (hcode : (Cond.code y bytes maxL ret).before args s = true) (hy : y.cls ≠ "java/lang/invoke/MethodHandle" ∧ y.cls ≠ "java/lang/invoke/VarHandle")
    {W9 : Nat} {Pre : Pt → Array Value → Prop} {Post : Pt → Array Value → Option Value → Pt → Prop} {PostX : Pt → Array Value → Addr → Pt → Prop} (hK : vx_Back l R p e below s args y 3 W9 Pre Post PostX)
    {b : Addr} {cellB : Cell} (hcell : T.heap[b]? = some cellB) (hobj : cellB.vm.isStatics = false) (hcls : s.vm.findClass C = some cellB.cls)
    {g : JFrame} (hg : g.method = m) (hsize : g.locals.size = c.maxLocals) {argsL rest : List Value} (hlen : ∀ sig, parseMethodDescriptor y.desc = some sig → argsL.length = sig.parameters.length)
    (hstack : g.stack = argsL.reverse ++ .ref b :: rest) (hW : 2 * g.monitorRoom + (rest.map fun v => v.category).sum ≤ W9) (hdg : decode c.code g.pc = .ok (.invokevirtual index, 3))
    (hpre : ∀ vm₁, s.WarmedH vm₁ → Pre ⟨T.setVm vm₁, locs, cells, slots⟩ (Value.ref b :: argsL).toArray) :
    (∃ (v : Option Value) (vm₁ : Vm) (B : Pt), s.WarmedH vm₁ ∧ Stand p l e R s m args below meth c B.U B.locs B.cells B.slots ∧ Post ⟨T.setVm vm₁, locs, cells, slots⟩ (Value.ref b :: argsL).toArray v B ∧
      ∀ target, Steps p.tables e below (B.U.setTop { g with pc := g.pc + 3, stack := v.toList ++ rest }) target → Steps p.tables e below (T.setTop g) target) ∨
    (∃ (q : Addr) (vm₁ : Vm) (B : Pt), s.WarmedH vm₁ ∧ Stand p l e R s m args below meth c B.U B.locs B.cells B.slots ∧ PostX ⟨T.setVm vm₁, locs, cells, slots⟩ (Value.ref b :: argsL).toArray q B ∧
      Steps p.tables e below (T.setTop g) ((B.U.setTop { g with stack := rest }).pushFrame (.throwing q))) := by
  obtain ⟨mk, methM, hnamed, hmethM, hstM, habM⟩ := Cond.instanceMethod_spec hinst
  obtain ⟨methM', cM, hmethM', -, -, -, -, -, -, hsigM⟩ := Cond.code_spec hnamed hcode
  cases hmethM.symm.trans hmethM'
  obtain ⟨c2, r2, m2, q1, q2, q3, q4, kP, hkP, hkPi⟩ := Cond.selects_spec hsel
  cases hcls.symm.trans q1
  cases (State.methodFound?_of_named hnamed hy).symm.trans q2
  cases hnamed.symm.trans q3
  have hselP : selectMethod e.platform s.vm cellB.cls mk = .method mk := by rw [Launch.admits_selectMethod X.admits]; exact q4
  obtain ⟨vm₁, X₁, hstep₁⟩ := X.invokevirtual hexec hown hlink hnamed hmethM hstM hkP hkPi hy (a := b) (cell := cellB) hcell
    (fun z h => by rw [h] at hobj; cases hobj) hselP hmethM habM hkP hkPi (g := g) hg (argsL := argsL) (rest := rest) (hlen _ hsigM) hstack hdg
  rcases hK m meth c ⟨T.setVm vm₁, locs, cells, slots⟩ { g with stack := rest } (.invokevirtual index) mk (Value.ref b :: argsL).toArray X₁ hg hsize hdg hW (X₁.named hnamed) (hpre vm₁ X₁.warmed) with ⟨v, B, X', hpost, hsteps⟩ | ⟨q, B, X', hpost, hsteps⟩
  · exact Or.inl ⟨v, vm₁, B, X₁.warmed, X', hpost, fun target h => hstep₁ _ fun acts => by rw [doInvoke_state]; exact hsteps.trans h⟩
  · exact Or.inr ⟨q, vm₁, B, X₁.warmed, X', hpost, hstep₁ _ fun acts => by rw [doInvoke_state]; exact hsteps⟩
theorem vx_callS (X : Stand p l e R s m args below meth c T locs cells slots) (hexec : p.tables.exec = Jvm.exec) {own : String} {index : Nat} {y : MethodName} {bytes : ByteArray} {maxL : Nat} {ret : Option FieldType}
    (hown : s.vm.findClass own = some m.cls) (hlink : (Cond.methodLink own index y).before args s = true) (hstat : (Cond.static y).before args s = true) (hinit : (Cond.initialized y.cls).before args s = true)
    (hcode : (Cond.code y bytes maxL ret).before args s = true) (hy : y.cls ≠ "java/lang/invoke/MethodHandle" ∧ y.cls ≠ "java/lang/invoke/VarHandle")
    {W9 : Nat} {Pre : Pt → Array Value → Prop} {Post : Pt → Array Value → Option Value → Pt → Prop} {PostX : Pt → Array Value → Addr → Pt → Prop} (hK : vx_Back l R p e below s args y 3 W9 Pre Post PostX)
    {g : JFrame} (hg : g.method = m) (hsize : g.locals.size = c.maxLocals) {argsL rest : List Value} (hlen : ∀ sig, parseMethodDescriptor y.desc = some sig → argsL.length = sig.parameters.length)
    (hstack : g.stack = argsL.reverse ++ rest) (hW : 2 * g.monitorRoom + (rest.map fun v => v.category).sum ≤ W9) (hdg : decode c.code g.pc = .ok (.invokestatic index, 3))
    (hpre : ∀ vm₁, s.WarmedH vm₁ → Pre ⟨T.setVm vm₁, locs, cells, slots⟩ argsL.toArray) :
    (∃ (v : Option Value) (vm₁ : Vm) (B : Pt), s.WarmedH vm₁ ∧ Stand p l e R s m args below meth c B.U B.locs B.cells B.slots ∧ Post ⟨T.setVm vm₁, locs, cells, slots⟩ argsL.toArray v B ∧
      ∀ target, Steps p.tables e below (B.U.setTop { g with pc := g.pc + 3, stack := v.toList ++ rest }) target → Steps p.tables e below (T.setTop g) target) ∨
    (∃ (q : Addr) (vm₁ : Vm) (B : Pt), s.WarmedH vm₁ ∧ Stand p l e R s m args below meth c B.U B.locs B.cells B.slots ∧ PostX ⟨T.setVm vm₁, locs, cells, slots⟩ argsL.toArray q B ∧
      Steps p.tables e below (T.setTop g) ((B.U.setTop { g with stack := rest }).pushFrame (.throwing q))) := by
  obtain ⟨mk, hnamed⟩ := Cond.code_named hcode
  obtain ⟨methM, cM, hmethM, -, -, -, -, -, -, hsigM⟩ := Cond.code_spec hnamed hcode
  have hstatic : methM.isStatic = true := Cond.static_spec hnamed hmethM hstat
  obtain ⟨kP, hkP, -⟩ := className_of_methodNamed hnamed
  have hinitP : kP.init = .initialized := Cond.initialized_spec (findClass_of_methodNamed hnamed) hkP hinit
  obtain ⟨vm₁, X₁, hstep₁⟩ := X.invokestatic hexec hown hlink hnamed hmethM hstatic hkP hinitP hy (g := g) hg (argsL := argsL) (rest := rest) (hlen _ hsigM) hstack hdg
  rcases hK m meth c ⟨T.setVm vm₁, locs, cells, slots⟩ { g with stack := rest } (.invokestatic index) mk argsL.toArray X₁ hg hsize hdg hW (X₁.named hnamed) (hpre vm₁ X₁.warmed) with ⟨v, B, X', hpost, hsteps⟩ | ⟨q, B, X', hpost, hsteps⟩
  · exact Or.inl ⟨v, vm₁, B, X₁.warmed, X', hpost, fun target h => hstep₁ _ fun acts => by rw [doInvoke_state]; exact hsteps.trans h⟩
  · exact Or.inr ⟨q, vm₁, B, X₁.warmed, X', hpost, hstep₁ _ fun acts => by rw [doInvoke_state]; exact hsteps⟩
end Calls
theorem vx_cls {s : State} {T : State} {vm₁ : Vm} {E : String} {k : ClassId} (hW : s.WarmedH vm₁) (h : (T.setVm vm₁).vm.findClass E = some k) : s.vm.findClass E = some k := by
  have h1 : vm₁.findClass E = some k := h
  rw [hW.alike.findClass] at h1
  exact h1
/-- the method's frame g, with q thrown over it -/
def vx_W (p : Program) (l : Launch) (e : Env) (R : Room) (s : State) (m : MethodId) (args : Array Value) (below : List Frame) (meth : Method) (c : Code) (H : Heap) (locs : List Loc) (cells slots : Nat) (Q : State → Prop) (g : JFrame) (q : Addr) : Prop :=
  ∀ T : State, T.heap = H → Stand p l e R s m args below meth c T locs cells slots → ∃ t, Steps p.tables e below ((T.setTop g).pushFrame (.throwing q)) t ∧ Q t
def vx_Run (p : Program) (l : Launch) (e : Env) (R : Room) (s : State) (m : MethodId) (args : Array Value) (below : List Frame) (meth : Method) (c : Code) (H : Heap) (locs : List Loc) (cells slots mc ms : Nat) (g : JFrame) (rest : List Value) (Qa : State → Outcome → State → Prop) (XC : String → State → State → Prop) (free : Addr → Prop) : Prop :=
  ∀ T : State, T.heap = H → Stand p l e R s m args below meth c T locs cells slots →
    (∃ (v : Option Value) (st₀ t T' : State) (L : List Loc), st₀.heap = H ∧ Stand p l e R s m args below meth c T' (locs ++ L) (cells + mc) (slots + ms) ∧ (∀ q ∈ L, free q.base) ∧ T'.heap = t.heap ∧ T'.vm = t.vm ∧ Qa st₀ (.returned v) t ∧
      Goes p e below T g T' { g with pc := g.pc + 3, stack := v.toList ++ rest }) ∨
    (∃ (q : Addr) (st₀ t T' : State) (L : List Loc) (E : String) (ce : Cell), st₀.heap = H ∧ Stand p l e R s m args below meth c T' (locs ++ L) (cells + mc) (slots + ms) ∧ (∀ z ∈ L, free z.base) ∧ T'.heap = t.heap ∧ T'.vm = t.vm ∧ XC E st₀ t ∧ t.heap[q]? = some ce ∧ ce.vm = .none ∧ s.vm.findClass E = some ce.cls ∧
      Steps p.tables e below (T.setTop g) ((T'.setTop { g with stack := rest }).pushFrame (.throwing q)))
def vx_X {S : Type} (px : S → Prop) (B : String → S → State → Prop) (A : Nat → Prop) : String → State → State → Prop := fun E st t => ∃ u : S, px u ∧ B E u t ∧ va_F A st t
section Runs
variable {p : Program} {l : Launch} {e : Env} {R : Room} {s : State} {m : MethodId} {args : Array Value} {below : List Frame} {meth : Method} {c : Code} {H : Heap} {locs : List Loc} {cells slots : Nat}
variable {y : MethodName} {bytes cc : ByteArray} {maxL nL mc ms n index : Nat} {ret : Option FieldType} {ws : List Cond} {rm : Room} {Pc : Array Value → State → Prop} {Qc : Array Value → State → Outcome → State → Prop} {XC : String → State → State → Prop} {free : Addr → Prop} {Ts : List Cond} {own C : String} {b : Addr} {As rest : List Value} {g : JFrame}
theorem vx_callBack (cb : CallB R s args own index y bytes maxL ret ws rm mc ms n) (hM : vx_Met l y ws rm Pc Qc XC mc ms free) (hbl : FrameBlind Pc) : vx_Back l R p e below s args y 3 8 (PreOf R mc ms Pc) (PostOf Qc mc ms free) (vx_Post XC mc ms free) := by
  obtain ⟨hrc, hrs, hfr, hlo, hws, hcw, -, hini, -⟩ := cb
  exact vx_back (bytes := bytes) (maxL := maxL) (ret := ret) hM hbl hrc hrs hfr hlo hws hcw (fun a' U hW => word_at hW (Or.inl (by first | rfl | simp [Cond.onTables, Cond.keeps, Cond.steady])) hini)
theorem vx_runV (S : CallFix p m c cc nL s args Ts own) (hM : vx_Met l y ws rm Pc Qc XC mc ms free) (cw : CallW R s args own C index y bytes maxL ret ws rm mc ms n) (hp : PreV s H C b Pc As)
    (hg : g.method = m) (hn : As.length = n) (hsize : g.locals.size = nL) (hstack : g.stack = As.reverse ++ .ref b :: rest) (hW : 2 * g.monitorRoom + (rest.map fun v => v.category).sum ≤ 8) (hdg : decode cc g.pc = .ok (.invokevirtual index, 3)) (hf : cells + mc ≤ R.cells ∧ slots + ms ≤ R.slots) :
    vx_Run p l e R s m args below meth c H locs cells slots mc ms g rest (Qc (Value.ref b :: As).toArray) XC free := by
  have hK : vx_Back l R p e below s args y 3 8 (PreOf R mc ms Pc) (PostOf Qc mc ms free) (vx_Post XC mc ms free) := vx_callBack cw.1 hM hp.1
  obtain ⟨⟨-, -, -, -, -, -, hcode, -, hy, hlen, hl⟩, hin, hse⟩ := cw
  obtain ⟨hx, hb, hml, ho, -⟩ := S
  obtain ⟨-, ⟨cellB, hcB, hoB, hclB⟩, hPc⟩ := hp
  intro T hT X
  rcases vx_callV X hx (C := C) (bytes := bytes) (maxL := maxL) (ret := ret) ho hl hin hse hcode hy hK (by rw [hT]; exact hcB) hoB hclB hg (hsize.trans hml.symm) (argsL := As) (rest := rest) (fun sig h => hn.trans (hlen sig h)) hstack hW (by rw [hb]; exact hdg)
    (fun vm₁ hW₁ => ⟨hf.1, hf.2, hPc (T.setVm vm₁) hT hW₁⟩) with ⟨v, vm₁, ⟨U', l2, c2, s2⟩, hW₁, X', ⟨g', mk, t, L, e1, e2, hq, h1, hL, h2, h3⟩, st⟩ | ⟨q, vm₁, ⟨U', l2, c2, s2⟩, hW₁, X', ⟨g', mk, t, L, E, ce, e1, e2, hq, hce, hcv, hcl, h1, hL, h2, h3⟩, st⟩
  · dsimp only [Pt.U, Pt.locs, Pt.cells, Pt.slots] at X' e1 e2 h1 h2 h3 st
    subst h1; subst h2; subst h3
    exact Or.inl ⟨v, (T.setVm vm₁).calling g' mk (Value.ref b :: As).toArray, t, U', L, hT, X', hL, e1, e2, hq, st⟩
  · dsimp only [Pt.U, Pt.locs, Pt.cells, Pt.slots] at X' e1 e2 h1 h2 h3 st hcl
    subst h1; subst h2; subst h3
    exact Or.inr ⟨q, (T.setVm vm₁).calling g' mk (Value.ref b :: As).toArray, t, U', L, E, ce, hT, X', hL, e1, e2, hq, hce, hcv, vx_cls hW₁ hcl, st⟩
theorem vx_runS (S : CallFix p m c cc nL s args Ts own) (hM : vx_Met l y ws rm Pc Qc XC mc ms free) (cw : CallB R s args own index y bytes maxL ret ws rm mc ms n ∧ (Cond.static y).before args s = true) (hp : PreS s H Pc As)
    (hg : g.method = m) (hn : As.length = n) (hsize : g.locals.size = nL) (hstack : g.stack = As.reverse ++ rest) (hW : 2 * g.monitorRoom + (rest.map fun v => v.category).sum ≤ 8) (hdg : decode cc g.pc = .ok (.invokestatic index, 3)) (hf : cells + mc ≤ R.cells ∧ slots + ms ≤ R.slots) :
    vx_Run p l e R s m args below meth c H locs cells slots mc ms g rest (Qc As.toArray) XC free := by
  have hK : vx_Back l R p e below s args y 3 8 (PreOf R mc ms Pc) (PostOf Qc mc ms free) (vx_Post XC mc ms free) := vx_callBack cw.1 hM hp.1
  obtain ⟨⟨-, -, -, -, -, -, hcode, hini, hy, hlen, hl⟩, hstt⟩ := cw
  obtain ⟨hx, hb, hml, ho, -⟩ := S
  intro T hT X
  rcases vx_callS X hx (bytes := bytes) (maxL := maxL) (ret := ret) ho hl hstt hini hcode hy hK hg (hsize.trans hml.symm) (argsL := As) (rest := rest) (fun sig h => hn.trans (hlen sig h)) hstack hW (by rw [hb]; exact hdg)
    (fun vm₁ hW₁ => ⟨hf.1, hf.2, hp.2 (T.setVm vm₁) hT hW₁⟩) with ⟨v, vm₁, ⟨U', l2, c2, s2⟩, hW₁, X', ⟨g', mk, t, L, e1, e2, hq, h1, hL, h2, h3⟩, st⟩ | ⟨q, vm₁, ⟨U', l2, c2, s2⟩, hW₁, X', ⟨g', mk, t, L, E, ce, e1, e2, hq, hce, hcv, hcl, h1, hL, h2, h3⟩, st⟩
  · dsimp only [Pt.U, Pt.locs, Pt.cells, Pt.slots] at X' e1 e2 h1 h2 h3 st
    subst h1; subst h2; subst h3
    exact Or.inl ⟨v, (T.setVm vm₁).calling g' mk As.toArray, t, U', L, hT, X', hL, e1, e2, hq, st⟩
  · dsimp only [Pt.U, Pt.locs, Pt.cells, Pt.slots] at X' e1 e2 h1 h2 h3 st hcl
    subst h1; subst h2; subst h3
    exact Or.inr ⟨q, (T.setVm vm₁).calling g' mk As.toArray, t, U', L, E, ce, hT, X', hL, e1, e2, hq, hce, hcv, vx_cls hW₁ hcl, st⟩
end Runs
section Rows
variable {p : Program} {l : Launch} {e : Env} {R : Room} {s : State} {m : MethodId} {args : Array Value} {below : List Frame} {meth : Method} {c : Code} {H : Heap} {locs : List Loc} {cells slots : Nat} {Q : State → Prop}
variable {mc ms : Nat} {free : Addr → Prop} {A0 A1 : Nat → Prop} {H0 : Heap} {a : Array Value} {pc : Nat} {ls : Array Slot} {st0 rest : List Value}
theorem vx_keep {st₀ t T' : State} {L : List Loc} (h0 : st₀.heap = H) (e1 : T'.heap = t.heap) (hS : va_S A0 H0 H locs) (hA : ∀ q, q < H.size → A1 q → A0 q) (hf : ∀ q, free q → A0 q) (hL : ∀ q ∈ L, free q.base) (hF : va_F A1 st₀ t) :
    H.size ≤ T'.heap.size ∧ (∀ q : Nat, q < H.size → ¬ A1 q → T'.heap[q]? = H[q]?) ∧ va_S A0 H0 T'.heap (locs ++ L) := by
  obtain ⟨hz, hk⟩ := hF
  rw [h0] at hz hk
  exact ⟨by rw [e1]; exact hz, fun q h1 h2 => by rw [e1]; exact hk q h1 h2,
    ⟨Nat.le_trans hS.1 (by rw [e1]; exact hz), fun q h1 h2 => by rw [e1, hk q (Nat.lt_of_lt_of_le h1 hS.1) (fun z => h2 (hA q (Nat.lt_of_lt_of_le h1 hS.1) z))]; exact hS.2.1 q h1 h2, fun q hq => by
      rcases List.mem_append.mp hq with h | h
      · exact hS.2.2 q h
      · exact hf _ (hL q h)⟩⟩
theorem vx_calli {S SX : Type} {post : Int32 → S → Prop} {px : SX → Prop} {B : S → State → Prop} {BX : String → SX → State → Prop} {AX : Nat → Prop} (hr : vx_Run p l e R s m args below meth c H locs cells slots mc ms (F0 m pc ls st0) rest (va_Qi post B A1 a) (vx_X px BX AX) free) (hS : va_S A0 H0 H locs) (hA : ∀ q, q < H.size → A1 q → A0 q) (hf : ∀ q, free q → A0 q) (hAX : ∀ q, q < H.size → AX q → A0 q)
    (kx : ∀ (E : String) (ce : Cell) (q9 : Addr) (u : SX) (t : State) (H1 : Heap) (locs1 : List Loc), t.heap = H1 → s.vm.Alike t.vm → px u → BX E u t → H.size ≤ H1.size → (∀ q : Nat, q < H.size → ¬ AX q → H1[q]? = H[q]?) → va_S A0 H0 H1 locs1 → H1[q9]? = some ce → ce.vm = .none → s.vm.findClass E = some ce.cls → vx_W p l e R s m args below meth c H1 locs1 (cells + mc) (slots + ms) Q (F0 m pc ls rest) q9)
    (kk : ∀ (r : Int32) (u : S) (t : State) (H1 : Heap) (locs1 : List Loc), t.heap = H1 → s.vm.Alike t.vm → post r u → B u t → H.size ≤ H1.size → (∀ q : Nat, q < H.size → ¬ A1 q → H1[q]? = H[q]?) → va_S A0 H0 H1 locs1 → W p l e R s m args below meth c H1 locs1 (cells + mc) (slots + ms) Q (F0 m (pc + 3) ls (.int r :: rest))) : W p l e R s m args below meth c H locs cells slots Q (F0 m pc ls st0) := by
  intro T hT X
  rcases hr T hT X with ⟨v, st₀, t, T', L, h0, X', hL, e1, e2, ⟨⟨r, u, hv, hp, hb⟩, hF⟩, st⟩ | ⟨q, st₀, t, T', L, E, ce, h0, X', hL, e1, e2, ⟨u, hp, hb, hF⟩, hce, hcv, hcl, st⟩
  · cases hv
    obtain ⟨k1, k2, k3⟩ := vx_keep h0 e1 hS hA hf hL hF
    obtain ⟨t2, a1, b1⟩ := kk r u t T'.heap (locs ++ L) e1.symm (by rw [← e2]; exact X'.warmed.alike) hp hb k1 k2 k3 T' rfl X'
    exact ⟨t2, st t2 a1, b1⟩
  · obtain ⟨k1, k2, k3⟩ := vx_keep h0 e1 hS hAX hf hL hF
    obtain ⟨t2, a1, b1⟩ := kx E ce q u t T'.heap (locs ++ L) e1.symm (by rw [← e2]; exact X'.warmed.alike) hp hb k1 k2 k3 (by rw [e1]; exact hce) hcv hcl T' rfl X'
    exact ⟨t2, st.trans a1, b1⟩
theorem vx_calll {S SX : Type} {post : Int64 → S → Prop} {px : SX → Prop} {B : S → State → Prop} {BX : String → SX → State → Prop} {AX : Nat → Prop} (hr : vx_Run p l e R s m args below meth c H locs cells slots mc ms (F0 m pc ls st0) rest (va_Ql post B A1 a) (vx_X px BX AX) free) (hS : va_S A0 H0 H locs) (hA : ∀ q, q < H.size → A1 q → A0 q) (hf : ∀ q, free q → A0 q) (hAX : ∀ q, q < H.size → AX q → A0 q)
    (kx : ∀ (E : String) (ce : Cell) (q9 : Addr) (u : SX) (t : State) (H1 : Heap) (locs1 : List Loc), t.heap = H1 → s.vm.Alike t.vm → px u → BX E u t → H.size ≤ H1.size → (∀ q : Nat, q < H.size → ¬ AX q → H1[q]? = H[q]?) → va_S A0 H0 H1 locs1 → H1[q9]? = some ce → ce.vm = .none → s.vm.findClass E = some ce.cls → vx_W p l e R s m args below meth c H1 locs1 (cells + mc) (slots + ms) Q (F0 m pc ls rest) q9)
    (kk : ∀ (r : Int64) (u : S) (t : State) (H1 : Heap) (locs1 : List Loc), t.heap = H1 → s.vm.Alike t.vm → post r u → B u t → H.size ≤ H1.size → (∀ q : Nat, q < H.size → ¬ A1 q → H1[q]? = H[q]?) → va_S A0 H0 H1 locs1 → W p l e R s m args below meth c H1 locs1 (cells + mc) (slots + ms) Q (F0 m (pc + 3) ls (.long r :: rest))) : W p l e R s m args below meth c H locs cells slots Q (F0 m pc ls st0) := by
  intro T hT X
  rcases hr T hT X with ⟨v, st₀, t, T', L, h0, X', hL, e1, e2, ⟨⟨r, u, hv, hp, hb⟩, hF⟩, st⟩ | ⟨q, st₀, t, T', L, E, ce, h0, X', hL, e1, e2, ⟨u, hp, hb, hF⟩, hce, hcv, hcl, st⟩
  · cases hv
    obtain ⟨k1, k2, k3⟩ := vx_keep h0 e1 hS hA hf hL hF
    obtain ⟨t2, a1, b1⟩ := kk r u t T'.heap (locs ++ L) e1.symm (by rw [← e2]; exact X'.warmed.alike) hp hb k1 k2 k3 T' rfl X'
    exact ⟨t2, st t2 a1, b1⟩
  · obtain ⟨k1, k2, k3⟩ := vx_keep h0 e1 hS hAX hf hL hF
    obtain ⟨t2, a1, b1⟩ := kx E ce q u t T'.heap (locs ++ L) e1.symm (by rw [← e2]; exact X'.warmed.alike) hp hb k1 k2 k3 (by rw [e1]; exact hce) hcv hcl T' rfl X'
    exact ⟨t2, st.trans a1, b1⟩
theorem vx_callf {S SX : Type} {post : UInt32 → S → Prop} {px : SX → Prop} {B : S → State → Prop} {BX : String → SX → State → Prop} {AX : Nat → Prop} (hr : vx_Run p l e R s m args below meth c H locs cells slots mc ms (F0 m pc ls st0) rest (va_Qf post B A1 a) (vx_X px BX AX) free) (hS : va_S A0 H0 H locs) (hA : ∀ q, q < H.size → A1 q → A0 q) (hf : ∀ q, free q → A0 q) (hAX : ∀ q, q < H.size → AX q → A0 q)
    (kx : ∀ (E : String) (ce : Cell) (q9 : Addr) (u : SX) (t : State) (H1 : Heap) (locs1 : List Loc), t.heap = H1 → s.vm.Alike t.vm → px u → BX E u t → H.size ≤ H1.size → (∀ q : Nat, q < H.size → ¬ AX q → H1[q]? = H[q]?) → va_S A0 H0 H1 locs1 → H1[q9]? = some ce → ce.vm = .none → s.vm.findClass E = some ce.cls → vx_W p l e R s m args below meth c H1 locs1 (cells + mc) (slots + ms) Q (F0 m pc ls rest) q9)
    (kk : ∀ (r : UInt32) (u : S) (t : State) (H1 : Heap) (locs1 : List Loc), t.heap = H1 → s.vm.Alike t.vm → post r u → B u t → H.size ≤ H1.size → (∀ q : Nat, q < H.size → ¬ A1 q → H1[q]? = H[q]?) → va_S A0 H0 H1 locs1 → W p l e R s m args below meth c H1 locs1 (cells + mc) (slots + ms) Q (F0 m (pc + 3) ls (.float r :: rest))) : W p l e R s m args below meth c H locs cells slots Q (F0 m pc ls st0) := by
  intro T hT X
  rcases hr T hT X with ⟨v, st₀, t, T', L, h0, X', hL, e1, e2, ⟨⟨r, u, hv, hp, hb⟩, hF⟩, st⟩ | ⟨q, st₀, t, T', L, E, ce, h0, X', hL, e1, e2, ⟨u, hp, hb, hF⟩, hce, hcv, hcl, st⟩
  · cases hv
    obtain ⟨k1, k2, k3⟩ := vx_keep h0 e1 hS hA hf hL hF
    obtain ⟨t2, a1, b1⟩ := kk r u t T'.heap (locs ++ L) e1.symm (by rw [← e2]; exact X'.warmed.alike) hp hb k1 k2 k3 T' rfl X'
    exact ⟨t2, st t2 a1, b1⟩
  · obtain ⟨k1, k2, k3⟩ := vx_keep h0 e1 hS hAX hf hL hF
    obtain ⟨t2, a1, b1⟩ := kx E ce q u t T'.heap (locs ++ L) e1.symm (by rw [← e2]; exact X'.warmed.alike) hp hb k1 k2 k3 (by rw [e1]; exact hce) hcv hcl T' rfl X'
    exact ⟨t2, st.trans a1, b1⟩
theorem vx_calld {S SX : Type} {post : UInt64 → S → Prop} {px : SX → Prop} {B : S → State → Prop} {BX : String → SX → State → Prop} {AX : Nat → Prop} (hr : vx_Run p l e R s m args below meth c H locs cells slots mc ms (F0 m pc ls st0) rest (va_Qd post B A1 a) (vx_X px BX AX) free) (hS : va_S A0 H0 H locs) (hA : ∀ q, q < H.size → A1 q → A0 q) (hf : ∀ q, free q → A0 q) (hAX : ∀ q, q < H.size → AX q → A0 q)
    (kx : ∀ (E : String) (ce : Cell) (q9 : Addr) (u : SX) (t : State) (H1 : Heap) (locs1 : List Loc), t.heap = H1 → s.vm.Alike t.vm → px u → BX E u t → H.size ≤ H1.size → (∀ q : Nat, q < H.size → ¬ AX q → H1[q]? = H[q]?) → va_S A0 H0 H1 locs1 → H1[q9]? = some ce → ce.vm = .none → s.vm.findClass E = some ce.cls → vx_W p l e R s m args below meth c H1 locs1 (cells + mc) (slots + ms) Q (F0 m pc ls rest) q9)
    (kk : ∀ (r : UInt64) (u : S) (t : State) (H1 : Heap) (locs1 : List Loc), t.heap = H1 → s.vm.Alike t.vm → post r u → B u t → H.size ≤ H1.size → (∀ q : Nat, q < H.size → ¬ A1 q → H1[q]? = H[q]?) → va_S A0 H0 H1 locs1 → W p l e R s m args below meth c H1 locs1 (cells + mc) (slots + ms) Q (F0 m (pc + 3) ls (.double r :: rest))) : W p l e R s m args below meth c H locs cells slots Q (F0 m pc ls st0) := by
  intro T hT X
  rcases hr T hT X with ⟨v, st₀, t, T', L, h0, X', hL, e1, e2, ⟨⟨r, u, hv, hp, hb⟩, hF⟩, st⟩ | ⟨q, st₀, t, T', L, E, ce, h0, X', hL, e1, e2, ⟨u, hp, hb, hF⟩, hce, hcv, hcl, st⟩
  · cases hv
    obtain ⟨k1, k2, k3⟩ := vx_keep h0 e1 hS hA hf hL hF
    obtain ⟨t2, a1, b1⟩ := kk r u t T'.heap (locs ++ L) e1.symm (by rw [← e2]; exact X'.warmed.alike) hp hb k1 k2 k3 T' rfl X'
    exact ⟨t2, st t2 a1, b1⟩
  · obtain ⟨k1, k2, k3⟩ := vx_keep h0 e1 hS hAX hf hL hF
    obtain ⟨t2, a1, b1⟩ := kx E ce q u t T'.heap (locs ++ L) e1.symm (by rw [← e2]; exact X'.warmed.alike) hp hb k1 k2 k3 (by rw [e1]; exact hce) hcv hcl T' rfl X'
    exact ⟨t2, st.trans a1, b1⟩
theorem vx_callv {S SX : Type} {post : S → Prop} {px : SX → Prop} {B : S → State → Prop} {BX : String → SX → State → Prop} {AX : Nat → Prop} (hr : vx_Run p l e R s m args below meth c H locs cells slots mc ms (F0 m pc ls st0) rest (va_Qv post B A1 a) (vx_X px BX AX) free) (hS : va_S A0 H0 H locs) (hA : ∀ q, q < H.size → A1 q → A0 q) (hf : ∀ q, free q → A0 q) (hAX : ∀ q, q < H.size → AX q → A0 q)
    (kx : ∀ (E : String) (ce : Cell) (q9 : Addr) (u : SX) (t : State) (H1 : Heap) (locs1 : List Loc), t.heap = H1 → s.vm.Alike t.vm → px u → BX E u t → H.size ≤ H1.size → (∀ q : Nat, q < H.size → ¬ AX q → H1[q]? = H[q]?) → va_S A0 H0 H1 locs1 → H1[q9]? = some ce → ce.vm = .none → s.vm.findClass E = some ce.cls → vx_W p l e R s m args below meth c H1 locs1 (cells + mc) (slots + ms) Q (F0 m pc ls rest) q9)
    (kk : ∀ (u : S) (t : State) (H1 : Heap) (locs1 : List Loc), t.heap = H1 → s.vm.Alike t.vm → post u → B u t → H.size ≤ H1.size → (∀ q : Nat, q < H.size → ¬ A1 q → H1[q]? = H[q]?) → va_S A0 H0 H1 locs1 → W p l e R s m args below meth c H1 locs1 (cells + mc) (slots + ms) Q (F0 m (pc + 3) ls (rest))) : W p l e R s m args below meth c H locs cells slots Q (F0 m pc ls st0) := by
  intro T hT X
  rcases hr T hT X with ⟨v, st₀, t, T', L, h0, X', hL, e1, e2, ⟨⟨u, hv, hp, hb⟩, hF⟩, st⟩ | ⟨q, st₀, t, T', L, E, ce, h0, X', hL, e1, e2, ⟨u, hp, hb, hF⟩, hce, hcv, hcl, st⟩
  · cases hv
    obtain ⟨k1, k2, k3⟩ := vx_keep h0 e1 hS hA hf hL hF
    obtain ⟨t2, a1, b1⟩ := kk u t T'.heap (locs ++ L) e1.symm (by rw [← e2]; exact X'.warmed.alike) hp hb k1 k2 k3 T' rfl X'
    exact ⟨t2, st t2 a1, b1⟩
  · obtain ⟨k1, k2, k3⟩ := vx_keep h0 e1 hS hAX hf hL hF
    obtain ⟨t2, a1, b1⟩ := kx E ce q u t T'.heap (locs ++ L) e1.symm (by rw [← e2]; exact X'.warmed.alike) hp hb k1 k2 k3 (by rw [e1]; exact hce) hcv hcl T' rfl X'
    exact ⟨t2, st.trans a1, b1⟩
/-- caught by the row x of this method's table; the rows ahead don't take it -/
theorem vx_catch {own name : String} {E : String} {ce : Cell} {q : Addr} (hown : s.vm.findClass own = some m.cls) (pre : List ExceptionTableEntry) (x : ExceptionTableEntry) (suf : List ExceptionTableEntry) (hsplit : c.exceptionTable.toList = pre ++ x :: suf)
    (hpass : ∀ z ∈ pre, covers z pc = false ∨ (z.catchType ≠ 0 ∧ ∃ nm : String, (Cond.classLink own z.catchType nm).before args s = true ∧ va_Nc E nm s)) (hx : covers x pc = true) (h0 : x.catchType ≠ 0)
    (hlink : (Cond.classLink own x.catchType name).before args s = true) (hcast : (Cond.castable E name).before args s = true) (hcell : H[q]? = some ce) (hv : ce.vm = .none) (hcl : s.vm.findClass E = some ce.cls)
    (kk : W p l e R s m args below meth c H locs cells slots Q (F0 m x.handlerPc ls [.ref q])) : vx_W p l e R s m args below meth c H locs cells slots Q (F0 m pc ls rest) q := by
  intro T hT X
  have hpl : e.platform.magicAccessors = ({} : Platform).magicAccessors := by rw [X.admits.platform]
  obtain ⟨c3, c4, hc3, hc4, hasg⟩ := Cond.castable_spec hcast
  cases Option.some.inj (hc3.symm.trans hcl)
  obtain ⟨c5, hc5, hcl5⟩ := Cond.classLink_spec hown hlink e.platform hpl
  cases Option.some.inj (hc4.symm.trans hc5)
  obtain ⟨vm', X', st⟩ := X.thenCaughtThrough q (g := F0 m pc ls rest) rfl (Steps.refl _) (by rw [hT]; exact hcell) (by rw [hv]; rfl) (by obtain ⟨k9, h9, -⟩ := Vm.findClass_spec hcl; exact ⟨k9, h9⟩) pre x suf hsplit
    (fun z hz => by
      rcases hpass z hz with h | ⟨hz0, nm, hl1, hn1⟩
      · exact Or.inl h
      · obtain ⟨c6, hc6, hcl6⟩ := Cond.classLink_spec hown hl1 e.platform hpl
        obtain ⟨a8, b8, h1, h2, h3⟩ := hn1
        cases Option.some.inj (h1.symm.trans hcl)
        cases Option.some.inj (h2.symm.trans hc6)
        exact Or.inr ⟨hz0, _, hcl6, h3⟩) hx (Or.inr ⟨h0, c4, hcl5, hasg⟩)
  obtain ⟨t, a1, b1⟩ := kk (T.setVm vm') hT X'
  exact ⟨t, st.trans a1, b1⟩
end Rows
section Ends
variable {p : Program} {l : Launch} {e : Env} {R : Room} {s : State} {m : MethodId} {args : Array Value} {below : List Frame} {meth : Method} {c : Code} {H : Heap} {locs : List Loc} {cells slots : Nat} {Q : State → Prop}
variable {mc ms : Nat} {free : Addr → Prop} {A0 A1 : Nat → Prop} {H0 : Heap} {a : Array Value} {ls : Array Slot} {st0 rest : List Value}
variable {Qc : Array Value → State → Outcome → State → Prop} {XC : String → State → State → Prop}
/-- what a body that may throw owes at its end -/
def vx_MQ (below : List Frame) (Qc : Array Value → State → Outcome → State → Prop) (XC : String → State → State → Prop) (a : Array Value) (s : State) (mc ms : Nat) (free : Addr → Prop) : State → Prop := fun t =>
  ∃ o, t.status = .running ∧ Ended t below o ∧ vx_Q Qc XC mc ms free a s o t
theorem vx_ret {g : JFrame} {mc ms : Nat} (k : W p l e R s m args below meth c H locs cells slots (MQ below Qc args s mc ms free) g) : W p l e R s m args below meth c H locs cells slots (vx_MQ below Qc XC args s mc ms free) g := by
  intro T hT X
  obtain ⟨t, a1, o, b1, b2, b3, b4⟩ := k T hT X
  exact ⟨t, a1, o, b1, b2, Or.inl ⟨b3, b4⟩⟩
/-- not caught here: it goes on to the caller -/
theorem vx_widen {g : JFrame} {q : Addr} {k n : Nat} (h1 : cells ≤ k) (h2 : slots ≤ n) (kk : vx_W p l e R s m args below meth c H locs k n Q g q) : vx_W p l e R s m args below meth c H locs cells slots Q g q := fun T hT X => kk T hT (stand_widen X h1 h2)
theorem vx_out {pc : Nat} {E : String} {ce : Cell} {q : Addr} {mc ms : Nat} (hout : ∀ x ∈ c.exceptionTable.toList, covers x pc = false) (hlocks : meth.locks = false) (hcell : H[q]? = some ce) (hv : ce.vm = .none) (hcl : s.vm.findClass E = some ce.cls)
    (hx : ∀ t : State, t.heap = H → s.vm.Alike t.vm → XC E s t) (hf : ∀ z ∈ locs, free z.base) (hc : cells ≤ mc) (hs : slots ≤ ms) :
    vx_W p l e R s m args below meth c H locs cells slots (vx_MQ below Qc XC args s mc ms free) (F0 m pc ls rest) q := by
  intro T hT X
  obtain ⟨st1, hrun, hend, hW, hsm⟩ := X.leaveThrown q (g := F0 m pc ls rest) rfl rfl rfl hout hlocks
  have hcell9 : (T.setFrames (.throwing q :: below)).heap[q]? = some ce := by
    show T.heap[q]? = some ce
    rw [hT]; exact hcell
  exact ⟨_, st1, .threw q, hrun, hend, Or.inr ⟨q, rfl, E, ce, locs, hx _ hT hW.alike, hcell9, hv, hcl, hW, hsm.mono hc hs, hf⟩⟩
theorem vx_frame {U : State} {k n : Nat} (h : s.sameButNew ({ U with vm := s.vm } : State) locs k n) : s.heap.size ≤ U.heap.size ∧ ∀ q : Nat, q < s.heap.size → (∀ z ∈ locs, z.base ≠ q) → U.heap[q]? = s.heap[q]? := by
  obtain ⟨-, h2, -, -, -, h6⟩ := h
  refine ⟨h2, fun q hq hz => ?_⟩
  obtain ⟨c9, e1, e2, e3, e4⟩ := h6 q _ (Array.getElem?_eq_getElem hq)
  have hs : c9.slots = (s.heap[q]).slots := Array.ext_getElem? fun i => e4 i fun hm => hz _ hm rfl
  have h9 : c9 = s.heap[q] := by
    rw [hs] at e2
    exact e2
  have e5 : U.heap[q]? = some c9 := e1
  rw [e5, h9, Array.getElem?_eq_getElem hq]
/-- the words of a throw but the four that speak of the heap -/
def vx_no (w : Cond) : Bool := decide (w ≠ .isRef (.static Bundle.tN "UNASSIGNED_STACK" Bundle.steD)) && decide (w ≠ .isRef (.static Bundle.tN "SUPPRESSED_SENTINEL" Bundle.listD)) && decide (w ≠ .laysStatic Bundle.tN "UNASSIGNED_STACK" Bundle.steD) && decide (w ≠ .laysStatic Bundle.tN "SUPPRESSED_SENTINEL" Bundle.listD)
def vx_at0 (own : String) (ic : Nat) (X : String) (names : List String) : List Cond := (Bundle.ownAtoms0 own ic X names).filter vx_no
def vx_atS (own : String) (ic : Nat) (X : String) (names : List String) : List Cond := (Bundle.ownAtoms own ic X names).filter vx_no
/-- a word that the tables alone decide, or a good one -/
def vx_ot (w : Cond) : Bool := w.onTables || goodWord w
theorem vx_ot_at {args a' : Array Value} {s U : State} {w : Cond} (hW : s.WarmedH U.vm) (hvm : s.vm = U.vm) (hg : vx_ot w = true) (h : w.before args s = true) : w.before a' U = true := by
  simp only [vx_ot, Bool.or_eq_true] at hg
  rcases hg with hg | hg
  · exact va_tabs hg hvm h
  · exact word_at hW (good_of_word hg) h
/-- a list's words: the good ones out of the method's own list, the others by premises of their own -/
theorem vx_hat {args : Array Value} {s : State} {L B : List Cond} (h1 : ∀ w ∈ L.filter goodWord, w.before args s = true) (h2 : ∀ w ∈ L.filter (fun w => !goodWord w), w ∈ B) (h3 : ∀ w ∈ B, w.before args s = true) : ∀ w ∈ L, w.before args s = true := by
  intro w hw
  by_cases g : goodWord w = true
  · exact h1 w (List.mem_filter.mpr ⟨hw, g⟩)
  · refine h3 w (h2 w (List.mem_filter.mpr ⟨hw, ?_⟩))
    show (!goodWord w) = true
    cases hgw : goodWord w
    · rfl
    · exact absurd hgw g
theorem vx_c {args : Array Value} {s : State} {w : Cond} {B : List Cond} (h : w.before args s = true) (t : ∀ w ∈ B, w.before args s = true) : ∀ w' ∈ w :: B, w'.before args s = true := fun w' h' => (List.mem_cons.mp h').elim (fun e => by rw [e]; exact h) (t w')
theorem vx_n {args : Array Value} {s : State} : ∀ w ∈ ([] : List Cond), w.before args s = true := fun _ h => nomatch h
theorem vx_own {args : Array Value} {s : State} {L : List Cond} (h1 : ∀ w ∈ L.filter vx_no, w.before args s = true)
    (hU : (Cond.isRef (.static Bundle.tN "UNASSIGNED_STACK" Bundle.steD)).before args s = true) (hN : (Cond.isRef (.static Bundle.tN "SUPPRESSED_SENTINEL" Bundle.listD)).before args s = true)
    (lU : (Cond.laysStatic Bundle.tN "UNASSIGNED_STACK" Bundle.steD).before args s = true) (lN : (Cond.laysStatic Bundle.tN "SUPPRESSED_SENTINEL" Bundle.listD).before args s = true) : ∀ w ∈ L, w.before args s = true := by
  intro w hw
  by_cases e1 : w = .isRef (.static Bundle.tN "UNASSIGNED_STACK" Bundle.steD)
  · rw [e1]; exact hU
  · by_cases e2 : w = .isRef (.static Bundle.tN "SUPPRESSED_SENTINEL" Bundle.listD)
    · rw [e2]; exact hN
    · by_cases e3 : w = .laysStatic Bundle.tN "UNASSIGNED_STACK" Bundle.steD
      · rw [e3]; exact lU
      · by_cases e4 : w = .laysStatic Bundle.tN "SUPPRESSED_SENTINEL" Bundle.listD
        · rw [e4]; exact lN
        · exact h1 w (List.mem_filter.mpr ⟨hw, by unfold vx_no; rw [decide_eq_true e1, decide_eq_true e2, decide_eq_true e3, decide_eq_true e4]; rfl⟩)
/-- where a static field lies, its class's statics cell in H -/
def vx_L (C n d : String) (A : Nat → Prop) (U : State) (H : Heap) : Prop := ∃ (c : ClassId) (k : Class) (i : Nat) (f : Field) (a : Nat) (cell : Cell), U.vm.findClass C = some c ∧ U.fieldFound? C n d = some (c, k, i, f) ∧ f.isStatic = true ∧ k.statics = some a ∧ H[a]? = some cell ∧ cell.vm.isStatics = true ∧ cell.cls = c ∧ f.slot < cell.slots.size ∧ k.staticTypes[f.slot]? = some f.type ∧ ¬ A a
theorem vx_L.moved {C n d : String} {A : Nat → Prop} {u U : State} {H : Heap} (hvm : u.vm.Alike U.vm) (h : vx_L C n d A u H) : vx_L C n d A U H := by
  obtain ⟨c, k, i, f, a, cell, h1, h2, h3, h4, h5, h6, h7, h8, h9, h10⟩ := h
  obtain ⟨k', hi', he⟩ := State.fieldFound?_setVm hvm h2
  exact ⟨c, k', i, f, a, cell, by rw [hvm.findClass]; exact h1, hi', h3, by rw [he]; exact h4, h5, h6, h7, h8, by rw [he]; exact h9, h10⟩
theorem vx_L.kept {C n d : String} {A : Nat → Prop} {U : State} {H H1 : Heap} (h : vx_L C n d A U H) (hq : ∀ a : Nat, a < H.size → ¬ A a → H1[a]? = H[a]?) : vx_L C n d A U H1 := by
  obtain ⟨c, k, i, f, a, cell, h1, h2, h3, h4, h5, h6, h7, h8, h9, h10⟩ := h
  exact ⟨c, k, i, f, a, cell, h1, h2, h3, h4, by rw [hq a (Array.getElem?_eq_some_iff.mp h5).1 h10]; exact h5, h6, h7, h8, h9, h10⟩
theorem vx_L.narrow {C n d : String} {A B : Nat → Prop} {U : State} {H : Heap} (h : vx_L C n d A U H) (hAB : ∀ q, B q → A q) : vx_L C n d B U H := by
  obtain ⟨c, k, i, f, a, cell, h1, h2, h3, h4, h5, h6, h7, h8, h9, h10⟩ := h
  exact ⟨c, k, i, f, a, cell, h1, h2, h3, h4, h5, h6, h7, h8, h9, fun z => h10 (hAB _ z)⟩
theorem vx_L.word {C n d : String} {A : Nat → Prop} {s : State} {args : Array Value} (h : vx_L C n d A s s.heap) : (Cond.laysStatic C n d).before args s = true := by
  obtain ⟨c, k, i, f, a, cell, h1, h2, h3, h4, h5, h6, h7, h8, h9, -⟩ := h
  show (Cond.laysStatic C n d).holds args s none s [] = true
  exact Cond.laysStatic_of h1 h2 h3 h4 h5 h6 h7 h8 h9
/-- .. and what it holds: null or some reference -/
def vx_Zq (C n d : String) (A : Nat → Prop) (U : State) (H : Heap) : Prop := va_Zq C n d A U H ∧ vx_L C n d A U H
theorem vx_Zq.moved {C n d : String} {A : Nat → Prop} {u U : State} {H : Heap} (hvm : u.vm.Alike U.vm) (h : vx_Zq C n d A u H) : vx_Zq C n d A U H := ⟨va_Zq.moved hvm h.1, vx_L.moved hvm h.2⟩
theorem vx_Zq.kept {C n d : String} {A : Nat → Prop} {U : State} {H H1 : Heap} (h : vx_Zq C n d A U H) (hq : ∀ a : Nat, a < H.size → ¬ A a → H1[a]? = H[a]?) : vx_Zq C n d A U H1 := ⟨va_Zq.kept h.1 hq, vx_L.kept h.2 hq⟩
theorem vx_Zq.narrow {C n d : String} {A B : Nat → Prop} {U : State} {H : Heap} (h : vx_Zq C n d A U H) (hAB : ∀ q, B q → A q) : vx_Zq C n d B U H := ⟨va_Zq.narrow h.1 hAB, vx_L.narrow h.2 hAB⟩
theorem vx_Zqof {args : Array Value} {s : State} {C n d : String} {A : Nat → Prop} (hl : (Cond.laysStatic C n d).before args s = true) (hini : (Cond.initialized C).before args s = true) (h : (Cond.isRef (.static C n d)).before args s = true) (hA : ∀ a : Nat, a < s.heap.size → ¬ A a) : vx_Zq C n d A s s.heap := by
  refine ⟨va_Zqof hl hini h hA, ?_⟩
  obtain ⟨c, k, i, f, a, cell, h1, h2, h3, h4, h5, h6, h7, h8, h9⟩ := Cond.laysStatic_spec hl
  exact ⟨c, k, i, f, a, cell, h1, h2, h3, h4, h5, h6, h7, h8, h9, hA a (Array.getElem?_eq_some_iff.mp h5).1⟩
theorem vx_isRef {C n d : String} {v : Value} {A : Nat → Prop} {s : State} {args : Array Value} (h : va_Z C n d v A s s.heap) (hv : v.isRef = true) : (Cond.isRef (.static C n d)).before args s = true := by
  obtain ⟨cf, kf, fi, f, a, cell, h1, h2, h3, h4, h5, h6, h7, -⟩ := h
  have he : (Term.static C n d).eval args s none [] s = some v := by
    simp [Term.eval, State.fieldNamed?, h1, h2, h4, h5, h6, h7]
  simp only [Cond.before, Cond.holds, Cond.value, he]
  cases v <;> simp_all [Value.isRef]
theorem vx_isRefq {C n d : String} {A : Nat → Prop} {s : State} {args : Array Value} (h : va_Zq C n d A s s.heap) : (Cond.isRef (.static C n d)).before args s = true := by
  rcases h with h | ⟨t, h⟩
  · exact vx_isRef h rfl
  · exact vx_isRef h rfl
/-- the same frame, seen from here: as if the method were called anew in this heap -/
theorem vx_rebase {T : State} (X : Stand p l e R s m args below meth c T locs cells slots) {R' : Room} (hf : R'.frames ≤ R.frames) (hl : R'.locals ≤ R.locals) (hc : cells + R'.cells ≤ R.cells) (hs : slots + R'.slots ≤ R.slots) :
    Stand p l e R' ((T.setVm s.vm).setFrames (.invoking m args :: below)) m args below meth c T [] 0 0 := by
  have htop : (T.setVm s.vm).topJava?.isSome := X.here.top
  have hF : ((T.setVm s.vm).setFrames (.invoking m args :: below)).frames = .invoking m args :: below := State.frames_setFrames _ (State.cur_lt_of_top htop)
  obtain ⟨g₀, hg0⟩ := Option.isSome_iff_exists.mp htop
  obtain ⟨r, hr⟩ := State.topJava?_eq_some.mp hg0
  have hl9 : e.platform.stackLimits (T.setVm s.vm).me = e.platform.stackLimits s.me := X.limits
  have hb9 : (T.setVm s.vm).me.stackBytes = s.me.stackBytes := X.bytes
  refine ⟨X.admits, X.cas, X.clock, hF, ?_, X.hears, X.method, X.code, X.here, X.tail, X.warmed, ?_, ?_, ?_⟩
  · have h := X.room
    have hU : ((T.setVm s.vm).setFrames (.invoking m args :: below)).localsInUse = s.localsInUse := by
      rw [State.localsInUse_invoking hF (meth := meth) (c := c) X.method X.code, State.localsInUse_invoking X.frames X.method X.code]
    simp only [State.hasRoom, Bool.and_eq_true, decide_eq_true_eq] at h ⊢
    obtain ⟨⟨⟨⟨h1, h2, h3, h4, h5, h6⟩, h7⟩, h8⟩, h9⟩ := h
    rw [X.frames, List.length_cons] at h2 h3
    have q1 := X.heapSize
    have q2 := X.used
    simp only [hF, hU, List.length_cons, State.stackLimits_setFrames, State.stackBytes_setFrames, hl9, hb9]
    refine ⟨⟨⟨⟨by omega, by omega, by omega, by omega, by omega, h6⟩, ?_⟩, ?_⟩, X.book⟩
    · show T.heap.size + R'.cells ≤ e.platform.maxCells
      omega
    · show T.slotsUsed + R'.slots ≤ e.platform.maxSlots
      omega
  · rw [State.stackLimits_setFrames]; rfl
  · rw [State.stackBytes_setFrames]; rfl
  · refine ⟨?_, Nat.le_refl _, Nat.le_refl _, ?_, ?_, fun a c9 h9 => ⟨c9, h9, rfl, rfl, fun _ _ => rfl⟩⟩
    · obtain ⟨t, ht, -⟩ := State.frames_cons hr
      show T.setVm s.vm = { ((T.setVm s.vm).setFrames (.invoking m args :: below)).setFrames (T.setVm s.vm).frames with heap := T.heap, slotsUsed := T.slotsUsed }
      rw [State.setFrames_setFrames, State.setFrames_self ht]
      rfl
    · show T.slotsUsed = T.slotsUsed + ((T.heap.toList.drop T.heap.size).map (·.slots.size)).sum
      rw [List.drop_eq_nil_of_le (Nat.le_of_eq Array.length_toList)]
      rfl
    · show ((T.heap.toList.drop T.heap.size).map (·.slots.size)).sum ≤ 0
      rw [List.drop_eq_nil_of_le (Nat.le_of_eq Array.length_toList)]
      exact Nat.le_refl _
/-- 'throw new E()': new; dup; invokespecial; athrow -/
theorem vx_throw0 {cc : ByteArray} {pc : Nat} (hexec : p.tables.exec = Jvm.exec) (hb : c.code = cc) (hl : l.stackTraces = false) {own cls : String} {names : List String} {ik ic mc ms : Nat} {A : Nat → Prop}
    (hown : s.vm.findClass own = some m.cls) (hcls : Bundle.fit cls = true) (hnames : ∀ n ∈ names, Bundle.fit n = true)
    (hk : (Cond.classLink own ik cls).before args s = true) (hini : (Cond.initialized cls).before args s = true) (hat : ∀ w ∈ vx_at0 own ic cls names, w.before args s = true)
    (hgood : ∀ w ∈ Cond.classLink own ik cls :: Cond.initialized cls :: vx_at0 own ic cls names, vx_ot w = true)
    (hU : vx_Zq Bundle.tN "UNASSIGNED_STACK" Bundle.steD A s s.heap) (hN : vx_Zq Bundle.tN "SUPPRESSED_SENTINEL" Bundle.listD A s s.heap) (hS : va_S A s.heap H locs) (hsize : ls.size = c.maxLocals)
    (d0 : decode cc pc = .ok (.new ik, 3)) (d3 : decode cc (pc + 3) = .ok (.dup, 1)) (d4 : decode cc (pc + 4) = .ok (.invokespecial ic, 3)) (d7 : decode cc (pc + 7) = .ok (.athrow, 1))
    (hout : ∀ x ∈ c.exceptionTable.toList, covers x (pc + 7) = false)
    (hRframes : names.length + 3 < R.frames) (hRlocals : (rest.map fun v => v.category).sum + (13 * (names.length + 1) + 42) ≤ R.locals) (hRcells : cells + 1 ≤ R.cells) (hRslots : slots + 6 ≤ R.slots) (hlocks : meth.locks = false)
    (hx : ∀ t : State, s.vm.Alike t.vm → H.size ≤ t.heap.size → (∀ q : Nat, q < H.size → t.heap[q]? = H[q]?) → XC cls s t)
    (hf : ∀ z ∈ locs, free z.base) (hc : cells + 1 ≤ mc) (hs : slots + 6 ≤ ms) :
    W p l e R s m args below meth c H locs cells slots (vx_MQ below Qc XC args s mc ms free) (F0 m pc ls rest) := by
  intro T hT X
  have htr : e.platform.stackTraces = false := (show e.platform.stackTraces = l.stackTraces by rw [X.admits.platform]).trans hl
  have Y := vx_rebase X (R' := { frames := R.frames, locals := R.locals, cells := 1, slots := 6 }) (Nat.le_refl _) (Nat.le_refl _) hRcells hRslots
  obtain ⟨s', hA⟩ : ∃ z, z = (T.setVm s.vm).setFrames (.invoking m args :: below) := ⟨_, rfl⟩
  rw [← hA] at Y
  have hvm : s'.vm = s.vm := by rw [hA]; rfl
  have hhp : s'.heap = H := by rw [hA]; exact hT
  have hW0 : s.WarmedH s'.vm := by rw [hvm]; exact State.WarmedH.refl s
  have hat' : ∀ w ∈ vx_at0 own ic cls names, w.before args s' = true := fun w hw => vx_ot_at hW0 hvm.symm (hgood w (List.mem_cons_of_mem _ (List.mem_cons_of_mem _ hw))) (hat w hw)
  have hk' : (Cond.classLink own ik cls).before args s' = true := vx_ot_at hW0 hvm.symm (hgood _ List.mem_cons_self) hk
  have hini' : (Cond.initialized cls).before args s' = true := vx_ot_at hW0 hvm.symm (hgood _ (List.mem_cons_of_mem _ List.mem_cons_self)) hini
  have hU' : vx_Zq Bundle.tN "UNASSIGNED_STACK" Bundle.steD A s' s'.heap := by rw [hhp]; exact vx_Zq.moved hW0.alike (hU.kept hS.2.1)
  have hN' : vx_Zq Bundle.tN "SUPPRESSED_SENTINEL" Bundle.listD A s' s'.heap := by rw [hhp]; exact vx_Zq.moved hW0.alike (hN.kept hS.2.1)
  have h : ∀ w ∈ Bundle.ownAtoms0 own ic cls names, w.before args s' = true := vx_own hat' (vx_isRefq hU'.1) (vx_isRefq hN'.1) hU'.2.word hN'.2.word
  have hown' : s'.vm.findClass own = some m.cls := by rw [hvm]; exact hown
  have hins : (Cond.instantiable cls 6).before args s' = true := h _ (by simp [Bundle.ownAtoms0])
  obtain ⟨vm₁, cX, kX, hfX, hkX, -, -, X₁, st1⟩ := Y.newCold hexec (own := own) (C := cls) (index := ik) (n := 6) hown' hk' hins hini'
    (g := F0 m pc ls rest) rfl (by rw [hb]; exact d0) (Nat.le_refl _) (Nat.le_refl _)
  generalize hT1 : (T.setVm vm₁).pushCell { cls := cX, slots := kX.instanceTypes.map defaultValue, vm := .none } = T1 at X₁ st1
  have hcat : (Value.ref T.heap.size).category = 1 := rfl
  have hcellA : T1.heap[T.heap.size]? = some (freshCell cX kX) := by rw [← hT1]; exact State.heap_pushCell_size _ _
  have d3' : decode c.code (pc + 3) = .ok (.dup, 1) := by rw [hb]; exact d3
  obtain ⟨U, hsteps, hrun, hend, hW, hsame, ce, hce, hO⟩ := X₁.ctorThrow0 hexec htr (own := own) (cls := cls) (names := names) (ic := ic) hown' hcls hnames h (fun x hx => nomatch hx) hfX hkX hcellA (by rw [hhp, hT]; exact Nat.le_refl _)
    (g := { method := m, pc := pc + 4, locals := ls, stack := .ref T.heap.size :: .ref T.heap.size :: rest, locked := none }) rfl hsize rfl rfl (rest := rest) rfl
    (by rw [hb]; exact d4) (by rw [hb]; exact d7) hout hRframes (by simp only [List.map_cons, List.sum_cons, hcat]; omega) hlocks
  obtain ⟨f1, f2⟩ := vx_frame hsame
  rw [hhp] at f1 f2
  have hWs : s.WarmedH U.vm := State.WarmedH.trans hW0 hW
  have hcl : s.vm.findClass cls = some ce.cls := by
    have h9 := hO.cls
    rw [hvm] at h9
    exact h9
  have hall : s.sameButNew ({ U with vm := s.vm } : State) locs mc ms := by
    subst hA
    obtain ⟨e1, e2⟩ := hsame
    rw [State.setFrames_setFrames] at e1
    have h2 : (T.setVm s.vm).sameButNew ({ U with vm := s.vm } : State) [] (0 + 1) (0 + 6) := ⟨e1, e2⟩
    have h3 := X.same.trans h2
    rw [List.append_nil] at h3
    exact h3.mono hc hs
  refine ⟨U, ?_, .threw T.heap.size, hrun, hend, Or.inr ⟨T.heap.size, rfl, cls, ce, locs, hx U hWs.alike f1 (fun q hq => f2 q hq (fun z hz => nomatch hz)), hce, hO.vm, hcl, hWs, hall, hf⟩⟩
  refine st1 _ ?_
  show Steps p.tables e below (T1.setTop { method := m, pc := pc + 3, locals := ls, stack := .ref T.heap.size :: rest, locked := none }) _
  jvm_step X₁.here [X₁.here.top, hexec, d3', Value.category]
  exact hsteps
/-- 'throw new E("text")': new; dup; ldc; invokespecial; athrow -/
theorem vx_throwS {cc : ByteArray} {pc : Nat} (hexec : p.tables.exec = Jvm.exec) (hb : c.code = cc) (hl : l.stackTraces = false) {own cls text : String} {names : List String} {ik is ic mc ms sa : Nat} {A : Nat → Prop}
    (hown : s.vm.findClass own = some m.cls) (hcls : Bundle.fit cls = true) (hnames : ∀ n ∈ names, Bundle.fit n = true)
    (hk : (Cond.classLink own ik cls).before args s = true) (hini : (Cond.initialized cls).before args s = true) (hstr : vk_R own is text sa s) (hat : ∀ w ∈ vx_atS own ic cls names, w.before args s = true)
    (hgood : ∀ w ∈ Cond.classLink own ik cls :: Cond.initialized cls :: vx_atS own ic cls names, vx_ot w = true)
    (hU : vx_Zq Bundle.tN "UNASSIGNED_STACK" Bundle.steD A s s.heap) (hN : vx_Zq Bundle.tN "SUPPRESSED_SENTINEL" Bundle.listD A s s.heap) (hS : va_S A s.heap H locs) (hsize : ls.size = c.maxLocals)
    (d0 : decode cc pc = .ok (.new ik, 3)) (d3 : decode cc (pc + 3) = .ok (.dup, 1)) (d4 : decode cc (pc + 4) = .ok (.ldc is, 2)) (d6 : decode cc (pc + 6) = .ok (.invokespecial ic, 3)) (d9 : decode cc (pc + 9) = .ok (.athrow, 1))
    (hout : ∀ x ∈ c.exceptionTable.toList, covers x (pc + 9) = false)
    (hRframes : names.length + 3 < R.frames) (hRlocals : (rest.map fun v => v.category).sum + (13 * (names.length + 1) + 43) ≤ R.locals) (hRcells : cells + 1 ≤ R.cells) (hRslots : slots + 6 ≤ R.slots) (hlocks : meth.locks = false)
    (hx : ∀ t : State, s.vm.Alike t.vm → H.size ≤ t.heap.size → (∀ q : Nat, q < H.size → t.heap[q]? = H[q]?) → XC cls s t)
    (hf : ∀ z ∈ locs, free z.base) (hc : cells + 1 ≤ mc) (hs : slots + 6 ≤ ms) :
    W p l e R s m args below meth c H locs cells slots (vx_MQ below Qc XC args s mc ms free) (F0 m pc ls rest) := by
  intro T hT X
  have htr : e.platform.stackTraces = false := (show e.platform.stackTraces = l.stackTraces by rw [X.admits.platform]).trans hl
  have Y := vx_rebase X (R' := { frames := R.frames, locals := R.locals, cells := 1, slots := 6 }) (Nat.le_refl _) (Nat.le_refl _) hRcells hRslots
  obtain ⟨s', hA⟩ : ∃ z, z = (T.setVm s.vm).setFrames (.invoking m args :: below) := ⟨_, rfl⟩
  rw [← hA] at Y
  have hvm : s'.vm = s.vm := by rw [hA]; rfl
  have hhp : s'.heap = H := by rw [hA]; exact hT
  have hW0 : s.WarmedH s'.vm := by rw [hvm]; exact State.WarmedH.refl s
  have hat' : ∀ w ∈ vx_atS own ic cls names, w.before args s' = true := fun w hw => vx_ot_at hW0 hvm.symm (hgood w (List.mem_cons_of_mem _ (List.mem_cons_of_mem _ hw))) (hat w hw)
  have hk' : (Cond.classLink own ik cls).before args s' = true := vx_ot_at hW0 hvm.symm (hgood _ List.mem_cons_self) hk
  have hini' : (Cond.initialized cls).before args s' = true := vx_ot_at hW0 hvm.symm (hgood _ (List.mem_cons_of_mem _ List.mem_cons_self)) hini
  have hU' : vx_Zq Bundle.tN "UNASSIGNED_STACK" Bundle.steD A s' s'.heap := by rw [hhp]; exact vx_Zq.moved hW0.alike (hU.kept hS.2.1)
  have hN' : vx_Zq Bundle.tN "SUPPRESSED_SENTINEL" Bundle.listD A s' s'.heap := by rw [hhp]; exact vx_Zq.moved hW0.alike (hN.kept hS.2.1)
  have h : ∀ w ∈ Bundle.ownAtoms own ic cls names, w.before args s' = true := vx_own hat' (vx_isRefq hU'.1) (vx_isRefq hN'.1) hU'.2.word hN'.2.word
  have hown' : s'.vm.findClass own = some m.cls := by rw [hvm]; exact hown
  have hins : (Cond.instantiable cls 6).before args s' = true := h _ (by simp [Bundle.ownAtoms])
  obtain ⟨vm₁, cX, kX, hfX, hkX, -, -, X₁, st1⟩ := Y.newCold hexec (own := own) (C := cls) (index := ik) (n := 6) hown' hk' hins hini'
    (g := F0 m pc ls rest) rfl (by rw [hb]; exact d0) (Nat.le_refl _) (Nat.le_refl _)
  generalize hT1 : (T.setVm vm₁).pushCell { cls := cX, slots := kX.instanceTypes.map defaultValue, vm := .none } = T1 at X₁ st1
  have hcat : (Value.ref T.heap.size).category = 1 := rfl
  have hcellA : T1.heap[T.heap.size]? = some (freshCell cX kX) := by rw [← hT1]; exact State.heap_pushCell_size _ _
  have d3' : decode c.code (pc + 3) = .ok (.dup, 1) := by rw [hb]; exact d3
  have d4' : decode c.code (pc + 4) = .ok (.ldc is, 2) := by rw [hb]; exact d4
  have hstr' : vk_R own is text sa s' := vk_R.warm hW0 hstr
  obtain ⟨U, hsteps, hrun, hend, hW, hsame, ce, hce, hO⟩ := X₁.ctorThrowS hexec htr (own := own) (cls := cls) (names := names) (ic := ic) hown' hcls hnames h (fun x hx => nomatch hx) hfX hkX hcellA (by rw [hhp, hT]; exact Nat.le_refl _) (msg := .ref sa) rfl
    (g := { method := m, pc := pc + 6, locals := ls, stack := .ref sa :: .ref T.heap.size :: .ref T.heap.size :: rest, locked := none }) rfl hsize rfl rfl (rest := rest) rfl
    (by rw [hb]; exact d6) (by rw [hb]; exact d9) hout hRframes (by simp only [List.map_cons, List.sum_cons, hcat]; omega) hlocks
  obtain ⟨f1, f2⟩ := vx_frame hsame
  rw [hhp] at f1 f2
  have hWs : s.WarmedH U.vm := State.WarmedH.trans hW0 hW
  have hcl : s.vm.findClass cls = some ce.cls := by
    have h9 := hO.cls
    rw [hvm] at h9
    exact h9
  have hall : s.sameButNew ({ U with vm := s.vm } : State) locs mc ms := by
    subst hA
    obtain ⟨e1, e2⟩ := hsame
    rw [State.setFrames_setFrames] at e1
    have h2 : (T.setVm s.vm).sameButNew ({ U with vm := s.vm } : State) [] (0 + 1) (0 + 6) := ⟨e1, e2⟩
    have h3 := X.same.trans h2
    rw [List.append_nil] at h3
    exact h3.mono hc hs
  refine ⟨U, ?_, .threw T.heap.size, hrun, hend, Or.inr ⟨T.heap.size, rfl, cls, ce, locs, hx U hWs.alike f1 (fun q hq => f2 q hq (fun z hz => nomatch hz)), hce, hO.vm, hcl, hWs, hall, hf⟩⟩
  refine st1 _ ?_
  show Steps p.tables e below (T1.setTop { method := m, pc := pc + 3, locals := ls, stack := .ref T.heap.size :: rest, locked := none }) _
  jvm_step X₁.here [X₁.here.top, hexec, d3', Value.category]
  exact X₁.ldcString hexec (own := own) (text := text) (index := is) (a := sa) hown' hstr'.1 hstr'.2
    (g := { method := m, pc := pc + 4, locals := ls, stack := .ref T.heap.size :: .ref T.heap.size :: rest, locked := none }) rfl d4' _ hsteps
/-- 'throw new E("text")', the text by a wide index -/
theorem vx_throwSW {cc : ByteArray} {pc : Nat} (hexec : p.tables.exec = Jvm.exec) (hb : c.code = cc) (hl : l.stackTraces = false) {own cls text : String} {names : List String} {ik is ic mc ms sa : Nat} {A : Nat → Prop}
    (hown : s.vm.findClass own = some m.cls) (hcls : Bundle.fit cls = true) (hnames : ∀ n ∈ names, Bundle.fit n = true)
    (hk : (Cond.classLink own ik cls).before args s = true) (hini : (Cond.initialized cls).before args s = true) (hstr : vk_R own is text sa s) (hat : ∀ w ∈ vx_atS own ic cls names, w.before args s = true)
    (hgood : ∀ w ∈ Cond.classLink own ik cls :: Cond.initialized cls :: vx_atS own ic cls names, vx_ot w = true)
    (hU : vx_Zq Bundle.tN "UNASSIGNED_STACK" Bundle.steD A s s.heap) (hN : vx_Zq Bundle.tN "SUPPRESSED_SENTINEL" Bundle.listD A s s.heap) (hS : va_S A s.heap H locs) (hsize : ls.size = c.maxLocals)
    (d0 : decode cc pc = .ok (.new ik, 3)) (d3 : decode cc (pc + 3) = .ok (.dup, 1)) (d4 : decode cc (pc + 4) = .ok (.ldc_w is, 3)) (d7 : decode cc (pc + 7) = .ok (.invokespecial ic, 3)) (d10 : decode cc (pc + 10) = .ok (.athrow, 1))
    (hout : ∀ x ∈ c.exceptionTable.toList, covers x (pc + 10) = false)
    (hRframes : names.length + 3 < R.frames) (hRlocals : (rest.map fun v => v.category).sum + (13 * (names.length + 1) + 43) ≤ R.locals) (hRcells : cells + 1 ≤ R.cells) (hRslots : slots + 6 ≤ R.slots) (hlocks : meth.locks = false)
    (hx : ∀ t : State, s.vm.Alike t.vm → H.size ≤ t.heap.size → (∀ q : Nat, q < H.size → t.heap[q]? = H[q]?) → XC cls s t)
    (hf : ∀ z ∈ locs, free z.base) (hc : cells + 1 ≤ mc) (hs : slots + 6 ≤ ms) :
    W p l e R s m args below meth c H locs cells slots (vx_MQ below Qc XC args s mc ms free) (F0 m pc ls rest) := by
  intro T hT X
  have htr : e.platform.stackTraces = false := (show e.platform.stackTraces = l.stackTraces by rw [X.admits.platform]).trans hl
  have Y := vx_rebase X (R' := { frames := R.frames, locals := R.locals, cells := 1, slots := 6 }) (Nat.le_refl _) (Nat.le_refl _) hRcells hRslots
  obtain ⟨s', hA⟩ : ∃ z, z = (T.setVm s.vm).setFrames (.invoking m args :: below) := ⟨_, rfl⟩
  rw [← hA] at Y
  have hvm : s'.vm = s.vm := by rw [hA]; rfl
  have hhp : s'.heap = H := by rw [hA]; exact hT
  have hW0 : s.WarmedH s'.vm := by rw [hvm]; exact State.WarmedH.refl s
  have hat' : ∀ w ∈ vx_atS own ic cls names, w.before args s' = true := fun w hw => vx_ot_at hW0 hvm.symm (hgood w (List.mem_cons_of_mem _ (List.mem_cons_of_mem _ hw))) (hat w hw)
  have hk' : (Cond.classLink own ik cls).before args s' = true := vx_ot_at hW0 hvm.symm (hgood _ List.mem_cons_self) hk
  have hini' : (Cond.initialized cls).before args s' = true := vx_ot_at hW0 hvm.symm (hgood _ (List.mem_cons_of_mem _ List.mem_cons_self)) hini
  have hU' : vx_Zq Bundle.tN "UNASSIGNED_STACK" Bundle.steD A s' s'.heap := by rw [hhp]; exact vx_Zq.moved hW0.alike (hU.kept hS.2.1)
  have hN' : vx_Zq Bundle.tN "SUPPRESSED_SENTINEL" Bundle.listD A s' s'.heap := by rw [hhp]; exact vx_Zq.moved hW0.alike (hN.kept hS.2.1)
  have h : ∀ w ∈ Bundle.ownAtoms own ic cls names, w.before args s' = true := vx_own hat' (vx_isRefq hU'.1) (vx_isRefq hN'.1) hU'.2.word hN'.2.word
  have hown' : s'.vm.findClass own = some m.cls := by rw [hvm]; exact hown
  have hins : (Cond.instantiable cls 6).before args s' = true := h _ (by simp [Bundle.ownAtoms])
  obtain ⟨vm₁, cX, kX, hfX, hkX, -, -, X₁, st1⟩ := Y.newCold hexec (own := own) (C := cls) (index := ik) (n := 6) hown' hk' hins hini'
    (g := F0 m pc ls rest) rfl (by rw [hb]; exact d0) (Nat.le_refl _) (Nat.le_refl _)
  generalize hT1 : (T.setVm vm₁).pushCell { cls := cX, slots := kX.instanceTypes.map defaultValue, vm := .none } = T1 at X₁ st1
  have hcat : (Value.ref T.heap.size).category = 1 := rfl
  have hcellA : T1.heap[T.heap.size]? = some (freshCell cX kX) := by rw [← hT1]; exact State.heap_pushCell_size _ _
  have d3' : decode c.code (pc + 3) = .ok (.dup, 1) := by rw [hb]; exact d3
  have d4' : decode c.code (pc + 4) = .ok (.ldc_w is, 3) := by rw [hb]; exact d4
  have hstr' : vk_R own is text sa s' := vk_R.warm hW0 hstr
  obtain ⟨U, hsteps, hrun, hend, hW, hsame, ce, hce, hO⟩ := X₁.ctorThrowS hexec htr (own := own) (cls := cls) (names := names) (ic := ic) hown' hcls hnames h (fun x hx => nomatch hx) hfX hkX hcellA (by rw [hhp, hT]; exact Nat.le_refl _) (msg := .ref sa) rfl
    (g := { method := m, pc := pc + 7, locals := ls, stack := .ref sa :: .ref T.heap.size :: .ref T.heap.size :: rest, locked := none }) rfl hsize rfl rfl (rest := rest) rfl
    (by rw [hb]; exact d7) (by rw [hb]; exact d10) hout hRframes (by simp only [List.map_cons, List.sum_cons, hcat]; omega) hlocks
  obtain ⟨f1, f2⟩ := vx_frame hsame
  rw [hhp] at f1 f2
  have hWs : s.WarmedH U.vm := State.WarmedH.trans hW0 hW
  have hcl : s.vm.findClass cls = some ce.cls := by
    have h9 := hO.cls
    rw [hvm] at h9
    exact h9
  have hall : s.sameButNew ({ U with vm := s.vm } : State) locs mc ms := by
    subst hA
    obtain ⟨e1, e2⟩ := hsame
    rw [State.setFrames_setFrames] at e1
    have h2 : (T.setVm s.vm).sameButNew ({ U with vm := s.vm } : State) [] (0 + 1) (0 + 6) := ⟨e1, e2⟩
    have h3 := X.same.trans h2
    rw [List.append_nil] at h3
    exact h3.mono hc hs
  refine ⟨U, ?_, .threw T.heap.size, hrun, hend, Or.inr ⟨T.heap.size, rfl, cls, ce, locs, hx U hWs.alike f1 (fun q hq => f2 q hq (fun z hz => nomatch hz)), hce, hO.vm, hcl, hWs, hall, hf⟩⟩
  refine st1 _ ?_
  show Steps p.tables e below (T1.setTop { method := m, pc := pc + 3, locals := ls, stack := .ref T.heap.size :: rest, locked := none }) _
  jvm_step X₁.here [X₁.here.top, hexec, d3', Value.category]
  exact X₁.ldcStringW hexec (own := own) (text := text) (index := is) (a := sa) hown' hstr'.1 hstr'.2
    (g := { method := m, pc := pc + 4, locals := ls, stack := .ref T.heap.size :: .ref T.heap.size :: rest, locked := none }) rfl d4' _ hsteps
end Ends
section Bodies
variable {l : Launch}
theorem vx_ofW {y : MethodName} {ws ws' : List Cond} {rm : Room} {Pc : Array Value → State → Prop} {Qc : Array Value → State → Outcome → State → Prop} {XC : String → State → State → Prop} {mc ms : Nat} {free : Addr → Prop} {cc : ByteArray} {maxL : Nat} {ret : Option FieldType}
    (hy : plainName y.cls = true) (hw : ws = Cond.code y cc maxL ret :: ws')
    (body : ∀ p e s m args below meth c s₁, BodyLoose p l y (headSpec ws rm) cc maxL ret e s m args below meth c s₁ → c.maxLocals = maxL → (∀ x ∈ c.exceptionTable.toList, False) → Pc args s →
      W p l e (headSpec ws rm).room s m args below meth c s.heap [] 0 0 (vx_MQ below Qc XC args s mc ms free) (entryFrame m args maxL)) : vx_Met l y ws rm Pc Qc XC mc ms free := by
  refine MetFree.of_bodyS (code := cc) (maxLocals := maxL) (ret := ret) hy ?_ ?_
  · intro args s m h hn
    obtain ⟨meth, c, h1, h2, h3, h4, h5, h6, -, -⟩ := Cond.code_spec hn (atoms_spec (ws := ws) h _ (by rw [hw]; exact List.mem_cons_self))
    exact ⟨meth, c, h1, h2, h3, h4, h5, h6⟩
  · intro p e s m args below meth c s₁ B hml hP _
    have hh0 : s₁.heap = s.heap := by rw [B.state]; rfl
    have ht : ∀ x ∈ c.exceptionTable.toList, False := by
      obtain ⟨meth9, c9, h1, h2, -, -, -, -, h7, -⟩ := Cond.code_spec B.named (atoms_spec (ws := ws) B.pre _ (by rw [hw]; exact List.mem_cons_self))
      cases Option.some.inj (h1.symm.trans B.method)
      cases Option.some.inj (h2.symm.trans (Stand.of_body B).code)
      intro x hx
      rw [Array.isEmpty_iff.mp h7] at hx
      cases hx
    obtain ⟨t, a1, o, b1, b2, b3⟩ := body p e s m args below meth c s₁ B hml ht hP s₁ hh0 (Stand.of_body B)
    exact ⟨t, o, a1, b1, b2, b3⟩
/-- the table of a body with handlers -/
theorem vx_table {p : Program} {x y : MethodName} {S : Spec} {cc bytes : ByteArray} {maxL maxL' : Nat} {ret ret' : Option FieldType} {e : Env} {s s₁ : State} {m : MethodId} {args : Array Value} {below : List Frame} {meth : Method} {c : Code} {hh : List (Nat × Nat × Nat × Nat)}
    (B : BodyLoose p l y S cc maxL ret e s m args below meth c s₁) (h : (Cond.codeWith y bytes maxL' ret' hh).before args s = true) : c.exceptionTable.toList = tableOf hh := by
  obtain ⟨m9, meth9, c9, hn9, h1, h2, -, -, h6, -⟩ := Cond.codeWith_spec h
  cases Option.some.inj (hn9.symm.trans B.named)
  cases Option.some.inj (h1.symm.trans B.method)
  cases Option.some.inj (h2.symm.trans (Stand.of_body B).code)
  rw [← h6, table_eq]
end Bodies
end VXA
/-! ===== END ===== -/
/-! ===== BEGIN a static call of a method with an exception table ===== -/
section VXS
variable {p : Program} {l : Launch} {e : Env} {R : Room} {s : State} {m : MethodId} {args : Array Value} {below : List Frame} {meth : Method} {c : Code} {T : State} {H : Heap} {locs : List Loc} {cells slots : Nat}
abbrev vx_CSW (R : Room) (s : State) (args : Array Value) (own : String) (index : Nat) (y : MethodName) (bytes : ByteArray) (maxL : Nat) (ret : Option FieldType) (hh : List (Nat × Nat × Nat × Nat)) (ws : List Cond) (rm : Room) (mc ms n : Nat) : Prop :=
  (rm.cells = mc ∧ rm.slots = ms ∧ rm.frames + 1 ≤ R.frames ∧ 8 + (maxL + 11) + rm.locals ≤ R.locals ∧ (∀ w ∈ ws, ∀ (a' : Array Value) (U : State), s.WarmedH U.vm → w.before a' U = true) ∧ Cond.codeWith y bytes maxL ret hh ∈ ws) ∧
  (Cond.codeWith y bytes maxL ret hh).before args s = true ∧ (Cond.initialized y.cls).before args s = true ∧ (y.cls ≠ "java/lang/invoke/MethodHandle" ∧ y.cls ≠ "java/lang/invoke/VarHandle") ∧
  (∀ sig, parseMethodDescriptor y.desc = some sig → n = sig.parameters.length) ∧ (Cond.methodLink own index y).before args s = true ∧ (Cond.static y).before args s = true
theorem vx_cwSW {own : String} {index maxL mc ms : Nat} {y : MethodName} {bytes : ByteArray} {ret : Option FieldType} {hh : List (Nat × Nat × Nat × Nat)} {Ts ws ws' : List Cond} {rm : Room} (n : Nat) (ht : ∀ w ∈ Ts, w.before args s = true) (hT : GoodIn Ts (va_wsS own index y ws)) (hw : ws = Cond.codeWith y bytes maxL ret hh :: ws') (hrc : rm.cells = mc) (hrs : rm.slots = ms)
    (hd : y.cls ≠ "java/lang/invoke/MethodHandle" ∧ y.cls ≠ "java/lang/invoke/VarHandle" ∧ (parseMethodDescriptor y.desc).map (fun d => d.parameters.length) = some n) (hR : rm.frames + 1 ≤ R.frames ∧ 8 + (maxL + 11) + rm.locals ≤ R.locals) :
    vx_CSW R s args own index y bytes maxL ret hh ws rm mc ms n := by
  have ok : ∀ w ∈ va_wsS own index y ws, w.before args s = true := fun w h => ht w (hT w h).1
  have hG : GoodIn Ts ws := fun w h => hT w (by unfold va_wsS; exact List.mem_append_right _ h)
  have hc : Cond.codeWith y bytes maxL ret hh ∈ ws := by rw [hw]; exact List.mem_cons_self
  refine ⟨⟨hrc, hrs, hR.1, hR.2, pay_in ht hG, hc⟩, ht _ (hG _ hc).1, ok _ (by simp [va_wsS]), ⟨hd.1, hd.2.1⟩, fun sig h => ?_, ok _ (by simp [va_wsS]), ok _ (by simp [va_wsS])⟩
  have h2 := hd.2.2
  rw [h] at h2
  exact (Option.some.inj h2).symm
theorem vx_callSW (X : Stand p l e R s m args below meth c T locs cells slots) (hexec : p.tables.exec = Jvm.exec) {own : String} {index : Nat} {y : MethodName} {bytes : ByteArray} {maxL : Nat} {ret : Option FieldType} {hh : List (Nat × Nat × Nat × Nat)}
    (hown : s.vm.findClass own = some m.cls) (hlink : (Cond.methodLink own index y).before args s = true) (hstat : (Cond.static y).before args s = true) (hinit : (Cond.initialized y.cls).before args s = true)
    (hcode : (Cond.codeWith y bytes maxL ret hh).before args s = true) (hy : y.cls ≠ "java/lang/invoke/MethodHandle" ∧ y.cls ≠ "java/lang/invoke/VarHandle")
    {W9 : Nat} {Pre : Pt → Array Value → Prop} {Post : Pt → Array Value → Option Value → Pt → Prop} (hK : Back l R p e below s args y 3 W9 Pre Post)
    {g : JFrame} (hg : g.method = m) (hsize : g.locals.size = c.maxLocals) {argsL rest : List Value} (hlen : ∀ sig, parseMethodDescriptor y.desc = some sig → argsL.length = sig.parameters.length)
    (hstack : g.stack = argsL.reverse ++ rest) (hW : 2 * g.monitorRoom + (rest.map fun v => v.category).sum ≤ W9) (hdg : decode c.code g.pc = .ok (.invokestatic index, 3))
    (hpre : ∀ vm₁, s.WarmedH vm₁ → Pre ⟨T.setVm vm₁, locs, cells, slots⟩ argsL.toArray) :
    ∃ (v : Option Value) (vm₁ : Vm) (B : Pt), s.WarmedH vm₁ ∧ Stand p l e R s m args below meth c B.U B.locs B.cells B.slots ∧ Post ⟨T.setVm vm₁, locs, cells, slots⟩ argsL.toArray v B ∧
      ∀ target, Steps p.tables e below (B.U.setTop { g with pc := g.pc + 3, stack := v.toList ++ rest }) target → Steps p.tables e below (T.setTop g) target := by
  obtain ⟨mk, methM, cM, hnamed, hmethM, -, -, -, -, -, -, hsigM⟩ := Cond.codeWith_spec hcode
  have hstatic : methM.isStatic = true := Cond.static_spec hnamed hmethM hstat
  obtain ⟨kP, hkP, -⟩ := className_of_methodNamed hnamed
  have hinitP : kP.init = .initialized := Cond.initialized_spec (findClass_of_methodNamed hnamed) hkP hinit
  obtain ⟨vm₁, X₁, hstep₁⟩ := X.invokestatic hexec hown hlink hnamed hmethM hstatic hkP hinitP hy (g := g) hg (argsL := argsL) (rest := rest) (hlen _ hsigM) hstack hdg
  obtain ⟨v, B, X', hpost, hsteps⟩ := hK m meth c ⟨T.setVm vm₁, locs, cells, slots⟩ { g with stack := rest } (.invokestatic index) mk argsL.toArray X₁ hg hsize hdg hW (X₁.named hnamed) (hpre vm₁ X₁.warmed)
  exact ⟨v, vm₁, B, X₁.warmed, X', hpost, fun target h => hstep₁ _ fun acts => by rw [doInvoke_state]; exact hsteps.trans h⟩
theorem vx_runSW {y : MethodName} {bytes cc : ByteArray} {maxL nL mc ms n index : Nat} {ret : Option FieldType} {hh : List (Nat × Nat × Nat × Nat)} {ws : List Cond} {rm : Room} {Pc : Array Value → State → Prop} {Qc : Array Value → State → Outcome → State → Prop} {free : Addr → Prop} {Ts : List Cond} {own : String} {As rest : List Value} {g : JFrame}
    (S : CallFix p m c cc nL s args Ts own) (hM : Met l y ws rm Pc Qc mc ms free) (cw : vx_CSW R s args own index y bytes maxL ret hh ws rm mc ms n) (hp : PreS s H Pc As)
    (hg : g.method = m) (hn : As.length = n) (hsize : g.locals.size = nL) (hstack : g.stack = As.reverse ++ rest) (hW : 2 * g.monitorRoom + (rest.map fun v => v.category).sum ≤ 8) (hdg : decode cc g.pc = .ok (.invokestatic index, 3)) (hf : cells + mc ≤ R.cells ∧ slots + ms ≤ R.slots) :
    va_Run p l e R s m args below meth c H locs cells slots mc ms g rest (Qc As.toArray) (free) := by
  obtain ⟨⟨hrc, hrs, hfr, hlo, hws, hcw⟩, hcode, hini, hy, hlen, hl, hstt⟩ := cw
  have hK : Back l R p e below s args y 3 8 (PreOf R mc ms Pc) (PostOf Qc mc ms free) := va_backW (hh := hh) (bytes := bytes) (maxL := maxL) (ret := ret) hM hp.1 hrc hrs hfr hlo hws hcw (fun a' U hW => word_at hW (Or.inl (by first | rfl | simp [Cond.onTables, Cond.keeps, Cond.steady])) hini)
  obtain ⟨hx, hb, hml, ho, -⟩ := S
  intro T hT X
  obtain ⟨v, vm₁, ⟨U', l2, c2, s2⟩, hW₁, X', ⟨g', mk, t, L, e1, e2, hq, h1, hL, h2, h3⟩, st⟩ := vx_callSW X hx (hh := hh) (bytes := bytes) (maxL := maxL) (ret := ret) ho hl hstt hini hcode hy hK hg (hsize.trans hml.symm) (argsL := As) (rest := rest) (fun sig h => hn.trans (hlen sig h)) hstack hW (by rw [hb]; exact hdg)
    (fun vm₁ hW₁ => ⟨hf.1, hf.2, hp.2 (T.setVm vm₁) hT hW₁⟩)
  dsimp only [Pt.U, Pt.locs, Pt.cells, Pt.slots] at X' e1 e2 h1 h2 h3 st
  subst h1; subst h2; subst h3
  exact ⟨v, (T.setVm vm₁).calling g' mk As.toArray, t, U', L, hT, X', hL, e1, e2, hq, st⟩
/-- not caught here, past rows that name other classes: it goes on to the caller -/
theorem vx_outP {p : Program} {l : Launch} {e : Env} {R : Room} {s : State} {m : MethodId} {args : Array Value} {below : List Frame} {meth : Method} {c : Code} {H : Heap} {locs : List Loc} {cells slots : Nat} {free : Addr → Prop} {ls : Array Slot} {rest : List Value} {Qc : Array Value → State → Outcome → State → Prop} {XC : String → State → State → Prop}
    {pc : Nat} {own E : String} {ce : Cell} {q : Addr} {mc ms : Nat} (hown : s.vm.findClass own = some m.cls) (hlocks : meth.locks = false)
    (hpass : ∀ z ∈ c.exceptionTable.toList, covers z pc = false ∨ (z.catchType ≠ 0 ∧ ∃ nm : String, (Cond.classLink own z.catchType nm).before args s = true ∧ va_Nc E nm s)) (hcell : H[q]? = some ce) (hv : ce.vm = .none) (hcl : s.vm.findClass E = some ce.cls)
    (hx : ∀ t : State, t.heap = H → s.vm.Alike t.vm → XC E s t) (hf : ∀ z ∈ locs, free z.base) (hc : cells ≤ mc) (hs : slots ≤ ms) :
    vx_W p l e R s m args below meth c H locs cells slots (vx_MQ below Qc XC args s mc ms free) (F0 m pc ls rest) q := by
  intro T hT X
  have hpl : e.platform.magicAccessors = ({} : Platform).magicAccessors := by rw [X.admits.platform]
  obtain ⟨vm', hW', X', st⟩ := X.outThrough hlocks q (g := F0 m pc ls rest) rfl rfl rfl (cell := ce) (by rw [hT]; exact hcell) (by rw [hv]; rfl)
    (by obtain ⟨k9, h9, -⟩ := Vm.findClass_spec hcl; exact ⟨k9, h9⟩) (fun z hz => by
      rcases hpass z hz with h | ⟨hz0, nm, hl1, hn1⟩
      · exact Or.inl h
      · obtain ⟨c6, hc6, hcl6⟩ := Cond.classLink_spec hown hl1 e.platform hpl
        obtain ⟨a8, b8, h1, h2, h3⟩ := hn1
        cases Option.some.inj (h1.symm.trans hcl)
        cases Option.some.inj (h2.symm.trans hc6)
        exact Or.inr ⟨hz0, _, hcl6, h3⟩)
  obtain ⟨g₀, hfr⟩ := X'.frames_eq
  have hcell9 : ((T.setVm vm').setFrames (.throwing q :: below)).heap[q]? = some ce := by
    show T.heap[q]? = some ce
    rw [hT]; exact hcell
  have hend : Ended ((T.setVm vm').setFrames (.throwing q :: below)) below (.threw q) := State.frames_setFrames _ (State.cur_lt_of_frames hfr)
  refine ⟨(T.setVm vm').setFrames (.throwing q :: below), ?_, .threw q, X'.here.running, hend, Or.inr ⟨q, rfl, E, ce, locs, hx _ hT (X'.ends _).1.alike, hcell9, hv, hcl, (X'.ends _).1, (X'.ends _).2.mono hc hs, hf⟩⟩
  rw [X.pushThrowing_eq]
  exact st
/-- a thing of a world lies in the heap -/
theorem vx_lt {D : va_G} {cl : List vw_C} {ws : va_W} {H1 : Heap} (h : va_P D cl ws H1) {k : Nat} {q : Nat × va_E} (hk : ws[k]? = some q) : q.1 < H1.size := (h k q hk).lt
end VXS
/-! ===== END ===== -/
/-! ===== BEGIN methods with a table of their own: called by a name, returning or throwing ===== -/
section VXH
/-! vx_backW, vx_callVX, vx_callSX, vx_callVW, vx_runVW, vx_runVX, vx_runSX, vx_ofWH follow the same proofs as their sisters above (Free/Laws.lean, Shelf42/LK1.lean); vx_outP calls Shelf42/NT130.lean (outThrough). -/
section
variable {l : Launch} {R : Room} {p : Program} {e : Env} {below : List Frame} {s : State} {sargs : Array Value} {y : MethodName} {len W9 : Nat}
theorem vx_backW {ws : List Cond} {rm : Room} {Pc : Array Value → State → Prop} {Qc : Array Value → State → Outcome → State → Prop} {XC : String → State → State → Prop} {mc ms : Nat} {free : Addr → Prop} {bytes : ByteArray} {maxL : Nat} {ret : Option FieldType} {hh : List (Nat × Nat × Nat × Nat)}
    (hM : vx_Met l y ws rm Pc Qc XC mc ms free) (hblind : FrameBlind Pc) (hrc : rm.cells = mc) (hrs : rm.slots = ms)
    (hframes : rm.frames + 1 ≤ R.frames) (hlocals : W9 + (maxL + 11) + rm.locals ≤ R.locals)
    (hws : ∀ w ∈ ws, ∀ a' U, s.WarmedH U.vm → w.before a' U = true) (hcode : Cond.codeWith y bytes maxL ret hh ∈ ws) (hinit : ∀ a' U, s.WarmedH U.vm → (Cond.initialized y.cls).before a' U = true) :
    vx_Back l R p e below s sargs y len W9 (PreOf R mc ms Pc) (PostOf Qc mc ms free) (vx_Post XC mc ms free) := by
  intro m meth c A g ig mk a X hg hsize hdg hW hn hp
  have h1 : (headSpec ws rm).pre.before a A.U = true := atoms_intro fun w hw => hws w hw _ _ X.warmed
  have h2 : (Cond.codeWith y bytes maxL ret hh).before a A.U = true := hws _ hcode _ _ X.warmed
  have h3 : (Cond.initialized y.cls).before a A.U = true := hinit _ _ X.warmed
  have h4 : A.cells + (headSpec ws rm).room.cells ≤ R.cells := by rw [show (headSpec ws rm).room.cells = mc from hrc]; exact hp.1
  have h5 : A.slots + (headSpec ws rm).room.slots ≤ R.slots := by rw [show (headSpec ws rm).room.slots = ms from hrs]; exact hp.2.1
  have hPc : Pc a (A.U.calling g mk a) := hblind _ _ _ _ hp.2.2
  obtain ⟨U, Ls, c0, s0⟩ := A
  dsimp only [Pt.U, Pt.locs, Pt.cells, Pt.slots] at h1 h2 h3 h4 h5 X hn hPc ⊢
  obtain ⟨m9, methY, cY, hn9, hmY, hcY, -, hlY, -⟩ := Cond.codeWith_spec h2
  cases Option.some.inj (hn9.symm.trans hn)
  obtain ⟨kY, hkY, -⟩ := className_of_methodNamed hn
  have hinitY : kY.init = .initialized := Cond.initialized_spec (findClass_of_methodNamed hn) hkY h3
  have h : At U g.method c below := by rw [hg]; exact X.here
  have hlocals9 : W9 + (maxL + 11) + (headSpec ws rm).room.locals ≤ R.locals := hlocals
  have happ : (headSpec ws rm).appliesLoose y e.platform (U.calling g mk a) = true :=
    Spec.appliesLoose_calling (g := g) h hdg hn hkY hinitY
      (X.room_calling (g := g) (R' := (headSpec ws rm).room) hsize hmY hcY hframes (by rw [hlY]; omega) h4 h5) h1
  obtain ⟨mid, hmid⟩ := h.above
  have hfr : (U.setTop g).frames = (.java g :: mid) ++ below := by rw [State.frames_setTop' g h.top, hmid]; rfl
  obtain ⟨o, s₂, hsteps, -, hend, hq⟩ := Steps.callFree hM p X.admits X.cas X.clock (acts := []) hfr happ hPc trivial
  have hq' : vx_Q Qc XC mc ms free a (U.calling g mk a) o s₂ := hq
  rw [State.frames_setTop' g h.top] at hend
  obtain ⟨g₀, hg0⟩ := Option.isSome_iff_exists.mp h.top
  obtain ⟨r, hr⟩ := State.topJava?_eq_some.mp hg0
  have hr' : (({ U with heap := s₂.heap, slotsUsed := s₂.slotsUsed } : State).setVm s₂.vm).frames = .java g₀ :: r := hr
  rcases hq' with ⟨hqc, L, hfe, hL⟩ | ⟨q, rfl, E, ce, L, hx, hce, hcv, hcl, hW₂, hsm, hL⟩
  · obtain ⟨⟨v, rfl⟩, hW₂, e2, q2, q3, q4, q5, q6⟩ := id hfe
    have e3 : s₂ = ({ (U.calling g mk a).setFrames s₂.frames with heap := s₂.heap, slotsUsed := s₂.slotsUsed } : State).setVm s₂.vm := by
      have : s₂ = ({ s₂ with vm := (U.calling g mk a).vm } : State).setVm s₂.vm := rfl
      rw [e2] at this
      exact this
    obtain ⟨c₂, i₂, len₂, hc₂, hd₂, hf₂⟩ := hend
    have hW' : U.WarmedH s₂.vm := hW₂
    have hcc : c₂ = c := by
      have h1 : s₂.code? g.method = U.code? g.method := by
        rw [State.code?_eq, State.code?_eq, hW'.alike.method?]
      exact Option.some.inj (hc₂.symm.trans (h1.trans h.code))
    subst hcc
    have hlen : len₂ = len := by rw [hdg] at hd₂; cases hd₂; rfl
    subst hlen
    have hs₂ : s₂ = (({ U with heap := s₂.heap, slotsUsed := s₂.slotsUsed } : State).setVm s₂.vm).setTop { g with pc := g.pc + len₂, stack := v.toList ++ g.stack } := by
      refine e3.trans ?_
      rw [hf₂, State.calling_eq h.top, State.setFrames_setFrames, State.setTop_of_frames _ hr', hr]
      rfl
    have hsame : U.sameButNew ({ U with heap := s₂.heap, slotsUsed := s₂.slotsUsed } : State) L mc ms := by
      refine ⟨?_, q2, q3, q4, q5, q6⟩
      obtain ⟨t, ht, -⟩ := State.frames_cons hr
      show ({ U with heap := s₂.heap, slotsUsed := s₂.slotsUsed } : State) = { U.setFrames U.frames with heap := s₂.heap, slotsUsed := s₂.slotsUsed }
      rw [State.setFrames_self ht]
    subst hg
    refine Or.inl ⟨v, ⟨(({ U with heap := s₂.heap, slotsUsed := s₂.slotsUsed } : State).setVm s₂.vm), Ls ++ L, c0 + mc, s0 + ms⟩,
      ⟨X.admits, X.cas, X.clock, X.frames, X.room, X.hears, X.method, X.code, (X.here.setHeapUsed s₂.heap s₂.slotsUsed).setVm hW'.alike, X.tail, State.WarmedH.trans X.warmed hW', X.limits, X.bytes, X.same.trans (hsame.setVm s.vm)⟩,
      ⟨g, mk, s₂, L, rfl, rfl, hqc, rfl, hL, rfl, rfl⟩, ?_⟩
    show Steps p.tables e below _ ((({ U with heap := s₂.heap, slotsUsed := s₂.slotsUsed } : State).setVm s₂.vm).setTop { g with pc := g.pc + len₂, stack := v.toList ++ g.stack })
    rw [← hs₂]
    exact hsteps
  · obtain ⟨e2, q2, q3, q4, q5, q6⟩ := id hsm
    have e3 : s₂ = ({ (U.calling g mk a).setFrames s₂.frames with heap := s₂.heap, slotsUsed := s₂.slotsUsed } : State).setVm s₂.vm := by
      have : s₂ = ({ s₂ with vm := (U.calling g mk a).vm } : State).setVm s₂.vm := rfl
      rw [e2] at this
      exact this
    have hf₂ : s₂.frames = .throwing q :: .java g :: U.frames.tail := hend
    have hW' : U.WarmedH s₂.vm := hW₂
    have hs₂ : s₂ = ((({ U with heap := s₂.heap, slotsUsed := s₂.slotsUsed } : State).setVm s₂.vm).setTop g).pushFrame (.throwing q) := by
      refine e3.trans ?_
      rw [hf₂, State.calling_eq h.top, State.setFrames_setFrames, State.pushFrame, State.frames_setTop _ hr', State.setTop_of_frames _ hr', State.setFrames_setFrames, hr]
      rfl
    have hsame : U.sameButNew ({ U with heap := s₂.heap, slotsUsed := s₂.slotsUsed } : State) L mc ms := by
      refine ⟨?_, q2, q3, q4, q5, q6⟩
      obtain ⟨t, ht, -⟩ := State.frames_cons hr
      show ({ U with heap := s₂.heap, slotsUsed := s₂.slotsUsed } : State) = { U.setFrames U.frames with heap := s₂.heap, slotsUsed := s₂.slotsUsed }
      rw [State.setFrames_self ht]
    subst hg
    refine Or.inr ⟨q, ⟨(({ U with heap := s₂.heap, slotsUsed := s₂.slotsUsed } : State).setVm s₂.vm), Ls ++ L, c0 + mc, s0 + ms⟩,
      ⟨X.admits, X.cas, X.clock, X.frames, X.room, X.hears, X.method, X.code, (X.here.setHeapUsed s₂.heap s₂.slotsUsed).setVm hW'.alike, X.tail, State.WarmedH.trans X.warmed hW', X.limits, X.bytes, X.same.trans (hsame.setVm s.vm)⟩,
      ⟨g, mk, s₂, L, E, ce, rfl, rfl, hx, hce, hcv, hcl, rfl, hL, rfl, rfl⟩, ?_⟩
    show Steps p.tables e below _ (((({ U with heap := s₂.heap, slotsUsed := s₂.slotsUsed } : State).setVm s₂.vm).setTop g).pushFrame (.throwing q))
    rw [← hs₂]
    exact hsteps
end
variable {p : Program} {l : Launch} {e : Env} {R : Room} {s : State} {m : MethodId} {args : Array Value} {below : List Frame} {meth : Method} {c : Code} {T : State} {H : Heap} {locs : List Loc} {cells slots : Nat}
theorem vx_callVX (X : Stand p l e R s m args below meth c T locs cells slots) (hexec : p.tables.exec = Jvm.exec) {own C : String} {index : Nat} {y : MethodName} {bytes : ByteArray} {maxL : Nat} {ret : Option FieldType} {hh : List (Nat × Nat × Nat × Nat)}
    (hown : s.vm.findClass own = some m.cls) (hlink : (Cond.methodLink own index y).before args s = true) (hinst : (Cond.instanceMethod y).before args s = true) (hsel : (Cond.selects C y y).before args s = true)
    (hcode : (Cond.codeWith y bytes maxL ret hh).before args s = true) (hy : y.cls ≠ "java/lang/invoke/MethodHandle" ∧ y.cls ≠ "java/lang/invoke/VarHandle")
    {W9 : Nat} {Pre : Pt → Array Value → Prop} {Post : Pt → Array Value → Option Value → Pt → Prop} {PostX : Pt → Array Value → Addr → Pt → Prop} (hK : vx_Back l R p e below s args y 3 W9 Pre Post PostX)
    {b : Addr} {cellB : Cell} (hcell : T.heap[b]? = some cellB) (hobj : cellB.vm.isStatics = false) (hcls : s.vm.findClass C = some cellB.cls)
    {g : JFrame} (hg : g.method = m) (hsize : g.locals.size = c.maxLocals) {argsL rest : List Value} (hlen : ∀ sig, parseMethodDescriptor y.desc = some sig → argsL.length = sig.parameters.length)
    (hstack : g.stack = argsL.reverse ++ .ref b :: rest) (hW : 2 * g.monitorRoom + (rest.map fun v => v.category).sum ≤ W9) (hdg : decode c.code g.pc = .ok (.invokevirtual index, 3))
    (hpre : ∀ vm₁, s.WarmedH vm₁ → Pre ⟨T.setVm vm₁, locs, cells, slots⟩ (Value.ref b :: argsL).toArray) :
    (∃ (v : Option Value) (vm₁ : Vm) (B : Pt), s.WarmedH vm₁ ∧ Stand p l e R s m args below meth c B.U B.locs B.cells B.slots ∧ Post ⟨T.setVm vm₁, locs, cells, slots⟩ (Value.ref b :: argsL).toArray v B ∧
      ∀ target, Steps p.tables e below (B.U.setTop { g with pc := g.pc + 3, stack := v.toList ++ rest }) target → Steps p.tables e below (T.setTop g) target) ∨
    (∃ (q : Addr) (vm₁ : Vm) (B : Pt), s.WarmedH vm₁ ∧ Stand p l e R s m args below meth c B.U B.locs B.cells B.slots ∧ PostX ⟨T.setVm vm₁, locs, cells, slots⟩ (Value.ref b :: argsL).toArray q B ∧
      Steps p.tables e below (T.setTop g) ((B.U.setTop { g with stack := rest }).pushFrame (.throwing q))) := by
  obtain ⟨mk, methM, hnamed, hmethM, hstM, habM⟩ := Cond.instanceMethod_spec hinst
  obtain ⟨m8, methM', cM, hn8, hmethM', -, -, -, -, -, -, hsigM⟩ := Cond.codeWith_spec hcode
  cases Option.some.inj (hn8.symm.trans hnamed)
  cases hmethM.symm.trans hmethM'
  obtain ⟨c2, r2, m2, q1, q2, q3, q4, kP, hkP, hkPi⟩ := Cond.selects_spec hsel
  cases hcls.symm.trans q1
  cases (State.methodFound?_of_named hnamed hy).symm.trans q2
  cases hnamed.symm.trans q3
  have hselP : selectMethod e.platform s.vm cellB.cls mk = .method mk := by rw [Launch.admits_selectMethod X.admits]; exact q4
  obtain ⟨vm₁, X₁, hstep₁⟩ := X.invokevirtual hexec hown hlink hnamed hmethM hstM hkP hkPi hy (a := b) (cell := cellB) hcell
    (fun z h => by rw [h] at hobj; cases hobj) hselP hmethM habM hkP hkPi (g := g) hg (argsL := argsL) (rest := rest) (hlen _ hsigM) hstack hdg
  rcases hK m meth c ⟨T.setVm vm₁, locs, cells, slots⟩ { g with stack := rest } (.invokevirtual index) mk (Value.ref b :: argsL).toArray X₁ hg hsize hdg hW (X₁.named hnamed) (hpre vm₁ X₁.warmed) with ⟨v, B, X', hpost, hsteps⟩ | ⟨q, B, X', hpost, hsteps⟩
  · exact Or.inl ⟨v, vm₁, B, X₁.warmed, X', hpost, fun target h => hstep₁ _ fun acts => by rw [doInvoke_state]; exact hsteps.trans h⟩
  · exact Or.inr ⟨q, vm₁, B, X₁.warmed, X', hpost, hstep₁ _ fun acts => by rw [doInvoke_state]; exact hsteps⟩
theorem vx_callSX (X : Stand p l e R s m args below meth c T locs cells slots) (hexec : p.tables.exec = Jvm.exec) {own : String} {index : Nat} {y : MethodName} {bytes : ByteArray} {maxL : Nat} {ret : Option FieldType} {hh : List (Nat × Nat × Nat × Nat)}
    (hown : s.vm.findClass own = some m.cls) (hlink : (Cond.methodLink own index y).before args s = true) (hstat : (Cond.static y).before args s = true) (hinit : (Cond.initialized y.cls).before args s = true)
    (hcode : (Cond.codeWith y bytes maxL ret hh).before args s = true) (hy : y.cls ≠ "java/lang/invoke/MethodHandle" ∧ y.cls ≠ "java/lang/invoke/VarHandle")
    {W9 : Nat} {Pre : Pt → Array Value → Prop} {Post : Pt → Array Value → Option Value → Pt → Prop} {PostX : Pt → Array Value → Addr → Pt → Prop} (hK : vx_Back l R p e below s args y 3 W9 Pre Post PostX)
    {g : JFrame} (hg : g.method = m) (hsize : g.locals.size = c.maxLocals) {argsL rest : List Value} (hlen : ∀ sig, parseMethodDescriptor y.desc = some sig → argsL.length = sig.parameters.length)
    (hstack : g.stack = argsL.reverse ++ rest) (hW : 2 * g.monitorRoom + (rest.map fun v => v.category).sum ≤ W9) (hdg : decode c.code g.pc = .ok (.invokestatic index, 3))
    (hpre : ∀ vm₁, s.WarmedH vm₁ → Pre ⟨T.setVm vm₁, locs, cells, slots⟩ argsL.toArray) :
    (∃ (v : Option Value) (vm₁ : Vm) (B : Pt), s.WarmedH vm₁ ∧ Stand p l e R s m args below meth c B.U B.locs B.cells B.slots ∧ Post ⟨T.setVm vm₁, locs, cells, slots⟩ argsL.toArray v B ∧
      ∀ target, Steps p.tables e below (B.U.setTop { g with pc := g.pc + 3, stack := v.toList ++ rest }) target → Steps p.tables e below (T.setTop g) target) ∨
    (∃ (q : Addr) (vm₁ : Vm) (B : Pt), s.WarmedH vm₁ ∧ Stand p l e R s m args below meth c B.U B.locs B.cells B.slots ∧ PostX ⟨T.setVm vm₁, locs, cells, slots⟩ argsL.toArray q B ∧
      Steps p.tables e below (T.setTop g) ((B.U.setTop { g with stack := rest }).pushFrame (.throwing q))) := by
  obtain ⟨mk, methM, cM, hnamed, hmethM, -, -, -, -, -, -, hsigM⟩ := Cond.codeWith_spec hcode
  have hstatic : methM.isStatic = true := Cond.static_spec hnamed hmethM hstat
  obtain ⟨kP, hkP, -⟩ := className_of_methodNamed hnamed
  have hinitP : kP.init = .initialized := Cond.initialized_spec (findClass_of_methodNamed hnamed) hkP hinit
  obtain ⟨vm₁, X₁, hstep₁⟩ := X.invokestatic hexec hown hlink hnamed hmethM hstatic hkP hinitP hy (g := g) hg (argsL := argsL) (rest := rest) (hlen _ hsigM) hstack hdg
  rcases hK m meth c ⟨T.setVm vm₁, locs, cells, slots⟩ { g with stack := rest } (.invokestatic index) mk argsL.toArray X₁ hg hsize hdg hW (X₁.named hnamed) (hpre vm₁ X₁.warmed) with ⟨v, B, X', hpost, hsteps⟩ | ⟨q, B, X', hpost, hsteps⟩
  · exact Or.inl ⟨v, vm₁, B, X₁.warmed, X', hpost, fun target h => hstep₁ _ fun acts => by rw [doInvoke_state]; exact hsteps.trans h⟩
  · exact Or.inr ⟨q, vm₁, B, X₁.warmed, X', hpost, hstep₁ _ fun acts => by rw [doInvoke_state]; exact hsteps⟩
theorem vx_callVW (X : Stand p l e R s m args below meth c T locs cells slots) (hexec : p.tables.exec = Jvm.exec) {own C : String} {index : Nat} {y : MethodName} {bytes : ByteArray} {maxL : Nat} {ret : Option FieldType} {hh : List (Nat × Nat × Nat × Nat)}
    (hown : s.vm.findClass own = some m.cls) (hlink : (Cond.methodLink own index y).before args s = true) (hinst : (Cond.instanceMethod y).before args s = true) (hsel : (Cond.selects C y y).before args s = true)
    (hcode : (Cond.codeWith y bytes maxL ret hh).before args s = true) (hy : y.cls ≠ "java/lang/invoke/MethodHandle" ∧ y.cls ≠ "java/lang/invoke/VarHandle")
    {W9 : Nat} {Pre : Pt → Array Value → Prop} {Post : Pt → Array Value → Option Value → Pt → Prop} (hK : Back l R p e below s args y 3 W9 Pre Post)
    {b : Addr} {cellB : Cell} (hcell : T.heap[b]? = some cellB) (hobj : cellB.vm.isStatics = false) (hcls : s.vm.findClass C = some cellB.cls)
    {g : JFrame} (hg : g.method = m) (hsize : g.locals.size = c.maxLocals) {argsL rest : List Value} (hlen : ∀ sig, parseMethodDescriptor y.desc = some sig → argsL.length = sig.parameters.length)
    (hstack : g.stack = argsL.reverse ++ .ref b :: rest) (hW : 2 * g.monitorRoom + (rest.map fun v => v.category).sum ≤ W9) (hdg : decode c.code g.pc = .ok (.invokevirtual index, 3))
    (hpre : ∀ vm₁, s.WarmedH vm₁ → Pre ⟨T.setVm vm₁, locs, cells, slots⟩ (Value.ref b :: argsL).toArray) :
    ∃ (v : Option Value) (vm₁ : Vm) (B : Pt), s.WarmedH vm₁ ∧ Stand p l e R s m args below meth c B.U B.locs B.cells B.slots ∧ Post ⟨T.setVm vm₁, locs, cells, slots⟩ (Value.ref b :: argsL).toArray v B ∧
      ∀ target, Steps p.tables e below (B.U.setTop { g with pc := g.pc + 3, stack := v.toList ++ rest }) target → Steps p.tables e below (T.setTop g) target := by
  obtain ⟨mk, methM, hnamed, hmethM, hstM, habM⟩ := Cond.instanceMethod_spec hinst
  obtain ⟨m8, methM', cM, hn8, hmethM', -, -, -, -, -, -, hsigM⟩ := Cond.codeWith_spec hcode
  cases Option.some.inj (hn8.symm.trans hnamed)
  cases hmethM.symm.trans hmethM'
  obtain ⟨c2, r2, m2, q1, q2, q3, q4, kP, hkP, hkPi⟩ := Cond.selects_spec hsel
  cases hcls.symm.trans q1
  cases (State.methodFound?_of_named hnamed hy).symm.trans q2
  cases hnamed.symm.trans q3
  have hselP : selectMethod e.platform s.vm cellB.cls mk = .method mk := by rw [Launch.admits_selectMethod X.admits]; exact q4
  obtain ⟨vm₁, X₁, hstep₁⟩ := X.invokevirtual hexec hown hlink hnamed hmethM hstM hkP hkPi hy (a := b) (cell := cellB) hcell
    (fun z h => by rw [h] at hobj; cases hobj) hselP hmethM habM hkP hkPi (g := g) hg (argsL := argsL) (rest := rest) (hlen _ hsigM) hstack hdg
  obtain ⟨v, B, X', hpost, hsteps⟩ := hK m meth c ⟨T.setVm vm₁, locs, cells, slots⟩ { g with stack := rest } (.invokevirtual index) mk (Value.ref b :: argsL).toArray X₁ hg hsize hdg hW (X₁.named hnamed) (hpre vm₁ X₁.warmed)
  exact ⟨v, vm₁, B, X₁.warmed, X', hpost, fun target h => hstep₁ _ fun acts => by rw [doInvoke_state]; exact hsteps.trans h⟩
abbrev vx_CVW (R : Room) (s : State) (args : Array Value) (own C : String) (index : Nat) (y : MethodName) (bytes : ByteArray) (maxL : Nat) (ret : Option FieldType) (hh : List (Nat × Nat × Nat × Nat)) (ws : List Cond) (rm : Room) (mc ms n : Nat) : Prop :=
  (rm.cells = mc ∧ rm.slots = ms ∧ rm.frames + 1 ≤ R.frames ∧ 8 + (maxL + 11) + rm.locals ≤ R.locals ∧ (∀ w ∈ ws, ∀ (a' : Array Value) (U : State), s.WarmedH U.vm → w.before a' U = true) ∧ Cond.codeWith y bytes maxL ret hh ∈ ws) ∧
  (Cond.codeWith y bytes maxL ret hh).before args s = true ∧ (Cond.initialized y.cls).before args s = true ∧ (y.cls ≠ "java/lang/invoke/MethodHandle" ∧ y.cls ≠ "java/lang/invoke/VarHandle") ∧
  (∀ sig, parseMethodDescriptor y.desc = some sig → n = sig.parameters.length) ∧ (Cond.methodLink own index y).before args s = true ∧ (Cond.instanceMethod y).before args s = true ∧ (Cond.selects C y y).before args s = true
theorem vx_cwVW {own C : String} {index maxL mc ms : Nat} {y : MethodName} {bytes : ByteArray} {ret : Option FieldType} {hh : List (Nat × Nat × Nat × Nat)} {Ts ws ws' : List Cond} {rm : Room} (n : Nat) (ht : ∀ w ∈ Ts, w.before args s = true) (hT : GoodIn Ts (wsV own index C y ws)) (hw : ws = Cond.codeWith y bytes maxL ret hh :: ws') (hrc : rm.cells = mc) (hrs : rm.slots = ms)
    (hd : y.cls = C ∧ y.cls ≠ "java/lang/invoke/MethodHandle" ∧ y.cls ≠ "java/lang/invoke/VarHandle" ∧ (parseMethodDescriptor y.desc).map (fun d => d.parameters.length) = some n) (hR : rm.frames + 1 ≤ R.frames ∧ 8 + (maxL + 11) + rm.locals ≤ R.locals) :
    vx_CVW R s args own C index y bytes maxL ret hh ws rm mc ms n := by
  obtain ⟨hC, hd⟩ := hd
  subst hC
  have ok : ∀ w ∈ wsV own index y.cls y ws, w.before args s = true := fun w h => ht w (hT w h).1
  have hG : GoodIn Ts ws := fun w h => hT w (by unfold wsV; exact List.mem_append_right _ h)
  have hc : Cond.codeWith y bytes maxL ret hh ∈ ws := by rw [hw]; exact List.mem_cons_self
  refine ⟨⟨hrc, hrs, hR.1, hR.2, pay_in ht hG, hc⟩, ht _ (hG _ hc).1, ok _ (by simp [wsV]), ⟨hd.1, hd.2.1⟩, fun sig h => ?_, ok _ (by simp [wsV]), ok _ (by simp [wsV]), ok _ (by simp [wsV])⟩
  have h2 := hd.2.2
  rw [h] at h2
  exact (Option.some.inj h2).symm
theorem vx_runVW {y : MethodName} {bytes cc : ByteArray} {maxL nL mc ms n index : Nat} {ret : Option FieldType} {hh : List (Nat × Nat × Nat × Nat)} {ws : List Cond} {rm : Room} {Pc : Array Value → State → Prop} {Qc : Array Value → State → Outcome → State → Prop} {free : Addr → Prop} {Ts : List Cond} {own C : String} {b : Addr} {As rest : List Value} {g : JFrame}
    (S : CallFix p m c cc nL s args Ts own) (hM : Met l y ws rm Pc Qc mc ms free) (cw : vx_CVW R s args own C index y bytes maxL ret hh ws rm mc ms n) (hp : PreV s H C b Pc As)
    (hg : g.method = m) (hn : As.length = n) (hsize : g.locals.size = nL) (hstack : g.stack = As.reverse ++ .ref b :: rest) (hW : 2 * g.monitorRoom + (rest.map fun v => v.category).sum ≤ 8) (hdg : decode cc g.pc = .ok (.invokevirtual index, 3)) (hf : cells + mc ≤ R.cells ∧ slots + ms ≤ R.slots) :
    va_Run p l e R s m args below meth c H locs cells slots mc ms g rest (Qc (Value.ref b :: As).toArray) free := by
  obtain ⟨⟨hrc, hrs, hfr, hlo, hws, hcw⟩, hcode, hini, hy, hlen, hl, hin, hse⟩ := cw
  have hK : Back l R p e below s args y 3 8 (PreOf R mc ms Pc) (PostOf Qc mc ms free) := va_backW (hh := hh) (bytes := bytes) (maxL := maxL) (ret := ret) hM hp.1 hrc hrs hfr hlo hws hcw (fun a' U hW => word_at hW (Or.inl (by first | rfl | simp [Cond.onTables, Cond.keeps, Cond.steady])) hini)
  obtain ⟨hx, hb, hml, ho, -⟩ := S
  obtain ⟨-, ⟨cellB, hcB, hoB, hclB⟩, hPc⟩ := hp
  intro T hT X
  obtain ⟨v, vm₁, ⟨U', l2, c2, s2⟩, hW₁, X', ⟨g', mk, t, L, e1, e2, hq, h1, hL, h2, h3⟩, st⟩ := vx_callVW X hx (C := C) (hh := hh) (bytes := bytes) (maxL := maxL) (ret := ret) ho hl hin hse hcode hy hK (by rw [hT]; exact hcB) hoB hclB hg (hsize.trans hml.symm) (argsL := As) (rest := rest) (fun sig h => hn.trans (hlen sig h)) hstack hW (by rw [hb]; exact hdg)
    (fun vm₁ hW₁ => ⟨hf.1, hf.2, hPc (T.setVm vm₁) hT hW₁⟩)
  dsimp only [Pt.U, Pt.locs, Pt.cells, Pt.slots] at X' e1 e2 h1 h2 h3 st
  subst h1; subst h2; subst h3
  exact ⟨v, (T.setVm vm₁).calling g' mk (Value.ref b :: As).toArray, t, U', L, hT, X', hL, e1, e2, hq, st⟩
section
variable {y : MethodName} {bytes cc : ByteArray} {maxL nL mc ms n index : Nat} {ret : Option FieldType} {ws : List Cond} {rm : Room} {Pc : Array Value → State → Prop} {Qc : Array Value → State → Outcome → State → Prop} {XC : String → State → State → Prop} {free : Addr → Prop} {Ts : List Cond} {own C : String} {b : Addr} {As rest : List Value} {g : JFrame}
theorem vx_runVX {hh : List (Nat × Nat × Nat × Nat)} (S : CallFix p m c cc nL s args Ts own) (hM : vx_Met l y ws rm Pc Qc XC mc ms free) (cw : vx_CVW R s args own C index y bytes maxL ret hh ws rm mc ms n) (hp : PreV s H C b Pc As)
    (hg : g.method = m) (hn : As.length = n) (hsize : g.locals.size = nL) (hstack : g.stack = As.reverse ++ .ref b :: rest) (hW : 2 * g.monitorRoom + (rest.map fun v => v.category).sum ≤ 8) (hdg : decode cc g.pc = .ok (.invokevirtual index, 3)) (hf : cells + mc ≤ R.cells ∧ slots + ms ≤ R.slots) :
    vx_Run p l e R s m args below meth c H locs cells slots mc ms g rest (Qc (Value.ref b :: As).toArray) XC free := by
  obtain ⟨⟨hrc, hrs, hfr, hlo, hws, hcw⟩, hcode, hini, hy, hlen, hl, hin, hse⟩ := cw
  have hK : vx_Back l R p e below s args y 3 8 (PreOf R mc ms Pc) (PostOf Qc mc ms free) (vx_Post XC mc ms free) := vx_backW (hh := hh) (bytes := bytes) (maxL := maxL) (ret := ret) hM hp.1 hrc hrs hfr hlo hws hcw (fun a' U hW => word_at hW (Or.inl (by first | rfl | simp [Cond.onTables, Cond.keeps, Cond.steady])) hini)
  obtain ⟨hx, hb, hml, ho, -⟩ := S
  obtain ⟨-, ⟨cellB, hcB, hoB, hclB⟩, hPc⟩ := hp
  intro T hT X
  rcases vx_callVX X hx (C := C) (hh := hh) (bytes := bytes) (maxL := maxL) (ret := ret) ho hl hin hse hcode hy hK (by rw [hT]; exact hcB) hoB hclB hg (hsize.trans hml.symm) (argsL := As) (rest := rest) (fun sig h => hn.trans (hlen sig h)) hstack hW (by rw [hb]; exact hdg)
    (fun vm₁ hW₁ => ⟨hf.1, hf.2, hPc (T.setVm vm₁) hT hW₁⟩) with ⟨v, vm₁, ⟨U', l2, c2, s2⟩, hW₁, X', ⟨g', mk, t, L, e1, e2, hq, h1, hL, h2, h3⟩, st⟩ | ⟨q, vm₁, ⟨U', l2, c2, s2⟩, hW₁, X', ⟨g', mk, t, L, E, ce, e1, e2, hq, hce, hcv, hcl, h1, hL, h2, h3⟩, st⟩
  · dsimp only [Pt.U, Pt.locs, Pt.cells, Pt.slots] at X' e1 e2 h1 h2 h3 st
    subst h1; subst h2; subst h3
    exact Or.inl ⟨v, (T.setVm vm₁).calling g' mk (Value.ref b :: As).toArray, t, U', L, hT, X', hL, e1, e2, hq, st⟩
  · dsimp only [Pt.U, Pt.locs, Pt.cells, Pt.slots] at X' e1 e2 h1 h2 h3 st hcl
    subst h1; subst h2; subst h3
    exact Or.inr ⟨q, (T.setVm vm₁).calling g' mk (Value.ref b :: As).toArray, t, U', L, E, ce, hT, X', hL, e1, e2, hq, hce, hcv, vx_cls hW₁ hcl, st⟩
theorem vx_runSX {hh : List (Nat × Nat × Nat × Nat)} (S : CallFix p m c cc nL s args Ts own) (hM : vx_Met l y ws rm Pc Qc XC mc ms free) (cw : vx_CSW R s args own index y bytes maxL ret hh ws rm mc ms n) (hp : PreS s H Pc As)
    (hg : g.method = m) (hn : As.length = n) (hsize : g.locals.size = nL) (hstack : g.stack = As.reverse ++ rest) (hW : 2 * g.monitorRoom + (rest.map fun v => v.category).sum ≤ 8) (hdg : decode cc g.pc = .ok (.invokestatic index, 3)) (hf : cells + mc ≤ R.cells ∧ slots + ms ≤ R.slots) :
    vx_Run p l e R s m args below meth c H locs cells slots mc ms g rest (Qc As.toArray) XC free := by
  obtain ⟨⟨hrc, hrs, hfr, hlo, hws, hcw⟩, hcode, hini, hy, hlen, hl, hstt⟩ := cw
  have hK : vx_Back l R p e below s args y 3 8 (PreOf R mc ms Pc) (PostOf Qc mc ms free) (vx_Post XC mc ms free) := vx_backW (hh := hh) (bytes := bytes) (maxL := maxL) (ret := ret) hM hp.1 hrc hrs hfr hlo hws hcw (fun a' U hW => word_at hW (Or.inl (by first | rfl | simp [Cond.onTables, Cond.keeps, Cond.steady])) hini)
  obtain ⟨hx, hb, hml, ho, -⟩ := S
  intro T hT X
  rcases vx_callSX X hx (hh := hh) (bytes := bytes) (maxL := maxL) (ret := ret) ho hl hstt hini hcode hy hK hg (hsize.trans hml.symm) (argsL := As) (rest := rest) (fun sig h => hn.trans (hlen sig h)) hstack hW (by rw [hb]; exact hdg)
    (fun vm₁ hW₁ => ⟨hf.1, hf.2, hp.2 (T.setVm vm₁) hT hW₁⟩) with ⟨v, vm₁, ⟨U', l2, c2, s2⟩, hW₁, X', ⟨g', mk, t, L, e1, e2, hq, h1, hL, h2, h3⟩, st⟩ | ⟨q, vm₁, ⟨U', l2, c2, s2⟩, hW₁, X', ⟨g', mk, t, L, E, ce, e1, e2, hq, hce, hcv, hcl, h1, hL, h2, h3⟩, st⟩
  · dsimp only [Pt.U, Pt.locs, Pt.cells, Pt.slots] at X' e1 e2 h1 h2 h3 st
    subst h1; subst h2; subst h3
    exact Or.inl ⟨v, (T.setVm vm₁).calling g' mk As.toArray, t, U', L, hT, X', hL, e1, e2, hq, st⟩
  · dsimp only [Pt.U, Pt.locs, Pt.cells, Pt.slots] at X' e1 e2 h1 h2 h3 st hcl
    subst h1; subst h2; subst h3
    exact Or.inr ⟨q, (T.setVm vm₁).calling g' mk As.toArray, t, U', L, E, ce, hT, X', hL, e1, e2, hq, hce, hcv, vx_cls hW₁ hcl, st⟩
end
end VXH
theorem vx_ofWH {l : Launch} {y : MethodName} {ws ws' : List Cond} {rm : Room} {Pc : Array Value → State → Prop} {Qc : Array Value → State → Outcome → State → Prop} {XC : String → State → State → Prop} {mc ms : Nat} {free : Addr → Prop} {cc : ByteArray} {maxL : Nat} {ret : Option FieldType} {hh : List (Nat × Nat × Nat × Nat)}
    (hy : plainName y.cls = true) (hw : ws = Cond.codeWith y cc maxL ret hh :: ws')
    (body : ∀ p e s m args below meth c s₁, BodyLoose p l y (headSpec ws rm) cc maxL ret e s m args below meth c s₁ → c.maxLocals = maxL → Pc args s →
      W p l e (headSpec ws rm).room s m args below meth c s.heap [] 0 0 (vx_MQ below Qc XC args s mc ms free) (entryFrame m args maxL)) : vx_Met l y ws rm Pc Qc XC mc ms free := by
  refine MetFree.of_bodyS (code := cc) (maxLocals := maxL) (ret := ret) hy ?_ ?_
  · intro args s m h hn
    obtain ⟨m9, meth, c, hn9, h1, h2, h3, h4, -, h5, h6, -⟩ := Cond.codeWith_spec (atoms_spec (ws := ws) h _ (by rw [hw]; exact List.mem_cons_self))
    cases hn.symm.trans hn9
    exact ⟨meth, c, h1, h2, h3, h4, h5, h6⟩
  · intro p e s m args below meth c s₁ B hml hP _
    have hh0 : s₁.heap = s.heap := by rw [B.state]; rfl
    obtain ⟨t, a1, o, b1, b2, b3⟩ := body p e s m args below meth c s₁ B hml hP s₁ hh0 (Stand.of_body B)
    exact ⟨t, o, a1, b1, b2, b3⟩
/-! ===== END ===== -/
/-! ===== BEGIN a constructor that throws (launches without stack traces) ===== -/
section VXIA
variable {p : Program} {l : Launch} {e : Env} {R : Room} {s : State} {m : MethodId} {args : Array Value} {below : List Frame} {meth : Method} {c : Code} {T : State} {locs : List Loc} {cells slots : Nat}
theorem vx_callI (X : Stand p l e R s m args below meth c T locs cells slots) (hexec : p.tables.exec = Jvm.exec) {own : String} {index : Nat} {y : MethodName} {bytes : ByteArray} {maxL : Nat}
    (hown : s.vm.findClass own = some m.cls) (hy1 : y.name = "<init>") (hlink : (Cond.methodLink own index y).before args s = true) (hinst : (Cond.instanceMethod y).before args s = true)
    (hcode : (Cond.code y bytes maxL none).before args s = true) (hy : y.cls ≠ "java/lang/invoke/MethodHandle" ∧ y.cls ≠ "java/lang/invoke/VarHandle")
    {W9 : Nat} {Pre : Pt → Array Value → Prop} {Post : Pt → Array Value → Option Value → Pt → Prop} {PostX : Pt → Array Value → Addr → Pt → Prop} (hK : vx_Back l R p e below s args y 3 W9 Pre Post PostX)
    {g : JFrame} (hg : g.method = m) (hsize : g.locals.size = c.maxLocals) {a : Addr} {argsL rest : List Value} (hlen : ∀ sig, parseMethodDescriptor y.desc = some sig → argsL.length = sig.parameters.length)
    (hstack : g.stack = argsL.reverse ++ .ref a :: rest) (hW : 2 * g.monitorRoom + (rest.map fun v => v.category).sum ≤ W9) (hdg : decode c.code g.pc = .ok (.invokespecial index, 3))
    (hpre : ∀ vm₁, s.WarmedH vm₁ → Pre ⟨T.setVm vm₁, locs, cells, slots⟩ (Value.ref a :: argsL).toArray) :
    (∃ (v : Option Value) (vm₁ : Vm) (B : Pt), s.WarmedH vm₁ ∧ Stand p l e R s m args below meth c B.U B.locs B.cells B.slots ∧ Post ⟨T.setVm vm₁, locs, cells, slots⟩ (Value.ref a :: argsL).toArray v B ∧
      ∀ target, Steps p.tables e below (B.U.setTop { g with pc := g.pc + 3, stack := v.toList ++ rest }) target → Steps p.tables e below (T.setTop g) target) ∨
    (∃ (q : Addr) (vm₁ : Vm) (B : Pt), s.WarmedH vm₁ ∧ Stand p l e R s m args below meth c B.U B.locs B.cells B.slots ∧ PostX ⟨T.setVm vm₁, locs, cells, slots⟩ (Value.ref a :: argsL).toArray q B ∧
      Steps p.tables e below (T.setTop g) ((B.U.setTop { g with stack := rest }).pushFrame (.throwing q))) := by
  subst hg
  have hpl : e.platform.magicAccessors = ({} : Platform).magicAccessors := by rw [X.admits.platform]
  obtain ⟨mk, methM, cM, kP, vm₁, hnamed, hmethM, hcodeM, -, hlocalsM, -, hkP, -, hW₁, hstep₁⟩ := Steps.initColdArgs (e := e) X.here hexec X.warmed hpl hown hy1 hy hlink hinst hcode (f := g) rfl hlen hstack hdg
  have X₁ := X.noted hW₁
  rcases hK g.method meth c ⟨T.setVm vm₁, locs, cells, slots⟩ { g with stack := rest } (.invokespecial index) mk (Value.ref a :: argsL).toArray X₁ rfl hsize hdg hW (X₁.named hnamed) (hpre vm₁ X₁.warmed) with ⟨v, B, X', hpost, hsteps⟩ | ⟨q, B, X', hpost, hsteps⟩
  · exact Or.inl ⟨v, vm₁, B, X₁.warmed, X', hpost, fun target h => hstep₁ _ fun acts => by rw [doInvoke_state]; exact hsteps.trans h⟩
  · exact Or.inr ⟨q, vm₁, B, X₁.warmed, X', hpost, hstep₁ _ fun acts => by rw [doInvoke_state]; exact hsteps⟩
end VXIA
section VXIB
variable {p : Program} {l : Launch} {e : Env} {R : Room} {s : State} {m : MethodId} {args : Array Value} {below : List Frame} {meth : Method} {c : Code} {H : Heap} {locs : List Loc} {cells slots : Nat}
variable {y : MethodName} {bytes cc : ByteArray} {maxL nL mc ms n index : Nat} {ret : Option FieldType} {ws : List Cond} {rm : Room} {Pc : Array Value → State → Prop} {Qc : Array Value → State → Outcome → State → Prop} {XC : String → State → State → Prop} {free : Addr → Prop} {Ts : List Cond} {own C : String} {b : Addr} {As rest : List Value} {g : JFrame}
theorem vx_runI (S : CallFix p m c cc nL s args Ts own) (hM : vx_Met l y ws rm Pc Qc XC mc ms free) (cw : CallB R s args own index y bytes maxL none ws rm mc ms n ∧ y.name = "<init>" ∧ (Cond.instanceMethod y).before args s = true) (hp : PreS s H Pc (.ref b :: As))
    (hg : g.method = m) (hn : As.length = n) (hsize : g.locals.size = nL) (hstack : g.stack = As.reverse ++ .ref b :: rest) (hW : 2 * g.monitorRoom + (rest.map fun v => v.category).sum ≤ 8) (hdg : decode cc g.pc = .ok (.invokespecial index, 3)) (hf : cells + mc ≤ R.cells ∧ slots + ms ≤ R.slots) :
    vx_Run p l e R s m args below meth c H locs cells slots mc ms g rest (Qc (Value.ref b :: As).toArray) XC free := by
  have hK : vx_Back l R p e below s args y 3 8 (PreOf R mc ms Pc) (PostOf Qc mc ms free) (vx_Post XC mc ms free) := vx_callBack cw.1 hM hp.1
  obtain ⟨⟨-, -, -, -, -, -, hcode, -, hy, hlen, hl⟩, hy1, hin⟩ := cw
  obtain ⟨hx, hb, hml, ho, -⟩ := S
  have hPc := hp.2
  intro T hT X
  rcases vx_callI X hx (bytes := bytes) (maxL := maxL) ho hy1 hl hin hcode hy hK hg (hsize.trans hml.symm) (a := b) (argsL := As) (rest := rest) (fun sig h => hn.trans (hlen sig h)) hstack hW (by rw [hb]; exact hdg)
    (fun vm₁ hW₁ => ⟨hf.1, hf.2, hPc (T.setVm vm₁) hT hW₁⟩) with ⟨v, vm₁, ⟨U', l2, c2, s2⟩, hW₁, X', ⟨g', mk, t, L, e1, e2, hq, h1, hL, h2, h3⟩, st⟩ | ⟨q, vm₁, ⟨U', l2, c2, s2⟩, hW₁, X', ⟨g', mk, t, L, E, ce, e1, e2, hq, hce, hcv, hcl, h1, hL, h2, h3⟩, st⟩
  · dsimp only [Pt.U, Pt.locs, Pt.cells, Pt.slots] at X' e1 e2 h1 h2 h3 st
    subst h1; subst h2; subst h3
    exact Or.inl ⟨v, (T.setVm vm₁).calling g' mk (Value.ref b :: As).toArray, t, U', L, hT, X', hL, e1, e2, hq, st⟩
  · dsimp only [Pt.U, Pt.locs, Pt.cells, Pt.slots] at X' e1 e2 h1 h2 h3 st hcl
    subst h1; subst h2; subst h3
    exact Or.inr ⟨q, (T.setVm vm₁).calling g' mk (Value.ref b :: As).toArray, t, U', L, E, ce, hT, X', hL, e1, e2, hq, hce, hcv, vx_cls hW₁ hcl, st⟩
end VXIB
/-! ===== END ===== -/
/-! ===== BEGIN a private constructor of a nest mate that throws ===== -/
section VXIC
variable {p : Program} {l : Launch} {e : Env} {R : Room} {s : State} {m : MethodId} {args : Array Value} {below : List Frame} {meth : Method} {c : Code} {T : State} {locs : List Loc} {cells slots : Nat}
theorem vx_callIN (X : Stand p l e R s m args below meth c T locs cells slots) (hexec : p.tables.exec = Jvm.exec) {own : String} {index : Nat} {host : String} {y : MethodName} {bytes : ByteArray} {maxL : Nat}
    (hown : s.vm.findClass own = some m.cls) (hy1 : y.name = "<init>") (hlink : (Cond.methodLinkNest own index y host).before args s = true) (hinst : (Cond.instanceMethod y).before args s = true)
    (hcode : (Cond.code y bytes maxL none).before args s = true) (hy : y.cls ≠ "java/lang/invoke/MethodHandle" ∧ y.cls ≠ "java/lang/invoke/VarHandle")
    {W9 : Nat} {Pre : Pt → Array Value → Prop} {Post : Pt → Array Value → Option Value → Pt → Prop} {PostX : Pt → Array Value → Addr → Pt → Prop} (hK : vx_Back l R p e below s args y 3 W9 Pre Post PostX)
    {g : JFrame} (hg : g.method = m) (hsize : g.locals.size = c.maxLocals) {a : Addr} {argsL rest : List Value} (hlen : ∀ sig, parseMethodDescriptor y.desc = some sig → argsL.length = sig.parameters.length)
    (hstack : g.stack = argsL.reverse ++ .ref a :: rest) (hW : 2 * g.monitorRoom + (rest.map fun v => v.category).sum ≤ W9) (hdg : decode c.code g.pc = .ok (.invokespecial index, 3))
    (hpre : ∀ vm₁, s.WarmedH vm₁ → Pre ⟨T.setVm vm₁, locs, cells, slots⟩ (Value.ref a :: argsL).toArray) :
    (∃ (v : Option Value) (vm₁ : Vm) (B : Pt), s.WarmedH vm₁ ∧ Stand p l e R s m args below meth c B.U B.locs B.cells B.slots ∧ Post ⟨T.setVm vm₁, locs, cells, slots⟩ (Value.ref a :: argsL).toArray v B ∧
      ∀ target, Steps p.tables e below (B.U.setTop { g with pc := g.pc + 3, stack := v.toList ++ rest }) target → Steps p.tables e below (T.setTop g) target) ∨
    (∃ (q : Addr) (vm₁ : Vm) (B : Pt), s.WarmedH vm₁ ∧ Stand p l e R s m args below meth c B.U B.locs B.cells B.slots ∧ PostX ⟨T.setVm vm₁, locs, cells, slots⟩ (Value.ref a :: argsL).toArray q B ∧
      Steps p.tables e below (T.setTop g) ((B.U.setTop { g with stack := rest }).pushFrame (.throwing q))) := by
  subst hg
  have hpl : e.platform.magicAccessors = ({} : Platform).magicAccessors := by rw [X.admits.platform]
  obtain ⟨mk, methM, cM, kP, vm₁, hnamed, hmethM, hcodeM, -, hlocalsM, -, hkP, -, hW₁, hstep₁⟩ := Steps.initColdArgsNest (e := e) X.here hexec X.warmed hpl hown hy1 hy hlink hinst hcode (f := g) rfl hlen hstack hdg
  have X₁ := X.noted hW₁
  rcases hK g.method meth c ⟨T.setVm vm₁, locs, cells, slots⟩ { g with stack := rest } (.invokespecial index) mk (Value.ref a :: argsL).toArray X₁ rfl hsize hdg hW (X₁.named hnamed) (hpre vm₁ X₁.warmed) with ⟨v, B, X', hpost, hsteps⟩ | ⟨q, B, X', hpost, hsteps⟩
  · exact Or.inl ⟨v, vm₁, B, X₁.warmed, X', hpost, fun target h => hstep₁ _ fun acts => by rw [doInvoke_state]; exact hsteps.trans h⟩
  · exact Or.inr ⟨q, vm₁, B, X₁.warmed, X', hpost, hstep₁ _ fun acts => by rw [doInvoke_state]; exact hsteps⟩
end VXIC
section VXID
variable {p : Program} {l : Launch} {e : Env} {R : Room} {s : State} {m : MethodId} {args : Array Value} {below : List Frame} {meth : Method} {c : Code} {H : Heap} {locs : List Loc} {cells slots : Nat}
theorem vx_runIN {y : MethodName} {bytes cc : ByteArray} {maxL nL mc ms n index : Nat} {ws : List Cond} {rm : Room} {Pc : Array Value → State → Prop} {Qc : Array Value → State → Outcome → State → Prop} {XC : String → State → State → Prop} {free : Addr → Prop} {Ts : List Cond} {own host : String} {b : Addr} {As rest : List Value} {g : JFrame}
    (S : CallFix p m c cc nL s args Ts own) (hM : vx_Met l y ws rm Pc Qc XC mc ms free) (cw : va_CN R s args own index y host bytes maxL none ws rm mc ms n ∧ y.name = "<init>" ∧ (Cond.instanceMethod y).before args s = true) (hp : PreS s H Pc (.ref b :: As))
    (hg : g.method = m) (hn : As.length = n) (hsize : g.locals.size = nL) (hstack : g.stack = As.reverse ++ .ref b :: rest) (hW : 2 * g.monitorRoom + (rest.map fun v => v.category).sum ≤ 8) (hdg : decode cc g.pc = .ok (.invokespecial index, 3)) (hf : cells + mc ≤ R.cells ∧ slots + ms ≤ R.slots) :
    vx_Run p l e R s m args below meth c H locs cells slots mc ms g rest (Qc (Value.ref b :: As).toArray) XC free := by
  obtain ⟨⟨⟨hrc, hrs, hfr, hlo, hws, hcw⟩, hcode, hini, hy, hlen, hl⟩, hx1, hx2⟩ := cw
  have hK : vx_Back l R p e below s args y 3 8 (PreOf R mc ms Pc) (PostOf Qc mc ms free) (vx_Post XC mc ms free) := vx_back (bytes := bytes) (maxL := maxL) (ret := none) hM hp.1 hrc hrs hfr hlo hws hcw (fun a' U hW => word_at hW (Or.inl (by first | rfl | simp [Cond.onTables, Cond.keeps, Cond.steady])) hini)
  obtain ⟨hx, hb, hml, ho, -⟩ := S
  have hPc := hp.2
  intro T hT X
  rcases vx_callIN X hx (bytes := bytes) (maxL := maxL) ho hx1 hl hx2 hcode hy hK hg (hsize.trans hml.symm) (a := b) (argsL := As) (rest := rest) (fun sig h => hn.trans (hlen sig h)) hstack hW (by rw [hb]; exact hdg)
    (fun vm₁ hW₁ => ⟨hf.1, hf.2, hPc (T.setVm vm₁) hT hW₁⟩) with ⟨v, vm₁, ⟨U', l2, c2, s2⟩, hW₁, X', ⟨g', mk, t, L, e1, e2, hq, h1, hL, h2, h3⟩, st⟩ | ⟨q, vm₁, ⟨U', l2, c2, s2⟩, hW₁, X', ⟨g', mk, t, L, E, ce, e1, e2, hq, hce, hcv, hcl, h1, hL, h2, h3⟩, st⟩
  · dsimp only [Pt.U, Pt.locs, Pt.cells, Pt.slots] at X' e1 e2 h1 h2 h3 st
    subst h1; subst h2; subst h3
    exact Or.inl ⟨v, (T.setVm vm₁).calling g' mk (Value.ref b :: As).toArray, t, U', L, hT, X', hL, e1, e2, hq, st⟩
  · dsimp only [Pt.U, Pt.locs, Pt.cells, Pt.slots] at X' e1 e2 h1 h2 h3 st hcl
    subst h1; subst h2; subst h3
    exact Or.inr ⟨q, (T.setVm vm₁).calling g' mk (Value.ref b :: As).toArray, t, U', L, E, ce, hT, X', hL, e1, e2, hq, hce, hcv, vx_cls hW₁ hcl, st⟩
end VXID
/-! ===== END ===== -/
/-! ===== BEGIN a method of a class above, found by the receiver, that may throw (follows va_callVU, va_runU of this kit) ===== -/
section
variable {p : Program} {l : Launch} {e : Env} {R : Room} {s : State} {m : MethodId} {args : Array Value} {below : List Frame} {meth : Method} {c : Code} {H : Heap} {locs : List Loc} {cells slots : Nat}
theorem vx_callVU {T : State} {locs : List Loc} {cells slots : Nat} (X : Stand p l e R s m args below meth c T locs cells slots) (hexec : p.tables.exec = Jvm.exec) {own C owner : String} {index : Nat} {x y : MethodName} {bytes : ByteArray} {maxL : Nat} {ret : Option FieldType}
    (hown : s.vm.findClass own = some m.cls) (hlink : (Cond.methodLink own index x).before args s = true) (hsame : (Cond.sameMethod x.cls owner x.name x.desc).before args s = true)
    (hd0 : va_Decl s ⟨owner, x.name, x.desc⟩) (howner : owner ≠ "java/lang/invoke/MethodHandle" ∧ owner ≠ "java/lang/invoke/VarHandle")
    (hsel : (Cond.selects C x y).before args s = true) (hinst : (Cond.instanceMethod y).before args s = true) (hcode : (Cond.code y bytes maxL ret).before args s = true)
    {W : Nat} {Pre : Pt → Array Value → Prop} {Post : Pt → Array Value → Option Value → Pt → Prop} {PostX : Pt → Array Value → Addr → Pt → Prop} (hK : vx_Back l R p e below s args y 3 W Pre Post PostX)
    {b : Addr} {cellB : Cell} (hcell : T.heap[b]? = some cellB) (hobj : cellB.vm.isStatics = false) (hcls : s.vm.findClass C = some cellB.cls)
    {g : JFrame} (hg : g.method = m) (hsize : g.locals.size = c.maxLocals) {argsL rest : List Value} (hlen : ∀ sig, parseMethodDescriptor x.desc = some sig → argsL.length = sig.parameters.length)
    (hstack : g.stack = argsL.reverse ++ .ref b :: rest) (hW : 2 * g.monitorRoom + (rest.map fun v => v.category).sum ≤ W) (hdg : decode c.code g.pc = .ok (.invokevirtual index, 3))
    (hpre : ∀ vm₁, s.WarmedH vm₁ → Pre ⟨T.setVm vm₁, locs, cells, slots⟩ (Value.ref b :: argsL).toArray) :
    (∃ (v : Option Value) (vm₁ : Vm) (B : Pt), s.WarmedH vm₁ ∧ Stand p l e R s m args below meth c B.U B.locs B.cells B.slots ∧ Post ⟨T.setVm vm₁, locs, cells, slots⟩ (Value.ref b :: argsL).toArray v B ∧
      ∀ target, Steps p.tables e below (B.U.setTop { g with pc := g.pc + 3, stack := v.toList ++ rest }) target → Steps p.tables e below (T.setTop g) target) ∨
    (∃ (q : Addr) (vm₁ : Vm) (B : Pt), s.WarmedH vm₁ ∧ Stand p l e R s m args below meth c B.U B.locs B.cells B.slots ∧ PostX ⟨T.setVm vm₁, locs, cells, slots⟩ (Value.ref b :: argsL).toArray q B ∧
      Steps p.tables e below (T.setTop g) ((B.U.setTop { g with stack := rest }).pushFrame (.throwing q))) := by
  obtain ⟨r0, r, hn, hrm, hstR, hsigR⟩ := hd0
  obtain ⟨cn, ck, r1, hcn, hck, hni, hf, hn1⟩ := Cond.sameMethod_found hsame
  cases hn.symm.trans hn1
  obtain ⟨mk, methM, hnamed, hmethM, -, habM⟩ := Cond.instanceMethod_spec hinst
  obtain ⟨c2, r2, m2, q1, q2, q3, q4, kP, hkP, hkPi⟩ := Cond.selects_spec hsel
  cases hcls.symm.trans q1
  cases hf.symm.trans q2
  cases hnamed.symm.trans q3
  have hselP : selectMethod e.platform s.vm cellB.cls r0 = .method mk := by rw [Launch.admits_selectMethod X.admits]; exact q4
  obtain ⟨vm₁, X₁, hstep₁⟩ := X.invokevirtualUp hexec hown hlink hsame howner hn hrm hstR (a := b) (cell := cellB) hcell
    (fun z h => by rw [h] at hobj; cases hobj) hselP hmethM habM hkP hkPi (g := g) hg (argsL := argsL) (rest := rest) (hlen _ hsigR) hstack hdg
  rcases hK m meth c ⟨T.setVm vm₁, locs, cells, slots⟩ { g with stack := rest } (.invokevirtual index) mk (Value.ref b :: argsL).toArray X₁ hg hsize hdg hW (X₁.named hnamed) (hpre vm₁ X₁.warmed) with ⟨v, B, X', hpost, hsteps⟩ | ⟨q, B, X', hpost, hsteps⟩
  · exact Or.inl ⟨v, vm₁, B, X₁.warmed, X', hpost, fun target h => hstep₁ _ fun acts => by rw [doInvoke_state]; exact hsteps.trans h⟩
  · exact Or.inr ⟨q, vm₁, B, X₁.warmed, X', hpost, hstep₁ _ fun acts => by rw [doInvoke_state]; exact hsteps⟩
theorem vx_runU {x y : MethodName} {bytes cc : ByteArray} {maxL nL mc ms n index : Nat} {ret : Option FieldType} {ws : List Cond} {rm : Room} {Pc : Array Value → State → Prop} {Qc : Array Value → State → Outcome → State → Prop} {XC : String → State → State → Prop} {free : Addr → Prop} {Ts : List Cond} {own C owner : String} {b : Addr} {As rest : List Value} {g : JFrame}
    (S : CallFix p m c cc nL s args Ts own) (hM : vx_Met l y ws rm Pc Qc XC mc ms free) (cw : va_CU R s args own C owner index x y bytes maxL ret ws rm mc ms n) (hp : PreV s H C b Pc As)
    (hg : g.method = m) (hn : As.length = n) (hsize : g.locals.size = nL) (hstack : g.stack = As.reverse ++ .ref b :: rest) (hW : 2 * g.monitorRoom + (rest.map fun v => v.category).sum ≤ 8) (hdg : decode cc g.pc = .ok (.invokevirtual index, 3)) (hf : cells + mc ≤ R.cells ∧ slots + ms ≤ R.slots) :
    vx_Run p l e R s m args below meth c H locs cells slots mc ms g rest (Qc (Value.ref b :: As).toArray) XC free := by
  obtain ⟨hrc, hrs, hfr, hlo, hws, hcw⟩ := cw.back
  have hini := cw.init
  have hK : vx_Back l R p e below s args y 3 8 (PreOf R mc ms Pc) (PostOf Qc mc ms free) (vx_Post XC mc ms free) := vx_back (bytes := bytes) (maxL := maxL) (ret := ret) hM hp.1 hrc hrs hfr hlo hws hcw (fun a' U hW => word_at hW (Or.inl (by first | rfl | simp [Cond.onTables, Cond.keeps, Cond.steady])) hini)
  obtain ⟨hx, hb, hml, ho, -⟩ := S
  obtain ⟨-, ⟨cellB, hcB, hoB, hclB⟩, hPc⟩ := hp
  intro T hT X
  rcases vx_callVU X hx (C := C) (owner := owner) (bytes := bytes) (maxL := maxL) (ret := ret) ho cw.link cw.same cw.decl cw.notMH cw.sel cw.inst cw.code hK (by rw [hT]; exact hcB) hoB hclB hg (hsize.trans hml.symm) (argsL := As) (rest := rest) (fun sig h => hn.trans (cw.len sig h)) hstack hW (by rw [hb]; exact hdg)
    (fun vm₁ hW₁ => ⟨hf.1, hf.2, hPc (T.setVm vm₁) hT hW₁⟩) with ⟨v, vm₁, ⟨U', l2, c2, s2⟩, hW₁, X', ⟨g', mk, t, L, e1, e2, hq, h1, hL, h2, h3⟩, st⟩ | ⟨q, vm₁, ⟨U', l2, c2, s2⟩, hW₁, X', ⟨g', mk, t, L, E, ce, e1, e2, hq, hce, hcv, hcl, h1, hL, h2, h3⟩, st⟩
  · dsimp only [Pt.U, Pt.locs, Pt.cells, Pt.slots] at X' e1 e2 h1 h2 h3 st
    subst h1; subst h2; subst h3
    exact Or.inl ⟨v, (T.setVm vm₁).calling g' mk (Value.ref b :: As).toArray, t, U', L, hT, X', hL, e1, e2, hq, st⟩
  · dsimp only [Pt.U, Pt.locs, Pt.cells, Pt.slots] at X' e1 e2 h1 h2 h3 st hcl
    subst h1; subst h2; subst h3
    exact Or.inr ⟨q, (T.setVm vm₁).calling g' mk (Value.ref b :: As).toArray, t, U', L, E, ce, hT, X', hL, e1, e2, hq, hce, hcv, vx_cls hW₁ hcl, st⟩
end
/-! ===== END ===== -/
/-! ===== BEGIN super.m(..) that may throw (follows va_callSU, va_runSU) ===== -/
section
variable {p : Program} {l : Launch} {e : Env} {R : Room} {s : State} {m : MethodId} {args : Array Value} {below : List Frame} {meth : Method} {c : Code} {H : Heap} {locs : List Loc} {cells slots : Nat}
theorem vx_callSU {T : State} {locs : List Loc} {cells slots : Nat} (X : Stand p l e R s m args below meth c T locs cells slots) (hexec : p.tables.exec = Jvm.exec) {own : String} {index : Nat} {y : MethodName} {bytes : ByteArray} {maxL : Nat} {ret : Option FieldType}
    (hown : s.vm.findClass own = some m.cls) (hlink : (Cond.methodLink own index y).before args s = true) (hsame : (Cond.sameMethod y.cls y.cls y.name y.desc).before args s = true) (hsup : (Cond.superclass own y.cls).before args s = true)
    (hinst : (Cond.instanceMethod y).before args s = true) (hcode : (Cond.code y bytes maxL ret).before args s = true) (hno : y.name ≠ "<init>")
    {W : Nat} {Pre : Pt → Array Value → Prop} {Post : Pt → Array Value → Option Value → Pt → Prop} {PostX : Pt → Array Value → Addr → Pt → Prop} (hK : vx_Back l R p e below s args y 3 W Pre Post PostX)
    {b : Addr} {cellB : Cell} {kB : Class} (hcell : T.heap[b]? = some cellB) (hobj : cellB.vm.isStatics = false) (hkB : s.vm.classes[cellB.cls]? = some kB)
    {g : JFrame} (hg : g.method = m) (hsize : g.locals.size = c.maxLocals) {argsL rest : List Value} (hlen : ∀ sig, parseMethodDescriptor y.desc = some sig → argsL.length = sig.parameters.length)
    (hstack : g.stack = argsL.reverse ++ .ref b :: rest) (hW : 2 * g.monitorRoom + (rest.map fun v => v.category).sum ≤ W) (hdg : decode c.code g.pc = .ok (.invokespecial index, 3))
    (hpre : ∀ vm₁, s.WarmedH vm₁ → Pre ⟨T.setVm vm₁, locs, cells, slots⟩ (Value.ref b :: argsL).toArray) :
    (∃ (v : Option Value) (vm₁ : Vm) (B : Pt), s.WarmedH vm₁ ∧ Stand p l e R s m args below meth c B.U B.locs B.cells B.slots ∧ Post ⟨T.setVm vm₁, locs, cells, slots⟩ (Value.ref b :: argsL).toArray v B ∧
      ∀ target, Steps p.tables e below (B.U.setTop { g with pc := g.pc + 3, stack := v.toList ++ rest }) target → Steps p.tables e below (T.setTop g) target) ∨
    (∃ (q : Addr) (vm₁ : Vm) (B : Pt), s.WarmedH vm₁ ∧ Stand p l e R s m args below meth c B.U B.locs B.cells B.slots ∧ PostX ⟨T.setVm vm₁, locs, cells, slots⟩ (Value.ref b :: argsL).toArray q B ∧
      Steps p.tables e below (T.setTop g) ((B.U.setTop { g with stack := rest }).pushFrame (.throwing q))) := by
  obtain ⟨mk, methM, hnamed, hmethM, hstM, habM⟩ := Cond.instanceMethod_spec hinst
  obtain ⟨methM', cM, hmethM', -, -, -, -, -, -, hsigM⟩ := Cond.code_spec hnamed hcode
  cases hmethM.symm.trans hmethM'
  obtain ⟨ps, dk, kp, hps, hdk, hkp, hsuper, -, -, hnid⟩ := Cond.superclass_spec hown hsup
  have hn : s.methodNamed? ⟨y.cls, y.name, y.desc⟩ = some mk := hnamed
  have hpm : ps = mk.cls := Option.some.inj (hps.symm.trans (findClass_of_methodNamed hnamed))
  have hsub : s.vm.isSubclass ps mk.cls = true := by rw [hpm]; simp [Vm.isSubclass, Vm.isSubclassAux]
  obtain ⟨vm₁, X₁, hstep₁⟩ := X.invokespecialUp hexec hown hlink hsame hn hmethM hstM habM hno hdk hnid hps hsuper hsub (a := b) (cell := cellB) hcell
    (fun z h => by rw [h] at hobj; cases hobj) hkB (g := g) hg (argsL := argsL) (rest := rest) (hlen _ hsigM) hstack hdg
  rcases hK m meth c ⟨T.setVm vm₁, locs, cells, slots⟩ { g with stack := rest } (.invokespecial index) mk (Value.ref b :: argsL).toArray X₁ hg hsize hdg hW (X₁.named hnamed) (hpre vm₁ X₁.warmed) with ⟨v, B, X', hpost, hsteps⟩ | ⟨q, B, X', hpost, hsteps⟩
  · exact Or.inl ⟨v, vm₁, B, X₁.warmed, X', hpost, fun target h => hstep₁ _ (by rw [doInvoke_state]; exact hsteps.trans h)⟩
  · exact Or.inr ⟨q, vm₁, B, X₁.warmed, X', hpost, hstep₁ _ (by rw [doInvoke_state]; exact hsteps)⟩
theorem vx_runSU {y : MethodName} {bytes cc : ByteArray} {maxL nL mc ms n index : Nat} {ret : Option FieldType} {ws : List Cond} {rm : Room} {Pc : Array Value → State → Prop} {Qc : Array Value → State → Outcome → State → Prop} {XC : String → State → State → Prop} {free : Addr → Prop} {Ts : List Cond} {own C : String} {cC : ClassId} {b : Addr} {As rest : List Value} {g : JFrame}
    (hat : ClassAt s C cC) (S : CallFix p m c cc nL s args Ts own) (hM : vx_Met l y ws rm Pc Qc XC mc ms free) (cw : va_CS R s args own index y bytes maxL ret ws rm mc ms n) (hp : PreV s H C b Pc As)
    (hg : g.method = m) (hn : As.length = n) (hsize : g.locals.size = nL) (hstack : g.stack = As.reverse ++ .ref b :: rest) (hW : 2 * g.monitorRoom + (rest.map fun v => v.category).sum ≤ 8) (hdg : decode cc g.pc = .ok (.invokespecial index, 3)) (hf : cells + mc ≤ R.cells ∧ slots + ms ≤ R.slots) :
    vx_Run p l e R s m args below meth c H locs cells slots mc ms g rest (Qc (Value.ref b :: As).toArray) XC free := by
  obtain ⟨⟨hrc, hrs, hfr, hlo, hws, hcw⟩, hl1, hl2, hl3, hl4, hini, hcode, hno, hlen⟩ := cw
  have hK : vx_Back l R p e below s args y 3 8 (PreOf R mc ms Pc) (PostOf Qc mc ms free) (vx_Post XC mc ms free) := vx_back (bytes := bytes) (maxL := maxL) (ret := ret) hM hp.1 hrc hrs hfr hlo hws hcw (fun a' U hW => word_at hW (Or.inl (by first | rfl | simp [Cond.onTables, Cond.keeps, Cond.steady])) hini)
  obtain ⟨hx, hb, hml, ho, -⟩ := S
  obtain ⟨-, ⟨cellB, hcB, hoB, hclB⟩, hPc⟩ := hp
  obtain ⟨hfc, kB, hkB, -⟩ := hat
  cases hfc.symm.trans hclB
  intro T hT X
  rcases vx_callSU X hx (bytes := bytes) (maxL := maxL) (ret := ret) ho hl1 hl2 hl3 hl4 hcode hno hK (by rw [hT]; exact hcB) hoB hkB hg (hsize.trans hml.symm) (argsL := As) (rest := rest) (fun sig h => hn.trans (hlen sig h)) hstack hW (by rw [hb]; exact hdg)
    (fun vm₁ hW₁ => ⟨hf.1, hf.2, hPc (T.setVm vm₁) hT hW₁⟩) with ⟨v, vm₁, ⟨U', l2, c2, s2⟩, hW₁, X', ⟨g', mk, t, L, e1, e2, hq, h1, hL, h2, h3⟩, st⟩ | ⟨q, vm₁, ⟨U', l2, c2, s2⟩, hW₁, X', ⟨g', mk, t, L, E, ce, e1, e2, hq, hce, hcv, hcl, h1, hL, h2, h3⟩, st⟩
  · dsimp only [Pt.U, Pt.locs, Pt.cells, Pt.slots] at X' e1 e2 h1 h2 h3 st
    subst h1; subst h2; subst h3
    exact Or.inl ⟨v, (T.setVm vm₁).calling g' mk (Value.ref b :: As).toArray, t, U', L, hT, X', hL, e1, e2, hq, st⟩
  · dsimp only [Pt.U, Pt.locs, Pt.cells, Pt.slots] at X' e1 e2 h1 h2 h3 st hcl
    subst h1; subst h2; subst h3
    exact Or.inr ⟨q, (T.setVm vm₁).calling g' mk (Value.ref b :: As).toArray, t, U', L, E, ce, hT, X', hL, e1, e2, hq, hce, hcv, vx_cls hW₁ hcl, st⟩
end
/-! ===== END ===== -/
/-! ===== BEGIN a private method of a nest mate that may throw (follows va_callVN, va_callSN, va_runVN, va_runSN) ===== -/
section
variable {p : Program} {l : Launch} {e : Env} {R : Room} {s : State} {m : MethodId} {args : Array Value} {below : List Frame} {meth : Method} {c : Code} {H : Heap} {locs : List Loc} {cells slots : Nat}
variable {T : State}
theorem vx_callVN (X : Stand p l e R s m args below meth c T locs cells slots) (hexec : p.tables.exec = Jvm.exec) {own C : String} {index : Nat} {host : String} {y : MethodName} {bytes : ByteArray} {maxL : Nat} {ret : Option FieldType}
    (hown : s.vm.findClass own = some m.cls) (hlink : (Cond.methodLinkNest own index y host).before args s = true) (hinst : (Cond.instanceMethod y).before args s = true) (hsel : (Cond.selects C y y).before args s = true)
    (hcode : (Cond.code y bytes maxL ret).before args s = true) (hy : y.cls ≠ "java/lang/invoke/MethodHandle" ∧ y.cls ≠ "java/lang/invoke/VarHandle")
    {W : Nat} {Pre : Pt → Array Value → Prop} {Post : Pt → Array Value → Option Value → Pt → Prop} {PostX : Pt → Array Value → Addr → Pt → Prop} (hK : vx_Back l R p e below s args y 3 W Pre Post PostX)
    {b : Addr} {cellB : Cell} (hcell : T.heap[b]? = some cellB) (hobj : cellB.vm.isStatics = false) (hcls : s.vm.findClass C = some cellB.cls)
    {g : JFrame} (hg : g.method = m) (hsize : g.locals.size = c.maxLocals) {argsL rest : List Value} (hlen : ∀ sig, parseMethodDescriptor y.desc = some sig → argsL.length = sig.parameters.length)
    (hstack : g.stack = argsL.reverse ++ .ref b :: rest) (hW : 2 * g.monitorRoom + (rest.map fun v => v.category).sum ≤ W) (hdg : decode c.code g.pc = .ok (.invokevirtual index, 3))
    (hpre : ∀ vm₁, s.WarmedH vm₁ → Pre ⟨T.setVm vm₁, locs, cells, slots⟩ (Value.ref b :: argsL).toArray) :
    (∃ (v : Option Value) (vm₁ : Vm) (B : Pt), s.WarmedH vm₁ ∧ Stand p l e R s m args below meth c B.U B.locs B.cells B.slots ∧ Post ⟨T.setVm vm₁, locs, cells, slots⟩ (Value.ref b :: argsL).toArray v B ∧
      ∀ target, Steps p.tables e below (B.U.setTop { g with pc := g.pc + 3, stack := v.toList ++ rest }) target → Steps p.tables e below (T.setTop g) target) ∨
    (∃ (q : Addr) (vm₁ : Vm) (B : Pt), s.WarmedH vm₁ ∧ Stand p l e R s m args below meth c B.U B.locs B.cells B.slots ∧ PostX ⟨T.setVm vm₁, locs, cells, slots⟩ (Value.ref b :: argsL).toArray q B ∧
      Steps p.tables e below (T.setTop g) ((B.U.setTop { g with stack := rest }).pushFrame (.throwing q))) := by
  obtain ⟨mk, methM, hnamed, hmethM, hstM, habM⟩ := Cond.instanceMethod_spec hinst
  obtain ⟨methM', cM, hmethM', -, -, -, -, -, -, hsigM⟩ := Cond.code_spec hnamed hcode
  cases hmethM.symm.trans hmethM'
  obtain ⟨c2, r2, m2, q1, q2, q3, q4, kP, hkP, hkPi⟩ := Cond.selects_spec hsel
  cases hcls.symm.trans q1
  cases (State.methodFound?_of_named hnamed hy).symm.trans q2
  cases hnamed.symm.trans q3
  have hselP : selectMethod e.platform s.vm cellB.cls mk = .method mk := by rw [Launch.admits_selectMethod X.admits]; exact q4
  obtain ⟨vm₁, X₁, hstep₁⟩ := X.invokevirtualNest hexec hown hlink hnamed hmethM hstM hkP hkPi hy (a := b) (cell := cellB) hcell
    (fun z h => by rw [h] at hobj; cases hobj) hselP hmethM habM hkP hkPi (g := g) hg (argsL := argsL) (rest := rest) (hlen _ hsigM) hstack hdg
  rcases hK m meth c ⟨T.setVm vm₁, locs, cells, slots⟩ { g with stack := rest } (.invokevirtual index) mk (Value.ref b :: argsL).toArray X₁ hg hsize hdg hW (X₁.named hnamed) (hpre vm₁ X₁.warmed) with ⟨v, B, X', hpost, hsteps⟩ | ⟨q, B, X', hpost, hsteps⟩
  · exact Or.inl ⟨v, vm₁, B, X₁.warmed, X', hpost, fun target h => hstep₁ _ fun acts => by rw [doInvoke_state]; exact hsteps.trans h⟩
  · exact Or.inr ⟨q, vm₁, B, X₁.warmed, X', hpost, hstep₁ _ fun acts => by rw [doInvoke_state]; exact hsteps⟩
theorem vx_callSN (X : Stand p l e R s m args below meth c T locs cells slots) (hexec : p.tables.exec = Jvm.exec) {own : String} {index : Nat} {host : String} {y : MethodName} {bytes : ByteArray} {maxL : Nat} {ret : Option FieldType}
    (hown : s.vm.findClass own = some m.cls) (hlink : (Cond.methodLinkNest own index y host).before args s = true) (hstat : (Cond.static y).before args s = true) (hinit : (Cond.initialized y.cls).before args s = true)
    (hcode : (Cond.code y bytes maxL ret).before args s = true) (hy : y.cls ≠ "java/lang/invoke/MethodHandle" ∧ y.cls ≠ "java/lang/invoke/VarHandle")
    {W : Nat} {Pre : Pt → Array Value → Prop} {Post : Pt → Array Value → Option Value → Pt → Prop} {PostX : Pt → Array Value → Addr → Pt → Prop} (hK : vx_Back l R p e below s args y 3 W Pre Post PostX)
    {g : JFrame} (hg : g.method = m) (hsize : g.locals.size = c.maxLocals) {argsL rest : List Value} (hlen : ∀ sig, parseMethodDescriptor y.desc = some sig → argsL.length = sig.parameters.length)
    (hstack : g.stack = argsL.reverse ++ rest) (hW : 2 * g.monitorRoom + (rest.map fun v => v.category).sum ≤ W) (hdg : decode c.code g.pc = .ok (.invokestatic index, 3))
    (hpre : ∀ vm₁, s.WarmedH vm₁ → Pre ⟨T.setVm vm₁, locs, cells, slots⟩ argsL.toArray) :
    (∃ (v : Option Value) (vm₁ : Vm) (B : Pt), s.WarmedH vm₁ ∧ Stand p l e R s m args below meth c B.U B.locs B.cells B.slots ∧ Post ⟨T.setVm vm₁, locs, cells, slots⟩ argsL.toArray v B ∧
      ∀ target, Steps p.tables e below (B.U.setTop { g with pc := g.pc + 3, stack := v.toList ++ rest }) target → Steps p.tables e below (T.setTop g) target) ∨
    (∃ (q : Addr) (vm₁ : Vm) (B : Pt), s.WarmedH vm₁ ∧ Stand p l e R s m args below meth c B.U B.locs B.cells B.slots ∧ PostX ⟨T.setVm vm₁, locs, cells, slots⟩ argsL.toArray q B ∧
      Steps p.tables e below (T.setTop g) ((B.U.setTop { g with stack := rest }).pushFrame (.throwing q))) := by
  obtain ⟨mk, hnamed⟩ := Cond.code_named hcode
  obtain ⟨methM, cM, hmethM, -, -, -, -, -, -, hsigM⟩ := Cond.code_spec hnamed hcode
  have hstatic : methM.isStatic = true := Cond.static_spec hnamed hmethM hstat
  obtain ⟨kP, hkP, -⟩ := className_of_methodNamed hnamed
  have hinitP : kP.init = .initialized := Cond.initialized_spec (findClass_of_methodNamed hnamed) hkP hinit
  obtain ⟨vm₁, X₁, hstep₁⟩ := X.invokestaticNest hexec hown hlink hnamed hmethM hstatic hkP hinitP hy (g := g) hg (argsL := argsL) (rest := rest) (hlen _ hsigM) hstack hdg
  rcases hK m meth c ⟨T.setVm vm₁, locs, cells, slots⟩ { g with stack := rest } (.invokestatic index) mk argsL.toArray X₁ hg hsize hdg hW (X₁.named hnamed) (hpre vm₁ X₁.warmed) with ⟨v, B, X', hpost, hsteps⟩ | ⟨q, B, X', hpost, hsteps⟩
  · exact Or.inl ⟨v, vm₁, B, X₁.warmed, X', hpost, fun target h => hstep₁ _ fun acts => by rw [doInvoke_state]; exact hsteps.trans h⟩
  · exact Or.inr ⟨q, vm₁, B, X₁.warmed, X', hpost, hstep₁ _ fun acts => by rw [doInvoke_state]; exact hsteps⟩
theorem vx_runVN {y : MethodName} {bytes cc : ByteArray} {maxL nL mc ms n index : Nat} {ret : Option FieldType} {ws : List Cond} {rm : Room} {Pc : Array Value → State → Prop} {Qc : Array Value → State → Outcome → State → Prop} {XC : String → State → State → Prop} {free : Addr → Prop} {Ts : List Cond} {own C host : String} {b : Addr} {As rest : List Value} {g : JFrame}
    (S : CallFix p m c cc nL s args Ts own) (hM : vx_Met l y ws rm Pc Qc XC mc ms free) (cw : va_CN R s args own index y host bytes maxL ret ws rm mc ms n ∧ (Cond.instanceMethod y).before args s = true ∧ (Cond.selects C y y).before args s = true) (hp : PreV s H C b Pc As)
    (hg : g.method = m) (hn : As.length = n) (hsize : g.locals.size = nL) (hstack : g.stack = As.reverse ++ .ref b :: rest) (hW : 2 * g.monitorRoom + (rest.map fun v => v.category).sum ≤ 8) (hdg : decode cc g.pc = .ok (.invokevirtual index, 3)) (hf : cells + mc ≤ R.cells ∧ slots + ms ≤ R.slots) :
    vx_Run p l e R s m args below meth c H locs cells slots mc ms g rest (Qc (Value.ref b :: As).toArray) XC free := by
  obtain ⟨⟨⟨hrc, hrs, hfr, hlo, hws, hcw⟩, hcode, hini, hy, hlen, hl⟩, hx1, hx2⟩ := cw
  have hK : vx_Back l R p e below s args y 3 8 (PreOf R mc ms Pc) (PostOf Qc mc ms free) (vx_Post XC mc ms free) := vx_back (bytes := bytes) (maxL := maxL) (ret := ret) hM hp.1 hrc hrs hfr hlo hws hcw (fun a' U hW => word_at hW (Or.inl (by first | rfl | simp [Cond.onTables, Cond.keeps, Cond.steady])) hini)
  obtain ⟨hx, hb, hml, ho, -⟩ := S
  obtain ⟨-, ⟨cellB, hcB, hoB, hclB⟩, hPc⟩ := hp
  intro T hT X
  rcases vx_callVN X hx (C := C) (bytes := bytes) (maxL := maxL) (ret := ret) ho hl hx1 hx2 hcode hy hK (by rw [hT]; exact hcB) hoB hclB hg (hsize.trans hml.symm) (argsL := As) (rest := rest) (fun sig h => hn.trans (hlen sig h)) hstack hW (by rw [hb]; exact hdg)
    (fun vm₁ hW₁ => ⟨hf.1, hf.2, hPc (T.setVm vm₁) hT hW₁⟩) with ⟨v, vm₁, ⟨U', l2, c2, s2⟩, hW₁, X', ⟨g', mk, t, L, e1, e2, hq, h1, hL, h2, h3⟩, st⟩ | ⟨q, vm₁, ⟨U', l2, c2, s2⟩, hW₁, X', ⟨g', mk, t, L, E, ce, e1, e2, hq, hce, hcv, hcl, h1, hL, h2, h3⟩, st⟩
  · dsimp only [Pt.U, Pt.locs, Pt.cells, Pt.slots] at X' e1 e2 h1 h2 h3 st
    subst h1; subst h2; subst h3
    exact Or.inl ⟨v, (T.setVm vm₁).calling g' mk (Value.ref b :: As).toArray, t, U', L, hT, X', hL, e1, e2, hq, st⟩
  · dsimp only [Pt.U, Pt.locs, Pt.cells, Pt.slots] at X' e1 e2 h1 h2 h3 st hcl
    subst h1; subst h2; subst h3
    exact Or.inr ⟨q, (T.setVm vm₁).calling g' mk (Value.ref b :: As).toArray, t, U', L, E, ce, hT, X', hL, e1, e2, hq, hce, hcv, vx_cls hW₁ hcl, st⟩
theorem vx_runSN {y : MethodName} {bytes cc : ByteArray} {maxL nL mc ms n index : Nat} {ret : Option FieldType} {ws : List Cond} {rm : Room} {Pc : Array Value → State → Prop} {Qc : Array Value → State → Outcome → State → Prop} {XC : String → State → State → Prop} {free : Addr → Prop} {Ts : List Cond} {own host : String} {As rest : List Value} {g : JFrame}
    (S : CallFix p m c cc nL s args Ts own) (hM : vx_Met l y ws rm Pc Qc XC mc ms free) (cw : va_CN R s args own index y host bytes maxL ret ws rm mc ms n ∧ (Cond.static y).before args s = true ∧ True) (hp : PreS s H Pc As)
    (hg : g.method = m) (hn : As.length = n) (hsize : g.locals.size = nL) (hstack : g.stack = As.reverse ++ rest) (hW : 2 * g.monitorRoom + (rest.map fun v => v.category).sum ≤ 8) (hdg : decode cc g.pc = .ok (.invokestatic index, 3)) (hf : cells + mc ≤ R.cells ∧ slots + ms ≤ R.slots) :
    vx_Run p l e R s m args below meth c H locs cells slots mc ms g rest (Qc As.toArray) XC free := by
  obtain ⟨⟨⟨hrc, hrs, hfr, hlo, hws, hcw⟩, hcode, hini, hy, hlen, hl⟩, hx1, hx2⟩ := cw
  have hK : vx_Back l R p e below s args y 3 8 (PreOf R mc ms Pc) (PostOf Qc mc ms free) (vx_Post XC mc ms free) := vx_back (bytes := bytes) (maxL := maxL) (ret := ret) hM hp.1 hrc hrs hfr hlo hws hcw (fun a' U hW => word_at hW (Or.inl (by first | rfl | simp [Cond.onTables, Cond.keeps, Cond.steady])) hini)
  obtain ⟨hx, hb, hml, ho, -⟩ := S
  have hPc := hp.2
  intro T hT X
  rcases vx_callSN X hx (bytes := bytes) (maxL := maxL) (ret := ret) ho hl hx1 hini hcode hy hK hg (hsize.trans hml.symm) (argsL := As) (rest := rest) (fun sig h => hn.trans (hlen sig h)) hstack hW (by rw [hb]; exact hdg)
    (fun vm₁ hW₁ => ⟨hf.1, hf.2, hPc (T.setVm vm₁) hT hW₁⟩) with ⟨v, vm₁, ⟨U', l2, c2, s2⟩, hW₁, X', ⟨g', mk, t, L, e1, e2, hq, h1, hL, h2, h3⟩, st⟩ | ⟨q, vm₁, ⟨U', l2, c2, s2⟩, hW₁, X', ⟨g', mk, t, L, E, ce, e1, e2, hq, hce, hcv, hcl, h1, hL, h2, h3⟩, st⟩
  · dsimp only [Pt.U, Pt.locs, Pt.cells, Pt.slots] at X' e1 e2 h1 h2 h3 st
    subst h1; subst h2; subst h3
    exact Or.inl ⟨v, (T.setVm vm₁).calling g' mk As.toArray, t, U', L, hT, X', hL, e1, e2, hq, st⟩
  · dsimp only [Pt.U, Pt.locs, Pt.cells, Pt.slots] at X' e1 e2 h1 h2 h3 st hcl
    subst h1; subst h2; subst h3
    exact Or.inr ⟨q, (T.setVm vm₁).calling g' mk As.toArray, t, U', L, E, ce, hT, X', hL, e1, e2, hq, hce, hcv, vx_cls hW₁ hcl, st⟩
end
/-! ===== END ===== -/
def RX0 : String := "FilterWaterworks$Connections"
def TX0 : u_T := fun k => match k with
  | 0 => ("FilterWaterworks$Connections", "state", "LFilterWaterworks$State;", true)
  | 1 => ("FilterWaterworks$Connections", "leader", "[I", true)
  | 2 => ("FilterWaterworks$Connections", "number", "[I", true)
  | 3 => ("FilterWaterworks$Connections", "lowest", "[I", true)
  | 4 => ("FilterWaterworks$Connections", "widest", "[I", true)
  | 5 => ("FilterWaterworks$Connections", "leftBySearch", "[I", true)
  | 6 => ("FilterWaterworks$Connections", "leftByPasses", "[I", true)
  | 7 => ("FilterWaterworks$Connections", "tanksWithSet", "[I", true)
  | 8 => ("FilterWaterworks$Connections", "queue", "[I", true)
  | 9 => ("FilterWaterworks$Connections", "queued", "I", false)
  | 10 => ("FilterWaterworks$Connections", "numbered", "I", false)
  | _ => ("FilterWaterworks$Connections", "bridges", "I", false)
def tyX0 : Nat → FieldType := fun k => match k with
  | 0 => .object "FilterWaterworks$State"
  | 1 => .array .int
  | 2 => .array .int
  | 3 => .array .int
  | 4 => .array .int
  | 5 => .array .int
  | 6 => .array .int
  | 7 => .array .int
  | 8 => .array .int
  | 9 => .int
  | 10 => .int
  | _ => .int
abbrev wsX00 : List Cond := u_ws RX0 TX0 12
theorem nmX0 : ∀ a, a < 12 → ∀ b, b < 12 → a ≠ b → (TX0 a).2.1 ≠ (TX0 b).2.1 := by decide +kernel
theorem tyX0_ok : ∀ k, k < 12 → parseFieldDescriptor (TX0 k).2.2.1 = some (tyX0 k) := by decide +kernel
abbrev cX0_init : ByteArray := prog_2_method_1_code
def yX0_init : MethodName := ⟨RX0, "<init>", "(LFilterWaterworks$State;)V"⟩
abbrev cX0_other : ByteArray := prog_2_method_2_code
def yX0_other : MethodName := ⟨RX0, "other", "(LFilterWaterworks$State;II)I"⟩
abbrev cX0_reachedFrom : ByteArray := prog_2_method_3_code
def yX0_reachedFrom : MethodName := ⟨RX0, "reachedFrom", "(III)I"⟩
abbrev cX0_neighbours : ByteArray := prog_2_method_4_code
def yX0_neighbours : MethodName := ⟨RX0, "neighbours", "(III)I"⟩
abbrev cX0_connect : ByteArray := prog_2_method_5_code
def yX0_connect : MethodName := ⟨RX0, "connect", "(II)Z"⟩
abbrev cX0_groupsByWalking : ByteArray := prog_2_method_6_code
def yX0_groupsByWalking : MethodName := ⟨RX0, "groupsByWalking", "()I"⟩
abbrev cX0_dependOn : ByteArray := prog_2_method_9_code
def yX0_dependOn : MethodName := ⟨RX0, "dependOn", "(I)Z"⟩
abbrev cX0_bridgesByNumbering : ByteArray := prog_2_method_11_code
def yX0_bridgesByNumbering : MethodName := ⟨RX0, "bridgesByNumbering", "()I"⟩
abbrev cX0_walk : ByteArray := prog_2_method_12_code
def yX0_walk : MethodName := ⟨RX0, "walk", "(LFilterWaterworks$Connections;III)V"⟩
abbrev cX0_widthByGoingOn : ByteArray := prog_2_method_13_code
def yX0_widthByGoingOn : MethodName := ⟨RX0, "widthByGoingOn", "(II)I"⟩
abbrev cX0_mostWidelyReached : ByteArray := prog_2_method_14_code
def yX0_mostWidelyReached : MethodName := ⟨RX0, "mostWidelyReached", "(I)I"⟩
abbrev cX0_widenFrom : ByteArray := prog_2_method_15_code
def yX0_widenFrom : MethodName := ⟨RX0, "widenFrom", "(I)V"⟩
abbrev cX0_widthByTrying : ByteArray := prog_2_method_16_code
def yX0_widthByTrying : MethodName := ⟨RX0, "widthByTrying", "(II)I"⟩
abbrev cX0_search : ByteArray := prog_2_method_17_code
def yX0_search : MethodName := ⟨RX0, "search", "(I)V"⟩
abbrev cX0_arrive : ByteArray := prog_2_method_18_code
def yX0_arrive : MethodName := ⟨RX0, "arrive", "(II)V"⟩
abbrev cX0_passUntilNothingIsNew : ByteArray := prog_2_method_19_code
def yX0_passUntilNothingIsNew : MethodName := ⟨RX0, "passUntilNothingIsNew", "(I)V"⟩
abbrev cX0_passReachesNew : ByteArray := prog_2_method_20_code
def yX0_passReachesNew : MethodName := ⟨RX0, "passReachesNew", "()Z"⟩
abbrev cX0_carriesNew : ByteArray := prog_2_method_21_code
def yX0_carriesNew : MethodName := ⟨RX0, "carriesNew", "(IIII)Z"⟩
abbrev cX0_fewestLeftIn : ByteArray := prog_2_method_22_code
def yX0_fewestLeftIn : MethodName := ⟨RX0, "fewestLeftIn", "(I)I"⟩
def RX1 : String := "FilterWaterworks$History"
def TX1 : u_T := fun k => match k with
  | 0 => ("FilterWaterworks$History", "rows", "[LFilterWaterworks$State;", true)
  | 1 => ("FilterWaterworks$History", "next", "I", false)
  | _ => ("FilterWaterworks$History", "kept", "I", false)
def tyX1 : Nat → FieldType := fun k => match k with
  | 0 => .array (.object "FilterWaterworks$State")
  | 1 => .int
  | _ => .int
abbrev wsX10 : List Cond := u_ws RX1 TX1 3
theorem nmX1 : ∀ a, a < 3 → ∀ b, b < 3 → a ≠ b → (TX1 a).2.1 ≠ (TX1 b).2.1 := by decide +kernel
theorem tyX1_ok : ∀ k, k < 3 → parseFieldDescriptor (TX1 k).2.2.1 = some (tyX1 k) := by decide +kernel
abbrev cX1_init : ByteArray := prog_3_method_1_code
def yX1_init : MethodName := ⟨RX1, "<init>", "()V"⟩
abbrev cX1_keep : ByteArray := prog_3_method_2_code
def yX1_keep : MethodName := ⟨RX1, "keep", "(LFilterWaterworks$State;)V"⟩
abbrev cX1_takeBack : ByteArray := prog_3_method_3_code
def yX1_takeBack : MethodName := ⟨RX1, "takeBack", "(LFilterWaterworks$State;)V"⟩
def RX2 : String := "FilterWaterworks$Script"
def TX2 : u_T := fun k => match k with
  | 0 => ("FilterWaterworks$Script", "text", "[C", true)
  | 1 => ("FilterWaterworks$Script", "kinds", "[I", true)
  | 2 => ("FilterWaterworks$Script", "arguments", "[I", true)
  | 3 => ("FilterWaterworks$Script", "length", "I", false)
  | 4 => ("FilterWaterworks$Script", "commands", "I", false)
  | _ => ("FilterWaterworks$Script", "position", "I", false)
def tyX2 : Nat → FieldType := fun k => match k with
  | 0 => .array .char
  | 1 => .array .int
  | 2 => .array .int
  | 3 => .int
  | 4 => .int
  | _ => .int
abbrev wsX20 : List Cond := u_ws RX2 TX2 6
theorem nmX2 : ∀ a, a < 6 → ∀ b, b < 6 → a ≠ b → (TX2 a).2.1 ≠ (TX2 b).2.1 := by decide +kernel
theorem tyX2_ok : ∀ k, k < 6 → parseFieldDescriptor (TX2 k).2.2.1 = some (tyX2 k) := by decide +kernel
abbrev cX2_init : ByteArray := prog_4_method_1_code
def yX2_init : MethodName := ⟨RX2, "<init>", "()V"⟩
abbrev cX2_isFull : ByteArray := prog_4_method_2_code
def yX2_isFull : MethodName := ⟨RX2, "isFull", "()Z"⟩
abbrev cX2_append : ByteArray := prog_4_method_3_code
def yX2_append : MethodName := ⟨RX2, "append", "(C)I"⟩
abbrev cX2_empty : ByteArray := prog_4_method_4_code
def yX2_empty : MethodName := ⟨RX2, "empty", "()V"⟩
abbrev cX2_argument : ByteArray := prog_4_method_5_code
def yX2_argument : MethodName := ⟨RX2, "argument", "(II)I"⟩
abbrev cX2_wordOf : ByteArray := prog_4_method_6_code
def yX2_wordOf : MethodName := ⟨RX2, "wordOf", "(I)Ljava/lang/String;"⟩
abbrev cX2_formOf : ByteArray := prog_4_method_7_code
def yX2_formOf : MethodName := ⟨RX2, "formOf", "(I)Ljava/lang/String;"⟩
abbrev cX2_read : ByteArray := prog_4_method_8_code
def yX2_read : MethodName := ⟨RX2, "read", "()Z"⟩
abbrev cX2_isNext : ByteArray := prog_4_method_9_code
def yX2_isNext : MethodName := ⟨RX2, "isNext", "(CC)Z"⟩
abbrev cX2_skip : ByteArray := prog_4_method_10_code
def yX2_skip : MethodName := ⟨RX2, "skip", "(C)Z"⟩
abbrev cX2_readCommand : ByteArray := prog_4_method_11_code
def yX2_readCommand : MethodName := ⟨RX2, "readCommand", "()Z"⟩
abbrev cX2_readWord : ByteArray := prog_4_method_12_code
def yX2_readWord : MethodName := ⟨RX2, "readWord", "()I"⟩
abbrev cX2_lengthInCommon : ByteArray := prog_4_method_13_code
def yX2_lengthInCommon : MethodName := ⟨RX2, "lengthInCommon", "(Ljava/lang/String;)I"⟩
abbrev cX2_readPart : ByteArray := prog_4_method_14_code
def yX2_readPart : MethodName := ⟨RX2, "readPart", "(C)I"⟩
abbrev cX2_readNumber : ByteArray := prog_4_method_15_code
def yX2_readNumber : MethodName := ⟨RX2, "readNumber", "(I)I"⟩
abbrev cX2_readSet : ByteArray := prog_4_method_16_code
def yX2_readSet : MethodName := ⟨RX2, "readSet", "()I"⟩
def RX3 : String := "FilterWaterworks$State"
def TX3 : u_T := fun k => match k with
  | 0 => ("FilterWaterworks$State", "capacity", "[I", true)
  | 1 => ("FilterWaterworks$State", "content", "[I", true)
  | 2 => ("FilterWaterworks$State", "impurities", "[I", true)
  | 3 => ("FilterWaterworks$State", "first", "[I", true)
  | 4 => ("FilterWaterworks$State", "second", "[I", true)
  | 5 => ("FilterWaterworks$State", "mesh", "[I", true)
  | 6 => ("FilterWaterworks$State", "setting", "[I", true)
  | 7 => ("FilterWaterworks$State", "rate", "[I", true)
  | 8 => ("FilterWaterworks$State", "dirt", "[I", true)
  | 9 => ("FilterWaterworks$State", "through", "[I", true)
  | 10 => ("FilterWaterworks$State", "tanks", "I", false)
  | 11 => ("FilterWaterworks$State", "pipes", "I", false)
  | 12 => ("FilterWaterworks$State", "time", "I", false)
  | 13 => ("FilterWaterworks$State", "poured", "I", false)
  | 14 => ("FilterWaterworks$State", "drawn", "I", false)
  | _ => ("FilterWaterworks$State", "spilled", "I", false)
def tyX3 : Nat → FieldType := fun k => match k with
  | 0 => .array .int
  | 1 => .array .int
  | 2 => .array .int
  | 3 => .array .int
  | 4 => .array .int
  | 5 => .array .int
  | 6 => .array .int
  | 7 => .array .int
  | 8 => .array .int
  | 9 => .array .int
  | 10 => .int
  | 11 => .int
  | 12 => .int
  | 13 => .int
  | 14 => .int
  | _ => .int
abbrev wsX30 : List Cond := u_ws RX3 TX3 16
theorem nmX3 : ∀ a, a < 16 → ∀ b, b < 16 → a ≠ b → (TX3 a).2.1 ≠ (TX3 b).2.1 := by decide +kernel
theorem tyX3_ok : ∀ k, k < 16 → parseFieldDescriptor (TX3 k).2.2.1 = some (tyX3 k) := by decide +kernel
abbrev cX3_init : ByteArray := prog_5_method_1_code
def yX3_init : MethodName := ⟨RX3, "<init>", "()V"⟩
abbrev cX3_copyFrom : ByteArray := prog_5_method_2_code
def yX3_copyFrom : MethodName := ⟨RX3, "copyFrom", "(LFilterWaterworks$State;)V"⟩
abbrev cX3_hasTank : ByteArray := prog_5_method_3_code
def yX3_hasTank : MethodName := ⟨RX3, "hasTank", "(I)Z"⟩
abbrev cX3_hasPipe : ByteArray := prog_5_method_4_code
def yX3_hasPipe : MethodName := ⟨RX3, "hasPipe", "(I)Z"⟩
abbrev cX3_refusalOf : ByteArray := prog_5_method_5_code
def yX3_refusalOf : MethodName := ⟨RX3, "refusalOf", "(IIII)I"⟩
abbrev cX3_isWithin : ByteArray := prog_5_method_6_code
def yX3_isWithin : MethodName := ⟨RX3, "isWithin", "(III)Z"⟩
abbrev cX3_refusalOfTank : ByteArray := prog_5_method_7_code
def yX3_refusalOfTank : MethodName := ⟨RX3, "refusalOfTank", "(I)I"⟩
abbrev cX3_refusalOfPipe : ByteArray := prog_5_method_8_code
def yX3_refusalOfPipe : MethodName := ⟨RX3, "refusalOfPipe", "(III)I"⟩
abbrev cX3_refusalOfPouring : ByteArray := prog_5_method_9_code
def yX3_refusalOfPouring : MethodName := ⟨RX3, "refusalOfPouring", "(III)I"⟩
abbrev cX3_refusalOfDrawing : ByteArray := prog_5_method_10_code
def yX3_refusalOfDrawing : MethodName := ⟨RX3, "refusalOfDrawing", "(II)I"⟩
abbrev cX3_refusalForPipe : ByteArray := prog_5_method_11_code
def yX3_refusalForPipe : MethodName := ⟨RX3, "refusalForPipe", "(IZ)I"⟩
abbrev cX3_perform : ByteArray := prog_5_method_12_code
def yX3_perform : MethodName := ⟨RX3, "perform", "(IIII)I"⟩
abbrev cX3_newTank : ByteArray := prog_5_method_13_code
def yX3_newTank : MethodName := ⟨RX3, "newTank", "(I)I"⟩
abbrev cX3_newPipe : ByteArray := prog_5_method_14_code
def yX3_newPipe : MethodName := ⟨RX3, "newPipe", "(III)I"⟩
abbrev cX3_pourInto : ByteArray := prog_5_method_15_code
def yX3_pourInto : MethodName := ⟨RX3, "pourInto", "(III)I"⟩
abbrev cX3_drawFrom : ByteArray := prog_5_method_16_code
def yX3_drawFrom : MethodName := ⟨RX3, "drawFrom", "(II)I"⟩
abbrev cX3_put : ByteArray := prog_5_method_17_code
def yX3_put : MethodName := ⟨RX3, "put", "([III)I"⟩
abbrev cX3_passMinutes : ByteArray := prog_5_method_18_code
def yX3_passMinutes : MethodName := ⟨RX3, "passMinutes", "(I)I"⟩
abbrev cX3_passMinute : ByteArray := prog_5_method_19_code
def yX3_passMinute : MethodName := ⟨RX3, "passMinute", "()V"⟩
abbrev cX3_let : ByteArray := prog_5_method_20_code
def yX3_let : MethodName := ⟨RX3, "let", "(IIII)V"⟩
abbrev cX3_letsThrough : ByteArray := prog_5_method_21_code
def yX3_letsThrough : MethodName := ⟨RX3, "letsThrough", "(I)Z"⟩
abbrev cX3_litresToFlow : ByteArray := prog_5_method_22_code
def yX3_litresToFlow : MethodName := ⟨RX3, "litresToFlow", "(I)I"⟩
abbrev cX3_isTankBefore : ByteArray := prog_5_method_24_code
def yX3_isTankBefore : MethodName := ⟨RX3, "isTankBefore", "(II)Z"⟩
abbrev cX3_isPipeBefore : ByteArray := prog_5_method_25_code
def yX3_isPipeBefore : MethodName := ⟨RX3, "isPipeBefore", "(II)Z"⟩
abbrev cX3_contentOfAll : ByteArray := prog_5_method_26_code
def yX3_contentOfAll : MethodName := ⟨RX3, "contentOfAll", "()I"⟩
abbrev cX3_tankNumber : ByteArray := prog_5_method_28_code
def yX3_tankNumber : MethodName := ⟨RX3, "tankNumber", "(I)J"⟩
abbrev cX3_pipeNumber : ByteArray := prog_5_method_29_code
def yX3_pipeNumber : MethodName := ⟨RX3, "pipeNumber", "(I)J"⟩
def RX4 : String := "FilterWaterworks"
def TX4 : u_T := fun k => match k with
  | 0 => ("FilterWaterworks", "state", "LFilterWaterworks$State;", true)
  | 1 => ("FilterWaterworks", "saved", "LFilterWaterworks$State;", true)
  | 2 => ("FilterWaterworks", "beforeScript", "LFilterWaterworks$State;", true)
  | 3 => ("FilterWaterworks", "prediction", "LFilterWaterworks$State;", true)
  | 4 => ("FilterWaterworks", "history", "LFilterWaterworks$History;", true)
  | 5 => ("FilterWaterworks", "connections", "LFilterWaterworks$Connections;", true)
  | 6 => ("FilterWaterworks", "script", "LFilterWaterworks$Script;", true)
  | 7 => ("FilterWaterworks", "output", "Ljava/lang/StringBuilder;", true)
  | 8 => ("FilterWaterworks", "isSaved", "Z", false)
  | 9 => ("FilterWaterworks", "lastErrorPosition", "I", false)
  | _ => ("FilterWaterworks", "lastFailedCommand", "I", false)
def tyX4 : Nat → FieldType := fun k => match k with
  | 0 => .object "FilterWaterworks$State"
  | 1 => .object "FilterWaterworks$State"
  | 2 => .object "FilterWaterworks$State"
  | 3 => .object "FilterWaterworks$State"
  | 4 => .object "FilterWaterworks$History"
  | 5 => .object "FilterWaterworks$Connections"
  | 6 => .object "FilterWaterworks$Script"
  | 7 => .object "java/lang/StringBuilder"
  | 8 => .boolean
  | 9 => .int
  | _ => .int
abbrev wsX40 : List Cond := u_ws RX4 TX4 11
theorem nmX4 : ∀ a, a < 11 → ∀ b, b < 11 → a ≠ b → (TX4 a).2.1 ≠ (TX4 b).2.1 := by decide +kernel
theorem tyX4_ok : ∀ k, k < 11 → parseFieldDescriptor (TX4 k).2.2.1 = some (tyX4 k) := by decide +kernel
abbrev cX4_init : ByteArray := prog_1_method_1_code
def yX4_init : MethodName := ⟨RX4, "<init>", "()V"⟩
abbrev cX4_addTank : ByteArray := prog_1_method_2_code
def yX4_addTank : MethodName := ⟨RX4, "addTank", "(I)I"⟩
abbrev cX4_addPipe : ByteArray := prog_1_method_3_code
def yX4_addPipe : MethodName := ⟨RX4, "addPipe", "(III)I"⟩
abbrev cX4_pour : ByteArray := prog_1_method_4_code
def yX4_pour : MethodName := ⟨RX4, "pour", "(III)I"⟩
abbrev cX4_draw : ByteArray := prog_1_method_5_code
def yX4_draw : MethodName := ⟨RX4, "draw", "(II)I"⟩
abbrev cX4_setValve : ByteArray := prog_1_method_6_code
def yX4_setValve : MethodName := ⟨RX4, "setValve", "(II)I"⟩
abbrev cX4_setLeak : ByteArray := prog_1_method_7_code
def yX4_setLeak : MethodName := ⟨RX4, "setLeak", "(II)I"⟩
abbrev cX4_cleanFilter : ByteArray := prog_1_method_8_code
def yX4_cleanFilter : MethodName := ⟨RX4, "cleanFilter", "(I)I"⟩
abbrev cX4_advance : ByteArray := prog_1_method_9_code
def yX4_advance : MethodName := ⟨RX4, "advance", "(I)I"⟩
abbrev cX4_change : ByteArray := prog_1_method_10_code
def yX4_change : MethodName := ⟨RX4, "change", "(IIII)I"⟩
abbrev cX4_throwFor : ByteArray := prog_1_method_11_code
def yX4_throwFor : MethodName := ⟨RX4, "throwFor", "(I)V"⟩
abbrev cX4_needTank : ByteArray := prog_1_method_12_code
def yX4_needTank : MethodName := ⟨RX4, "needTank", "(I)V"⟩
abbrev cX4_needPipe : ByteArray := prog_1_method_13_code
def yX4_needPipe : MethodName := ⟨RX4, "needPipe", "(I)V"⟩
abbrev cX4_tankCount : ByteArray := prog_1_method_14_code
def yX4_tankCount : MethodName := ⟨RX4, "tankCount", "()I"⟩
abbrev cX4_capacity : ByteArray := prog_1_method_15_code
def yX4_capacity : MethodName := ⟨RX4, "capacity", "(I)I"⟩
abbrev cX4_content : ByteArray := prog_1_method_16_code
def yX4_content : MethodName := ⟨RX4, "content", "(I)I"⟩
abbrev cX4_impurities : ByteArray := prog_1_method_17_code
def yX4_impurities : MethodName := ⟨RX4, "impurities", "(I)I"⟩
abbrev cX4_hasImpurity : ByteArray := prog_1_method_18_code
def yX4_hasImpurity : MethodName := ⟨RX4, "hasImpurity", "(IC)Z"⟩
abbrev cX4_tankByContent : ByteArray := prog_1_method_19_code
def yX4_tankByContent : MethodName := ⟨RX4, "tankByContent", "(I)I"⟩
abbrev cX4_tanksBefore : ByteArray := prog_1_method_20_code
def yX4_tanksBefore : MethodName := ⟨RX4, "tanksBefore", "(I)I"⟩
abbrev cX4_fillShare : ByteArray := prog_1_method_21_code
def yX4_fillShare : MethodName := ⟨RX4, "fillShare", "(I)F"⟩
abbrev cX4_fillShareBits : ByteArray := prog_1_method_22_code
def yX4_fillShareBits : MethodName := ⟨RX4, "fillShareBits", "(I)I"⟩
abbrev cX4_pipeCount : ByteArray := prog_1_method_23_code
def yX4_pipeCount : MethodName := ⟨RX4, "pipeCount", "()I"⟩
abbrev cX4_firstOf : ByteArray := prog_1_method_24_code
def yX4_firstOf : MethodName := ⟨RX4, "firstOf", "(I)I"⟩
abbrev cX4_secondOf : ByteArray := prog_1_method_25_code
def yX4_secondOf : MethodName := ⟨RX4, "secondOf", "(I)I"⟩
abbrev cX4_valve : ByteArray := prog_1_method_26_code
def yX4_valve : MethodName := ⟨RX4, "valve", "(I)I"⟩
abbrev cX4_leak : ByteArray := prog_1_method_27_code
def yX4_leak : MethodName := ⟨RX4, "leak", "(I)I"⟩
abbrev cX4_mesh : ByteArray := prog_1_method_28_code
def yX4_mesh : MethodName := ⟨RX4, "mesh", "(I)I"⟩
abbrev cX4_dirt : ByteArray := prog_1_method_29_code
def yX4_dirt : MethodName := ⟨RX4, "dirt", "(I)I"⟩
abbrev cX4_isOpen : ByteArray := prog_1_method_30_code
def yX4_isOpen : MethodName := ⟨RX4, "isOpen", "(I)Z"⟩
abbrev cX4_flow : ByteArray := prog_1_method_31_code
def yX4_flow : MethodName := ⟨RX4, "flow", "(I)I"⟩
abbrev cX4_litresThrough : ByteArray := prog_1_method_32_code
def yX4_litresThrough : MethodName := ⟨RX4, "litresThrough", "(I)I"⟩
abbrev cX4_pipeByDirt : ByteArray := prog_1_method_33_code
def yX4_pipeByDirt : MethodName := ⟨RX4, "pipeByDirt", "(I)I"⟩
abbrev cX4_pipesBefore : ByteArray := prog_1_method_34_code
def yX4_pipesBefore : MethodName := ⟨RX4, "pipesBefore", "(I)I"⟩
abbrev cX4_areConnected : ByteArray := prog_1_method_35_code
def yX4_areConnected : MethodName := ⟨RX4, "areConnected", "(II)Z"⟩
abbrev cX4_groupCount : ByteArray := prog_1_method_36_code
def yX4_groupCount : MethodName := ⟨RX4, "groupCount", "()I"⟩
abbrev cX4_isBridge : ByteArray := prog_1_method_38_code
def yX4_isBridge : MethodName := ⟨RX4, "isBridge", "(I)Z"⟩
abbrev cX4_bridgeCount : ByteArray := prog_1_method_39_code
def yX4_bridgeCount : MethodName := ⟨RX4, "bridgeCount", "()I"⟩
abbrev cX4_width : ByteArray := prog_1_method_41_code
def yX4_width : MethodName := ⟨RX4, "width", "(II)I"⟩
abbrev cX4_widthBySettings : ByteArray := prog_1_method_42_code
def yX4_widthBySettings : MethodName := ⟨RX4, "widthBySettings", "(II)I"⟩
abbrev cX4_cleanest : ByteArray := prog_1_method_43_code
def yX4_cleanest : MethodName := ⟨RX4, "cleanest", "(II)I"⟩
abbrev cX4_cleanestByPasses : ByteArray := prog_1_method_44_code
def yX4_cleanestByPasses : MethodName := ⟨RX4, "cleanestByPasses", "(II)I"⟩
abbrev cX4_needConnection : ByteArray := prog_1_method_45_code
def yX4_needConnection : MethodName := ⟨RX4, "needConnection", "(II)V"⟩
abbrev cX4_time : ByteArray := prog_1_method_47_code
def yX4_time : MethodName := ⟨RX4, "time", "()I"⟩
abbrev cX4_pouredTotal : ByteArray := prog_1_method_48_code
def yX4_pouredTotal : MethodName := ⟨RX4, "pouredTotal", "()I"⟩
abbrev cX4_drawnTotal : ByteArray := prog_1_method_49_code
def yX4_drawnTotal : MethodName := ⟨RX4, "drawnTotal", "()I"⟩
abbrev cX4_spilledTotal : ByteArray := prog_1_method_50_code
def yX4_spilledTotal : MethodName := ⟨RX4, "spilledTotal", "()I"⟩
abbrev cX4_meanContent : ByteArray := prog_1_method_53_code
def yX4_meanContent : MethodName := ⟨RX4, "meanContent", "()D"⟩
abbrev cX4_meanContentBits : ByteArray := prog_1_method_54_code
def yX4_meanContentBits : MethodName := ⟨RX4, "meanContentBits", "()J"⟩
abbrev cX4_fingerprint : ByteArray := prog_1_method_55_code
def yX4_fingerprint : MethodName := ⟨RX4, "fingerprint", "()J"⟩
abbrev cX4_renderTank : ByteArray := prog_1_method_57_code
def yX4_renderTank : MethodName := ⟨RX4, "renderTank", "(I)I"⟩
abbrev cX4_appendLetters : ByteArray := prog_1_method_58_code
def yX4_appendLetters : MethodName := ⟨RX4, "appendLetters", "(I)V"⟩
abbrev cX4_renderPipe : ByteArray := prog_1_method_59_code
def yX4_renderPipe : MethodName := ⟨RX4, "renderPipe", "(I)I"⟩
abbrev cX4_outputAt : ByteArray := prog_1_method_60_code
def yX4_outputAt : MethodName := ⟨RX4, "outputAt", "(I)C"⟩
abbrev cX4_type : ByteArray := prog_1_method_61_code
def yX4_type : MethodName := ⟨RX4, "type", "(C)I"⟩
abbrev cX4_runScript : ByteArray := prog_1_method_62_code
def yX4_runScript : MethodName := ⟨RX4, "runScript", "()I"⟩
abbrev cX4_performed : ByteArray := prog_1_method_63_code
def yX4_performed : MethodName := ⟨RX4, "performed", "(I)Z"⟩
abbrev cX4_errorPosition : ByteArray := prog_1_method_64_code
def yX4_errorPosition : MethodName := ⟨RX4, "errorPosition", "()I"⟩
abbrev cX4_failedCommand : ByteArray := prog_1_method_65_code
def yX4_failedCommand : MethodName := ⟨RX4, "failedCommand", "()I"⟩
abbrev cX4_undo : ByteArray := prog_1_method_66_code
def yX4_undo : MethodName := ⟨RX4, "undo", "()I"⟩
abbrev cX4_save : ByteArray := prog_1_method_67_code
def yX4_save : MethodName := ⟨RX4, "save", "()I"⟩
abbrev cX4_restore : ByteArray := prog_1_method_68_code
def yX4_restore : MethodName := ⟨RX4, "restore", "()I"⟩
abbrev cX4_contains : ByteArray := prog_1_method_69_code
def yX4_contains : MethodName := ⟨RX4, "contains", "(II)Z"⟩
abbrev cX4_bitsOfFloat : ByteArray := prog_1_method_70_code
def yX4_bitsOfFloat : MethodName := ⟨RX4, "bitsOfFloat", "(F)I"⟩
abbrev cX4_bitsOfDouble : ByteArray := prog_1_method_71_code
def yX4_bitsOfDouble : MethodName := ⟨RX4, "bitsOfDouble", "(D)J"⟩
def RX5 : String := "FilterWaterworksModel"
def TX5 : u_T := fun k => match k with
  | _ => ("", "", "", false)
def tyX5 : Nat → FieldType := fun k => match k with
  | _ => .int
abbrev wsX50 : List Cond := u_ws RX5 TX5 0
theorem nmX5 : ∀ a, a < 0 → ∀ b, b < 0 → a ≠ b → (TX5 a).2.1 ≠ (TX5 b).2.1 := by decide +kernel
theorem tyX5_ok : ∀ k, k < 0 → parseFieldDescriptor (TX5 k).2.2.1 = some (tyX5 k) := by decide +kernel
def RJx145de : String := "java/io/Serializable"
def TJx145de : u_T := fun k => match k with
  | _ => ("", "", "", false)
def tyJx145de : Nat → FieldType := fun k => match k with
  | _ => .int
abbrev wsJx145de0 : List Cond := u_ws RJx145de TJx145de 0
theorem nmJx145de : ∀ a, a < 0 → ∀ b, b < 0 → a ≠ b → (TJx145de a).2.1 ≠ (TJx145de b).2.1 := by decide +kernel
theorem tyJx145de_ok : ∀ k, k < 0 → parseFieldDescriptor (TJx145de k).2.2.1 = some (tyJx145de k) := by decide +kernel
def RJ5 : String := "java/lang/AbstractStringBuilder"
def TJ5 : u_T := fun k => match k with
  | _ => ("", "", "", false)
def tyJ5 : Nat → FieldType := fun k => match k with
  | _ => .int
abbrev wsJ50 : List Cond := u_ws RJ5 TJ5 0
theorem nmJ5 : ∀ a, a < 0 → ∀ b, b < 0 → a ≠ b → (TJ5 a).2.1 ≠ (TJ5 b).2.1 := by decide +kernel
theorem tyJ5_ok : ∀ k, k < 0 → parseFieldDescriptor (TJ5 k).2.2.1 = some (tyJ5 k) := by decide +kernel
abbrev cJ5_init_d00df : ByteArray := prog_9_method_2_code
def yJ5_init_d00df : MethodName := ⟨RJ5, "<init>", "(I)V"⟩
abbrev cJ5_length_8abf5 : ByteArray := prog_9_method_6_code
def yJ5_length_8abf5 : MethodName := ⟨RJ5, "length", "()I"⟩
abbrev cJ5_ensureCapacityInternal_d00df : ByteArray := prog_9_method_9_code
def yJ5_ensureCapacityInternal_d00df : MethodName := ⟨RJ5, "ensureCapacityInternal", "(I)V"⟩
abbrev cJ5_newCapacity_0f7a4 : ByteArray := prog_9_method_10_code
def yJ5_newCapacity_0f7a4 : MethodName := ⟨RJ5, "newCapacity", "(I)I"⟩
abbrev cJ5_inflate_da8c8 : ByteArray := prog_9_method_11_code
def yJ5_inflate_da8c8 : MethodName := ⟨RJ5, "inflate", "()V"⟩
abbrev cJ5_setLength_d00df : ByteArray := prog_9_method_13_code
def yJ5_setLength_d00df : MethodName := ⟨RJ5, "setLength", "(I)V"⟩
abbrev cJ5_charAt_5068e : ByteArray := prog_9_method_14_code
def yJ5_charAt_5068e : MethodName := ⟨RJ5, "charAt", "(I)C"⟩
abbrev cJ5_append_cf1ce : ByteArray := prog_9_method_22_code
def yJ5_append_cf1ce : MethodName := ⟨RJ5, "append", "(Ljava/lang/String;)Ljava/lang/AbstractStringBuilder;"⟩
abbrev cJ5_appendNull_278bc : ByteArray := prog_9_method_26_code
def yJ5_appendNull_278bc : MethodName := ⟨RJ5, "appendNull", "()Ljava/lang/AbstractStringBuilder;"⟩
abbrev cJ5_append_3fe6f : ByteArray := prog_9_method_31_code
def yJ5_append_3fe6f : MethodName := ⟨RJ5, "append", "(C)Ljava/lang/AbstractStringBuilder;"⟩
abbrev cJ5_append_c97b9 : ByteArray := prog_9_method_32_code
def yJ5_append_c97b9 : MethodName := ⟨RJ5, "append", "(I)Ljava/lang/AbstractStringBuilder;"⟩
abbrev cJ5_getValue_6d5f1 : ByteArray := prog_9_method_64_code
def yJ5_getValue_6d5f1 : MethodName := ⟨RJ5, "getValue", "()[B"⟩
abbrev cJ5_isLatin1_aae02 : ByteArray := prog_9_method_68_code
def yJ5_isLatin1_aae02 : MethodName := ⟨RJ5, "isLatin1", "()Z"⟩
abbrev cJ5_inflateIfNeededFor_a7421 : ByteArray := prog_9_method_71_code
def yJ5_inflateIfNeededFor_a7421 : MethodName := ⟨RJ5, "inflateIfNeededFor", "(Ljava/lang/String;)V"⟩
abbrev cJ5_putStringAt_47b60 : ByteArray := prog_9_method_73_code
def yJ5_putStringAt_47b60 : MethodName := ⟨RJ5, "putStringAt", "(ILjava/lang/String;)V"⟩
def RJx2cfe8 : String := "java/lang/Appendable"
def TJx2cfe8 : u_T := fun k => match k with
  | _ => ("", "", "", false)
def tyJx2cfe8 : Nat → FieldType := fun k => match k with
  | _ => .int
abbrev wsJx2cfe80 : List Cond := u_ws RJx2cfe8 TJx2cfe8 0
theorem nmJx2cfe8 : ∀ a, a < 0 → ∀ b, b < 0 → a ≠ b → (TJx2cfe8 a).2.1 ≠ (TJx2cfe8 b).2.1 := by decide +kernel
theorem tyJx2cfe8_ok : ∀ k, k < 0 → parseFieldDescriptor (TJx2cfe8 k).2.2.1 = some (tyJx2cfe8 k) := by decide +kernel
def RJx00060 : String := "java/lang/ArrayIndexOutOfBoundsException"
def TJx00060 : u_T := fun k => match k with
  | 0 => ("java/lang/Throwable", "backtrace", "Ljava/lang/Object;", false)
  | 1 => ("java/lang/Throwable", "detailMessage", "Ljava/lang/String;", false)
  | 2 => ("java/lang/Throwable", "cause", "Ljava/lang/Throwable;", false)
  | 3 => ("java/lang/Throwable", "stackTrace", "[Ljava/lang/StackTraceElement;", false)
  | 4 => ("java/lang/Throwable", "depth", "I", false)
  | _ => ("java/lang/Throwable", "suppressedExceptions", "Ljava/util/List;", false)
def tyJx00060 : Nat → FieldType := fun k => match k with
  | 0 => .object "java/lang/Object"
  | 1 => .object "java/lang/String"
  | 2 => .object "java/lang/Throwable"
  | 3 => .array (.object "java/lang/StackTraceElement")
  | 4 => .int
  | _ => .object "java/util/List"
abbrev wsJx000600 : List Cond := u_ws RJx00060 TJx00060 6
theorem nmJx00060 : ∀ a, a < 6 → ∀ b, b < 6 → a ≠ b → (TJx00060 a).2.1 ≠ (TJx00060 b).2.1 := by decide +kernel
theorem tyJx00060_ok : ∀ k, k < 6 → parseFieldDescriptor (TJx00060 k).2.2.1 = some (tyJx00060 k) := by decide +kernel
abbrev cJx00060_init_a7421 : ByteArray := prog_12_method_2_code
def yJx00060_init_a7421 : MethodName := ⟨RJx00060, "<init>", "(Ljava/lang/String;)V"⟩
abbrev cJx00060_init_d00df : ByteArray := prog_12_method_3_code
def yJx00060_init_d00df : MethodName := ⟨RJx00060, "<init>", "(I)V"⟩
def RJx9f9b0 : String := "java/lang/CharSequence"
def TJx9f9b0 : u_T := fun k => match k with
  | _ => ("", "", "", false)
def tyJx9f9b0 : Nat → FieldType := fun k => match k with
  | _ => .int
abbrev wsJx9f9b00 : List Cond := u_ws RJx9f9b0 TJx9f9b0 0
theorem nmJx9f9b0 : ∀ a, a < 0 → ∀ b, b < 0 → a ≠ b → (TJx9f9b0 a).2.1 ≠ (TJx9f9b0 b).2.1 := by decide +kernel
theorem tyJx9f9b0_ok : ∀ k, k < 0 → parseFieldDescriptor (TJx9f9b0 k).2.2.1 = some (tyJx9f9b0 k) := by decide +kernel
def RJx8e188 : String := "java/lang/Cloneable"
def TJx8e188 : u_T := fun k => match k with
  | _ => ("", "", "", false)
def tyJx8e188 : Nat → FieldType := fun k => match k with
  | _ => .int
abbrev wsJx8e1880 : List Cond := u_ws RJx8e188 TJx8e188 0
theorem nmJx8e188 : ∀ a, a < 0 → ∀ b, b < 0 → a ≠ b → (TJx8e188 a).2.1 ≠ (TJx8e188 b).2.1 := by decide +kernel
theorem tyJx8e188_ok : ∀ k, k < 0 → parseFieldDescriptor (TJx8e188 k).2.2.1 = some (tyJx8e188 k) := by decide +kernel
def RJxb160c : String := "java/lang/Comparable"
def TJxb160c : u_T := fun k => match k with
  | _ => ("", "", "", false)
def tyJxb160c : Nat → FieldType := fun k => match k with
  | _ => .int
abbrev wsJxb160c0 : List Cond := u_ws RJxb160c TJxb160c 0
theorem nmJxb160c : ∀ a, a < 0 → ∀ b, b < 0 → a ≠ b → (TJxb160c a).2.1 ≠ (TJxb160c b).2.1 := by decide +kernel
theorem tyJxb160c_ok : ∀ k, k < 0 → parseFieldDescriptor (TJxb160c k).2.2.1 = some (tyJxb160c k) := by decide +kernel
def RJ6 : String := "java/lang/Integer"
def TJ6 : u_T := fun k => match k with
  | _ => ("", "", "", false)
def tyJ6 : Nat → FieldType := fun k => match k with
  | _ => .int
abbrev wsJ60 : List Cond := u_ws RJ6 TJ6 0
theorem nmJ6 : ∀ a, a < 0 → ∀ b, b < 0 → a ≠ b → (TJ6 a).2.1 ≠ (TJ6 b).2.1 := by decide +kernel
theorem tyJ6_ok : ∀ k, k < 0 → parseFieldDescriptor (TJ6 k).2.2.1 = some (tyJ6 k) := by decide +kernel
abbrev cJ6_getChars_ba4f3 : ByteArray := prog_20_method_12_code
def yJ6_getChars_ba4f3 : MethodName := ⟨RJ6, "getChars", "(II[B)I"⟩
abbrev cJ6_stringSize_0f7a4 : ByteArray := prog_20_method_13_code
def yJ6_stringSize_0f7a4 : MethodName := ⟨RJ6, "stringSize", "(I)I"⟩
abbrev cJ6_bitCount_0f7a4 : ByteArray := prog_20_method_49_code
def yJ6_bitCount_0f7a4 : MethodName := ⟨RJ6, "bitCount", "(I)I"⟩
def RJ9 : String := "java/lang/Math"
def TJ9 : u_T := fun k => match k with
  | _ => ("", "", "", false)
def tyJ9 : Nat → FieldType := fun k => match k with
  | _ => .int
abbrev wsJ90 : List Cond := u_ws RJ9 TJ9 0
theorem nmJ9 : ∀ a, a < 0 → ∀ b, b < 0 → a ≠ b → (TJ9 a).2.1 ≠ (TJ9 b).2.1 := by decide +kernel
theorem tyJ9_ok : ∀ k, k < 0 → parseFieldDescriptor (TJ9 k).2.2.1 = some (tyJ9 k) := by decide +kernel
abbrev cJ9_abs_0f7a4 : ByteArray := prog_21_method_59_code
def yJ9_abs_0f7a4 : MethodName := ⟨RJ9, "abs", "(I)I"⟩
abbrev cJ9_max_7cf53 : ByteArray := prog_21_method_65_code
def yJ9_max_7cf53 : MethodName := ⟨RJ9, "max", "(II)I"⟩
abbrev cJ9_min_7cf53 : ByteArray := prog_21_method_69_code
def yJ9_min_7cf53 : MethodName := ⟨RJ9, "min", "(II)I"⟩
def RJxd2413 : String := "java/lang/Number"
def TJxd2413 : u_T := fun k => match k with
  | _ => ("", "", "", false)
def tyJxd2413 : Nat → FieldType := fun k => match k with
  | _ => .int
abbrev wsJxd24130 : List Cond := u_ws RJxd2413 TJxd2413 0
theorem nmJxd2413 : ∀ a, a < 0 → ∀ b, b < 0 → a ≠ b → (TJxd2413 a).2.1 ≠ (TJxd2413 b).2.1 := by decide +kernel
theorem tyJxd2413_ok : ∀ k, k < 0 → parseFieldDescriptor (TJxd2413 k).2.2.1 = some (tyJxd2413 k) := by decide +kernel
def RJ0 : String := "java/lang/String"
def TJ0 : u_T := fun k => match k with
  | 0 => ("java/lang/String", "value", "[B", true)
  | 1 => ("java/lang/String", "coder", "B", true)
  | 2 => ("java/lang/String", "hash", "I", false)
  | _ => ("java/lang/String", "hashIsZero", "Z", false)
def tyJ0 : Nat → FieldType := fun k => match k with
  | 0 => .array .byte
  | 1 => .byte
  | 2 => .int
  | _ => .boolean
abbrev wsJ00 : List Cond := u_ws RJ0 TJ0 4
theorem nmJ0 : ∀ a, a < 4 → ∀ b, b < 4 → a ≠ b → (TJ0 a).2.1 ≠ (TJ0 b).2.1 := by decide +kernel
theorem tyJ0_ok : ∀ k, k < 4 → parseFieldDescriptor (TJ0 k).2.2.1 = some (tyJ0 k) := by decide +kernel
abbrev cJ0_init_81219 : ByteArray := prog_24_method_53_code
def yJ0_init_81219 : MethodName := ⟨RJ0, "<init>", "(Ljava/lang/StringBuilder;)V"⟩
abbrev cJ0_length_8abf5 : ByteArray := prog_24_method_54_code
def yJ0_length_8abf5 : MethodName := ⟨RJ0, "length", "()I"⟩
abbrev cJ0_charAt_5068e : ByteArray := prog_24_method_56_code
def yJ0_charAt_5068e : MethodName := ⟨RJ0, "charAt", "(I)C"⟩
abbrev cJ0_getBytes_840e7 : ByteArray := prog_24_method_147_code
def yJ0_getBytes_840e7 : MethodName := ⟨RJ0, "getBytes", "([BIB)V"⟩
abbrev cJ0_init_db425 : ByteArray := prog_24_method_150_code
def yJ0_init_db425 : MethodName := ⟨RJ0, "<init>", "(Ljava/lang/AbstractStringBuilder;Ljava/lang/Void;)V"⟩
abbrev cJ0_coder_7d493 : ByteArray := prog_24_method_152_code
def yJ0_coder_7d493 : MethodName := ⟨RJ0, "coder", "()B"⟩
abbrev cJ0_isLatin1_aae02 : ByteArray := prog_24_method_154_code
def yJ0_isLatin1_aae02 : MethodName := ⟨RJ0, "isLatin1", "()Z"⟩
abbrev cJ0_checkIndex_df160 : ByteArray := prog_24_method_155_code
def yJ0_checkIndex_df160 : MethodName := ⟨RJ0, "checkIndex", "(II)V"⟩
abbrev cJ0_checkBoundsOffCount_cabcc : ByteArray := prog_24_method_157_code
def yJ0_checkBoundsOffCount_cabcc : MethodName := ⟨RJ0, "checkBoundsOffCount", "(III)I"⟩
abbrev cJ0_checkBoundsBeginEnd_23922 : ByteArray := prog_24_method_158_code
def yJ0_checkBoundsBeginEnd_23922 : MethodName := ⟨RJ0, "checkBoundsBeginEnd", "(III)V"⟩
def RJ4 : String := "java/lang/StringBuilder"
def TJ4 : u_T := fun k => match k with
  | 0 => ("java/lang/AbstractStringBuilder", "value", "[B", false)
  | 1 => ("java/lang/AbstractStringBuilder", "coder", "B", false)
  | 2 => ("java/lang/AbstractStringBuilder", "maybeLatin1", "Z", false)
  | _ => ("java/lang/AbstractStringBuilder", "count", "I", false)
def tyJ4 : Nat → FieldType := fun k => match k with
  | 0 => .array .byte
  | 1 => .byte
  | 2 => .boolean
  | _ => .int
abbrev wsJ40 : List Cond := u_ws RJ4 TJ4 4
theorem nmJ4 : ∀ a, a < 4 → ∀ b, b < 4 → a ≠ b → (TJ4 a).2.1 ≠ (TJ4 b).2.1 := by decide +kernel
theorem tyJ4_ok : ∀ k, k < 4 → parseFieldDescriptor (TJ4 k).2.2.1 = some (tyJ4 k) := by decide +kernel
abbrev cJ4_init_da8c8 : ByteArray := prog_25_method_1_code
def yJ4_init_da8c8 : MethodName := ⟨RJ4, "<init>", "()V"⟩
abbrev cJ4_append_15ec4 : ByteArray := prog_25_method_7_code
def yJ4_append_15ec4 : MethodName := ⟨RJ4, "append", "(Ljava/lang/String;)Ljava/lang/StringBuilder;"⟩
abbrev cJ4_append_cf468 : ByteArray := prog_25_method_14_code
def yJ4_append_cf468 : MethodName := ⟨RJ4, "append", "(C)Ljava/lang/StringBuilder;"⟩
abbrev cJ4_append_bf812 : ByteArray := prog_25_method_15_code
def yJ4_append_bf812 : MethodName := ⟨RJ4, "append", "(I)Ljava/lang/StringBuilder;"⟩
abbrev cJ4_toString_0e30d : ByteArray := prog_25_method_42_code
def yJ4_toString_0e30d : MethodName := ⟨RJ4, "toString", "()Ljava/lang/String;"⟩
abbrev cJ4_charAt_5068e : ByteArray := prog_25_method_88_code
def yJ4_charAt_5068e : MethodName := ⟨RJ4, "charAt", "(I)C"⟩
abbrev cJ4_setLength_d00df : ByteArray := prog_25_method_89_code
def yJ4_setLength_d00df : MethodName := ⟨RJ4, "setLength", "(I)V"⟩
abbrev cJ4_length_8abf5 : ByteArray := prog_25_method_93_code
def yJ4_length_8abf5 : MethodName := ⟨RJ4, "length", "()I"⟩
def RJx7c733 : String := "java/lang/StringIndexOutOfBoundsException"
def TJx7c733 : u_T := fun k => match k with
  | 0 => ("java/lang/Throwable", "backtrace", "Ljava/lang/Object;", false)
  | 1 => ("java/lang/Throwable", "detailMessage", "Ljava/lang/String;", false)
  | 2 => ("java/lang/Throwable", "cause", "Ljava/lang/Throwable;", false)
  | 3 => ("java/lang/Throwable", "stackTrace", "[Ljava/lang/StackTraceElement;", false)
  | 4 => ("java/lang/Throwable", "depth", "I", false)
  | _ => ("java/lang/Throwable", "suppressedExceptions", "Ljava/util/List;", false)
def tyJx7c733 : Nat → FieldType := fun k => match k with
  | 0 => .object "java/lang/Object"
  | 1 => .object "java/lang/String"
  | 2 => .object "java/lang/Throwable"
  | 3 => .array (.object "java/lang/StackTraceElement")
  | 4 => .int
  | _ => .object "java/util/List"
abbrev wsJx7c7330 : List Cond := u_ws RJx7c733 TJx7c733 6
theorem nmJx7c733 : ∀ a, a < 6 → ∀ b, b < 6 → a ≠ b → (TJx7c733 a).2.1 ≠ (TJx7c733 b).2.1 := by decide +kernel
theorem tyJx7c733_ok : ∀ k, k < 6 → parseFieldDescriptor (TJx7c733 k).2.2.1 = some (tyJx7c733 k) := by decide +kernel
abbrev cJx7c733_init_d00df : ByteArray := prog_26_method_3_code
def yJx7c733_init_d00df : MethodName := ⟨RJx7c733, "<init>", "(I)V"⟩
def RJ1 : String := "java/lang/StringLatin1"
def TJ1 : u_T := fun k => match k with
  | _ => ("", "", "", false)
def tyJ1 : Nat → FieldType := fun k => match k with
  | _ => .int
abbrev wsJ10 : List Cond := u_ws RJ1 TJ1 0
theorem nmJ1 : ∀ a, a < 0 → ∀ b, b < 0 → a ≠ b → (TJ1 a).2.1 ≠ (TJ1 b).2.1 := by decide +kernel
theorem tyJ1_ok : ∀ k, k < 0 → parseFieldDescriptor (TJ1 k).2.2.1 = some (tyJ1 k) := by decide +kernel
abbrev cJ1_charAt_3b067 : ByteArray := prog_27_method_2_code
def yJ1_charAt_3b067 : MethodName := ⟨RJ1, "charAt", "([BI)C"⟩
abbrev cJ1_canEncode_fc78d : ByteArray := prog_27_method_3_code
def yJ1_canEncode_fc78d : MethodName := ⟨RJ1, "canEncode", "(C)Z"⟩
abbrev cJ1_fillNull_b72d1 : ByteArray := prog_27_method_48_code
def yJ1_fillNull_b72d1 : MethodName := ⟨RJ1, "fillNull", "([BII)V"⟩
abbrev cJ1_inflate_0e8fd : ByteArray := prog_27_method_50_code
def yJ1_inflate_0e8fd : MethodName := ⟨RJ1, "inflate", "([BI[BII)V"⟩
def RJ2 : String := "java/lang/StringUTF16"
def TJ2 : u_T := fun k => match k with
  | _ => ("", "", "", false)
def tyJ2 : Nat → FieldType := fun k => match k with
  | _ => .int
abbrev wsJ20 : List Cond := u_ws RJ2 TJ2 0
theorem nmJ2 : ∀ a, a < 0 → ∀ b, b < 0 → a ≠ b → (TJ2 a).2.1 ≠ (TJ2 b).2.1 := by decide +kernel
theorem tyJ2_ok : ∀ k, k < 0 → parseFieldDescriptor (TJ2 k).2.2.1 = some (tyJ2 k) := by decide +kernel
abbrev cJ2_newBytesFor_77867 : ByteArray := prog_28_method_2_code
def yJ2_newBytesFor_77867 : MethodName := ⟨RJ2, "newBytesFor", "(I)[B"⟩
abbrev cJ2_newBytesLength_0f7a4 : ByteArray := prog_28_method_3_code
def yJ2_newBytesLength_0f7a4 : MethodName := ⟨RJ2, "newBytesLength", "(I)I"⟩
abbrev cJ2_putChar_b72d1 : ByteArray := prog_28_method_4_code
def yJ2_putChar_b72d1 : MethodName := ⟨RJ2, "putChar", "([BII)V"⟩
abbrev cJ2_getChar_3b067 : ByteArray := prog_28_method_5_code
def yJ2_getChar_3b067 : MethodName := ⟨RJ2, "getChar", "([BI)C"⟩
abbrev cJ2_length_9d52b : ByteArray := prog_28_method_6_code
def yJ2_length_9d52b : MethodName := ⟨RJ2, "length", "([B)I"⟩
abbrev cJ2_coderFromArrayLen_85cad : ByteArray := prog_28_method_15_code
def yJ2_coderFromArrayLen_85cad : MethodName := ⟨RJ2, "coderFromArrayLen", "([BI)B"⟩
abbrev cJ2_compress_39247 : ByteArray := prog_28_method_17_code
def yJ2_compress_39247 : MethodName := ⟨RJ2, "compress", "([BII)[B"⟩
abbrev cJ2_compress_5af95 : ByteArray := prog_28_method_22_code
def yJ2_compress_5af95 : MethodName := ⟨RJ2, "compress", "([BI[BII)I"⟩
abbrev cJ2_fillNull_b72d1 : ByteArray := prog_28_method_70_code
def yJ2_fillNull_b72d1 : MethodName := ⟨RJ2, "fillNull", "([BII)V"⟩
abbrev cJ2_putCharSB_b72d1 : ByteArray := prog_28_method_71_code
def yJ2_putCharSB_b72d1 : MethodName := ⟨RJ2, "putCharSB", "([BII)V"⟩
abbrev cJ2_getChars_46870 : ByteArray := prog_28_method_77_code
def yJ2_getChars_46870 : MethodName := ⟨RJ2, "getChars", "(III[B)I"⟩
abbrev cJ2_putCharsAt_cd4e5 : ByteArray := prog_28_method_81_code
def yJ2_putCharsAt_cd4e5 : MethodName := ⟨RJ2, "putCharsAt", "([BICCCC)I"⟩
abbrev cJ2_charAt_3b067 : ByteArray := prog_28_method_83_code
def yJ2_charAt_3b067 : MethodName := ⟨RJ2, "charAt", "([BI)C"⟩
abbrev cJ2_inflate_0e8fd : ByteArray := prog_28_method_86_code
def yJ2_inflate_0e8fd : MethodName := ⟨RJ2, "inflate", "([BI[BII)V"⟩
abbrev cJ2_getChars_ba4f3 : ByteArray := prog_28_method_89_code
def yJ2_getChars_ba4f3 : MethodName := ⟨RJ2, "getChars", "(II[B)I"⟩
abbrev cJ2_checkIndex_2214a : ByteArray := prog_28_method_91_code
def yJ2_checkIndex_2214a : MethodName := ⟨RJ2, "checkIndex", "(I[B)V"⟩
abbrev cJ2_checkBoundsBeginEnd_d044e : ByteArray := prog_28_method_93_code
def yJ2_checkBoundsBeginEnd_d044e : MethodName := ⟨RJ2, "checkBoundsBeginEnd", "(II[B)V"⟩
abbrev cJ2_checkBoundsOffCount_d044e : ByteArray := prog_28_method_94_code
def yJ2_checkBoundsOffCount_d044e : MethodName := ⟨RJ2, "checkBoundsOffCount", "(II[B)V"⟩
def RJ10 : String := "java/lang/System"
def TJ10 : u_T := fun k => match k with
  | _ => ("", "", "", false)
def tyJ10 : Nat → FieldType := fun k => match k with
  | _ => .int
abbrev wsJ100 : List Cond := u_ws RJ10 TJ10 0
theorem nmJ10 : ∀ a, a < 0 → ∀ b, b < 0 → a ≠ b → (TJ10 a).2.1 ≠ (TJ10 b).2.1 := by decide +kernel
theorem tyJ10_ok : ∀ k, k < 0 → parseFieldDescriptor (TJ10 k).2.2.1 = some (tyJ10 k) := by decide +kernel
def RJxfd54e : String := "java/lang/constant/Constable"
def TJxfd54e : u_T := fun k => match k with
  | _ => ("", "", "", false)
def tyJxfd54e : Nat → FieldType := fun k => match k with
  | _ => .int
abbrev wsJxfd54e0 : List Cond := u_ws RJxfd54e TJxfd54e 0
theorem nmJxfd54e : ∀ a, a < 0 → ∀ b, b < 0 → a ≠ b → (TJxfd54e a).2.1 ≠ (TJxfd54e b).2.1 := by decide +kernel
theorem tyJxfd54e_ok : ∀ k, k < 0 → parseFieldDescriptor (TJxfd54e k).2.2.1 = some (tyJxfd54e k) := by decide +kernel
def RJx3cf43 : String := "java/lang/constant/ConstantDesc"
def TJx3cf43 : u_T := fun k => match k with
  | _ => ("", "", "", false)
def tyJx3cf43 : Nat → FieldType := fun k => match k with
  | _ => .int
abbrev wsJx3cf430 : List Cond := u_ws RJx3cf43 TJx3cf43 0
theorem nmJx3cf43 : ∀ a, a < 0 → ∀ b, b < 0 → a ≠ b → (TJx3cf43 a).2.1 ≠ (TJx3cf43 b).2.1 := by decide +kernel
theorem tyJx3cf43_ok : ∀ k, k < 0 → parseFieldDescriptor (TJx3cf43 k).2.2.1 = some (tyJx3cf43 k) := by decide +kernel
def RJ7 : String := "java/util/Arrays"
def TJ7 : u_T := fun k => match k with
  | _ => ("", "", "", false)
def tyJ7 : Nat → FieldType := fun k => match k with
  | _ => .int
abbrev wsJ70 : List Cond := u_ws RJ7 TJ7 0
theorem nmJ7 : ∀ a, a < 0 → ∀ b, b < 0 → a ≠ b → (TJ7 a).2.1 ≠ (TJ7 b).2.1 := by decide +kernel
theorem tyJ7_ok : ∀ k, k < 0 → parseFieldDescriptor (TJ7 k).2.2.1 = some (tyJ7 k) := by decide +kernel
abbrev cJ7_rangeCheck_23922 : ByteArray := prog_34_method_30_code
def yJ7_rangeCheck_23922 : MethodName := ⟨RJ7, "rangeCheck", "(III)V"⟩
abbrev cJ7_fill_53178 : ByteArray := prog_34_method_103_code
def yJ7_fill_53178 : MethodName := ⟨RJ7, "fill", "([II)V"⟩
abbrev cJ7_fill_eb02e : ByteArray := prog_34_method_110_code
def yJ7_fill_eb02e : MethodName := ⟨RJ7, "fill", "([BIIB)V"⟩
abbrev cJ7_copyOf_9075b : ByteArray := prog_34_method_121_code
def yJ7_copyOf_9075b : MethodName := ⟨RJ7, "copyOf", "([BI)[B"⟩
abbrev cJ7_checkLength_df160 : ByteArray := prog_34_method_131_code
def yJ7_checkLength_df160 : MethodName := ⟨RJ7, "checkLength", "(II)V"⟩
abbrev cJ7_copyOfRange_39247 : ByteArray := prog_34_method_132_code
def yJ7_copyOfRange_39247 : MethodName := ⟨RJ7, "copyOfRange", "([BII)[B"⟩
abbrev cJ7_copyOfRangeByte_39247 : ByteArray := prog_34_method_133_code
def yJ7_copyOfRangeByte_39247 : MethodName := ⟨RJ7, "copyOfRangeByte", "([BII)[B"⟩
def RJ8 : String := "jdk/internal/util/ArraysSupport"
def TJ8 : u_T := fun k => match k with
  | _ => ("", "", "", false)
def tyJ8 : Nat → FieldType := fun k => match k with
  | _ => .int
abbrev wsJ80 : List Cond := u_ws RJ8 TJ8 0
theorem nmJ8 : ∀ a, a < 0 → ∀ b, b < 0 → a ≠ b → (TJ8 a).2.1 ≠ (TJ8 b).2.1 := by decide +kernel
theorem tyJ8_ok : ∀ k, k < 0 → parseFieldDescriptor (TJ8 k).2.2.1 = some (tyJ8 k) := by decide +kernel
abbrev cJ8_newLength_cabcc : ByteArray := prog_36_method_27_code
def yJ8_newLength_cabcc : MethodName := ⟨RJ8, "newLength", "(III)I"⟩
abbrev cJ8_hugeLength_7cf53 : ByteArray := prog_36_method_28_code
def yJ8_hugeLength_7cf53 : MethodName := ⟨RJ8, "hugeLength", "(II)I"⟩
def RJ3 : String := "jdk/internal/util/Preconditions"
def TJ3 : u_T := fun k => match k with
  | _ => ("", "", "", false)
def tyJ3 : Nat → FieldType := fun k => match k with
  | _ => .int
abbrev wsJ30 : List Cond := u_ws RJ3 TJ3 0
theorem nmJ3 : ∀ a, a < 0 → ∀ b, b < 0 → a ≠ b → (TJ3 a).2.1 ≠ (TJ3 b).2.1 := by decide +kernel
theorem tyJ3_ok : ∀ k, k < 0 → parseFieldDescriptor (TJ3 k).2.2.1 = some (tyJ3 k) := by decide +kernel
abbrev cJ3_checkIndex_8e157 : ByteArray := prog_37_method_11_code
def yJ3_checkIndex_8e157 : MethodName := ⟨RJ3, "checkIndex", "(IILjava/util/function/BiFunction;)I"⟩
abbrev cJ3_checkFromToIndex_8c36e : ByteArray := prog_37_method_12_code
def yJ3_checkFromToIndex_8c36e : MethodName := ⟨RJ3, "checkFromToIndex", "(IIILjava/util/function/BiFunction;)I"⟩
abbrev cJ3_checkFromIndexSize_8c36e : ByteArray := prog_37_method_13_code
def yJ3_checkFromIndexSize_8c36e : MethodName := ⟨RJ3, "checkFromIndexSize", "(IIILjava/util/function/BiFunction;)I"⟩
def RL : String := "FilterWaterworksLaw"
abbrev cL_at : ByteArray := method_2_code
def yL_at : MethodName := ⟨RL, "at", "([II)I"⟩
abbrev cL_some : ByteArray := method_3_code
def yL_some : MethodName := ⟨RL, "some", "(II)I"⟩
abbrev cL_addTank : ByteArray := method_4_code
def yL_addTank : MethodName := ⟨RL, "addTank", "(LFilterWaterworks;I)I"⟩
abbrev cL_addPipe : ByteArray := method_5_code
def yL_addPipe : MethodName := ⟨RL, "addPipe", "(LFilterWaterworks;III)I"⟩
abbrev cL_pour : ByteArray := method_6_code
def yL_pour : MethodName := ⟨RL, "pour", "(LFilterWaterworks;III)I"⟩
abbrev cL_draw : ByteArray := method_7_code
def yL_draw : MethodName := ⟨RL, "draw", "(LFilterWaterworks;II)I"⟩
abbrev cL_setValve : ByteArray := method_8_code
def yL_setValve : MethodName := ⟨RL, "setValve", "(LFilterWaterworks;II)I"⟩
abbrev cL_setLeak : ByteArray := method_9_code
def yL_setLeak : MethodName := ⟨RL, "setLeak", "(LFilterWaterworks;II)I"⟩
abbrev cL_cleanFilter : ByteArray := method_10_code
def yL_cleanFilter : MethodName := ⟨RL, "cleanFilter", "(LFilterWaterworks;I)I"⟩
abbrev cL_advance : ByteArray := method_11_code
def yL_advance : MethodName := ⟨RL, "advance", "(LFilterWaterworks;I)I"⟩
abbrev cL_capacity : ByteArray := method_12_code
def yL_capacity : MethodName := ⟨RL, "capacity", "(LFilterWaterworks;I)I"⟩
abbrev cL_content : ByteArray := method_13_code
def yL_content : MethodName := ⟨RL, "content", "(LFilterWaterworks;I)I"⟩
abbrev cL_impurities : ByteArray := method_14_code
def yL_impurities : MethodName := ⟨RL, "impurities", "(LFilterWaterworks;I)I"⟩
abbrev cL_has : ByteArray := method_15_code
def yL_has : MethodName := ⟨RL, "has", "(LFilterWaterworks;IC)I"⟩
abbrev cL_byContent : ByteArray := method_16_code
def yL_byContent : MethodName := ⟨RL, "byContent", "(LFilterWaterworks;I)I"⟩
abbrev cL_fillShare : ByteArray := method_17_code
def yL_fillShare : MethodName := ⟨RL, "fillShare", "(LFilterWaterworks;I)F"⟩
abbrev cL_fillBits : ByteArray := method_18_code
def yL_fillBits : MethodName := ⟨RL, "fillBits", "(LFilterWaterworks;I)I"⟩
abbrev cL_firstOf : ByteArray := method_19_code
def yL_firstOf : MethodName := ⟨RL, "firstOf", "(LFilterWaterworks;I)I"⟩
abbrev cL_secondOf : ByteArray := method_20_code
def yL_secondOf : MethodName := ⟨RL, "secondOf", "(LFilterWaterworks;I)I"⟩
abbrev cL_valve : ByteArray := method_21_code
def yL_valve : MethodName := ⟨RL, "valve", "(LFilterWaterworks;I)I"⟩
abbrev cL_leak : ByteArray := method_22_code
def yL_leak : MethodName := ⟨RL, "leak", "(LFilterWaterworks;I)I"⟩
abbrev cL_mesh : ByteArray := method_23_code
def yL_mesh : MethodName := ⟨RL, "mesh", "(LFilterWaterworks;I)I"⟩
abbrev cL_dirt : ByteArray := method_24_code
def yL_dirt : MethodName := ⟨RL, "dirt", "(LFilterWaterworks;I)I"⟩
abbrev cL_isOpen : ByteArray := method_25_code
def yL_isOpen : MethodName := ⟨RL, "isOpen", "(LFilterWaterworks;I)I"⟩
abbrev cL_flow : ByteArray := method_26_code
def yL_flow : MethodName := ⟨RL, "flow", "(LFilterWaterworks;I)I"⟩
abbrev cL_litres : ByteArray := method_27_code
def yL_litres : MethodName := ⟨RL, "litres", "(LFilterWaterworks;I)I"⟩
abbrev cL_byDirt : ByteArray := method_28_code
def yL_byDirt : MethodName := ⟨RL, "byDirt", "(LFilterWaterworks;I)I"⟩
abbrev cL_connected : ByteArray := method_29_code
def yL_connected : MethodName := ⟨RL, "connected", "(LFilterWaterworks;II)I"⟩
abbrev cL_isBridge : ByteArray := method_30_code
def yL_isBridge : MethodName := ⟨RL, "isBridge", "(LFilterWaterworks;I)I"⟩
abbrev cL_width : ByteArray := method_31_code
def yL_width : MethodName := ⟨RL, "width", "(LFilterWaterworks;II)I"⟩
abbrev cL_bySettings : ByteArray := method_32_code
def yL_bySettings : MethodName := ⟨RL, "bySettings", "(LFilterWaterworks;II)I"⟩
abbrev cL_cleanest : ByteArray := method_33_code
def yL_cleanest : MethodName := ⟨RL, "cleanest", "(LFilterWaterworks;II)I"⟩
abbrev cL_byPasses : ByteArray := method_34_code
def yL_byPasses : MethodName := ⟨RL, "byPasses", "(LFilterWaterworks;II)I"⟩
abbrev cL_meanBits : ByteArray := method_37_code
def yL_meanBits : MethodName := ⟨RL, "meanBits", "(LFilterWaterworks;)J"⟩
abbrev cL_renderTank : ByteArray := method_38_code
def yL_renderTank : MethodName := ⟨RL, "renderTank", "(LFilterWaterworks;I)I"⟩
abbrev cL_renderPipe : ByteArray := method_39_code
def yL_renderPipe : MethodName := ⟨RL, "renderPipe", "(LFilterWaterworks;I)I"⟩
abbrev cL_outputAt : ByteArray := method_40_code
def yL_outputAt : MethodName := ⟨RL, "outputAt", "(LFilterWaterworks;I)I"⟩
abbrev cL_type : ByteArray := method_41_code
def yL_type : MethodName := ⟨RL, "type", "(LFilterWaterworks;C)I"⟩
abbrev cL_run : ByteArray := method_42_code
def yL_run : MethodName := ⟨RL, "run", "(LFilterWaterworks;)I"⟩
abbrev cL_errorPosition : ByteArray := method_43_code
def yL_errorPosition : MethodName := ⟨RL, "errorPosition", "(LFilterWaterworks;)I"⟩
abbrev cL_failedCommand : ByteArray := method_44_code
def yL_failedCommand : MethodName := ⟨RL, "failedCommand", "(LFilterWaterworks;)I"⟩
abbrev cL_undo : ByteArray := method_45_code
def yL_undo : MethodName := ⟨RL, "undo", "(LFilterWaterworks;)I"⟩
abbrev cL_restore : ByteArray := method_46_code
def yL_restore : MethodName := ⟨RL, "restore", "(LFilterWaterworks;)I"⟩
abbrev cL_runs : ByteArray := method_47_code
def yL_runs : MethodName := ⟨RL, "runs", "(LFilterWaterworks;Ljava/lang/String;)I"⟩
abbrev cL_makes : ByteArray := method_49_code
def yL_makes : MethodName := ⟨RL, "makes", "(LFilterWaterworks;[I)Z"⟩
abbrev cL_asks : ByteArray := method_50_code
def yL_asks : MethodName := ⟨RL, "asks", "(LFilterWaterworks;)J"⟩
abbrev cL_changes : ByteArray := method_51_code
def yL_changes : MethodName := ⟨RL, "changes", "(LFilterWaterworks;I)Z"⟩
abbrev cL_thrown : ByteArray := method_52_code
def yL_thrown : MethodName := ⟨RL, "thrown", "(LFilterWaterworks;)Z"⟩
abbrev cL_law : ByteArray := code
def yL_law : MethodName := ⟨RL, "law", "([I)Z"⟩
abbrev vwCl : List vw_C := [(RJ0, TJ0, 4), (RJ4, TJ4, 4), (RJx00060, TJx00060, 6), (RJx7c733, TJx7c733, 6), (RX0, TX0, 12), (RX1, TX1, 3), (RX2, TX2, 6), (RX3, TX3, 16), (RX4, TX4, 11)]
end
section
/-! THE PROGRAM AS TABLES (printed by wip/p61/gen02.py out of the claim's own names and words): instructions with what their pool entries mean -/
abbrev zE : Type := Nat × Instr × Nat × Nat × Nat × Nat
abbrev zI : Type := MethodName × ByteArray × Nat × Option FieldType × List (Nat × Nat × Nat × Nat) × Nat × Nat × Nat × Nat × Nat
def zstr : List (String × Nat × String) := [("FilterWaterworks", 81, "no such tank or pipe"), ("FilterWaterworks", 88, "an argument is not in its range"), ("FilterWaterworks", 93, "no more of them can be added"), ("FilterWaterworks", 98, "the tank cannot hold or give so much"), ("FilterWaterworks", 105, "no such tank"), ("FilterWaterworks", 110, "no such pipe"), ("FilterWaterworks", 128, "no such impurity"), ("FilterWaterworks", 140, "no such rank"), ("FilterWaterworks", 235, "the tanks are not connected"), ("FilterWaterworks", 266, "no tanks"), ("FilterWaterworks", 311, "no such character"), ("FilterWaterworks", 317, "no such character in scripts"), ("FilterWaterworks", 322, "the script buffer is full"), ("FilterWaterworks", 336, "the script does not have the required form"), ("FilterWaterworks", 344, "a command failed"), ("FilterWaterworks", 352, "no script without the required form"), ("FilterWaterworks", 354, "no script with a failed command"), ("FilterWaterworks", 359, "nothing to undo"), ("FilterWaterworks", 368, "no snapshot"), ("FilterWaterworks$Script", 26, "tank "), ("FilterWaterworks$Script", 28, "pipe "), ("FilterWaterworks$Script", 30, "pour "), ("FilterWaterworks$Script", 32, "draw "), ("FilterWaterworks$Script", 34, "valve "), ("FilterWaterworks$Script", 36, "leak "), ("FilterWaterworks$Script", 38, "clean "), ("FilterWaterworks$Script", 40, "wait"), ("FilterWaterworks$Script", 42, "DDS"), ("FilterWaterworks$Script", 44, "D NS"), ("FilterWaterworks$Script", 46, "D N"), ("FilterWaterworks$Script", 48, "N D"), ("FilterWaterworks$Script", 50, "M"), ("FilterWaterworks$Script", 52, "N"), ("FilterWaterworksLaw", 270, "wait;valve "), ("FilterWaterworksLaw", 279, " 3"), ("FilterWaterworksLaw", 285, "pour 0 1/h;draw "), ("FilterWaterworksLaw", 287, " 2"), ("FilterWaterworksLaw", 334, "q"), ("FilterWaterworksLaw", 338, "wait;tank 9"), ("FilterWaterworksLaw", 342, "draw 9 1")]
def zst : List (String × String × String) := [("java/lang/String", "COMPACT_STRINGS", "Z"), ("java/lang/Integer", "DigitOnes", "[B"), ("java/lang/Integer", "DigitTens", "[B"), ("jdk/internal/util/Preconditions", "SIOOBE_FORMATTER", "Ljava/util/function/BiFunction;")]
def zEx : Nat → String := fun k => match k with
  | 0 => "java/lang/IndexOutOfBoundsException"
  | 1 => "java/lang/IllegalArgumentException"
  | 2 => "java/lang/IllegalStateException"
  | 3 => "java/lang/UnsupportedOperationException"
  | 4 => "java/util/NoSuchElementException"
  | _ => "java/lang/ArithmeticException"
def zt_X0_init : List zE := [(0, .aload_n 0, 1, 0, 0, 0), (1, .invokespecial 3, 3, 0, 7, 177), (4, .aload_n 0, 1, 0, 0, 0), (5, .bipush 8, 2, 0, 0, 0), (7, .newarray .int, 2, 100, 0, 151), (9, .putfield 9, 3, 4, 1, 179), (12, .aload_n 0, 1, 0, 0, 0), (13, .bipush 8, 2, 0, 0, 0), (15, .newarray .int, 2, 100, 0, 151), (17, .putfield 15, 3, 4, 2, 180), (20, .aload_n 0, 1, 0, 0, 0), (21, .bipush 8, 2, 0, 0, 0), (23, .newarray .int, 2, 100, 0, 151), (25, .putfield 18, 3, 4, 3, 181), (28, .aload_n 0, 1, 0, 0, 0), (29, .bipush 8, 2, 0, 0, 0), (31, .newarray .int, 2, 100, 0, 151), (33, .putfield 21, 3, 4, 4, 182), (36, .aload_n 0, 1, 0, 0, 0), (37, .bipush 8, 2, 0, 0, 0), (39, .newarray .int, 2, 100, 0, 151), (41, .putfield 24, 3, 4, 5, 183), (44, .aload_n 0, 1, 0, 0, 0), (45, .bipush 8, 2, 0, 0, 0), (47, .newarray .int, 2, 100, 0, 151), (49, .putfield 27, 3, 4, 6, 185), (52, .aload_n 0, 1, 0, 0, 0), (53, .sipush 256, 3, 0, 0, 0), (56, .newarray .int, 2, 100, 0, 151), (58, .putfield 30, 3, 4, 7, 187), (61, .aload_n 0, 1, 0, 0, 0), (62, .sipush 2048, 3, 0, 0, 0), (65, .newarray .int, 2, 100, 0, 151), (67, .putfield 33, 3, 4, 8, 188), (70, .aload_n 0, 1, 0, 0, 0), (71, .aload_n 1, 1, 0, 0, 0), (72, .putfield 36, 3, 4, 0, 178), (75, .return_, 1, 0, 0, 0)]
def zt_X0_other : List zE := [(0, .aload_n 0, 1, 0, 0, 0), (1, .getfield 40, 3, 7, 3, 87), (4, .iload_n 1, 1, 0, 0, 0), (5, .iaload, 1, 0, 0, 0), (6, .iload_n 2, 1, 0, 0, 0), (7, .if_icmp .ne 10, 3, 0, 0, 0), (10, .aload_n 0, 1, 0, 0, 0), (11, .getfield 45, 3, 7, 4, 90), (14, .iload_n 1, 1, 0, 0, 0), (15, .iaload, 1, 0, 0, 0), (16, .ireturn, 1, 0, 0, 0), (17, .aload_n 0, 1, 0, 0, 0), (18, .getfield 45, 3, 7, 4, 90), (21, .iload_n 1, 1, 0, 0, 0), (22, .iaload, 1, 0, 0, 0), (23, .iload_n 2, 1, 0, 0, 0), (24, .if_icmp .ne 12, 3, 0, 0, 0), (27, .aload_n 0, 1, 0, 0, 0), (28, .getfield 40, 3, 7, 3, 87), (31, .iload_n 1, 1, 0, 0, 0), (32, .iaload, 1, 0, 0, 0), (33, .goto 4, 3, 0, 0, 0), (36, .iconst (-1), 1, 0, 0, 0), (37, .ireturn, 1, 0, 0, 0)]
def zt_X0_reachedFrom : List zE := [(0, .iconst 1, 1, 0, 0, 0), (1, .iload_n 1, 1, 0, 0, 0), (2, .ishl, 1, 0, 0, 0), (3, .istore 4, 2, 0, 0, 0), (5, .iload 4, 2, 0, 0, 0), (7, .istore 5, 2, 0, 0, 0), (9, .iconst 0, 1, 0, 0, 0), (10, .istore 6, 2, 0, 0, 0), (12, .iload 5, 2, 0, 0, 0), (14, .ifCond .eq 38, 3, 0, 0, 0), (17, .iload 6, 2, 0, 0, 0), (19, .bipush 8, 2, 0, 0, 0), (21, .if_icmp .ge 31, 3, 0, 0, 0), (24, .aload_n 0, 1, 0, 0, 0), (25, .iload 5, 2, 0, 0, 0), (27, .iload_n 2, 1, 0, 0, 0), (28, .iload_n 3, 1, 0, 0, 0), (29, .invokevirtual 48, 3, 3, 3, 963), (32, .iload 4, 2, 0, 0, 0), (34, .iconst (-1), 1, 0, 0, 0), (35, .ixor, 1, 0, 0, 0), (36, .iand, 1, 0, 0, 0), (37, .istore 5, 2, 0, 0, 0), (39, .iload 4, 2, 0, 0, 0), (41, .iload 5, 2, 0, 0, 0), (43, .ior, 1, 0, 0, 0), (44, .istore 4, 2, 0, 0, 0), (46, .iinc 6 1, 3, 0, 0, 0), (49, .goto (-37), 3, 0, 0, 0), (52, .iload 4, 2, 0, 0, 0), (54, .ireturn, 1, 0, 0, 0)]
def zt_X0_neighbours : List zE := [(0, .iconst 0, 1, 0, 0, 0), (1, .istore 4, 2, 0, 0, 0), (3, .iconst 0, 1, 0, 0, 0), (4, .istore 5, 2, 0, 0, 0), (6, .iload 5, 2, 0, 0, 0), (8, .aload_n 0, 1, 0, 0, 0), (9, .getfield 36, 3, 4, 0, 178), (12, .getfield 52, 3, 7, 11, 108), (15, .if_icmp .ge 112, 3, 0, 0, 0), (18, .iload 5, 2, 0, 0, 0), (20, .iload_n 3, 1, 0, 0, 0), (21, .if_icmp .eq 100, 3, 0, 0, 0), (24, .aload_n 0, 1, 0, 0, 0), (25, .getfield 36, 3, 4, 0, 178), (28, .iload 5, 2, 0, 0, 0), (30, .invokevirtual 56, 3, 58, 3, 967), (33, .ifCond .eq 88, 3, 0, 0, 0), (36, .aload_n 0, 1, 0, 0, 0), (37, .getfield 36, 3, 4, 0, 178), (40, .getfield 60, 3, 7, 6, 96), (43, .iload 5, 2, 0, 0, 0), (45, .iaload, 1, 0, 0, 0), (46, .iload_n 2, 1, 0, 0, 0), (47, .if_icmp .ge 6, 3, 0, 0, 0), (50, .goto 71, 3, 0, 0, 0), (53, .iload_n 1, 1, 0, 0, 0), (54, .aload_n 0, 1, 0, 0, 0), (55, .getfield 36, 3, 4, 0, 178), (58, .getfield 40, 3, 7, 3, 87), (61, .iload 5, 2, 0, 0, 0), (63, .iaload, 1, 0, 0, 0), (64, .invokestatic 63, 3, 127, 2, 956), (67, .ifCond .eq 20, 3, 0, 0, 0), (70, .iload 4, 2, 0, 0, 0), (72, .iconst 1, 1, 0, 0, 0), (73, .aload_n 0, 1, 0, 0, 0), (74, .getfield 36, 3, 4, 0, 178), (77, .getfield 45, 3, 7, 4, 90), (80, .iload 5, 2, 0, 0, 0), (82, .iaload, 1, 0, 0, 0), (83, .ishl, 1, 0, 0, 0), (84, .ior, 1, 0, 0, 0), (85, .istore 4, 2, 0, 0, 0), (87, .iload_n 1, 1, 0, 0, 0), (88, .aload_n 0, 1, 0, 0, 0), (89, .getfield 36, 3, 4, 0, 178), (92, .getfield 45, 3, 7, 4, 90), (95, .iload 5, 2, 0, 0, 0), (97, .iaload, 1, 0, 0, 0), (98, .invokestatic 63, 3, 127, 2, 956), (101, .ifCond .eq 20, 3, 0, 0, 0), (104, .iload 4, 2, 0, 0, 0), (106, .iconst 1, 1, 0, 0, 0), (107, .aload_n 0, 1, 0, 0, 0), (108, .getfield 36, 3, 4, 0, 178), (111, .getfield 40, 3, 7, 3, 87), (114, .iload 5, 2, 0, 0, 0), (116, .iaload, 1, 0, 0, 0), (117, .ishl, 1, 0, 0, 0), (118, .ior, 1, 0, 0, 0), (119, .istore 4, 2, 0, 0, 0), (121, .iinc 5 1, 3, 0, 0, 0), (124, .goto (-118), 3, 0, 0, 0), (127, .iload 4, 2, 0, 0, 0), (129, .ireturn, 1, 0, 0, 0)]
def zt_X0_connect : List zE := [(0, .aload_n 0, 1, 0, 0, 0), (1, .iload_n 1, 1, 0, 0, 0), (2, .iconst 1, 1, 0, 0, 0), (3, .iconst (-1), 1, 0, 0, 0), (4, .invokevirtual 67, 3, 2, 3, 959), (7, .iload_n 2, 1, 0, 0, 0), (8, .invokestatic 63, 3, 127, 2, 956), (11, .ireturn, 1, 0, 0, 0)]
def zt_X0_groupsByWalking : List zE := [(0, .iconst 0, 1, 0, 0, 0), (1, .istore_n 1, 1, 0, 0, 0), (2, .iconst 0, 1, 0, 0, 0), (3, .istore_n 2, 1, 0, 0, 0), (4, .iconst 0, 1, 0, 0, 0), (5, .istore_n 3, 1, 0, 0, 0), (6, .iload_n 3, 1, 0, 0, 0), (7, .aload_n 0, 1, 0, 0, 0), (8, .getfield 36, 3, 4, 0, 178), (11, .getfield 70, 3, 7, 10, 105), (14, .if_icmp .ge 30, 3, 0, 0, 0), (17, .iload_n 2, 1, 0, 0, 0), (18, .iload_n 3, 1, 0, 0, 0), (19, .invokestatic 63, 3, 127, 2, 956), (22, .ifCond .ne 16, 3, 0, 0, 0), (25, .iload_n 2, 1, 0, 0, 0), (26, .aload_n 0, 1, 0, 0, 0), (27, .iload_n 3, 1, 0, 0, 0), (28, .iconst 1, 1, 0, 0, 0), (29, .iconst (-1), 1, 0, 0, 0), (30, .invokevirtual 67, 3, 2, 3, 959), (33, .ior, 1, 0, 0, 0), (34, .istore_n 2, 1, 0, 0, 0), (35, .iinc 1 1, 3, 0, 0, 0), (38, .iinc 3 1, 3, 0, 0, 0), (41, .goto (-35), 3, 0, 0, 0), (44, .iload_n 1, 1, 0, 0, 0), (45, .ireturn, 1, 0, 0, 0)]
def zt_X0_dependOn : List zE := [(0, .aload_n 0, 1, 0, 0, 0), (1, .getfield 36, 3, 4, 0, 178), (4, .iload_n 1, 1, 0, 0, 0), (5, .invokevirtual 56, 3, 58, 3, 967), (8, .ifCond .eq 37, 3, 0, 0, 0), (11, .aload_n 0, 1, 0, 0, 0), (12, .aload_n 0, 1, 0, 0, 0), (13, .getfield 36, 3, 4, 0, 178), (16, .getfield 40, 3, 7, 3, 87), (19, .iload_n 1, 1, 0, 0, 0), (20, .iaload, 1, 0, 0, 0), (21, .iconst 1, 1, 0, 0, 0), (22, .iload_n 1, 1, 0, 0, 0), (23, .invokevirtual 67, 3, 2, 3, 959), (26, .aload_n 0, 1, 0, 0, 0), (27, .getfield 36, 3, 4, 0, 178), (30, .getfield 45, 3, 7, 4, 90), (33, .iload_n 1, 1, 0, 0, 0), (34, .iaload, 1, 0, 0, 0), (35, .invokestatic 63, 3, 127, 2, 956), (38, .ifCond .ne 7, 3, 0, 0, 0), (41, .iconst 1, 1, 0, 0, 0), (42, .goto 4, 3, 0, 0, 0), (45, .iconst 0, 1, 0, 0, 0), (46, .ireturn, 1, 0, 0, 0)]
def zt_X0_bridgesByNumbering : List zE := [(0, .aload_n 0, 1, 0, 0, 0), (1, .getfield 15, 3, 4, 2, 180), (4, .iconst 0, 1, 0, 0, 0), (5, .invokestatic 80, 3, 215, 0, 976), (8, .aload_n 0, 1, 0, 0, 0), (9, .iconst 0, 1, 0, 0, 0), (10, .putfield 86, 3, 4, 10, 190), (13, .aload_n 0, 1, 0, 0, 0), (14, .iconst 0, 1, 0, 0, 0), (15, .putfield 89, 3, 4, 11, 191), (18, .iconst 0, 1, 0, 0, 0), (19, .istore_n 1, 1, 0, 0, 0), (20, .iload_n 1, 1, 0, 0, 0), (21, .aload_n 0, 1, 0, 0, 0), (22, .getfield 36, 3, 4, 0, 178), (25, .getfield 70, 3, 7, 10, 105), (28, .if_icmp .ge 25, 3, 0, 0, 0), (31, .aload_n 0, 1, 0, 0, 0), (32, .getfield 15, 3, 4, 2, 180), (35, .iload_n 1, 1, 0, 0, 0), (36, .iaload, 1, 0, 0, 0), (37, .ifCond .ne 10, 3, 0, 0, 0), (40, .aload_n 0, 1, 0, 0, 0), (41, .iload_n 1, 1, 0, 0, 0), (42, .iconst (-1), 1, 0, 0, 0), (43, .iconst 1, 1, 0, 0, 0), (44, .invokestatic 92, 3, 8, 0, 979), (47, .iinc 1 1, 3, 0, 0, 0), (50, .goto (-30), 3, 0, 0, 0), (53, .aload_n 0, 1, 0, 0, 0), (54, .getfield 89, 3, 4, 11, 191), (57, .ireturn, 1, 0, 0, 0)]
def zt_X0_walk : List zE := [(0, .iload_n 3, 1, 0, 0, 0), (1, .bipush 8, 2, 0, 0, 0), (3, .if_icmp .le 4, 3, 0, 0, 0), (6, .return_, 1, 0, 0, 0), (7, .aload_n 0, 1, 0, 0, 0), (8, .dup, 1, 0, 0, 0), (9, .getfield 86, 3, 4, 10, 190), (12, .iconst 1, 1, 0, 0, 0), (13, .iadd, 1, 0, 0, 0), (14, .putfield 86, 3, 4, 10, 190), (17, .aload_n 0, 1, 0, 0, 0), (18, .getfield 15, 3, 4, 2, 180), (21, .iload_n 1, 1, 0, 0, 0), (22, .aload_n 0, 1, 0, 0, 0), (23, .getfield 86, 3, 4, 10, 190), (26, .iastore, 1, 0, 0, 0), (27, .aload_n 0, 1, 0, 0, 0), (28, .getfield 18, 3, 4, 3, 181), (31, .iload_n 1, 1, 0, 0, 0), (32, .aload_n 0, 1, 0, 0, 0), (33, .getfield 86, 3, 4, 10, 190), (36, .iastore, 1, 0, 0, 0), (37, .iconst 0, 1, 0, 0, 0), (38, .istore 4, 2, 0, 0, 0), (40, .iload 4, 2, 0, 0, 0), (42, .aload_n 0, 1, 0, 0, 0), (43, .getfield 36, 3, 4, 0, 178), (46, .getfield 52, 3, 7, 11, 108), (49, .if_icmp .ge 142, 3, 0, 0, 0), (52, .aload_n 0, 1, 0, 0, 0), (53, .getfield 36, 3, 4, 0, 178), (56, .iload 4, 2, 0, 0, 0), (58, .iload_n 1, 1, 0, 0, 0), (59, .invokestatic 96, 3, 1, 0, 982), (62, .istore 5, 2, 0, 0, 0), (64, .iload 5, 2, 0, 0, 0), (66, .iconst (-1), 1, 0, 0, 0), (67, .if_icmp .eq 118, 3, 0, 0, 0), (70, .iload 4, 2, 0, 0, 0), (72, .iload_n 2, 1, 0, 0, 0), (73, .if_icmp .eq 112, 3, 0, 0, 0), (76, .aload_n 0, 1, 0, 0, 0), (77, .getfield 36, 3, 4, 0, 178), (80, .iload 4, 2, 0, 0, 0), (82, .invokevirtual 56, 3, 58, 3, 967), (85, .ifCond .ne 6, 3, 0, 0, 0), (88, .goto 97, 3, 0, 0, 0), (91, .aload_n 0, 1, 0, 0, 0), (92, .getfield 15, 3, 4, 2, 180), (95, .iload 5, 2, 0, 0, 0), (97, .iaload, 1, 0, 0, 0), (98, .ifCond .eq 28, 3, 0, 0, 0), (101, .aload_n 0, 1, 0, 0, 0), (102, .getfield 18, 3, 4, 3, 181), (105, .iload_n 1, 1, 0, 0, 0), (106, .aload_n 0, 1, 0, 0, 0), (107, .getfield 18, 3, 4, 3, 181), (110, .iload_n 1, 1, 0, 0, 0), (111, .iaload, 1, 0, 0, 0), (112, .aload_n 0, 1, 0, 0, 0), (113, .getfield 15, 3, 4, 2, 180), (116, .iload 5, 2, 0, 0, 0), (118, .iaload, 1, 0, 0, 0), (119, .invokestatic 100, 3, 0, 13, 985), (122, .iastore, 1, 0, 0, 0), (123, .goto 62, 3, 0, 0, 0), (126, .aload_n 0, 1, 0, 0, 0), (127, .iload 5, 2, 0, 0, 0), (129, .iload 4, 2, 0, 0, 0), (131, .iload_n 3, 1, 0, 0, 0), (132, .iconst 1, 1, 0, 0, 0), (133, .iadd, 1, 0, 0, 0), (134, .invokestatic 92, 3, 8, 0, 979), (137, .aload_n 0, 1, 0, 0, 0), (138, .getfield 18, 3, 4, 3, 181), (141, .iload_n 1, 1, 0, 0, 0), (142, .aload_n 0, 1, 0, 0, 0), (143, .getfield 18, 3, 4, 3, 181), (146, .iload_n 1, 1, 0, 0, 0), (147, .iaload, 1, 0, 0, 0), (148, .aload_n 0, 1, 0, 0, 0), (149, .getfield 18, 3, 4, 3, 181), (152, .iload 5, 2, 0, 0, 0), (154, .iaload, 1, 0, 0, 0), (155, .invokestatic 100, 3, 0, 13, 985), (158, .iastore, 1, 0, 0, 0), (159, .aload_n 0, 1, 0, 0, 0), (160, .getfield 18, 3, 4, 3, 181), (163, .iload 5, 2, 0, 0, 0), (165, .iaload, 1, 0, 0, 0), (166, .aload_n 0, 1, 0, 0, 0), (167, .getfield 15, 3, 4, 2, 180), (170, .iload_n 1, 1, 0, 0, 0), (171, .iaload, 1, 0, 0, 0), (172, .if_icmp .le 13, 3, 0, 0, 0), (175, .aload_n 0, 1, 0, 0, 0), (176, .dup, 1, 0, 0, 0), (177, .getfield 89, 3, 4, 11, 191), (180, .iconst 1, 1, 0, 0, 0), (181, .iadd, 1, 0, 0, 0), (182, .putfield 89, 3, 4, 11, 191), (185, .iinc 4 1, 3, 0, 0, 0), (188, .goto (-148), 3, 0, 0, 0), (191, .return_, 1, 0, 0, 0)]
def zt_X0_widthByGoingOn : List zE := [(0, .aload_n 0, 1, 0, 0, 0), (1, .getfield 21, 3, 4, 4, 182), (4, .iconst 0, 1, 0, 0, 0), (5, .invokestatic 80, 3, 215, 0, 976), (8, .aload_n 0, 1, 0, 0, 0), (9, .getfield 21, 3, 4, 4, 182), (12, .iload_n 1, 1, 0, 0, 0), (13, .iconst 4, 1, 0, 0, 0), (14, .iastore, 1, 0, 0, 0), (15, .iconst 0, 1, 0, 0, 0), (16, .istore_n 3, 1, 0, 0, 0), (17, .iconst 0, 1, 0, 0, 0), (18, .istore 4, 2, 0, 0, 0), (20, .iload 4, 2, 0, 0, 0), (22, .aload_n 0, 1, 0, 0, 0), (23, .getfield 36, 3, 4, 0, 178), (26, .getfield 70, 3, 7, 10, 105), (29, .if_icmp .ge 38, 3, 0, 0, 0), (32, .aload_n 0, 1, 0, 0, 0), (33, .iload_n 3, 1, 0, 0, 0), (34, .invokevirtual 106, 3, 10, 3, 1481), (37, .istore 5, 2, 0, 0, 0), (39, .iload 5, 2, 0, 0, 0), (41, .iconst (-1), 1, 0, 0, 0), (42, .if_icmp .ne 6, 3, 0, 0, 0), (45, .goto 22, 3, 0, 0, 0), (48, .iload_n 3, 1, 0, 0, 0), (49, .iconst 1, 1, 0, 0, 0), (50, .iload 5, 2, 0, 0, 0), (52, .ishl, 1, 0, 0, 0), (53, .ior, 1, 0, 0, 0), (54, .istore_n 3, 1, 0, 0, 0), (55, .aload_n 0, 1, 0, 0, 0), (56, .iload 5, 2, 0, 0, 0), (58, .invokevirtual 109, 3, 11, 3, 1485), (61, .iinc 4 1, 3, 0, 0, 0), (64, .goto (-44), 3, 0, 0, 0), (67, .aload_n 0, 1, 0, 0, 0), (68, .getfield 21, 3, 4, 4, 182), (71, .iload_n 2, 1, 0, 0, 0), (72, .iaload, 1, 0, 0, 0), (73, .ireturn, 1, 0, 0, 0)]
def zt_X0_mostWidelyReached : List zE := [(0, .iconst (-1), 1, 0, 0, 0), (1, .istore_n 2, 1, 0, 0, 0), (2, .iconst 0, 1, 0, 0, 0), (3, .istore_n 3, 1, 0, 0, 0), (4, .iload_n 3, 1, 0, 0, 0), (5, .aload_n 0, 1, 0, 0, 0), (6, .getfield 36, 3, 4, 0, 178), (9, .getfield 70, 3, 7, 10, 105), (12, .if_icmp .ge 43, 3, 0, 0, 0), (15, .iload_n 1, 1, 0, 0, 0), (16, .iload_n 3, 1, 0, 0, 0), (17, .invokestatic 63, 3, 127, 2, 956), (20, .ifCond .ne 29, 3, 0, 0, 0), (23, .aload_n 0, 1, 0, 0, 0), (24, .getfield 21, 3, 4, 4, 182), (27, .iload_n 3, 1, 0, 0, 0), (28, .iaload, 1, 0, 0, 0), (29, .iload_n 2, 1, 0, 0, 0), (30, .iconst (-1), 1, 0, 0, 0), (31, .if_icmp .ne 7, 3, 0, 0, 0), (34, .iconst 0, 1, 0, 0, 0), (35, .goto 9, 3, 0, 0, 0), (38, .aload_n 0, 1, 0, 0, 0), (39, .getfield 21, 3, 4, 4, 182), (42, .iload_n 2, 1, 0, 0, 0), (43, .iaload, 1, 0, 0, 0), (44, .if_icmp .le 5, 3, 0, 0, 0), (47, .iload_n 3, 1, 0, 0, 0), (48, .istore_n 2, 1, 0, 0, 0), (49, .iinc 3 1, 3, 0, 0, 0), (52, .goto (-48), 3, 0, 0, 0), (55, .iload_n 2, 1, 0, 0, 0), (56, .ireturn, 1, 0, 0, 0)]
def zt_X0_widenFrom : List zE := [(0, .iconst 0, 1, 0, 0, 0), (1, .istore_n 2, 1, 0, 0, 0), (2, .iload_n 2, 1, 0, 0, 0), (3, .aload_n 0, 1, 0, 0, 0), (4, .getfield 36, 3, 4, 0, 178), (7, .getfield 52, 3, 7, 11, 108), (10, .if_icmp .ge 68, 3, 0, 0, 0), (13, .aload_n 0, 1, 0, 0, 0), (14, .getfield 36, 3, 4, 0, 178), (17, .iload_n 2, 1, 0, 0, 0), (18, .iload_n 1, 1, 0, 0, 0), (19, .invokestatic 96, 3, 1, 0, 982), (22, .istore_n 3, 1, 0, 0, 0), (23, .iload_n 3, 1, 0, 0, 0), (24, .iconst (-1), 1, 0, 0, 0), (25, .if_icmp .eq 47, 3, 0, 0, 0), (28, .aload_n 0, 1, 0, 0, 0), (29, .getfield 36, 3, 4, 0, 178), (32, .iload_n 2, 1, 0, 0, 0), (33, .invokevirtual 56, 3, 58, 3, 967), (36, .ifCond .eq 36, 3, 0, 0, 0), (39, .aload_n 0, 1, 0, 0, 0), (40, .getfield 21, 3, 4, 4, 182), (43, .iload_n 3, 1, 0, 0, 0), (44, .aload_n 0, 1, 0, 0, 0), (45, .getfield 21, 3, 4, 4, 182), (48, .iload_n 3, 1, 0, 0, 0), (49, .iaload, 1, 0, 0, 0), (50, .aload_n 0, 1, 0, 0, 0), (51, .getfield 21, 3, 4, 4, 182), (54, .iload_n 1, 1, 0, 0, 0), (55, .iaload, 1, 0, 0, 0), (56, .aload_n 0, 1, 0, 0, 0), (57, .getfield 36, 3, 4, 0, 178), (60, .getfield 60, 3, 7, 6, 96), (63, .iload_n 2, 1, 0, 0, 0), (64, .iaload, 1, 0, 0, 0), (65, .invokestatic 100, 3, 0, 13, 985), (68, .invokestatic 113, 3, 1, 13, 1489), (71, .iastore, 1, 0, 0, 0), (72, .iinc 2 1, 3, 0, 0, 0), (75, .goto (-73), 3, 0, 0, 0), (78, .return_, 1, 0, 0, 0)]
def zt_X0_widthByTrying : List zE := [(0, .iconst 4, 1, 0, 0, 0), (1, .istore_n 3, 1, 0, 0, 0), (2, .iload_n 3, 1, 0, 0, 0), (3, .ifCond .le 25, 3, 0, 0, 0), (6, .aload_n 0, 1, 0, 0, 0), (7, .iload_n 1, 1, 0, 0, 0), (8, .iload_n 3, 1, 0, 0, 0), (9, .iconst (-1), 1, 0, 0, 0), (10, .invokevirtual 67, 3, 2, 3, 959), (13, .iload_n 2, 1, 0, 0, 0), (14, .invokestatic 63, 3, 127, 2, 956), (17, .ifCond .eq 5, 3, 0, 0, 0), (20, .iload_n 3, 1, 0, 0, 0), (21, .ireturn, 1, 0, 0, 0), (22, .iinc 3 (-1), 3, 0, 0, 0), (25, .goto (-23), 3, 0, 0, 0), (28, .iconst 0, 1, 0, 0, 0), (29, .ireturn, 1, 0, 0, 0)]
def zt_X0_search : List zE := [(0, .aload_n 0, 1, 0, 0, 0), (1, .getfield 24, 3, 4, 5, 183), (4, .iconst (-1), 1, 0, 0, 0), (5, .invokestatic 80, 3, 215, 0, 976), (8, .aload_n 0, 1, 0, 0, 0), (9, .getfield 30, 3, 4, 7, 187), (12, .iconst 0, 1, 0, 0, 0), (13, .invokestatic 80, 3, 215, 0, 976), (16, .aload_n 0, 1, 0, 0, 0), (17, .iconst 0, 1, 0, 0, 0), (18, .putfield 116, 3, 4, 9, 189), (21, .aload_n 0, 1, 0, 0, 0), (22, .iload_n 1, 1, 0, 0, 0), (23, .aload_n 0, 1, 0, 0, 0), (24, .getfield 36, 3, 4, 0, 178), (27, .getfield 119, 3, 7, 2, 85), (30, .iload_n 1, 1, 0, 0, 0), (31, .iaload, 1, 0, 0, 0), (32, .invokevirtual 122, 3, 14, 3, 1037), (35, .iconst 0, 1, 0, 0, 0), (36, .istore_n 2, 1, 0, 0, 0), (37, .iload_n 2, 1, 0, 0, 0), (38, .aload_n 0, 1, 0, 0, 0), (39, .getfield 116, 3, 4, 9, 189), (42, .if_icmp .ge 113, 3, 0, 0, 0), (45, .iload_n 2, 1, 0, 0, 0), (46, .aload_n 0, 1, 0, 0, 0), (47, .getfield 33, 3, 4, 8, 188), (50, .arraylength, 1, 0, 0, 0), (51, .if_icmp .ge 104, 3, 0, 0, 0), (54, .aload_n 0, 1, 0, 0, 0), (55, .getfield 33, 3, 4, 8, 188), (58, .iload_n 2, 1, 0, 0, 0), (59, .iaload, 1, 0, 0, 0), (60, .sipush 256, 3, 0, 0, 0), (63, .idiv, 1, 0, 0, 0), (64, .istore_n 3, 1, 0, 0, 0), (65, .aload_n 0, 1, 0, 0, 0), (66, .getfield 33, 3, 4, 8, 188), (69, .iload_n 2, 1, 0, 0, 0), (70, .iaload, 1, 0, 0, 0), (71, .sipush 256, 3, 0, 0, 0), (74, .irem, 1, 0, 0, 0), (75, .istore 4, 2, 0, 0, 0), (77, .iconst 0, 1, 0, 0, 0), (78, .istore 5, 2, 0, 0, 0), (80, .iload 5, 2, 0, 0, 0), (82, .aload_n 0, 1, 0, 0, 0), (83, .getfield 36, 3, 4, 0, 178), (86, .getfield 52, 3, 7, 11, 108), (89, .if_icmp .ge 60, 3, 0, 0, 0), (92, .aload_n 0, 1, 0, 0, 0), (93, .getfield 36, 3, 4, 0, 178), (96, .iload 5, 2, 0, 0, 0), (98, .iload_n 3, 1, 0, 0, 0), (99, .invokestatic 96, 3, 1, 0, 982), (102, .istore 6, 2, 0, 0, 0), (104, .iload 6, 2, 0, 0, 0), (106, .iconst (-1), 1, 0, 0, 0), (107, .if_icmp .eq 36, 3, 0, 0, 0), (110, .aload_n 0, 1, 0, 0, 0), (111, .getfield 36, 3, 4, 0, 178), (114, .iload 5, 2, 0, 0, 0), (116, .invokevirtual 56, 3, 58, 3, 967), (119, .ifCond .eq 24, 3, 0, 0, 0), (122, .aload_n 0, 1, 0, 0, 0), (123, .iload 6, 2, 0, 0, 0), (125, .iload 4, 2, 0, 0, 0), (127, .aload_n 0, 1, 0, 0, 0), (128, .getfield 36, 3, 4, 0, 178), (131, .getfield 126, 3, 7, 5, 93), (134, .iload 5, 2, 0, 0, 0), (136, .iaload, 1, 0, 0, 0), (137, .iconst (-1), 1, 0, 0, 0), (138, .ixor, 1, 0, 0, 0), (139, .iand, 1, 0, 0, 0), (140, .invokevirtual 122, 3, 14, 3, 1037), (143, .iinc 5 1, 3, 0, 0, 0), (146, .goto (-66), 3, 0, 0, 0), (149, .iinc 2 1, 3, 0, 0, 0), (152, .goto (-115), 3, 0, 0, 0), (155, .return_, 1, 0, 0, 0)]
def zt_X0_arrive : List zE := [(0, .aload_n 0, 1, 0, 0, 0), (1, .getfield 30, 3, 4, 7, 187), (4, .iload_n 2, 1, 0, 0, 0), (5, .iaload, 1, 0, 0, 0), (6, .iload_n 1, 1, 0, 0, 0), (7, .invokestatic 63, 3, 127, 2, 956), (10, .ifCond .ne 15, 3, 0, 0, 0), (13, .aload_n 0, 1, 0, 0, 0), (14, .getfield 116, 3, 4, 9, 189), (17, .aload_n 0, 1, 0, 0, 0), (18, .getfield 33, 3, 4, 8, 188), (21, .arraylength, 1, 0, 0, 0), (22, .if_icmp .lt 4, 3, 0, 0, 0), (25, .return_, 1, 0, 0, 0), (26, .aload_n 0, 1, 0, 0, 0), (27, .getfield 30, 3, 4, 7, 187), (30, .iload_n 2, 1, 0, 0, 0), (31, .dup2, 1, 0, 0, 0), (32, .iaload, 1, 0, 0, 0), (33, .iconst 1, 1, 0, 0, 0), (34, .iload_n 1, 1, 0, 0, 0), (35, .ishl, 1, 0, 0, 0), (36, .ior, 1, 0, 0, 0), (37, .iastore, 1, 0, 0, 0), (38, .aload_n 0, 1, 0, 0, 0), (39, .getfield 33, 3, 4, 8, 188), (42, .aload_n 0, 1, 0, 0, 0), (43, .getfield 116, 3, 4, 9, 189), (46, .iload_n 1, 1, 0, 0, 0), (47, .sipush 256, 3, 0, 0, 0), (50, .imul, 1, 0, 0, 0), (51, .iload_n 2, 1, 0, 0, 0), (52, .iadd, 1, 0, 0, 0), (53, .iastore, 1, 0, 0, 0), (54, .aload_n 0, 1, 0, 0, 0), (55, .dup, 1, 0, 0, 0), (56, .getfield 116, 3, 4, 9, 189), (59, .iconst 1, 1, 0, 0, 0), (60, .iadd, 1, 0, 0, 0), (61, .putfield 116, 3, 4, 9, 189), (64, .iload_n 2, 1, 0, 0, 0), (65, .invokestatic 129, 3, 194, 0, 1041), (68, .istore_n 3, 1, 0, 0, 0), (69, .aload_n 0, 1, 0, 0, 0), (70, .getfield 24, 3, 4, 5, 183), (73, .iload_n 1, 1, 0, 0, 0), (74, .iaload, 1, 0, 0, 0), (75, .iconst (-1), 1, 0, 0, 0), (76, .if_icmp .eq 13, 3, 0, 0, 0), (79, .iload_n 3, 1, 0, 0, 0), (80, .aload_n 0, 1, 0, 0, 0), (81, .getfield 24, 3, 4, 5, 183), (84, .iload_n 1, 1, 0, 0, 0), (85, .iaload, 1, 0, 0, 0), (86, .if_icmp .ge 10, 3, 0, 0, 0), (89, .aload_n 0, 1, 0, 0, 0), (90, .getfield 24, 3, 4, 5, 183), (93, .iload_n 1, 1, 0, 0, 0), (94, .iload_n 3, 1, 0, 0, 0), (95, .iastore, 1, 0, 0, 0), (96, .return_, 1, 0, 0, 0)]
def zt_X0_passUntilNothingIsNew : List zE := [(0, .aload_n 0, 1, 0, 0, 0), (1, .getfield 30, 3, 4, 7, 187), (4, .iconst 0, 1, 0, 0, 0), (5, .invokestatic 80, 3, 215, 0, 976), (8, .aload_n 0, 1, 0, 0, 0), (9, .getfield 30, 3, 4, 7, 187), (12, .aload_n 0, 1, 0, 0, 0), (13, .getfield 36, 3, 4, 0, 178), (16, .getfield 119, 3, 7, 2, 85), (19, .iload_n 1, 1, 0, 0, 0), (20, .iaload, 1, 0, 0, 0), (21, .iconst 1, 1, 0, 0, 0), (22, .iload_n 1, 1, 0, 0, 0), (23, .ishl, 1, 0, 0, 0), (24, .iastore, 1, 0, 0, 0), (25, .iconst 1, 1, 0, 0, 0), (26, .istore_n 2, 1, 0, 0, 0), (27, .iconst 0, 1, 0, 0, 0), (28, .istore_n 3, 1, 0, 0, 0), (29, .iload_n 2, 1, 0, 0, 0), (30, .ifCond .eq 21, 3, 0, 0, 0), (33, .iload_n 3, 1, 0, 0, 0), (34, .sipush 2049, 3, 0, 0, 0), (37, .if_icmp .ge 14, 3, 0, 0, 0), (40, .aload_n 0, 1, 0, 0, 0), (41, .invokevirtual 134, 3, 16, 3, 1417), (44, .istore_n 2, 1, 0, 0, 0), (45, .iinc 3 1, 3, 0, 0, 0), (48, .goto (-19), 3, 0, 0, 0), (51, .iconst 0, 1, 0, 0, 0), (52, .istore_n 3, 1, 0, 0, 0), (53, .iload_n 3, 1, 0, 0, 0), (54, .bipush 8, 2, 0, 0, 0), (56, .if_icmp .ge 20, 3, 0, 0, 0), (59, .aload_n 0, 1, 0, 0, 0), (60, .getfield 27, 3, 4, 6, 185), (63, .iload_n 3, 1, 0, 0, 0), (64, .aload_n 0, 1, 0, 0, 0), (65, .iload_n 3, 1, 0, 0, 0), (66, .invokevirtual 138, 3, 18, 3, 1425), (69, .iastore, 1, 0, 0, 0), (70, .iinc 3 1, 3, 0, 0, 0), (73, .goto (-20), 3, 0, 0, 0), (76, .return_, 1, 0, 0, 0)]
def zt_X0_passReachesNew : List zE := [(0, .iconst 0, 1, 0, 0, 0), (1, .istore_n 1, 1, 0, 0, 0), (2, .sipush 255, 3, 0, 0, 0), (5, .istore_n 2, 1, 0, 0, 0), (6, .iload_n 2, 1, 0, 0, 0), (7, .ifCond .lt 120, 3, 0, 0, 0), (10, .aload_n 0, 1, 0, 0, 0), (11, .getfield 30, 3, 4, 7, 187), (14, .iload_n 2, 1, 0, 0, 0), (15, .iaload, 1, 0, 0, 0), (16, .ifCond .ne 6, 3, 0, 0, 0), (19, .goto 102, 3, 0, 0, 0), (22, .iconst 0, 1, 0, 0, 0), (23, .istore_n 3, 1, 0, 0, 0), (24, .iload_n 3, 1, 0, 0, 0), (25, .aload_n 0, 1, 0, 0, 0), (26, .getfield 36, 3, 4, 0, 178), (29, .getfield 52, 3, 7, 11, 108), (32, .if_icmp .ge 89, 3, 0, 0, 0), (35, .aload_n 0, 1, 0, 0, 0), (36, .getfield 36, 3, 4, 0, 178), (39, .iload_n 3, 1, 0, 0, 0), (40, .invokevirtual 56, 3, 58, 3, 967), (43, .ifCond .eq 32, 3, 0, 0, 0), (46, .aload_n 0, 1, 0, 0, 0), (47, .iload_n 2, 1, 0, 0, 0), (48, .aload_n 0, 1, 0, 0, 0), (49, .getfield 36, 3, 4, 0, 178), (52, .getfield 40, 3, 7, 3, 87), (55, .iload_n 3, 1, 0, 0, 0), (56, .iaload, 1, 0, 0, 0), (57, .aload_n 0, 1, 0, 0, 0), (58, .getfield 36, 3, 4, 0, 178), (61, .getfield 45, 3, 7, 4, 90), (64, .iload_n 3, 1, 0, 0, 0), (65, .iaload, 1, 0, 0, 0), (66, .iload_n 3, 1, 0, 0, 0), (67, .invokevirtual 141, 3, 17, 3, 1421), (70, .ifCond .eq 5, 3, 0, 0, 0), (73, .iconst 1, 1, 0, 0, 0), (74, .istore_n 1, 1, 0, 0, 0), (75, .aload_n 0, 1, 0, 0, 0), (76, .getfield 36, 3, 4, 0, 178), (79, .iload_n 3, 1, 0, 0, 0), (80, .invokevirtual 56, 3, 58, 3, 967), (83, .ifCond .eq 32, 3, 0, 0, 0), (86, .aload_n 0, 1, 0, 0, 0), (87, .iload_n 2, 1, 0, 0, 0), (88, .aload_n 0, 1, 0, 0, 0), (89, .getfield 36, 3, 4, 0, 178), (92, .getfield 45, 3, 7, 4, 90), (95, .iload_n 3, 1, 0, 0, 0), (96, .iaload, 1, 0, 0, 0), (97, .aload_n 0, 1, 0, 0, 0), (98, .getfield 36, 3, 4, 0, 178), (101, .getfield 40, 3, 7, 3, 87), (104, .iload_n 3, 1, 0, 0, 0), (105, .iaload, 1, 0, 0, 0), (106, .iload_n 3, 1, 0, 0, 0), (107, .invokevirtual 141, 3, 17, 3, 1421), (110, .ifCond .eq 5, 3, 0, 0, 0), (113, .iconst 1, 1, 0, 0, 0), (114, .istore_n 1, 1, 0, 0, 0), (115, .iinc 3 1, 3, 0, 0, 0), (118, .goto (-94), 3, 0, 0, 0), (121, .iinc 2 (-1), 3, 0, 0, 0), (124, .goto (-118), 3, 0, 0, 0), (127, .iload_n 1, 1, 0, 0, 0), (128, .ireturn, 1, 0, 0, 0)]
def zt_X0_carriesNew : List zE := [(0, .iload_n 1, 1, 0, 0, 0), (1, .aload_n 0, 1, 0, 0, 0), (2, .getfield 36, 3, 4, 0, 178), (5, .getfield 126, 3, 7, 5, 93), (8, .iload 4, 2, 0, 0, 0), (10, .iaload, 1, 0, 0, 0), (11, .iconst (-1), 1, 0, 0, 0), (12, .ixor, 1, 0, 0, 0), (13, .iand, 1, 0, 0, 0), (14, .istore 5, 2, 0, 0, 0), (16, .aload_n 0, 1, 0, 0, 0), (17, .getfield 30, 3, 4, 7, 187), (20, .iload_n 1, 1, 0, 0, 0), (21, .iaload, 1, 0, 0, 0), (22, .iload_n 2, 1, 0, 0, 0), (23, .invokestatic 63, 3, 127, 2, 956), (26, .ifCond .eq 17, 3, 0, 0, 0), (29, .aload_n 0, 1, 0, 0, 0), (30, .getfield 30, 3, 4, 7, 187), (33, .iload 5, 2, 0, 0, 0), (35, .iaload, 1, 0, 0, 0), (36, .iload_n 3, 1, 0, 0, 0), (37, .invokestatic 63, 3, 127, 2, 956), (40, .ifCond .eq 5, 3, 0, 0, 0), (43, .iconst 0, 1, 0, 0, 0), (44, .ireturn, 1, 0, 0, 0), (45, .aload_n 0, 1, 0, 0, 0), (46, .getfield 30, 3, 4, 7, 187), (49, .iload 5, 2, 0, 0, 0), (51, .dup2, 1, 0, 0, 0), (52, .iaload, 1, 0, 0, 0), (53, .iconst 1, 1, 0, 0, 0), (54, .iload_n 3, 1, 0, 0, 0), (55, .ishl, 1, 0, 0, 0), (56, .ior, 1, 0, 0, 0), (57, .iastore, 1, 0, 0, 0), (58, .iconst 1, 1, 0, 0, 0), (59, .ireturn, 1, 0, 0, 0)]
def zt_X0_fewestLeftIn : List zE := [(0, .iconst (-1), 1, 0, 0, 0), (1, .istore_n 2, 1, 0, 0, 0), (2, .iconst 0, 1, 0, 0, 0), (3, .istore_n 3, 1, 0, 0, 0), (4, .iload_n 3, 1, 0, 0, 0), (5, .sipush 256, 3, 0, 0, 0), (8, .if_icmp .ge 42, 3, 0, 0, 0), (11, .iload_n 3, 1, 0, 0, 0), (12, .invokestatic 129, 3, 194, 0, 1041), (15, .istore 4, 2, 0, 0, 0), (17, .aload_n 0, 1, 0, 0, 0), (18, .getfield 30, 3, 4, 7, 187), (21, .iload_n 3, 1, 0, 0, 0), (22, .iaload, 1, 0, 0, 0), (23, .iload_n 1, 1, 0, 0, 0), (24, .invokestatic 63, 3, 127, 2, 956), (27, .ifCond .eq 17, 3, 0, 0, 0), (30, .iload_n 2, 1, 0, 0, 0), (31, .iconst (-1), 1, 0, 0, 0), (32, .if_icmp .eq 9, 3, 0, 0, 0), (35, .iload 4, 2, 0, 0, 0), (37, .iload_n 2, 1, 0, 0, 0), (38, .if_icmp .ge 6, 3, 0, 0, 0), (41, .iload 4, 2, 0, 0, 0), (43, .istore_n 2, 1, 0, 0, 0), (44, .iinc 3 1, 3, 0, 0, 0), (47, .goto (-43), 3, 0, 0, 0), (50, .iload_n 2, 1, 0, 0, 0), (51, .ireturn, 1, 0, 0, 0)]
def zt_X1_init : List zE := [(0, .aload_n 0, 1, 0, 0, 0), (1, .invokespecial 3, 3, 0, 7, 157), (4, .aload_n 0, 1, 0, 0, 0), (5, .bipush 8, 2, 0, 0, 0), (7, .anewarray 9, 3, 104, 0, 158), (10, .putfield 11, 3, 5, 0, 161), (13, .iconst 0, 1, 0, 0, 0), (14, .istore_n 1, 1, 0, 0, 0), (15, .iload_n 1, 1, 0, 0, 0), (16, .bipush 8, 2, 0, 0, 0), (18, .if_icmp .ge 22, 3, 0, 0, 0), (21, .aload_n 0, 1, 0, 0, 0), (22, .getfield 11, 3, 5, 0, 161), (25, .iload_n 1, 1, 0, 0, 0), (26, .new 9, 3, 7, 0, 158), (29, .dup, 1, 0, 0, 0), (30, .invokespecial 17, 3, 38, 6, 160), (33, .aastore, 1, 0, 0, 0), (34, .iinc 1 1, 3, 0, 0, 0), (37, .goto (-22), 3, 0, 0, 0), (40, .return_, 1, 0, 0, 0)]
def zt_X1_keep : List zE := [(0, .aload_n 0, 1, 0, 0, 0), (1, .getfield 11, 3, 5, 0, 161), (4, .aload_n 0, 1, 0, 0, 0), (5, .getfield 18, 3, 5, 1, 162), (8, .aaload, 1, 0, 0, 0), (9, .aload_n 1, 1, 0, 0, 0), (10, .invokevirtual 22, 3, 39, 3, 522), (13, .aload_n 0, 1, 0, 0, 0), (14, .aload_n 0, 1, 0, 0, 0), (15, .getfield 18, 3, 5, 1, 162), (18, .bipush 7, 2, 0, 0, 0), (20, .if_icmp .ge 12, 3, 0, 0, 0), (23, .aload_n 0, 1, 0, 0, 0), (24, .getfield 18, 3, 5, 1, 162), (27, .iconst 1, 1, 0, 0, 0), (28, .iadd, 1, 0, 0, 0), (29, .goto 4, 3, 0, 0, 0), (32, .iconst 0, 1, 0, 0, 0), (33, .putfield 18, 3, 5, 1, 162), (36, .aload_n 0, 1, 0, 0, 0), (37, .aload_n 0, 1, 0, 0, 0), (38, .getfield 26, 3, 5, 2, 163), (41, .iconst 1, 1, 0, 0, 0), (42, .iadd, 1, 0, 0, 0), (43, .bipush 8, 2, 0, 0, 0), (45, .invokestatic 29, 3, 0, 13, 523), (48, .putfield 26, 3, 5, 2, 163), (51, .return_, 1, 0, 0, 0)]
def zt_X1_takeBack : List zE := [(0, .aload_n 0, 1, 0, 0, 0), (1, .aload_n 0, 1, 0, 0, 0), (2, .getfield 18, 3, 5, 1, 162), (5, .ifCond .le 12, 3, 0, 0, 0), (8, .aload_n 0, 1, 0, 0, 0), (9, .getfield 18, 3, 5, 1, 162), (12, .iconst 1, 1, 0, 0, 0), (13, .isub, 1, 0, 0, 0), (14, .goto 5, 3, 0, 0, 0), (17, .bipush 7, 2, 0, 0, 0), (19, .putfield 18, 3, 5, 1, 162), (22, .aload_n 0, 1, 0, 0, 0), (23, .dup, 1, 0, 0, 0), (24, .getfield 26, 3, 5, 2, 163), (27, .iconst 1, 1, 0, 0, 0), (28, .isub, 1, 0, 0, 0), (29, .putfield 26, 3, 5, 2, 163), (32, .aload_n 1, 1, 0, 0, 0), (33, .aload_n 0, 1, 0, 0, 0), (34, .getfield 11, 3, 5, 0, 161), (37, .aload_n 0, 1, 0, 0, 0), (38, .getfield 18, 3, 5, 1, 162), (41, .aaload, 1, 0, 0, 0), (42, .invokevirtual 22, 3, 39, 3, 522), (45, .return_, 1, 0, 0, 0)]
def zt_X2_init : List zE := [(0, .aload_n 0, 1, 0, 0, 0), (1, .invokespecial 3, 3, 0, 7, 222), (4, .aload_n 0, 1, 0, 0, 0), (5, .bipush 60, 2, 0, 0, 0), (7, .newarray .char, 2, 102, 0, 245), (9, .putfield 9, 3, 6, 0, 223), (12, .aload_n 0, 1, 0, 0, 0), (13, .bipush 12, 2, 0, 0, 0), (15, .newarray .int, 2, 100, 0, 151), (17, .putfield 15, 3, 6, 1, 224), (20, .aload_n 0, 1, 0, 0, 0), (21, .bipush 36, 2, 0, 0, 0), (23, .newarray .int, 2, 100, 0, 151), (25, .putfield 19, 3, 6, 2, 226), (28, .return_, 1, 0, 0, 0)]
def zt_X2_isFull : List zE := [(0, .aload_n 0, 1, 0, 0, 0), (1, .getfield 22, 3, 6, 3, 227), (4, .bipush 60, 2, 0, 0, 0), (6, .if_icmp .lt 7, 3, 0, 0, 0), (9, .iconst 1, 1, 0, 0, 0), (10, .goto 4, 3, 0, 0, 0), (13, .iconst 0, 1, 0, 0, 0), (14, .ireturn, 1, 0, 0, 0)]
def zt_X2_append : List zE := [(0, .aload_n 0, 1, 0, 0, 0), (1, .getfield 9, 3, 6, 0, 223), (4, .aload_n 0, 1, 0, 0, 0), (5, .getfield 22, 3, 6, 3, 227), (8, .iload_n 1, 1, 0, 0, 0), (9, .castore, 1, 0, 0, 0), (10, .aload_n 0, 1, 0, 0, 0), (11, .dup, 1, 0, 0, 0), (12, .getfield 22, 3, 6, 3, 227), (15, .iconst 1, 1, 0, 0, 0), (16, .iadd, 1, 0, 0, 0), (17, .putfield 22, 3, 6, 3, 227), (20, .aload_n 0, 1, 0, 0, 0), (21, .getfield 22, 3, 6, 3, 227), (24, .ireturn, 1, 0, 0, 0)]
def zt_X2_empty : List zE := [(0, .aload_n 0, 1, 0, 0, 0), (1, .iconst 0, 1, 0, 0, 0), (2, .putfield 22, 3, 6, 3, 227), (5, .return_, 1, 0, 0, 0)]
def zt_X2_argument : List zE := [(0, .aload_n 0, 1, 0, 0, 0), (1, .getfield 19, 3, 6, 2, 226), (4, .iload_n 1, 1, 0, 0, 0), (5, .iconst 3, 1, 0, 0, 0), (6, .imul, 1, 0, 0, 0), (7, .iload_n 2, 1, 0, 0, 0), (8, .iadd, 1, 0, 0, 0), (9, .iaload, 1, 0, 0, 0), (10, .ireturn, 1, 0, 0, 0)]
def zt_X2_wordOf : List zE := [(0, .iload_n 0, 1, 0, 0, 0), (1, .tableswitch 64 0 6 #[43, 46, 49, 52, 55, 58, 61], 43, 0, 0, 0), (44, .ldc 26, 2, 2, 19, 0), (46, .areturn, 1, 0, 0, 0), (47, .ldc 28, 2, 2, 20, 0), (49, .areturn, 1, 0, 0, 0), (50, .ldc 30, 2, 2, 21, 0), (52, .areturn, 1, 0, 0, 0), (53, .ldc 32, 2, 2, 22, 0), (55, .areturn, 1, 0, 0, 0), (56, .ldc 34, 2, 2, 23, 0), (58, .areturn, 1, 0, 0, 0), (59, .ldc 36, 2, 2, 24, 0), (61, .areturn, 1, 0, 0, 0), (62, .ldc 38, 2, 2, 25, 0), (64, .areturn, 1, 0, 0, 0), (65, .ldc 40, 2, 2, 26, 0), (67, .areturn, 1, 0, 0, 0)]
def zt_X2_formOf : List zE := [(0, .iload_n 0, 1, 0, 0, 0), (1, .tableswitch 58 1 7 #[43, 46, 49, 52, 52, 58, 55], 43, 0, 0, 0), (44, .ldc 42, 2, 2, 27, 0), (46, .areturn, 1, 0, 0, 0), (47, .ldc 44, 2, 2, 28, 0), (49, .areturn, 1, 0, 0, 0), (50, .ldc 46, 2, 2, 29, 0), (52, .areturn, 1, 0, 0, 0), (53, .ldc 48, 2, 2, 30, 0), (55, .areturn, 1, 0, 0, 0), (56, .ldc 50, 2, 2, 31, 0), (58, .areturn, 1, 0, 0, 0), (59, .ldc 52, 2, 2, 32, 0), (61, .areturn, 1, 0, 0, 0)]
def zt_X2_read : List zE := [(0, .aload_n 0, 1, 0, 0, 0), (1, .iconst 0, 1, 0, 0, 0), (2, .putfield 54, 3, 6, 5, 230), (5, .aload_n 0, 1, 0, 0, 0), (6, .iconst 0, 1, 0, 0, 0), (7, .putfield 57, 3, 6, 4, 228), (10, .aload_n 0, 1, 0, 0, 0), (11, .getfield 57, 3, 6, 4, 228), (14, .bipush 12, 2, 0, 0, 0), (16, .if_icmp .ge 46, 3, 0, 0, 0), (19, .aload_n 0, 1, 0, 0, 0), (20, .invokevirtual 60, 3, 32, 3, 718), (23, .ifCond .ne 5, 3, 0, 0, 0), (26, .iconst 0, 1, 0, 0, 0), (27, .ireturn, 1, 0, 0, 0), (28, .aload_n 0, 1, 0, 0, 0), (29, .dup, 1, 0, 0, 0), (30, .getfield 57, 3, 6, 4, 228), (33, .iconst 1, 1, 0, 0, 0), (34, .iadd, 1, 0, 0, 0), (35, .putfield 57, 3, 6, 4, 228), (38, .aload_n 0, 1, 0, 0, 0), (39, .getfield 54, 3, 6, 5, 230), (42, .aload_n 0, 1, 0, 0, 0), (43, .getfield 22, 3, 6, 3, 227), (46, .if_icmp .ne 5, 3, 0, 0, 0), (49, .iconst 1, 1, 0, 0, 0), (50, .ireturn, 1, 0, 0, 0), (51, .aload_n 0, 1, 0, 0, 0), (52, .bipush 59, 2, 0, 0, 0), (54, .invokevirtual 64, 3, 31, 3, 801), (57, .ifCond .ne (-47), 3, 0, 0, 0), (60, .iconst 0, 1, 0, 0, 0), (61, .ireturn, 1, 0, 0, 0), (62, .iconst 0, 1, 0, 0, 0), (63, .ireturn, 1, 0, 0, 0)]
def zt_X2_isNext : List zE := [(0, .aload_n 0, 1, 0, 0, 0), (1, .getfield 54, 3, 6, 5, 230), (4, .aload_n 0, 1, 0, 0, 0), (5, .getfield 22, 3, 6, 3, 227), (8, .if_icmp .ge 33, 3, 0, 0, 0), (11, .aload_n 0, 1, 0, 0, 0), (12, .getfield 9, 3, 6, 0, 223), (15, .aload_n 0, 1, 0, 0, 0), (16, .getfield 54, 3, 6, 5, 230), (19, .caload, 1, 0, 0, 0), (20, .iload_n 1, 1, 0, 0, 0), (21, .if_icmp .lt 20, 3, 0, 0, 0), (24, .aload_n 0, 1, 0, 0, 0), (25, .getfield 9, 3, 6, 0, 223), (28, .aload_n 0, 1, 0, 0, 0), (29, .getfield 54, 3, 6, 5, 230), (32, .caload, 1, 0, 0, 0), (33, .iload_n 2, 1, 0, 0, 0), (34, .if_icmp .gt 7, 3, 0, 0, 0), (37, .iconst 1, 1, 0, 0, 0), (38, .goto 4, 3, 0, 0, 0), (41, .iconst 0, 1, 0, 0, 0), (42, .ireturn, 1, 0, 0, 0)]
def zt_X2_skip : List zE := [(0, .aload_n 0, 1, 0, 0, 0), (1, .iload_n 1, 1, 0, 0, 0), (2, .iload_n 1, 1, 0, 0, 0), (3, .invokevirtual 68, 3, 30, 3, 805), (6, .ifCond .ne 5, 3, 0, 0, 0), (9, .iconst 0, 1, 0, 0, 0), (10, .ireturn, 1, 0, 0, 0), (11, .aload_n 0, 1, 0, 0, 0), (12, .dup, 1, 0, 0, 0), (13, .getfield 54, 3, 6, 5, 230), (16, .iconst 1, 1, 0, 0, 0), (17, .iadd, 1, 0, 0, 0), (18, .putfield 54, 3, 6, 5, 230), (21, .iconst 1, 1, 0, 0, 0), (22, .ireturn, 1, 0, 0, 0)]
def zt_X2_readCommand : List zE := [(0, .aload_n 0, 1, 0, 0, 0), (1, .invokevirtual 72, 3, 33, 3, 722), (4, .istore_n 1, 1, 0, 0, 0), (5, .iload_n 1, 1, 0, 0, 0), (6, .iconst (-1), 1, 0, 0, 0), (7, .if_icmp .ne 5, 3, 0, 0, 0), (10, .iconst 0, 1, 0, 0, 0), (11, .ireturn, 1, 0, 0, 0), (12, .aload_n 0, 1, 0, 0, 0), (13, .getfield 15, 3, 6, 1, 224), (16, .aload_n 0, 1, 0, 0, 0), (17, .getfield 57, 3, 6, 4, 228), (20, .iload_n 1, 1, 0, 0, 0), (21, .iastore, 1, 0, 0, 0), (22, .iload_n 1, 1, 0, 0, 0), (23, .invokestatic 76, 3, 28, 0, 792), (26, .astore_n 2, 1, 0, 0, 0), (27, .aload_n 0, 1, 0, 0, 0), (28, .getfield 57, 3, 6, 4, 228), (31, .iconst 3, 1, 0, 0, 0), (32, .imul, 1, 0, 0, 0), (33, .istore_n 3, 1, 0, 0, 0), (34, .iconst 0, 1, 0, 0, 0), (35, .istore 4, 2, 0, 0, 0), (37, .iload 4, 2, 0, 0, 0), (39, .aload_n 2, 1, 0, 0, 0), (40, .invokevirtual 80, 3, 196, 3, 741), (43, .if_icmp .ge 62, 3, 0, 0, 0), (46, .aload_n 2, 1, 0, 0, 0), (47, .iload 4, 2, 0, 0, 0), (49, .invokevirtual 84, 3, 197, 3, 751), (52, .istore 5, 2, 0, 0, 0), (54, .iload 5, 2, 0, 0, 0), (56, .bipush 32, 2, 0, 0, 0), (58, .if_icmp .ne 14, 3, 0, 0, 0), (61, .aload_n 0, 1, 0, 0, 0), (62, .bipush 32, 2, 0, 0, 0), (64, .invokevirtual 64, 3, 31, 3, 801), (67, .ifCond .ne 32, 3, 0, 0, 0), (70, .iconst 0, 1, 0, 0, 0), (71, .ireturn, 1, 0, 0, 0), (72, .aload_n 0, 1, 0, 0, 0), (73, .iload 5, 2, 0, 0, 0), (75, .invokevirtual 88, 3, 35, 3, 809), (78, .istore 6, 2, 0, 0, 0), (80, .iload 6, 2, 0, 0, 0), (82, .iconst (-1), 1, 0, 0, 0), (83, .if_icmp .ne 5, 3, 0, 0, 0), (86, .iconst 0, 1, 0, 0, 0), (87, .ireturn, 1, 0, 0, 0), (88, .aload_n 0, 1, 0, 0, 0), (89, .getfield 19, 3, 6, 2, 226), (92, .iload_n 3, 1, 0, 0, 0), (93, .iload 6, 2, 0, 0, 0), (95, .iastore, 1, 0, 0, 0), (96, .iinc 3 1, 3, 0, 0, 0), (99, .iinc 4 1, 3, 0, 0, 0), (102, .goto (-65), 3, 0, 0, 0), (105, .iconst 1, 1, 0, 0, 0), (106, .ireturn, 1, 0, 0, 0)]
def zt_X2_readWord : List zE := [(0, .iconst 0, 1, 0, 0, 0), (1, .istore_n 1, 1, 0, 0, 0), (2, .iconst 0, 1, 0, 0, 0), (3, .istore_n 2, 1, 0, 0, 0), (4, .iload_n 2, 1, 0, 0, 0), (5, .bipush 8, 2, 0, 0, 0), (7, .if_icmp .ge 50, 3, 0, 0, 0), (10, .iload_n 2, 1, 0, 0, 0), (11, .invokestatic 92, 3, 27, 0, 726), (14, .astore_n 3, 1, 0, 0, 0), (15, .aload_n 0, 1, 0, 0, 0), (16, .aload_n 3, 1, 0, 0, 0), (17, .invokevirtual 95, 3, 34, 3, 737), (20, .istore 4, 2, 0, 0, 0), (22, .iload 4, 2, 0, 0, 0), (24, .aload_n 3, 1, 0, 0, 0), (25, .invokevirtual 80, 3, 196, 3, 741), (28, .if_icmp .ne 16, 3, 0, 0, 0), (31, .aload_n 0, 1, 0, 0, 0), (32, .dup, 1, 0, 0, 0), (33, .getfield 54, 3, 6, 5, 230), (36, .iload 4, 2, 0, 0, 0), (38, .iadd, 1, 0, 0, 0), (39, .putfield 54, 3, 6, 5, 230), (42, .iload_n 2, 1, 0, 0, 0), (43, .ireturn, 1, 0, 0, 0), (44, .iload_n 1, 1, 0, 0, 0), (45, .iload 4, 2, 0, 0, 0), (47, .invokestatic 99, 3, 1, 13, 789), (50, .istore_n 1, 1, 0, 0, 0), (51, .iinc 2 1, 3, 0, 0, 0), (54, .goto (-50), 3, 0, 0, 0), (57, .aload_n 0, 1, 0, 0, 0), (58, .dup, 1, 0, 0, 0), (59, .getfield 54, 3, 6, 5, 230), (62, .iload_n 1, 1, 0, 0, 0), (63, .iadd, 1, 0, 0, 0), (64, .putfield 54, 3, 6, 5, 230), (67, .iconst (-1), 1, 0, 0, 0), (68, .ireturn, 1, 0, 0, 0)]
def zt_X2_lengthInCommon : List zE := [(0, .aload_n 1, 1, 0, 0, 0), (1, .invokevirtual 80, 3, 196, 3, 741), (4, .aload_n 0, 1, 0, 0, 0), (5, .getfield 22, 3, 6, 3, 227), (8, .aload_n 0, 1, 0, 0, 0), (9, .getfield 54, 3, 6, 5, 230), (12, .isub, 1, 0, 0, 0), (13, .invokestatic 105, 3, 0, 13, 750), (16, .istore_n 2, 1, 0, 0, 0), (17, .iconst 0, 1, 0, 0, 0), (18, .istore_n 3, 1, 0, 0, 0), (19, .iload_n 3, 1, 0, 0, 0), (20, .iload_n 2, 1, 0, 0, 0), (21, .if_icmp .ge 30, 3, 0, 0, 0), (24, .aload_n 0, 1, 0, 0, 0), (25, .getfield 9, 3, 6, 0, 223), (28, .aload_n 0, 1, 0, 0, 0), (29, .getfield 54, 3, 6, 5, 230), (32, .iload_n 3, 1, 0, 0, 0), (33, .iadd, 1, 0, 0, 0), (34, .caload, 1, 0, 0, 0), (35, .aload_n 1, 1, 0, 0, 0), (36, .iload_n 3, 1, 0, 0, 0), (37, .invokevirtual 84, 3, 197, 3, 751), (40, .if_icmp .eq 5, 3, 0, 0, 0), (43, .iload_n 3, 1, 0, 0, 0), (44, .ireturn, 1, 0, 0, 0), (45, .iinc 3 1, 3, 0, 0, 0), (48, .goto (-29), 3, 0, 0, 0), (51, .iload_n 2, 1, 0, 0, 0), (52, .ireturn, 1, 0, 0, 0)]
def zt_X2_readPart : List zE := [(0, .iload_n 1, 1, 0, 0, 0), (1, .lookupswitch 52 #[(68, 35), (78, 41), (83, 47)], 35, 0, 0, 0), (36, .aload_n 0, 1, 0, 0, 0), (37, .iconst 1, 1, 0, 0, 0), (38, .invokevirtual 108, 3, 36, 3, 813), (41, .ireturn, 1, 0, 0, 0), (42, .aload_n 0, 1, 0, 0, 0), (43, .iconst 3, 1, 0, 0, 0), (44, .invokevirtual 108, 3, 36, 3, 813), (47, .ireturn, 1, 0, 0, 0), (48, .aload_n 0, 1, 0, 0, 0), (49, .invokevirtual 112, 3, 37, 3, 817), (52, .ireturn, 1, 0, 0, 0), (53, .aload_n 0, 1, 0, 0, 0), (54, .bipush 32, 2, 0, 0, 0), (56, .invokevirtual 64, 3, 31, 3, 801), (59, .ifCond .eq 11, 3, 0, 0, 0), (62, .aload_n 0, 1, 0, 0, 0), (63, .iconst 3, 1, 0, 0, 0), (64, .invokevirtual 108, 3, 36, 3, 813), (67, .goto 4, 3, 0, 0, 0), (70, .iconst 1, 1, 0, 0, 0), (71, .ireturn, 1, 0, 0, 0)]
def zt_X2_readNumber : List zE := [(0, .aload_n 0, 1, 0, 0, 0), (1, .bipush 48, 2, 0, 0, 0), (3, .bipush 57, 2, 0, 0, 0), (5, .invokevirtual 68, 3, 30, 3, 805), (8, .ifCond .ne 5, 3, 0, 0, 0), (11, .iconst (-1), 1, 0, 0, 0), (12, .ireturn, 1, 0, 0, 0), (13, .iconst 0, 1, 0, 0, 0), (14, .istore_n 2, 1, 0, 0, 0), (15, .iconst 0, 1, 0, 0, 0), (16, .istore_n 3, 1, 0, 0, 0), (17, .iload_n 3, 1, 0, 0, 0), (18, .iload_n 1, 1, 0, 0, 0), (19, .if_icmp .ge 48, 3, 0, 0, 0), (22, .aload_n 0, 1, 0, 0, 0), (23, .bipush 48, 2, 0, 0, 0), (25, .bipush 57, 2, 0, 0, 0), (27, .invokevirtual 68, 3, 30, 3, 805), (30, .ifCond .eq 37, 3, 0, 0, 0), (33, .iload_n 2, 1, 0, 0, 0), (34, .bipush 10, 2, 0, 0, 0), (36, .imul, 1, 0, 0, 0), (37, .aload_n 0, 1, 0, 0, 0), (38, .getfield 9, 3, 6, 0, 223), (41, .aload_n 0, 1, 0, 0, 0), (42, .getfield 54, 3, 6, 5, 230), (45, .caload, 1, 0, 0, 0), (46, .bipush 48, 2, 0, 0, 0), (48, .isub, 1, 0, 0, 0), (49, .iadd, 1, 0, 0, 0), (50, .istore_n 2, 1, 0, 0, 0), (51, .aload_n 0, 1, 0, 0, 0), (52, .dup, 1, 0, 0, 0), (53, .getfield 54, 3, 6, 5, 230), (56, .iconst 1, 1, 0, 0, 0), (57, .iadd, 1, 0, 0, 0), (58, .putfield 54, 3, 6, 5, 230), (61, .iinc 3 1, 3, 0, 0, 0), (64, .goto (-47), 3, 0, 0, 0), (67, .iload_n 2, 1, 0, 0, 0), (68, .ireturn, 1, 0, 0, 0)]
def zt_X2_readSet : List zE := [(0, .aload_n 0, 1, 0, 0, 0), (1, .bipush 47, 2, 0, 0, 0), (3, .invokevirtual 64, 3, 31, 3, 801), (6, .ifCond .ne 5, 3, 0, 0, 0), (9, .iconst (-1), 1, 0, 0, 0), (10, .ireturn, 1, 0, 0, 0), (11, .iconst 0, 1, 0, 0, 0), (12, .istore_n 1, 1, 0, 0, 0), (13, .bipush 97, 2, 0, 0, 0), (15, .istore_n 2, 1, 0, 0, 0), (16, .iload_n 2, 1, 0, 0, 0), (17, .bipush 104, 2, 0, 0, 0), (19, .if_icmp .gt 28, 3, 0, 0, 0), (22, .aload_n 0, 1, 0, 0, 0), (23, .iload_n 2, 1, 0, 0, 0), (24, .invokevirtual 64, 3, 31, 3, 801), (27, .ifCond .eq 12, 3, 0, 0, 0), (30, .iload_n 1, 1, 0, 0, 0), (31, .iconst 1, 1, 0, 0, 0), (32, .iload_n 2, 1, 0, 0, 0), (33, .bipush 97, 2, 0, 0, 0), (35, .isub, 1, 0, 0, 0), (36, .ishl, 1, 0, 0, 0), (37, .ior, 1, 0, 0, 0), (38, .istore_n 1, 1, 0, 0, 0), (39, .iload_n 2, 1, 0, 0, 0), (40, .iconst 1, 1, 0, 0, 0), (41, .iadd, 1, 0, 0, 0), (42, .i2c, 1, 0, 0, 0), (43, .istore_n 2, 1, 0, 0, 0), (44, .goto (-28), 3, 0, 0, 0), (47, .iload_n 1, 1, 0, 0, 0), (48, .ireturn, 1, 0, 0, 0)]
def zt_X3_init : List zE := [(0, .aload_n 0, 1, 0, 0, 0), (1, .invokespecial 3, 3, 0, 7, 78), (4, .aload_n 0, 1, 0, 0, 0), (5, .bipush 8, 2, 0, 0, 0), (7, .newarray .int, 2, 100, 0, 151), (9, .putfield 9, 3, 7, 0, 79), (12, .aload_n 0, 1, 0, 0, 0), (13, .bipush 8, 2, 0, 0, 0), (15, .newarray .int, 2, 100, 0, 151), (17, .putfield 15, 3, 7, 1, 81), (20, .aload_n 0, 1, 0, 0, 0), (21, .bipush 8, 2, 0, 0, 0), (23, .newarray .int, 2, 100, 0, 151), (25, .putfield 18, 3, 7, 2, 83), (28, .aload_n 0, 1, 0, 0, 0), (29, .bipush 12, 2, 0, 0, 0), (31, .newarray .int, 2, 100, 0, 151), (33, .putfield 21, 3, 7, 3, 86), (36, .aload_n 0, 1, 0, 0, 0), (37, .bipush 12, 2, 0, 0, 0), (39, .newarray .int, 2, 100, 0, 151), (41, .putfield 24, 3, 7, 4, 89), (44, .aload_n 0, 1, 0, 0, 0), (45, .bipush 12, 2, 0, 0, 0), (47, .newarray .int, 2, 100, 0, 151), (49, .putfield 27, 3, 7, 5, 92), (52, .aload_n 0, 1, 0, 0, 0), (53, .bipush 12, 2, 0, 0, 0), (55, .newarray .int, 2, 100, 0, 151), (57, .putfield 30, 3, 7, 6, 95), (60, .aload_n 0, 1, 0, 0, 0), (61, .bipush 12, 2, 0, 0, 0), (63, .newarray .int, 2, 100, 0, 151), (65, .putfield 33, 3, 7, 7, 98), (68, .aload_n 0, 1, 0, 0, 0), (69, .bipush 12, 2, 0, 0, 0), (71, .newarray .int, 2, 100, 0, 151), (73, .putfield 36, 3, 7, 8, 100), (76, .aload_n 0, 1, 0, 0, 0), (77, .bipush 12, 2, 0, 0, 0), (79, .newarray .int, 2, 100, 0, 151), (81, .putfield 39, 3, 7, 9, 102), (84, .return_, 1, 0, 0, 0)]
def zt_X3_copyFrom : List zE := [(0, .aload_n 1, 1, 0, 0, 0), (1, .getfield 9, 3, 7, 0, 79), (4, .iconst 0, 1, 0, 0, 0), (5, .aload_n 0, 1, 0, 0, 0), (6, .getfield 9, 3, 7, 0, 79), (9, .iconst 0, 1, 0, 0, 0), (10, .bipush 8, 2, 0, 0, 0), (12, .invokestatic 42, 3, 0, 9, 341), (15, .aload_n 1, 1, 0, 0, 0), (16, .getfield 15, 3, 7, 1, 81), (19, .iconst 0, 1, 0, 0, 0), (20, .aload_n 0, 1, 0, 0, 0), (21, .getfield 15, 3, 7, 1, 81), (24, .iconst 0, 1, 0, 0, 0), (25, .bipush 8, 2, 0, 0, 0), (27, .invokestatic 42, 3, 0, 9, 341), (30, .aload_n 1, 1, 0, 0, 0), (31, .getfield 18, 3, 7, 2, 83), (34, .iconst 0, 1, 0, 0, 0), (35, .aload_n 0, 1, 0, 0, 0), (36, .getfield 18, 3, 7, 2, 83), (39, .iconst 0, 1, 0, 0, 0), (40, .bipush 8, 2, 0, 0, 0), (42, .invokestatic 42, 3, 0, 9, 341), (45, .aload_n 1, 1, 0, 0, 0), (46, .getfield 21, 3, 7, 3, 86), (49, .iconst 0, 1, 0, 0, 0), (50, .aload_n 0, 1, 0, 0, 0), (51, .getfield 21, 3, 7, 3, 86), (54, .iconst 0, 1, 0, 0, 0), (55, .bipush 12, 2, 0, 0, 0), (57, .invokestatic 42, 3, 0, 9, 341), (60, .aload_n 1, 1, 0, 0, 0), (61, .getfield 24, 3, 7, 4, 89), (64, .iconst 0, 1, 0, 0, 0), (65, .aload_n 0, 1, 0, 0, 0), (66, .getfield 24, 3, 7, 4, 89), (69, .iconst 0, 1, 0, 0, 0), (70, .bipush 12, 2, 0, 0, 0), (72, .invokestatic 42, 3, 0, 9, 341), (75, .aload_n 1, 1, 0, 0, 0), (76, .getfield 27, 3, 7, 5, 92), (79, .iconst 0, 1, 0, 0, 0), (80, .aload_n 0, 1, 0, 0, 0), (81, .getfield 27, 3, 7, 5, 92), (84, .iconst 0, 1, 0, 0, 0), (85, .bipush 12, 2, 0, 0, 0), (87, .invokestatic 42, 3, 0, 9, 341), (90, .aload_n 1, 1, 0, 0, 0), (91, .getfield 30, 3, 7, 6, 95), (94, .iconst 0, 1, 0, 0, 0), (95, .aload_n 0, 1, 0, 0, 0), (96, .getfield 30, 3, 7, 6, 95), (99, .iconst 0, 1, 0, 0, 0), (100, .bipush 12, 2, 0, 0, 0), (102, .invokestatic 42, 3, 0, 9, 341), (105, .aload_n 1, 1, 0, 0, 0), (106, .getfield 33, 3, 7, 7, 98), (109, .iconst 0, 1, 0, 0, 0), (110, .aload_n 0, 1, 0, 0, 0), (111, .getfield 33, 3, 7, 7, 98), (114, .iconst 0, 1, 0, 0, 0), (115, .bipush 12, 2, 0, 0, 0), (117, .invokestatic 42, 3, 0, 9, 341), (120, .aload_n 1, 1, 0, 0, 0), (121, .getfield 36, 3, 7, 8, 100), (124, .iconst 0, 1, 0, 0, 0), (125, .aload_n 0, 1, 0, 0, 0), (126, .getfield 36, 3, 7, 8, 100), (129, .iconst 0, 1, 0, 0, 0), (130, .bipush 12, 2, 0, 0, 0), (132, .invokestatic 42, 3, 0, 9, 341), (135, .aload_n 1, 1, 0, 0, 0), (136, .getfield 39, 3, 7, 9, 102), (139, .iconst 0, 1, 0, 0, 0), (140, .aload_n 0, 1, 0, 0, 0), (141, .getfield 39, 3, 7, 9, 102), (144, .iconst 0, 1, 0, 0, 0), (145, .bipush 12, 2, 0, 0, 0), (147, .invokestatic 42, 3, 0, 9, 341), (150, .aload_n 0, 1, 0, 0, 0), (151, .aload_n 1, 1, 0, 0, 0), (152, .getfield 48, 3, 7, 10, 104), (155, .putfield 48, 3, 7, 10, 104), (158, .aload_n 0, 1, 0, 0, 0), (159, .aload_n 1, 1, 0, 0, 0), (160, .getfield 52, 3, 7, 11, 107), (163, .putfield 52, 3, 7, 11, 107), (166, .aload_n 0, 1, 0, 0, 0), (167, .aload_n 1, 1, 0, 0, 0), (168, .getfield 55, 3, 7, 12, 110), (171, .putfield 55, 3, 7, 12, 110), (174, .aload_n 0, 1, 0, 0, 0), (175, .aload_n 1, 1, 0, 0, 0), (176, .getfield 58, 3, 7, 13, 112), (179, .putfield 58, 3, 7, 13, 112), (182, .aload_n 0, 1, 0, 0, 0), (183, .aload_n 1, 1, 0, 0, 0), (184, .getfield 61, 3, 7, 14, 114), (187, .putfield 61, 3, 7, 14, 114), (190, .aload_n 0, 1, 0, 0, 0), (191, .aload_n 1, 1, 0, 0, 0), (192, .getfield 64, 3, 7, 15, 116), (195, .putfield 64, 3, 7, 15, 116), (198, .return_, 1, 0, 0, 0)]
def zt_X3_hasTank : List zE := [(0, .iload_n 1, 1, 0, 0, 0), (1, .ifCond .lt 15, 3, 0, 0, 0), (4, .iload_n 1, 1, 0, 0, 0), (5, .aload_n 0, 1, 0, 0, 0), (6, .getfield 48, 3, 7, 10, 104), (9, .if_icmp .ge 7, 3, 0, 0, 0), (12, .iconst 1, 1, 0, 0, 0), (13, .goto 4, 3, 0, 0, 0), (16, .iconst 0, 1, 0, 0, 0), (17, .ireturn, 1, 0, 0, 0)]
def zt_X3_hasPipe : List zE := [(0, .iload_n 1, 1, 0, 0, 0), (1, .ifCond .lt 15, 3, 0, 0, 0), (4, .iload_n 1, 1, 0, 0, 0), (5, .aload_n 0, 1, 0, 0, 0), (6, .getfield 52, 3, 7, 11, 107), (9, .if_icmp .ge 7, 3, 0, 0, 0), (12, .iconst 1, 1, 0, 0, 0), (13, .goto 4, 3, 0, 0, 0), (16, .iconst 0, 1, 0, 0, 0), (17, .ireturn, 1, 0, 0, 0)]
def zt_X3_refusalOf : List zE := [(0, .iload_n 1, 1, 0, 0, 0), (1, .tableswitch 106 0 6 #[43, 49, 58, 67, 74, 86, 99], 43, 0, 0, 0), (44, .aload_n 0, 1, 0, 0, 0), (45, .iload_n 2, 1, 0, 0, 0), (46, .invokevirtual 67, 3, 44, 3, 364), (49, .ireturn, 1, 0, 0, 0), (50, .aload_n 0, 1, 0, 0, 0), (51, .iload_n 2, 1, 0, 0, 0), (52, .iload_n 3, 1, 0, 0, 0), (53, .iload 4, 2, 0, 0, 0), (55, .invokevirtual 71, 3, 45, 3, 371), (58, .ireturn, 1, 0, 0, 0), (59, .aload_n 0, 1, 0, 0, 0), (60, .iload_n 2, 1, 0, 0, 0), (61, .iload_n 3, 1, 0, 0, 0), (62, .iload 4, 2, 0, 0, 0), (64, .invokevirtual 75, 3, 46, 3, 379), (67, .ireturn, 1, 0, 0, 0), (68, .aload_n 0, 1, 0, 0, 0), (69, .iload_n 2, 1, 0, 0, 0), (70, .iload_n 3, 1, 0, 0, 0), (71, .invokevirtual 78, 3, 47, 3, 383), (74, .ireturn, 1, 0, 0, 0), (75, .aload_n 0, 1, 0, 0, 0), (76, .iload_n 2, 1, 0, 0, 0), (77, .iload_n 3, 1, 0, 0, 0), (78, .iconst 0, 1, 0, 0, 0), (79, .iconst 4, 1, 0, 0, 0), (80, .invokestatic 82, 3, 43, 0, 368), (83, .invokevirtual 86, 3, 48, 3, 387), (86, .ireturn, 1, 0, 0, 0), (87, .aload_n 0, 1, 0, 0, 0), (88, .iload_n 2, 1, 0, 0, 0), (89, .iload_n 3, 1, 0, 0, 0), (90, .iconst 0, 1, 0, 0, 0), (91, .bipush 9, 2, 0, 0, 0), (93, .invokestatic 82, 3, 43, 0, 368), (96, .invokevirtual 86, 3, 48, 3, 387), (99, .ireturn, 1, 0, 0, 0), (100, .aload_n 0, 1, 0, 0, 0), (101, .iload_n 2, 1, 0, 0, 0), (102, .iconst 1, 1, 0, 0, 0), (103, .invokevirtual 86, 3, 48, 3, 387), (106, .ireturn, 1, 0, 0, 0), (107, .iload_n 2, 1, 0, 0, 0), (108, .iconst 1, 1, 0, 0, 0), (109, .bipush 60, 2, 0, 0, 0), (111, .invokestatic 82, 3, 43, 0, 368), (114, .ifCond .eq 7, 3, 0, 0, 0), (117, .iconst 0, 1, 0, 0, 0), (118, .goto 4, 3, 0, 0, 0), (121, .iconst 2, 1, 0, 0, 0), (122, .ireturn, 1, 0, 0, 0)]
def zt_X3_isWithin : List zE := [(0, .iload_n 0, 1, 0, 0, 0), (1, .iload_n 1, 1, 0, 0, 0), (2, .if_icmp .lt 12, 3, 0, 0, 0), (5, .iload_n 0, 1, 0, 0, 0), (6, .iload_n 2, 1, 0, 0, 0), (7, .if_icmp .gt 7, 3, 0, 0, 0), (10, .iconst 1, 1, 0, 0, 0), (11, .goto 4, 3, 0, 0, 0), (14, .iconst 0, 1, 0, 0, 0), (15, .ireturn, 1, 0, 0, 0)]
def zt_X3_refusalOfTank : List zE := [(0, .iload_n 1, 1, 0, 0, 0), (1, .bipush 10, 2, 0, 0, 0), (3, .sipush 999, 3, 0, 0, 0), (6, .invokestatic 82, 3, 43, 0, 368), (9, .ifCond .ne 5, 3, 0, 0, 0), (12, .iconst 2, 1, 0, 0, 0), (13, .ireturn, 1, 0, 0, 0), (14, .aload_n 0, 1, 0, 0, 0), (15, .getfield 48, 3, 7, 10, 104), (18, .bipush 8, 2, 0, 0, 0), (20, .if_icmp .ge 7, 3, 0, 0, 0), (23, .iconst 0, 1, 0, 0, 0), (24, .goto 4, 3, 0, 0, 0), (27, .iconst 3, 1, 0, 0, 0), (28, .ireturn, 1, 0, 0, 0)]
def zt_X3_refusalOfPipe : List zE := [(0, .aload_n 0, 1, 0, 0, 0), (1, .iload_n 1, 1, 0, 0, 0), (2, .invokevirtual 90, 3, 40, 3, 375), (5, .ifCond .eq 11, 3, 0, 0, 0), (8, .aload_n 0, 1, 0, 0, 0), (9, .iload_n 2, 1, 0, 0, 0), (10, .invokevirtual 90, 3, 40, 3, 375), (13, .ifCond .ne 5, 3, 0, 0, 0), (16, .iconst 1, 1, 0, 0, 0), (17, .ireturn, 1, 0, 0, 0), (18, .iload_n 1, 1, 0, 0, 0), (19, .iload_n 2, 1, 0, 0, 0), (20, .if_icmp .eq 14, 3, 0, 0, 0), (23, .iload_n 3, 1, 0, 0, 0), (24, .iconst 0, 1, 0, 0, 0), (25, .sipush 255, 3, 0, 0, 0), (28, .invokestatic 82, 3, 43, 0, 368), (31, .ifCond .ne 5, 3, 0, 0, 0), (34, .iconst 2, 1, 0, 0, 0), (35, .ireturn, 1, 0, 0, 0), (36, .aload_n 0, 1, 0, 0, 0), (37, .getfield 52, 3, 7, 11, 107), (40, .bipush 12, 2, 0, 0, 0), (42, .if_icmp .ge 7, 3, 0, 0, 0), (45, .iconst 0, 1, 0, 0, 0), (46, .goto 4, 3, 0, 0, 0), (49, .iconst 3, 1, 0, 0, 0), (50, .ireturn, 1, 0, 0, 0)]
def zt_X3_refusalOfPouring : List zE := [(0, .aload_n 0, 1, 0, 0, 0), (1, .iload_n 1, 1, 0, 0, 0), (2, .invokevirtual 90, 3, 40, 3, 375), (5, .ifCond .ne 5, 3, 0, 0, 0), (8, .iconst 1, 1, 0, 0, 0), (9, .ireturn, 1, 0, 0, 0), (10, .iload_n 2, 1, 0, 0, 0), (11, .iconst 1, 1, 0, 0, 0), (12, .sipush 999, 3, 0, 0, 0), (15, .invokestatic 82, 3, 43, 0, 368), (18, .ifCond .eq 14, 3, 0, 0, 0), (21, .iload_n 3, 1, 0, 0, 0), (22, .iconst 0, 1, 0, 0, 0), (23, .sipush 255, 3, 0, 0, 0), (26, .invokestatic 82, 3, 43, 0, 368), (29, .ifCond .ne 5, 3, 0, 0, 0), (32, .iconst 2, 1, 0, 0, 0), (33, .ireturn, 1, 0, 0, 0), (34, .aload_n 0, 1, 0, 0, 0), (35, .getfield 15, 3, 7, 1, 81), (38, .iload_n 1, 1, 0, 0, 0), (39, .iaload, 1, 0, 0, 0), (40, .iload_n 2, 1, 0, 0, 0), (41, .iadd, 1, 0, 0, 0), (42, .aload_n 0, 1, 0, 0, 0), (43, .getfield 9, 3, 7, 0, 79), (46, .iload_n 1, 1, 0, 0, 0), (47, .iaload, 1, 0, 0, 0), (48, .if_icmp .gt 7, 3, 0, 0, 0), (51, .iconst 0, 1, 0, 0, 0), (52, .goto 4, 3, 0, 0, 0), (55, .iconst 4, 1, 0, 0, 0), (56, .ireturn, 1, 0, 0, 0)]
def zt_X3_refusalOfDrawing : List zE := [(0, .aload_n 0, 1, 0, 0, 0), (1, .iload_n 1, 1, 0, 0, 0), (2, .invokevirtual 90, 3, 40, 3, 375), (5, .ifCond .ne 5, 3, 0, 0, 0), (8, .iconst 1, 1, 0, 0, 0), (9, .ireturn, 1, 0, 0, 0), (10, .iload_n 2, 1, 0, 0, 0), (11, .iconst 1, 1, 0, 0, 0), (12, .sipush 999, 3, 0, 0, 0), (15, .invokestatic 82, 3, 43, 0, 368), (18, .ifCond .ne 5, 3, 0, 0, 0), (21, .iconst 2, 1, 0, 0, 0), (22, .ireturn, 1, 0, 0, 0), (23, .aload_n 0, 1, 0, 0, 0), (24, .getfield 15, 3, 7, 1, 81), (27, .iload_n 1, 1, 0, 0, 0), (28, .iaload, 1, 0, 0, 0), (29, .iload_n 2, 1, 0, 0, 0), (30, .if_icmp .lt 7, 3, 0, 0, 0), (33, .iconst 0, 1, 0, 0, 0), (34, .goto 4, 3, 0, 0, 0), (37, .iconst 4, 1, 0, 0, 0), (38, .ireturn, 1, 0, 0, 0)]
def zt_X3_refusalForPipe : List zE := [(0, .aload_n 0, 1, 0, 0, 0), (1, .iload_n 1, 1, 0, 0, 0), (2, .invokevirtual 94, 3, 41, 3, 391), (5, .ifCond .ne 5, 3, 0, 0, 0), (8, .iconst 1, 1, 0, 0, 0), (9, .ireturn, 1, 0, 0, 0), (10, .iload_n 2, 1, 0, 0, 0), (11, .ifCond .eq 7, 3, 0, 0, 0), (14, .iconst 0, 1, 0, 0, 0), (15, .goto 4, 3, 0, 0, 0), (18, .iconst 2, 1, 0, 0, 0), (19, .ireturn, 1, 0, 0, 0)]
def zt_X3_perform : List zE := [(0, .iload_n 1, 1, 0, 0, 0), (1, .tableswitch 104 0 6 #[43, 49, 58, 67, 74, 84, 94], 43, 0, 0, 0), (44, .aload_n 0, 1, 0, 0, 0), (45, .iload_n 2, 1, 0, 0, 0), (46, .invokevirtual 97, 3, 50, 3, 530), (49, .ireturn, 1, 0, 0, 0), (50, .aload_n 0, 1, 0, 0, 0), (51, .iload_n 2, 1, 0, 0, 0), (52, .iload_n 3, 1, 0, 0, 0), (53, .iload 4, 2, 0, 0, 0), (55, .invokevirtual 100, 3, 51, 3, 534), (58, .ireturn, 1, 0, 0, 0), (59, .aload_n 0, 1, 0, 0, 0), (60, .iload_n 2, 1, 0, 0, 0), (61, .iload_n 3, 1, 0, 0, 0), (62, .iload 4, 2, 0, 0, 0), (64, .invokevirtual 103, 3, 52, 3, 538), (67, .ireturn, 1, 0, 0, 0), (68, .aload_n 0, 1, 0, 0, 0), (69, .iload_n 2, 1, 0, 0, 0), (70, .iload_n 3, 1, 0, 0, 0), (71, .invokevirtual 106, 3, 53, 3, 542), (74, .ireturn, 1, 0, 0, 0), (75, .aload_n 0, 1, 0, 0, 0), (76, .getfield 30, 3, 7, 6, 95), (79, .iload_n 2, 1, 0, 0, 0), (80, .iload_n 3, 1, 0, 0, 0), (81, .invokestatic 109, 3, 54, 0, 546), (84, .ireturn, 1, 0, 0, 0), (85, .aload_n 0, 1, 0, 0, 0), (86, .getfield 33, 3, 7, 7, 98), (89, .iload_n 2, 1, 0, 0, 0), (90, .iload_n 3, 1, 0, 0, 0), (91, .invokestatic 109, 3, 54, 0, 546), (94, .ireturn, 1, 0, 0, 0), (95, .aload_n 0, 1, 0, 0, 0), (96, .getfield 36, 3, 7, 8, 100), (99, .iload_n 2, 1, 0, 0, 0), (100, .iconst 0, 1, 0, 0, 0), (101, .invokestatic 109, 3, 54, 0, 546), (104, .ireturn, 1, 0, 0, 0), (105, .aload_n 0, 1, 0, 0, 0), (106, .iload_n 2, 1, 0, 0, 0), (107, .invokevirtual 113, 3, 55, 3, 549), (110, .ireturn, 1, 0, 0, 0)]
def zt_X3_newTank : List zE := [(0, .aload_n 0, 1, 0, 0, 0), (1, .getfield 9, 3, 7, 0, 79), (4, .aload_n 0, 1, 0, 0, 0), (5, .getfield 48, 3, 7, 10, 104), (8, .iload_n 1, 1, 0, 0, 0), (9, .iastore, 1, 0, 0, 0), (10, .aload_n 0, 1, 0, 0, 0), (11, .dup, 1, 0, 0, 0), (12, .getfield 48, 3, 7, 10, 104), (15, .iconst 1, 1, 0, 0, 0), (16, .iadd, 1, 0, 0, 0), (17, .putfield 48, 3, 7, 10, 104), (20, .aload_n 0, 1, 0, 0, 0), (21, .getfield 48, 3, 7, 10, 104), (24, .iconst 1, 1, 0, 0, 0), (25, .isub, 1, 0, 0, 0), (26, .ireturn, 1, 0, 0, 0)]
def zt_X3_newPipe : List zE := [(0, .aload_n 0, 1, 0, 0, 0), (1, .getfield 21, 3, 7, 3, 86), (4, .aload_n 0, 1, 0, 0, 0), (5, .getfield 52, 3, 7, 11, 107), (8, .iload_n 1, 1, 0, 0, 0), (9, .iastore, 1, 0, 0, 0), (10, .aload_n 0, 1, 0, 0, 0), (11, .getfield 24, 3, 7, 4, 89), (14, .aload_n 0, 1, 0, 0, 0), (15, .getfield 52, 3, 7, 11, 107), (18, .iload_n 2, 1, 0, 0, 0), (19, .iastore, 1, 0, 0, 0), (20, .aload_n 0, 1, 0, 0, 0), (21, .getfield 27, 3, 7, 5, 92), (24, .aload_n 0, 1, 0, 0, 0), (25, .getfield 52, 3, 7, 11, 107), (28, .iload_n 3, 1, 0, 0, 0), (29, .iastore, 1, 0, 0, 0), (30, .aload_n 0, 1, 0, 0, 0), (31, .dup, 1, 0, 0, 0), (32, .getfield 52, 3, 7, 11, 107), (35, .iconst 1, 1, 0, 0, 0), (36, .iadd, 1, 0, 0, 0), (37, .putfield 52, 3, 7, 11, 107), (40, .aload_n 0, 1, 0, 0, 0), (41, .getfield 52, 3, 7, 11, 107), (44, .iconst 1, 1, 0, 0, 0), (45, .isub, 1, 0, 0, 0), (46, .ireturn, 1, 0, 0, 0)]
def zt_X3_pourInto : List zE := [(0, .aload_n 0, 1, 0, 0, 0), (1, .getfield 15, 3, 7, 1, 81), (4, .iload_n 1, 1, 0, 0, 0), (5, .dup2, 1, 0, 0, 0), (6, .iaload, 1, 0, 0, 0), (7, .iload_n 2, 1, 0, 0, 0), (8, .iadd, 1, 0, 0, 0), (9, .iastore, 1, 0, 0, 0), (10, .aload_n 0, 1, 0, 0, 0), (11, .getfield 18, 3, 7, 2, 83), (14, .iload_n 1, 1, 0, 0, 0), (15, .dup2, 1, 0, 0, 0), (16, .iaload, 1, 0, 0, 0), (17, .iload_n 3, 1, 0, 0, 0), (18, .ior, 1, 0, 0, 0), (19, .iastore, 1, 0, 0, 0), (20, .aload_n 0, 1, 0, 0, 0), (21, .dup, 1, 0, 0, 0), (22, .getfield 58, 3, 7, 13, 112), (25, .iload_n 2, 1, 0, 0, 0), (26, .iadd, 1, 0, 0, 0), (27, .putfield 58, 3, 7, 13, 112), (30, .aload_n 0, 1, 0, 0, 0), (31, .getfield 15, 3, 7, 1, 81), (34, .iload_n 1, 1, 0, 0, 0), (35, .iaload, 1, 0, 0, 0), (36, .ireturn, 1, 0, 0, 0)]
def zt_X3_drawFrom : List zE := [(0, .aload_n 0, 1, 0, 0, 0), (1, .getfield 15, 3, 7, 1, 81), (4, .iload_n 1, 1, 0, 0, 0), (5, .dup2, 1, 0, 0, 0), (6, .iaload, 1, 0, 0, 0), (7, .iload_n 2, 1, 0, 0, 0), (8, .isub, 1, 0, 0, 0), (9, .iastore, 1, 0, 0, 0), (10, .aload_n 0, 1, 0, 0, 0), (11, .getfield 15, 3, 7, 1, 81), (14, .iload_n 1, 1, 0, 0, 0), (15, .iaload, 1, 0, 0, 0), (16, .ifCond .ne 10, 3, 0, 0, 0), (19, .aload_n 0, 1, 0, 0, 0), (20, .getfield 18, 3, 7, 2, 83), (23, .iload_n 1, 1, 0, 0, 0), (24, .iconst 0, 1, 0, 0, 0), (25, .iastore, 1, 0, 0, 0), (26, .aload_n 0, 1, 0, 0, 0), (27, .dup, 1, 0, 0, 0), (28, .getfield 61, 3, 7, 14, 114), (31, .iload_n 2, 1, 0, 0, 0), (32, .iadd, 1, 0, 0, 0), (33, .putfield 61, 3, 7, 14, 114), (36, .aload_n 0, 1, 0, 0, 0), (37, .getfield 15, 3, 7, 1, 81), (40, .iload_n 1, 1, 0, 0, 0), (41, .iaload, 1, 0, 0, 0), (42, .ireturn, 1, 0, 0, 0)]
def zt_X3_put : List zE := [(0, .aload_n 0, 1, 0, 0, 0), (1, .iload_n 1, 1, 0, 0, 0), (2, .iaload, 1, 0, 0, 0), (3, .istore_n 3, 1, 0, 0, 0), (4, .aload_n 0, 1, 0, 0, 0), (5, .iload_n 1, 1, 0, 0, 0), (6, .iload_n 2, 1, 0, 0, 0), (7, .iastore, 1, 0, 0, 0), (8, .iload_n 3, 1, 0, 0, 0), (9, .ireturn, 1, 0, 0, 0)]
def zt_X3_passMinutes : List zE := [(0, .aload_n 0, 1, 0, 0, 0), (1, .getfield 64, 3, 7, 15, 116), (4, .istore_n 2, 1, 0, 0, 0), (5, .iconst 0, 1, 0, 0, 0), (6, .istore_n 3, 1, 0, 0, 0), (7, .iload_n 3, 1, 0, 0, 0), (8, .iload_n 1, 1, 0, 0, 0), (9, .if_icmp .ge 13, 3, 0, 0, 0), (12, .aload_n 0, 1, 0, 0, 0), (13, .invokevirtual 116, 3, 56, 3, 553), (16, .iinc 3 1, 3, 0, 0, 0), (19, .goto (-12), 3, 0, 0, 0), (22, .aload_n 0, 1, 0, 0, 0), (23, .getfield 64, 3, 7, 15, 116), (26, .iload_n 2, 1, 0, 0, 0), (27, .isub, 1, 0, 0, 0), (28, .ireturn, 1, 0, 0, 0)]
def zt_X3_passMinute : List zE := [(0, .aload_n 0, 1, 0, 0, 0), (1, .dup, 1, 0, 0, 0), (2, .getfield 55, 3, 7, 12, 110), (5, .iconst 1, 1, 0, 0, 0), (6, .iadd, 1, 0, 0, 0), (7, .putfield 55, 3, 7, 12, 110), (10, .iconst 0, 1, 0, 0, 0), (11, .istore_n 1, 1, 0, 0, 0), (12, .iload_n 1, 1, 0, 0, 0), (13, .aload_n 0, 1, 0, 0, 0), (14, .getfield 52, 3, 7, 11, 107), (17, .if_icmp .ge 63, 3, 0, 0, 0), (20, .aload_n 0, 1, 0, 0, 0), (21, .iload_n 1, 1, 0, 0, 0), (22, .invokevirtual 119, 3, 59, 3, 557), (25, .istore_n 2, 1, 0, 0, 0), (26, .iload_n 2, 1, 0, 0, 0), (27, .ifCond .le 24, 3, 0, 0, 0), (30, .aload_n 0, 1, 0, 0, 0), (31, .iload_n 2, 1, 0, 0, 0), (32, .iload_n 1, 1, 0, 0, 0), (33, .aload_n 0, 1, 0, 0, 0), (34, .getfield 21, 3, 7, 3, 86), (37, .iload_n 1, 1, 0, 0, 0), (38, .iaload, 1, 0, 0, 0), (39, .aload_n 0, 1, 0, 0, 0), (40, .getfield 24, 3, 7, 4, 89), (43, .iload_n 1, 1, 0, 0, 0), (44, .iaload, 1, 0, 0, 0), (45, .invokevirtual 122, 3, 57, 3, 569), (48, .goto 26, 3, 0, 0, 0), (51, .iload_n 2, 1, 0, 0, 0), (52, .ifCond .ge 22, 3, 0, 0, 0), (55, .aload_n 0, 1, 0, 0, 0), (56, .iload_n 2, 1, 0, 0, 0), (57, .ineg, 1, 0, 0, 0), (58, .iload_n 1, 1, 0, 0, 0), (59, .aload_n 0, 1, 0, 0, 0), (60, .getfield 24, 3, 7, 4, 89), (63, .iload_n 1, 1, 0, 0, 0), (64, .iaload, 1, 0, 0, 0), (65, .aload_n 0, 1, 0, 0, 0), (66, .getfield 21, 3, 7, 3, 86), (69, .iload_n 1, 1, 0, 0, 0), (70, .iaload, 1, 0, 0, 0), (71, .invokevirtual 122, 3, 57, 3, 569), (74, .iinc 1 1, 3, 0, 0, 0), (77, .goto (-65), 3, 0, 0, 0), (80, .return_, 1, 0, 0, 0)]
def zt_X3_let : List zE := [(0, .aload_n 0, 1, 0, 0, 0), (1, .getfield 33, 3, 7, 7, 98), (4, .iload_n 2, 1, 0, 0, 0), (5, .iaload, 1, 0, 0, 0), (6, .iload_n 1, 1, 0, 0, 0), (7, .invokestatic 126, 3, 0, 13, 568), (10, .istore 5, 2, 0, 0, 0), (12, .aload_n 0, 1, 0, 0, 0), (13, .getfield 18, 3, 7, 2, 83), (16, .iload_n 3, 1, 0, 0, 0), (17, .iaload, 1, 0, 0, 0), (18, .aload_n 0, 1, 0, 0, 0), (19, .getfield 27, 3, 7, 5, 92), (22, .iload_n 2, 1, 0, 0, 0), (23, .iaload, 1, 0, 0, 0), (24, .iand, 1, 0, 0, 0), (25, .istore 6, 2, 0, 0, 0), (27, .aload_n 0, 1, 0, 0, 0), (28, .getfield 15, 3, 7, 1, 81), (31, .iload_n 3, 1, 0, 0, 0), (32, .dup2, 1, 0, 0, 0), (33, .iaload, 1, 0, 0, 0), (34, .iload_n 1, 1, 0, 0, 0), (35, .isub, 1, 0, 0, 0), (36, .iastore, 1, 0, 0, 0), (37, .aload_n 0, 1, 0, 0, 0), (38, .getfield 15, 3, 7, 1, 81), (41, .iload 4, 2, 0, 0, 0), (43, .dup2, 1, 0, 0, 0), (44, .iaload, 1, 0, 0, 0), (45, .iload_n 1, 1, 0, 0, 0), (46, .iload 5, 2, 0, 0, 0), (48, .isub, 1, 0, 0, 0), (49, .iadd, 1, 0, 0, 0), (50, .iastore, 1, 0, 0, 0), (51, .iload_n 1, 1, 0, 0, 0), (52, .iload 5, 2, 0, 0, 0), (54, .if_icmp .le 28, 3, 0, 0, 0), (57, .aload_n 0, 1, 0, 0, 0), (58, .getfield 18, 3, 7, 2, 83), (61, .iload 4, 2, 0, 0, 0), (63, .dup2, 1, 0, 0, 0), (64, .iaload, 1, 0, 0, 0), (65, .aload_n 0, 1, 0, 0, 0), (66, .getfield 18, 3, 7, 2, 83), (69, .iload_n 3, 1, 0, 0, 0), (70, .iaload, 1, 0, 0, 0), (71, .aload_n 0, 1, 0, 0, 0), (72, .getfield 27, 3, 7, 5, 92), (75, .iload_n 2, 1, 0, 0, 0), (76, .iaload, 1, 0, 0, 0), (77, .iconst (-1), 1, 0, 0, 0), (78, .ixor, 1, 0, 0, 0), (79, .iand, 1, 0, 0, 0), (80, .ior, 1, 0, 0, 0), (81, .iastore, 1, 0, 0, 0), (82, .aload_n 0, 1, 0, 0, 0), (83, .getfield 36, 3, 7, 8, 100), (86, .iload_n 2, 1, 0, 0, 0), (87, .bipush 20, 2, 0, 0, 0), (89, .aload_n 0, 1, 0, 0, 0), (90, .getfield 36, 3, 7, 8, 100), (93, .iload_n 2, 1, 0, 0, 0), (94, .iaload, 1, 0, 0, 0), (95, .iload 6, 2, 0, 0, 0), (97, .invokestatic 131, 3, 194, 0, 573), (100, .iadd, 1, 0, 0, 0), (101, .invokestatic 126, 3, 0, 13, 568), (104, .iastore, 1, 0, 0, 0), (105, .aload_n 0, 1, 0, 0, 0), (106, .getfield 39, 3, 7, 9, 102), (109, .iload_n 2, 1, 0, 0, 0), (110, .dup2, 1, 0, 0, 0), (111, .iaload, 1, 0, 0, 0), (112, .iload_n 1, 1, 0, 0, 0), (113, .iadd, 1, 0, 0, 0), (114, .iastore, 1, 0, 0, 0), (115, .aload_n 0, 1, 0, 0, 0), (116, .dup, 1, 0, 0, 0), (117, .getfield 64, 3, 7, 15, 116), (120, .iload 5, 2, 0, 0, 0), (122, .iadd, 1, 0, 0, 0), (123, .putfield 64, 3, 7, 15, 116), (126, .return_, 1, 0, 0, 0)]
def zt_X3_letsThrough : List zE := [(0, .aload_n 0, 1, 0, 0, 0), (1, .getfield 30, 3, 7, 6, 95), (4, .iload_n 1, 1, 0, 0, 0), (5, .iaload, 1, 0, 0, 0), (6, .ifCond .eq 18, 3, 0, 0, 0), (9, .aload_n 0, 1, 0, 0, 0), (10, .getfield 36, 3, 7, 8, 100), (13, .iload_n 1, 1, 0, 0, 0), (14, .iaload, 1, 0, 0, 0), (15, .bipush 20, 2, 0, 0, 0), (17, .if_icmp .ge 7, 3, 0, 0, 0), (20, .iconst 1, 1, 0, 0, 0), (21, .goto 4, 3, 0, 0, 0), (24, .iconst 0, 1, 0, 0, 0), (25, .ireturn, 1, 0, 0, 0)]
def zt_X3_litresToFlow : List zE := [(0, .aload_n 0, 1, 0, 0, 0), (1, .iload_n 1, 1, 0, 0, 0), (2, .invokevirtual 136, 3, 58, 3, 561), (5, .ifCond .ne 5, 3, 0, 0, 0), (8, .iconst 0, 1, 0, 0, 0), (9, .ireturn, 1, 0, 0, 0), (10, .aload_n 0, 1, 0, 0, 0), (11, .getfield 15, 3, 7, 1, 81), (14, .aload_n 0, 1, 0, 0, 0), (15, .getfield 21, 3, 7, 3, 86), (18, .iload_n 1, 1, 0, 0, 0), (19, .iaload, 1, 0, 0, 0), (20, .iaload, 1, 0, 0, 0), (21, .aload_n 0, 1, 0, 0, 0), (22, .getfield 15, 3, 7, 1, 81), (25, .aload_n 0, 1, 0, 0, 0), (26, .getfield 24, 3, 7, 4, 89), (29, .iload_n 1, 1, 0, 0, 0), (30, .iaload, 1, 0, 0, 0), (31, .iaload, 1, 0, 0, 0), (32, .isub, 1, 0, 0, 0), (33, .istore_n 2, 1, 0, 0, 0), (34, .iload_n 2, 1, 0, 0, 0), (35, .ifCond .le 12, 3, 0, 0, 0), (38, .aload_n 0, 1, 0, 0, 0), (39, .getfield 24, 3, 7, 4, 89), (42, .iload_n 1, 1, 0, 0, 0), (43, .iaload, 1, 0, 0, 0), (44, .goto 9, 3, 0, 0, 0), (47, .aload_n 0, 1, 0, 0, 0), (48, .getfield 21, 3, 7, 3, 86), (51, .iload_n 1, 1, 0, 0, 0), (52, .iaload, 1, 0, 0, 0), (53, .istore_n 3, 1, 0, 0, 0), (54, .aload_n 0, 1, 0, 0, 0), (55, .getfield 9, 3, 7, 0, 79), (58, .iload_n 3, 1, 0, 0, 0), (59, .iaload, 1, 0, 0, 0), (60, .aload_n 0, 1, 0, 0, 0), (61, .getfield 15, 3, 7, 1, 81), (64, .iload_n 3, 1, 0, 0, 0), (65, .iaload, 1, 0, 0, 0), (66, .isub, 1, 0, 0, 0), (67, .istore 4, 2, 0, 0, 0), (69, .iconst 5, 1, 0, 0, 0), (70, .aload_n 0, 1, 0, 0, 0), (71, .getfield 30, 3, 7, 6, 95), (74, .iload_n 1, 1, 0, 0, 0), (75, .iaload, 1, 0, 0, 0), (76, .imul, 1, 0, 0, 0), (77, .iload_n 2, 1, 0, 0, 0), (78, .invokestatic 139, 3, 2, 13, 565), (81, .iconst 2, 1, 0, 0, 0), (82, .idiv, 1, 0, 0, 0), (83, .iload 4, 2, 0, 0, 0), (85, .invokestatic 126, 3, 0, 13, 568), (88, .invokestatic 126, 3, 0, 13, 568), (91, .istore 5, 2, 0, 0, 0), (93, .iload_n 2, 1, 0, 0, 0), (94, .ifCond .le 8, 3, 0, 0, 0), (97, .iload 5, 2, 0, 0, 0), (99, .goto 6, 3, 0, 0, 0), (102, .iload 5, 2, 0, 0, 0), (104, .ineg, 1, 0, 0, 0), (105, .ireturn, 1, 0, 0, 0)]
def zt_X3_isTankBefore : List zE := [(0, .aload_n 0, 1, 0, 0, 0), (1, .getfield 15, 3, 7, 1, 81), (4, .iload_n 1, 1, 0, 0, 0), (5, .iaload, 1, 0, 0, 0), (6, .aload_n 0, 1, 0, 0, 0), (7, .getfield 15, 3, 7, 1, 81), (10, .iload_n 2, 1, 0, 0, 0), (11, .iaload, 1, 0, 0, 0), (12, .if_icmp .eq 24, 3, 0, 0, 0), (15, .aload_n 0, 1, 0, 0, 0), (16, .getfield 15, 3, 7, 1, 81), (19, .iload_n 1, 1, 0, 0, 0), (20, .iaload, 1, 0, 0, 0), (21, .aload_n 0, 1, 0, 0, 0), (22, .getfield 15, 3, 7, 1, 81), (25, .iload_n 2, 1, 0, 0, 0), (26, .iaload, 1, 0, 0, 0), (27, .if_icmp .le 7, 3, 0, 0, 0), (30, .iconst 1, 1, 0, 0, 0), (31, .goto 4, 3, 0, 0, 0), (34, .iconst 0, 1, 0, 0, 0), (35, .ireturn, 1, 0, 0, 0), (36, .aload_n 0, 1, 0, 0, 0), (37, .getfield 18, 3, 7, 2, 83), (40, .iload_n 1, 1, 0, 0, 0), (41, .iaload, 1, 0, 0, 0), (42, .invokestatic 131, 3, 194, 0, 573), (45, .istore_n 3, 1, 0, 0, 0), (46, .aload_n 0, 1, 0, 0, 0), (47, .getfield 18, 3, 7, 2, 83), (50, .iload_n 2, 1, 0, 0, 0), (51, .iaload, 1, 0, 0, 0), (52, .invokestatic 131, 3, 194, 0, 573), (55, .istore 4, 2, 0, 0, 0), (57, .iload_n 3, 1, 0, 0, 0), (58, .iload 4, 2, 0, 0, 0), (60, .if_icmp .eq 17, 3, 0, 0, 0), (63, .iload_n 3, 1, 0, 0, 0), (64, .iload 4, 2, 0, 0, 0), (66, .if_icmp .ge 7, 3, 0, 0, 0), (69, .iconst 1, 1, 0, 0, 0), (70, .goto 17, 3, 0, 0, 0), (73, .iconst 0, 1, 0, 0, 0), (74, .goto 13, 3, 0, 0, 0), (77, .iload_n 1, 1, 0, 0, 0), (78, .iload_n 2, 1, 0, 0, 0), (79, .if_icmp .ge 7, 3, 0, 0, 0), (82, .iconst 1, 1, 0, 0, 0), (83, .goto 4, 3, 0, 0, 0), (86, .iconst 0, 1, 0, 0, 0), (87, .ireturn, 1, 0, 0, 0)]
def zt_X3_isPipeBefore : List zE := [(0, .aload_n 0, 1, 0, 0, 0), (1, .getfield 36, 3, 7, 8, 100), (4, .iload_n 1, 1, 0, 0, 0), (5, .iaload, 1, 0, 0, 0), (6, .aload_n 0, 1, 0, 0, 0), (7, .getfield 36, 3, 7, 8, 100), (10, .iload_n 2, 1, 0, 0, 0), (11, .iaload, 1, 0, 0, 0), (12, .if_icmp .eq 24, 3, 0, 0, 0), (15, .aload_n 0, 1, 0, 0, 0), (16, .getfield 36, 3, 7, 8, 100), (19, .iload_n 1, 1, 0, 0, 0), (20, .iaload, 1, 0, 0, 0), (21, .aload_n 0, 1, 0, 0, 0), (22, .getfield 36, 3, 7, 8, 100), (25, .iload_n 2, 1, 0, 0, 0), (26, .iaload, 1, 0, 0, 0), (27, .if_icmp .le 7, 3, 0, 0, 0), (30, .iconst 1, 1, 0, 0, 0), (31, .goto 4, 3, 0, 0, 0), (34, .iconst 0, 1, 0, 0, 0), (35, .ireturn, 1, 0, 0, 0), (36, .aload_n 0, 1, 0, 0, 0), (37, .getfield 39, 3, 7, 9, 102), (40, .iload_n 1, 1, 0, 0, 0), (41, .iaload, 1, 0, 0, 0), (42, .aload_n 0, 1, 0, 0, 0), (43, .getfield 39, 3, 7, 9, 102), (46, .iload_n 2, 1, 0, 0, 0), (47, .iaload, 1, 0, 0, 0), (48, .if_icmp .eq 26, 3, 0, 0, 0), (51, .aload_n 0, 1, 0, 0, 0), (52, .getfield 39, 3, 7, 9, 102), (55, .iload_n 1, 1, 0, 0, 0), (56, .iaload, 1, 0, 0, 0), (57, .aload_n 0, 1, 0, 0, 0), (58, .getfield 39, 3, 7, 9, 102), (61, .iload_n 2, 1, 0, 0, 0), (62, .iaload, 1, 0, 0, 0), (63, .if_icmp .le 7, 3, 0, 0, 0), (66, .iconst 1, 1, 0, 0, 0), (67, .goto 17, 3, 0, 0, 0), (70, .iconst 0, 1, 0, 0, 0), (71, .goto 13, 3, 0, 0, 0), (74, .iload_n 1, 1, 0, 0, 0), (75, .iload_n 2, 1, 0, 0, 0), (76, .if_icmp .ge 7, 3, 0, 0, 0), (79, .iconst 1, 1, 0, 0, 0), (80, .goto 4, 3, 0, 0, 0), (83, .iconst 0, 1, 0, 0, 0), (84, .ireturn, 1, 0, 0, 0)]
def zt_X3_contentOfAll : List zE := [(0, .iconst 0, 1, 0, 0, 0), (1, .istore_n 1, 1, 0, 0, 0), (2, .iconst 0, 1, 0, 0, 0), (3, .istore_n 2, 1, 0, 0, 0), (4, .iload_n 2, 1, 0, 0, 0), (5, .aload_n 0, 1, 0, 0, 0), (6, .getfield 48, 3, 7, 10, 104), (9, .if_icmp .ge 18, 3, 0, 0, 0), (12, .iload_n 1, 1, 0, 0, 0), (13, .aload_n 0, 1, 0, 0, 0), (14, .getfield 15, 3, 7, 1, 81), (17, .iload_n 2, 1, 0, 0, 0), (18, .iaload, 1, 0, 0, 0), (19, .iadd, 1, 0, 0, 0), (20, .istore_n 1, 1, 0, 0, 0), (21, .iinc 2 1, 3, 0, 0, 0), (24, .goto (-20), 3, 0, 0, 0), (27, .iload_n 1, 1, 0, 0, 0), (28, .ireturn, 1, 0, 0, 0)]
def zt_X3_tankNumber : List zE := [(0, .aload_n 0, 1, 0, 0, 0), (1, .getfield 15, 3, 7, 1, 81), (4, .iload_n 1, 1, 0, 0, 0), (5, .iaload, 1, 0, 0, 0), (6, .i2l, 1, 0, 0, 0), (7, .ldc2_w 142, 3, 3, 1000, 936), (10, .aload_n 0, 1, 0, 0, 0), (11, .getfield 9, 3, 7, 0, 79), (14, .iload_n 1, 1, 0, 0, 0), (15, .iaload, 1, 0, 0, 0), (16, .i2l, 1, 0, 0, 0), (17, .lmul, 1, 0, 0, 0), (18, .ladd, 1, 0, 0, 0), (19, .ldc2_w 144, 3, 3, 1000000, 937), (22, .aload_n 0, 1, 0, 0, 0), (23, .getfield 18, 3, 7, 2, 83), (26, .iload_n 1, 1, 0, 0, 0), (27, .iaload, 1, 0, 0, 0), (28, .i2l, 1, 0, 0, 0), (29, .lmul, 1, 0, 0, 0), (30, .ladd, 1, 0, 0, 0), (31, .lreturn, 1, 0, 0, 0)]
def zt_X3_pipeNumber : List zE := [(0, .aload_n 0, 1, 0, 0, 0), (1, .getfield 30, 3, 7, 6, 95), (4, .iload_n 1, 1, 0, 0, 0), (5, .iaload, 1, 0, 0, 0), (6, .i2l, 1, 0, 0, 0), (7, .ldc2_w 146, 3, 3, 5, 942), (10, .aload_n 0, 1, 0, 0, 0), (11, .getfield 36, 3, 7, 8, 100), (14, .iload_n 1, 1, 0, 0, 0), (15, .iaload, 1, 0, 0, 0), (16, .i2l, 1, 0, 0, 0), (17, .lmul, 1, 0, 0, 0), (18, .ladd, 1, 0, 0, 0), (19, .ldc2_w 142, 3, 3, 1000, 936), (22, .aload_n 0, 1, 0, 0, 0), (23, .getfield 33, 3, 7, 7, 98), (26, .iload_n 1, 1, 0, 0, 0), (27, .iaload, 1, 0, 0, 0), (28, .i2l, 1, 0, 0, 0), (29, .lmul, 1, 0, 0, 0), (30, .ladd, 1, 0, 0, 0), (31, .ldc2_w 148, 3, 3, 10000, 943), (34, .aload_n 0, 1, 0, 0, 0), (35, .getfield 27, 3, 7, 5, 92), (38, .iload_n 1, 1, 0, 0, 0), (39, .iaload, 1, 0, 0, 0), (40, .i2l, 1, 0, 0, 0), (41, .lmul, 1, 0, 0, 0), (42, .ladd, 1, 0, 0, 0), (43, .lreturn, 1, 0, 0, 0)]
def zt_X4_init : List zE := [(0, .aload_n 0, 1, 0, 0, 0), (1, .invokespecial 1, 3, 0, 7, 70), (4, .aload_n 0, 1, 0, 0, 0), (5, .new 7, 3, 7, 0, 73), (8, .dup, 1, 0, 0, 0), (9, .invokespecial 9, 3, 38, 6, 75), (12, .putfield 10, 3, 8, 0, 279), (15, .aload_n 0, 1, 0, 0, 0), (16, .new 7, 3, 7, 0, 73), (19, .dup, 1, 0, 0, 0), (20, .invokespecial 9, 3, 38, 6, 75), (23, .putfield 16, 3, 8, 1, 280), (26, .aload_n 0, 1, 0, 0, 0), (27, .new 7, 3, 7, 0, 73), (30, .dup, 1, 0, 0, 0), (31, .invokespecial 9, 3, 38, 6, 75), (34, .putfield 19, 3, 8, 2, 281), (37, .aload_n 0, 1, 0, 0, 0), (38, .new 7, 3, 7, 0, 73), (41, .dup, 1, 0, 0, 0), (42, .invokespecial 9, 3, 38, 6, 75), (45, .putfield 22, 3, 8, 3, 282), (48, .aload_n 0, 1, 0, 0, 0), (49, .new 25, 3, 5, 0, 152), (52, .dup, 1, 0, 0, 0), (53, .invokespecial 27, 3, 19, 5, 154), (56, .putfield 28, 3, 8, 4, 283), (59, .aload_n 0, 1, 0, 0, 0), (60, .new 32, 3, 4, 0, 172), (63, .dup, 1, 0, 0, 0), (64, .aload_n 0, 1, 0, 0, 0), (65, .getfield 10, 3, 8, 0, 279), (68, .invokespecial 34, 3, 0, 5, 174), (71, .putfield 37, 3, 8, 5, 284), (74, .aload_n 0, 1, 0, 0, 0), (75, .new 41, 3, 6, 0, 217), (78, .dup, 1, 0, 0, 0), (79, .invokespecial 43, 3, 22, 6, 219), (82, .putfield 44, 3, 8, 6, 285), (85, .aload_n 0, 1, 0, 0, 0), (86, .new 48, 3, 1, 0, 246), (89, .dup, 1, 0, 0, 0), (90, .invokespecial 50, 3, 203, 5, 248), (93, .putfield 51, 3, 8, 7, 286), (96, .aload_n 0, 1, 0, 0, 0), (97, .iconst (-1), 1, 0, 0, 0), (98, .putfield 55, 3, 8, 9, 288), (101, .aload_n 0, 1, 0, 0, 0), (102, .iconst (-1), 1, 0, 0, 0), (103, .putfield 59, 3, 8, 10, 289), (106, .return_, 1, 0, 0, 0)]
def zt_X4_addTank : List zE := [(0, .aload_n 0, 1, 0, 0, 0), (1, .iconst 0, 1, 0, 0, 0), (2, .iload_n 1, 1, 0, 0, 0), (3, .iconst 0, 1, 0, 0, 0), (4, .iconst 0, 1, 0, 0, 0), (5, .invokevirtual 62, 3, 74, 3, 356), (8, .ireturn, 1, 0, 0, 0)]
def zt_X4_addPipe : List zE := [(0, .aload_n 0, 1, 0, 0, 0), (1, .iconst 1, 1, 0, 0, 0), (2, .iload_n 1, 1, 0, 0, 0), (3, .iload_n 2, 1, 0, 0, 0), (4, .iload_n 3, 1, 0, 0, 0), (5, .invokevirtual 62, 3, 74, 3, 356), (8, .ireturn, 1, 0, 0, 0)]
def zt_X4_pour : List zE := [(0, .aload_n 0, 1, 0, 0, 0), (1, .iconst 2, 1, 0, 0, 0), (2, .iload_n 1, 1, 0, 0, 0), (3, .iload_n 2, 1, 0, 0, 0), (4, .iload_n 3, 1, 0, 0, 0), (5, .invokevirtual 62, 3, 74, 3, 356), (8, .ireturn, 1, 0, 0, 0)]
def zt_X4_draw : List zE := [(0, .aload_n 0, 1, 0, 0, 0), (1, .iconst 3, 1, 0, 0, 0), (2, .iload_n 1, 1, 0, 0, 0), (3, .iload_n 2, 1, 0, 0, 0), (4, .iconst 0, 1, 0, 0, 0), (5, .invokevirtual 62, 3, 74, 3, 356), (8, .ireturn, 1, 0, 0, 0)]
def zt_X4_setValve : List zE := [(0, .aload_n 0, 1, 0, 0, 0), (1, .iconst 4, 1, 0, 0, 0), (2, .iload_n 1, 1, 0, 0, 0), (3, .iload_n 2, 1, 0, 0, 0), (4, .iconst 0, 1, 0, 0, 0), (5, .invokevirtual 62, 3, 74, 3, 356), (8, .ireturn, 1, 0, 0, 0)]
def zt_X4_setLeak : List zE := [(0, .aload_n 0, 1, 0, 0, 0), (1, .iconst 5, 1, 0, 0, 0), (2, .iload_n 1, 1, 0, 0, 0), (3, .iload_n 2, 1, 0, 0, 0), (4, .iconst 0, 1, 0, 0, 0), (5, .invokevirtual 62, 3, 74, 3, 356), (8, .ireturn, 1, 0, 0, 0)]
def zt_X4_cleanFilter : List zE := [(0, .aload_n 0, 1, 0, 0, 0), (1, .bipush 6, 2, 0, 0, 0), (3, .iload_n 1, 1, 0, 0, 0), (4, .iconst 0, 1, 0, 0, 0), (5, .iconst 0, 1, 0, 0, 0), (6, .invokevirtual 62, 3, 74, 3, 356), (9, .ireturn, 1, 0, 0, 0)]
def zt_X4_advance : List zE := [(0, .aload_n 0, 1, 0, 0, 0), (1, .bipush 7, 2, 0, 0, 0), (3, .iload_n 1, 1, 0, 0, 0), (4, .iconst 0, 1, 0, 0, 0), (5, .iconst 0, 1, 0, 0, 0), (6, .invokevirtual 62, 3, 74, 3, 356), (9, .ireturn, 1, 0, 0, 0)]
def zt_X4_change : List zE := [(0, .aload_n 0, 1, 0, 0, 0), (1, .getfield 10, 3, 8, 0, 279), (4, .iload_n 1, 1, 0, 0, 0), (5, .iload_n 2, 1, 0, 0, 0), (6, .iload_n 3, 1, 0, 0, 0), (7, .iload 4, 2, 0, 0, 0), (9, .invokevirtual 66, 3, 42, 3, 360), (12, .invokestatic 69, 3, 75, 0, 395), (15, .aload_n 0, 1, 0, 0, 0), (16, .getfield 28, 3, 8, 4, 283), (19, .aload_n 0, 1, 0, 0, 0), (20, .getfield 10, 3, 8, 0, 279), (23, .invokevirtual 73, 3, 20, 3, 518), (26, .aload_n 0, 1, 0, 0, 0), (27, .getfield 10, 3, 8, 0, 279), (30, .iload_n 1, 1, 0, 0, 0), (31, .iload_n 2, 1, 0, 0, 0), (32, .iload_n 3, 1, 0, 0, 0), (33, .iload 4, 2, 0, 0, 0), (35, .invokevirtual 76, 3, 49, 3, 526), (38, .ireturn, 1, 0, 0, 0)]
def zt_X4_throwFor : List zE := [(0, .iload_n 0, 1, 0, 0, 0), (1, .tableswitch 71 1 4 #[31, 41, 51, 61], 31, 0, 0, 0), (32, .new 79, 3, 0, 1, 398), (35, .dup, 1, 0, 0, 0), (36, .ldc 81, 2, 2, 0, 0), (38, .invokespecial 83, 3, 0, 10, 445), (41, .athrow, 1, 0, 0, 0), (42, .new 86, 3, 1, 1, 470), (45, .dup, 1, 0, 0, 0), (46, .ldc 88, 2, 2, 1, 0), (48, .invokespecial 90, 3, 1, 10, 480), (51, .athrow, 1, 0, 0, 0), (52, .new 91, 3, 2, 1, 486), (55, .dup, 1, 0, 0, 0), (56, .ldc 93, 2, 2, 2, 0), (58, .invokespecial 95, 3, 2, 10, 496), (61, .athrow, 1, 0, 0, 0), (62, .new 96, 3, 3, 1, 502), (65, .dup, 1, 0, 0, 0), (66, .ldc 98, 2, 2, 3, 0), (68, .invokespecial 100, 3, 3, 10, 512), (71, .athrow, 1, 0, 0, 0), (72, .return_, 1, 0, 0, 0)]
def zt_X4_needTank : List zE := [(0, .aload_n 0, 1, 0, 0, 0), (1, .getfield 10, 3, 8, 0, 279), (4, .iload_n 1, 1, 0, 0, 0), (5, .invokevirtual 101, 3, 40, 3, 654), (8, .ifCond .ne 13, 3, 0, 0, 0), (11, .new 79, 3, 0, 1, 398), (14, .dup, 1, 0, 0, 0), (15, .ldc 105, 2, 2, 4, 0), (17, .invokespecial 83, 3, 0, 10, 445), (20, .athrow, 1, 0, 0, 0), (21, .return_, 1, 0, 0, 0)]
def zt_X4_needPipe : List zE := [(0, .aload_n 0, 1, 0, 0, 0), (1, .getfield 10, 3, 8, 0, 279), (4, .iload_n 1, 1, 0, 0, 0), (5, .invokevirtual 107, 3, 41, 3, 674), (8, .ifCond .ne 13, 3, 0, 0, 0), (11, .new 79, 3, 0, 1, 398), (14, .dup, 1, 0, 0, 0), (15, .ldc 110, 2, 2, 5, 0), (17, .invokespecial 83, 3, 0, 10, 445), (20, .athrow, 1, 0, 0, 0), (21, .return_, 1, 0, 0, 0)]
def zt_X4_tankCount : List zE := [(0, .aload_n 0, 1, 0, 0, 0), (1, .getfield 10, 3, 8, 0, 279), (4, .getfield 112, 3, 7, 10, 106), (7, .ireturn, 1, 0, 0, 0)]
def zt_X4_capacity : List zE := [(0, .aload_n 0, 1, 0, 0, 0), (1, .iload_n 1, 1, 0, 0, 0), (2, .invokevirtual 115, 3, 76, 3, 650), (5, .aload_n 0, 1, 0, 0, 0), (6, .getfield 10, 3, 8, 0, 279), (9, .getfield 118, 3, 7, 0, 80), (12, .iload_n 1, 1, 0, 0, 0), (13, .iaload, 1, 0, 0, 0), (14, .ireturn, 1, 0, 0, 0)]
def zt_X4_content : List zE := [(0, .aload_n 0, 1, 0, 0, 0), (1, .iload_n 1, 1, 0, 0, 0), (2, .invokevirtual 115, 3, 76, 3, 650), (5, .aload_n 0, 1, 0, 0, 0), (6, .getfield 10, 3, 8, 0, 279), (9, .getfield 122, 3, 7, 1, 82), (12, .iload_n 1, 1, 0, 0, 0), (13, .iaload, 1, 0, 0, 0), (14, .ireturn, 1, 0, 0, 0)]
def zt_X4_impurities : List zE := [(0, .aload_n 0, 1, 0, 0, 0), (1, .iload_n 1, 1, 0, 0, 0), (2, .invokevirtual 115, 3, 76, 3, 650), (5, .aload_n 0, 1, 0, 0, 0), (6, .getfield 10, 3, 8, 0, 279), (9, .getfield 125, 3, 7, 2, 84), (12, .iload_n 1, 1, 0, 0, 0), (13, .iaload, 1, 0, 0, 0), (14, .ireturn, 1, 0, 0, 0)]
def zt_X4_hasImpurity : List zE := [(0, .aload_n 0, 1, 0, 0, 0), (1, .iload_n 1, 1, 0, 0, 0), (2, .invokevirtual 115, 3, 76, 3, 650), (5, .iload_n 2, 1, 0, 0, 0), (6, .bipush 97, 2, 0, 0, 0), (8, .if_icmp .lt 9, 3, 0, 0, 0), (11, .iload_n 2, 1, 0, 0, 0), (12, .bipush 104, 2, 0, 0, 0), (14, .if_icmp .le 13, 3, 0, 0, 0), (17, .new 86, 3, 1, 1, 470), (20, .dup, 1, 0, 0, 0), (21, .ldc 128, 2, 2, 6, 0), (23, .invokespecial 90, 3, 1, 10, 480), (26, .athrow, 1, 0, 0, 0), (27, .aload_n 0, 1, 0, 0, 0), (28, .getfield 10, 3, 8, 0, 279), (31, .getfield 125, 3, 7, 2, 84), (34, .iload_n 1, 1, 0, 0, 0), (35, .iaload, 1, 0, 0, 0), (36, .iload_n 2, 1, 0, 0, 0), (37, .bipush 97, 2, 0, 0, 0), (39, .isub, 1, 0, 0, 0), (40, .invokestatic 130, 3, 127, 0, 1296), (43, .ireturn, 1, 0, 0, 0)]
def zt_X4_tankByContent : List zE := [(0, .iconst 0, 1, 0, 0, 0), (1, .istore_n 2, 1, 0, 0, 0), (2, .iload_n 2, 1, 0, 0, 0), (3, .aload_n 0, 1, 0, 0, 0), (4, .getfield 10, 3, 8, 0, 279), (7, .getfield 112, 3, 7, 10, 106), (10, .if_icmp .ge 20, 3, 0, 0, 0), (13, .aload_n 0, 1, 0, 0, 0), (14, .iload_n 2, 1, 0, 0, 0), (15, .invokevirtual 134, 3, 84, 3, 1008), (18, .iload_n 1, 1, 0, 0, 0), (19, .if_icmp .ne 5, 3, 0, 0, 0), (22, .iload_n 2, 1, 0, 0, 0), (23, .ireturn, 1, 0, 0, 0), (24, .iinc 2 1, 3, 0, 0, 0), (27, .goto (-25), 3, 0, 0, 0), (30, .new 138, 3, 4, 1, 843), (33, .dup, 1, 0, 0, 0), (34, .ldc 140, 2, 2, 7, 0), (36, .invokespecial 142, 3, 4, 10, 853), (39, .athrow, 1, 0, 0, 0)]
def zt_X4_tanksBefore : List zE := [(0, .iconst 0, 1, 0, 0, 0), (1, .istore_n 2, 1, 0, 0, 0), (2, .iconst 0, 1, 0, 0, 0), (3, .istore_n 3, 1, 0, 0, 0), (4, .iload_n 3, 1, 0, 0, 0), (5, .aload_n 0, 1, 0, 0, 0), (6, .getfield 10, 3, 8, 0, 279), (9, .getfield 112, 3, 7, 10, 106), (12, .if_icmp .ge 24, 3, 0, 0, 0), (15, .aload_n 0, 1, 0, 0, 0), (16, .getfield 10, 3, 8, 0, 279), (19, .iload_n 3, 1, 0, 0, 0), (20, .iload_n 1, 1, 0, 0, 0), (21, .invokevirtual 143, 3, 60, 3, 1012), (24, .ifCond .eq 6, 3, 0, 0, 0), (27, .iinc 2 1, 3, 0, 0, 0), (30, .iinc 3 1, 3, 0, 0, 0), (33, .goto (-29), 3, 0, 0, 0), (36, .iload_n 2, 1, 0, 0, 0), (37, .ireturn, 1, 0, 0, 0)]
def zt_X4_fillShare : List zE := [(0, .aload_n 0, 1, 0, 0, 0), (1, .iload_n 1, 1, 0, 0, 0), (2, .invokevirtual 115, 3, 76, 3, 650), (5, .aload_n 0, 1, 0, 0, 0), (6, .getfield 10, 3, 8, 0, 279), (9, .getfield 122, 3, 7, 1, 82), (12, .iload_n 1, 1, 0, 0, 0), (13, .iaload, 1, 0, 0, 0), (14, .i2f, 1, 0, 0, 0), (15, .aload_n 0, 1, 0, 0, 0), (16, .getfield 10, 3, 8, 0, 279), (19, .getfield 118, 3, 7, 0, 80), (22, .iload_n 1, 1, 0, 0, 0), (23, .iaload, 1, 0, 0, 0), (24, .i2f, 1, 0, 0, 0), (25, .fdiv, 1, 0, 0, 0), (26, .freturn, 1, 0, 0, 0)]
def zt_X4_fillShareBits : List zE := [(0, .aload_n 0, 1, 0, 0, 0), (1, .iload_n 1, 1, 0, 0, 0), (2, .invokevirtual 146, 3, 85, 3, 993), (5, .invokestatic 150, 3, 128, 0, 997), (8, .ireturn, 1, 0, 0, 0)]
def zt_X4_pipeCount : List zE := [(0, .aload_n 0, 1, 0, 0, 0), (1, .getfield 10, 3, 8, 0, 279), (4, .getfield 154, 3, 7, 11, 109), (7, .ireturn, 1, 0, 0, 0)]
def zt_X4_firstOf : List zE := [(0, .aload_n 0, 1, 0, 0, 0), (1, .iload_n 1, 1, 0, 0, 0), (2, .invokevirtual 157, 3, 77, 3, 670), (5, .aload_n 0, 1, 0, 0, 0), (6, .getfield 10, 3, 8, 0, 279), (9, .getfield 160, 3, 7, 3, 88), (12, .iload_n 1, 1, 0, 0, 0), (13, .iaload, 1, 0, 0, 0), (14, .ireturn, 1, 0, 0, 0)]
def zt_X4_secondOf : List zE := [(0, .aload_n 0, 1, 0, 0, 0), (1, .iload_n 1, 1, 0, 0, 0), (2, .invokevirtual 157, 3, 77, 3, 670), (5, .aload_n 0, 1, 0, 0, 0), (6, .getfield 10, 3, 8, 0, 279), (9, .getfield 163, 3, 7, 4, 91), (12, .iload_n 1, 1, 0, 0, 0), (13, .iaload, 1, 0, 0, 0), (14, .ireturn, 1, 0, 0, 0)]
def zt_X4_valve : List zE := [(0, .aload_n 0, 1, 0, 0, 0), (1, .iload_n 1, 1, 0, 0, 0), (2, .invokevirtual 157, 3, 77, 3, 670), (5, .aload_n 0, 1, 0, 0, 0), (6, .getfield 10, 3, 8, 0, 279), (9, .getfield 166, 3, 7, 6, 97), (12, .iload_n 1, 1, 0, 0, 0), (13, .iaload, 1, 0, 0, 0), (14, .ireturn, 1, 0, 0, 0)]
def zt_X4_leak : List zE := [(0, .aload_n 0, 1, 0, 0, 0), (1, .iload_n 1, 1, 0, 0, 0), (2, .invokevirtual 157, 3, 77, 3, 670), (5, .aload_n 0, 1, 0, 0, 0), (6, .getfield 10, 3, 8, 0, 279), (9, .getfield 169, 3, 7, 7, 99), (12, .iload_n 1, 1, 0, 0, 0), (13, .iaload, 1, 0, 0, 0), (14, .ireturn, 1, 0, 0, 0)]
def zt_X4_mesh : List zE := [(0, .aload_n 0, 1, 0, 0, 0), (1, .iload_n 1, 1, 0, 0, 0), (2, .invokevirtual 157, 3, 77, 3, 670), (5, .aload_n 0, 1, 0, 0, 0), (6, .getfield 10, 3, 8, 0, 279), (9, .getfield 172, 3, 7, 5, 94), (12, .iload_n 1, 1, 0, 0, 0), (13, .iaload, 1, 0, 0, 0), (14, .ireturn, 1, 0, 0, 0)]
def zt_X4_dirt : List zE := [(0, .aload_n 0, 1, 0, 0, 0), (1, .iload_n 1, 1, 0, 0, 0), (2, .invokevirtual 157, 3, 77, 3, 670), (5, .aload_n 0, 1, 0, 0, 0), (6, .getfield 10, 3, 8, 0, 279), (9, .getfield 175, 3, 7, 8, 101), (12, .iload_n 1, 1, 0, 0, 0), (13, .iaload, 1, 0, 0, 0), (14, .ireturn, 1, 0, 0, 0)]
def zt_X4_isOpen : List zE := [(0, .aload_n 0, 1, 0, 0, 0), (1, .iload_n 1, 1, 0, 0, 0), (2, .invokevirtual 157, 3, 77, 3, 670), (5, .aload_n 0, 1, 0, 0, 0), (6, .getfield 10, 3, 8, 0, 279), (9, .iload_n 1, 1, 0, 0, 0), (10, .invokevirtual 178, 3, 58, 3, 1462), (13, .ireturn, 1, 0, 0, 0)]
def zt_X4_flow : List zE := [(0, .aload_n 0, 1, 0, 0, 0), (1, .iload_n 1, 1, 0, 0, 0), (2, .invokevirtual 157, 3, 77, 3, 670), (5, .aload_n 0, 1, 0, 0, 0), (6, .getfield 10, 3, 8, 0, 279), (9, .iload_n 1, 1, 0, 0, 0), (10, .invokevirtual 181, 3, 59, 3, 1323), (13, .ireturn, 1, 0, 0, 0)]
def zt_X4_litresThrough : List zE := [(0, .aload_n 0, 1, 0, 0, 0), (1, .iload_n 1, 1, 0, 0, 0), (2, .invokevirtual 157, 3, 77, 3, 670), (5, .aload_n 0, 1, 0, 0, 0), (6, .getfield 10, 3, 8, 0, 279), (9, .getfield 184, 3, 7, 9, 103), (12, .iload_n 1, 1, 0, 0, 0), (13, .iaload, 1, 0, 0, 0), (14, .ireturn, 1, 0, 0, 0)]
def zt_X4_pipeByDirt : List zE := [(0, .iconst 0, 1, 0, 0, 0), (1, .istore_n 2, 1, 0, 0, 0), (2, .iload_n 2, 1, 0, 0, 0), (3, .aload_n 0, 1, 0, 0, 0), (4, .getfield 10, 3, 8, 0, 279), (7, .getfield 154, 3, 7, 11, 109), (10, .if_icmp .ge 20, 3, 0, 0, 0), (13, .aload_n 0, 1, 0, 0, 0), (14, .iload_n 2, 1, 0, 0, 0), (15, .invokevirtual 187, 3, 98, 3, 1331), (18, .iload_n 1, 1, 0, 0, 0), (19, .if_icmp .ne 5, 3, 0, 0, 0), (22, .iload_n 2, 1, 0, 0, 0), (23, .ireturn, 1, 0, 0, 0), (24, .iinc 2 1, 3, 0, 0, 0), (27, .goto (-25), 3, 0, 0, 0), (30, .new 138, 3, 4, 1, 843), (33, .dup, 1, 0, 0, 0), (34, .ldc 140, 2, 2, 7, 0), (36, .invokespecial 142, 3, 4, 10, 853), (39, .athrow, 1, 0, 0, 0)]
def zt_X4_pipesBefore : List zE := [(0, .iconst 0, 1, 0, 0, 0), (1, .istore_n 2, 1, 0, 0, 0), (2, .iconst 0, 1, 0, 0, 0), (3, .istore_n 3, 1, 0, 0, 0), (4, .iload_n 3, 1, 0, 0, 0), (5, .aload_n 0, 1, 0, 0, 0), (6, .getfield 10, 3, 8, 0, 279), (9, .getfield 154, 3, 7, 11, 109), (12, .if_icmp .ge 24, 3, 0, 0, 0), (15, .aload_n 0, 1, 0, 0, 0), (16, .getfield 10, 3, 8, 0, 279), (19, .iload_n 3, 1, 0, 0, 0), (20, .iload_n 1, 1, 0, 0, 0), (21, .invokevirtual 190, 3, 61, 3, 1335), (24, .ifCond .eq 6, 3, 0, 0, 0), (27, .iinc 2 1, 3, 0, 0, 0), (30, .iinc 3 1, 3, 0, 0, 0), (33, .goto (-29), 3, 0, 0, 0), (36, .iload_n 2, 1, 0, 0, 0), (37, .ireturn, 1, 0, 0, 0)]
def zt_X4_areConnected : List zE := [(0, .aload_n 0, 1, 0, 0, 0), (1, .iload_n 1, 1, 0, 0, 0), (2, .invokevirtual 115, 3, 76, 3, 650), (5, .aload_n 0, 1, 0, 0, 0), (6, .iload_n 2, 1, 0, 0, 0), (7, .invokevirtual 115, 3, 76, 3, 650), (10, .aload_n 0, 1, 0, 0, 0), (11, .getfield 37, 3, 8, 5, 284), (14, .iload_n 1, 1, 0, 0, 0), (15, .iload_n 2, 1, 0, 0, 0), (16, .invokevirtual 193, 3, 4, 3, 1028), (19, .ireturn, 1, 0, 0, 0)]
def zt_X4_groupCount : List zE := [(0, .aload_n 0, 1, 0, 0, 0), (1, .getfield 37, 3, 8, 5, 284), (4, .invokevirtual 196, 3, 5, 3, 952), (7, .ireturn, 1, 0, 0, 0)]
def zt_X4_isBridge : List zE := [(0, .aload_n 0, 1, 0, 0, 0), (1, .iload_n 1, 1, 0, 0, 0), (2, .invokevirtual 157, 3, 77, 3, 670), (5, .aload_n 0, 1, 0, 0, 0), (6, .getfield 37, 3, 8, 5, 284), (9, .iload_n 1, 1, 0, 0, 0), (10, .invokevirtual 203, 3, 6, 3, 1353), (13, .ireturn, 1, 0, 0, 0)]
def zt_X4_bridgeCount : List zE := [(0, .aload_n 0, 1, 0, 0, 0), (1, .getfield 37, 3, 8, 5, 284), (4, .invokevirtual 206, 3, 7, 3, 972), (7, .ireturn, 1, 0, 0, 0)]
def zt_X4_width : List zE := [(0, .aload_n 0, 1, 0, 0, 0), (1, .iload_n 1, 1, 0, 0, 0), (2, .invokevirtual 115, 3, 76, 3, 650), (5, .aload_n 0, 1, 0, 0, 0), (6, .iload_n 2, 1, 0, 0, 0), (7, .invokevirtual 115, 3, 76, 3, 650), (10, .aload_n 0, 1, 0, 0, 0), (11, .getfield 37, 3, 8, 5, 284), (14, .iload_n 1, 1, 0, 0, 0), (15, .iload_n 2, 1, 0, 0, 0), (16, .invokevirtual 212, 3, 9, 3, 1477), (19, .ireturn, 1, 0, 0, 0)]
def zt_X4_widthBySettings : List zE := [(0, .aload_n 0, 1, 0, 0, 0), (1, .iload_n 1, 1, 0, 0, 0), (2, .invokevirtual 115, 3, 76, 3, 650), (5, .aload_n 0, 1, 0, 0, 0), (6, .iload_n 2, 1, 0, 0, 0), (7, .invokevirtual 115, 3, 76, 3, 650), (10, .aload_n 0, 1, 0, 0, 0), (11, .getfield 37, 3, 8, 5, 284), (14, .iload_n 1, 1, 0, 0, 0), (15, .iload_n 2, 1, 0, 0, 0), (16, .invokevirtual 216, 3, 12, 3, 1497), (19, .ireturn, 1, 0, 0, 0)]
def zt_X4_cleanest : List zE := [(0, .aload_n 0, 1, 0, 0, 0), (1, .iload_n 1, 1, 0, 0, 0), (2, .iload_n 2, 1, 0, 0, 0), (3, .invokevirtual 219, 3, 107, 3, 1024), (6, .aload_n 0, 1, 0, 0, 0), (7, .getfield 37, 3, 8, 5, 284), (10, .iload_n 1, 1, 0, 0, 0), (11, .invokevirtual 223, 3, 13, 3, 1033), (14, .aload_n 0, 1, 0, 0, 0), (15, .getfield 37, 3, 8, 5, 284), (18, .getfield 226, 3, 4, 5, 184), (21, .iload_n 2, 1, 0, 0, 0), (22, .iaload, 1, 0, 0, 0), (23, .ireturn, 1, 0, 0, 0)]
def zt_X4_cleanestByPasses : List zE := [(0, .aload_n 0, 1, 0, 0, 0), (1, .iload_n 1, 1, 0, 0, 0), (2, .iload_n 2, 1, 0, 0, 0), (3, .invokevirtual 219, 3, 107, 3, 1024), (6, .aload_n 0, 1, 0, 0, 0), (7, .getfield 37, 3, 8, 5, 284), (10, .iload_n 1, 1, 0, 0, 0), (11, .invokevirtual 229, 3, 15, 3, 1413), (14, .aload_n 0, 1, 0, 0, 0), (15, .getfield 37, 3, 8, 5, 284), (18, .getfield 232, 3, 4, 6, 186), (21, .iload_n 2, 1, 0, 0, 0), (22, .iaload, 1, 0, 0, 0), (23, .ireturn, 1, 0, 0, 0)]
def zt_X4_needConnection : List zE := [(0, .aload_n 0, 1, 0, 0, 0), (1, .iload_n 1, 1, 0, 0, 0), (2, .invokevirtual 115, 3, 76, 3, 650), (5, .aload_n 0, 1, 0, 0, 0), (6, .iload_n 2, 1, 0, 0, 0), (7, .invokevirtual 115, 3, 76, 3, 650), (10, .aload_n 0, 1, 0, 0, 0), (11, .getfield 37, 3, 8, 5, 284), (14, .iload_n 1, 1, 0, 0, 0), (15, .iload_n 2, 1, 0, 0, 0), (16, .invokevirtual 193, 3, 4, 3, 1028), (19, .ifCond .ne 13, 3, 0, 0, 0), (22, .new 138, 3, 4, 1, 843), (25, .dup, 1, 0, 0, 0), (26, .ldc 235, 2, 2, 8, 0), (28, .invokespecial 142, 3, 4, 10, 853), (31, .athrow, 1, 0, 0, 0), (32, .return_, 1, 0, 0, 0)]
def zt_X4_time : List zE := [(0, .aload_n 0, 1, 0, 0, 0), (1, .getfield 10, 3, 8, 0, 279), (4, .getfield 249, 3, 7, 12, 111), (7, .ireturn, 1, 0, 0, 0)]
def zt_X4_pouredTotal : List zE := [(0, .aload_n 0, 1, 0, 0, 0), (1, .getfield 10, 3, 8, 0, 279), (4, .getfield 252, 3, 7, 13, 113), (7, .ireturn, 1, 0, 0, 0)]
def zt_X4_drawnTotal : List zE := [(0, .aload_n 0, 1, 0, 0, 0), (1, .getfield 10, 3, 8, 0, 279), (4, .getfield 255, 3, 7, 14, 115), (7, .ireturn, 1, 0, 0, 0)]
def zt_X4_spilledTotal : List zE := [(0, .aload_n 0, 1, 0, 0, 0), (1, .getfield 10, 3, 8, 0, 279), (4, .getfield 258, 3, 7, 15, 117), (7, .ireturn, 1, 0, 0, 0)]
def zt_X4_meanContent : List zE := [(0, .aload_n 0, 1, 0, 0, 0), (1, .getfield 10, 3, 8, 0, 279), (4, .getfield 112, 3, 7, 10, 106), (7, .ifCond .ne 14, 3, 0, 0, 0), (10, .new 264, 3, 5, 1, 914), (13, .dup, 1, 0, 0, 0), (14, .ldc_w 266, 3, 2, 9, 0), (17, .invokespecial 268, 3, 5, 10, 916), (20, .athrow, 1, 0, 0, 0), (21, .aload_n 0, 1, 0, 0, 0), (22, .getfield 10, 3, 8, 0, 279), (25, .invokevirtual 261, 3, 62, 3, 917), (28, .i2d, 1, 0, 0, 0), (29, .aload_n 0, 1, 0, 0, 0), (30, .getfield 10, 3, 8, 0, 279), (33, .getfield 112, 3, 7, 10, 106), (36, .i2d, 1, 0, 0, 0), (37, .ddiv, 1, 0, 0, 0), (38, .dreturn, 1, 0, 0, 0)]
def zt_X4_meanContentBits : List zE := [(0, .aload_n 0, 1, 0, 0, 0), (1, .invokevirtual 269, 3, 112, 3, 910), (4, .invokestatic 273, 3, 129, 0, 921), (7, .lreturn, 1, 0, 0, 0)]
def zt_X4_fingerprint : List zE := [(0, .ldc2_w 277, 3, 3, 17, 931), (3, .lstore_n 1, 1, 0, 0, 0), (4, .iconst 0, 1, 0, 0, 0), (5, .istore_n 3, 1, 0, 0, 0), (6, .iload_n 3, 1, 0, 0, 0), (7, .aload_n 0, 1, 0, 0, 0), (8, .getfield 10, 3, 8, 0, 279), (11, .getfield 112, 3, 7, 10, 106), (14, .if_icmp .ge 27, 3, 0, 0, 0), (17, .lload_n 1, 1, 0, 0, 0), (18, .iconst 5, 1, 0, 0, 0), (19, .lshl, 1, 0, 0, 0), (20, .lload_n 1, 1, 0, 0, 0), (21, .bipush 59, 2, 0, 0, 0), (23, .lushr, 1, 0, 0, 0), (24, .lor, 1, 0, 0, 0), (25, .aload_n 0, 1, 0, 0, 0), (26, .getfield 10, 3, 8, 0, 279), (29, .iload_n 3, 1, 0, 0, 0), (30, .invokevirtual 279, 3, 63, 3, 932), (33, .lxor, 1, 0, 0, 0), (34, .lstore_n 1, 1, 0, 0, 0), (35, .iinc 3 1, 3, 0, 0, 0), (38, .goto (-32), 3, 0, 0, 0), (41, .iconst 0, 1, 0, 0, 0), (42, .istore_n 3, 1, 0, 0, 0), (43, .iload_n 3, 1, 0, 0, 0), (44, .aload_n 0, 1, 0, 0, 0), (45, .getfield 10, 3, 8, 0, 279), (48, .getfield 154, 3, 7, 11, 109), (51, .if_icmp .ge 28, 3, 0, 0, 0), (54, .lload_n 1, 1, 0, 0, 0), (55, .bipush 7, 2, 0, 0, 0), (57, .lshl, 1, 0, 0, 0), (58, .lload_n 1, 1, 0, 0, 0), (59, .bipush 57, 2, 0, 0, 0), (61, .lushr, 1, 0, 0, 0), (62, .lor, 1, 0, 0, 0), (63, .aload_n 0, 1, 0, 0, 0), (64, .getfield 10, 3, 8, 0, 279), (67, .iload_n 3, 1, 0, 0, 0), (68, .invokevirtual 283, 3, 64, 3, 938), (71, .lxor, 1, 0, 0, 0), (72, .lstore_n 1, 1, 0, 0, 0), (73, .iinc 3 1, 3, 0, 0, 0), (76, .goto (-33), 3, 0, 0, 0), (79, .lload_n 1, 1, 0, 0, 0), (80, .lreturn, 1, 0, 0, 0)]
def zt_X4_renderTank : List zE := [(0, .aload_n 0, 1, 0, 0, 0), (1, .iload_n 1, 1, 0, 0, 0), (2, .invokevirtual 115, 3, 76, 3, 650), (5, .aload_n 0, 1, 0, 0, 0), (6, .getfield 51, 3, 8, 7, 286), (9, .iconst 0, 1, 0, 0, 0), (10, .invokevirtual 295, 3, 209, 3, 1049), (13, .aload_n 0, 1, 0, 0, 0), (14, .getfield 51, 3, 8, 7, 286), (17, .iload_n 1, 1, 0, 0, 0), (18, .invokevirtual 298, 3, 206, 3, 1278), (21, .bipush 61, 2, 0, 0, 0), (23, .invokevirtual 302, 3, 205, 3, 1279), (26, .aload_n 0, 1, 0, 0, 0), (27, .getfield 10, 3, 8, 0, 279), (30, .getfield 122, 3, 7, 1, 82), (33, .iload_n 1, 1, 0, 0, 0), (34, .iaload, 1, 0, 0, 0), (35, .invokevirtual 298, 3, 206, 3, 1278), (38, .bipush 47, 2, 0, 0, 0), (40, .invokevirtual 302, 3, 205, 3, 1279), (43, .aload_n 0, 1, 0, 0, 0), (44, .getfield 10, 3, 8, 0, 279), (47, .getfield 118, 3, 7, 0, 80), (50, .iload_n 1, 1, 0, 0, 0), (51, .iaload, 1, 0, 0, 0), (52, .invokevirtual 298, 3, 206, 3, 1278), (55, .pop, 1, 0, 0, 0), (56, .aload_n 0, 1, 0, 0, 0), (57, .getfield 10, 3, 8, 0, 279), (60, .getfield 125, 3, 7, 2, 84), (63, .iload_n 1, 1, 0, 0, 0), (64, .iaload, 1, 0, 0, 0), (65, .ifCond .eq 26, 3, 0, 0, 0), (68, .aload_n 0, 1, 0, 0, 0), (69, .getfield 51, 3, 8, 7, 286), (72, .bipush 58, 2, 0, 0, 0), (74, .invokevirtual 302, 3, 205, 3, 1279), (77, .pop, 1, 0, 0, 0), (78, .aload_n 0, 1, 0, 0, 0), (79, .aload_n 0, 1, 0, 0, 0), (80, .getfield 10, 3, 8, 0, 279), (83, .getfield 125, 3, 7, 2, 84), (86, .iload_n 1, 1, 0, 0, 0), (87, .iaload, 1, 0, 0, 0), (88, .invokevirtual 305, 3, 116, 3, 1292), (91, .aload_n 0, 1, 0, 0, 0), (92, .getfield 51, 3, 8, 7, 286), (95, .invokevirtual 308, 3, 210, 3, 1297), (98, .ireturn, 1, 0, 0, 0)]
def zt_X4_appendLetters : List zE := [(0, .iconst 0, 1, 0, 0, 0), (1, .istore_n 2, 1, 0, 0, 0), (2, .iload_n 2, 1, 0, 0, 0), (3, .bipush 8, 2, 0, 0, 0), (5, .if_icmp .ge 30, 3, 0, 0, 0), (8, .iload_n 1, 1, 0, 0, 0), (9, .iload_n 2, 1, 0, 0, 0), (10, .invokestatic 130, 3, 127, 0, 1296), (13, .ifCond .eq 16, 3, 0, 0, 0), (16, .aload_n 0, 1, 0, 0, 0), (17, .getfield 51, 3, 8, 7, 286), (20, .bipush 97, 2, 0, 0, 0), (22, .iload_n 2, 1, 0, 0, 0), (23, .iadd, 1, 0, 0, 0), (24, .i2c, 1, 0, 0, 0), (25, .invokevirtual 302, 3, 205, 3, 1279), (28, .pop, 1, 0, 0, 0), (29, .iinc 2 1, 3, 0, 0, 0), (32, .goto (-30), 3, 0, 0, 0), (35, .return_, 1, 0, 0, 0)]
def zt_X4_renderPipe : List zE := [(0, .aload_n 0, 1, 0, 0, 0), (1, .iload_n 1, 1, 0, 0, 0), (2, .invokevirtual 157, 3, 77, 3, 670), (5, .aload_n 0, 1, 0, 0, 0), (6, .getfield 51, 3, 8, 7, 286), (9, .iconst 0, 1, 0, 0, 0), (10, .invokevirtual 295, 3, 209, 3, 1049), (13, .aload_n 0, 1, 0, 0, 0), (14, .getfield 51, 3, 8, 7, 286), (17, .iload_n 1, 1, 0, 0, 0), (18, .invokevirtual 298, 3, 206, 3, 1278), (21, .bipush 58, 2, 0, 0, 0), (23, .invokevirtual 302, 3, 205, 3, 1279), (26, .aload_n 0, 1, 0, 0, 0), (27, .getfield 10, 3, 8, 0, 279), (30, .getfield 160, 3, 7, 3, 88), (33, .iload_n 1, 1, 0, 0, 0), (34, .iaload, 1, 0, 0, 0), (35, .invokevirtual 298, 3, 206, 3, 1278), (38, .bipush 45, 2, 0, 0, 0), (40, .invokevirtual 302, 3, 205, 3, 1279), (43, .aload_n 0, 1, 0, 0, 0), (44, .getfield 10, 3, 8, 0, 279), (47, .getfield 163, 3, 7, 4, 91), (50, .iload_n 1, 1, 0, 0, 0), (51, .iaload, 1, 0, 0, 0), (52, .invokevirtual 298, 3, 206, 3, 1278), (55, .pop, 1, 0, 0, 0), (56, .aload_n 0, 1, 0, 0, 0), (57, .getfield 51, 3, 8, 7, 286), (60, .bipush 118, 2, 0, 0, 0), (62, .invokevirtual 302, 3, 205, 3, 1279), (65, .aload_n 0, 1, 0, 0, 0), (66, .getfield 10, 3, 8, 0, 279), (69, .getfield 166, 3, 7, 6, 97), (72, .iload_n 1, 1, 0, 0, 0), (73, .iaload, 1, 0, 0, 0), (74, .invokevirtual 298, 3, 206, 3, 1278), (77, .bipush 100, 2, 0, 0, 0), (79, .invokevirtual 302, 3, 205, 3, 1279), (82, .aload_n 0, 1, 0, 0, 0), (83, .getfield 10, 3, 8, 0, 279), (86, .getfield 175, 3, 7, 8, 101), (89, .iload_n 1, 1, 0, 0, 0), (90, .iaload, 1, 0, 0, 0), (91, .invokevirtual 298, 3, 206, 3, 1278), (94, .pop, 1, 0, 0, 0), (95, .aload_n 0, 1, 0, 0, 0), (96, .getfield 10, 3, 8, 0, 279), (99, .getfield 169, 3, 7, 7, 99), (102, .iload_n 1, 1, 0, 0, 0), (103, .iaload, 1, 0, 0, 0), (104, .ifCond .eq 25, 3, 0, 0, 0), (107, .aload_n 0, 1, 0, 0, 0), (108, .getfield 51, 3, 8, 7, 286), (111, .bipush 108, 2, 0, 0, 0), (113, .invokevirtual 302, 3, 205, 3, 1279), (116, .aload_n 0, 1, 0, 0, 0), (117, .getfield 10, 3, 8, 0, 279), (120, .getfield 169, 3, 7, 7, 99), (123, .iload_n 1, 1, 0, 0, 0), (124, .iaload, 1, 0, 0, 0), (125, .invokevirtual 298, 3, 206, 3, 1278), (128, .pop, 1, 0, 0, 0), (129, .aload_n 0, 1, 0, 0, 0), (130, .getfield 37, 3, 8, 5, 284), (133, .iload_n 1, 1, 0, 0, 0), (134, .invokevirtual 203, 3, 6, 3, 1353), (137, .ifCond .eq 13, 3, 0, 0, 0), (140, .aload_n 0, 1, 0, 0, 0), (141, .getfield 51, 3, 8, 7, 286), (144, .bipush 42, 2, 0, 0, 0), (146, .invokevirtual 302, 3, 205, 3, 1279), (149, .pop, 1, 0, 0, 0), (150, .aload_n 0, 1, 0, 0, 0), (151, .getfield 51, 3, 8, 7, 286), (154, .invokevirtual 308, 3, 210, 3, 1297), (157, .ireturn, 1, 0, 0, 0)]
def zt_X4_outputAt : List zE := [(0, .iload_n 1, 1, 0, 0, 0), (1, .ifCond .lt 14, 3, 0, 0, 0), (4, .iload_n 1, 1, 0, 0, 0), (5, .aload_n 0, 1, 0, 0, 0), (6, .getfield 51, 3, 8, 7, 286), (9, .invokevirtual 308, 3, 210, 3, 1297), (12, .if_icmp .lt 14, 3, 0, 0, 0), (15, .new 79, 3, 0, 1, 398), (18, .dup, 1, 0, 0, 0), (19, .ldc_w 311, 3, 2, 10, 0), (22, .invokespecial 83, 3, 0, 10, 445), (25, .athrow, 1, 0, 0, 0), (26, .aload_n 0, 1, 0, 0, 0), (27, .getfield 51, 3, 8, 7, 286), (30, .iload_n 1, 1, 0, 0, 0), (31, .invokevirtual 313, 3, 208, 3, 1306), (34, .ireturn, 1, 0, 0, 0)]
def zt_X4_type : List zE := [(0, .iload_n 1, 1, 0, 0, 0), (1, .bipush 32, 2, 0, 0, 0), (3, .if_icmp .lt 9, 3, 0, 0, 0), (6, .iload_n 1, 1, 0, 0, 0), (7, .bipush 126, 2, 0, 0, 0), (9, .if_icmp .le 14, 3, 0, 0, 0), (12, .new 86, 3, 1, 1, 470), (15, .dup, 1, 0, 0, 0), (16, .ldc_w 317, 3, 2, 11, 0), (19, .invokespecial 90, 3, 1, 10, 480), (22, .athrow, 1, 0, 0, 0), (23, .aload_n 0, 1, 0, 0, 0), (24, .getfield 44, 3, 8, 6, 285), (27, .invokevirtual 319, 3, 23, 3, 698), (30, .ifCond .eq 14, 3, 0, 0, 0), (33, .new 91, 3, 2, 1, 486), (36, .dup, 1, 0, 0, 0), (37, .ldc_w 322, 3, 2, 12, 0), (40, .invokespecial 95, 3, 2, 10, 496), (43, .athrow, 1, 0, 0, 0), (44, .aload_n 0, 1, 0, 0, 0), (45, .getfield 44, 3, 8, 6, 285), (48, .iload_n 1, 1, 0, 0, 0), (49, .invokevirtual 324, 3, 24, 3, 703), (52, .ireturn, 1, 0, 0, 0)]
def zt_X4_runScript : List zE := [(0, .aload_n 0, 1, 0, 0, 0), (1, .getfield 44, 3, 8, 6, 285), (4, .invokevirtual 327, 3, 29, 3, 714), (7, .istore_n 1, 1, 0, 0, 0), (8, .aload_n 0, 1, 0, 0, 0), (9, .getfield 44, 3, 8, 6, 285), (12, .invokevirtual 330, 3, 25, 3, 821), (15, .iload_n 1, 1, 0, 0, 0), (16, .ifCond .ne 25, 3, 0, 0, 0), (19, .aload_n 0, 1, 0, 0, 0), (20, .aload_n 0, 1, 0, 0, 0), (21, .getfield 44, 3, 8, 6, 285), (24, .getfield 333, 3, 6, 5, 231), (27, .putfield 55, 3, 8, 9, 288), (30, .new 86, 3, 1, 1, 470), (33, .dup, 1, 0, 0, 0), (34, .ldc_w 336, 3, 2, 13, 0), (37, .invokespecial 90, 3, 1, 10, 480), (40, .athrow, 1, 0, 0, 0), (41, .aload_n 0, 1, 0, 0, 0), (42, .getfield 19, 3, 8, 2, 281), (45, .aload_n 0, 1, 0, 0, 0), (46, .getfield 10, 3, 8, 0, 279), (49, .invokevirtual 237, 3, 39, 3, 337), (52, .iconst 0, 1, 0, 0, 0), (53, .istore_n 2, 1, 0, 0, 0), (54, .iload_n 2, 1, 0, 0, 0), (55, .aload_n 0, 1, 0, 0, 0), (56, .getfield 44, 3, 8, 6, 285), (59, .getfield 338, 3, 6, 4, 229), (62, .if_icmp .ge 44, 3, 0, 0, 0), (65, .aload_n 0, 1, 0, 0, 0), (66, .iload_n 2, 1, 0, 0, 0), (67, .invokevirtual 341, 3, 121, 3, 826), (70, .ifCond .ne 30, 3, 0, 0, 0), (73, .aload_n 0, 1, 0, 0, 0), (74, .getfield 10, 3, 8, 0, 279), (77, .aload_n 0, 1, 0, 0, 0), (78, .getfield 19, 3, 8, 2, 281), (81, .invokevirtual 237, 3, 39, 3, 337), (84, .aload_n 0, 1, 0, 0, 0), (85, .iload_n 2, 1, 0, 0, 0), (86, .putfield 59, 3, 8, 10, 289), (89, .new 91, 3, 2, 1, 486), (92, .dup, 1, 0, 0, 0), (93, .ldc_w 344, 3, 2, 14, 0), (96, .invokespecial 95, 3, 2, 10, 496), (99, .athrow, 1, 0, 0, 0), (100, .iinc 2 1, 3, 0, 0, 0), (103, .goto (-49), 3, 0, 0, 0), (106, .aload_n 0, 1, 0, 0, 0), (107, .getfield 28, 3, 8, 4, 283), (110, .aload_n 0, 1, 0, 0, 0), (111, .getfield 19, 3, 8, 2, 281), (114, .invokevirtual 73, 3, 20, 3, 518), (117, .aload_n 0, 1, 0, 0, 0), (118, .getfield 44, 3, 8, 6, 285), (121, .getfield 338, 3, 6, 4, 229), (124, .ireturn, 1, 0, 0, 0)]
def zt_X4_performed : List zE := [(0, .aload_n 0, 1, 0, 0, 0), (1, .getfield 44, 3, 8, 6, 285), (4, .getfield 346, 3, 6, 1, 225), (7, .iload_n 1, 1, 0, 0, 0), (8, .iaload, 1, 0, 0, 0), (9, .istore_n 2, 1, 0, 0, 0), (10, .aload_n 0, 1, 0, 0, 0), (11, .getfield 44, 3, 8, 6, 285), (14, .iload_n 1, 1, 0, 0, 0), (15, .iconst 0, 1, 0, 0, 0), (16, .invokevirtual 349, 3, 26, 3, 830), (19, .istore_n 3, 1, 0, 0, 0), (20, .aload_n 0, 1, 0, 0, 0), (21, .getfield 44, 3, 8, 6, 285), (24, .iload_n 1, 1, 0, 0, 0), (25, .iconst 1, 1, 0, 0, 0), (26, .invokevirtual 349, 3, 26, 3, 830), (29, .istore 4, 2, 0, 0, 0), (31, .aload_n 0, 1, 0, 0, 0), (32, .getfield 44, 3, 8, 6, 285), (35, .iload_n 1, 1, 0, 0, 0), (36, .iconst 2, 1, 0, 0, 0), (37, .invokevirtual 349, 3, 26, 3, 830), (40, .istore 5, 2, 0, 0, 0), (42, .aload_n 0, 1, 0, 0, 0), (43, .getfield 10, 3, 8, 0, 279), (46, .iload_n 2, 1, 0, 0, 0), (47, .iload_n 3, 1, 0, 0, 0), (48, .iload 4, 2, 0, 0, 0), (50, .iload 5, 2, 0, 0, 0), (52, .invokevirtual 66, 3, 42, 3, 360), (55, .ifCond .eq 5, 3, 0, 0, 0), (58, .iconst 0, 1, 0, 0, 0), (59, .ireturn, 1, 0, 0, 0), (60, .aload_n 0, 1, 0, 0, 0), (61, .getfield 10, 3, 8, 0, 279), (64, .iload_n 2, 1, 0, 0, 0), (65, .iload_n 3, 1, 0, 0, 0), (66, .iload 4, 2, 0, 0, 0), (68, .iload 5, 2, 0, 0, 0), (70, .invokevirtual 76, 3, 49, 3, 526), (73, .pop, 1, 0, 0, 0), (74, .iconst 1, 1, 0, 0, 0), (75, .ireturn, 1, 0, 0, 0)]
def zt_X4_errorPosition : List zE := [(0, .aload_n 0, 1, 0, 0, 0), (1, .getfield 55, 3, 8, 9, 288), (4, .iconst (-1), 1, 0, 0, 0), (5, .if_icmp .ne 14, 3, 0, 0, 0), (8, .new 138, 3, 4, 1, 843), (11, .dup, 1, 0, 0, 0), (12, .ldc_w 352, 3, 2, 15, 0), (15, .invokespecial 142, 3, 4, 10, 853), (18, .athrow, 1, 0, 0, 0), (19, .aload_n 0, 1, 0, 0, 0), (20, .getfield 55, 3, 8, 9, 288), (23, .ireturn, 1, 0, 0, 0)]
def zt_X4_failedCommand : List zE := [(0, .aload_n 0, 1, 0, 0, 0), (1, .getfield 59, 3, 8, 10, 289), (4, .iconst (-1), 1, 0, 0, 0), (5, .if_icmp .ne 14, 3, 0, 0, 0), (8, .new 138, 3, 4, 1, 843), (11, .dup, 1, 0, 0, 0), (12, .ldc_w 354, 3, 2, 16, 0), (15, .invokespecial 142, 3, 4, 10, 853), (18, .athrow, 1, 0, 0, 0), (19, .aload_n 0, 1, 0, 0, 0), (20, .getfield 59, 3, 8, 10, 289), (23, .ireturn, 1, 0, 0, 0)]
def zt_X4_undo : List zE := [(0, .aload_n 0, 1, 0, 0, 0), (1, .getfield 28, 3, 8, 4, 283), (4, .getfield 356, 3, 5, 2, 164), (7, .ifCond .ne 14, 3, 0, 0, 0), (10, .new 138, 3, 4, 1, 843), (13, .dup, 1, 0, 0, 0), (14, .ldc_w 359, 3, 2, 17, 0), (17, .invokespecial 142, 3, 4, 10, 853), (20, .athrow, 1, 0, 0, 0), (21, .aload_n 0, 1, 0, 0, 0), (22, .getfield 28, 3, 8, 4, 283), (25, .aload_n 0, 1, 0, 0, 0), (26, .getfield 10, 3, 8, 0, 279), (29, .invokevirtual 361, 3, 21, 3, 867), (32, .aload_n 0, 1, 0, 0, 0), (33, .getfield 28, 3, 8, 4, 283), (36, .getfield 356, 3, 5, 2, 164), (39, .ireturn, 1, 0, 0, 0)]
def zt_X4_save : List zE := [(0, .aload_n 0, 1, 0, 0, 0), (1, .getfield 16, 3, 8, 1, 280), (4, .aload_n 0, 1, 0, 0, 0), (5, .getfield 10, 3, 8, 0, 279), (8, .invokevirtual 237, 3, 39, 3, 337), (11, .aload_n 0, 1, 0, 0, 0), (12, .iconst 1, 1, 0, 0, 0), (13, .putfield 364, 3, 8, 8, 287), (16, .aload_n 0, 1, 0, 0, 0), (17, .getfield 10, 3, 8, 0, 279), (20, .getfield 112, 3, 7, 10, 106), (23, .ireturn, 1, 0, 0, 0)]
def zt_X4_restore : List zE := [(0, .aload_n 0, 1, 0, 0, 0), (1, .getfield 364, 3, 8, 8, 287), (4, .ifCond .ne 14, 3, 0, 0, 0), (7, .new 91, 3, 2, 1, 486), (10, .dup, 1, 0, 0, 0), (11, .ldc_w 368, 3, 2, 18, 0), (14, .invokespecial 95, 3, 2, 10, 496), (17, .athrow, 1, 0, 0, 0), (18, .aload_n 0, 1, 0, 0, 0), (19, .getfield 10, 3, 8, 0, 279), (22, .aload_n 0, 1, 0, 0, 0), (23, .getfield 16, 3, 8, 1, 280), (26, .invokevirtual 237, 3, 39, 3, 337), (29, .aload_n 0, 1, 0, 0, 0), (30, .getfield 28, 3, 8, 4, 283), (33, .iconst 0, 1, 0, 0, 0), (34, .putfield 356, 3, 5, 2, 164), (37, .aload_n 0, 1, 0, 0, 0), (38, .getfield 10, 3, 8, 0, 279), (41, .getfield 112, 3, 7, 10, 106), (44, .ireturn, 1, 0, 0, 0)]
def zt_X4_contains : List zE := [(0, .iload_n 0, 1, 0, 0, 0), (1, .iload_n 1, 1, 0, 0, 0), (2, .ishr, 1, 0, 0, 0), (3, .iconst 1, 1, 0, 0, 0), (4, .iand, 1, 0, 0, 0), (5, .ifCond .eq 7, 3, 0, 0, 0), (8, .iconst 1, 1, 0, 0, 0), (9, .goto 4, 3, 0, 0, 0), (12, .iconst 0, 1, 0, 0, 0), (13, .ireturn, 1, 0, 0, 0)]
def zt_X4_bitsOfFloat : List zE := [(0, .fload_n 0, 1, 0, 0, 0), (1, .fconst 0, 1, 0, 0, 0), (2, .fcmp .g, 1, 0, 0, 0), (3, .ifCond .gt 5, 3, 0, 0, 0), (6, .iconst 0, 1, 0, 0, 0), (7, .ireturn, 1, 0, 0, 0), (8, .bipush 127, 2, 0, 0, 0), (10, .istore_n 1, 1, 0, 0, 0), (11, .fload_n 0, 1, 0, 0, 0), (12, .fstore_n 2, 1, 0, 0, 0), (13, .fload_n 2, 1, 0, 0, 0), (14, .fconst 1, 1, 0, 0, 0), (15, .fcmp .g, 1, 0, 0, 0), (16, .ifCond .ge 18, 3, 0, 0, 0), (19, .iload_n 1, 1, 0, 0, 0), (20, .iconst 1, 1, 0, 0, 0), (21, .if_icmp .le 13, 3, 0, 0, 0), (24, .fload_n 2, 1, 0, 0, 0), (25, .fconst 2, 1, 0, 0, 0), (26, .fmul, 1, 0, 0, 0), (27, .fstore_n 2, 1, 0, 0, 0), (28, .iinc 1 (-1), 3, 0, 0, 0), (31, .goto (-18), 3, 0, 0, 0), (34, .iload_n 1, 1, 0, 0, 0), (35, .bipush 23, 2, 0, 0, 0), (37, .ishl, 1, 0, 0, 0), (38, .fload_n 2, 1, 0, 0, 0), (39, .fconst 1, 1, 0, 0, 0), (40, .fsub, 1, 0, 0, 0), (41, .ldc_w 370, 3, 1, 1258291200, 1000), (44, .fmul, 1, 0, 0, 0), (45, .f2i, 1, 0, 0, 0), (46, .iadd, 1, 0, 0, 0), (47, .ireturn, 1, 0, 0, 0)]
def zt_X4_bitsOfDouble : List zE := [(0, .dload_n 0, 1, 0, 0, 0), (1, .dconst 0, 1, 0, 0, 0), (2, .dcmp .g, 1, 0, 0, 0), (3, .ifCond .gt 5, 3, 0, 0, 0), (6, .lconst 0, 1, 0, 0, 0), (7, .lreturn, 1, 0, 0, 0), (8, .sipush 1023, 3, 0, 0, 0), (11, .istore_n 2, 1, 0, 0, 0), (12, .dload_n 0, 1, 0, 0, 0), (13, .dstore_n 3, 1, 0, 0, 0), (14, .dload_n 3, 1, 0, 0, 0), (15, .ldc2_w 371, 3, 4, 4611686018427387904, 924), (18, .dcmp .l, 1, 0, 0, 0), (19, .ifCond .lt 22, 3, 0, 0, 0), (22, .iload_n 2, 1, 0, 0, 0), (23, .sipush 2046, 3, 0, 0, 0), (26, .if_icmp .ge 15, 3, 0, 0, 0), (29, .dload_n 3, 1, 0, 0, 0), (30, .ldc2_w 371, 3, 4, 4611686018427387904, 924), (33, .ddiv, 1, 0, 0, 0), (34, .dstore_n 3, 1, 0, 0, 0), (35, .iinc 2 1, 3, 0, 0, 0), (38, .goto (-24), 3, 0, 0, 0), (41, .dload_n 3, 1, 0, 0, 0), (42, .dconst 1, 1, 0, 0, 0), (43, .dcmp .g, 1, 0, 0, 0), (44, .ifCond .ge 20, 3, 0, 0, 0), (47, .iload_n 2, 1, 0, 0, 0), (48, .iconst 1, 1, 0, 0, 0), (49, .if_icmp .le 15, 3, 0, 0, 0), (52, .dload_n 3, 1, 0, 0, 0), (53, .ldc2_w 371, 3, 4, 4611686018427387904, 924), (56, .dmul, 1, 0, 0, 0), (57, .dstore_n 3, 1, 0, 0, 0), (58, .iinc 2 (-1), 3, 0, 0, 0), (61, .goto (-20), 3, 0, 0, 0), (64, .iload_n 2, 1, 0, 0, 0), (65, .i2l, 1, 0, 0, 0), (66, .bipush 52, 2, 0, 0, 0), (68, .lshl, 1, 0, 0, 0), (69, .dload_n 3, 1, 0, 0, 0), (70, .dconst 1, 1, 0, 0, 0), (71, .dsub, 1, 0, 0, 0), (72, .ldc2_w 373, 3, 4, 4841369599423283200, 925), (75, .dmul, 1, 0, 0, 0), (76, .d2l, 1, 0, 0, 0), (77, .ladd, 1, 0, 0, 0), (78, .lreturn, 1, 0, 0, 0)]
def zt_L_at : List zE := [(0, .iload_n 1, 1, 0, 0, 0), (1, .aload_n 0, 1, 0, 0, 0), (2, .arraylength, 1, 0, 0, 0), (3, .if_icmp .ge 9, 3, 0, 0, 0), (6, .aload_n 0, 1, 0, 0, 0), (7, .iload_n 1, 1, 0, 0, 0), (8, .iaload, 1, 0, 0, 0), (9, .goto 4, 3, 0, 0, 0), (12, .iconst 0, 1, 0, 0, 0), (13, .ireturn, 1, 0, 0, 0)]
def zt_L_some : List zE := [(0, .iload_n 0, 1, 0, 0, 0), (1, .iload_n 1, 1, 0, 0, 0), (2, .irem, 1, 0, 0, 0), (3, .istore_n 2, 1, 0, 0, 0), (4, .iload_n 2, 1, 0, 0, 0), (5, .ifCond .ge 9, 3, 0, 0, 0), (8, .iload_n 2, 1, 0, 0, 0), (9, .iload_n 1, 1, 0, 0, 0), (10, .iadd, 1, 0, 0, 0), (11, .goto 4, 3, 0, 0, 0), (14, .iload_n 2, 1, 0, 0, 0), (15, .ireturn, 1, 0, 0, 0)]
def zt_L_addTank : List zE := [(0, .aload_n 0, 1, 0, 0, 0), (1, .iload_n 1, 1, 0, 0, 0), (2, .invokevirtual 7, 3, 66, 3, 352), (5, .ireturn, 1, 0, 0, 0), (6, .astore_n 2, 1, 0, 0, 0), (7, .sipush (-1001), 3, 0, 0, 0), (10, .ireturn, 1, 0, 0, 0), (11, .astore_n 2, 1, 0, 0, 0), (12, .sipush (-1002), 3, 0, 0, 0), (15, .ireturn, 1, 0, 0, 0)]
def zt_L_addPipe : List zE := [(0, .aload_n 0, 1, 0, 0, 0), (1, .iload_n 1, 1, 0, 0, 0), (2, .iload_n 2, 1, 0, 0, 0), (3, .iload_n 3, 1, 0, 0, 0), (4, .invokevirtual 17, 3, 67, 3, 603), (7, .ireturn, 1, 0, 0, 0), (8, .astore 4, 2, 0, 0, 0), (10, .sipush (-1001), 3, 0, 0, 0), (13, .ireturn, 1, 0, 0, 0), (14, .astore 4, 2, 0, 0, 0), (16, .sipush (-1002), 3, 0, 0, 0), (19, .ireturn, 1, 0, 0, 0), (20, .astore 4, 2, 0, 0, 0), (22, .sipush (-1003), 3, 0, 0, 0), (25, .ireturn, 1, 0, 0, 0)]
def zt_L_pour : List zE := [(0, .aload_n 0, 1, 0, 0, 0), (1, .iload_n 1, 1, 0, 0, 0), (2, .iload_n 2, 1, 0, 0, 0), (3, .iload_n 3, 1, 0, 0, 0), (4, .invokevirtual 23, 3, 68, 3, 611), (7, .ireturn, 1, 0, 0, 0), (8, .astore 4, 2, 0, 0, 0), (10, .sipush (-1001), 3, 0, 0, 0), (13, .ireturn, 1, 0, 0, 0), (14, .astore 4, 2, 0, 0, 0), (16, .sipush (-1002), 3, 0, 0, 0), (19, .ireturn, 1, 0, 0, 0), (20, .astore 4, 2, 0, 0, 0), (22, .sipush (-1003), 3, 0, 0, 0), (25, .ireturn, 1, 0, 0, 0)]
def zt_L_draw : List zE := [(0, .aload_n 0, 1, 0, 0, 0), (1, .iload_n 1, 1, 0, 0, 0), (2, .iload_n 2, 1, 0, 0, 0), (3, .invokevirtual 28, 3, 69, 3, 618), (6, .ireturn, 1, 0, 0, 0), (7, .astore_n 3, 1, 0, 0, 0), (8, .sipush (-1001), 3, 0, 0, 0), (11, .ireturn, 1, 0, 0, 0), (12, .astore_n 3, 1, 0, 0, 0), (13, .sipush (-1002), 3, 0, 0, 0), (16, .ireturn, 1, 0, 0, 0), (17, .astore_n 3, 1, 0, 0, 0), (18, .sipush (-1003), 3, 0, 0, 0), (21, .ireturn, 1, 0, 0, 0)]
def zt_L_setValve : List zE := [(0, .aload_n 0, 1, 0, 0, 0), (1, .iload_n 1, 1, 0, 0, 0), (2, .iload_n 2, 1, 0, 0, 0), (3, .invokevirtual 32, 3, 70, 3, 625), (6, .ireturn, 1, 0, 0, 0), (7, .astore_n 3, 1, 0, 0, 0), (8, .sipush (-1001), 3, 0, 0, 0), (11, .ireturn, 1, 0, 0, 0), (12, .astore_n 3, 1, 0, 0, 0), (13, .sipush (-1002), 3, 0, 0, 0), (16, .ireturn, 1, 0, 0, 0)]
def zt_L_setLeak : List zE := [(0, .aload_n 0, 1, 0, 0, 0), (1, .iload_n 1, 1, 0, 0, 0), (2, .iload_n 2, 1, 0, 0, 0), (3, .invokevirtual 35, 3, 71, 3, 632), (6, .ireturn, 1, 0, 0, 0), (7, .astore_n 3, 1, 0, 0, 0), (8, .sipush (-1001), 3, 0, 0, 0), (11, .ireturn, 1, 0, 0, 0), (12, .astore_n 3, 1, 0, 0, 0), (13, .sipush (-1002), 3, 0, 0, 0), (16, .ireturn, 1, 0, 0, 0)]
def zt_L_cleanFilter : List zE := [(0, .aload_n 0, 1, 0, 0, 0), (1, .iload_n 1, 1, 0, 0, 0), (2, .invokevirtual 38, 3, 72, 3, 1363), (5, .ireturn, 1, 0, 0, 0), (6, .astore_n 2, 1, 0, 0, 0), (7, .sipush (-1001), 3, 0, 0, 0), (10, .ireturn, 1, 0, 0, 0)]
def zt_L_advance : List zE := [(0, .aload_n 0, 1, 0, 0, 0), (1, .iload_n 1, 1, 0, 0, 0), (2, .invokevirtual 41, 3, 73, 3, 639), (5, .ireturn, 1, 0, 0, 0), (6, .astore_n 2, 1, 0, 0, 0), (7, .sipush (-1001), 3, 0, 0, 0), (10, .ireturn, 1, 0, 0, 0)]
def zt_L_capacity : List zE := [(0, .aload_n 0, 1, 0, 0, 0), (1, .iload_n 1, 1, 0, 0, 0), (2, .invokevirtual 44, 3, 79, 3, 1387), (5, .ireturn, 1, 0, 0, 0), (6, .astore_n 2, 1, 0, 0, 0), (7, .sipush (-1001), 3, 0, 0, 0), (10, .ireturn, 1, 0, 0, 0)]
def zt_L_content : List zE := [(0, .aload_n 0, 1, 0, 0, 0), (1, .iload_n 1, 1, 0, 0, 0), (2, .invokevirtual 47, 3, 80, 3, 646), (5, .ireturn, 1, 0, 0, 0), (6, .astore_n 2, 1, 0, 0, 0), (7, .sipush (-1001), 3, 0, 0, 0), (10, .ireturn, 1, 0, 0, 0)]
def zt_L_impurities : List zE := [(0, .aload_n 0, 1, 0, 0, 0), (1, .iload_n 1, 1, 0, 0, 0), (2, .invokevirtual 50, 3, 81, 3, 659), (5, .ireturn, 1, 0, 0, 0), (6, .astore_n 2, 1, 0, 0, 0), (7, .sipush (-1001), 3, 0, 0, 0), (10, .ireturn, 1, 0, 0, 0)]
def zt_L_has : List zE := [(0, .aload_n 0, 1, 0, 0, 0), (1, .iload_n 1, 1, 0, 0, 0), (2, .iload_n 2, 1, 0, 0, 0), (3, .invokevirtual 53, 3, 82, 3, 1394), (6, .ifCond .eq 7, 3, 0, 0, 0), (9, .iconst 1, 1, 0, 0, 0), (10, .goto 4, 3, 0, 0, 0), (13, .iconst 0, 1, 0, 0, 0), (14, .ireturn, 1, 0, 0, 0), (15, .astore_n 3, 1, 0, 0, 0), (16, .sipush (-1001), 3, 0, 0, 0), (19, .ireturn, 1, 0, 0, 0), (20, .astore_n 3, 1, 0, 0, 0), (21, .sipush (-1002), 3, 0, 0, 0), (24, .ireturn, 1, 0, 0, 0)]
def zt_L_byContent : List zE := [(0, .aload_n 0, 1, 0, 0, 0), (1, .iload_n 1, 1, 0, 0, 0), (2, .invokevirtual 57, 3, 83, 3, 1004), (5, .ireturn, 1, 0, 0, 0), (6, .astore_n 2, 1, 0, 0, 0), (7, .sipush (-1001), 3, 0, 0, 0), (10, .ireturn, 1, 0, 0, 0)]
def zt_L_fillShare : List zE := [(0, .aload_n 0, 1, 0, 0, 0), (1, .iload_n 1, 1, 0, 0, 0), (2, .invokevirtual 62, 3, 85, 3, 1432), (5, .freturn, 1, 0, 0, 0), (6, .astore_n 2, 1, 0, 0, 0), (7, .ldc 66, 2, 1, 3296346112, 1433), (9, .freturn, 1, 0, 0, 0)]
def zt_L_fillBits : List zE := [(0, .aload_n 0, 1, 0, 0, 0), (1, .iload_n 1, 1, 0, 0, 0), (2, .invokevirtual 67, 3, 86, 3, 989), (5, .ireturn, 1, 0, 0, 0), (6, .astore_n 2, 1, 0, 0, 0), (7, .sipush (-1001), 3, 0, 0, 0), (10, .ireturn, 1, 0, 0, 0)]
def zt_L_firstOf : List zE := [(0, .aload_n 0, 1, 0, 0, 0), (1, .iload_n 1, 1, 0, 0, 0), (2, .invokevirtual 70, 3, 88, 3, 1437), (5, .ireturn, 1, 0, 0, 0), (6, .astore_n 2, 1, 0, 0, 0), (7, .sipush (-1001), 3, 0, 0, 0), (10, .ireturn, 1, 0, 0, 0)]
def zt_L_secondOf : List zE := [(0, .aload_n 0, 1, 0, 0, 0), (1, .iload_n 1, 1, 0, 0, 0), (2, .invokevirtual 73, 3, 89, 3, 1444), (5, .ireturn, 1, 0, 0, 0), (6, .astore_n 2, 1, 0, 0, 0), (7, .sipush (-1001), 3, 0, 0, 0), (10, .ireturn, 1, 0, 0, 0)]
def zt_L_valve : List zE := [(0, .aload_n 0, 1, 0, 0, 0), (1, .iload_n 1, 1, 0, 0, 0), (2, .invokevirtual 76, 3, 90, 3, 666), (5, .ireturn, 1, 0, 0, 0), (6, .astore_n 2, 1, 0, 0, 0), (7, .sipush (-1001), 3, 0, 0, 0), (10, .ireturn, 1, 0, 0, 0)]
def zt_L_leak : List zE := [(0, .aload_n 0, 1, 0, 0, 0), (1, .iload_n 1, 1, 0, 0, 0), (2, .invokevirtual 79, 3, 91, 3, 679), (5, .ireturn, 1, 0, 0, 0), (6, .astore_n 2, 1, 0, 0, 0), (7, .sipush (-1001), 3, 0, 0, 0), (10, .ireturn, 1, 0, 0, 0)]
def zt_L_mesh : List zE := [(0, .aload_n 0, 1, 0, 0, 0), (1, .iload_n 1, 1, 0, 0, 0), (2, .invokevirtual 82, 3, 92, 3, 1342), (5, .ireturn, 1, 0, 0, 0), (6, .astore_n 2, 1, 0, 0, 0), (7, .sipush (-1001), 3, 0, 0, 0), (10, .ireturn, 1, 0, 0, 0)]
def zt_L_dirt : List zE := [(0, .aload_n 0, 1, 0, 0, 0), (1, .iload_n 1, 1, 0, 0, 0), (2, .invokevirtual 85, 3, 93, 3, 1451), (5, .ireturn, 1, 0, 0, 0), (6, .astore_n 2, 1, 0, 0, 0), (7, .sipush (-1001), 3, 0, 0, 0), (10, .ireturn, 1, 0, 0, 0)]
def zt_L_isOpen : List zE := [(0, .aload_n 0, 1, 0, 0, 0), (1, .iload_n 1, 1, 0, 0, 0), (2, .invokevirtual 88, 3, 94, 3, 1458), (5, .ifCond .eq 7, 3, 0, 0, 0), (8, .iconst 1, 1, 0, 0, 0), (9, .goto 4, 3, 0, 0, 0), (12, .iconst 0, 1, 0, 0, 0), (13, .ireturn, 1, 0, 0, 0), (14, .astore_n 2, 1, 0, 0, 0), (15, .sipush (-1001), 3, 0, 0, 0), (18, .ireturn, 1, 0, 0, 0)]
def zt_L_flow : List zE := [(0, .aload_n 0, 1, 0, 0, 0), (1, .iload_n 1, 1, 0, 0, 0), (2, .invokevirtual 92, 3, 95, 3, 1319), (5, .ireturn, 1, 0, 0, 0), (6, .astore_n 2, 1, 0, 0, 0), (7, .sipush (-1001), 3, 0, 0, 0), (10, .ireturn, 1, 0, 0, 0)]
def zt_L_litres : List zE := [(0, .aload_n 0, 1, 0, 0, 0), (1, .iload_n 1, 1, 0, 0, 0), (2, .invokevirtual 95, 3, 96, 3, 686), (5, .ireturn, 1, 0, 0, 0), (6, .astore_n 2, 1, 0, 0, 0), (7, .sipush (-1001), 3, 0, 0, 0), (10, .ireturn, 1, 0, 0, 0)]
def zt_L_byDirt : List zE := [(0, .aload_n 0, 1, 0, 0, 0), (1, .iload_n 1, 1, 0, 0, 0), (2, .invokevirtual 98, 3, 97, 3, 1327), (5, .ireturn, 1, 0, 0, 0), (6, .astore_n 2, 1, 0, 0, 0), (7, .sipush (-1001), 3, 0, 0, 0), (10, .ireturn, 1, 0, 0, 0)]
def zt_L_connected : List zE := [(0, .aload_n 0, 1, 0, 0, 0), (1, .iload_n 1, 1, 0, 0, 0), (2, .iload_n 2, 1, 0, 0, 0), (3, .invokevirtual 101, 3, 99, 3, 1402), (6, .ifCond .eq 7, 3, 0, 0, 0), (9, .iconst 1, 1, 0, 0, 0), (10, .goto 4, 3, 0, 0, 0), (13, .iconst 0, 1, 0, 0, 0), (14, .ireturn, 1, 0, 0, 0), (15, .astore_n 3, 1, 0, 0, 0), (16, .sipush (-1001), 3, 0, 0, 0), (19, .ireturn, 1, 0, 0, 0)]
def zt_L_isBridge : List zE := [(0, .aload_n 0, 1, 0, 0, 0), (1, .iload_n 1, 1, 0, 0, 0), (2, .invokevirtual 105, 3, 101, 3, 1466), (5, .ifCond .eq 7, 3, 0, 0, 0), (8, .iconst 1, 1, 0, 0, 0), (9, .goto 4, 3, 0, 0, 0), (12, .iconst 0, 1, 0, 0, 0), (13, .ireturn, 1, 0, 0, 0), (14, .astore_n 2, 1, 0, 0, 0), (15, .sipush (-1001), 3, 0, 0, 0), (18, .ireturn, 1, 0, 0, 0)]
def zt_L_width : List zE := [(0, .aload_n 0, 1, 0, 0, 0), (1, .iload_n 1, 1, 0, 0, 0), (2, .iload_n 2, 1, 0, 0, 0), (3, .invokevirtual 108, 3, 103, 3, 1473), (6, .ireturn, 1, 0, 0, 0), (7, .astore_n 3, 1, 0, 0, 0), (8, .sipush (-1001), 3, 0, 0, 0), (11, .ireturn, 1, 0, 0, 0)]
def zt_L_bySettings : List zE := [(0, .aload_n 0, 1, 0, 0, 0), (1, .iload_n 1, 1, 0, 0, 0), (2, .iload_n 2, 1, 0, 0, 0), (3, .invokevirtual 111, 3, 104, 3, 1493), (6, .ireturn, 1, 0, 0, 0), (7, .astore_n 3, 1, 0, 0, 0), (8, .sipush (-1001), 3, 0, 0, 0), (11, .ireturn, 1, 0, 0, 0)]
def zt_L_cleanest : List zE := [(0, .aload_n 0, 1, 0, 0, 0), (1, .iload_n 1, 1, 0, 0, 0), (2, .iload_n 2, 1, 0, 0, 0), (3, .invokevirtual 114, 3, 105, 3, 1020), (6, .ireturn, 1, 0, 0, 0), (7, .astore_n 3, 1, 0, 0, 0), (8, .sipush (-1001), 3, 0, 0, 0), (11, .ireturn, 1, 0, 0, 0), (12, .astore_n 3, 1, 0, 0, 0), (13, .sipush (-1002), 3, 0, 0, 0), (16, .ireturn, 1, 0, 0, 0)]
def zt_L_byPasses : List zE := [(0, .aload_n 0, 1, 0, 0, 0), (1, .iload_n 1, 1, 0, 0, 0), (2, .iload_n 2, 1, 0, 0, 0), (3, .invokevirtual 117, 3, 106, 3, 1409), (6, .ireturn, 1, 0, 0, 0), (7, .astore_n 3, 1, 0, 0, 0), (8, .sipush (-1001), 3, 0, 0, 0), (11, .ireturn, 1, 0, 0, 0), (12, .astore_n 3, 1, 0, 0, 0), (13, .sipush (-1002), 3, 0, 0, 0), (16, .ireturn, 1, 0, 0, 0)]
def zt_L_meanBits : List zE := [(0, .aload_n 0, 1, 0, 0, 0), (1, .invokevirtual 132, 3, 113, 3, 906), (4, .lreturn, 1, 0, 0, 0), (5, .astore_n 1, 1, 0, 0, 0), (6, .ldc2_w 136, 3, 3, 17546744073709551615, 926), (9, .lreturn, 1, 0, 0, 0)]
def zt_L_renderTank : List zE := [(0, .aload_n 0, 1, 0, 0, 0), (1, .iload_n 1, 1, 0, 0, 0), (2, .invokevirtual 138, 3, 115, 3, 1045), (5, .ireturn, 1, 0, 0, 0), (6, .astore_n 2, 1, 0, 0, 0), (7, .sipush (-1001), 3, 0, 0, 0), (10, .ireturn, 1, 0, 0, 0)]
def zt_L_renderPipe : List zE := [(0, .aload_n 0, 1, 0, 0, 0), (1, .iload_n 1, 1, 0, 0, 0), (2, .invokevirtual 141, 3, 117, 3, 1349), (5, .ireturn, 1, 0, 0, 0), (6, .astore_n 2, 1, 0, 0, 0), (7, .sipush (-1001), 3, 0, 0, 0), (10, .ireturn, 1, 0, 0, 0)]
def zt_L_outputAt : List zE := [(0, .aload_n 0, 1, 0, 0, 0), (1, .iload_n 1, 1, 0, 0, 0), (2, .invokevirtual 144, 3, 118, 3, 1301), (5, .ireturn, 1, 0, 0, 0), (6, .astore_n 2, 1, 0, 0, 0), (7, .sipush (-1001), 3, 0, 0, 0), (10, .ireturn, 1, 0, 0, 0)]
def zt_L_type : List zE := [(0, .aload_n 0, 1, 0, 0, 0), (1, .iload_n 1, 1, 0, 0, 0), (2, .invokevirtual 148, 3, 119, 3, 693), (5, .ireturn, 1, 0, 0, 0), (6, .astore_n 2, 1, 0, 0, 0), (7, .sipush (-1001), 3, 0, 0, 0), (10, .ireturn, 1, 0, 0, 0), (11, .astore_n 2, 1, 0, 0, 0), (12, .sipush (-1002), 3, 0, 0, 0), (15, .ireturn, 1, 0, 0, 0)]
def zt_L_run : List zE := [(0, .aload_n 0, 1, 0, 0, 0), (1, .invokevirtual 152, 3, 120, 3, 710), (4, .ireturn, 1, 0, 0, 0), (5, .astore_n 1, 1, 0, 0, 0), (6, .sipush (-1001), 3, 0, 0, 0), (9, .ireturn, 1, 0, 0, 0), (10, .astore_n 1, 1, 0, 0, 0), (11, .sipush (-1002), 3, 0, 0, 0), (14, .ireturn, 1, 0, 0, 0)]
def zt_L_errorPosition : List zE := [(0, .aload_n 0, 1, 0, 0, 0), (1, .invokevirtual 155, 3, 122, 3, 839), (4, .ireturn, 1, 0, 0, 0), (5, .astore_n 1, 1, 0, 0, 0), (6, .sipush (-1001), 3, 0, 0, 0), (9, .ireturn, 1, 0, 0, 0)]
def zt_L_failedCommand : List zE := [(0, .aload_n 0, 1, 0, 0, 0), (1, .invokevirtual 158, 3, 123, 3, 1506), (4, .ireturn, 1, 0, 0, 0), (5, .astore_n 1, 1, 0, 0, 0), (6, .sipush (-1001), 3, 0, 0, 0), (9, .ireturn, 1, 0, 0, 0)]
def zt_L_undo : List zE := [(0, .aload_n 0, 1, 0, 0, 0), (1, .invokevirtual 161, 3, 124, 3, 862), (4, .ireturn, 1, 0, 0, 0), (5, .astore_n 1, 1, 0, 0, 0), (6, .sipush (-1001), 3, 0, 0, 0), (9, .ireturn, 1, 0, 0, 0)]
def zt_L_restore : List zE := [(0, .aload_n 0, 1, 0, 0, 0), (1, .invokevirtual 164, 3, 126, 3, 874), (4, .ireturn, 1, 0, 0, 0), (5, .astore_n 1, 1, 0, 0, 0), (6, .sipush (-1001), 3, 0, 0, 0), (9, .ireturn, 1, 0, 0, 0)]
def zt_L_runs : List zE := [(0, .iconst 0, 1, 0, 0, 0), (1, .istore_n 2, 1, 0, 0, 0), (2, .iload_n 2, 1, 0, 0, 0), (3, .aload_n 1, 1, 0, 0, 0), (4, .invokevirtual 167, 3, 196, 3, 1379), (7, .if_icmp .ge 28, 3, 0, 0, 0), (10, .aload_n 0, 1, 0, 0, 0), (11, .aload_n 1, 1, 0, 0, 0), (12, .iload_n 2, 1, 0, 0, 0), (13, .invokevirtual 172, 3, 197, 3, 1380), (16, .invokestatic 175, 3, 167, 1, 690), (19, .iload_n 2, 1, 0, 0, 0), (20, .iconst 1, 1, 0, 0, 0), (21, .iadd, 1, 0, 0, 0), (22, .if_icmp .eq 7, 3, 0, 0, 0), (25, .sipush (-9999), 3, 0, 0, 0), (28, .ireturn, 1, 0, 0, 0), (29, .iinc 2 1, 3, 0, 0, 0), (32, .goto (-30), 3, 0, 0, 0), (35, .aload_n 0, 1, 0, 0, 0), (36, .invokestatic 180, 3, 168, 1, 707), (39, .ireturn, 1, 0, 0, 0)]
def zt_L_makes : List zE := [(0, .iconst 2, 1, 0, 0, 0), (1, .aload_n 1, 1, 0, 0, 0), (2, .iconst 0, 1, 0, 0, 0), (3, .invokestatic 187, 3, 130, 0, 344), (6, .bipush 7, 2, 0, 0, 0), (8, .invokestatic 191, 3, 131, 0, 882), (11, .iadd, 1, 0, 0, 0), (12, .istore_n 2, 1, 0, 0, 0), (13, .iconst 0, 1, 0, 0, 0), (14, .istore_n 3, 1, 0, 0, 0), (15, .iload_n 3, 1, 0, 0, 0), (16, .iload_n 2, 1, 0, 0, 0), (17, .if_icmp .ge 106, 3, 0, 0, 0), (20, .bipush 10, 2, 0, 0, 0), (22, .aload_n 1, 1, 0, 0, 0), (23, .iconst 1, 1, 0, 0, 0), (24, .iload_n 3, 1, 0, 0, 0), (25, .iadd, 1, 0, 0, 0), (26, .invokestatic 187, 3, 130, 0, 344), (29, .aload_n 1, 1, 0, 0, 0), (30, .bipush 9, 2, 0, 0, 0), (32, .invokestatic 187, 3, 130, 0, 344), (35, .iconst 1, 1, 0, 0, 0), (36, .iand, 1, 0, 0, 0), (37, .ifCond .ne 8, 3, 0, 0, 0), (40, .bipush 100, 2, 0, 0, 0), (42, .goto 6, 3, 0, 0, 0), (45, .sipush 990, 3, 0, 0, 0), (48, .invokestatic 191, 3, 131, 0, 882), (51, .iadd, 1, 0, 0, 0), (52, .istore 4, 2, 0, 0, 0), (54, .aload_n 0, 1, 0, 0, 0), (55, .iload 4, 2, 0, 0, 0), (57, .invokestatic 194, 3, 132, 1, 347), (60, .iload_n 3, 1, 0, 0, 0), (61, .if_icmp .eq 5, 3, 0, 0, 0), (64, .iconst 0, 1, 0, 0, 0), (65, .ireturn, 1, 0, 0, 0), (66, .aload_n 1, 1, 0, 0, 0), (67, .bipush 10, 2, 0, 0, 0), (69, .invokestatic 187, 3, 130, 0, 344), (72, .iload_n 3, 1, 0, 0, 0), (73, .ishr, 1, 0, 0, 0), (74, .iconst 1, 1, 0, 0, 0), (75, .iand, 1, 0, 0, 0), (76, .ifCond .ne 41, 3, 0, 0, 0), (79, .aload_n 0, 1, 0, 0, 0), (80, .iload_n 3, 1, 0, 0, 0), (81, .iconst 1, 1, 0, 0, 0), (82, .aload_n 1, 1, 0, 0, 0), (83, .bipush 11, 2, 0, 0, 0), (85, .iload_n 3, 1, 0, 0, 0), (86, .iadd, 1, 0, 0, 0), (87, .invokestatic 187, 3, 130, 0, 344), (90, .iload 4, 2, 0, 0, 0), (92, .invokestatic 191, 3, 131, 0, 882), (95, .iadd, 1, 0, 0, 0), (96, .aload_n 1, 1, 0, 0, 0), (97, .bipush 19, 2, 0, 0, 0), (99, .invokestatic 187, 3, 130, 0, 344), (102, .iload_n 3, 1, 0, 0, 0), (103, .ishr, 1, 0, 0, 0), (104, .sipush 255, 3, 0, 0, 0), (107, .iand, 1, 0, 0, 0), (108, .invokestatic 196, 3, 134, 1, 607), (111, .iconst 1, 1, 0, 0, 0), (112, .if_icmp .ge 5, 3, 0, 0, 0), (115, .iconst 0, 1, 0, 0, 0), (116, .ireturn, 1, 0, 0, 0), (117, .iinc 3 1, 3, 0, 0, 0), (120, .goto (-105), 3, 0, 0, 0), (123, .iconst 1, 1, 0, 0, 0), (124, .aload_n 1, 1, 0, 0, 0), (125, .bipush 20, 2, 0, 0, 0), (127, .invokestatic 187, 3, 130, 0, 344), (130, .bipush 12, 2, 0, 0, 0), (132, .invokestatic 191, 3, 131, 0, 882), (135, .iadd, 1, 0, 0, 0), (136, .istore_n 3, 1, 0, 0, 0), (137, .iconst 0, 1, 0, 0, 0), (138, .istore 4, 2, 0, 0, 0), (140, .iload 4, 2, 0, 0, 0), (142, .iload_n 3, 1, 0, 0, 0), (143, .if_icmp .ge 147, 3, 0, 0, 0), (146, .aload_n 1, 1, 0, 0, 0), (147, .bipush 21, 2, 0, 0, 0), (149, .iload 4, 2, 0, 0, 0), (151, .bipush 12, 2, 0, 0, 0), (153, .irem, 1, 0, 0, 0), (154, .iadd, 1, 0, 0, 0), (155, .invokestatic 187, 3, 130, 0, 344), (158, .iload 4, 2, 0, 0, 0), (160, .sipush 911, 3, 0, 0, 0), (163, .imul, 1, 0, 0, 0), (164, .ixor, 1, 0, 0, 0), (165, .istore 5, 2, 0, 0, 0), (167, .iload 5, 2, 0, 0, 0), (169, .iload_n 2, 1, 0, 0, 0), (170, .invokestatic 191, 3, 131, 0, 882), (173, .istore 6, 2, 0, 0, 0), (175, .aload_n 0, 1, 0, 0, 0), (176, .iload 6, 2, 0, 0, 0), (178, .iload 6, 2, 0, 0, 0), (180, .iconst 1, 1, 0, 0, 0), (181, .iadd, 1, 0, 0, 0), (182, .iload 5, 2, 0, 0, 0), (184, .iconst 4, 1, 0, 0, 0), (185, .ishr, 1, 0, 0, 0), (186, .iload_n 2, 1, 0, 0, 0), (187, .iconst 1, 1, 0, 0, 0), (188, .isub, 1, 0, 0, 0), (189, .invokestatic 191, 3, 131, 0, 882), (192, .iadd, 1, 0, 0, 0), (193, .iload_n 2, 1, 0, 0, 0), (194, .irem, 1, 0, 0, 0), (195, .iload 5, 2, 0, 0, 0), (197, .bipush 8, 2, 0, 0, 0), (199, .ishr, 1, 0, 0, 0), (200, .iconst 3, 1, 0, 0, 0), (201, .iand, 1, 0, 0, 0), (202, .ifCond .ne 7, 3, 0, 0, 0), (205, .iconst 0, 1, 0, 0, 0), (206, .goto 18, 3, 0, 0, 0), (209, .iload 5, 2, 0, 0, 0), (211, .bipush 10, 2, 0, 0, 0), (213, .ishr, 1, 0, 0, 0), (214, .sipush 255, 3, 0, 0, 0), (217, .iand, 1, 0, 0, 0), (218, .iload 5, 2, 0, 0, 0), (220, .bipush 13, 2, 0, 0, 0), (222, .ishr, 1, 0, 0, 0), (223, .iand, 1, 0, 0, 0), (224, .invokestatic 199, 3, 133, 1, 579), (227, .iload 4, 2, 0, 0, 0), (229, .if_icmp .ne 53, 3, 0, 0, 0), (232, .aload_n 0, 1, 0, 0, 0), (233, .iload 4, 2, 0, 0, 0), (235, .iload 5, 2, 0, 0, 0), (237, .bipush 7, 2, 0, 0, 0), (239, .ishr, 1, 0, 0, 0), (240, .iconst 5, 1, 0, 0, 0), (241, .invokestatic 191, 3, 131, 0, 882), (244, .invokestatic 201, 3, 136, 1, 622), (247, .ifCond .ne 35, 3, 0, 0, 0), (250, .aload_n 0, 1, 0, 0, 0), (251, .iload 4, 2, 0, 0, 0), (253, .iload 5, 2, 0, 0, 0), (255, .iconst 5, 1, 0, 0, 0), (256, .ishr, 1, 0, 0, 0), (257, .iconst 1, 1, 0, 0, 0), (258, .iand, 1, 0, 0, 0), (259, .ifCond .ne 7, 3, 0, 0, 0), (262, .iconst 0, 1, 0, 0, 0), (263, .goto 13, 3, 0, 0, 0), (266, .iload 5, 2, 0, 0, 0), (268, .bipush 6, 2, 0, 0, 0), (270, .ishr, 1, 0, 0, 0), (271, .bipush 10, 2, 0, 0, 0), (273, .invokestatic 191, 3, 131, 0, 882), (276, .invokestatic 204, 3, 137, 1, 629), (279, .ifCond .eq 5, 3, 0, 0, 0), (282, .iconst 0, 1, 0, 0, 0), (283, .ireturn, 1, 0, 0, 0), (284, .iinc 4 1, 3, 0, 0, 0), (287, .goto (-147), 3, 0, 0, 0), (290, .aload_n 0, 1, 0, 0, 0), (291, .iconst 1, 1, 0, 0, 0), (292, .aload_n 1, 1, 0, 0, 0), (293, .bipush 33, 2, 0, 0, 0), (295, .invokestatic 187, 3, 130, 0, 344), (298, .iconst 4, 1, 0, 0, 0), (299, .invokestatic 191, 3, 131, 0, 882), (302, .iadd, 1, 0, 0, 0), (303, .invokestatic 206, 3, 139, 1, 636), (306, .ifCond .lt 7, 3, 0, 0, 0), (309, .iconst 1, 1, 0, 0, 0), (310, .goto 4, 3, 0, 0, 0), (313, .iconst 0, 1, 0, 0, 0), (314, .ireturn, 1, 0, 0, 0)]
def zt_L_asks : List zE := [(0, .aload_n 0, 1, 0, 0, 0), (1, .invokevirtual 208, 3, 78, 3, 313), (4, .istore_n 1, 1, 0, 0, 0), (5, .aload_n 0, 1, 0, 0, 0), (6, .invokevirtual 211, 3, 87, 3, 317), (9, .istore_n 2, 1, 0, 0, 0), (10, .ldc2_w 214, 3, 3, 31, 888), (13, .aload_n 0, 1, 0, 0, 0), (14, .invokestatic 216, 3, 163, 1, 889), (17, .lmul, 1, 0, 0, 0), (18, .aload_n 0, 1, 0, 0, 0), (19, .invokevirtual 220, 3, 114, 3, 927), (22, .ladd, 1, 0, 0, 0), (23, .lstore_n 3, 1, 0, 0, 0), (24, .ldc2_w 214, 3, 3, 31, 888), (27, .ldc2_w 214, 3, 3, 31, 888), (30, .ldc2_w 214, 3, 3, 31, 888), (33, .ldc2_w 214, 3, 3, 31, 888), (36, .ldc2_w 214, 3, 3, 31, 888), (39, .lload_n 3, 1, 0, 0, 0), (40, .lmul, 1, 0, 0, 0), (41, .iload_n 1, 1, 0, 0, 0), (42, .i2l, 1, 0, 0, 0), (43, .ladd, 1, 0, 0, 0), (44, .lmul, 1, 0, 0, 0), (45, .iload_n 2, 1, 0, 0, 0), (46, .i2l, 1, 0, 0, 0), (47, .ladd, 1, 0, 0, 0), (48, .lmul, 1, 0, 0, 0), (49, .aload_n 0, 1, 0, 0, 0), (50, .invokevirtual 223, 3, 108, 3, 321), (53, .i2l, 1, 0, 0, 0), (54, .ladd, 1, 0, 0, 0), (55, .lmul, 1, 0, 0, 0), (56, .aload_n 0, 1, 0, 0, 0), (57, .invokevirtual 226, 3, 109, 3, 325), (60, .i2l, 1, 0, 0, 0), (61, .ladd, 1, 0, 0, 0), (62, .lmul, 1, 0, 0, 0), (63, .aload_n 0, 1, 0, 0, 0), (64, .invokevirtual 229, 3, 110, 3, 944), (67, .i2l, 1, 0, 0, 0), (68, .ladd, 1, 0, 0, 0), (69, .lstore_n 3, 1, 0, 0, 0), (70, .ldc2_w 214, 3, 3, 31, 888), (73, .ldc2_w 214, 3, 3, 31, 888), (76, .ldc2_w 214, 3, 3, 31, 888), (79, .lload_n 3, 1, 0, 0, 0), (80, .lmul, 1, 0, 0, 0), (81, .aload_n 0, 1, 0, 0, 0), (82, .invokevirtual 232, 3, 111, 3, 329), (85, .i2l, 1, 0, 0, 0), (86, .ladd, 1, 0, 0, 0), (87, .lmul, 1, 0, 0, 0), (88, .aload_n 0, 1, 0, 0, 0), (89, .invokevirtual 235, 3, 100, 3, 948), (92, .i2l, 1, 0, 0, 0), (93, .ladd, 1, 0, 0, 0), (94, .lmul, 1, 0, 0, 0), (95, .aload_n 0, 1, 0, 0, 0), (96, .invokevirtual 238, 3, 102, 3, 968), (99, .i2l, 1, 0, 0, 0), (100, .ladd, 1, 0, 0, 0), (101, .lstore_n 3, 1, 0, 0, 0), (102, .iconst 0, 1, 0, 0, 0), (103, .istore 5, 2, 0, 0, 0), (105, .iload 5, 2, 0, 0, 0), (107, .iload_n 1, 1, 0, 0, 0), (108, .if_icmp .ge 86, 3, 0, 0, 0), (111, .ldc2_w 214, 3, 3, 31, 888), (114, .ldc2_w 214, 3, 3, 31, 888), (117, .ldc2_w 214, 3, 3, 31, 888), (120, .lload_n 3, 1, 0, 0, 0), (121, .lmul, 1, 0, 0, 0), (122, .aload_n 0, 1, 0, 0, 0), (123, .iload 5, 2, 0, 0, 0), (125, .invokestatic 241, 3, 146, 1, 986), (128, .i2l, 1, 0, 0, 0), (129, .ladd, 1, 0, 0, 0), (130, .lmul, 1, 0, 0, 0), (131, .aload_n 0, 1, 0, 0, 0), (132, .iload 5, 2, 0, 0, 0), (134, .invokestatic 244, 3, 144, 1, 1001), (137, .i2l, 1, 0, 0, 0), (138, .ladd, 1, 0, 0, 0), (139, .lmul, 1, 0, 0, 0), (140, .aload_n 0, 1, 0, 0, 0), (141, .iconst 0, 1, 0, 0, 0), (142, .iload 5, 2, 0, 0, 0), (144, .invokestatic 247, 3, 161, 1, 1017), (147, .i2l, 1, 0, 0, 0), (148, .ladd, 1, 0, 0, 0), (149, .lstore_n 3, 1, 0, 0, 0), (150, .aload_n 0, 1, 0, 0, 0), (151, .iload 5, 2, 0, 0, 0), (153, .invokestatic 249, 3, 164, 1, 1042), (156, .istore 6, 2, 0, 0, 0), (158, .iconst 0, 1, 0, 0, 0), (159, .istore 7, 2, 0, 0, 0), (161, .iload 7, 2, 0, 0, 0), (163, .iload 6, 2, 0, 0, 0), (165, .if_icmp .ge 23, 3, 0, 0, 0), (168, .ldc2_w 214, 3, 3, 31, 888), (171, .lload_n 3, 1, 0, 0, 0), (172, .lmul, 1, 0, 0, 0), (173, .aload_n 0, 1, 0, 0, 0), (174, .iload 7, 2, 0, 0, 0), (176, .invokestatic 184, 3, 166, 1, 1298), (179, .i2l, 1, 0, 0, 0), (180, .ladd, 1, 0, 0, 0), (181, .lstore_n 3, 1, 0, 0, 0), (182, .iinc 7 1, 3, 0, 0, 0), (185, .goto (-24), 3, 0, 0, 0), (188, .iinc 5 1, 3, 0, 0, 0), (191, .goto (-86), 3, 0, 0, 0), (194, .iconst 0, 1, 0, 0, 0), (195, .istore 5, 2, 0, 0, 0), (197, .iload 5, 2, 0, 0, 0), (199, .iload_n 2, 1, 0, 0, 0), (200, .if_icmp .ge 97, 3, 0, 0, 0), (203, .ldc2_w 214, 3, 3, 31, 888), (206, .ldc2_w 214, 3, 3, 31, 888), (209, .ldc2_w 214, 3, 3, 31, 888), (212, .ldc2_w 214, 3, 3, 31, 888), (215, .lload_n 3, 1, 0, 0, 0), (216, .lmul, 1, 0, 0, 0), (217, .aload_n 0, 1, 0, 0, 0), (218, .iload 5, 2, 0, 0, 0), (220, .invokestatic 251, 3, 154, 1, 1316), (223, .i2l, 1, 0, 0, 0), (224, .ladd, 1, 0, 0, 0), (225, .lmul, 1, 0, 0, 0), (226, .aload_n 0, 1, 0, 0, 0), (227, .iload 5, 2, 0, 0, 0), (229, .invokestatic 253, 3, 155, 1, 683), (232, .i2l, 1, 0, 0, 0), (233, .ladd, 1, 0, 0, 0), (234, .lmul, 1, 0, 0, 0), (235, .aload_n 0, 1, 0, 0, 0), (236, .iload 5, 2, 0, 0, 0), (238, .invokestatic 256, 3, 156, 1, 1324), (241, .i2l, 1, 0, 0, 0), (242, .ladd, 1, 0, 0, 0), (243, .lmul, 1, 0, 0, 0), (244, .aload_n 0, 1, 0, 0, 0), (245, .iload 5, 2, 0, 0, 0), (247, .invokestatic 259, 3, 151, 1, 1339), (250, .i2l, 1, 0, 0, 0), (251, .ladd, 1, 0, 0, 0), (252, .lstore_n 3, 1, 0, 0, 0), (253, .aload_n 0, 1, 0, 0, 0), (254, .iload 5, 2, 0, 0, 0), (256, .invokestatic 261, 3, 165, 1, 1346), (259, .istore 6, 2, 0, 0, 0), (261, .iconst 0, 1, 0, 0, 0), (262, .istore 7, 2, 0, 0, 0), (264, .iload 7, 2, 0, 0, 0), (266, .iload 6, 2, 0, 0, 0), (268, .if_icmp .ge 23, 3, 0, 0, 0), (271, .ldc2_w 214, 3, 3, 31, 888), (274, .lload_n 3, 1, 0, 0, 0), (275, .lmul, 1, 0, 0, 0), (276, .aload_n 0, 1, 0, 0, 0), (277, .iload 7, 2, 0, 0, 0), (279, .invokestatic 184, 3, 166, 1, 1298), (282, .i2l, 1, 0, 0, 0), (283, .ladd, 1, 0, 0, 0), (284, .lstore_n 3, 1, 0, 0, 0), (285, .iinc 7 1, 3, 0, 0, 0), (288, .goto (-24), 3, 0, 0, 0), (291, .iinc 5 1, 3, 0, 0, 0), (294, .goto (-97), 3, 0, 0, 0), (297, .lload_n 3, 1, 0, 0, 0), (298, .lreturn, 1, 0, 0, 0)]
def zt_L_changes : List zE := [(0, .iload_n 1, 1, 0, 0, 0), (1, .iconst 4, 1, 0, 0, 0), (2, .ishr, 1, 0, 0, 0), (3, .bipush 9, 2, 0, 0, 0), (5, .invokestatic 191, 3, 131, 0, 882), (8, .istore_n 2, 1, 0, 0, 0), (9, .iload_n 1, 1, 0, 0, 0), (10, .iconst 4, 1, 0, 0, 0), (11, .ishr, 1, 0, 0, 0), (12, .bipush 13, 2, 0, 0, 0), (14, .invokestatic 191, 3, 131, 0, 882), (17, .istore_n 3, 1, 0, 0, 0), (18, .iload_n 1, 1, 0, 0, 0), (19, .bipush 24, 2, 0, 0, 0), (21, .invokestatic 191, 3, 131, 0, 882), (24, .tableswitch 340 0 18 #[92, 92, 114, 114, 114, 147, 147, 147, 147, 180, 180, 180, 203, 203, 203, 226, 249, 263, 263], 92, 0, 0, 0), (116, .aload_n 0, 1, 0, 0, 0), (117, .iload_n 1, 1, 0, 0, 0), (118, .iconst 4, 1, 0, 0, 0), (119, .ishr, 1, 0, 0, 0), (120, .sipush 1010, 3, 0, 0, 0), (123, .invokestatic 191, 3, 131, 0, 882), (126, .invokestatic 194, 3, 132, 1, 347), (129, .ifCond .lt 7, 3, 0, 0, 0), (132, .iconst 1, 1, 0, 0, 0), (133, .goto 4, 3, 0, 0, 0), (136, .iconst 0, 1, 0, 0, 0), (137, .ireturn, 1, 0, 0, 0), (138, .aload_n 0, 1, 0, 0, 0), (139, .iload_n 2, 1, 0, 0, 0), (140, .iload_n 1, 1, 0, 0, 0), (141, .bipush 8, 2, 0, 0, 0), (143, .ishr, 1, 0, 0, 0), (144, .bipush 9, 2, 0, 0, 0), (146, .invokestatic 191, 3, 131, 0, 882), (149, .iload_n 1, 1, 0, 0, 0), (150, .bipush 10, 2, 0, 0, 0), (152, .ishr, 1, 0, 0, 0), (153, .sipush 258, 3, 0, 0, 0), (156, .invokestatic 191, 3, 131, 0, 882), (159, .invokestatic 199, 3, 133, 1, 579), (162, .ifCond .lt 7, 3, 0, 0, 0), (165, .iconst 1, 1, 0, 0, 0), (166, .goto 4, 3, 0, 0, 0), (169, .iconst 0, 1, 0, 0, 0), (170, .ireturn, 1, 0, 0, 0), (171, .aload_n 0, 1, 0, 0, 0), (172, .iload_n 2, 1, 0, 0, 0), (173, .iload_n 1, 1, 0, 0, 0), (174, .bipush 8, 2, 0, 0, 0), (176, .ishr, 1, 0, 0, 0), (177, .bipush 120, 2, 0, 0, 0), (179, .invokestatic 191, 3, 131, 0, 882), (182, .iload_n 1, 1, 0, 0, 0), (183, .bipush 11, 2, 0, 0, 0), (185, .ishr, 1, 0, 0, 0), (186, .sipush 257, 3, 0, 0, 0), (189, .invokestatic 191, 3, 131, 0, 882), (192, .invokestatic 196, 3, 134, 1, 607), (195, .ifCond .lt 7, 3, 0, 0, 0), (198, .iconst 1, 1, 0, 0, 0), (199, .goto 4, 3, 0, 0, 0), (202, .iconst 0, 1, 0, 0, 0), (203, .ireturn, 1, 0, 0, 0), (204, .aload_n 0, 1, 0, 0, 0), (205, .iload_n 2, 1, 0, 0, 0), (206, .iload_n 1, 1, 0, 0, 0), (207, .bipush 8, 2, 0, 0, 0), (209, .ishr, 1, 0, 0, 0), (210, .bipush 60, 2, 0, 0, 0), (212, .invokestatic 191, 3, 131, 0, 882), (215, .invokestatic 263, 3, 135, 1, 615), (218, .ifCond .lt 7, 3, 0, 0, 0), (221, .iconst 1, 1, 0, 0, 0), (222, .goto 4, 3, 0, 0, 0), (225, .iconst 0, 1, 0, 0, 0), (226, .ireturn, 1, 0, 0, 0), (227, .aload_n 0, 1, 0, 0, 0), (228, .iload_n 3, 1, 0, 0, 0), (229, .iload_n 1, 1, 0, 0, 0), (230, .bipush 9, 2, 0, 0, 0), (232, .ishr, 1, 0, 0, 0), (233, .bipush 6, 2, 0, 0, 0), (235, .invokestatic 191, 3, 131, 0, 882), (238, .invokestatic 201, 3, 136, 1, 622), (241, .ifCond .lt 7, 3, 0, 0, 0), (244, .iconst 1, 1, 0, 0, 0), (245, .goto 4, 3, 0, 0, 0), (248, .iconst 0, 1, 0, 0, 0), (249, .ireturn, 1, 0, 0, 0), (250, .aload_n 0, 1, 0, 0, 0), (251, .iload_n 3, 1, 0, 0, 0), (252, .iload_n 1, 1, 0, 0, 0), (253, .bipush 9, 2, 0, 0, 0), (255, .ishr, 1, 0, 0, 0), (256, .bipush 11, 2, 0, 0, 0), (258, .invokestatic 191, 3, 131, 0, 882), (261, .invokestatic 204, 3, 137, 1, 629), (264, .ifCond .lt 7, 3, 0, 0, 0), (267, .iconst 1, 1, 0, 0, 0), (268, .goto 4, 3, 0, 0, 0), (271, .iconst 0, 1, 0, 0, 0), (272, .ireturn, 1, 0, 0, 0), (273, .aload_n 0, 1, 0, 0, 0), (274, .iload_n 3, 1, 0, 0, 0), (275, .invokestatic 265, 3, 138, 1, 1360), (278, .ifCond .lt 7, 3, 0, 0, 0), (281, .iconst 1, 1, 0, 0, 0), (282, .goto 4, 3, 0, 0, 0), (285, .iconst 0, 1, 0, 0, 0), (286, .ireturn, 1, 0, 0, 0), (287, .aload_n 0, 1, 0, 0, 0), (288, .iload_n 1, 1, 0, 0, 0), (289, .bipush 6, 2, 0, 0, 0), (291, .ishr, 1, 0, 0, 0), (292, .iconst 1, 1, 0, 0, 0), (293, .iand, 1, 0, 0, 0), (294, .ifCond .ne 32, 3, 0, 0, 0), (297, .new 267, 3, 1, 0, 1367), (300, .dup, 1, 0, 0, 0), (301, .invokespecial 269, 3, 203, 5, 1368), (304, .ldc_w 270, 3, 2, 33, 0), (307, .invokevirtual 272, 3, 204, 3, 1370), (310, .iload_n 3, 1, 0, 0, 0), (311, .invokevirtual 276, 3, 206, 3, 1371), (314, .ldc_w 279, 3, 2, 34, 0), (317, .invokevirtual 272, 3, 204, 3, 1370), (320, .invokevirtual 281, 3, 207, 3, 1373), (323, .goto 29, 3, 0, 0, 0), (326, .new 267, 3, 1, 0, 1367), (329, .dup, 1, 0, 0, 0), (330, .invokespecial 269, 3, 203, 5, 1368), (333, .ldc_w 285, 3, 2, 35, 0), (336, .invokevirtual 272, 3, 204, 3, 1370), (339, .iload_n 2, 1, 0, 0, 0), (340, .invokevirtual 276, 3, 206, 3, 1371), (343, .ldc_w 287, 3, 2, 36, 0), (346, .invokevirtual 272, 3, 204, 3, 1370), (349, .invokevirtual 281, 3, 207, 3, 1373), (352, .invokestatic 289, 3, 173, 0, 1376), (355, .ifCond .lt 7, 3, 0, 0, 0), (358, .iconst 1, 1, 0, 0, 0), (359, .goto 4, 3, 0, 0, 0), (362, .iconst 0, 1, 0, 0, 0), (363, .ireturn, 1, 0, 0, 0), (364, .aload_n 0, 1, 0, 0, 0), (365, .iload_n 1, 1, 0, 0, 0), (366, .iconst 4, 1, 0, 0, 0), (367, .ishr, 1, 0, 0, 0), (368, .bipush 62, 2, 0, 0, 0), (370, .invokestatic 191, 3, 131, 0, 882), (373, .invokestatic 206, 3, 139, 1, 636), (376, .ifCond .lt 7, 3, 0, 0, 0), (379, .iconst 1, 1, 0, 0, 0), (380, .goto 4, 3, 0, 0, 0), (383, .iconst 0, 1, 0, 0, 0), (384, .ireturn, 1, 0, 0, 0)]
def zt_L_thrown : List zE := [(0, .aload_n 0, 1, 0, 0, 0), (1, .invokestatic 293, 3, 175, 0, 885), (4, .lstore_n 1, 1, 0, 0, 0), (5, .aload_n 0, 1, 0, 0, 0), (6, .invokevirtual 208, 3, 78, 3, 313), (9, .istore_n 3, 1, 0, 0, 0), (10, .aload_n 0, 1, 0, 0, 0), (11, .invokevirtual 211, 3, 87, 3, 317), (14, .istore 4, 2, 0, 0, 0), (16, .aload_n 0, 1, 0, 0, 0), (17, .bipush 9, 2, 0, 0, 0), (19, .invokestatic 194, 3, 132, 1, 347), (22, .sipush (-1001), 3, 0, 0, 0), (25, .if_icmp .ne 344, 3, 0, 0, 0), (28, .aload_n 0, 1, 0, 0, 0), (29, .sipush 1000, 3, 0, 0, 0), (32, .invokestatic 194, 3, 132, 1, 347), (35, .sipush (-1001), 3, 0, 0, 0), (38, .if_icmp .ne 331, 3, 0, 0, 0), (41, .iload_n 3, 1, 0, 0, 0), (42, .bipush 8, 2, 0, 0, 0), (44, .if_icmp .lt 15, 3, 0, 0, 0), (47, .aload_n 0, 1, 0, 0, 0), (48, .bipush 50, 2, 0, 0, 0), (50, .invokestatic 194, 3, 132, 1, 347), (53, .sipush (-1002), 3, 0, 0, 0), (56, .if_icmp .ne 313, 3, 0, 0, 0), (59, .aload_n 0, 1, 0, 0, 0), (60, .iload_n 3, 1, 0, 0, 0), (61, .iload_n 3, 1, 0, 0, 0), (62, .sipush 999, 3, 0, 0, 0), (65, .invokestatic 199, 3, 133, 1, 579), (68, .sipush (-1001), 3, 0, 0, 0), (71, .if_icmp .ne 298, 3, 0, 0, 0), (74, .aload_n 0, 1, 0, 0, 0), (75, .iconst 0, 1, 0, 0, 0), (76, .iconst (-1), 1, 0, 0, 0), (77, .iconst 0, 1, 0, 0, 0), (78, .invokestatic 199, 3, 133, 1, 579), (81, .sipush (-1001), 3, 0, 0, 0), (84, .if_icmp .ne 285, 3, 0, 0, 0), (87, .aload_n 0, 1, 0, 0, 0), (88, .iconst 0, 1, 0, 0, 0), (89, .iconst 0, 1, 0, 0, 0), (90, .iconst 0, 1, 0, 0, 0), (91, .invokestatic 199, 3, 133, 1, 579), (94, .sipush (-1002), 3, 0, 0, 0), (97, .if_icmp .ne 272, 3, 0, 0, 0), (100, .aload_n 0, 1, 0, 0, 0), (101, .iconst 0, 1, 0, 0, 0), (102, .iconst 1, 1, 0, 0, 0), (103, .iconst (-1), 1, 0, 0, 0), (104, .invokestatic 199, 3, 133, 1, 579), (107, .sipush (-1002), 3, 0, 0, 0), (110, .if_icmp .ne 259, 3, 0, 0, 0), (113, .aload_n 0, 1, 0, 0, 0), (114, .iconst 0, 1, 0, 0, 0), (115, .iconst 1, 1, 0, 0, 0), (116, .sipush 256, 3, 0, 0, 0), (119, .invokestatic 199, 3, 133, 1, 579), (122, .sipush (-1002), 3, 0, 0, 0), (125, .if_icmp .ne 244, 3, 0, 0, 0), (128, .iload 4, 2, 0, 0, 0), (130, .bipush 12, 2, 0, 0, 0), (132, .if_icmp .lt 16, 3, 0, 0, 0), (135, .aload_n 0, 1, 0, 0, 0), (136, .iconst 0, 1, 0, 0, 0), (137, .iconst 1, 1, 0, 0, 0), (138, .iconst 0, 1, 0, 0, 0), (139, .invokestatic 199, 3, 133, 1, 579), (142, .sipush (-1003), 3, 0, 0, 0), (145, .if_icmp .ne 224, 3, 0, 0, 0), (148, .aload_n 0, 1, 0, 0, 0), (149, .iload_n 3, 1, 0, 0, 0), (150, .iconst 0, 1, 0, 0, 0), (151, .iconst 0, 1, 0, 0, 0), (152, .invokestatic 196, 3, 134, 1, 607), (155, .sipush (-1001), 3, 0, 0, 0), (158, .if_icmp .ne 211, 3, 0, 0, 0), (161, .aload_n 0, 1, 0, 0, 0), (162, .iconst 0, 1, 0, 0, 0), (163, .iconst 0, 1, 0, 0, 0), (164, .iconst 0, 1, 0, 0, 0), (165, .invokestatic 196, 3, 134, 1, 607), (168, .sipush (-1002), 3, 0, 0, 0), (171, .if_icmp .ne 198, 3, 0, 0, 0), (174, .aload_n 0, 1, 0, 0, 0), (175, .iconst 0, 1, 0, 0, 0), (176, .sipush 1000, 3, 0, 0, 0), (179, .iconst 0, 1, 0, 0, 0), (180, .invokestatic 196, 3, 134, 1, 607), (183, .sipush (-1002), 3, 0, 0, 0), (186, .if_icmp .ne 183, 3, 0, 0, 0), (189, .aload_n 0, 1, 0, 0, 0), (190, .iconst 0, 1, 0, 0, 0), (191, .iconst 1, 1, 0, 0, 0), (192, .sipush 256, 3, 0, 0, 0), (195, .invokestatic 196, 3, 134, 1, 607), (198, .sipush (-1002), 3, 0, 0, 0), (201, .if_icmp .ne 168, 3, 0, 0, 0), (204, .aload_n 0, 1, 0, 0, 0), (205, .iconst 0, 1, 0, 0, 0), (206, .iconst 1, 1, 0, 0, 0), (207, .iconst (-1), 1, 0, 0, 0), (208, .invokestatic 196, 3, 134, 1, 607), (211, .sipush (-1002), 3, 0, 0, 0), (214, .if_icmp .ne 155, 3, 0, 0, 0), (217, .aload_n 0, 1, 0, 0, 0), (218, .iload_n 3, 1, 0, 0, 0), (219, .iconst 0, 1, 0, 0, 0), (220, .invokestatic 263, 3, 135, 1, 615), (223, .sipush (-1001), 3, 0, 0, 0), (226, .if_icmp .ne 143, 3, 0, 0, 0), (229, .aload_n 0, 1, 0, 0, 0), (230, .iconst 0, 1, 0, 0, 0), (231, .iconst 0, 1, 0, 0, 0), (232, .invokestatic 263, 3, 135, 1, 615), (235, .sipush (-1002), 3, 0, 0, 0), (238, .if_icmp .ne 131, 3, 0, 0, 0), (241, .aload_n 0, 1, 0, 0, 0), (242, .iconst 0, 1, 0, 0, 0), (243, .sipush 1000, 3, 0, 0, 0), (246, .invokestatic 263, 3, 135, 1, 615), (249, .sipush (-1002), 3, 0, 0, 0), (252, .if_icmp .ne 117, 3, 0, 0, 0), (255, .aload_n 0, 1, 0, 0, 0), (256, .iload 4, 2, 0, 0, 0), (258, .bipush 9, 2, 0, 0, 0), (260, .invokestatic 201, 3, 136, 1, 622), (263, .sipush (-1001), 3, 0, 0, 0), (266, .if_icmp .ne 103, 3, 0, 0, 0), (269, .aload_n 0, 1, 0, 0, 0), (270, .iconst 0, 1, 0, 0, 0), (271, .iconst (-1), 1, 0, 0, 0), (272, .invokestatic 201, 3, 136, 1, 622), (275, .sipush (-1002), 3, 0, 0, 0), (278, .if_icmp .ne 91, 3, 0, 0, 0), (281, .aload_n 0, 1, 0, 0, 0), (282, .iconst 0, 1, 0, 0, 0), (283, .iconst 5, 1, 0, 0, 0), (284, .invokestatic 201, 3, 136, 1, 622), (287, .sipush (-1002), 3, 0, 0, 0), (290, .if_icmp .ne 79, 3, 0, 0, 0), (293, .aload_n 0, 1, 0, 0, 0), (294, .iconst (-1), 1, 0, 0, 0), (295, .iconst 0, 1, 0, 0, 0), (296, .invokestatic 204, 3, 137, 1, 629), (299, .sipush (-1001), 3, 0, 0, 0), (302, .if_icmp .ne 67, 3, 0, 0, 0), (305, .aload_n 0, 1, 0, 0, 0), (306, .iconst 0, 1, 0, 0, 0), (307, .bipush 10, 2, 0, 0, 0), (309, .invokestatic 204, 3, 137, 1, 629), (312, .sipush (-1002), 3, 0, 0, 0), (315, .if_icmp .ne 54, 3, 0, 0, 0), (318, .aload_n 0, 1, 0, 0, 0), (319, .iconst 0, 1, 0, 0, 0), (320, .iconst (-1), 1, 0, 0, 0), (321, .invokestatic 204, 3, 137, 1, 629), (324, .sipush (-1002), 3, 0, 0, 0), (327, .if_icmp .ne 42, 3, 0, 0, 0), (330, .aload_n 0, 1, 0, 0, 0), (331, .iload 4, 2, 0, 0, 0), (333, .invokestatic 265, 3, 138, 1, 1360), (336, .sipush (-1001), 3, 0, 0, 0), (339, .if_icmp .ne 30, 3, 0, 0, 0), (342, .aload_n 0, 1, 0, 0, 0), (343, .iconst 0, 1, 0, 0, 0), (344, .invokestatic 206, 3, 139, 1, 636), (347, .sipush (-1001), 3, 0, 0, 0), (350, .if_icmp .ne 19, 3, 0, 0, 0), (353, .aload_n 0, 1, 0, 0, 0), (354, .bipush 61, 2, 0, 0, 0), (356, .invokestatic 206, 3, 139, 1, 636), (359, .sipush (-1001), 3, 0, 0, 0), (362, .if_icmp .ne 7, 3, 0, 0, 0), (365, .iconst 1, 1, 0, 0, 0), (366, .goto 4, 3, 0, 0, 0), (369, .iconst 0, 1, 0, 0, 0), (370, .istore 5, 2, 0, 0, 0), (372, .iconst 0, 1, 0, 0, 0), (373, .istore 6, 2, 0, 0, 0), (375, .iload 6, 2, 0, 0, 0), (377, .iload_n 3, 1, 0, 0, 0), (378, .if_icmp .ge 158, 3, 0, 0, 0), (381, .aload_n 0, 1, 0, 0, 0), (382, .iload 6, 2, 0, 0, 0), (384, .invokestatic 296, 3, 140, 1, 1384), (387, .aload_n 0, 1, 0, 0, 0), (388, .iload 6, 2, 0, 0, 0), (390, .invokestatic 298, 3, 141, 1, 643), (393, .isub, 1, 0, 0, 0), (394, .istore 7, 2, 0, 0, 0), (396, .iload 5, 2, 0, 0, 0), (398, .ifCond .eq 129, 3, 0, 0, 0), (401, .iload 7, 2, 0, 0, 0), (403, .sipush 998, 3, 0, 0, 0), (406, .if_icmp .gt 20, 3, 0, 0, 0), (409, .aload_n 0, 1, 0, 0, 0), (410, .iload 6, 2, 0, 0, 0), (412, .iload 7, 2, 0, 0, 0), (414, .iconst 1, 1, 0, 0, 0), (415, .iadd, 1, 0, 0, 0), (416, .iconst 0, 1, 0, 0, 0), (417, .invokestatic 196, 3, 134, 1, 607), (420, .sipush (-1003), 3, 0, 0, 0), (423, .if_icmp .ne 104, 3, 0, 0, 0), (426, .aload_n 0, 1, 0, 0, 0), (427, .iload 6, 2, 0, 0, 0), (429, .invokestatic 298, 3, 141, 1, 643), (432, .sipush 998, 3, 0, 0, 0), (435, .if_icmp .gt 23, 3, 0, 0, 0), (438, .aload_n 0, 1, 0, 0, 0), (439, .iload 6, 2, 0, 0, 0), (441, .aload_n 0, 1, 0, 0, 0), (442, .iload 6, 2, 0, 0, 0), (444, .invokestatic 298, 3, 141, 1, 643), (447, .iconst 1, 1, 0, 0, 0), (448, .iadd, 1, 0, 0, 0), (449, .invokestatic 263, 3, 135, 1, 615), (452, .sipush (-1003), 3, 0, 0, 0), (455, .if_icmp .ne 72, 3, 0, 0, 0), (458, .aload_n 0, 1, 0, 0, 0), (459, .iload 6, 2, 0, 0, 0), (461, .bipush 64, 2, 0, 0, 0), (463, .invokestatic 300, 3, 143, 1, 1391), (466, .sipush (-1002), 3, 0, 0, 0), (469, .if_icmp .ne 58, 3, 0, 0, 0), (472, .aload_n 0, 1, 0, 0, 0), (473, .iload 6, 2, 0, 0, 0), (475, .bipush 105, 2, 0, 0, 0), (477, .invokestatic 300, 3, 143, 1, 1391), (480, .sipush (-1002), 3, 0, 0, 0), (483, .if_icmp .ne 44, 3, 0, 0, 0), (486, .aload_n 0, 1, 0, 0, 0), (487, .iconst 0, 1, 0, 0, 0), (488, .iload 6, 2, 0, 0, 0), (490, .invokestatic 304, 3, 157, 1, 1399), (493, .iconst 1, 1, 0, 0, 0), (494, .if_icmp .eq 29, 3, 0, 0, 0), (497, .aload_n 0, 1, 0, 0, 0), (498, .iconst 0, 1, 0, 0, 0), (499, .iload 6, 2, 0, 0, 0), (501, .invokestatic 247, 3, 161, 1, 1017), (504, .sipush (-1002), 3, 0, 0, 0), (507, .if_icmp .ne 20, 3, 0, 0, 0), (510, .aload_n 0, 1, 0, 0, 0), (511, .iload 6, 2, 0, 0, 0), (513, .iconst 0, 1, 0, 0, 0), (514, .invokestatic 307, 3, 162, 1, 1406), (517, .sipush (-1002), 3, 0, 0, 0), (520, .if_icmp .ne 7, 3, 0, 0, 0), (523, .iconst 1, 1, 0, 0, 0), (524, .goto 4, 3, 0, 0, 0), (527, .iconst 0, 1, 0, 0, 0), (528, .istore 5, 2, 0, 0, 0), (530, .iinc 6 1, 3, 0, 0, 0), (533, .goto (-158), 3, 0, 0, 0), (536, .iload 5, 2, 0, 0, 0), (538, .ifCond .eq 380, 3, 0, 0, 0), (541, .aload_n 0, 1, 0, 0, 0), (542, .iload_n 3, 1, 0, 0, 0), (543, .invokestatic 296, 3, 140, 1, 1384), (546, .sipush (-1001), 3, 0, 0, 0), (549, .if_icmp .ne 369, 3, 0, 0, 0), (552, .aload_n 0, 1, 0, 0, 0), (553, .iconst (-1), 1, 0, 0, 0), (554, .invokestatic 298, 3, 141, 1, 643), (557, .sipush (-1001), 3, 0, 0, 0), (560, .if_icmp .ne 358, 3, 0, 0, 0), (563, .aload_n 0, 1, 0, 0, 0), (564, .iload_n 3, 1, 0, 0, 0), (565, .invokestatic 310, 3, 142, 1, 656), (568, .sipush (-1001), 3, 0, 0, 0), (571, .if_icmp .ne 347, 3, 0, 0, 0), (574, .aload_n 0, 1, 0, 0, 0), (575, .iload_n 3, 1, 0, 0, 0), (576, .bipush 122, 2, 0, 0, 0), (578, .invokestatic 300, 3, 143, 1, 1391), (581, .sipush (-1001), 3, 0, 0, 0), (584, .if_icmp .ne 334, 3, 0, 0, 0), (587, .aload_n 0, 1, 0, 0, 0), (588, .iload_n 3, 1, 0, 0, 0), (589, .invokestatic 244, 3, 144, 1, 1001), (592, .sipush (-1001), 3, 0, 0, 0), (595, .if_icmp .ne 323, 3, 0, 0, 0), (598, .aload_n 0, 1, 0, 0, 0), (599, .iconst (-1), 1, 0, 0, 0), (600, .invokestatic 244, 3, 144, 1, 1001), (603, .sipush (-1001), 3, 0, 0, 0), (606, .if_icmp .ne 312, 3, 0, 0, 0), (609, .aload_n 0, 1, 0, 0, 0), (610, .iload_n 3, 1, 0, 0, 0), (611, .invokestatic 312, 3, 145, 1, 1429), (614, .ldc 66, 2, 1, 3296346112, 1433), (616, .fcmp .l, 1, 0, 0, 0), (617, .ifCond .ne 301, 3, 0, 0, 0), (620, .aload_n 0, 1, 0, 0, 0), (621, .iload_n 3, 1, 0, 0, 0), (622, .invokestatic 241, 3, 146, 1, 986), (625, .sipush (-1001), 3, 0, 0, 0), (628, .if_icmp .ne 290, 3, 0, 0, 0), (631, .aload_n 0, 1, 0, 0, 0), (632, .iload 4, 2, 0, 0, 0), (634, .invokestatic 315, 3, 147, 1, 1434), (637, .sipush (-1001), 3, 0, 0, 0), (640, .if_icmp .ne 278, 3, 0, 0, 0), (643, .aload_n 0, 1, 0, 0, 0), (644, .iconst (-1), 1, 0, 0, 0), (645, .invokestatic 317, 3, 148, 1, 1441), (648, .sipush (-1001), 3, 0, 0, 0), (651, .if_icmp .ne 267, 3, 0, 0, 0), (654, .aload_n 0, 1, 0, 0, 0), (655, .iload 4, 2, 0, 0, 0), (657, .invokestatic 319, 3, 149, 1, 663), (660, .sipush (-1001), 3, 0, 0, 0), (663, .if_icmp .ne 255, 3, 0, 0, 0), (666, .aload_n 0, 1, 0, 0, 0), (667, .iload 4, 2, 0, 0, 0), (669, .invokestatic 321, 3, 150, 1, 676), (672, .sipush (-1001), 3, 0, 0, 0), (675, .if_icmp .ne 243, 3, 0, 0, 0), (678, .aload_n 0, 1, 0, 0, 0), (679, .iload 4, 2, 0, 0, 0), (681, .invokestatic 259, 3, 151, 1, 1339), (684, .sipush (-1001), 3, 0, 0, 0), (687, .if_icmp .ne 231, 3, 0, 0, 0), (690, .aload_n 0, 1, 0, 0, 0), (691, .iconst (-1), 1, 0, 0, 0), (692, .invokestatic 323, 3, 152, 1, 1448), (695, .sipush (-1001), 3, 0, 0, 0), (698, .if_icmp .ne 220, 3, 0, 0, 0), (701, .aload_n 0, 1, 0, 0, 0), (702, .iload 4, 2, 0, 0, 0), (704, .invokestatic 325, 3, 153, 1, 1455), (707, .sipush (-1001), 3, 0, 0, 0), (710, .if_icmp .ne 208, 3, 0, 0, 0), (713, .aload_n 0, 1, 0, 0, 0), (714, .iload 4, 2, 0, 0, 0), (716, .invokestatic 251, 3, 154, 1, 1316), (719, .sipush (-1001), 3, 0, 0, 0), (722, .if_icmp .ne 196, 3, 0, 0, 0), (725, .aload_n 0, 1, 0, 0, 0), (726, .iload 4, 2, 0, 0, 0), (728, .invokestatic 253, 3, 155, 1, 683), (731, .sipush (-1001), 3, 0, 0, 0), (734, .if_icmp .ne 184, 3, 0, 0, 0), (737, .aload_n 0, 1, 0, 0, 0), (738, .iload 4, 2, 0, 0, 0), (740, .invokestatic 256, 3, 156, 1, 1324), (743, .sipush (-1001), 3, 0, 0, 0), (746, .if_icmp .ne 172, 3, 0, 0, 0), (749, .aload_n 0, 1, 0, 0, 0), (750, .iconst (-1), 1, 0, 0, 0), (751, .invokestatic 256, 3, 156, 1, 1324), (754, .sipush (-1001), 3, 0, 0, 0), (757, .if_icmp .ne 161, 3, 0, 0, 0), (760, .aload_n 0, 1, 0, 0, 0), (761, .iload_n 3, 1, 0, 0, 0), (762, .iconst 0, 1, 0, 0, 0), (763, .invokestatic 304, 3, 157, 1, 1399), (766, .sipush (-1001), 3, 0, 0, 0), (769, .if_icmp .ne 149, 3, 0, 0, 0), (772, .aload_n 0, 1, 0, 0, 0), (773, .iconst 0, 1, 0, 0, 0), (774, .iload_n 3, 1, 0, 0, 0), (775, .invokestatic 304, 3, 157, 1, 1399), (778, .sipush (-1001), 3, 0, 0, 0), (781, .if_icmp .ne 137, 3, 0, 0, 0), (784, .aload_n 0, 1, 0, 0, 0), (785, .iload 4, 2, 0, 0, 0), (787, .invokestatic 327, 3, 158, 1, 1463), (790, .sipush (-1001), 3, 0, 0, 0), (793, .if_icmp .ne 125, 3, 0, 0, 0), (796, .aload_n 0, 1, 0, 0, 0), (797, .iload_n 3, 1, 0, 0, 0), (798, .iload_n 3, 1, 0, 0, 0), (799, .invokestatic 329, 3, 159, 1, 1470), (802, .sipush (-1001), 3, 0, 0, 0), (805, .if_icmp .ne 113, 3, 0, 0, 0), (808, .aload_n 0, 1, 0, 0, 0), (809, .iconst 0, 1, 0, 0, 0), (810, .iconst (-1), 1, 0, 0, 0), (811, .invokestatic 331, 3, 160, 1, 1490), (814, .sipush (-1001), 3, 0, 0, 0), (817, .if_icmp .ne 101, 3, 0, 0, 0), (820, .aload_n 0, 1, 0, 0, 0), (821, .iload_n 3, 1, 0, 0, 0), (822, .iconst 0, 1, 0, 0, 0), (823, .invokestatic 247, 3, 161, 1, 1017), (826, .sipush (-1001), 3, 0, 0, 0), (829, .if_icmp .ne 89, 3, 0, 0, 0), (832, .aload_n 0, 1, 0, 0, 0), (833, .iconst 0, 1, 0, 0, 0), (834, .iload_n 3, 1, 0, 0, 0), (835, .invokestatic 307, 3, 162, 1, 1406), (838, .sipush (-1001), 3, 0, 0, 0), (841, .if_icmp .ne 77, 3, 0, 0, 0), (844, .aload_n 0, 1, 0, 0, 0), (845, .iload_n 3, 1, 0, 0, 0), (846, .invokestatic 249, 3, 164, 1, 1042), (849, .sipush (-1001), 3, 0, 0, 0), (852, .if_icmp .ne 66, 3, 0, 0, 0), (855, .aload_n 0, 1, 0, 0, 0), (856, .iload 4, 2, 0, 0, 0), (858, .invokestatic 261, 3, 165, 1, 1346), (861, .sipush (-1001), 3, 0, 0, 0), (864, .if_icmp .ne 54, 3, 0, 0, 0), (867, .aload_n 0, 1, 0, 0, 0), (868, .iconst (-1), 1, 0, 0, 0), (869, .invokestatic 184, 3, 166, 1, 1298), (872, .sipush (-1001), 3, 0, 0, 0), (875, .if_icmp .ne 43, 3, 0, 0, 0), (878, .aload_n 0, 1, 0, 0, 0), (879, .bipush 60, 2, 0, 0, 0), (881, .invokestatic 184, 3, 166, 1, 1298), (884, .sipush (-1001), 3, 0, 0, 0), (887, .if_icmp .ne 31, 3, 0, 0, 0), (890, .aload_n 0, 1, 0, 0, 0), (891, .bipush 31, 2, 0, 0, 0), (893, .invokestatic 175, 3, 167, 1, 690), (896, .sipush (-1001), 3, 0, 0, 0), (899, .if_icmp .ne 19, 3, 0, 0, 0), (902, .aload_n 0, 1, 0, 0, 0), (903, .bipush 127, 2, 0, 0, 0), (905, .invokestatic 175, 3, 167, 1, 690), (908, .sipush (-1001), 3, 0, 0, 0), (911, .if_icmp .ne 7, 3, 0, 0, 0), (914, .iconst 1, 1, 0, 0, 0), (915, .goto 4, 3, 0, 0, 0), (918, .iconst 0, 1, 0, 0, 0), (919, .istore 5, 2, 0, 0, 0), (921, .iload 5, 2, 0, 0, 0), (923, .ifCond .eq 84, 3, 0, 0, 0), (926, .aload_n 0, 1, 0, 0, 0), (927, .ldc_w 334, 3, 2, 37, 0), (930, .invokestatic 289, 3, 173, 0, 1376), (933, .sipush (-1001), 3, 0, 0, 0), (936, .if_icmp .ne 71, 3, 0, 0, 0), (939, .aload_n 0, 1, 0, 0, 0), (940, .invokestatic 336, 3, 169, 1, 835), (943, .ifCond .ne 64, 3, 0, 0, 0), (946, .aload_n 0, 1, 0, 0, 0), (947, .ldc_w 338, 3, 2, 38, 0), (950, .invokestatic 289, 3, 173, 0, 1376), (953, .sipush (-1002), 3, 0, 0, 0), (956, .if_icmp .ne 51, 3, 0, 0, 0), (959, .aload_n 0, 1, 0, 0, 0), (960, .invokestatic 340, 3, 170, 1, 1503), (963, .iconst 1, 1, 0, 0, 0), (964, .if_icmp .ne 43, 3, 0, 0, 0), (967, .aload_n 0, 1, 0, 0, 0), (968, .ldc_w 342, 3, 2, 39, 0), (971, .invokestatic 289, 3, 173, 0, 1376), (974, .sipush (-1002), 3, 0, 0, 0), (977, .if_icmp .ne 30, 3, 0, 0, 0), (980, .aload_n 0, 1, 0, 0, 0), (981, .invokestatic 340, 3, 170, 1, 1503), (984, .ifCond .ne 23, 3, 0, 0, 0), (987, .aload_n 0, 1, 0, 0, 0), (988, .invokestatic 336, 3, 169, 1, 835), (991, .ifCond .ne 16, 3, 0, 0, 0), (994, .aload_n 0, 1, 0, 0, 0), (995, .invokestatic 293, 3, 175, 0, 885), (998, .lload_n 1, 1, 0, 0, 0), (999, .lcmp, 1, 0, 0, 0), (1000, .ifCond .ne 7, 3, 0, 0, 0), (1003, .iconst 1, 1, 0, 0, 0), (1004, .goto 4, 3, 0, 0, 0), (1007, .iconst 0, 1, 0, 0, 0), (1008, .ireturn, 1, 0, 0, 0)]
def zt_L_law : List zE := [(0, .new 8, 3, 8, 0, 65), (3, .dup, 1, 0, 0, 0), (4, .invokespecial 344, 3, 65, 5, 67), (7, .astore_n 1, 1, 0, 0, 0), (8, .aload_n 1, 1, 0, 0, 0), (9, .invokestatic 345, 3, 171, 1, 859), (12, .sipush (-1001), 3, 0, 0, 0), (15, .if_icmp .ne 38, 3, 0, 0, 0), (18, .aload_n 1, 1, 0, 0, 0), (19, .invokestatic 347, 3, 172, 1, 871), (22, .sipush (-1001), 3, 0, 0, 0), (25, .if_icmp .ne 28, 3, 0, 0, 0), (28, .aload_n 1, 1, 0, 0, 0), (29, .invokevirtual 349, 3, 125, 3, 333), (32, .ifCond .ne 21, 3, 0, 0, 0), (35, .aload_n 1, 1, 0, 0, 0), (36, .bipush 60, 2, 0, 0, 0), (38, .invokestatic 206, 3, 139, 1, 636), (41, .ifCond .ne 12, 3, 0, 0, 0), (44, .aload_n 1, 1, 0, 0, 0), (45, .invokevirtual 223, 3, 108, 3, 321), (48, .bipush 60, 2, 0, 0, 0), (50, .if_icmp .eq 5, 3, 0, 0, 0), (53, .iconst 0, 1, 0, 0, 0), (54, .ireturn, 1, 0, 0, 0), (55, .iconst 0, 1, 0, 0, 0), (56, .istore_n 2, 1, 0, 0, 0), (57, .iload_n 2, 1, 0, 0, 0), (58, .bipush 60, 2, 0, 0, 0), (60, .if_icmp .ge 29, 3, 0, 0, 0), (63, .aload_n 1, 1, 0, 0, 0), (64, .bipush 65, 2, 0, 0, 0), (66, .iload_n 2, 1, 0, 0, 0), (67, .bipush 26, 2, 0, 0, 0), (69, .irem, 1, 0, 0, 0), (70, .iadd, 1, 0, 0, 0), (71, .i2c, 1, 0, 0, 0), (72, .invokestatic 175, 3, 167, 1, 690), (75, .iload_n 2, 1, 0, 0, 0), (76, .iconst 1, 1, 0, 0, 0), (77, .iadd, 1, 0, 0, 0), (78, .if_icmp .eq 5, 3, 0, 0, 0), (81, .iconst 0, 1, 0, 0, 0), (82, .ireturn, 1, 0, 0, 0), (83, .iinc 2 1, 3, 0, 0, 0), (86, .goto (-29), 3, 0, 0, 0), (89, .aload_n 1, 1, 0, 0, 0), (90, .bipush 116, 2, 0, 0, 0), (92, .invokestatic 175, 3, 167, 1, 690), (95, .sipush (-1002), 3, 0, 0, 0), (98, .if_icmp .ne 48, 3, 0, 0, 0), (101, .aload_n 1, 1, 0, 0, 0), (102, .invokestatic 180, 3, 168, 1, 707), (105, .sipush (-1001), 3, 0, 0, 0), (108, .if_icmp .ne 38, 3, 0, 0, 0), (111, .aload_n 1, 1, 0, 0, 0), (112, .invokestatic 336, 3, 169, 1, 835), (115, .ifCond .ne 31, 3, 0, 0, 0), (118, .aload_n 1, 1, 0, 0, 0), (119, .bipush 116, 2, 0, 0, 0), (121, .invokestatic 175, 3, 167, 1, 690), (124, .iconst 1, 1, 0, 0, 0), (125, .if_icmp .ne 21, 3, 0, 0, 0), (128, .aload_n 1, 1, 0, 0, 0), (129, .invokestatic 180, 3, 168, 1, 707), (132, .sipush (-1001), 3, 0, 0, 0), (135, .if_icmp .ne 11, 3, 0, 0, 0), (138, .aload_n 1, 1, 0, 0, 0), (139, .invokestatic 336, 3, 169, 1, 835), (142, .iconst 1, 1, 0, 0, 0), (143, .if_icmp .eq 5, 3, 0, 0, 0), (146, .iconst 0, 1, 0, 0, 0), (147, .ireturn, 1, 0, 0, 0), (148, .iconst 0, 1, 0, 0, 0), (149, .istore_n 2, 1, 0, 0, 0), (150, .iload_n 2, 1, 0, 0, 0), (151, .bipush 8, 2, 0, 0, 0), (153, .if_icmp .ge 23, 3, 0, 0, 0), (156, .aload_n 1, 1, 0, 0, 0), (157, .bipush 10, 2, 0, 0, 0), (159, .iload_n 2, 1, 0, 0, 0), (160, .iadd, 1, 0, 0, 0), (161, .invokestatic 194, 3, 132, 1, 347), (164, .iload_n 2, 1, 0, 0, 0), (165, .if_icmp .eq 5, 3, 0, 0, 0), (168, .iconst 0, 1, 0, 0, 0), (169, .ireturn, 1, 0, 0, 0), (170, .iinc 2 1, 3, 0, 0, 0), (173, .goto (-23), 3, 0, 0, 0), (176, .iconst 0, 1, 0, 0, 0), (177, .istore_n 2, 1, 0, 0, 0), (178, .iload_n 2, 1, 0, 0, 0), (179, .bipush 12, 2, 0, 0, 0), (181, .if_icmp .ge 30, 3, 0, 0, 0), (184, .aload_n 1, 1, 0, 0, 0), (185, .iload_n 2, 1, 0, 0, 0), (186, .bipush 8, 2, 0, 0, 0), (188, .irem, 1, 0, 0, 0), (189, .iload_n 2, 1, 0, 0, 0), (190, .iconst 1, 1, 0, 0, 0), (191, .iadd, 1, 0, 0, 0), (192, .bipush 8, 2, 0, 0, 0), (194, .irem, 1, 0, 0, 0), (195, .iconst 0, 1, 0, 0, 0), (196, .invokestatic 199, 3, 133, 1, 579), (199, .iload_n 2, 1, 0, 0, 0), (200, .if_icmp .eq 5, 3, 0, 0, 0), (203, .iconst 0, 1, 0, 0, 0), (204, .ireturn, 1, 0, 0, 0), (205, .iinc 2 1, 3, 0, 0, 0), (208, .goto (-30), 3, 0, 0, 0), (211, .aload_n 1, 1, 0, 0, 0), (212, .bipush 10, 2, 0, 0, 0), (214, .invokestatic 194, 3, 132, 1, 347), (217, .sipush (-1002), 3, 0, 0, 0), (220, .if_icmp .ne 109, 3, 0, 0, 0), (223, .aload_n 1, 1, 0, 0, 0), (224, .iconst 0, 1, 0, 0, 0), (225, .iconst 1, 1, 0, 0, 0), (226, .iconst 0, 1, 0, 0, 0), (227, .invokestatic 199, 3, 133, 1, 579), (230, .sipush (-1003), 3, 0, 0, 0), (233, .if_icmp .ne 96, 3, 0, 0, 0), (236, .aload_n 1, 1, 0, 0, 0), (237, .iconst 0, 1, 0, 0, 0), (238, .bipush 10, 2, 0, 0, 0), (240, .iconst 3, 1, 0, 0, 0), (241, .invokestatic 196, 3, 134, 1, 607), (244, .bipush 10, 2, 0, 0, 0), (246, .if_icmp .ne 83, 3, 0, 0, 0), (249, .aload_n 1, 1, 0, 0, 0), (250, .iconst 0, 1, 0, 0, 0), (251, .iconst 4, 1, 0, 0, 0), (252, .invokestatic 201, 3, 136, 1, 622), (255, .ifCond .ne 74, 3, 0, 0, 0), (258, .aload_n 1, 1, 0, 0, 0), (259, .iconst 0, 1, 0, 0, 0), (260, .iconst 2, 1, 0, 0, 0), (261, .invokestatic 204, 3, 137, 1, 629), (264, .ifCond .ne 65, 3, 0, 0, 0), (267, .aload_n 1, 1, 0, 0, 0), (268, .iconst 1, 1, 0, 0, 0), (269, .invokestatic 206, 3, 139, 1, 636), (272, .iconst 2, 1, 0, 0, 0), (273, .if_icmp .ne 56, 3, 0, 0, 0), (276, .aload_n 1, 1, 0, 0, 0), (277, .iconst 0, 1, 0, 0, 0), (278, .invokestatic 298, 3, 141, 1, 643), (281, .iconst 5, 1, 0, 0, 0), (282, .if_icmp .ne 47, 3, 0, 0, 0), (285, .aload_n 1, 1, 0, 0, 0), (286, .iconst 1, 1, 0, 0, 0), (287, .invokestatic 298, 3, 141, 1, 643), (290, .iconst 3, 1, 0, 0, 0), (291, .if_icmp .ne 38, 3, 0, 0, 0), (294, .aload_n 1, 1, 0, 0, 0), (295, .iconst 1, 1, 0, 0, 0), (296, .invokestatic 310, 3, 142, 1, 656), (299, .iconst 3, 1, 0, 0, 0), (300, .if_icmp .ne 29, 3, 0, 0, 0), (303, .aload_n 1, 1, 0, 0, 0), (304, .iconst 0, 1, 0, 0, 0), (305, .invokestatic 253, 3, 155, 1, 683), (308, .iconst 5, 1, 0, 0, 0), (309, .if_icmp .ne 20, 3, 0, 0, 0), (312, .aload_n 1, 1, 0, 0, 0), (313, .iconst 1, 1, 0, 0, 0), (314, .iconst 3, 1, 0, 0, 0), (315, .invokestatic 263, 3, 135, 1, 615), (318, .ifCond .ne 11, 3, 0, 0, 0), (321, .aload_n 1, 1, 0, 0, 0), (322, .iconst 1, 1, 0, 0, 0), (323, .invokestatic 310, 3, 142, 1, 656), (326, .ifCond .eq 5, 3, 0, 0, 0), (329, .iconst 0, 1, 0, 0, 0), (330, .ireturn, 1, 0, 0, 0), (331, .aload_n 1, 1, 0, 0, 0), (332, .invokestatic 345, 3, 171, 1, 859), (335, .bipush 7, 2, 0, 0, 0), (337, .if_icmp .ne 169, 3, 0, 0, 0), (340, .aload_n 1, 1, 0, 0, 0), (341, .iconst 1, 1, 0, 0, 0), (342, .invokestatic 310, 3, 142, 1, 656), (345, .iconst 3, 1, 0, 0, 0), (346, .if_icmp .ne 160, 3, 0, 0, 0), (349, .aload_n 1, 1, 0, 0, 0), (350, .invokestatic 345, 3, 171, 1, 859), (353, .bipush 6, 2, 0, 0, 0), (355, .if_icmp .ne 151, 3, 0, 0, 0), (358, .aload_n 1, 1, 0, 0, 0), (359, .iconst 0, 1, 0, 0, 0), (360, .invokestatic 298, 3, 141, 1, 643), (363, .bipush 10, 2, 0, 0, 0), (365, .if_icmp .ne 141, 3, 0, 0, 0), (368, .aload_n 1, 1, 0, 0, 0), (369, .iconst 1, 1, 0, 0, 0), (370, .invokestatic 298, 3, 141, 1, 643), (373, .ifCond .ne 133, 3, 0, 0, 0), (376, .aload_n 1, 1, 0, 0, 0), (377, .iconst 0, 1, 0, 0, 0), (378, .invokestatic 253, 3, 155, 1, 683), (381, .ifCond .ne 125, 3, 0, 0, 0), (384, .aload_n 1, 1, 0, 0, 0), (385, .invokevirtual 223, 3, 108, 3, 321), (388, .bipush 60, 2, 0, 0, 0), (390, .if_icmp .ne 116, 3, 0, 0, 0), (393, .aload_n 1, 1, 0, 0, 0), (394, .invokevirtual 232, 3, 111, 3, 329), (397, .ifCond .ne 109, 3, 0, 0, 0), (400, .aload_n 1, 1, 0, 0, 0), (401, .invokestatic 345, 3, 171, 1, 859), (404, .iconst 5, 1, 0, 0, 0), (405, .if_icmp .ne 101, 3, 0, 0, 0), (408, .aload_n 1, 1, 0, 0, 0), (409, .iconst 0, 1, 0, 0, 0), (410, .invokestatic 321, 3, 150, 1, 676), (413, .ifCond .ne 93, 3, 0, 0, 0), (416, .aload_n 1, 1, 0, 0, 0), (417, .invokestatic 345, 3, 171, 1, 859), (420, .iconst 4, 1, 0, 0, 0), (421, .if_icmp .ne 85, 3, 0, 0, 0), (424, .aload_n 1, 1, 0, 0, 0), (425, .iconst 0, 1, 0, 0, 0), (426, .invokestatic 319, 3, 149, 1, 663), (429, .ifCond .ne 77, 3, 0, 0, 0), (432, .aload_n 1, 1, 0, 0, 0), (433, .invokestatic 345, 3, 171, 1, 859), (436, .iconst 3, 1, 0, 0, 0), (437, .if_icmp .ne 69, 3, 0, 0, 0), (440, .aload_n 1, 1, 0, 0, 0), (441, .iconst 0, 1, 0, 0, 0), (442, .invokestatic 310, 3, 142, 1, 656), (445, .ifCond .ne 61, 3, 0, 0, 0), (448, .aload_n 1, 1, 0, 0, 0), (449, .invokevirtual 226, 3, 109, 3, 325), (452, .ifCond .ne 54, 3, 0, 0, 0), (455, .aload_n 1, 1, 0, 0, 0), (456, .invokestatic 345, 3, 171, 1, 859), (459, .iconst 2, 1, 0, 0, 0), (460, .if_icmp .ne 46, 3, 0, 0, 0), (463, .aload_n 1, 1, 0, 0, 0), (464, .invokevirtual 211, 3, 87, 3, 317), (467, .bipush 11, 2, 0, 0, 0), (469, .if_icmp .ne 37, 3, 0, 0, 0), (472, .aload_n 1, 1, 0, 0, 0), (473, .invokestatic 345, 3, 171, 1, 859), (476, .iconst 1, 1, 0, 0, 0), (477, .if_icmp .ne 29, 3, 0, 0, 0), (480, .aload_n 1, 1, 0, 0, 0), (481, .invokestatic 345, 3, 171, 1, 859), (484, .ifCond .ne 22, 3, 0, 0, 0), (487, .aload_n 1, 1, 0, 0, 0), (488, .invokevirtual 211, 3, 87, 3, 317), (491, .bipush 9, 2, 0, 0, 0), (493, .if_icmp .ne 13, 3, 0, 0, 0), (496, .aload_n 1, 1, 0, 0, 0), (497, .invokestatic 345, 3, 171, 1, 859), (500, .sipush (-1001), 3, 0, 0, 0), (503, .if_icmp .eq 5, 3, 0, 0, 0), (506, .iconst 0, 1, 0, 0, 0), (507, .ireturn, 1, 0, 0, 0), (508, .aload_n 1, 1, 0, 0, 0), (509, .invokestatic 347, 3, 172, 1, 871), (512, .ifCond .ne 34, 3, 0, 0, 0), (515, .aload_n 1, 1, 0, 0, 0), (516, .invokevirtual 208, 3, 78, 3, 313), (519, .ifCond .ne 27, 3, 0, 0, 0), (522, .aload_n 1, 1, 0, 0, 0), (523, .invokevirtual 211, 3, 87, 3, 317), (526, .ifCond .ne 20, 3, 0, 0, 0), (529, .aload_n 1, 1, 0, 0, 0), (530, .invokevirtual 223, 3, 108, 3, 321), (533, .ifCond .ne 13, 3, 0, 0, 0), (536, .aload_n 1, 1, 0, 0, 0), (537, .invokestatic 345, 3, 171, 1, 859), (540, .sipush (-1001), 3, 0, 0, 0), (543, .if_icmp .eq 5, 3, 0, 0, 0), (546, .iconst 0, 1, 0, 0, 0), (547, .ireturn, 1, 0, 0, 0), (548, .new 8, 3, 8, 0, 65), (551, .dup, 1, 0, 0, 0), (552, .invokespecial 344, 3, 65, 5, 67), (555, .astore_n 2, 1, 0, 0, 0), (556, .aload_n 2, 1, 0, 0, 0), (557, .aload_n 0, 1, 0, 0, 0), (558, .invokestatic 352, 3, 174, 0, 879), (561, .ifCond .ne 5, 3, 0, 0, 0), (564, .iconst 0, 1, 0, 0, 0), (565, .ireturn, 1, 0, 0, 0), (566, .aload_n 2, 1, 0, 0, 0), (567, .invokestatic 293, 3, 175, 0, 885), (570, .lstore_n 3, 1, 0, 0, 0), (571, .aload_n 2, 1, 0, 0, 0), (572, .invokestatic 293, 3, 175, 0, 885), (575, .lload_n 3, 1, 0, 0, 0), (576, .lcmp, 1, 0, 0, 0), (577, .ifCond .ne 10, 3, 0, 0, 0), (580, .aload_n 2, 1, 0, 0, 0), (581, .invokestatic 356, 3, 177, 0, 1381), (584, .ifCond .ne 5, 3, 0, 0, 0), (587, .iconst 0, 1, 0, 0, 0), (588, .ireturn, 1, 0, 0, 0), (589, .aload_n 2, 1, 0, 0, 0), (590, .invokevirtual 349, 3, 125, 3, 333), (593, .istore 5, 2, 0, 0, 0), (595, .iload 5, 2, 0, 0, 0), (597, .aload_n 2, 1, 0, 0, 0), (598, .invokevirtual 208, 3, 78, 3, 313), (601, .if_icmp .ne 21, 3, 0, 0, 0), (604, .aload_n 2, 1, 0, 0, 0), (605, .invokestatic 293, 3, 175, 0, 885), (608, .lload_n 3, 1, 0, 0, 0), (609, .lcmp, 1, 0, 0, 0), (610, .ifCond .ne 12, 3, 0, 0, 0), (613, .aload_n 2, 1, 0, 0, 0), (614, .invokestatic 347, 3, 172, 1, 871), (617, .iload 5, 2, 0, 0, 0), (619, .if_icmp .eq 5, 3, 0, 0, 0), (622, .iconst 0, 1, 0, 0, 0), (623, .ireturn, 1, 0, 0, 0), (624, .bipush 9, 2, 0, 0, 0), (626, .newarray .long, 2, 101, 0, 1512), (628, .astore 6, 2, 0, 0, 0), (630, .iconst 0, 1, 0, 0, 0), (631, .istore 7, 2, 0, 0, 0), (633, .iconst 0, 1, 0, 0, 0), (634, .istore 8, 2, 0, 0, 0), (636, .iload 8, 2, 0, 0, 0), (638, .bipush 8, 2, 0, 0, 0), (640, .if_icmp .ge 63, 3, 0, 0, 0), (643, .aload_n 2, 1, 0, 0, 0), (644, .invokestatic 293, 3, 175, 0, 885), (647, .lstore 9, 2, 0, 0, 0), (649, .aload_n 2, 1, 0, 0, 0), (650, .aload_n 0, 1, 0, 0, 0), (651, .bipush 20, 2, 0, 0, 0), (653, .iload 8, 2, 0, 0, 0), (655, .iadd, 1, 0, 0, 0), (656, .invokestatic 187, 3, 130, 0, 344), (659, .iload 8, 2, 0, 0, 0), (661, .sipush 977, 3, 0, 0, 0), (664, .imul, 1, 0, 0, 0), (665, .ixor, 1, 0, 0, 0), (666, .invokestatic 360, 3, 176, 0, 1357), (669, .ifCond .eq 16, 3, 0, 0, 0), (672, .aload 6, 2, 0, 0, 0), (674, .iload 7, 2, 0, 0, 0), (676, .iinc 7 1, 3, 0, 0, 0), (679, .lload 9, 2, 0, 0, 0), (681, .lastore, 1, 0, 0, 0), (682, .goto 15, 3, 0, 0, 0), (685, .aload_n 2, 1, 0, 0, 0), (686, .invokestatic 293, 3, 175, 0, 885), (689, .lload 9, 2, 0, 0, 0), (691, .lcmp, 1, 0, 0, 0), (692, .ifCond .eq 5, 3, 0, 0, 0), (695, .iconst 0, 1, 0, 0, 0), (696, .ireturn, 1, 0, 0, 0), (697, .iinc 8 1, 3, 0, 0, 0), (700, .goto (-64), 3, 0, 0, 0), (703, .iconst 1, 1, 0, 0, 0), (704, .istore 8, 2, 0, 0, 0), (706, .iload 8, 2, 0, 0, 0), (708, .iload 7, 2, 0, 0, 0), (710, .if_icmp .gt 39, 3, 0, 0, 0), (713, .aload_n 2, 1, 0, 0, 0), (714, .invokestatic 345, 3, 171, 1, 859), (717, .iload 7, 2, 0, 0, 0), (719, .iload 8, 2, 0, 0, 0), (721, .isub, 1, 0, 0, 0), (722, .if_icmp .ne 19, 3, 0, 0, 0), (725, .aload_n 2, 1, 0, 0, 0), (726, .invokestatic 293, 3, 175, 0, 885), (729, .aload 6, 2, 0, 0, 0), (731, .iload 7, 2, 0, 0, 0), (733, .iload 8, 2, 0, 0, 0), (735, .isub, 1, 0, 0, 0), (736, .laload, 1, 0, 0, 0), (737, .lcmp, 1, 0, 0, 0), (738, .ifCond .eq 5, 3, 0, 0, 0), (741, .iconst 0, 1, 0, 0, 0), (742, .ireturn, 1, 0, 0, 0), (743, .iinc 8 1, 3, 0, 0, 0), (746, .goto (-40), 3, 0, 0, 0), (749, .aload_n 2, 1, 0, 0, 0), (750, .invokestatic 345, 3, 171, 1, 859), (753, .sipush (-1001), 3, 0, 0, 0), (756, .if_icmp .ne 35, 3, 0, 0, 0), (759, .aload_n 2, 1, 0, 0, 0), (760, .invokestatic 347, 3, 172, 1, 871), (763, .iload 5, 2, 0, 0, 0), (765, .if_icmp .ne 26, 3, 0, 0, 0), (768, .aload_n 2, 1, 0, 0, 0), (769, .invokestatic 293, 3, 175, 0, 885), (772, .lload_n 3, 1, 0, 0, 0), (773, .lcmp, 1, 0, 0, 0), (774, .ifCond .ne 17, 3, 0, 0, 0), (777, .aload_n 2, 1, 0, 0, 0), (778, .invokestatic 345, 3, 171, 1, 859), (781, .sipush (-1001), 3, 0, 0, 0), (784, .if_icmp .ne 7, 3, 0, 0, 0), (787, .iconst 1, 1, 0, 0, 0), (788, .goto 4, 3, 0, 0, 0), (791, .iconst 0, 1, 0, 0, 0), (792, .ireturn, 1, 0, 0, 0)]
def zt_J5_init_d00df : List zE := [(0, .aload_n 0, 1, 0, 0, 0), (1, .invokespecial 3, 3, 0, 7, 254), (4, .getstatic 18, 3, 0, 0, 255), (7, .ifCond .eq 18, 3, 0, 0, 0), (10, .aload_n 0, 1, 0, 0, 0), (11, .iload_n 1, 1, 0, 0, 0), (12, .newarray .byte, 2, 103, 0, 278), (14, .putfield 15, 3, 1, 0, 264), (17, .aload_n 0, 1, 0, 0, 0), (18, .iconst 0, 1, 0, 0, 0), (19, .putfield 22, 3, 1, 1, 265), (22, .goto 16, 3, 0, 0, 0), (25, .aload_n 0, 1, 0, 0, 0), (26, .iload_n 1, 1, 0, 0, 0), (27, .invokestatic 26, 3, 99, 99, 0), (30, .putfield 15, 3, 1, 0, 264), (33, .aload_n 0, 1, 0, 0, 0), (34, .iconst 1, 1, 0, 0, 0), (35, .putfield 22, 3, 1, 1, 265), (38, .return_, 1, 0, 0, 0)]
def zt_J5_length_8abf5 : List zE := [(0, .aload_n 0, 1, 0, 0, 0), (1, .getfield 79, 3, 1, 3, 268), (4, .ireturn, 1, 0, 0, 0)]
def zt_J5_ensureCapacityInternal_d00df : List zE := [(0, .aload_n 0, 1, 0, 0, 0), (1, .getfield 15, 3, 1, 0, 264), (4, .arraylength, 1, 0, 0, 0), (5, .aload_n 0, 1, 0, 0, 0), (6, .getfield 22, 3, 1, 1, 265), (9, .ishr, 1, 0, 0, 0), (10, .istore_n 2, 1, 0, 0, 0), (11, .iload_n 1, 1, 0, 0, 0), (12, .iload_n 2, 1, 0, 0, 0), (13, .isub, 1, 0, 0, 0), (14, .ifCond .le 24, 3, 0, 0, 0), (17, .aload_n 0, 1, 0, 0, 0), (18, .aload_n 0, 1, 0, 0, 0), (19, .getfield 15, 3, 1, 0, 264), (22, .aload_n 0, 1, 0, 0, 0), (23, .iload_n 1, 1, 0, 0, 0), (24, .invokevirtual 104, 3, 182, 12, 1079), (27, .aload_n 0, 1, 0, 0, 0), (28, .getfield 22, 3, 1, 1, 265), (31, .ishl, 1, 0, 0, 0), (32, .invokestatic 108, 3, 217, 0, 1092), (35, .putfield 15, 3, 1, 0, 264), (38, .return_, 1, 0, 0, 0)]
def zt_J5_newCapacity_0f7a4 : List zE := [(0, .aload_n 0, 1, 0, 0, 0), (1, .getfield 15, 3, 1, 0, 264), (4, .arraylength, 1, 0, 0, 0), (5, .istore_n 2, 1, 0, 0, 0), (6, .iload_n 1, 1, 0, 0, 0), (7, .aload_n 0, 1, 0, 0, 0), (8, .getfield 22, 3, 1, 1, 265), (11, .ishl, 1, 0, 0, 0), (12, .istore_n 3, 1, 0, 0, 0), (13, .iload_n 3, 1, 0, 0, 0), (14, .iload_n 2, 1, 0, 0, 0), (15, .isub, 1, 0, 0, 0), (16, .istore 4, 2, 0, 0, 0), (18, .iload_n 2, 1, 0, 0, 0), (19, .iload 4, 2, 0, 0, 0), (21, .iload_n 2, 1, 0, 0, 0), (22, .iconst 2, 1, 0, 0, 0), (23, .aload_n 0, 1, 0, 0, 0), (24, .getfield 22, 3, 1, 1, 265), (27, .ishl, 1, 0, 0, 0), (28, .iadd, 1, 0, 0, 0), (29, .invokestatic 114, 3, 221, 0, 1083), (32, .istore 5, 2, 0, 0, 0), (34, .iload 5, 2, 0, 0, 0), (36, .ldc 39, 2, 0, 2147483647, 1091), (38, .if_icmp .ne 13, 3, 0, 0, 0), (41, .new 120, 3, 99, 99, 0), (44, .dup, 1, 0, 0, 0), (45, .ldc 122, 2, 99, 99, 0), (47, .invokespecial 124, 3, 99, 99, 0), (50, .athrow, 1, 0, 0, 0), (51, .iload 5, 2, 0, 0, 0), (53, .aload_n 0, 1, 0, 0, 0), (54, .getfield 22, 3, 1, 1, 265), (57, .ishr, 1, 0, 0, 0), (58, .ireturn, 1, 0, 0, 0)]
def zt_J5_setLength_d00df : List zE := [(0, .iload_n 1, 1, 0, 0, 0), (1, .ifCond .ge 12, 3, 0, 0, 0), (4, .new 129, 3, 99, 99, 0), (7, .dup, 1, 0, 0, 0), (8, .iload_n 1, 1, 0, 0, 0), (9, .invokespecial 131, 3, 99, 99, 0), (12, .athrow, 1, 0, 0, 0), (13, .aload_n 0, 1, 0, 0, 0), (14, .iload_n 1, 1, 0, 0, 0), (15, .invokevirtual 100, 3, 181, 12, 1075), (18, .aload_n 0, 1, 0, 0, 0), (19, .getfield 79, 3, 1, 3, 268), (22, .iload_n 1, 1, 0, 0, 0), (23, .if_icmp .ge 40, 3, 0, 0, 0), (26, .aload_n 0, 1, 0, 0, 0), (27, .invokevirtual 83, 3, 189, 4, 1104), (30, .ifCond .eq 18, 3, 0, 0, 0), (33, .aload_n 0, 1, 0, 0, 0), (34, .getfield 15, 3, 1, 0, 264), (37, .aload_n 0, 1, 0, 0, 0), (38, .getfield 79, 3, 1, 3, 268), (41, .iload_n 1, 1, 0, 0, 0), (42, .invokestatic 133, 3, 213, 0, 1252), (45, .goto 31, 3, 0, 0, 0), (48, .aload_n 0, 1, 0, 0, 0), (49, .getfield 15, 3, 1, 0, 264), (52, .aload_n 0, 1, 0, 0, 0), (53, .getfield 79, 3, 1, 3, 268), (56, .iload_n 1, 1, 0, 0, 0), (57, .invokestatic 137, 3, 99, 99, 0), (60, .goto 16, 3, 0, 0, 0), (63, .aload_n 0, 1, 0, 0, 0), (64, .getfield 79, 3, 1, 3, 268), (67, .iload_n 1, 1, 0, 0, 0), (68, .if_icmp .le 8, 3, 0, 0, 0), (71, .aload_n 0, 1, 0, 0, 0), (72, .iconst 1, 1, 0, 0, 0), (73, .putfield 73, 3, 1, 2, 266), (76, .aload_n 0, 1, 0, 0, 0), (77, .iload_n 1, 1, 0, 0, 0), (78, .putfield 79, 3, 1, 3, 268), (81, .return_, 1, 0, 0, 0)]
def zt_J5_charAt_5068e : List zE := [(0, .aload_n 0, 1, 0, 0, 0), (1, .getfield 22, 3, 1, 1, 265), (4, .istore_n 2, 1, 0, 0, 0), (5, .aload_n 0, 1, 0, 0, 0), (6, .getfield 15, 3, 1, 0, 264), (9, .astore_n 3, 1, 0, 0, 0), (10, .aload_n 0, 1, 0, 0, 0), (11, .getfield 79, 3, 1, 3, 268), (14, .aload_n 3, 1, 0, 0, 0), (15, .arraylength, 1, 0, 0, 0), (16, .iload_n 2, 1, 0, 0, 0), (17, .ishr, 1, 0, 0, 0), (18, .invokestatic 138, 3, 0, 13, 1313), (21, .istore 4, 2, 0, 0, 0), (23, .iload_n 1, 1, 0, 0, 0), (24, .iload 4, 2, 0, 0, 0), (26, .invokestatic 144, 3, 202, 0, 1314), (29, .iload_n 2, 1, 0, 0, 0), (30, .ifCond .ne 12, 3, 0, 0, 0), (33, .aload_n 3, 1, 0, 0, 0), (34, .iload_n 1, 1, 0, 0, 0), (35, .baload, 1, 0, 0, 0), (36, .sipush 255, 3, 0, 0, 0), (39, .iand, 1, 0, 0, 0), (40, .i2c, 1, 0, 0, 0), (41, .ireturn, 1, 0, 0, 0), (42, .aload_n 3, 1, 0, 0, 0), (43, .iload_n 1, 1, 0, 0, 0), (44, .invokestatic 148, 3, 99, 99, 0), (47, .ireturn, 1, 0, 0, 0)]
def zt_J5_append_cf1ce : List zE := [(0, .aload_n 1, 1, 0, 0, 0), (1, .ifnonnull 8, 3, 0, 0, 0), (4, .aload_n 0, 1, 0, 0, 0), (5, .invokevirtual 204, 3, 99, 99, 0), (8, .areturn, 1, 0, 0, 0), (9, .aload_n 1, 1, 0, 0, 0), (10, .invokevirtual 32, 3, 196, 3, 1124), (13, .istore_n 2, 1, 0, 0, 0), (14, .aload_n 0, 1, 0, 0, 0), (15, .aload_n 0, 1, 0, 0, 0), (16, .getfield 79, 3, 1, 3, 268), (19, .iload_n 2, 1, 0, 0, 0), (20, .iadd, 1, 0, 0, 0), (21, .invokevirtual 100, 3, 181, 12, 1075), (24, .aload_n 0, 1, 0, 0, 0), (25, .aload_n 0, 1, 0, 0, 0), (26, .getfield 79, 3, 1, 3, 268), (29, .aload_n 1, 1, 0, 0, 0), (30, .invokevirtual 208, 3, 191, 12, 1125), (33, .aload_n 0, 1, 0, 0, 0), (34, .dup, 1, 0, 0, 0), (35, .getfield 79, 3, 1, 3, 268), (38, .iload_n 2, 1, 0, 0, 0), (39, .iadd, 1, 0, 0, 0), (40, .putfield 79, 3, 1, 3, 268), (43, .aload_n 0, 1, 0, 0, 0), (44, .areturn, 1, 0, 0, 0)]
def zt_J5_append_3fe6f : List zE := [(0, .aload_n 0, 1, 0, 0, 0), (1, .aload_n 0, 1, 0, 0, 0), (2, .getfield 79, 3, 1, 3, 268), (5, .iconst 1, 1, 0, 0, 0), (6, .iadd, 1, 0, 0, 0), (7, .invokevirtual 100, 3, 181, 12, 1075), (10, .aload_n 0, 1, 0, 0, 0), (11, .invokevirtual 83, 3, 189, 4, 1104), (14, .ifCond .eq 31, 3, 0, 0, 0), (17, .iload_n 1, 1, 0, 0, 0), (18, .invokestatic 191, 3, 212, 0, 1286), (21, .ifCond .eq 24, 3, 0, 0, 0), (24, .aload_n 0, 1, 0, 0, 0), (25, .getfield 15, 3, 1, 0, 264), (28, .aload_n 0, 1, 0, 0, 0), (29, .dup, 1, 0, 0, 0), (30, .getfield 79, 3, 1, 3, 268), (33, .dup_x1, 1, 0, 0, 0), (34, .iconst 1, 1, 0, 0, 0), (35, .iadd, 1, 0, 0, 0), (36, .putfield 79, 3, 1, 3, 268), (39, .iload_n 1, 1, 0, 0, 0), (40, .i2b, 1, 0, 0, 0), (41, .bastore, 1, 0, 0, 0), (42, .goto 33, 3, 0, 0, 0), (45, .aload_n 0, 1, 0, 0, 0), (46, .invokevirtual 83, 3, 189, 4, 1104), (49, .ifCond .eq 7, 3, 0, 0, 0), (52, .aload_n 0, 1, 0, 0, 0), (53, .invokevirtual 195, 3, 99, 99, 0), (56, .aload_n 0, 1, 0, 0, 0), (57, .getfield 15, 3, 1, 0, 264), (60, .aload_n 0, 1, 0, 0, 0), (61, .dup, 1, 0, 0, 0), (62, .getfield 79, 3, 1, 3, 268), (65, .dup_x1, 1, 0, 0, 0), (66, .iconst 1, 1, 0, 0, 0), (67, .iadd, 1, 0, 0, 0), (68, .putfield 79, 3, 1, 3, 268), (71, .iload_n 1, 1, 0, 0, 0), (72, .invokestatic 197, 3, 99, 99, 0), (75, .aload_n 0, 1, 0, 0, 0), (76, .areturn, 1, 0, 0, 0)]
def zt_J5_append_c97b9 : List zE := [(0, .aload_n 0, 1, 0, 0, 0), (1, .getfield 79, 3, 1, 3, 268), (4, .istore_n 2, 1, 0, 0, 0), (5, .iload_n 2, 1, 0, 0, 0), (6, .iload_n 1, 1, 0, 0, 0), (7, .invokestatic 245, 3, 193, 0, 1166), (10, .iadd, 1, 0, 0, 0), (11, .istore_n 3, 1, 0, 0, 0), (12, .aload_n 0, 1, 0, 0, 0), (13, .iload_n 3, 1, 0, 0, 0), (14, .invokevirtual 100, 3, 181, 12, 1075), (17, .aload_n 0, 1, 0, 0, 0), (18, .invokevirtual 83, 3, 189, 4, 1104), (21, .ifCond .eq 16, 3, 0, 0, 0), (24, .iload_n 1, 1, 0, 0, 0), (25, .iload_n 3, 1, 0, 0, 0), (26, .aload_n 0, 1, 0, 0, 0), (27, .getfield 15, 3, 1, 0, 264), (30, .invokestatic 248, 3, 192, 0, 1169), (33, .pop, 1, 0, 0, 0), (34, .goto 14, 3, 0, 0, 0), (37, .iload_n 1, 1, 0, 0, 0), (38, .iload_n 2, 1, 0, 0, 0), (39, .iload_n 3, 1, 0, 0, 0), (40, .aload_n 0, 1, 0, 0, 0), (41, .getfield 15, 3, 1, 0, 264), (44, .invokestatic 251, 3, 99, 99, 0), (47, .pop, 1, 0, 0, 0), (48, .aload_n 0, 1, 0, 0, 0), (49, .iload_n 3, 1, 0, 0, 0), (50, .putfield 79, 3, 1, 3, 268), (53, .aload_n 0, 1, 0, 0, 0), (54, .areturn, 1, 0, 0, 0)]
def zt_J5_getValue_6d5f1 : List zE := [(0, .aload_n 0, 1, 0, 0, 0), (1, .getfield 15, 3, 1, 0, 264), (4, .areturn, 1, 0, 0, 0)]
def zt_J5_isLatin1_aae02 : List zE := [(0, .getstatic 18, 3, 0, 0, 255), (3, .ifCond .eq 14, 3, 0, 0, 0), (6, .aload_n 0, 1, 0, 0, 0), (7, .getfield 22, 3, 1, 1, 265), (10, .ifCond .ne 7, 3, 0, 0, 0), (13, .iconst 1, 1, 0, 0, 0), (14, .goto 4, 3, 0, 0, 0), (17, .iconst 0, 1, 0, 0, 0), (18, .ireturn, 1, 0, 0, 0)]
def zt_J5_inflateIfNeededFor_a7421 : List zE := [(0, .getstatic 18, 3, 0, 0, 255), (3, .ifCond .eq 18, 3, 0, 0, 0), (6, .aload_n 0, 1, 0, 0, 0), (7, .getfield 22, 3, 1, 1, 265), (10, .aload_n 1, 1, 0, 0, 0), (11, .invokevirtual 40, 3, 200, 3, 1133), (14, .if_icmp .eq 7, 3, 0, 0, 0), (17, .aload_n 0, 1, 0, 0, 0), (18, .invokevirtual 195, 3, 99, 99, 0), (21, .return_, 1, 0, 0, 0)]
def zt_J5_putStringAt_47b60 : List zE := [(0, .aload_n 0, 1, 0, 0, 0), (1, .aload_n 2, 1, 0, 0, 0), (2, .invokevirtual 397, 3, 190, 12, 1129), (5, .aload_n 2, 1, 0, 0, 0), (6, .aload_n 0, 1, 0, 0, 0), (7, .getfield 15, 3, 1, 0, 264), (10, .iload_n 1, 1, 0, 0, 0), (11, .aload_n 0, 1, 0, 0, 0), (12, .getfield 22, 3, 1, 1, 265), (15, .invokevirtual 399, 3, 198, 3, 1153), (18, .return_, 1, 0, 0, 0)]
def zt_J6_getChars_ba4f3 : List zE := [(0, .iload_n 1, 1, 0, 0, 0), (1, .istore 5, 2, 0, 0, 0), (3, .iload_n 0, 1, 0, 0, 0), (4, .ifCond .ge 7, 3, 0, 0, 0), (7, .iconst 1, 1, 0, 0, 0), (8, .goto 4, 3, 0, 0, 0), (11, .iconst 0, 1, 0, 0, 0), (12, .istore 6, 2, 0, 0, 0), (14, .iload 6, 2, 0, 0, 0), (16, .ifCond .ne 6, 3, 0, 0, 0), (19, .iload_n 0, 1, 0, 0, 0), (20, .ineg, 1, 0, 0, 0), (21, .istore_n 0, 1, 0, 0, 0), (22, .iload_n 0, 1, 0, 0, 0), (23, .bipush (-100), 2, 0, 0, 0), (25, .if_icmp .gt 47, 3, 0, 0, 0), (28, .iload_n 0, 1, 0, 0, 0), (29, .bipush 100, 2, 0, 0, 0), (31, .idiv, 1, 0, 0, 0), (32, .istore_n 3, 1, 0, 0, 0), (33, .iload_n 3, 1, 0, 0, 0), (34, .bipush 100, 2, 0, 0, 0), (36, .imul, 1, 0, 0, 0), (37, .iload_n 0, 1, 0, 0, 0), (38, .isub, 1, 0, 0, 0), (39, .istore 4, 2, 0, 0, 0), (41, .iload_n 3, 1, 0, 0, 0), (42, .istore_n 0, 1, 0, 0, 0), (43, .aload_n 2, 1, 0, 0, 0), (44, .iinc 5 (-1), 3, 0, 0, 0), (47, .iload 5, 2, 0, 0, 0), (49, .getstatic 83, 3, 1, 0, 1172), (52, .iload 4, 2, 0, 0, 0), (54, .baload, 1, 0, 0, 0), (55, .bastore, 1, 0, 0, 0), (56, .aload_n 2, 1, 0, 0, 0), (57, .iinc 5 (-1), 3, 0, 0, 0), (60, .iload 5, 2, 0, 0, 0), (62, .getstatic 87, 3, 2, 0, 1174), (65, .iload 4, 2, 0, 0, 0), (67, .baload, 1, 0, 0, 0), (68, .bastore, 1, 0, 0, 0), (69, .goto (-47), 3, 0, 0, 0), (72, .aload_n 2, 1, 0, 0, 0), (73, .iinc 5 (-1), 3, 0, 0, 0), (76, .iload 5, 2, 0, 0, 0), (78, .getstatic 83, 3, 1, 0, 1172), (81, .iload_n 0, 1, 0, 0, 0), (82, .ineg, 1, 0, 0, 0), (83, .baload, 1, 0, 0, 0), (84, .bastore, 1, 0, 0, 0), (85, .iload_n 0, 1, 0, 0, 0), (86, .bipush (-9), 2, 0, 0, 0), (88, .if_icmp .ge 16, 3, 0, 0, 0), (91, .aload_n 2, 1, 0, 0, 0), (92, .iinc 5 (-1), 3, 0, 0, 0), (95, .iload 5, 2, 0, 0, 0), (97, .getstatic 87, 3, 2, 0, 1174), (100, .iload_n 0, 1, 0, 0, 0), (101, .ineg, 1, 0, 0, 0), (102, .baload, 1, 0, 0, 0), (103, .bastore, 1, 0, 0, 0), (104, .iload 6, 2, 0, 0, 0), (106, .ifCond .eq 12, 3, 0, 0, 0), (109, .aload_n 2, 1, 0, 0, 0), (110, .iinc 5 (-1), 3, 0, 0, 0), (113, .iload 5, 2, 0, 0, 0), (115, .bipush 45, 2, 0, 0, 0), (117, .bastore, 1, 0, 0, 0), (118, .iload 5, 2, 0, 0, 0), (120, .ireturn, 1, 0, 0, 0)]
def zt_J6_stringSize_0f7a4 : List zE := [(0, .iconst 1, 1, 0, 0, 0), (1, .istore_n 1, 1, 0, 0, 0), (2, .iload_n 0, 1, 0, 0, 0), (3, .ifCond .lt 8, 3, 0, 0, 0), (6, .iconst 0, 1, 0, 0, 0), (7, .istore_n 1, 1, 0, 0, 0), (8, .iload_n 0, 1, 0, 0, 0), (9, .ineg, 1, 0, 0, 0), (10, .istore_n 0, 1, 0, 0, 0), (11, .bipush (-10), 2, 0, 0, 0), (13, .istore_n 2, 1, 0, 0, 0), (14, .iconst 1, 1, 0, 0, 0), (15, .istore_n 3, 1, 0, 0, 0), (16, .iload_n 3, 1, 0, 0, 0), (17, .bipush 10, 2, 0, 0, 0), (19, .if_icmp .ge 23, 3, 0, 0, 0), (22, .iload_n 0, 1, 0, 0, 0), (23, .iload_n 2, 1, 0, 0, 0), (24, .if_icmp .le 7, 3, 0, 0, 0), (27, .iload_n 3, 1, 0, 0, 0), (28, .iload_n 1, 1, 0, 0, 0), (29, .iadd, 1, 0, 0, 0), (30, .ireturn, 1, 0, 0, 0), (31, .bipush 10, 2, 0, 0, 0), (33, .iload_n 2, 1, 0, 0, 0), (34, .imul, 1, 0, 0, 0), (35, .istore_n 2, 1, 0, 0, 0), (36, .iinc 3 1, 3, 0, 0, 0), (39, .goto (-23), 3, 0, 0, 0), (42, .bipush 10, 2, 0, 0, 0), (44, .iload_n 1, 1, 0, 0, 0), (45, .iadd, 1, 0, 0, 0), (46, .ireturn, 1, 0, 0, 0)]
def zt_J6_bitCount_0f7a4 : List zE := [(0, .iload_n 0, 1, 0, 0, 0), (1, .iload_n 0, 1, 0, 0, 0), (2, .iconst 1, 1, 0, 0, 0), (3, .iushr, 1, 0, 0, 0), (4, .ldc_w 265, 3, 0, 1431655765, 576), (7, .iand, 1, 0, 0, 0), (8, .isub, 1, 0, 0, 0), (9, .istore_n 0, 1, 0, 0, 0), (10, .iload_n 0, 1, 0, 0, 0), (11, .ldc_w 266, 3, 0, 858993459, 577), (14, .iand, 1, 0, 0, 0), (15, .iload_n 0, 1, 0, 0, 0), (16, .iconst 2, 1, 0, 0, 0), (17, .iushr, 1, 0, 0, 0), (18, .ldc_w 266, 3, 0, 858993459, 577), (21, .iand, 1, 0, 0, 0), (22, .iadd, 1, 0, 0, 0), (23, .istore_n 0, 1, 0, 0, 0), (24, .iload_n 0, 1, 0, 0, 0), (25, .iload_n 0, 1, 0, 0, 0), (26, .iconst 4, 1, 0, 0, 0), (27, .iushr, 1, 0, 0, 0), (28, .iadd, 1, 0, 0, 0), (29, .ldc_w 267, 3, 0, 252645135, 578), (32, .iand, 1, 0, 0, 0), (33, .istore_n 0, 1, 0, 0, 0), (34, .iload_n 0, 1, 0, 0, 0), (35, .iload_n 0, 1, 0, 0, 0), (36, .bipush 8, 2, 0, 0, 0), (38, .iushr, 1, 0, 0, 0), (39, .iadd, 1, 0, 0, 0), (40, .istore_n 0, 1, 0, 0, 0), (41, .iload_n 0, 1, 0, 0, 0), (42, .iload_n 0, 1, 0, 0, 0), (43, .bipush 16, 2, 0, 0, 0), (45, .iushr, 1, 0, 0, 0), (46, .iadd, 1, 0, 0, 0), (47, .istore_n 0, 1, 0, 0, 0), (48, .iload_n 0, 1, 0, 0, 0), (49, .bipush 63, 2, 0, 0, 0), (51, .iand, 1, 0, 0, 0), (52, .ireturn, 1, 0, 0, 0)]
def zt_J0_init_81219 : List zE := [(0, .aload_n 0, 1, 0, 0, 0), (1, .aload_n 1, 1, 0, 0, 0), (2, .aconst_null, 1, 0, 0, 0), (3, .invokespecial 489, 3, 199, 5, 1192), (6, .return_, 1, 0, 0, 0)]
def zt_J0_length_8abf5 : List zE := [(0, .aload_n 0, 1, 0, 0, 0), (1, .getfield 9, 3, 0, 0, 1237), (4, .arraylength, 1, 0, 0, 0), (5, .aload_n 0, 1, 0, 0, 0), (6, .invokevirtual 335, 3, 200, 3, 745), (9, .ishr, 1, 0, 0, 0), (10, .ireturn, 1, 0, 0, 0)]
def zt_J0_charAt_5068e : List zE := [(0, .aload_n 0, 1, 0, 0, 0), (1, .invokevirtual 492, 3, 201, 3, 755), (4, .ifCond .eq 12, 3, 0, 0, 0), (7, .aload_n 0, 1, 0, 0, 0), (8, .getfield 9, 3, 0, 0, 1237), (11, .iload_n 1, 1, 0, 0, 0), (12, .invokestatic 495, 3, 211, 0, 759), (15, .ireturn, 1, 0, 0, 0), (16, .aload_n 0, 1, 0, 0, 0), (17, .getfield 9, 3, 0, 0, 1237), (20, .iload_n 1, 1, 0, 0, 0), (21, .invokestatic 498, 3, 99, 99, 0), (24, .ireturn, 1, 0, 0, 0)]
def zt_J0_getBytes_840e7 : List zE := [(0, .aload_n 0, 1, 0, 0, 0), (1, .invokevirtual 335, 3, 200, 3, 745), (4, .iload_n 3, 1, 0, 0, 0), (5, .if_icmp .ne 23, 3, 0, 0, 0), (8, .aload_n 0, 1, 0, 0, 0), (9, .getfield 9, 3, 0, 0, 1237), (12, .iconst 0, 1, 0, 0, 0), (13, .aload_n 1, 1, 0, 0, 0), (14, .iload_n 2, 1, 0, 0, 0), (15, .iload_n 3, 1, 0, 0, 0), (16, .ishl, 1, 0, 0, 0), (17, .aload_n 0, 1, 0, 0, 0), (18, .getfield 9, 3, 0, 0, 1237), (21, .arraylength, 1, 0, 0, 0), (22, .invokestatic 212, 3, 0, 9, 1157), (25, .goto 18, 3, 0, 0, 0), (28, .aload_n 0, 1, 0, 0, 0), (29, .getfield 9, 3, 0, 0, 1237), (32, .iconst 0, 1, 0, 0, 0), (33, .aload_n 1, 1, 0, 0, 0), (34, .iload_n 2, 1, 0, 0, 0), (35, .aload_n 0, 1, 0, 0, 0), (36, .getfield 9, 3, 0, 0, 1237), (39, .arraylength, 1, 0, 0, 0), (40, .invokestatic 106, 3, 99, 99, 0), (43, .return_, 1, 0, 0, 0)]
def zt_J0_init_db425 : List zE := [(0, .aload_n 0, 1, 0, 0, 0), (1, .invokespecial 1, 3, 0, 7, 1195), (4, .aload_n 1, 1, 0, 0, 0), (5, .invokevirtual 552, 3, 188, 4, 1196), (8, .astore_n 3, 1, 0, 0, 0), (9, .aload_n 1, 1, 0, 0, 0), (10, .invokevirtual 549, 3, 210, 4, 1201), (13, .istore 4, 2, 0, 0, 0), (15, .aload_n 1, 1, 0, 0, 0), (16, .invokevirtual 1047, 3, 189, 4, 1209), (19, .ifCond .eq 22, 3, 0, 0, 0), (22, .aload_n 0, 1, 0, 0, 0), (23, .iconst 0, 1, 0, 0, 0), (24, .putfield 15, 3, 0, 1, 1238), (27, .aload_n 0, 1, 0, 0, 0), (28, .aload_n 3, 1, 0, 0, 0), (29, .iconst 0, 1, 0, 0, 0), (30, .iload 4, 2, 0, 0, 0), (32, .invokestatic 54, 3, 219, 0, 1210), (35, .putfield 9, 3, 0, 0, 1237), (38, .goto 59, 3, 0, 0, 0), (41, .getstatic 38, 3, 0, 0, 749), (44, .ifCond .eq 35, 3, 0, 0, 0), (47, .aload_n 1, 1, 0, 0, 0), (48, .getfield 1048, 3, 1, 2, 267), (51, .ifCond .eq 28, 3, 0, 0, 0), (54, .aload_n 0, 1, 0, 0, 0), (55, .aload_n 3, 1, 0, 0, 0), (56, .iconst 0, 1, 0, 0, 0), (57, .iload 4, 2, 0, 0, 0), (59, .invokestatic 1051, 3, 99, 99, 0), (62, .putfield 9, 3, 0, 0, 1237), (65, .aload_n 0, 1, 0, 0, 0), (66, .aload_n 0, 1, 0, 0, 0), (67, .getfield 9, 3, 0, 0, 1237), (70, .iload 4, 2, 0, 0, 0), (72, .invokestatic 47, 3, 99, 99, 0), (75, .putfield 15, 3, 0, 1, 1238), (78, .return_, 1, 0, 0, 0), (79, .aload_n 0, 1, 0, 0, 0), (80, .iconst 1, 1, 0, 0, 0), (81, .putfield 15, 3, 0, 1, 1238), (84, .aload_n 0, 1, 0, 0, 0), (85, .aload_n 3, 1, 0, 0, 0), (86, .iconst 0, 1, 0, 0, 0), (87, .iload 4, 2, 0, 0, 0), (89, .iconst 1, 1, 0, 0, 0), (90, .ishl, 1, 0, 0, 0), (91, .invokestatic 54, 3, 219, 0, 1210), (94, .putfield 9, 3, 0, 0, 1237), (97, .return_, 1, 0, 0, 0)]
def zt_J0_coder_7d493 : List zE := [(0, .getstatic 38, 3, 0, 0, 749), (3, .ifCond .eq 10, 3, 0, 0, 0), (6, .aload_n 0, 1, 0, 0, 0), (7, .getfield 15, 3, 0, 1, 1238), (10, .goto 4, 3, 0, 0, 0), (13, .iconst 1, 1, 0, 0, 0), (14, .ireturn, 1, 0, 0, 0)]
def zt_J0_isLatin1_aae02 : List zE := [(0, .getstatic 38, 3, 0, 0, 749), (3, .ifCond .eq 14, 3, 0, 0, 0), (6, .aload_n 0, 1, 0, 0, 0), (7, .getfield 15, 3, 0, 1, 1238), (10, .ifCond .ne 7, 3, 0, 0, 0), (13, .iconst 1, 1, 0, 0, 0), (14, .goto 4, 3, 0, 0, 0), (17, .iconst 0, 1, 0, 0, 0), (18, .ireturn, 1, 0, 0, 0)]
def zt_J0_checkIndex_df160 : List zE := [(0, .iload_n 0, 1, 0, 0, 0), (1, .iload_n 1, 1, 0, 0, 0), (2, .getstatic 1053, 3, 3, 0, 765), (5, .invokestatic 1059, 3, 222, 0, 767), (8, .pop, 1, 0, 0, 0), (9, .return_, 1, 0, 0, 0)]
def zt_J4_init_da8c8 : List zE := [(0, .aload_n 0, 1, 0, 0, 0), (1, .bipush 16, 2, 0, 0, 0), (3, .invokespecial 1, 3, 179, 5, 251), (6, .return_, 1, 0, 0, 0)]
def zt_J4_append_15ec4 : List zE := [(0, .aload_n 0, 1, 0, 0, 0), (1, .aload_n 1, 1, 0, 0, 0), (2, .invokespecial 29, 3, 185, 8, 1068), (5, .pop, 1, 0, 0, 0), (6, .aload_n 0, 1, 0, 0, 0), (7, .areturn, 1, 0, 0, 0)]
def zt_J4_append_cf468 : List zE := [(0, .aload_n 0, 1, 0, 0, 0), (1, .iload_n 1, 1, 0, 0, 0), (2, .invokespecial 50, 3, 186, 8, 1283), (5, .pop, 1, 0, 0, 0), (6, .aload_n 0, 1, 0, 0, 0), (7, .areturn, 1, 0, 0, 0)]
def zt_J4_append_bf812 : List zE := [(0, .aload_n 0, 1, 0, 0, 0), (1, .iload_n 1, 1, 0, 0, 0), (2, .invokespecial 53, 3, 187, 8, 1163), (5, .pop, 1, 0, 0, 0), (6, .aload_n 0, 1, 0, 0, 0), (7, .areturn, 1, 0, 0, 0)]
def zt_J4_toString_0e30d : List zE := [(0, .new 18, 3, 0, 0, 1188), (3, .dup, 1, 0, 0, 0), (4, .aload_n 0, 1, 0, 0, 0), (5, .invokespecial 137, 3, 195, 5, 1189), (8, .areturn, 1, 0, 0, 0)]
def zt_J4_charAt_5068e : List zE := [(0, .aload_n 0, 1, 0, 0, 0), (1, .iload_n 1, 1, 0, 0, 0), (2, .invokespecial 329, 3, 184, 8, 1310), (5, .ireturn, 1, 0, 0, 0)]
def zt_J4_setLength_d00df : List zE := [(0, .aload_n 0, 1, 0, 0, 0), (1, .iload_n 1, 1, 0, 0, 0), (2, .invokespecial 333, 3, 183, 8, 1053), (5, .return_, 1, 0, 0, 0)]
def zt_J4_length_8abf5 : List zE := [(0, .aload_n 0, 1, 0, 0, 0), (1, .invokespecial 343, 3, 180, 8, 1207), (4, .ireturn, 1, 0, 0, 0)]
def zt_J1_charAt_3b067 : List zE := [(0, .iload_n 1, 1, 0, 0, 0), (1, .aload_n 0, 1, 0, 0, 0), (2, .arraylength, 1, 0, 0, 0), (3, .invokestatic 9, 3, 202, 0, 762), (6, .aload_n 0, 1, 0, 0, 0), (7, .iload_n 1, 1, 0, 0, 0), (8, .baload, 1, 0, 0, 0), (9, .sipush 255, 3, 0, 0, 0), (12, .iand, 1, 0, 0, 0), (13, .i2c, 1, 0, 0, 0), (14, .ireturn, 1, 0, 0, 0)]
def zt_J1_canEncode_fc78d : List zE := [(0, .iload_n 0, 1, 0, 0, 0), (1, .sipush 255, 3, 0, 0, 0), (4, .if_icmp .gt 7, 3, 0, 0, 0), (7, .iconst 1, 1, 0, 0, 0), (8, .goto 4, 3, 0, 0, 0), (11, .iconst 0, 1, 0, 0, 0), (12, .ireturn, 1, 0, 0, 0)]
def zt_J1_fillNull_b72d1 : List zE := [(0, .aload_n 0, 1, 0, 0, 0), (1, .iload_n 1, 1, 0, 0, 0), (2, .iload_n 2, 1, 0, 0, 0), (3, .iconst 0, 1, 0, 0, 0), (4, .invokestatic 236, 3, 216, 0, 1255), (7, .return_, 1, 0, 0, 0)]
def zt_J7_rangeCheck_23922 : List zE := [(0, .iload_n 1, 1, 0, 0, 0), (1, .iload_n 2, 1, 0, 0, 0), (2, .if_icmp .le 44, 3, 0, 0, 0), (5, .new 43, 3, 1, 1, 1219), (8, .dup, 1, 0, 0, 0), (9, .new 45, 3, 1, 0, 1220), (12, .dup, 1, 0, 0, 0), (13, .invokespecial 47, 3, 203, 5, 1221), (16, .ldc 48, 2, 99, 99, 0), (18, .invokevirtual 50, 3, 204, 3, 1224), (21, .iload_n 1, 1, 0, 0, 0), (22, .invokevirtual 54, 3, 206, 3, 1222), (25, .ldc 57, 2, 99, 99, 0), (27, .invokevirtual 50, 3, 204, 3, 1224), (30, .iload_n 2, 1, 0, 0, 0), (31, .invokevirtual 54, 3, 206, 3, 1222), (34, .ldc 59, 2, 99, 99, 0), (36, .invokevirtual 50, 3, 204, 3, 1224), (39, .invokevirtual 61, 3, 207, 3, 1225), (42, .invokespecial 65, 3, 99, 99, 0), (45, .athrow, 1, 0, 0, 0), (46, .iload_n 1, 1, 0, 0, 0), (47, .ifCond .ge 12, 3, 0, 0, 0), (50, .new 68, 3, 99, 99, 0), (53, .dup, 1, 0, 0, 0), (54, .iload_n 1, 1, 0, 0, 0), (55, .invokespecial 70, 3, 99, 99, 0), (58, .athrow, 1, 0, 0, 0), (59, .iload_n 2, 1, 0, 0, 0), (60, .iload_n 0, 1, 0, 0, 0), (61, .if_icmp .le 12, 3, 0, 0, 0), (64, .new 68, 3, 99, 99, 0), (67, .dup, 1, 0, 0, 0), (68, .iload_n 2, 1, 0, 0, 0), (69, .invokespecial 70, 3, 99, 99, 0), (72, .athrow, 1, 0, 0, 0), (73, .return_, 1, 0, 0, 0)]
def zt_J7_fill_53178 : List zE := [(0, .iconst 0, 1, 0, 0, 0), (1, .istore_n 2, 1, 0, 0, 0), (2, .aload_n 0, 1, 0, 0, 0), (3, .arraylength, 1, 0, 0, 0), (4, .istore_n 3, 1, 0, 0, 0), (5, .iload_n 2, 1, 0, 0, 0), (6, .iload_n 3, 1, 0, 0, 0), (7, .if_icmp .ge 13, 3, 0, 0, 0), (10, .aload_n 0, 1, 0, 0, 0), (11, .iload_n 2, 1, 0, 0, 0), (12, .iload_n 1, 1, 0, 0, 0), (13, .iastore, 1, 0, 0, 0), (14, .iinc 2 1, 3, 0, 0, 0), (17, .goto (-12), 3, 0, 0, 0), (20, .return_, 1, 0, 0, 0)]
def zt_J7_fill_eb02e : List zE := [(0, .aload_n 0, 1, 0, 0, 0), (1, .arraylength, 1, 0, 0, 0), (2, .iload_n 1, 1, 0, 0, 0), (3, .iload_n 2, 1, 0, 0, 0), (4, .invokestatic 13, 3, 214, 0, 1258), (7, .iload_n 1, 1, 0, 0, 0), (8, .istore 4, 2, 0, 0, 0), (10, .iload 4, 2, 0, 0, 0), (12, .iload_n 2, 1, 0, 0, 0), (13, .if_icmp .ge 14, 3, 0, 0, 0), (16, .aload_n 0, 1, 0, 0, 0), (17, .iload 4, 2, 0, 0, 0), (19, .iload_n 3, 1, 0, 0, 0), (20, .bastore, 1, 0, 0, 0), (21, .iinc 4 1, 3, 0, 0, 0), (24, .goto (-14), 3, 0, 0, 0), (27, .return_, 1, 0, 0, 0)]
def zt_J7_copyOf_9075b : List zE := [(0, .iload_n 1, 1, 0, 0, 0), (1, .aload_n 0, 1, 0, 0, 0), (2, .arraylength, 1, 0, 0, 0), (3, .if_icmp .ne 11, 3, 0, 0, 0), (6, .aload_n 0, 1, 0, 0, 0), (7, .invokevirtual 310, 3, 99, 99, 0), (10, .checkcast 311, 3, 0, 0, 0), (13, .areturn, 1, 0, 0, 0), (14, .iload_n 1, 1, 0, 0, 0), (15, .newarray .byte, 2, 103, 0, 278), (17, .astore_n 2, 1, 0, 0, 0), (18, .aload_n 0, 1, 0, 0, 0), (19, .iconst 0, 1, 0, 0, 0), (20, .aload_n 2, 1, 0, 0, 0), (21, .iconst 0, 1, 0, 0, 0), (22, .aload_n 0, 1, 0, 0, 0), (23, .arraylength, 1, 0, 0, 0), (24, .iload_n 1, 1, 0, 0, 0), (25, .invokestatic 304, 3, 0, 13, 1102), (28, .invokestatic 150, 3, 0, 9, 1103), (31, .aload_n 2, 1, 0, 0, 0), (32, .areturn, 1, 0, 0, 0)]
def zt_J7_checkLength_df160 : List zE := [(0, .iload_n 1, 1, 0, 0, 0), (1, .iload_n 0, 1, 0, 0, 0), (2, .if_icmp .ge 35, 3, 0, 0, 0), (5, .new 43, 3, 1, 1, 1219), (8, .dup, 1, 0, 0, 0), (9, .new 45, 3, 1, 0, 1220), (12, .dup, 1, 0, 0, 0), (13, .invokespecial 47, 3, 203, 5, 1221), (16, .iload_n 0, 1, 0, 0, 0), (17, .invokevirtual 54, 3, 206, 3, 1222), (20, .ldc_w 337, 3, 99, 99, 0), (23, .invokevirtual 50, 3, 204, 3, 1224), (26, .iload_n 1, 1, 0, 0, 0), (27, .invokevirtual 54, 3, 206, 3, 1222), (30, .invokevirtual 61, 3, 207, 3, 1225), (33, .invokespecial 65, 3, 99, 99, 0), (36, .athrow, 1, 0, 0, 0), (37, .return_, 1, 0, 0, 0)]
def zt_J7_copyOfRange_39247 : List zE := [(0, .iload_n 1, 1, 0, 0, 0), (1, .ifCond .ne 9, 3, 0, 0, 0), (4, .iload_n 2, 1, 0, 0, 0), (5, .aload_n 0, 1, 0, 0, 0), (6, .arraylength, 1, 0, 0, 0), (7, .if_icmp .eq 10, 3, 0, 0, 0), (10, .aload_n 0, 1, 0, 0, 0), (11, .iload_n 1, 1, 0, 0, 0), (12, .iload_n 2, 1, 0, 0, 0), (13, .invokestatic 339, 3, 220, 0, 1213), (16, .areturn, 1, 0, 0, 0), (17, .aload_n 0, 1, 0, 0, 0), (18, .invokevirtual 310, 3, 99, 99, 0), (21, .checkcast 311, 3, 0, 0, 0), (24, .areturn, 1, 0, 0, 0)]
def zt_J7_copyOfRangeByte_39247 : List zE := [(0, .iload_n 1, 1, 0, 0, 0), (1, .iload_n 2, 1, 0, 0, 0), (2, .invokestatic 343, 3, 218, 0, 1216), (5, .iload_n 2, 1, 0, 0, 0), (6, .iload_n 1, 1, 0, 0, 0), (7, .isub, 1, 0, 0, 0), (8, .istore_n 3, 1, 0, 0, 0), (9, .iload_n 3, 1, 0, 0, 0), (10, .newarray .byte, 2, 103, 0, 278), (12, .astore 4, 2, 0, 0, 0), (14, .aload_n 0, 1, 0, 0, 0), (15, .iload_n 1, 1, 0, 0, 0), (16, .aload 4, 2, 0, 0, 0), (18, .iconst 0, 1, 0, 0, 0), (19, .aload_n 0, 1, 0, 0, 0), (20, .arraylength, 1, 0, 0, 0), (21, .iload_n 1, 1, 0, 0, 0), (22, .isub, 1, 0, 0, 0), (23, .iload_n 3, 1, 0, 0, 0), (24, .invokestatic 304, 3, 0, 13, 1102), (27, .invokestatic 150, 3, 0, 9, 1103), (30, .aload 4, 2, 0, 0, 0), (32, .areturn, 1, 0, 0, 0)]
def zt_J8_newLength_cabcc : List zE := [(0, .iload_n 0, 1, 0, 0, 0), (1, .iload_n 1, 1, 0, 0, 0), (2, .iload_n 2, 1, 0, 0, 0), (3, .invokestatic 194, 3, 1, 13, 1086), (6, .iadd, 1, 0, 0, 0), (7, .istore_n 3, 1, 0, 0, 0), (8, .iconst 0, 1, 0, 0, 0), (9, .iload_n 3, 1, 0, 0, 0), (10, .if_icmp .ge 11, 3, 0, 0, 0), (13, .iload_n 3, 1, 0, 0, 0), (14, .ldc 200, 2, 0, 2147483639, 1087), (16, .if_icmp .gt 5, 3, 0, 0, 0), (19, .iload_n 3, 1, 0, 0, 0), (20, .ireturn, 1, 0, 0, 0), (21, .iload_n 0, 1, 0, 0, 0), (22, .iload_n 1, 1, 0, 0, 0), (23, .invokestatic 201, 3, 99, 99, 0), (26, .ireturn, 1, 0, 0, 0)]
def zt_J3_checkIndex_8e157 : List zE := [(0, .iload_n 0, 1, 0, 0, 0), (1, .ifCond .lt 8, 3, 0, 0, 0), (4, .iload_n 0, 1, 0, 0, 0), (5, .iload_n 1, 1, 0, 0, 0), (6, .if_icmp .lt 10, 3, 0, 0, 0), (9, .aload_n 2, 1, 0, 0, 0), (10, .iload_n 0, 1, 0, 0, 0), (11, .iload_n 1, 1, 0, 0, 0), (12, .invokestatic 95, 3, 99, 99, 0), (15, .athrow, 1, 0, 0, 0), (16, .iload_n 0, 1, 0, 0, 0), (17, .ireturn, 1, 0, 0, 0)]
def zt_J3_checkFromToIndex_8c36e : List zE := [(0, .iload_n 0, 1, 0, 0, 0), (1, .ifCond .lt 13, 3, 0, 0, 0), (4, .iload_n 0, 1, 0, 0, 0), (5, .iload_n 1, 1, 0, 0, 0), (6, .if_icmp .gt 8, 3, 0, 0, 0), (9, .iload_n 1, 1, 0, 0, 0), (10, .iload_n 2, 1, 0, 0, 0), (11, .if_icmp .le 11, 3, 0, 0, 0), (14, .aload_n 3, 1, 0, 0, 0), (15, .iload_n 0, 1, 0, 0, 0), (16, .iload_n 1, 1, 0, 0, 0), (17, .iload_n 2, 1, 0, 0, 0), (18, .invokestatic 99, 3, 99, 99, 0), (21, .athrow, 1, 0, 0, 0), (22, .iload_n 0, 1, 0, 0, 0), (23, .ireturn, 1, 0, 0, 0)]
def ztab : List (List zE) := [zt_X0_init, zt_X0_other, zt_X0_reachedFrom, zt_X0_neighbours, zt_X0_connect, zt_X0_groupsByWalking, zt_X0_dependOn, zt_X0_bridgesByNumbering, zt_X0_walk, zt_X0_widthByGoingOn, zt_X0_mostWidelyReached, zt_X0_widenFrom, zt_X0_widthByTrying, zt_X0_search, zt_X0_arrive, zt_X0_passUntilNothingIsNew, zt_X0_passReachesNew, zt_X0_carriesNew, zt_X0_fewestLeftIn, zt_X1_init, zt_X1_keep, zt_X1_takeBack, zt_X2_init, zt_X2_isFull, zt_X2_append, zt_X2_empty, zt_X2_argument, zt_X2_wordOf, zt_X2_formOf, zt_X2_read, zt_X2_isNext, zt_X2_skip, zt_X2_readCommand, zt_X2_readWord, zt_X2_lengthInCommon, zt_X2_readPart, zt_X2_readNumber, zt_X2_readSet, zt_X3_init, zt_X3_copyFrom, zt_X3_hasTank, zt_X3_hasPipe, zt_X3_refusalOf, zt_X3_isWithin, zt_X3_refusalOfTank, zt_X3_refusalOfPipe, zt_X3_refusalOfPouring, zt_X3_refusalOfDrawing, zt_X3_refusalForPipe, zt_X3_perform, zt_X3_newTank, zt_X3_newPipe, zt_X3_pourInto, zt_X3_drawFrom, zt_X3_put, zt_X3_passMinutes, zt_X3_passMinute, zt_X3_let, zt_X3_letsThrough, zt_X3_litresToFlow, zt_X3_isTankBefore, zt_X3_isPipeBefore, zt_X3_contentOfAll, zt_X3_tankNumber, zt_X3_pipeNumber, zt_X4_init, zt_X4_addTank, zt_X4_addPipe, zt_X4_pour, zt_X4_draw, zt_X4_setValve, zt_X4_setLeak, zt_X4_cleanFilter, zt_X4_advance, zt_X4_change, zt_X4_throwFor, zt_X4_needTank, zt_X4_needPipe, zt_X4_tankCount, zt_X4_capacity, zt_X4_content, zt_X4_impurities, zt_X4_hasImpurity, zt_X4_tankByContent, zt_X4_tanksBefore, zt_X4_fillShare, zt_X4_fillShareBits, zt_X4_pipeCount, zt_X4_firstOf, zt_X4_secondOf, zt_X4_valve, zt_X4_leak, zt_X4_mesh, zt_X4_dirt, zt_X4_isOpen, zt_X4_flow, zt_X4_litresThrough, zt_X4_pipeByDirt, zt_X4_pipesBefore, zt_X4_areConnected, zt_X4_groupCount, zt_X4_isBridge, zt_X4_bridgeCount, zt_X4_width, zt_X4_widthBySettings, zt_X4_cleanest, zt_X4_cleanestByPasses, zt_X4_needConnection, zt_X4_time, zt_X4_pouredTotal, zt_X4_drawnTotal, zt_X4_spilledTotal, zt_X4_meanContent, zt_X4_meanContentBits, zt_X4_fingerprint, zt_X4_renderTank, zt_X4_appendLetters, zt_X4_renderPipe, zt_X4_outputAt, zt_X4_type, zt_X4_runScript, zt_X4_performed, zt_X4_errorPosition, zt_X4_failedCommand, zt_X4_undo, zt_X4_save, zt_X4_restore, zt_X4_contains, zt_X4_bitsOfFloat, zt_X4_bitsOfDouble, zt_L_at, zt_L_some, zt_L_addTank, zt_L_addPipe, zt_L_pour, zt_L_draw, zt_L_setValve, zt_L_setLeak, zt_L_cleanFilter, zt_L_advance, zt_L_capacity, zt_L_content, zt_L_impurities, zt_L_has, zt_L_byContent, zt_L_fillShare, zt_L_fillBits, zt_L_firstOf, zt_L_secondOf, zt_L_valve, zt_L_leak, zt_L_mesh, zt_L_dirt, zt_L_isOpen, zt_L_flow, zt_L_litres, zt_L_byDirt, zt_L_connected, zt_L_isBridge, zt_L_width, zt_L_bySettings, zt_L_cleanest, zt_L_byPasses, zt_L_meanBits, zt_L_renderTank, zt_L_renderPipe, zt_L_outputAt, zt_L_type, zt_L_run, zt_L_errorPosition, zt_L_failedCommand, zt_L_undo, zt_L_restore, zt_L_runs, zt_L_makes, zt_L_asks, zt_L_changes, zt_L_thrown, zt_L_law, zt_J5_init_d00df, zt_J5_length_8abf5, zt_J5_ensureCapacityInternal_d00df, zt_J5_newCapacity_0f7a4, zt_J5_setLength_d00df, zt_J5_charAt_5068e, zt_J5_append_cf1ce, zt_J5_append_3fe6f, zt_J5_append_c97b9, zt_J5_getValue_6d5f1, zt_J5_isLatin1_aae02, zt_J5_inflateIfNeededFor_a7421, zt_J5_putStringAt_47b60, zt_J6_getChars_ba4f3, zt_J6_stringSize_0f7a4, zt_J6_bitCount_0f7a4, zt_J0_init_81219, zt_J0_length_8abf5, zt_J0_charAt_5068e, zt_J0_getBytes_840e7, zt_J0_init_db425, zt_J0_coder_7d493, zt_J0_isLatin1_aae02, zt_J0_checkIndex_df160, zt_J4_init_da8c8, zt_J4_append_15ec4, zt_J4_append_cf468, zt_J4_append_bf812, zt_J4_toString_0e30d, zt_J4_charAt_5068e, zt_J4_setLength_d00df, zt_J4_length_8abf5, zt_J1_charAt_3b067, zt_J1_canEncode_fc78d, zt_J1_fillNull_b72d1, zt_J7_rangeCheck_23922, zt_J7_fill_53178, zt_J7_fill_eb02e, zt_J7_copyOf_9075b, zt_J7_checkLength_df160, zt_J7_copyOfRange_39247, zt_J7_copyOfRangeByte_39247, zt_J8_newLength_cabcc, zt_J3_checkIndex_8e157, zt_J3_checkFromToIndex_8c36e]
def zinf : List zI := [(yX0_init, cX0_init, 2, none, [], 176, 175, 0, 40, 1),
  (yX0_other, cX0_other, 3, (some .int), [], 984, 983, 0, 40, 3),
  (yX0_reachedFrom, cX0_reachedFrom, 7, (some .int), [], 962, 961, 24, 40, 3),
  (yX0_neighbours, cX0_neighbours, 6, (some .int), [], 966, 965, 25, 40, 3),
  (yX0_connect, cX0_connect, 3, (some .boolean), [], 1031, 1029, 1030, 40, 2),
  (yX0_groupsByWalking, cX0_groupsByWalking, 4, (some .int), [], 955, 953, 954, 40, 0),
  (yX0_dependOn, cX0_dependOn, 2, (some .boolean), [], 1356, 1354, 1355, 40, 1),
  (yX0_bridgesByNumbering, cX0_bridgesByNumbering, 2, (some .int), [], 975, 973, 974, 40, 0),
  (yX0_walk, cX0_walk, 6, none, [], 981, 980, 0, 40, 4),
  (yX0_widthByGoingOn, cX0_widthByGoingOn, 6, (some .int), [], 1480, 1478, 1479, 40, 2),
  (yX0_mostWidelyReached, cX0_mostWidelyReached, 4, (some .int), [], 1484, 1483, 34, 40, 1),
  (yX0_widenFrom, cX0_widenFrom, 4, none, [], 1488, 1487, 35, 40, 1),
  (yX0_widthByTrying, cX0_widthByTrying, 4, (some .int), [], 1500, 1498, 1499, 40, 2),
  (yX0_search, cX0_search, 7, none, [], 1036, 1034, 1035, 40, 1),
  (yX0_arrive, cX0_arrive, 4, none, [], 1040, 1039, 28, 40, 2),
  (yX0_passUntilNothingIsNew, cX0_passUntilNothingIsNew, 4, none, [], 1416, 1414, 1415, 40, 1),
  (yX0_passReachesNew, cX0_passReachesNew, 4, (some .boolean), [], 1420, 1419, 31, 40, 0),
  (yX0_carriesNew, cX0_carriesNew, 6, (some .boolean), [], 1424, 1423, 32, 40, 4),
  (yX0_fewestLeftIn, cX0_fewestLeftIn, 5, (some .int), [], 1428, 1427, 33, 40, 1),
  (yX1_init, cX1_init, 2, none, [], 156, 155, 0, 39, 0),
  (yX1_keep, cX1_keep, 2, none, [], 521, 519, 520, 39, 1),
  (yX1_takeBack, cX1_takeBack, 2, none, [], 870, 868, 869, 39, 1),
  (yX2_init, cX2_init, 1, none, [], 221, 220, 0, 41, 0),
  (yX2_isFull, cX2_isFull, 1, (some .boolean), [], 701, 699, 700, 41, 0),
  (yX2_append, cX2_append, 2, (some .int), [], 706, 704, 705, 41, 1),
  (yX2_empty, cX2_empty, 1, none, [], 824, 822, 823, 41, 0),
  (yX2_argument, cX2_argument, 3, (some .int), [], 833, 831, 832, 41, 2),
  (yX2_wordOf, cX2_wordOf, 1, (some (.object "java/lang/String")), [], 728, 727, 0, 41, 1),
  (yX2_formOf, cX2_formOf, 1, (some (.object "java/lang/String")), [], 794, 793, 0, 41, 1),
  (yX2_read, cX2_read, 1, (some .boolean), [], 717, 715, 716, 41, 0),
  (yX2_isNext, cX2_isNext, 3, (some .boolean), [], 808, 807, 19, 41, 2),
  (yX2_skip, cX2_skip, 2, (some .boolean), [], 804, 803, 18, 41, 1),
  (yX2_readCommand, cX2_readCommand, 7, (some .boolean), [], 721, 720, 15, 41, 0),
  (yX2_readWord, cX2_readWord, 5, (some .int), [], 725, 724, 16, 41, 0),
  (yX2_lengthInCommon, cX2_lengthInCommon, 4, (some .int), [], 740, 739, 17, 41, 1),
  (yX2_readPart, cX2_readPart, 2, (some .int), [], 812, 811, 20, 41, 1),
  (yX2_readNumber, cX2_readNumber, 4, (some .int), [], 816, 815, 21, 41, 1),
  (yX2_readSet, cX2_readSet, 3, (some .int), [], 820, 819, 22, 41, 0),
  (yX3_init, cX3_init, 1, none, [], 77, 76, 0, 38, 0),
  (yX3_copyFrom, cX3_copyFrom, 2, none, [], 340, 338, 339, 38, 1),
  (yX3_hasTank, cX3_hasTank, 2, (some .boolean), [], 378, 376, 377, 38, 1),
  (yX3_hasPipe, cX3_hasPipe, 2, (some .boolean), [], 394, 392, 393, 38, 1),
  (yX3_refusalOf, cX3_refusalOf, 5, (some .int), [], 363, 361, 362, 38, 4),
  (yX3_isWithin, cX3_isWithin, 3, (some .boolean), [], 370, 369, 0, 38, 3),
  (yX3_refusalOfTank, cX3_refusalOfTank, 2, (some .int), [], 367, 366, 1, 38, 1),
  (yX3_refusalOfPipe, cX3_refusalOfPipe, 4, (some .int), [], 374, 373, 2, 38, 3),
  (yX3_refusalOfPouring, cX3_refusalOfPouring, 4, (some .int), [], 382, 381, 3, 38, 3),
  (yX3_refusalOfDrawing, cX3_refusalOfDrawing, 3, (some .int), [], 386, 385, 4, 38, 2),
  (yX3_refusalForPipe, cX3_refusalForPipe, 3, (some .int), [], 390, 389, 5, 38, 2),
  (yX3_perform, cX3_perform, 5, (some .int), [], 529, 527, 528, 38, 4),
  (yX3_newTank, cX3_newTank, 2, (some .int), [], 533, 532, 7, 38, 1),
  (yX3_newPipe, cX3_newPipe, 4, (some .int), [], 537, 536, 8, 38, 3),
  (yX3_pourInto, cX3_pourInto, 4, (some .int), [], 541, 540, 9, 38, 3),
  (yX3_drawFrom, cX3_drawFrom, 3, (some .int), [], 545, 544, 10, 38, 2),
  (yX3_put, cX3_put, 4, (some .int), [], 548, 547, 0, 38, 3),
  (yX3_passMinutes, cX3_passMinutes, 4, (some .int), [], 552, 551, 11, 38, 1),
  (yX3_passMinute, cX3_passMinute, 3, none, [], 556, 554, 555, 38, 0),
  (yX3_let, cX3_let, 7, none, [], 572, 571, 12, 38, 4),
  (yX3_letsThrough, cX3_letsThrough, 2, (some .boolean), [], 564, 562, 563, 38, 1),
  (yX3_litresToFlow, cX3_litresToFlow, 6, (some .int), [], 560, 558, 559, 38, 1),
  (yX3_isTankBefore, cX3_isTankBefore, 5, (some .boolean), [], 1015, 1013, 1014, 38, 2),
  (yX3_isPipeBefore, cX3_isPipeBefore, 3, (some .boolean), [], 1338, 1336, 1337, 38, 2),
  (yX3_contentOfAll, cX3_contentOfAll, 3, (some .int), [], 920, 918, 919, 38, 0),
  (yX3_tankNumber, cX3_tankNumber, 2, (some .long), [], 935, 933, 934, 38, 1),
  (yX3_pipeNumber, cX3_pipeNumber, 2, (some .long), [], 941, 939, 940, 38, 1),
  (yX4_init, cX4_init, 1, none, [], 69, 68, 0, 37, 0),
  (yX4_addTank, cX4_addTank, 2, (some .int), [], 355, 353, 354, 37, 1),
  (yX4_addPipe, cX4_addPipe, 4, (some .int), [], 606, 604, 605, 37, 3),
  (yX4_pour, cX4_pour, 4, (some .int), [], 614, 612, 613, 37, 3),
  (yX4_draw, cX4_draw, 3, (some .int), [], 621, 619, 620, 37, 2),
  (yX4_setValve, cX4_setValve, 3, (some .int), [], 628, 626, 627, 37, 2),
  (yX4_setLeak, cX4_setLeak, 3, (some .int), [], 635, 633, 634, 37, 2),
  (yX4_cleanFilter, cX4_cleanFilter, 2, (some .int), [], 1366, 1364, 1365, 37, 1),
  (yX4_advance, cX4_advance, 2, (some .int), [], 642, 640, 641, 37, 1),
  (yX4_change, cX4_change, 5, (some .int), [], 359, 358, 0, 37, 4),
  (yX4_throwFor, cX4_throwFor, 1, none, [], 397, 396, 0, 37, 1),
  (yX4_needTank, cX4_needTank, 2, none, [], 653, 652, 13, 37, 1),
  (yX4_needPipe, cX4_needPipe, 2, none, [], 673, 672, 14, 37, 1),
  (yX4_tankCount, cX4_tankCount, 1, (some .int), [], 316, 314, 315, 37, 0),
  (yX4_capacity, cX4_capacity, 2, (some .int), [], 1390, 1388, 1389, 37, 1),
  (yX4_content, cX4_content, 2, (some .int), [], 649, 647, 648, 37, 1),
  (yX4_impurities, cX4_impurities, 2, (some .int), [], 662, 660, 661, 37, 1),
  (yX4_hasImpurity, cX4_hasImpurity, 3, (some .boolean), [], 1397, 1395, 1396, 37, 2),
  (yX4_tankByContent, cX4_tankByContent, 3, (some .int), [], 1007, 1005, 1006, 37, 1),
  (yX4_tanksBefore, cX4_tanksBefore, 4, (some .int), [], 1011, 1010, 26, 37, 1),
  (yX4_fillShare, cX4_fillShare, 2, (some .float), [], 996, 994, 995, 37, 1),
  (yX4_fillShareBits, cX4_fillShareBits, 2, (some .int), [], 992, 990, 991, 37, 1),
  (yX4_pipeCount, cX4_pipeCount, 1, (some .int), [], 320, 318, 319, 37, 0),
  (yX4_firstOf, cX4_firstOf, 2, (some .int), [], 1440, 1438, 1439, 37, 1),
  (yX4_secondOf, cX4_secondOf, 2, (some .int), [], 1447, 1445, 1446, 37, 1),
  (yX4_valve, cX4_valve, 2, (some .int), [], 669, 667, 668, 37, 1),
  (yX4_leak, cX4_leak, 2, (some .int), [], 682, 680, 681, 37, 1),
  (yX4_mesh, cX4_mesh, 2, (some .int), [], 1345, 1343, 1344, 37, 1),
  (yX4_dirt, cX4_dirt, 2, (some .int), [], 1454, 1452, 1453, 37, 1),
  (yX4_isOpen, cX4_isOpen, 2, (some .boolean), [], 1461, 1459, 1460, 37, 1),
  (yX4_flow, cX4_flow, 2, (some .int), [], 1322, 1320, 1321, 37, 1),
  (yX4_litresThrough, cX4_litresThrough, 2, (some .int), [], 689, 687, 688, 37, 1),
  (yX4_pipeByDirt, cX4_pipeByDirt, 3, (some .int), [], 1330, 1328, 1329, 37, 1),
  (yX4_pipesBefore, cX4_pipesBefore, 4, (some .int), [], 1334, 1333, 30, 37, 1),
  (yX4_areConnected, cX4_areConnected, 3, (some .boolean), [], 1405, 1403, 1404, 37, 2),
  (yX4_groupCount, cX4_groupCount, 1, (some .int), [], 951, 949, 950, 37, 0),
  (yX4_isBridge, cX4_isBridge, 2, (some .boolean), [], 1469, 1467, 1468, 37, 1),
  (yX4_bridgeCount, cX4_bridgeCount, 1, (some .int), [], 971, 969, 970, 37, 0),
  (yX4_width, cX4_width, 3, (some .int), [], 1476, 1474, 1475, 37, 2),
  (yX4_widthBySettings, cX4_widthBySettings, 3, (some .int), [], 1496, 1494, 1495, 37, 2),
  (yX4_cleanest, cX4_cleanest, 3, (some .int), [], 1023, 1021, 1022, 37, 2),
  (yX4_cleanestByPasses, cX4_cleanestByPasses, 3, (some .int), [], 1412, 1410, 1411, 37, 2),
  (yX4_needConnection, cX4_needConnection, 3, none, [], 1027, 1026, 27, 37, 2),
  (yX4_time, cX4_time, 1, (some .int), [], 324, 322, 323, 37, 0),
  (yX4_pouredTotal, cX4_pouredTotal, 1, (some .int), [], 328, 326, 327, 37, 0),
  (yX4_drawnTotal, cX4_drawnTotal, 1, (some .int), [], 947, 945, 946, 37, 0),
  (yX4_spilledTotal, cX4_spilledTotal, 1, (some .int), [], 332, 330, 331, 37, 0),
  (yX4_meanContent, cX4_meanContent, 1, (some .double), [], 913, 911, 912, 37, 0),
  (yX4_meanContentBits, cX4_meanContentBits, 1, (some .long), [], 909, 907, 908, 37, 0),
  (yX4_fingerprint, cX4_fingerprint, 4, (some .long), [], 930, 928, 929, 37, 0),
  (yX4_renderTank, cX4_renderTank, 2, (some .int), [], 1048, 1046, 1047, 37, 1),
  (yX4_appendLetters, cX4_appendLetters, 3, none, [], 1295, 1294, 29, 37, 1),
  (yX4_renderPipe, cX4_renderPipe, 2, (some .int), [], 1352, 1350, 1351, 37, 1),
  (yX4_outputAt, cX4_outputAt, 2, (some .char), [], 1304, 1302, 1303, 37, 1),
  (yX4_type, cX4_type, 2, (some .int), [], 696, 694, 695, 37, 1),
  (yX4_runScript, cX4_runScript, 3, (some .int), [], 713, 711, 712, 37, 0),
  (yX4_performed, cX4_performed, 6, (some .boolean), [], 829, 828, 23, 37, 1),
  (yX4_errorPosition, cX4_errorPosition, 1, (some .int), [], 842, 840, 841, 37, 0),
  (yX4_failedCommand, cX4_failedCommand, 1, (some .int), [], 1509, 1507, 1508, 37, 0),
  (yX4_undo, cX4_undo, 1, (some .int), [], 865, 863, 864, 37, 0),
  (yX4_save, cX4_save, 1, (some .int), [], 336, 334, 335, 37, 0),
  (yX4_restore, cX4_restore, 1, (some .int), [], 877, 875, 876, 37, 0),
  (yX4_contains, cX4_contains, 2, (some .boolean), [], 958, 957, 0, 37, 2),
  (yX4_bitsOfFloat, cX4_bitsOfFloat, 3, (some .int), [], 999, 998, 0, 37, 1),
  (yX4_bitsOfDouble, cX4_bitsOfDouble, 5, (some .long), [], 923, 922, 0, 37, 1),
  (yL_at, cL_at, 2, (some .int), [], 346, 345, 0, 36, 2),
  (yL_some, cL_some, 3, (some .int), [], 884, 883, 0, 36, 2),
  (yL_addTank, cL_addTank, 3, (some .int), [(0, 5, 6, 13), (0, 5, 11, 15)], 349, 348, 0, 36, 2),
  (yL_addPipe, cL_addPipe, 5, (some .int), [(0, 7, 8, 21), (0, 7, 14, 13), (0, 7, 20, 15)], 581, 580, 0, 36, 4),
  (yL_pour, cL_pour, 5, (some .int), [(0, 7, 8, 21), (0, 7, 14, 13), (0, 7, 20, 26)], 609, 608, 0, 36, 4),
  (yL_draw, cL_draw, 4, (some .int), [(0, 6, 7, 21), (0, 6, 12, 13), (0, 6, 17, 26)], 617, 616, 0, 36, 3),
  (yL_setValve, cL_setValve, 4, (some .int), [(0, 6, 7, 21), (0, 6, 12, 13)], 624, 623, 0, 36, 3),
  (yL_setLeak, cL_setLeak, 4, (some .int), [(0, 6, 7, 21), (0, 6, 12, 13)], 631, 630, 0, 36, 3),
  (yL_cleanFilter, cL_cleanFilter, 3, (some .int), [(0, 5, 6, 21)], 1362, 1361, 0, 36, 2),
  (yL_advance, cL_advance, 3, (some .int), [(0, 5, 6, 13)], 638, 637, 0, 36, 2),
  (yL_capacity, cL_capacity, 3, (some .int), [(0, 5, 6, 21)], 1386, 1385, 0, 36, 2),
  (yL_content, cL_content, 3, (some .int), [(0, 5, 6, 21)], 645, 644, 0, 36, 2),
  (yL_impurities, cL_impurities, 3, (some .int), [(0, 5, 6, 21)], 658, 657, 0, 36, 2),
  (yL_has, cL_has, 4, (some .int), [(0, 14, 15, 21), (0, 14, 20, 13)], 1393, 1392, 0, 36, 3),
  (yL_byContent, cL_byContent, 3, (some .int), [(0, 5, 6, 60)], 1003, 1002, 0, 36, 2),
  (yL_fillShare, cL_fillShare, 3, (some .float), [(0, 5, 6, 21)], 1431, 1430, 0, 36, 2),
  (yL_fillBits, cL_fillBits, 3, (some .int), [(0, 5, 6, 21)], 988, 987, 0, 36, 2),
  (yL_firstOf, cL_firstOf, 3, (some .int), [(0, 5, 6, 21)], 1436, 1435, 0, 36, 2),
  (yL_secondOf, cL_secondOf, 3, (some .int), [(0, 5, 6, 21)], 1443, 1442, 0, 36, 2),
  (yL_valve, cL_valve, 3, (some .int), [(0, 5, 6, 21)], 665, 664, 0, 36, 2),
  (yL_leak, cL_leak, 3, (some .int), [(0, 5, 6, 21)], 678, 677, 0, 36, 2),
  (yL_mesh, cL_mesh, 3, (some .int), [(0, 5, 6, 21)], 1341, 1340, 0, 36, 2),
  (yL_dirt, cL_dirt, 3, (some .int), [(0, 5, 6, 21)], 1450, 1449, 0, 36, 2),
  (yL_isOpen, cL_isOpen, 3, (some .int), [(0, 13, 14, 21)], 1457, 1456, 0, 36, 2),
  (yL_flow, cL_flow, 3, (some .int), [(0, 5, 6, 21)], 1318, 1317, 0, 36, 2),
  (yL_litres, cL_litres, 3, (some .int), [(0, 5, 6, 21)], 685, 684, 0, 36, 2),
  (yL_byDirt, cL_byDirt, 3, (some .int), [(0, 5, 6, 60)], 1326, 1325, 0, 36, 2),
  (yL_connected, cL_connected, 4, (some .int), [(0, 14, 15, 21)], 1401, 1400, 0, 36, 3),
  (yL_isBridge, cL_isBridge, 3, (some .int), [(0, 13, 14, 21)], 1465, 1464, 0, 36, 2),
  (yL_width, cL_width, 4, (some .int), [(0, 6, 7, 21)], 1472, 1471, 0, 36, 3),
  (yL_bySettings, cL_bySettings, 4, (some .int), [(0, 6, 7, 21)], 1492, 1491, 0, 36, 3),
  (yL_cleanest, cL_cleanest, 4, (some .int), [(0, 6, 7, 21), (0, 6, 12, 60)], 1019, 1018, 0, 36, 3),
  (yL_byPasses, cL_byPasses, 4, (some .int), [(0, 6, 7, 21), (0, 6, 12, 60)], 1408, 1407, 0, 36, 3),
  (yL_meanBits, cL_meanBits, 2, (some .long), [(0, 4, 5, 128)], 891, 890, 0, 36, 1),
  (yL_renderTank, cL_renderTank, 3, (some .int), [(0, 5, 6, 21)], 1044, 1043, 0, 36, 2),
  (yL_renderPipe, cL_renderPipe, 3, (some .int), [(0, 5, 6, 21)], 1348, 1347, 0, 36, 2),
  (yL_outputAt, cL_outputAt, 3, (some .int), [(0, 5, 6, 21)], 1300, 1299, 0, 36, 2),
  (yL_type, cL_type, 3, (some .int), [(0, 5, 6, 13), (0, 5, 11, 15)], 692, 691, 0, 36, 2),
  (yL_run, cL_run, 2, (some .int), [(0, 4, 5, 13), (0, 4, 10, 15)], 709, 708, 0, 36, 1),
  (yL_errorPosition, cL_errorPosition, 2, (some .int), [(0, 4, 5, 60)], 837, 836, 0, 36, 1),
  (yL_failedCommand, cL_failedCommand, 2, (some .int), [(0, 4, 5, 60)], 1505, 1504, 0, 36, 1),
  (yL_undo, cL_undo, 2, (some .int), [(0, 4, 5, 60)], 861, 860, 0, 36, 1),
  (yL_restore, cL_restore, 2, (some .int), [(0, 4, 5, 15)], 873, 872, 0, 36, 1),
  (yL_runs, cL_runs, 3, (some .int), [], 1378, 1377, 0, 36, 2),
  (yL_makes, cL_makes, 7, (some .boolean), [], 881, 880, 0, 36, 2),
  (yL_asks, cL_asks, 8, (some .long), [], 887, 886, 0, 36, 1),
  (yL_changes, cL_changes, 4, (some .boolean), [], 1359, 1358, 0, 36, 2),
  (yL_thrown, cL_thrown, 8, (some .boolean), [], 1383, 1382, 0, 36, 1),
  (yL_law, cL_law, 11, (some .boolean), [], 0, 0, 0, 36, 1),
  (yJ5_init_d00df, cJ5_init_d00df, 2, none, [], 253, 252, 0, 42, 1),
  (yJ5_length_8abf5, cJ5_length_8abf5, 1, (some .int), [], 1208, 1202, 0, 42, 0),
  (yJ5_ensureCapacityInternal_d00df, cJ5_ensureCapacityInternal_d00df, 3, none, [], 1078, 1077, 0, 42, 1),
  (yJ5_newCapacity_0f7a4, cJ5_newCapacity_0f7a4, 6, (some .int), [], 1082, 1081, 0, 42, 1),
  (yJ5_setLength_d00df, cJ5_setLength_d00df, 2, none, [], 1055, 1054, 0, 42, 1),
  (yJ5_charAt_5068e, cJ5_charAt_5068e, 5, (some .char), [], 1312, 1311, 0, 42, 1),
  (yJ5_append_cf1ce, cJ5_append_cf1ce, 3, (some (.object "java/lang/AbstractStringBuilder")), [], 1070, 1069, 0, 42, 1),
  (yJ5_append_3fe6f, cJ5_append_3fe6f, 2, (some (.object "java/lang/AbstractStringBuilder")), [], 1285, 1284, 0, 42, 1),
  (yJ5_append_c97b9, cJ5_append_c97b9, 4, (some (.object "java/lang/AbstractStringBuilder")), [], 1165, 1164, 0, 42, 1),
  (yJ5_getValue_6d5f1, cJ5_getValue_6d5f1, 1, (some (.array .byte)), [], 1200, 1197, 1199, 42, 0),
  (yJ5_isLatin1_aae02, cJ5_isLatin1_aae02, 1, (some .boolean), [], 1108, 1105, 1107, 42, 0),
  (yJ5_inflateIfNeededFor_a7421, cJ5_inflateIfNeededFor_a7421, 2, none, [], 1132, 1131, 0, 42, 1),
  (yJ5_putStringAt_47b60, cJ5_putStringAt_47b60, 3, none, [], 1128, 1127, 0, 42, 2),
  (yJ6_getChars_ba4f3, cJ6_getChars_ba4f3, 7, (some .int), [], 1171, 1170, 0, 57, 3),
  (yJ6_stringSize_0f7a4, cJ6_stringSize_0f7a4, 4, (some .int), [], 1168, 1167, 0, 57, 1),
  (yJ6_bitCount_0f7a4, cJ6_bitCount_0f7a4, 1, (some .int), [], 575, 574, 0, 57, 1),
  (yJ0_init_81219, cJ0_init_81219, 2, none, [], 1191, 1190, 0, 44, 1),
  (yJ0_length_8abf5, cJ0_length_8abf5, 1, (some .int), [], 744, 742, 743, 44, 0),
  (yJ0_charAt_5068e, cJ0_charAt_5068e, 2, (some .char), [], 754, 752, 753, 44, 1),
  (yJ0_getBytes_840e7, cJ0_getBytes_840e7, 4, none, [], 1156, 1154, 1155, 44, 3),
  (yJ0_init_db425, cJ0_init_db425, 5, none, [], 1194, 1193, 0, 44, 2),
  (yJ0_coder_7d493, cJ0_coder_7d493, 1, (some .byte), [], 748, 746, 747, 44, 0),
  (yJ0_isLatin1_aae02, cJ0_isLatin1_aae02, 1, (some .boolean), [], 758, 756, 757, 44, 0),
  (yJ0_checkIndex_df160, cJ0_checkIndex_df160, 2, none, [], 764, 763, 0, 44, 2),
  (yJ4_init_da8c8, cJ4_init_da8c8, 1, none, [], 250, 249, 0, 43, 0),
  (yJ4_append_15ec4, cJ4_append_15ec4, 2, (some (.object "java/lang/StringBuilder")), [], 1067, 1065, 1066, 43, 1),
  (yJ4_append_cf468, cJ4_append_cf468, 2, (some (.object "java/lang/StringBuilder")), [], 1282, 1280, 1281, 43, 1),
  (yJ4_append_bf812, cJ4_append_bf812, 2, (some (.object "java/lang/StringBuilder")), [], 1162, 1160, 1161, 43, 1),
  (yJ4_toString_0e30d, cJ4_toString_0e30d, 1, (some (.object "java/lang/String")), [], 1187, 1185, 1186, 43, 0),
  (yJ4_charAt_5068e, cJ4_charAt_5068e, 2, (some .char), [], 1309, 1307, 1308, 43, 1),
  (yJ4_setLength_d00df, cJ4_setLength_d00df, 2, none, [], 1052, 1050, 1051, 43, 1),
  (yJ4_length_8abf5, cJ4_length_8abf5, 1, (some .int), [], 1206, 1205, 1524, 43, 0),
  (yJ1_charAt_3b067, cJ1_charAt_3b067, 2, (some .char), [], 761, 760, 0, 58, 2),
  (yJ1_canEncode_fc78d, cJ1_canEncode_fc78d, 1, (some .boolean), [], 1288, 1287, 0, 58, 1),
  (yJ1_fillNull_b72d1, cJ1_fillNull_b72d1, 3, none, [], 1254, 1253, 0, 58, 3),
  (yJ7_rangeCheck_23922, cJ7_rangeCheck_23922, 3, none, [], 1260, 1259, 0, 62, 3),
  (yJ7_fill_53178, cJ7_fill_53178, 4, none, [], 978, 977, 0, 62, 2),
  (yJ7_fill_eb02e, cJ7_fill_eb02e, 5, none, [], 1257, 1256, 0, 62, 4),
  (yJ7_copyOf_9075b, cJ7_copyOf_9075b, 3, (some (.array .byte)), [], 1094, 1093, 0, 62, 2),
  (yJ7_checkLength_df160, cJ7_checkLength_df160, 2, none, [], 1218, 1217, 0, 62, 2),
  (yJ7_copyOfRange_39247, cJ7_copyOfRange_39247, 3, (some (.array .byte)), [], 1212, 1211, 0, 62, 3),
  (yJ7_copyOfRangeByte_39247, cJ7_copyOfRangeByte_39247, 5, (some (.array .byte)), [], 1215, 1214, 0, 62, 3),
  (yJ8_newLength_cabcc, cJ8_newLength_cabcc, 4, (some .int), [], 1085, 1084, 0, 64, 3),
  (yJ3_checkIndex_8e157, cJ3_checkIndex_8e157, 3, (some .int), [], 769, 768, 0, 59, 3),
  (yJ3_checkFromToIndex_8c36e, cJ3_checkFromToIndex_8c36e, 4, (some .int), [], 1120, 1119, 0, 59, 4)]
end
section
/-! THE PURE PICTURE: memory as functions of addresses, and the judgement zV over the kit's W -/
abbrev zR : Type := Option Value ⊕ Nat
abbrev zKT : Type := Nat → Option (Nat × Nat)
abbrev zPT : Type := Nat → Nat → Option Nat
abbrev zIT : Type := Nat → Nat → Int32
abbrev zLT : Type := Nat → Nat → Int64
abbrev zPost : Type := zR → Nat → zKT → zPT → zIT → zLT → Prop
/-- the heap's size at the law's entry; class numbers and slots; array classes; addresses of the given constants -/
abbrev zX : Type := Nat × va_G × (Nat → ClassId) × (Nat → Nat)
def zfind (pc : Nat) : List zE → Option (Instr × Nat × Nat × Nat × Nat)
  | [] => none
  | e :: t => match Nat.beq e.1 pc with
    | true => some e.2
    | false => zfind pc t
def zl (mi pc : Nat) : Option (Instr × Nat × Nat × Nat × Nat) := zfind pc (ztab.getD mi [])
def zi (mi : Nat) : zI := zinf.getD mi (yL_law, cL_law, 0, none, [], 0, 0, 0, 0, 0)
def zY (mi : Nat) : MethodName := (zi mi).1
def zB (mi : Nat) : ByteArray := (zi mi).2.1
def zL (mi : Nat) : Nat := (zi mi).2.2.1
def zRt (mi : Nat) : Option FieldType := (zi mi).2.2.2.1
def zH (mi : Nat) : List (Nat × Nat × Nat × Nat) := (zi mi).2.2.2.2.1
def zNP (mi : Nat) : Nat := (zi mi).2.2.2.2.2.2.2.2.2
def zO (mi : Nat) : String := (zY mi).cls
def zA (X : zX) : Nat → Prop := fun q => X.1 ≤ q
def zty (ci k : Nat) : FieldType := match ci with
  | 0 => tyJ0 k
  | 1 => tyJ4 k
  | 4 => tyX0 k
  | 5 => tyX1 k
  | 6 => tyX2 k
  | 7 => tyX3 k
  | _ => tyX4 k
def zrf (ci k : Nat) : Bool := (zty ci k).isReference
def zT (ci : Nat) : u_T := match ci with
  | 0 => TJ0
  | 1 => TJ4
  | 4 => TX0
  | 5 => TX1
  | 6 => TX2
  | 7 => TX3
  | _ => TX4
def zfv (ci k : Nat) (P : zPT) (I : zIT) (a : Nat) : Value := if zrf ci k = true then va_rf (P a k) else .int (I a k)
def zel (k : Nat) (P : zPT) (I : zIT) (L : zLT) (a j : Nat) : Value := if k = 104 then va_rf (P a j) else if k = 101 then .long (L a j) else .int (I a j)
def zaty (k : Nat) : FieldType := match k with
  | 100 => .int
  | 101 => .long
  | 102 => .char
  | 103 => .byte
  | 104 => .object RX3
  | 110 => .int
  | _ => .byte
/-- what a tracked address holds: own objects (under 100: the number of the class), own arrays (100 ..), arrays (110 ..) and Strings (120) that were there before -/
def zAt (X : zX) (U : State) (H : Heap) (P : zPT) (I : zIT) (L : zLT) (a k n : Nat) : Prop :=
  (k < 100 → zA X a ∧ ∃ r : vw_C, vwCl[k]? = some r ∧ n = r.2.2 ∧ t_OB a (X.2.1.1 k) r.2.2 (X.2.1.2 k) H (fun j => zfv k j P I a)) ∧
  (100 ≤ k → k < 110 → zA X a ∧ H[a]? = some (arrV (X.2.2.1 k) n (zel k P I L a))) ∧
  (110 ≤ k → k < 120 → ¬ zA X a ∧ ∃ cell : Cell, H[a]? = some cell ∧ U.isArrayOf cell (zaty k) ∧ cell.vm ≠ .unknown ∧ cell.slots.size = n ∧ ∀ j, j < n → cell.slots[j]? = some (.int (I a j))) ∧
  (120 ≤ k → ¬ zA X a ∧ ∃ cell : Cell, H[a]? = some cell ∧ cell.vm ≠ .unknown ∧ cell.vm.isStatics = false ∧ U.vm.findClass RJ0 = some cell.cls ∧ ∀ j, j < 2 → cell.slots[X.2.1.2 0 j]? = some (zfv 0 j P I a))
def zPic (X : zX) (U : State) (H : Heap) (n : Nat) (K : zKT) (P : zPT) (I : zIT) (L : zLT) : Prop :=
  H.size = n ∧ ∀ a k m, K a = some (k, m) → zAt X U H P I L a k m
def zTs : List Cond := lw_tbl.filter goodWord
def zisN : Cond → Bool
  | .methodLinkNest .. => true
  | _ => false
def zTf : List Cond := lw_tbl.filter (fun w => w.faceAtom || zisN w)
def ztys (X : zX) : List (ClassId × FieldType) := [(X.2.2.1 100, .int), (X.2.2.1 101, .long), (X.2.2.1 102, .char), (X.2.2.1 103, .byte), (X.2.2.1 104, .object RX3)]
def zStat (X : zX) (U : State) (H : Heap) : Prop :=
  va_Z "java/lang/String" "COMPACT_STRINGS" "Z" (.int 1) (zA X) U H ∧ va_Z "java/lang/Integer" "DigitOnes" "[B" (.ref (X.2.2.2 100)) (zA X) U H ∧ va_Z "java/lang/Integer" "DigitTens" "[B" (.ref (X.2.2.2 101)) (zA X) U H ∧
  va_Zq "jdk/internal/util/Preconditions" "SIOOBE_FORMATTER" "Ljava/util/function/BiFunction;" (zA X) U H ∧
  vx_Zq Bundle.tN "UNASSIGNED_STACK" Bundle.steD (zA X) U H ∧ vx_Zq Bundle.tN "SUPPRESSED_SENTINEL" Bundle.listD (zA X) U H
/-- what holds of the tables (and of the given constants) at every method's start -/
def zK (X : zX) (U : State) (H : Heap) : Prop :=
  X.1 ≤ H.size ∧ va_K X.2.1 vwCl (ztys X) U ∧ zStat X U H ∧ (∀ w ∈ zTf, va_Nw w U) ∧
  (∀ i j : Nat, i < 6 → j < 6 → i ≠ j → va_Nc (zEx i) (zEx j) U) ∧
  (∀ (i : Nat) (q : String × Nat × String), zstr[i]? = some q → vk_R q.1 q.2.1 q.2.2 (X.2.2.2 i) U)
def zS (p : Program) (l : Launch) (e : Env) (R : Room) (s : State) (m : MethodId) (args : Array Value) (below : List Frame) (meth : Method) (c : Code) (X : zX) (d mi : Nat) : Prop :=
  p.tables.exec = Jvm.exec ∧ c.code = zB mi ∧ c.maxLocals = zL mi ∧ s.vm.findClass (zO mi) = some m.cls ∧ (∀ w ∈ zTs, w.before args s = true) ∧ meth.sig.returnType = zRt mi ∧ meth.locks = false ∧
  c.exceptionTable.toList = tableOf (zH mi) ∧ meth.name = (zY mi).name ∧ d ≤ R.frames ∧ 60 * d ≤ R.locals ∧ zK X s s.heap ∧ l.stackTraces = false
def zD (X : zX) (s : State) (R : Room) (H : Heap) (locs : List Loc) (cells slots bc bs mc ms n : Nat) (K : zKT) (P : zPT) (I : zIT) (L : zLT) : Prop :=
  cells + bc ≤ mc ∧ slots + bs ≤ ms ∧ mc ≤ R.cells ∧ ms ≤ R.slots ∧ va_S (zA X) s.heap H locs ∧ zPic X s H n K P I L
def zQ (X : zX) (Post : zPost) : Array Value → State → Outcome → State → Prop := fun _ st o t =>
  (∃ (v : Option Value) (n : Nat) (K : zKT) (P : zPT) (I : zIT) (L : zLT), o = .returned v ∧ Post (.inl v) n K P I L ∧ zPic X t t.heap n K P I L) ∧ va_F (zA X) st t
def zXC (X : zX) (Post : zPost) : String → State → State → Prop := fun E st t =>
  (∃ (x n : Nat) (K : zKT) (P : zPT) (I : zIT) (L : zLT), zEx x = E ∧ x < 6 ∧ Post (.inr x) n K P I L ∧ zPic X t t.heap n K P I L) ∧ va_F (zA X) st t
/-- from pc on, with these locals, this stack and this memory, the method comes to an end with Post: it may go d calls deep and make bc cells of bs slots -/
def zV (l : Launch) (X : zX) (d bc bs mi pc : Nat) (ls : List (Nat × Value)) (st : List Value) (n : Nat) (K : zKT) (P : zPT) (I : zIT) (L : zLT) (Post : zPost) : Prop :=
  ∀ (p : Program) (e : Env) (R : Room) (s : State) (m : MethodId) (args : Array Value) (below : List Frame) (meth : Method) (c : Code) (H : Heap) (locs : List Loc) (cells slots mc ms : Nat) (lsr : Array Slot),
    zS p l e R s m args below meth c X d mi → zD X s R H locs cells slots bc bs mc ms n K P I L → lv_has lsr (zL mi) ls →
    W p l e R s m args below meth c H locs cells slots (vx_MQ below (zQ X Post) (zXC X Post) args s mc ms (zA X)) (F0 m pc lsr st)
/-- a method's contract -/
def zC (l : Launch) (X : zX) (d bc bs mi : Nat) (av : List Value) (n : Nat) (K : zKT) (P : zPT) (I : zIT) (L : zLT) (Post : zPost) : Prop :=
  zV l X d bc bs mi 0 (lv_args 0 av) [] n K P I L Post
end
section
/-! THE TABLES AGREE with the bytes and with the tables' words: decided by the kernel -/
def zdc (mi : Nat) (e : zE) : Bool := match decode (zB mi) e.1 with
  | .ok q => decide (q = (e.2.1, e.2.2.1))
  | .error _ => false
def zN (ci : Nat) : Nat := match ci with
  | 0 => 4
  | 1 => 4
  | 4 => 12
  | 5 => 3
  | 6 => 6
  | 7 => 16
  | 8 => 11
  | _ => 0
def zcn (ci : Nat) : String := match ci with
  | 0 => RJ0
  | 1 => RJ4
  | 4 => RX0
  | 5 => RX1
  | 6 => RX2
  | 7 => RX3
  | _ => RX4
def zic : Nat → Nat := fun x => match x with
  | 0 => 83
  | 1 => 90
  | 2 => 95
  | 3 => 100
  | 4 => 142
  | _ => 268
def zhas (i : Nat) (w : Cond) : Bool := decide (lw_tbl[i]? = some w)
def zasb (y : MethodName) : MethodName := ⟨RJ5, y.name, y.desc⟩
def zwc (mi : Nat) (e : zE) : Bool := match e with
  | (_, i, _, r1, r2, r3) => match i with
    | .getfield idx => !(decide (r2 < zN r1)) || zhas r3 (.fieldLink (zO mi) idx (zT r1 r2).1 (zT r1 r2).2.1 (zT r1 r2).2.2.1)
    | .putfield idx => !(decide (r2 < zN r1)) || (zhas r3 (.fieldLink (zO mi) idx (zT r1 r2).1 (zT r1 r2).2.1 (zT r1 r2).2.2.1) && ((zT r1 r2).2.2.2 == false || (decide ((zY mi).name = "<init>") && decide ((zT r1 r2).1 = zO mi))))
    | .getstatic idx => match zst[r1]? with
      | some q => zhas r3 (.fieldLink (zO mi) idx q.1 q.2.1 q.2.2)
      | none => true
    | .ldc idx | .ldc_w idx | .ldc2_w idx => match r1 with
      | 0 => zhas r3 (.constant (zO mi) idx (Int32.ofNat r2))
      | 1 => zhas r3 (.constantFloat (zO mi) idx (UInt32.ofNat r2))
      | 2 => match zstr[r2]? with
        | some q => decide (q.1 = zO mi) && decide (q.2.1 = idx)
        | none => false
      | 3 => zhas r3 (.constantLong (zO mi) idx (Int64.ofNat r2))
      | 4 => zhas r3 (.constantDouble (zO mi) idx (UInt64.ofNat r2))
      | _ => true
    | .invokestatic idx => match r2 with
      | 0 => zhas r3 (.methodLink (zO mi) idx (zY r1))
      | 1 => zhas r3 (.methodLink (zO mi) idx (zY r1))
      | 2 => zhas r3 (.methodLinkNest (zO mi) idx (zY r1) RX4)
      | 9 => zhas r3 (.methodLink (zO mi) idx arraycopyName)
      | 13 => match r1 with
        | 0 => zhas r3 (.methodLink (zO mi) idx Lib.Math.min.name)
        | 1 => zhas r3 (.methodLink (zO mi) idx Lib.Math.max.name)
        | 2 => zhas r3 (.methodLink (zO mi) idx Lib.Math.abs.name)
        | _ => true
      | _ => true
    | .invokevirtual idx => match r2 with
      | 3 => zhas r3 (.methodLink (zO mi) idx (zY r1))
      | 4 => zhas r3 (.methodLink (zO mi) idx (zasb (zY r1)))
      | 12 => zhas r3 (.methodLink (zO mi) idx (zasb (zY r1)))
      | _ => true
    | .invokespecial idx => match r2 with
      | 5 => zhas r3 (.methodLink (zO mi) idx (zY r1))
      | 6 => zhas r3 (.methodLinkNest (zO mi) idx (zY r1) RX4)
      | 7 => zhas r3 (.methodLink (zO mi) idx objectInit)
      | 8 => zhas r3 (.methodLink (zO mi) idx (zY r1))
      | 10 => decide (zO mi = RX4) && decide (idx = zic r1) && decide (r1 < 6)
      | _ => true
    | .new idx => match r2 with
      | 0 => zhas r3 (.classLink (zO mi) idx (zcn r1))
      | 1 => zhas r3 (.classLink (zO mi) idx (zEx r1)) && decide (r1 < 6)
      | _ => true
    | .newarray _ => zhas r3 (.arrayClass (zaty r1))
    | .anewarray idx => zhas r3 (.classLink (zO mi) idx RX3)
    | _ => true
/-- a method's own words: its code, how it is called, what its class is -/
def zmc (mi : Nat) : Bool := match zi mi with
  | (y, _, ml, _, _, _, i2, i3, i4, np) =>
    (zhas i2 (.static y) || zhas i2 (.instanceMethod y)) && (i3 == 0 || zhas i3 (.selects y.cls y y) || zhas i3 (.selects RJ4 (zasb y) y)) && zhas i4 (.initialized y.cls) && decide (ml ≤ 40) &&
    decide ((parseMethodDescriptor y.desc).map (fun d => d.parameters.length) = some np) && plainName y.cls && decide (y.cls ≠ "java/lang/invoke/MethodHandle") && decide (y.cls ≠ "java/lang/invoke/VarHandle")
/-- a method's code, as the tables' words have it -/
def zcw (mi : Nat) : Cond := match zH mi with
  | [] => .code (zY mi) (zB mi) (zL mi) (zRt mi)
  | q :: r => .codeWith (zY mi) (zB mi) (zL mi) (zRt mi) (q :: r)
theorem ztab_len : ztab.length = 224 := by decide +kernel
theorem zall_nil {f : zE → Bool} {t : List zE} (h : t = []) : t.all f = true := by rw [h]; rfl
theorem zall_st {f : zE → Bool} {t : List zE} {j : Nat} (h : ((t.drop j).take 40).all f = true) (h2 : (t.drop (j + 40)).all f = true) : (t.drop j).all f = true := by
  rw [← List.take_append_drop 40 (t.drop j), List.all_append, h, List.drop_drop]
  simpa using h2
theorem zall_0 {f : zE → Bool} {t : List zE} (h : (t.drop 0).all f = true) : t.all f = true := h
end
section
set_option maxRecDepth 200000 in
theorem zd_0 : zt_X0_init.all (zdc 0) = true := by decide +kernel
set_option maxRecDepth 200000 in
theorem zw_0 : zt_X0_init.all (zwc 0) = true := by decide +kernel
set_option maxRecDepth 200000 in
theorem zm_0 : zmc 0 = true := by decide +kernel
set_option maxRecDepth 200000 in
theorem zk_0 : zcw 0 ∈ lw_tbl := List.mem_of_getElem? (i := 176) rfl
set_option maxRecDepth 200000 in
theorem zd_1 : zt_X0_other.all (zdc 1) = true := by decide +kernel
set_option maxRecDepth 200000 in
theorem zw_1 : zt_X0_other.all (zwc 1) = true := by decide +kernel
set_option maxRecDepth 200000 in
theorem zm_1 : zmc 1 = true := by decide +kernel
set_option maxRecDepth 200000 in
theorem zk_1 : zcw 1 ∈ lw_tbl := List.mem_of_getElem? (i := 984) rfl
set_option maxRecDepth 200000 in
theorem zd_2 : zt_X0_reachedFrom.all (zdc 2) = true := by decide +kernel
set_option maxRecDepth 200000 in
theorem zw_2 : zt_X0_reachedFrom.all (zwc 2) = true := by decide +kernel
set_option maxRecDepth 200000 in
theorem zm_2 : zmc 2 = true := by decide +kernel
set_option maxRecDepth 200000 in
theorem zk_2 : zcw 2 ∈ lw_tbl := List.mem_of_getElem? (i := 962) rfl
set_option maxRecDepth 200000 in
theorem zd_3_0 : ((zt_X0_neighbours.drop 0).take 40).all (zdc 3) = true := by decide +kernel
set_option maxRecDepth 200000 in
theorem zd_3_1 : ((zt_X0_neighbours.drop 40).take 40).all (zdc 3) = true := by decide +kernel
set_option maxRecDepth 200000 in
theorem zd_3 : zt_X0_neighbours.all (zdc 3) = true := zall_0 (zall_st (j := 0) zd_3_0 (zall_st (j := 40) zd_3_1 (zall_nil (by decide +kernel : (zt_X0_neighbours.drop 80) = []))))
set_option maxRecDepth 200000 in
theorem zw_3 : zt_X0_neighbours.all (zwc 3) = true := by decide +kernel
set_option maxRecDepth 200000 in
theorem zm_3 : zmc 3 = true := by decide +kernel
set_option maxRecDepth 200000 in
theorem zk_3 : zcw 3 ∈ lw_tbl := List.mem_of_getElem? (i := 966) rfl
set_option maxRecDepth 200000 in
theorem zd_4 : zt_X0_connect.all (zdc 4) = true := by decide +kernel
set_option maxRecDepth 200000 in
theorem zw_4 : zt_X0_connect.all (zwc 4) = true := by decide +kernel
set_option maxRecDepth 200000 in
theorem zm_4 : zmc 4 = true := by decide +kernel
set_option maxRecDepth 200000 in
theorem zk_4 : zcw 4 ∈ lw_tbl := List.mem_of_getElem? (i := 1031) rfl
set_option maxRecDepth 200000 in
theorem zd_5 : zt_X0_groupsByWalking.all (zdc 5) = true := by decide +kernel
set_option maxRecDepth 200000 in
theorem zw_5 : zt_X0_groupsByWalking.all (zwc 5) = true := by decide +kernel
set_option maxRecDepth 200000 in
theorem zm_5 : zmc 5 = true := by decide +kernel
set_option maxRecDepth 200000 in
theorem zk_5 : zcw 5 ∈ lw_tbl := List.mem_of_getElem? (i := 955) rfl
set_option maxRecDepth 200000 in
theorem zd_6 : zt_X0_dependOn.all (zdc 6) = true := by decide +kernel
set_option maxRecDepth 200000 in
theorem zw_6 : zt_X0_dependOn.all (zwc 6) = true := by decide +kernel
set_option maxRecDepth 200000 in
theorem zm_6 : zmc 6 = true := by decide +kernel
set_option maxRecDepth 200000 in
theorem zk_6 : zcw 6 ∈ lw_tbl := List.mem_of_getElem? (i := 1356) rfl
set_option maxRecDepth 200000 in
theorem zd_7 : zt_X0_bridgesByNumbering.all (zdc 7) = true := by decide +kernel
set_option maxRecDepth 200000 in
theorem zw_7 : zt_X0_bridgesByNumbering.all (zwc 7) = true := by decide +kernel
set_option maxRecDepth 200000 in
theorem zm_7 : zmc 7 = true := by decide +kernel
set_option maxRecDepth 200000 in
theorem zk_7 : zcw 7 ∈ lw_tbl := List.mem_of_getElem? (i := 975) rfl
set_option maxRecDepth 200000 in
theorem zd_8_0 : ((zt_X0_walk.drop 0).take 40).all (zdc 8) = true := by decide +kernel
set_option maxRecDepth 200000 in
theorem zd_8_1 : ((zt_X0_walk.drop 40).take 40).all (zdc 8) = true := by decide +kernel
set_option maxRecDepth 200000 in
theorem zd_8_2 : ((zt_X0_walk.drop 80).take 40).all (zdc 8) = true := by decide +kernel
set_option maxRecDepth 200000 in
theorem zd_8 : zt_X0_walk.all (zdc 8) = true := zall_0 (zall_st (j := 0) zd_8_0 (zall_st (j := 40) zd_8_1 (zall_st (j := 80) zd_8_2 (zall_nil (by decide +kernel : (zt_X0_walk.drop 120) = [])))))
set_option maxRecDepth 200000 in
theorem zw_8 : zt_X0_walk.all (zwc 8) = true := by decide +kernel
set_option maxRecDepth 200000 in
theorem zm_8 : zmc 8 = true := by decide +kernel
set_option maxRecDepth 200000 in
theorem zk_8 : zcw 8 ∈ lw_tbl := List.mem_of_getElem? (i := 981) rfl
set_option maxRecDepth 200000 in
theorem zd_9 : zt_X0_widthByGoingOn.all (zdc 9) = true := by decide +kernel
set_option maxRecDepth 200000 in
theorem zw_9 : zt_X0_widthByGoingOn.all (zwc 9) = true := by decide +kernel
set_option maxRecDepth 200000 in
theorem zm_9 : zmc 9 = true := by decide +kernel
set_option maxRecDepth 200000 in
theorem zk_9 : zcw 9 ∈ lw_tbl := List.mem_of_getElem? (i := 1480) rfl
set_option maxRecDepth 200000 in
theorem zd_10 : zt_X0_mostWidelyReached.all (zdc 10) = true := by decide +kernel
set_option maxRecDepth 200000 in
theorem zw_10 : zt_X0_mostWidelyReached.all (zwc 10) = true := by decide +kernel
set_option maxRecDepth 200000 in
theorem zm_10 : zmc 10 = true := by decide +kernel
set_option maxRecDepth 200000 in
theorem zk_10 : zcw 10 ∈ lw_tbl := List.mem_of_getElem? (i := 1484) rfl
set_option maxRecDepth 200000 in
theorem zd_11 : zt_X0_widenFrom.all (zdc 11) = true := by decide +kernel
set_option maxRecDepth 200000 in
theorem zw_11 : zt_X0_widenFrom.all (zwc 11) = true := by decide +kernel
set_option maxRecDepth 200000 in
theorem zm_11 : zmc 11 = true := by decide +kernel
set_option maxRecDepth 200000 in
theorem zk_11 : zcw 11 ∈ lw_tbl := List.mem_of_getElem? (i := 1488) rfl
set_option maxRecDepth 200000 in
theorem zd_12 : zt_X0_widthByTrying.all (zdc 12) = true := by decide +kernel
set_option maxRecDepth 200000 in
theorem zw_12 : zt_X0_widthByTrying.all (zwc 12) = true := by decide +kernel
set_option maxRecDepth 200000 in
theorem zm_12 : zmc 12 = true := by decide +kernel
set_option maxRecDepth 200000 in
theorem zk_12 : zcw 12 ∈ lw_tbl := List.mem_of_getElem? (i := 1500) rfl
set_option maxRecDepth 200000 in
theorem zd_13_0 : ((zt_X0_search.drop 0).take 40).all (zdc 13) = true := by decide +kernel
set_option maxRecDepth 200000 in
theorem zd_13_1 : ((zt_X0_search.drop 40).take 40).all (zdc 13) = true := by decide +kernel
set_option maxRecDepth 200000 in
theorem zd_13_2 : ((zt_X0_search.drop 80).take 40).all (zdc 13) = true := by decide +kernel
set_option maxRecDepth 200000 in
theorem zd_13 : zt_X0_search.all (zdc 13) = true := zall_0 (zall_st (j := 0) zd_13_0 (zall_st (j := 40) zd_13_1 (zall_st (j := 80) zd_13_2 (zall_nil (by decide +kernel : (zt_X0_search.drop 120) = [])))))
set_option maxRecDepth 200000 in
theorem zw_13 : zt_X0_search.all (zwc 13) = true := by decide +kernel
set_option maxRecDepth 200000 in
theorem zm_13 : zmc 13 = true := by decide +kernel
set_option maxRecDepth 200000 in
theorem zk_13 : zcw 13 ∈ lw_tbl := List.mem_of_getElem? (i := 1036) rfl
set_option maxRecDepth 200000 in
theorem zd_14_0 : ((zt_X0_arrive.drop 0).take 40).all (zdc 14) = true := by decide +kernel
set_option maxRecDepth 200000 in
theorem zd_14_1 : ((zt_X0_arrive.drop 40).take 40).all (zdc 14) = true := by decide +kernel
set_option maxRecDepth 200000 in
theorem zd_14 : zt_X0_arrive.all (zdc 14) = true := zall_0 (zall_st (j := 0) zd_14_0 (zall_st (j := 40) zd_14_1 (zall_nil (by decide +kernel : (zt_X0_arrive.drop 80) = []))))
set_option maxRecDepth 200000 in
theorem zw_14 : zt_X0_arrive.all (zwc 14) = true := by decide +kernel
set_option maxRecDepth 200000 in
theorem zm_14 : zmc 14 = true := by decide +kernel
set_option maxRecDepth 200000 in
theorem zk_14 : zcw 14 ∈ lw_tbl := List.mem_of_getElem? (i := 1040) rfl
set_option maxRecDepth 200000 in
theorem zd_15 : zt_X0_passUntilNothingIsNew.all (zdc 15) = true := by decide +kernel
set_option maxRecDepth 200000 in
theorem zw_15 : zt_X0_passUntilNothingIsNew.all (zwc 15) = true := by decide +kernel
set_option maxRecDepth 200000 in
theorem zm_15 : zmc 15 = true := by decide +kernel
set_option maxRecDepth 200000 in
theorem zk_15 : zcw 15 ∈ lw_tbl := List.mem_of_getElem? (i := 1416) rfl
set_option maxRecDepth 200000 in
theorem zd_16_0 : ((zt_X0_passReachesNew.drop 0).take 40).all (zdc 16) = true := by decide +kernel
set_option maxRecDepth 200000 in
theorem zd_16_1 : ((zt_X0_passReachesNew.drop 40).take 40).all (zdc 16) = true := by decide +kernel
set_option maxRecDepth 200000 in
theorem zd_16 : zt_X0_passReachesNew.all (zdc 16) = true := zall_0 (zall_st (j := 0) zd_16_0 (zall_st (j := 40) zd_16_1 (zall_nil (by decide +kernel : (zt_X0_passReachesNew.drop 80) = []))))
set_option maxRecDepth 200000 in
theorem zw_16 : zt_X0_passReachesNew.all (zwc 16) = true := by decide +kernel
set_option maxRecDepth 200000 in
theorem zm_16 : zmc 16 = true := by decide +kernel
set_option maxRecDepth 200000 in
theorem zk_16 : zcw 16 ∈ lw_tbl := List.mem_of_getElem? (i := 1420) rfl
set_option maxRecDepth 200000 in
theorem zd_17 : zt_X0_carriesNew.all (zdc 17) = true := by decide +kernel
set_option maxRecDepth 200000 in
theorem zw_17 : zt_X0_carriesNew.all (zwc 17) = true := by decide +kernel
set_option maxRecDepth 200000 in
theorem zm_17 : zmc 17 = true := by decide +kernel
set_option maxRecDepth 200000 in
theorem zk_17 : zcw 17 ∈ lw_tbl := List.mem_of_getElem? (i := 1424) rfl
set_option maxRecDepth 200000 in
theorem zd_18 : zt_X0_fewestLeftIn.all (zdc 18) = true := by decide +kernel
set_option maxRecDepth 200000 in
theorem zw_18 : zt_X0_fewestLeftIn.all (zwc 18) = true := by decide +kernel
set_option maxRecDepth 200000 in
theorem zm_18 : zmc 18 = true := by decide +kernel
set_option maxRecDepth 200000 in
theorem zk_18 : zcw 18 ∈ lw_tbl := List.mem_of_getElem? (i := 1428) rfl
set_option maxRecDepth 200000 in
theorem zd_19 : zt_X1_init.all (zdc 19) = true := by decide +kernel
set_option maxRecDepth 200000 in
theorem zw_19 : zt_X1_init.all (zwc 19) = true := by decide +kernel
set_option maxRecDepth 200000 in
theorem zm_19 : zmc 19 = true := by decide +kernel
set_option maxRecDepth 200000 in
theorem zk_19 : zcw 19 ∈ lw_tbl := List.mem_of_getElem? (i := 156) rfl
set_option maxRecDepth 200000 in
theorem zd_20 : zt_X1_keep.all (zdc 20) = true := by decide +kernel
set_option maxRecDepth 200000 in
theorem zw_20 : zt_X1_keep.all (zwc 20) = true := by decide +kernel
set_option maxRecDepth 200000 in
theorem zm_20 : zmc 20 = true := by decide +kernel
set_option maxRecDepth 200000 in
theorem zk_20 : zcw 20 ∈ lw_tbl := List.mem_of_getElem? (i := 521) rfl
set_option maxRecDepth 200000 in
theorem zd_21 : zt_X1_takeBack.all (zdc 21) = true := by decide +kernel
set_option maxRecDepth 200000 in
theorem zw_21 : zt_X1_takeBack.all (zwc 21) = true := by decide +kernel
set_option maxRecDepth 200000 in
theorem zm_21 : zmc 21 = true := by decide +kernel
set_option maxRecDepth 200000 in
theorem zk_21 : zcw 21 ∈ lw_tbl := List.mem_of_getElem? (i := 870) rfl
set_option maxRecDepth 200000 in
theorem zd_22 : zt_X2_init.all (zdc 22) = true := by decide +kernel
set_option maxRecDepth 200000 in
theorem zw_22 : zt_X2_init.all (zwc 22) = true := by decide +kernel
set_option maxRecDepth 200000 in
theorem zm_22 : zmc 22 = true := by decide +kernel
set_option maxRecDepth 200000 in
theorem zk_22 : zcw 22 ∈ lw_tbl := List.mem_of_getElem? (i := 221) rfl
end
section
set_option maxRecDepth 200000 in
theorem zd_23 : zt_X2_isFull.all (zdc 23) = true := by decide +kernel
set_option maxRecDepth 200000 in
theorem zw_23 : zt_X2_isFull.all (zwc 23) = true := by decide +kernel
set_option maxRecDepth 200000 in
theorem zm_23 : zmc 23 = true := by decide +kernel
set_option maxRecDepth 200000 in
theorem zk_23 : zcw 23 ∈ lw_tbl := List.mem_of_getElem? (i := 701) rfl
set_option maxRecDepth 200000 in
theorem zd_24 : zt_X2_append.all (zdc 24) = true := by decide +kernel
set_option maxRecDepth 200000 in
theorem zw_24 : zt_X2_append.all (zwc 24) = true := by decide +kernel
set_option maxRecDepth 200000 in
theorem zm_24 : zmc 24 = true := by decide +kernel
set_option maxRecDepth 200000 in
theorem zk_24 : zcw 24 ∈ lw_tbl := List.mem_of_getElem? (i := 706) rfl
set_option maxRecDepth 200000 in
theorem zd_25 : zt_X2_empty.all (zdc 25) = true := by decide +kernel
set_option maxRecDepth 200000 in
theorem zw_25 : zt_X2_empty.all (zwc 25) = true := by decide +kernel
set_option maxRecDepth 200000 in
theorem zm_25 : zmc 25 = true := by decide +kernel
set_option maxRecDepth 200000 in
theorem zk_25 : zcw 25 ∈ lw_tbl := List.mem_of_getElem? (i := 824) rfl
set_option maxRecDepth 200000 in
theorem zd_26 : zt_X2_argument.all (zdc 26) = true := by decide +kernel
set_option maxRecDepth 200000 in
theorem zw_26 : zt_X2_argument.all (zwc 26) = true := by decide +kernel
set_option maxRecDepth 200000 in
theorem zm_26 : zmc 26 = true := by decide +kernel
set_option maxRecDepth 200000 in
theorem zk_26 : zcw 26 ∈ lw_tbl := List.mem_of_getElem? (i := 833) rfl
set_option maxRecDepth 200000 in
theorem zd_27 : zt_X2_wordOf.all (zdc 27) = true := by decide +kernel
set_option maxRecDepth 200000 in
theorem zw_27 : zt_X2_wordOf.all (zwc 27) = true := by decide +kernel
set_option maxRecDepth 200000 in
theorem zm_27 : zmc 27 = true := by decide +kernel
set_option maxRecDepth 200000 in
theorem zk_27 : zcw 27 ∈ lw_tbl := List.mem_of_getElem? (i := 728) rfl
set_option maxRecDepth 200000 in
theorem zd_28 : zt_X2_formOf.all (zdc 28) = true := by decide +kernel
set_option maxRecDepth 200000 in
theorem zw_28 : zt_X2_formOf.all (zwc 28) = true := by decide +kernel
set_option maxRecDepth 200000 in
theorem zm_28 : zmc 28 = true := by decide +kernel
set_option maxRecDepth 200000 in
theorem zk_28 : zcw 28 ∈ lw_tbl := List.mem_of_getElem? (i := 794) rfl
set_option maxRecDepth 200000 in
theorem zd_29 : zt_X2_read.all (zdc 29) = true := by decide +kernel
set_option maxRecDepth 200000 in
theorem zw_29 : zt_X2_read.all (zwc 29) = true := by decide +kernel
set_option maxRecDepth 200000 in
theorem zm_29 : zmc 29 = true := by decide +kernel
set_option maxRecDepth 200000 in
theorem zk_29 : zcw 29 ∈ lw_tbl := List.mem_of_getElem? (i := 717) rfl
set_option maxRecDepth 200000 in
theorem zd_30 : zt_X2_isNext.all (zdc 30) = true := by decide +kernel
set_option maxRecDepth 200000 in
theorem zw_30 : zt_X2_isNext.all (zwc 30) = true := by decide +kernel
set_option maxRecDepth 200000 in
theorem zm_30 : zmc 30 = true := by decide +kernel
set_option maxRecDepth 200000 in
theorem zk_30 : zcw 30 ∈ lw_tbl := List.mem_of_getElem? (i := 808) rfl
set_option maxRecDepth 200000 in
theorem zd_31 : zt_X2_skip.all (zdc 31) = true := by decide +kernel
set_option maxRecDepth 200000 in
theorem zw_31 : zt_X2_skip.all (zwc 31) = true := by decide +kernel
set_option maxRecDepth 200000 in
theorem zm_31 : zmc 31 = true := by decide +kernel
set_option maxRecDepth 200000 in
theorem zk_31 : zcw 31 ∈ lw_tbl := List.mem_of_getElem? (i := 804) rfl
set_option maxRecDepth 200000 in
theorem zd_32 : zt_X2_readCommand.all (zdc 32) = true := by decide +kernel
set_option maxRecDepth 200000 in
theorem zw_32 : zt_X2_readCommand.all (zwc 32) = true := by decide +kernel
set_option maxRecDepth 200000 in
theorem zm_32 : zmc 32 = true := by decide +kernel
set_option maxRecDepth 200000 in
theorem zk_32 : zcw 32 ∈ lw_tbl := List.mem_of_getElem? (i := 721) rfl
set_option maxRecDepth 200000 in
theorem zd_33 : zt_X2_readWord.all (zdc 33) = true := by decide +kernel
set_option maxRecDepth 200000 in
theorem zw_33 : zt_X2_readWord.all (zwc 33) = true := by decide +kernel
set_option maxRecDepth 200000 in
theorem zm_33 : zmc 33 = true := by decide +kernel
set_option maxRecDepth 200000 in
theorem zk_33 : zcw 33 ∈ lw_tbl := List.mem_of_getElem? (i := 725) rfl
set_option maxRecDepth 200000 in
theorem zd_34 : zt_X2_lengthInCommon.all (zdc 34) = true := by decide +kernel
set_option maxRecDepth 200000 in
theorem zw_34 : zt_X2_lengthInCommon.all (zwc 34) = true := by decide +kernel
set_option maxRecDepth 200000 in
theorem zm_34 : zmc 34 = true := by decide +kernel
set_option maxRecDepth 200000 in
theorem zk_34 : zcw 34 ∈ lw_tbl := List.mem_of_getElem? (i := 740) rfl
set_option maxRecDepth 200000 in
theorem zd_35 : zt_X2_readPart.all (zdc 35) = true := by decide +kernel
set_option maxRecDepth 200000 in
theorem zw_35 : zt_X2_readPart.all (zwc 35) = true := by decide +kernel
set_option maxRecDepth 200000 in
theorem zm_35 : zmc 35 = true := by decide +kernel
set_option maxRecDepth 200000 in
theorem zk_35 : zcw 35 ∈ lw_tbl := List.mem_of_getElem? (i := 812) rfl
set_option maxRecDepth 200000 in
theorem zd_36 : zt_X2_readNumber.all (zdc 36) = true := by decide +kernel
set_option maxRecDepth 200000 in
theorem zw_36 : zt_X2_readNumber.all (zwc 36) = true := by decide +kernel
set_option maxRecDepth 200000 in
theorem zm_36 : zmc 36 = true := by decide +kernel
set_option maxRecDepth 200000 in
theorem zk_36 : zcw 36 ∈ lw_tbl := List.mem_of_getElem? (i := 816) rfl
set_option maxRecDepth 200000 in
theorem zd_37 : zt_X2_readSet.all (zdc 37) = true := by decide +kernel
set_option maxRecDepth 200000 in
theorem zw_37 : zt_X2_readSet.all (zwc 37) = true := by decide +kernel
set_option maxRecDepth 200000 in
theorem zm_37 : zmc 37 = true := by decide +kernel
set_option maxRecDepth 200000 in
theorem zk_37 : zcw 37 ∈ lw_tbl := List.mem_of_getElem? (i := 820) rfl
set_option maxRecDepth 200000 in
theorem zd_38 : zt_X3_init.all (zdc 38) = true := by decide +kernel
set_option maxRecDepth 200000 in
theorem zw_38 : zt_X3_init.all (zwc 38) = true := by decide +kernel
set_option maxRecDepth 200000 in
theorem zm_38 : zmc 38 = true := by decide +kernel
set_option maxRecDepth 200000 in
theorem zk_38 : zcw 38 ∈ lw_tbl := List.mem_of_getElem? (i := 77) rfl
set_option maxRecDepth 200000 in
theorem zd_39_0 : ((zt_X3_copyFrom.drop 0).take 40).all (zdc 39) = true := by decide +kernel
set_option maxRecDepth 200000 in
theorem zd_39_1 : ((zt_X3_copyFrom.drop 40).take 40).all (zdc 39) = true := by decide +kernel
set_option maxRecDepth 200000 in
theorem zd_39_2 : ((zt_X3_copyFrom.drop 80).take 40).all (zdc 39) = true := by decide +kernel
set_option maxRecDepth 200000 in
theorem zd_39 : zt_X3_copyFrom.all (zdc 39) = true := zall_0 (zall_st (j := 0) zd_39_0 (zall_st (j := 40) zd_39_1 (zall_st (j := 80) zd_39_2 (zall_nil (by decide +kernel : (zt_X3_copyFrom.drop 120) = [])))))
set_option maxRecDepth 200000 in
theorem zw_39 : zt_X3_copyFrom.all (zwc 39) = true := by decide +kernel
set_option maxRecDepth 200000 in
theorem zm_39 : zmc 39 = true := by decide +kernel
set_option maxRecDepth 200000 in
theorem zk_39 : zcw 39 ∈ lw_tbl := List.mem_of_getElem? (i := 340) rfl
set_option maxRecDepth 200000 in
theorem zd_40 : zt_X3_hasTank.all (zdc 40) = true := by decide +kernel
set_option maxRecDepth 200000 in
theorem zw_40 : zt_X3_hasTank.all (zwc 40) = true := by decide +kernel
set_option maxRecDepth 200000 in
theorem zm_40 : zmc 40 = true := by decide +kernel
set_option maxRecDepth 200000 in
theorem zk_40 : zcw 40 ∈ lw_tbl := List.mem_of_getElem? (i := 378) rfl
set_option maxRecDepth 200000 in
theorem zd_41 : zt_X3_hasPipe.all (zdc 41) = true := by decide +kernel
set_option maxRecDepth 200000 in
theorem zw_41 : zt_X3_hasPipe.all (zwc 41) = true := by decide +kernel
set_option maxRecDepth 200000 in
theorem zm_41 : zmc 41 = true := by decide +kernel
set_option maxRecDepth 200000 in
theorem zk_41 : zcw 41 ∈ lw_tbl := List.mem_of_getElem? (i := 394) rfl
set_option maxRecDepth 200000 in
theorem zd_42 : zt_X3_refusalOf.all (zdc 42) = true := by decide +kernel
set_option maxRecDepth 200000 in
theorem zw_42 : zt_X3_refusalOf.all (zwc 42) = true := by decide +kernel
set_option maxRecDepth 200000 in
theorem zm_42 : zmc 42 = true := by decide +kernel
set_option maxRecDepth 200000 in
theorem zk_42 : zcw 42 ∈ lw_tbl := List.mem_of_getElem? (i := 363) rfl
set_option maxRecDepth 200000 in
theorem zd_43 : zt_X3_isWithin.all (zdc 43) = true := by decide +kernel
set_option maxRecDepth 200000 in
theorem zw_43 : zt_X3_isWithin.all (zwc 43) = true := by decide +kernel
set_option maxRecDepth 200000 in
theorem zm_43 : zmc 43 = true := by decide +kernel
set_option maxRecDepth 200000 in
theorem zk_43 : zcw 43 ∈ lw_tbl := List.mem_of_getElem? (i := 370) rfl
set_option maxRecDepth 200000 in
theorem zd_44 : zt_X3_refusalOfTank.all (zdc 44) = true := by decide +kernel
set_option maxRecDepth 200000 in
theorem zw_44 : zt_X3_refusalOfTank.all (zwc 44) = true := by decide +kernel
set_option maxRecDepth 200000 in
theorem zm_44 : zmc 44 = true := by decide +kernel
set_option maxRecDepth 200000 in
theorem zk_44 : zcw 44 ∈ lw_tbl := List.mem_of_getElem? (i := 367) rfl
set_option maxRecDepth 200000 in
theorem zd_45 : zt_X3_refusalOfPipe.all (zdc 45) = true := by decide +kernel
set_option maxRecDepth 200000 in
theorem zw_45 : zt_X3_refusalOfPipe.all (zwc 45) = true := by decide +kernel
set_option maxRecDepth 200000 in
theorem zm_45 : zmc 45 = true := by decide +kernel
set_option maxRecDepth 200000 in
theorem zk_45 : zcw 45 ∈ lw_tbl := List.mem_of_getElem? (i := 374) rfl
set_option maxRecDepth 200000 in
theorem zd_46 : zt_X3_refusalOfPouring.all (zdc 46) = true := by decide +kernel
set_option maxRecDepth 200000 in
theorem zw_46 : zt_X3_refusalOfPouring.all (zwc 46) = true := by decide +kernel
set_option maxRecDepth 200000 in
theorem zm_46 : zmc 46 = true := by decide +kernel
set_option maxRecDepth 200000 in
theorem zk_46 : zcw 46 ∈ lw_tbl := List.mem_of_getElem? (i := 382) rfl
set_option maxRecDepth 200000 in
theorem zd_47 : zt_X3_refusalOfDrawing.all (zdc 47) = true := by decide +kernel
set_option maxRecDepth 200000 in
theorem zw_47 : zt_X3_refusalOfDrawing.all (zwc 47) = true := by decide +kernel
set_option maxRecDepth 200000 in
theorem zm_47 : zmc 47 = true := by decide +kernel
set_option maxRecDepth 200000 in
theorem zk_47 : zcw 47 ∈ lw_tbl := List.mem_of_getElem? (i := 386) rfl
set_option maxRecDepth 200000 in
theorem zd_48 : zt_X3_refusalForPipe.all (zdc 48) = true := by decide +kernel
set_option maxRecDepth 200000 in
theorem zw_48 : zt_X3_refusalForPipe.all (zwc 48) = true := by decide +kernel
set_option maxRecDepth 200000 in
theorem zm_48 : zmc 48 = true := by decide +kernel
set_option maxRecDepth 200000 in
theorem zk_48 : zcw 48 ∈ lw_tbl := List.mem_of_getElem? (i := 390) rfl
set_option maxRecDepth 200000 in
theorem zd_49 : zt_X3_perform.all (zdc 49) = true := by decide +kernel
set_option maxRecDepth 200000 in
theorem zw_49 : zt_X3_perform.all (zwc 49) = true := by decide +kernel
set_option maxRecDepth 200000 in
theorem zm_49 : zmc 49 = true := by decide +kernel
set_option maxRecDepth 200000 in
theorem zk_49 : zcw 49 ∈ lw_tbl := List.mem_of_getElem? (i := 529) rfl
set_option maxRecDepth 200000 in
theorem zd_50 : zt_X3_newTank.all (zdc 50) = true := by decide +kernel
set_option maxRecDepth 200000 in
theorem zw_50 : zt_X3_newTank.all (zwc 50) = true := by decide +kernel
set_option maxRecDepth 200000 in
theorem zm_50 : zmc 50 = true := by decide +kernel
set_option maxRecDepth 200000 in
theorem zk_50 : zcw 50 ∈ lw_tbl := List.mem_of_getElem? (i := 533) rfl
set_option maxRecDepth 200000 in
theorem zd_51 : zt_X3_newPipe.all (zdc 51) = true := by decide +kernel
set_option maxRecDepth 200000 in
theorem zw_51 : zt_X3_newPipe.all (zwc 51) = true := by decide +kernel
set_option maxRecDepth 200000 in
theorem zm_51 : zmc 51 = true := by decide +kernel
set_option maxRecDepth 200000 in
theorem zk_51 : zcw 51 ∈ lw_tbl := List.mem_of_getElem? (i := 537) rfl
set_option maxRecDepth 200000 in
theorem zd_52 : zt_X3_pourInto.all (zdc 52) = true := by decide +kernel
set_option maxRecDepth 200000 in
theorem zw_52 : zt_X3_pourInto.all (zwc 52) = true := by decide +kernel
set_option maxRecDepth 200000 in
theorem zm_52 : zmc 52 = true := by decide +kernel
set_option maxRecDepth 200000 in
theorem zk_52 : zcw 52 ∈ lw_tbl := List.mem_of_getElem? (i := 541) rfl
set_option maxRecDepth 200000 in
theorem zd_53 : zt_X3_drawFrom.all (zdc 53) = true := by decide +kernel
set_option maxRecDepth 200000 in
theorem zw_53 : zt_X3_drawFrom.all (zwc 53) = true := by decide +kernel
set_option maxRecDepth 200000 in
theorem zm_53 : zmc 53 = true := by decide +kernel
set_option maxRecDepth 200000 in
theorem zk_53 : zcw 53 ∈ lw_tbl := List.mem_of_getElem? (i := 545) rfl
set_option maxRecDepth 200000 in
theorem zd_54 : zt_X3_put.all (zdc 54) = true := by decide +kernel
set_option maxRecDepth 200000 in
theorem zw_54 : zt_X3_put.all (zwc 54) = true := by decide +kernel
set_option maxRecDepth 200000 in
theorem zm_54 : zmc 54 = true := by decide +kernel
set_option maxRecDepth 200000 in
theorem zk_54 : zcw 54 ∈ lw_tbl := List.mem_of_getElem? (i := 548) rfl
set_option maxRecDepth 200000 in
theorem zd_55 : zt_X3_passMinutes.all (zdc 55) = true := by decide +kernel
set_option maxRecDepth 200000 in
theorem zw_55 : zt_X3_passMinutes.all (zwc 55) = true := by decide +kernel
set_option maxRecDepth 200000 in
theorem zm_55 : zmc 55 = true := by decide +kernel
set_option maxRecDepth 200000 in
theorem zk_55 : zcw 55 ∈ lw_tbl := List.mem_of_getElem? (i := 552) rfl
set_option maxRecDepth 200000 in
theorem zd_56 : zt_X3_passMinute.all (zdc 56) = true := by decide +kernel
set_option maxRecDepth 200000 in
theorem zw_56 : zt_X3_passMinute.all (zwc 56) = true := by decide +kernel
set_option maxRecDepth 200000 in
theorem zm_56 : zmc 56 = true := by decide +kernel
set_option maxRecDepth 200000 in
theorem zk_56 : zcw 56 ∈ lw_tbl := List.mem_of_getElem? (i := 556) rfl
end
section
set_option maxRecDepth 200000 in
theorem zd_57_0 : ((zt_X3_let.drop 0).take 40).all (zdc 57) = true := by decide +kernel
set_option maxRecDepth 200000 in
theorem zd_57_1 : ((zt_X3_let.drop 40).take 40).all (zdc 57) = true := by decide +kernel
set_option maxRecDepth 200000 in
theorem zd_57_2 : ((zt_X3_let.drop 80).take 40).all (zdc 57) = true := by decide +kernel
set_option maxRecDepth 200000 in
theorem zd_57 : zt_X3_let.all (zdc 57) = true := zall_0 (zall_st (j := 0) zd_57_0 (zall_st (j := 40) zd_57_1 (zall_st (j := 80) zd_57_2 (zall_nil (by decide +kernel : (zt_X3_let.drop 120) = [])))))
set_option maxRecDepth 200000 in
theorem zw_57 : zt_X3_let.all (zwc 57) = true := by decide +kernel
set_option maxRecDepth 200000 in
theorem zm_57 : zmc 57 = true := by decide +kernel
set_option maxRecDepth 200000 in
theorem zk_57 : zcw 57 ∈ lw_tbl := List.mem_of_getElem? (i := 572) rfl
set_option maxRecDepth 200000 in
theorem zd_58 : zt_X3_letsThrough.all (zdc 58) = true := by decide +kernel
set_option maxRecDepth 200000 in
theorem zw_58 : zt_X3_letsThrough.all (zwc 58) = true := by decide +kernel
set_option maxRecDepth 200000 in
theorem zm_58 : zmc 58 = true := by decide +kernel
set_option maxRecDepth 200000 in
theorem zk_58 : zcw 58 ∈ lw_tbl := List.mem_of_getElem? (i := 564) rfl
set_option maxRecDepth 200000 in
theorem zd_59_0 : ((zt_X3_litresToFlow.drop 0).take 40).all (zdc 59) = true := by decide +kernel
set_option maxRecDepth 200000 in
theorem zd_59_1 : ((zt_X3_litresToFlow.drop 40).take 40).all (zdc 59) = true := by decide +kernel
set_option maxRecDepth 200000 in
theorem zd_59 : zt_X3_litresToFlow.all (zdc 59) = true := zall_0 (zall_st (j := 0) zd_59_0 (zall_st (j := 40) zd_59_1 (zall_nil (by decide +kernel : (zt_X3_litresToFlow.drop 80) = []))))
set_option maxRecDepth 200000 in
theorem zw_59 : zt_X3_litresToFlow.all (zwc 59) = true := by decide +kernel
set_option maxRecDepth 200000 in
theorem zm_59 : zmc 59 = true := by decide +kernel
set_option maxRecDepth 200000 in
theorem zk_59 : zcw 59 ∈ lw_tbl := List.mem_of_getElem? (i := 560) rfl
set_option maxRecDepth 200000 in
theorem zd_60 : zt_X3_isTankBefore.all (zdc 60) = true := by decide +kernel
set_option maxRecDepth 200000 in
theorem zw_60 : zt_X3_isTankBefore.all (zwc 60) = true := by decide +kernel
set_option maxRecDepth 200000 in
theorem zm_60 : zmc 60 = true := by decide +kernel
set_option maxRecDepth 200000 in
theorem zk_60 : zcw 60 ∈ lw_tbl := List.mem_of_getElem? (i := 1015) rfl
set_option maxRecDepth 200000 in
theorem zd_61 : zt_X3_isPipeBefore.all (zdc 61) = true := by decide +kernel
set_option maxRecDepth 200000 in
theorem zw_61 : zt_X3_isPipeBefore.all (zwc 61) = true := by decide +kernel
set_option maxRecDepth 200000 in
theorem zm_61 : zmc 61 = true := by decide +kernel
set_option maxRecDepth 200000 in
theorem zk_61 : zcw 61 ∈ lw_tbl := List.mem_of_getElem? (i := 1338) rfl
set_option maxRecDepth 200000 in
theorem zd_62 : zt_X3_contentOfAll.all (zdc 62) = true := by decide +kernel
set_option maxRecDepth 200000 in
theorem zw_62 : zt_X3_contentOfAll.all (zwc 62) = true := by decide +kernel
set_option maxRecDepth 200000 in
theorem zm_62 : zmc 62 = true := by decide +kernel
set_option maxRecDepth 200000 in
theorem zk_62 : zcw 62 ∈ lw_tbl := List.mem_of_getElem? (i := 920) rfl
set_option maxRecDepth 200000 in
theorem zd_63 : zt_X3_tankNumber.all (zdc 63) = true := by decide +kernel
set_option maxRecDepth 200000 in
theorem zw_63 : zt_X3_tankNumber.all (zwc 63) = true := by decide +kernel
set_option maxRecDepth 200000 in
theorem zm_63 : zmc 63 = true := by decide +kernel
set_option maxRecDepth 200000 in
theorem zk_63 : zcw 63 ∈ lw_tbl := List.mem_of_getElem? (i := 935) rfl
set_option maxRecDepth 200000 in
theorem zd_64 : zt_X3_pipeNumber.all (zdc 64) = true := by decide +kernel
set_option maxRecDepth 200000 in
theorem zw_64 : zt_X3_pipeNumber.all (zwc 64) = true := by decide +kernel
set_option maxRecDepth 200000 in
theorem zm_64 : zmc 64 = true := by decide +kernel
set_option maxRecDepth 200000 in
theorem zk_64 : zcw 64 ∈ lw_tbl := List.mem_of_getElem? (i := 941) rfl
set_option maxRecDepth 200000 in
theorem zd_65 : zt_X4_init.all (zdc 65) = true := by decide +kernel
set_option maxRecDepth 200000 in
theorem zw_65 : zt_X4_init.all (zwc 65) = true := by decide +kernel
set_option maxRecDepth 200000 in
theorem zm_65 : zmc 65 = true := by decide +kernel
set_option maxRecDepth 200000 in
theorem zk_65 : zcw 65 ∈ lw_tbl := List.mem_of_getElem? (i := 69) rfl
set_option maxRecDepth 200000 in
theorem zd_66 : zt_X4_addTank.all (zdc 66) = true := by decide +kernel
set_option maxRecDepth 200000 in
theorem zw_66 : zt_X4_addTank.all (zwc 66) = true := by decide +kernel
set_option maxRecDepth 200000 in
theorem zm_66 : zmc 66 = true := by decide +kernel
set_option maxRecDepth 200000 in
theorem zk_66 : zcw 66 ∈ lw_tbl := List.mem_of_getElem? (i := 355) rfl
set_option maxRecDepth 200000 in
theorem zd_67 : zt_X4_addPipe.all (zdc 67) = true := by decide +kernel
set_option maxRecDepth 200000 in
theorem zw_67 : zt_X4_addPipe.all (zwc 67) = true := by decide +kernel
set_option maxRecDepth 200000 in
theorem zm_67 : zmc 67 = true := by decide +kernel
set_option maxRecDepth 200000 in
theorem zk_67 : zcw 67 ∈ lw_tbl := List.mem_of_getElem? (i := 606) rfl
set_option maxRecDepth 200000 in
theorem zd_68 : zt_X4_pour.all (zdc 68) = true := by decide +kernel
set_option maxRecDepth 200000 in
theorem zw_68 : zt_X4_pour.all (zwc 68) = true := by decide +kernel
set_option maxRecDepth 200000 in
theorem zm_68 : zmc 68 = true := by decide +kernel
set_option maxRecDepth 200000 in
theorem zk_68 : zcw 68 ∈ lw_tbl := List.mem_of_getElem? (i := 614) rfl
set_option maxRecDepth 200000 in
theorem zd_69 : zt_X4_draw.all (zdc 69) = true := by decide +kernel
set_option maxRecDepth 200000 in
theorem zw_69 : zt_X4_draw.all (zwc 69) = true := by decide +kernel
set_option maxRecDepth 200000 in
theorem zm_69 : zmc 69 = true := by decide +kernel
set_option maxRecDepth 200000 in
theorem zk_69 : zcw 69 ∈ lw_tbl := List.mem_of_getElem? (i := 621) rfl
set_option maxRecDepth 200000 in
theorem zd_70 : zt_X4_setValve.all (zdc 70) = true := by decide +kernel
set_option maxRecDepth 200000 in
theorem zw_70 : zt_X4_setValve.all (zwc 70) = true := by decide +kernel
set_option maxRecDepth 200000 in
theorem zm_70 : zmc 70 = true := by decide +kernel
set_option maxRecDepth 200000 in
theorem zk_70 : zcw 70 ∈ lw_tbl := List.mem_of_getElem? (i := 628) rfl
set_option maxRecDepth 200000 in
theorem zd_71 : zt_X4_setLeak.all (zdc 71) = true := by decide +kernel
set_option maxRecDepth 200000 in
theorem zw_71 : zt_X4_setLeak.all (zwc 71) = true := by decide +kernel
set_option maxRecDepth 200000 in
theorem zm_71 : zmc 71 = true := by decide +kernel
set_option maxRecDepth 200000 in
theorem zk_71 : zcw 71 ∈ lw_tbl := List.mem_of_getElem? (i := 635) rfl
set_option maxRecDepth 200000 in
theorem zd_72 : zt_X4_cleanFilter.all (zdc 72) = true := by decide +kernel
set_option maxRecDepth 200000 in
theorem zw_72 : zt_X4_cleanFilter.all (zwc 72) = true := by decide +kernel
set_option maxRecDepth 200000 in
theorem zm_72 : zmc 72 = true := by decide +kernel
set_option maxRecDepth 200000 in
theorem zk_72 : zcw 72 ∈ lw_tbl := List.mem_of_getElem? (i := 1366) rfl
set_option maxRecDepth 200000 in
theorem zd_73 : zt_X4_advance.all (zdc 73) = true := by decide +kernel
set_option maxRecDepth 200000 in
theorem zw_73 : zt_X4_advance.all (zwc 73) = true := by decide +kernel
set_option maxRecDepth 200000 in
theorem zm_73 : zmc 73 = true := by decide +kernel
set_option maxRecDepth 200000 in
theorem zk_73 : zcw 73 ∈ lw_tbl := List.mem_of_getElem? (i := 642) rfl
set_option maxRecDepth 200000 in
theorem zd_74 : zt_X4_change.all (zdc 74) = true := by decide +kernel
set_option maxRecDepth 200000 in
theorem zw_74 : zt_X4_change.all (zwc 74) = true := by decide +kernel
set_option maxRecDepth 200000 in
theorem zm_74 : zmc 74 = true := by decide +kernel
set_option maxRecDepth 200000 in
theorem zk_74 : zcw 74 ∈ lw_tbl := List.mem_of_getElem? (i := 359) rfl
set_option maxRecDepth 200000 in
theorem zd_75 : zt_X4_throwFor.all (zdc 75) = true := by decide +kernel
set_option maxRecDepth 200000 in
theorem zw_75 : zt_X4_throwFor.all (zwc 75) = true := by decide +kernel
set_option maxRecDepth 200000 in
theorem zm_75 : zmc 75 = true := by decide +kernel
set_option maxRecDepth 200000 in
theorem zk_75 : zcw 75 ∈ lw_tbl := List.mem_of_getElem? (i := 397) rfl
set_option maxRecDepth 200000 in
theorem zd_76 : zt_X4_needTank.all (zdc 76) = true := by decide +kernel
set_option maxRecDepth 200000 in
theorem zw_76 : zt_X4_needTank.all (zwc 76) = true := by decide +kernel
set_option maxRecDepth 200000 in
theorem zm_76 : zmc 76 = true := by decide +kernel
set_option maxRecDepth 200000 in
theorem zk_76 : zcw 76 ∈ lw_tbl := List.mem_of_getElem? (i := 653) rfl
set_option maxRecDepth 200000 in
theorem zd_77 : zt_X4_needPipe.all (zdc 77) = true := by decide +kernel
set_option maxRecDepth 200000 in
theorem zw_77 : zt_X4_needPipe.all (zwc 77) = true := by decide +kernel
set_option maxRecDepth 200000 in
theorem zm_77 : zmc 77 = true := by decide +kernel
set_option maxRecDepth 200000 in
theorem zk_77 : zcw 77 ∈ lw_tbl := List.mem_of_getElem? (i := 673) rfl
set_option maxRecDepth 200000 in
theorem zd_78 : zt_X4_tankCount.all (zdc 78) = true := by decide +kernel
set_option maxRecDepth 200000 in
theorem zw_78 : zt_X4_tankCount.all (zwc 78) = true := by decide +kernel
set_option maxRecDepth 200000 in
theorem zm_78 : zmc 78 = true := by decide +kernel
set_option maxRecDepth 200000 in
theorem zk_78 : zcw 78 ∈ lw_tbl := List.mem_of_getElem? (i := 316) rfl
set_option maxRecDepth 200000 in
theorem zd_79 : zt_X4_capacity.all (zdc 79) = true := by decide +kernel
set_option maxRecDepth 200000 in
theorem zw_79 : zt_X4_capacity.all (zwc 79) = true := by decide +kernel
set_option maxRecDepth 200000 in
theorem zm_79 : zmc 79 = true := by decide +kernel
set_option maxRecDepth 200000 in
theorem zk_79 : zcw 79 ∈ lw_tbl := List.mem_of_getElem? (i := 1390) rfl
set_option maxRecDepth 200000 in
theorem zd_80 : zt_X4_content.all (zdc 80) = true := by decide +kernel
set_option maxRecDepth 200000 in
theorem zw_80 : zt_X4_content.all (zwc 80) = true := by decide +kernel
set_option maxRecDepth 200000 in
theorem zm_80 : zmc 80 = true := by decide +kernel
set_option maxRecDepth 200000 in
theorem zk_80 : zcw 80 ∈ lw_tbl := List.mem_of_getElem? (i := 649) rfl
set_option maxRecDepth 200000 in
theorem zd_81 : zt_X4_impurities.all (zdc 81) = true := by decide +kernel
set_option maxRecDepth 200000 in
theorem zw_81 : zt_X4_impurities.all (zwc 81) = true := by decide +kernel
set_option maxRecDepth 200000 in
theorem zm_81 : zmc 81 = true := by decide +kernel
set_option maxRecDepth 200000 in
theorem zk_81 : zcw 81 ∈ lw_tbl := List.mem_of_getElem? (i := 662) rfl
set_option maxRecDepth 200000 in
theorem zd_82 : zt_X4_hasImpurity.all (zdc 82) = true := by decide +kernel
set_option maxRecDepth 200000 in
theorem zw_82 : zt_X4_hasImpurity.all (zwc 82) = true := by decide +kernel
set_option maxRecDepth 200000 in
theorem zm_82 : zmc 82 = true := by decide +kernel
set_option maxRecDepth 200000 in
theorem zk_82 : zcw 82 ∈ lw_tbl := List.mem_of_getElem? (i := 1397) rfl
set_option maxRecDepth 200000 in
theorem zd_83 : zt_X4_tankByContent.all (zdc 83) = true := by decide +kernel
set_option maxRecDepth 200000 in
theorem zw_83 : zt_X4_tankByContent.all (zwc 83) = true := by decide +kernel
set_option maxRecDepth 200000 in
theorem zm_83 : zmc 83 = true := by decide +kernel
set_option maxRecDepth 200000 in
theorem zk_83 : zcw 83 ∈ lw_tbl := List.mem_of_getElem? (i := 1007) rfl
set_option maxRecDepth 200000 in
theorem zd_84 : zt_X4_tanksBefore.all (zdc 84) = true := by decide +kernel
set_option maxRecDepth 200000 in
theorem zw_84 : zt_X4_tanksBefore.all (zwc 84) = true := by decide +kernel
set_option maxRecDepth 200000 in
theorem zm_84 : zmc 84 = true := by decide +kernel
set_option maxRecDepth 200000 in
theorem zk_84 : zcw 84 ∈ lw_tbl := List.mem_of_getElem? (i := 1011) rfl
set_option maxRecDepth 200000 in
theorem zd_85 : zt_X4_fillShare.all (zdc 85) = true := by decide +kernel
set_option maxRecDepth 200000 in
theorem zw_85 : zt_X4_fillShare.all (zwc 85) = true := by decide +kernel
set_option maxRecDepth 200000 in
theorem zm_85 : zmc 85 = true := by decide +kernel
set_option maxRecDepth 200000 in
theorem zk_85 : zcw 85 ∈ lw_tbl := List.mem_of_getElem? (i := 996) rfl
set_option maxRecDepth 200000 in
theorem zd_86 : zt_X4_fillShareBits.all (zdc 86) = true := by decide +kernel
set_option maxRecDepth 200000 in
theorem zw_86 : zt_X4_fillShareBits.all (zwc 86) = true := by decide +kernel
set_option maxRecDepth 200000 in
theorem zm_86 : zmc 86 = true := by decide +kernel
set_option maxRecDepth 200000 in
theorem zk_86 : zcw 86 ∈ lw_tbl := List.mem_of_getElem? (i := 992) rfl
set_option maxRecDepth 200000 in
theorem zd_87 : zt_X4_pipeCount.all (zdc 87) = true := by decide +kernel
set_option maxRecDepth 200000 in
theorem zw_87 : zt_X4_pipeCount.all (zwc 87) = true := by decide +kernel
set_option maxRecDepth 200000 in
theorem zm_87 : zmc 87 = true := by decide +kernel
set_option maxRecDepth 200000 in
theorem zk_87 : zcw 87 ∈ lw_tbl := List.mem_of_getElem? (i := 320) rfl
set_option maxRecDepth 200000 in
theorem zd_88 : zt_X4_firstOf.all (zdc 88) = true := by decide +kernel
set_option maxRecDepth 200000 in
theorem zw_88 : zt_X4_firstOf.all (zwc 88) = true := by decide +kernel
set_option maxRecDepth 200000 in
theorem zm_88 : zmc 88 = true := by decide +kernel
set_option maxRecDepth 200000 in
theorem zk_88 : zcw 88 ∈ lw_tbl := List.mem_of_getElem? (i := 1440) rfl
set_option maxRecDepth 200000 in
theorem zd_89 : zt_X4_secondOf.all (zdc 89) = true := by decide +kernel
set_option maxRecDepth 200000 in
theorem zw_89 : zt_X4_secondOf.all (zwc 89) = true := by decide +kernel
set_option maxRecDepth 200000 in
theorem zm_89 : zmc 89 = true := by decide +kernel
set_option maxRecDepth 200000 in
theorem zk_89 : zcw 89 ∈ lw_tbl := List.mem_of_getElem? (i := 1447) rfl
set_option maxRecDepth 200000 in
theorem zd_90 : zt_X4_valve.all (zdc 90) = true := by decide +kernel
set_option maxRecDepth 200000 in
theorem zw_90 : zt_X4_valve.all (zwc 90) = true := by decide +kernel
set_option maxRecDepth 200000 in
theorem zm_90 : zmc 90 = true := by decide +kernel
set_option maxRecDepth 200000 in
theorem zk_90 : zcw 90 ∈ lw_tbl := List.mem_of_getElem? (i := 669) rfl
set_option maxRecDepth 200000 in
theorem zd_91 : zt_X4_leak.all (zdc 91) = true := by decide +kernel
set_option maxRecDepth 200000 in
theorem zw_91 : zt_X4_leak.all (zwc 91) = true := by decide +kernel
set_option maxRecDepth 200000 in
theorem zm_91 : zmc 91 = true := by decide +kernel
set_option maxRecDepth 200000 in
theorem zk_91 : zcw 91 ∈ lw_tbl := List.mem_of_getElem? (i := 682) rfl
set_option maxRecDepth 200000 in
theorem zd_92 : zt_X4_mesh.all (zdc 92) = true := by decide +kernel
set_option maxRecDepth 200000 in
theorem zw_92 : zt_X4_mesh.all (zwc 92) = true := by decide +kernel
set_option maxRecDepth 200000 in
theorem zm_92 : zmc 92 = true := by decide +kernel
set_option maxRecDepth 200000 in
theorem zk_92 : zcw 92 ∈ lw_tbl := List.mem_of_getElem? (i := 1345) rfl
set_option maxRecDepth 200000 in
theorem zd_93 : zt_X4_dirt.all (zdc 93) = true := by decide +kernel
set_option maxRecDepth 200000 in
theorem zw_93 : zt_X4_dirt.all (zwc 93) = true := by decide +kernel
set_option maxRecDepth 200000 in
theorem zm_93 : zmc 93 = true := by decide +kernel
set_option maxRecDepth 200000 in
theorem zk_93 : zcw 93 ∈ lw_tbl := List.mem_of_getElem? (i := 1454) rfl
set_option maxRecDepth 200000 in
theorem zd_94 : zt_X4_isOpen.all (zdc 94) = true := by decide +kernel
set_option maxRecDepth 200000 in
theorem zw_94 : zt_X4_isOpen.all (zwc 94) = true := by decide +kernel
set_option maxRecDepth 200000 in
theorem zm_94 : zmc 94 = true := by decide +kernel
set_option maxRecDepth 200000 in
theorem zk_94 : zcw 94 ∈ lw_tbl := List.mem_of_getElem? (i := 1461) rfl
set_option maxRecDepth 200000 in
theorem zd_95 : zt_X4_flow.all (zdc 95) = true := by decide +kernel
set_option maxRecDepth 200000 in
theorem zw_95 : zt_X4_flow.all (zwc 95) = true := by decide +kernel
set_option maxRecDepth 200000 in
theorem zm_95 : zmc 95 = true := by decide +kernel
set_option maxRecDepth 200000 in
theorem zk_95 : zcw 95 ∈ lw_tbl := List.mem_of_getElem? (i := 1322) rfl
set_option maxRecDepth 200000 in
theorem zd_96 : zt_X4_litresThrough.all (zdc 96) = true := by decide +kernel
set_option maxRecDepth 200000 in
theorem zw_96 : zt_X4_litresThrough.all (zwc 96) = true := by decide +kernel
set_option maxRecDepth 200000 in
theorem zm_96 : zmc 96 = true := by decide +kernel
set_option maxRecDepth 200000 in
theorem zk_96 : zcw 96 ∈ lw_tbl := List.mem_of_getElem? (i := 689) rfl
set_option maxRecDepth 200000 in
theorem zd_97 : zt_X4_pipeByDirt.all (zdc 97) = true := by decide +kernel
set_option maxRecDepth 200000 in
theorem zw_97 : zt_X4_pipeByDirt.all (zwc 97) = true := by decide +kernel
set_option maxRecDepth 200000 in
theorem zm_97 : zmc 97 = true := by decide +kernel
set_option maxRecDepth 200000 in
theorem zk_97 : zcw 97 ∈ lw_tbl := List.mem_of_getElem? (i := 1330) rfl
set_option maxRecDepth 200000 in
theorem zd_98 : zt_X4_pipesBefore.all (zdc 98) = true := by decide +kernel
set_option maxRecDepth 200000 in
theorem zw_98 : zt_X4_pipesBefore.all (zwc 98) = true := by decide +kernel
set_option maxRecDepth 200000 in
theorem zm_98 : zmc 98 = true := by decide +kernel
set_option maxRecDepth 200000 in
theorem zk_98 : zcw 98 ∈ lw_tbl := List.mem_of_getElem? (i := 1334) rfl
set_option maxRecDepth 200000 in
theorem zd_99 : zt_X4_areConnected.all (zdc 99) = true := by decide +kernel
set_option maxRecDepth 200000 in
theorem zw_99 : zt_X4_areConnected.all (zwc 99) = true := by decide +kernel
set_option maxRecDepth 200000 in
theorem zm_99 : zmc 99 = true := by decide +kernel
set_option maxRecDepth 200000 in
theorem zk_99 : zcw 99 ∈ lw_tbl := List.mem_of_getElem? (i := 1405) rfl
set_option maxRecDepth 200000 in
theorem zd_100 : zt_X4_groupCount.all (zdc 100) = true := by decide +kernel
set_option maxRecDepth 200000 in
theorem zw_100 : zt_X4_groupCount.all (zwc 100) = true := by decide +kernel
set_option maxRecDepth 200000 in
theorem zm_100 : zmc 100 = true := by decide +kernel
set_option maxRecDepth 200000 in
theorem zk_100 : zcw 100 ∈ lw_tbl := List.mem_of_getElem? (i := 951) rfl
set_option maxRecDepth 200000 in
theorem zd_101 : zt_X4_isBridge.all (zdc 101) = true := by decide +kernel
set_option maxRecDepth 200000 in
theorem zw_101 : zt_X4_isBridge.all (zwc 101) = true := by decide +kernel
set_option maxRecDepth 200000 in
theorem zm_101 : zmc 101 = true := by decide +kernel
set_option maxRecDepth 200000 in
theorem zk_101 : zcw 101 ∈ lw_tbl := List.mem_of_getElem? (i := 1469) rfl
set_option maxRecDepth 200000 in
theorem zd_102 : zt_X4_bridgeCount.all (zdc 102) = true := by decide +kernel
set_option maxRecDepth 200000 in
theorem zw_102 : zt_X4_bridgeCount.all (zwc 102) = true := by decide +kernel
set_option maxRecDepth 200000 in
theorem zm_102 : zmc 102 = true := by decide +kernel
set_option maxRecDepth 200000 in
theorem zk_102 : zcw 102 ∈ lw_tbl := List.mem_of_getElem? (i := 971) rfl
set_option maxRecDepth 200000 in
theorem zd_103 : zt_X4_width.all (zdc 103) = true := by decide +kernel
set_option maxRecDepth 200000 in
theorem zw_103 : zt_X4_width.all (zwc 103) = true := by decide +kernel
set_option maxRecDepth 200000 in
theorem zm_103 : zmc 103 = true := by decide +kernel
set_option maxRecDepth 200000 in
theorem zk_103 : zcw 103 ∈ lw_tbl := List.mem_of_getElem? (i := 1476) rfl
set_option maxRecDepth 200000 in
theorem zd_104 : zt_X4_widthBySettings.all (zdc 104) = true := by decide +kernel
set_option maxRecDepth 200000 in
theorem zw_104 : zt_X4_widthBySettings.all (zwc 104) = true := by decide +kernel
set_option maxRecDepth 200000 in
theorem zm_104 : zmc 104 = true := by decide +kernel
set_option maxRecDepth 200000 in
theorem zk_104 : zcw 104 ∈ lw_tbl := List.mem_of_getElem? (i := 1496) rfl
set_option maxRecDepth 200000 in
theorem zd_105 : zt_X4_cleanest.all (zdc 105) = true := by decide +kernel
set_option maxRecDepth 200000 in
theorem zw_105 : zt_X4_cleanest.all (zwc 105) = true := by decide +kernel
set_option maxRecDepth 200000 in
theorem zm_105 : zmc 105 = true := by decide +kernel
set_option maxRecDepth 200000 in
theorem zk_105 : zcw 105 ∈ lw_tbl := List.mem_of_getElem? (i := 1023) rfl
set_option maxRecDepth 200000 in
theorem zd_106 : zt_X4_cleanestByPasses.all (zdc 106) = true := by decide +kernel
set_option maxRecDepth 200000 in
theorem zw_106 : zt_X4_cleanestByPasses.all (zwc 106) = true := by decide +kernel
set_option maxRecDepth 200000 in
theorem zm_106 : zmc 106 = true := by decide +kernel
set_option maxRecDepth 200000 in
theorem zk_106 : zcw 106 ∈ lw_tbl := List.mem_of_getElem? (i := 1412) rfl
set_option maxRecDepth 200000 in
theorem zd_107 : zt_X4_needConnection.all (zdc 107) = true := by decide +kernel
set_option maxRecDepth 200000 in
theorem zw_107 : zt_X4_needConnection.all (zwc 107) = true := by decide +kernel
set_option maxRecDepth 200000 in
theorem zm_107 : zmc 107 = true := by decide +kernel
set_option maxRecDepth 200000 in
theorem zk_107 : zcw 107 ∈ lw_tbl := List.mem_of_getElem? (i := 1027) rfl
set_option maxRecDepth 200000 in
theorem zd_108 : zt_X4_time.all (zdc 108) = true := by decide +kernel
set_option maxRecDepth 200000 in
theorem zw_108 : zt_X4_time.all (zwc 108) = true := by decide +kernel
set_option maxRecDepth 200000 in
theorem zm_108 : zmc 108 = true := by decide +kernel
set_option maxRecDepth 200000 in
theorem zk_108 : zcw 108 ∈ lw_tbl := List.mem_of_getElem? (i := 324) rfl
set_option maxRecDepth 200000 in
theorem zd_109 : zt_X4_pouredTotal.all (zdc 109) = true := by decide +kernel
set_option maxRecDepth 200000 in
theorem zw_109 : zt_X4_pouredTotal.all (zwc 109) = true := by decide +kernel
set_option maxRecDepth 200000 in
theorem zm_109 : zmc 109 = true := by decide +kernel
set_option maxRecDepth 200000 in
theorem zk_109 : zcw 109 ∈ lw_tbl := List.mem_of_getElem? (i := 328) rfl
set_option maxRecDepth 200000 in
theorem zd_110 : zt_X4_drawnTotal.all (zdc 110) = true := by decide +kernel
set_option maxRecDepth 200000 in
theorem zw_110 : zt_X4_drawnTotal.all (zwc 110) = true := by decide +kernel
set_option maxRecDepth 200000 in
theorem zm_110 : zmc 110 = true := by decide +kernel
set_option maxRecDepth 200000 in
theorem zk_110 : zcw 110 ∈ lw_tbl := List.mem_of_getElem? (i := 947) rfl
set_option maxRecDepth 200000 in
theorem zd_111 : zt_X4_spilledTotal.all (zdc 111) = true := by decide +kernel
set_option maxRecDepth 200000 in
theorem zw_111 : zt_X4_spilledTotal.all (zwc 111) = true := by decide +kernel
set_option maxRecDepth 200000 in
theorem zm_111 : zmc 111 = true := by decide +kernel
set_option maxRecDepth 200000 in
theorem zk_111 : zcw 111 ∈ lw_tbl := List.mem_of_getElem? (i := 332) rfl
set_option maxRecDepth 200000 in
theorem zd_112 : zt_X4_meanContent.all (zdc 112) = true := by decide +kernel
set_option maxRecDepth 200000 in
theorem zw_112 : zt_X4_meanContent.all (zwc 112) = true := by decide +kernel
set_option maxRecDepth 200000 in
theorem zm_112 : zmc 112 = true := by decide +kernel
set_option maxRecDepth 200000 in
theorem zk_112 : zcw 112 ∈ lw_tbl := List.mem_of_getElem? (i := 913) rfl
set_option maxRecDepth 200000 in
theorem zd_113 : zt_X4_meanContentBits.all (zdc 113) = true := by decide +kernel
set_option maxRecDepth 200000 in
theorem zw_113 : zt_X4_meanContentBits.all (zwc 113) = true := by decide +kernel
set_option maxRecDepth 200000 in
theorem zm_113 : zmc 113 = true := by decide +kernel
set_option maxRecDepth 200000 in
theorem zk_113 : zcw 113 ∈ lw_tbl := List.mem_of_getElem? (i := 909) rfl
set_option maxRecDepth 200000 in
theorem zd_114 : zt_X4_fingerprint.all (zdc 114) = true := by decide +kernel
set_option maxRecDepth 200000 in
theorem zw_114 : zt_X4_fingerprint.all (zwc 114) = true := by decide +kernel
set_option maxRecDepth 200000 in
theorem zm_114 : zmc 114 = true := by decide +kernel
set_option maxRecDepth 200000 in
theorem zk_114 : zcw 114 ∈ lw_tbl := List.mem_of_getElem? (i := 930) rfl
end
section
set_option maxRecDepth 200000 in
theorem zd_115 : zt_X4_renderTank.all (zdc 115) = true := by decide +kernel
set_option maxRecDepth 200000 in
theorem zw_115 : zt_X4_renderTank.all (zwc 115) = true := by decide +kernel
set_option maxRecDepth 200000 in
theorem zm_115 : zmc 115 = true := by decide +kernel
set_option maxRecDepth 200000 in
theorem zk_115 : zcw 115 ∈ lw_tbl := List.mem_of_getElem? (i := 1048) rfl
set_option maxRecDepth 200000 in
theorem zd_116 : zt_X4_appendLetters.all (zdc 116) = true := by decide +kernel
set_option maxRecDepth 200000 in
theorem zw_116 : zt_X4_appendLetters.all (zwc 116) = true := by decide +kernel
set_option maxRecDepth 200000 in
theorem zm_116 : zmc 116 = true := by decide +kernel
set_option maxRecDepth 200000 in
theorem zk_116 : zcw 116 ∈ lw_tbl := List.mem_of_getElem? (i := 1295) rfl
set_option maxRecDepth 200000 in
theorem zd_117_0 : ((zt_X4_renderPipe.drop 0).take 40).all (zdc 117) = true := by decide +kernel
set_option maxRecDepth 200000 in
theorem zd_117_1 : ((zt_X4_renderPipe.drop 40).take 40).all (zdc 117) = true := by decide +kernel
set_option maxRecDepth 200000 in
theorem zd_117 : zt_X4_renderPipe.all (zdc 117) = true := zall_0 (zall_st (j := 0) zd_117_0 (zall_st (j := 40) zd_117_1 (zall_nil (by decide +kernel : (zt_X4_renderPipe.drop 80) = []))))
set_option maxRecDepth 200000 in
theorem zw_117 : zt_X4_renderPipe.all (zwc 117) = true := by decide +kernel
set_option maxRecDepth 200000 in
theorem zm_117 : zmc 117 = true := by decide +kernel
set_option maxRecDepth 200000 in
theorem zk_117 : zcw 117 ∈ lw_tbl := List.mem_of_getElem? (i := 1352) rfl
set_option maxRecDepth 200000 in
theorem zd_118 : zt_X4_outputAt.all (zdc 118) = true := by decide +kernel
set_option maxRecDepth 200000 in
theorem zw_118 : zt_X4_outputAt.all (zwc 118) = true := by decide +kernel
set_option maxRecDepth 200000 in
theorem zm_118 : zmc 118 = true := by decide +kernel
set_option maxRecDepth 200000 in
theorem zk_118 : zcw 118 ∈ lw_tbl := List.mem_of_getElem? (i := 1304) rfl
set_option maxRecDepth 200000 in
theorem zd_119 : zt_X4_type.all (zdc 119) = true := by decide +kernel
set_option maxRecDepth 200000 in
theorem zw_119 : zt_X4_type.all (zwc 119) = true := by decide +kernel
set_option maxRecDepth 200000 in
theorem zm_119 : zmc 119 = true := by decide +kernel
set_option maxRecDepth 200000 in
theorem zk_119 : zcw 119 ∈ lw_tbl := List.mem_of_getElem? (i := 696) rfl
set_option maxRecDepth 200000 in
theorem zd_120 : zt_X4_runScript.all (zdc 120) = true := by decide +kernel
set_option maxRecDepth 200000 in
theorem zw_120 : zt_X4_runScript.all (zwc 120) = true := by decide +kernel
set_option maxRecDepth 200000 in
theorem zm_120 : zmc 120 = true := by decide +kernel
set_option maxRecDepth 200000 in
theorem zk_120 : zcw 120 ∈ lw_tbl := List.mem_of_getElem? (i := 713) rfl
set_option maxRecDepth 200000 in
theorem zd_121 : zt_X4_performed.all (zdc 121) = true := by decide +kernel
set_option maxRecDepth 200000 in
theorem zw_121 : zt_X4_performed.all (zwc 121) = true := by decide +kernel
set_option maxRecDepth 200000 in
theorem zm_121 : zmc 121 = true := by decide +kernel
set_option maxRecDepth 200000 in
theorem zk_121 : zcw 121 ∈ lw_tbl := List.mem_of_getElem? (i := 829) rfl
set_option maxRecDepth 200000 in
theorem zd_122 : zt_X4_errorPosition.all (zdc 122) = true := by decide +kernel
set_option maxRecDepth 200000 in
theorem zw_122 : zt_X4_errorPosition.all (zwc 122) = true := by decide +kernel
set_option maxRecDepth 200000 in
theorem zm_122 : zmc 122 = true := by decide +kernel
set_option maxRecDepth 200000 in
theorem zk_122 : zcw 122 ∈ lw_tbl := List.mem_of_getElem? (i := 842) rfl
set_option maxRecDepth 200000 in
theorem zd_123 : zt_X4_failedCommand.all (zdc 123) = true := by decide +kernel
set_option maxRecDepth 200000 in
theorem zw_123 : zt_X4_failedCommand.all (zwc 123) = true := by decide +kernel
set_option maxRecDepth 200000 in
theorem zm_123 : zmc 123 = true := by decide +kernel
set_option maxRecDepth 200000 in
theorem zk_123 : zcw 123 ∈ lw_tbl := List.mem_of_getElem? (i := 1509) rfl
set_option maxRecDepth 200000 in
theorem zd_124 : zt_X4_undo.all (zdc 124) = true := by decide +kernel
set_option maxRecDepth 200000 in
theorem zw_124 : zt_X4_undo.all (zwc 124) = true := by decide +kernel
set_option maxRecDepth 200000 in
theorem zm_124 : zmc 124 = true := by decide +kernel
set_option maxRecDepth 200000 in
theorem zk_124 : zcw 124 ∈ lw_tbl := List.mem_of_getElem? (i := 865) rfl
set_option maxRecDepth 200000 in
theorem zd_125 : zt_X4_save.all (zdc 125) = true := by decide +kernel
set_option maxRecDepth 200000 in
theorem zw_125 : zt_X4_save.all (zwc 125) = true := by decide +kernel
set_option maxRecDepth 200000 in
theorem zm_125 : zmc 125 = true := by decide +kernel
set_option maxRecDepth 200000 in
theorem zk_125 : zcw 125 ∈ lw_tbl := List.mem_of_getElem? (i := 336) rfl
set_option maxRecDepth 200000 in
theorem zd_126 : zt_X4_restore.all (zdc 126) = true := by decide +kernel
set_option maxRecDepth 200000 in
theorem zw_126 : zt_X4_restore.all (zwc 126) = true := by decide +kernel
set_option maxRecDepth 200000 in
theorem zm_126 : zmc 126 = true := by decide +kernel
set_option maxRecDepth 200000 in
theorem zk_126 : zcw 126 ∈ lw_tbl := List.mem_of_getElem? (i := 877) rfl
set_option maxRecDepth 200000 in
theorem zd_127 : zt_X4_contains.all (zdc 127) = true := by decide +kernel
set_option maxRecDepth 200000 in
theorem zw_127 : zt_X4_contains.all (zwc 127) = true := by decide +kernel
set_option maxRecDepth 200000 in
theorem zm_127 : zmc 127 = true := by decide +kernel
set_option maxRecDepth 200000 in
theorem zk_127 : zcw 127 ∈ lw_tbl := List.mem_of_getElem? (i := 958) rfl
set_option maxRecDepth 200000 in
theorem zd_128 : zt_X4_bitsOfFloat.all (zdc 128) = true := by decide +kernel
set_option maxRecDepth 200000 in
theorem zw_128 : zt_X4_bitsOfFloat.all (zwc 128) = true := by decide +kernel
set_option maxRecDepth 200000 in
theorem zm_128 : zmc 128 = true := by decide +kernel
set_option maxRecDepth 200000 in
theorem zk_128 : zcw 128 ∈ lw_tbl := List.mem_of_getElem? (i := 999) rfl
set_option maxRecDepth 200000 in
theorem zd_129 : zt_X4_bitsOfDouble.all (zdc 129) = true := by decide +kernel
set_option maxRecDepth 200000 in
theorem zw_129 : zt_X4_bitsOfDouble.all (zwc 129) = true := by decide +kernel
set_option maxRecDepth 200000 in
theorem zm_129 : zmc 129 = true := by decide +kernel
set_option maxRecDepth 200000 in
theorem zk_129 : zcw 129 ∈ lw_tbl := List.mem_of_getElem? (i := 923) rfl
set_option maxRecDepth 200000 in
theorem zd_130 : zt_L_at.all (zdc 130) = true := by decide +kernel
set_option maxRecDepth 200000 in
theorem zw_130 : zt_L_at.all (zwc 130) = true := by decide +kernel
set_option maxRecDepth 200000 in
theorem zm_130 : zmc 130 = true := by decide +kernel
set_option maxRecDepth 200000 in
theorem zk_130 : zcw 130 ∈ lw_tbl := List.mem_of_getElem? (i := 346) rfl
set_option maxRecDepth 200000 in
theorem zd_131 : zt_L_some.all (zdc 131) = true := by decide +kernel
set_option maxRecDepth 200000 in
theorem zw_131 : zt_L_some.all (zwc 131) = true := by decide +kernel
set_option maxRecDepth 200000 in
theorem zm_131 : zmc 131 = true := by decide +kernel
set_option maxRecDepth 200000 in
theorem zk_131 : zcw 131 ∈ lw_tbl := List.mem_of_getElem? (i := 884) rfl
set_option maxRecDepth 200000 in
theorem zd_132 : zt_L_addTank.all (zdc 132) = true := by decide +kernel
set_option maxRecDepth 200000 in
theorem zw_132 : zt_L_addTank.all (zwc 132) = true := by decide +kernel
set_option maxRecDepth 200000 in
theorem zm_132 : zmc 132 = true := by decide +kernel
set_option maxRecDepth 200000 in
theorem zk_132 : zcw 132 ∈ lw_tbl := List.mem_of_getElem? (i := 349) rfl
set_option maxRecDepth 200000 in
theorem zd_133 : zt_L_addPipe.all (zdc 133) = true := by decide +kernel
set_option maxRecDepth 200000 in
theorem zw_133 : zt_L_addPipe.all (zwc 133) = true := by decide +kernel
set_option maxRecDepth 200000 in
theorem zm_133 : zmc 133 = true := by decide +kernel
set_option maxRecDepth 200000 in
theorem zk_133 : zcw 133 ∈ lw_tbl := List.mem_of_getElem? (i := 581) rfl
set_option maxRecDepth 200000 in
theorem zd_134 : zt_L_pour.all (zdc 134) = true := by decide +kernel
set_option maxRecDepth 200000 in
theorem zw_134 : zt_L_pour.all (zwc 134) = true := by decide +kernel
set_option maxRecDepth 200000 in
theorem zm_134 : zmc 134 = true := by decide +kernel
set_option maxRecDepth 200000 in
theorem zk_134 : zcw 134 ∈ lw_tbl := List.mem_of_getElem? (i := 609) rfl
set_option maxRecDepth 200000 in
theorem zd_135 : zt_L_draw.all (zdc 135) = true := by decide +kernel
set_option maxRecDepth 200000 in
theorem zw_135 : zt_L_draw.all (zwc 135) = true := by decide +kernel
set_option maxRecDepth 200000 in
theorem zm_135 : zmc 135 = true := by decide +kernel
set_option maxRecDepth 200000 in
theorem zk_135 : zcw 135 ∈ lw_tbl := List.mem_of_getElem? (i := 617) rfl
set_option maxRecDepth 200000 in
theorem zd_136 : zt_L_setValve.all (zdc 136) = true := by decide +kernel
set_option maxRecDepth 200000 in
theorem zw_136 : zt_L_setValve.all (zwc 136) = true := by decide +kernel
set_option maxRecDepth 200000 in
theorem zm_136 : zmc 136 = true := by decide +kernel
set_option maxRecDepth 200000 in
theorem zk_136 : zcw 136 ∈ lw_tbl := List.mem_of_getElem? (i := 624) rfl
set_option maxRecDepth 200000 in
theorem zd_137 : zt_L_setLeak.all (zdc 137) = true := by decide +kernel
set_option maxRecDepth 200000 in
theorem zw_137 : zt_L_setLeak.all (zwc 137) = true := by decide +kernel
set_option maxRecDepth 200000 in
theorem zm_137 : zmc 137 = true := by decide +kernel
set_option maxRecDepth 200000 in
theorem zk_137 : zcw 137 ∈ lw_tbl := List.mem_of_getElem? (i := 631) rfl
set_option maxRecDepth 200000 in
theorem zd_138 : zt_L_cleanFilter.all (zdc 138) = true := by decide +kernel
set_option maxRecDepth 200000 in
theorem zw_138 : zt_L_cleanFilter.all (zwc 138) = true := by decide +kernel
set_option maxRecDepth 200000 in
theorem zm_138 : zmc 138 = true := by decide +kernel
set_option maxRecDepth 200000 in
theorem zk_138 : zcw 138 ∈ lw_tbl := List.mem_of_getElem? (i := 1362) rfl
set_option maxRecDepth 200000 in
theorem zd_139 : zt_L_advance.all (zdc 139) = true := by decide +kernel
set_option maxRecDepth 200000 in
theorem zw_139 : zt_L_advance.all (zwc 139) = true := by decide +kernel
set_option maxRecDepth 200000 in
theorem zm_139 : zmc 139 = true := by decide +kernel
set_option maxRecDepth 200000 in
theorem zk_139 : zcw 139 ∈ lw_tbl := List.mem_of_getElem? (i := 638) rfl
set_option maxRecDepth 200000 in
theorem zd_140 : zt_L_capacity.all (zdc 140) = true := by decide +kernel
set_option maxRecDepth 200000 in
theorem zw_140 : zt_L_capacity.all (zwc 140) = true := by decide +kernel
set_option maxRecDepth 200000 in
theorem zm_140 : zmc 140 = true := by decide +kernel
set_option maxRecDepth 200000 in
theorem zk_140 : zcw 140 ∈ lw_tbl := List.mem_of_getElem? (i := 1386) rfl
set_option maxRecDepth 200000 in
theorem zd_141 : zt_L_content.all (zdc 141) = true := by decide +kernel
set_option maxRecDepth 200000 in
theorem zw_141 : zt_L_content.all (zwc 141) = true := by decide +kernel
set_option maxRecDepth 200000 in
theorem zm_141 : zmc 141 = true := by decide +kernel
set_option maxRecDepth 200000 in
theorem zk_141 : zcw 141 ∈ lw_tbl := List.mem_of_getElem? (i := 645) rfl
set_option maxRecDepth 200000 in
theorem zd_142 : zt_L_impurities.all (zdc 142) = true := by decide +kernel
set_option maxRecDepth 200000 in
theorem zw_142 : zt_L_impurities.all (zwc 142) = true := by decide +kernel
set_option maxRecDepth 200000 in
theorem zm_142 : zmc 142 = true := by decide +kernel
set_option maxRecDepth 200000 in
theorem zk_142 : zcw 142 ∈ lw_tbl := List.mem_of_getElem? (i := 658) rfl
set_option maxRecDepth 200000 in
theorem zd_143 : zt_L_has.all (zdc 143) = true := by decide +kernel
set_option maxRecDepth 200000 in
theorem zw_143 : zt_L_has.all (zwc 143) = true := by decide +kernel
set_option maxRecDepth 200000 in
theorem zm_143 : zmc 143 = true := by decide +kernel
set_option maxRecDepth 200000 in
theorem zk_143 : zcw 143 ∈ lw_tbl := List.mem_of_getElem? (i := 1393) rfl
set_option maxRecDepth 200000 in
theorem zd_144 : zt_L_byContent.all (zdc 144) = true := by decide +kernel
set_option maxRecDepth 200000 in
theorem zw_144 : zt_L_byContent.all (zwc 144) = true := by decide +kernel
set_option maxRecDepth 200000 in
theorem zm_144 : zmc 144 = true := by decide +kernel
set_option maxRecDepth 200000 in
theorem zk_144 : zcw 144 ∈ lw_tbl := List.mem_of_getElem? (i := 1003) rfl
set_option maxRecDepth 200000 in
theorem zd_145 : zt_L_fillShare.all (zdc 145) = true := by decide +kernel
set_option maxRecDepth 200000 in
theorem zw_145 : zt_L_fillShare.all (zwc 145) = true := by decide +kernel
set_option maxRecDepth 200000 in
theorem zm_145 : zmc 145 = true := by decide +kernel
set_option maxRecDepth 200000 in
theorem zk_145 : zcw 145 ∈ lw_tbl := List.mem_of_getElem? (i := 1431) rfl
set_option maxRecDepth 200000 in
theorem zd_146 : zt_L_fillBits.all (zdc 146) = true := by decide +kernel
set_option maxRecDepth 200000 in
theorem zw_146 : zt_L_fillBits.all (zwc 146) = true := by decide +kernel
set_option maxRecDepth 200000 in
theorem zm_146 : zmc 146 = true := by decide +kernel
set_option maxRecDepth 200000 in
theorem zk_146 : zcw 146 ∈ lw_tbl := List.mem_of_getElem? (i := 988) rfl
set_option maxRecDepth 200000 in
theorem zd_147 : zt_L_firstOf.all (zdc 147) = true := by decide +kernel
set_option maxRecDepth 200000 in
theorem zw_147 : zt_L_firstOf.all (zwc 147) = true := by decide +kernel
set_option maxRecDepth 200000 in
theorem zm_147 : zmc 147 = true := by decide +kernel
set_option maxRecDepth 200000 in
theorem zk_147 : zcw 147 ∈ lw_tbl := List.mem_of_getElem? (i := 1436) rfl
set_option maxRecDepth 200000 in
theorem zd_148 : zt_L_secondOf.all (zdc 148) = true := by decide +kernel
set_option maxRecDepth 200000 in
theorem zw_148 : zt_L_secondOf.all (zwc 148) = true := by decide +kernel
set_option maxRecDepth 200000 in
theorem zm_148 : zmc 148 = true := by decide +kernel
set_option maxRecDepth 200000 in
theorem zk_148 : zcw 148 ∈ lw_tbl := List.mem_of_getElem? (i := 1443) rfl
set_option maxRecDepth 200000 in
theorem zd_149 : zt_L_valve.all (zdc 149) = true := by decide +kernel
set_option maxRecDepth 200000 in
theorem zw_149 : zt_L_valve.all (zwc 149) = true := by decide +kernel
set_option maxRecDepth 200000 in
theorem zm_149 : zmc 149 = true := by decide +kernel
set_option maxRecDepth 200000 in
theorem zk_149 : zcw 149 ∈ lw_tbl := List.mem_of_getElem? (i := 665) rfl
set_option maxRecDepth 200000 in
theorem zd_150 : zt_L_leak.all (zdc 150) = true := by decide +kernel
set_option maxRecDepth 200000 in
theorem zw_150 : zt_L_leak.all (zwc 150) = true := by decide +kernel
set_option maxRecDepth 200000 in
theorem zm_150 : zmc 150 = true := by decide +kernel
set_option maxRecDepth 200000 in
theorem zk_150 : zcw 150 ∈ lw_tbl := List.mem_of_getElem? (i := 678) rfl
set_option maxRecDepth 200000 in
theorem zd_151 : zt_L_mesh.all (zdc 151) = true := by decide +kernel
set_option maxRecDepth 200000 in
theorem zw_151 : zt_L_mesh.all (zwc 151) = true := by decide +kernel
set_option maxRecDepth 200000 in
theorem zm_151 : zmc 151 = true := by decide +kernel
set_option maxRecDepth 200000 in
theorem zk_151 : zcw 151 ∈ lw_tbl := List.mem_of_getElem? (i := 1341) rfl
set_option maxRecDepth 200000 in
theorem zd_152 : zt_L_dirt.all (zdc 152) = true := by decide +kernel
set_option maxRecDepth 200000 in
theorem zw_152 : zt_L_dirt.all (zwc 152) = true := by decide +kernel
set_option maxRecDepth 200000 in
theorem zm_152 : zmc 152 = true := by decide +kernel
set_option maxRecDepth 200000 in
theorem zk_152 : zcw 152 ∈ lw_tbl := List.mem_of_getElem? (i := 1450) rfl
set_option maxRecDepth 200000 in
theorem zd_153 : zt_L_isOpen.all (zdc 153) = true := by decide +kernel
set_option maxRecDepth 200000 in
theorem zw_153 : zt_L_isOpen.all (zwc 153) = true := by decide +kernel
set_option maxRecDepth 200000 in
theorem zm_153 : zmc 153 = true := by decide +kernel
set_option maxRecDepth 200000 in
theorem zk_153 : zcw 153 ∈ lw_tbl := List.mem_of_getElem? (i := 1457) rfl
set_option maxRecDepth 200000 in
theorem zd_154 : zt_L_flow.all (zdc 154) = true := by decide +kernel
set_option maxRecDepth 200000 in
theorem zw_154 : zt_L_flow.all (zwc 154) = true := by decide +kernel
set_option maxRecDepth 200000 in
theorem zm_154 : zmc 154 = true := by decide +kernel
set_option maxRecDepth 200000 in
theorem zk_154 : zcw 154 ∈ lw_tbl := List.mem_of_getElem? (i := 1318) rfl
set_option maxRecDepth 200000 in
theorem zd_155 : zt_L_litres.all (zdc 155) = true := by decide +kernel
set_option maxRecDepth 200000 in
theorem zw_155 : zt_L_litres.all (zwc 155) = true := by decide +kernel
set_option maxRecDepth 200000 in
theorem zm_155 : zmc 155 = true := by decide +kernel
set_option maxRecDepth 200000 in
theorem zk_155 : zcw 155 ∈ lw_tbl := List.mem_of_getElem? (i := 685) rfl
set_option maxRecDepth 200000 in
theorem zd_156 : zt_L_byDirt.all (zdc 156) = true := by decide +kernel
set_option maxRecDepth 200000 in
theorem zw_156 : zt_L_byDirt.all (zwc 156) = true := by decide +kernel
set_option maxRecDepth 200000 in
theorem zm_156 : zmc 156 = true := by decide +kernel
set_option maxRecDepth 200000 in
theorem zk_156 : zcw 156 ∈ lw_tbl := List.mem_of_getElem? (i := 1326) rfl
set_option maxRecDepth 200000 in
theorem zd_157 : zt_L_connected.all (zdc 157) = true := by decide +kernel
set_option maxRecDepth 200000 in
theorem zw_157 : zt_L_connected.all (zwc 157) = true := by decide +kernel
set_option maxRecDepth 200000 in
theorem zm_157 : zmc 157 = true := by decide +kernel
set_option maxRecDepth 200000 in
theorem zk_157 : zcw 157 ∈ lw_tbl := List.mem_of_getElem? (i := 1401) rfl
set_option maxRecDepth 200000 in
theorem zd_158 : zt_L_isBridge.all (zdc 158) = true := by decide +kernel
set_option maxRecDepth 200000 in
theorem zw_158 : zt_L_isBridge.all (zwc 158) = true := by decide +kernel
set_option maxRecDepth 200000 in
theorem zm_158 : zmc 158 = true := by decide +kernel
set_option maxRecDepth 200000 in
theorem zk_158 : zcw 158 ∈ lw_tbl := List.mem_of_getElem? (i := 1465) rfl
set_option maxRecDepth 200000 in
theorem zd_159 : zt_L_width.all (zdc 159) = true := by decide +kernel
set_option maxRecDepth 200000 in
theorem zw_159 : zt_L_width.all (zwc 159) = true := by decide +kernel
set_option maxRecDepth 200000 in
theorem zm_159 : zmc 159 = true := by decide +kernel
set_option maxRecDepth 200000 in
theorem zk_159 : zcw 159 ∈ lw_tbl := List.mem_of_getElem? (i := 1472) rfl
set_option maxRecDepth 200000 in
theorem zd_160 : zt_L_bySettings.all (zdc 160) = true := by decide +kernel
set_option maxRecDepth 200000 in
theorem zw_160 : zt_L_bySettings.all (zwc 160) = true := by decide +kernel
set_option maxRecDepth 200000 in
theorem zm_160 : zmc 160 = true := by decide +kernel
set_option maxRecDepth 200000 in
theorem zk_160 : zcw 160 ∈ lw_tbl := List.mem_of_getElem? (i := 1492) rfl
set_option maxRecDepth 200000 in
theorem zd_161 : zt_L_cleanest.all (zdc 161) = true := by decide +kernel
set_option maxRecDepth 200000 in
theorem zw_161 : zt_L_cleanest.all (zwc 161) = true := by decide +kernel
set_option maxRecDepth 200000 in
theorem zm_161 : zmc 161 = true := by decide +kernel
set_option maxRecDepth 200000 in
theorem zk_161 : zcw 161 ∈ lw_tbl := List.mem_of_getElem? (i := 1019) rfl
set_option maxRecDepth 200000 in
theorem zd_162 : zt_L_byPasses.all (zdc 162) = true := by decide +kernel
set_option maxRecDepth 200000 in
theorem zw_162 : zt_L_byPasses.all (zwc 162) = true := by decide +kernel
set_option maxRecDepth 200000 in
theorem zm_162 : zmc 162 = true := by decide +kernel
set_option maxRecDepth 200000 in
theorem zk_162 : zcw 162 ∈ lw_tbl := List.mem_of_getElem? (i := 1408) rfl
set_option maxRecDepth 200000 in
theorem zd_163 : zt_L_meanBits.all (zdc 163) = true := by decide +kernel
set_option maxRecDepth 200000 in
theorem zw_163 : zt_L_meanBits.all (zwc 163) = true := by decide +kernel
set_option maxRecDepth 200000 in
theorem zm_163 : zmc 163 = true := by decide +kernel
set_option maxRecDepth 200000 in
theorem zk_163 : zcw 163 ∈ lw_tbl := List.mem_of_getElem? (i := 891) rfl
set_option maxRecDepth 200000 in
theorem zd_164 : zt_L_renderTank.all (zdc 164) = true := by decide +kernel
set_option maxRecDepth 200000 in
theorem zw_164 : zt_L_renderTank.all (zwc 164) = true := by decide +kernel
set_option maxRecDepth 200000 in
theorem zm_164 : zmc 164 = true := by decide +kernel
set_option maxRecDepth 200000 in
theorem zk_164 : zcw 164 ∈ lw_tbl := List.mem_of_getElem? (i := 1044) rfl
set_option maxRecDepth 200000 in
theorem zd_165 : zt_L_renderPipe.all (zdc 165) = true := by decide +kernel
set_option maxRecDepth 200000 in
theorem zw_165 : zt_L_renderPipe.all (zwc 165) = true := by decide +kernel
set_option maxRecDepth 200000 in
theorem zm_165 : zmc 165 = true := by decide +kernel
set_option maxRecDepth 200000 in
theorem zk_165 : zcw 165 ∈ lw_tbl := List.mem_of_getElem? (i := 1348) rfl
set_option maxRecDepth 200000 in
theorem zd_166 : zt_L_outputAt.all (zdc 166) = true := by decide +kernel
set_option maxRecDepth 200000 in
theorem zw_166 : zt_L_outputAt.all (zwc 166) = true := by decide +kernel
set_option maxRecDepth 200000 in
theorem zm_166 : zmc 166 = true := by decide +kernel
set_option maxRecDepth 200000 in
theorem zk_166 : zcw 166 ∈ lw_tbl := List.mem_of_getElem? (i := 1300) rfl
set_option maxRecDepth 200000 in
theorem zd_167 : zt_L_type.all (zdc 167) = true := by decide +kernel
set_option maxRecDepth 200000 in
theorem zw_167 : zt_L_type.all (zwc 167) = true := by decide +kernel
set_option maxRecDepth 200000 in
theorem zm_167 : zmc 167 = true := by decide +kernel
set_option maxRecDepth 200000 in
theorem zk_167 : zcw 167 ∈ lw_tbl := List.mem_of_getElem? (i := 692) rfl
set_option maxRecDepth 200000 in
theorem zd_168 : zt_L_run.all (zdc 168) = true := by decide +kernel
set_option maxRecDepth 200000 in
theorem zw_168 : zt_L_run.all (zwc 168) = true := by decide +kernel
set_option maxRecDepth 200000 in
theorem zm_168 : zmc 168 = true := by decide +kernel
set_option maxRecDepth 200000 in
theorem zk_168 : zcw 168 ∈ lw_tbl := List.mem_of_getElem? (i := 709) rfl
set_option maxRecDepth 200000 in
theorem zd_169 : zt_L_errorPosition.all (zdc 169) = true := by decide +kernel
set_option maxRecDepth 200000 in
theorem zw_169 : zt_L_errorPosition.all (zwc 169) = true := by decide +kernel
set_option maxRecDepth 200000 in
theorem zm_169 : zmc 169 = true := by decide +kernel
set_option maxRecDepth 200000 in
theorem zk_169 : zcw 169 ∈ lw_tbl := List.mem_of_getElem? (i := 837) rfl
set_option maxRecDepth 200000 in
theorem zd_170 : zt_L_failedCommand.all (zdc 170) = true := by decide +kernel
set_option maxRecDepth 200000 in
theorem zw_170 : zt_L_failedCommand.all (zwc 170) = true := by decide +kernel
set_option maxRecDepth 200000 in
theorem zm_170 : zmc 170 = true := by decide +kernel
set_option maxRecDepth 200000 in
theorem zk_170 : zcw 170 ∈ lw_tbl := List.mem_of_getElem? (i := 1505) rfl
set_option maxRecDepth 200000 in
theorem zd_171 : zt_L_undo.all (zdc 171) = true := by decide +kernel
set_option maxRecDepth 200000 in
theorem zw_171 : zt_L_undo.all (zwc 171) = true := by decide +kernel
set_option maxRecDepth 200000 in
theorem zm_171 : zmc 171 = true := by decide +kernel
set_option maxRecDepth 200000 in
theorem zk_171 : zcw 171 ∈ lw_tbl := List.mem_of_getElem? (i := 861) rfl
set_option maxRecDepth 200000 in
theorem zd_172 : zt_L_restore.all (zdc 172) = true := by decide +kernel
set_option maxRecDepth 200000 in
theorem zw_172 : zt_L_restore.all (zwc 172) = true := by decide +kernel
set_option maxRecDepth 200000 in
theorem zm_172 : zmc 172 = true := by decide +kernel
set_option maxRecDepth 200000 in
theorem zk_172 : zcw 172 ∈ lw_tbl := List.mem_of_getElem? (i := 873) rfl
set_option maxRecDepth 200000 in
theorem zd_173 : zt_L_runs.all (zdc 173) = true := by decide +kernel
set_option maxRecDepth 200000 in
theorem zw_173 : zt_L_runs.all (zwc 173) = true := by decide +kernel
set_option maxRecDepth 200000 in
theorem zm_173 : zmc 173 = true := by decide +kernel
set_option maxRecDepth 200000 in
theorem zk_173 : zcw 173 ∈ lw_tbl := List.mem_of_getElem? (i := 1378) rfl
set_option maxRecDepth 200000 in
theorem zd_174_0 : ((zt_L_makes.drop 0).take 40).all (zdc 174) = true := by decide +kernel
set_option maxRecDepth 200000 in
theorem zd_174_1 : ((zt_L_makes.drop 40).take 40).all (zdc 174) = true := by decide +kernel
set_option maxRecDepth 200000 in
theorem zd_174_2 : ((zt_L_makes.drop 80).take 40).all (zdc 174) = true := by decide +kernel
set_option maxRecDepth 200000 in
theorem zd_174_3 : ((zt_L_makes.drop 120).take 40).all (zdc 174) = true := by decide +kernel
set_option maxRecDepth 200000 in
theorem zd_174_4 : ((zt_L_makes.drop 160).take 40).all (zdc 174) = true := by decide +kernel
set_option maxRecDepth 200000 in
theorem zd_174 : zt_L_makes.all (zdc 174) = true := zall_0 (zall_st (j := 0) zd_174_0 (zall_st (j := 40) zd_174_1 (zall_st (j := 80) zd_174_2 (zall_st (j := 120) zd_174_3 (zall_st (j := 160) zd_174_4 (zall_nil (by decide +kernel : (zt_L_makes.drop 200) = [])))))))
set_option maxRecDepth 200000 in
theorem zw_174 : zt_L_makes.all (zwc 174) = true := by decide +kernel
set_option maxRecDepth 200000 in
theorem zm_174 : zmc 174 = true := by decide +kernel
set_option maxRecDepth 200000 in
theorem zk_174 : zcw 174 ∈ lw_tbl := List.mem_of_getElem? (i := 881) rfl
end
section
set_option maxRecDepth 200000 in
theorem zd_175_0 : ((zt_L_asks.drop 0).take 40).all (zdc 175) = true := by decide +kernel
set_option maxRecDepth 200000 in
theorem zd_175_1 : ((zt_L_asks.drop 40).take 40).all (zdc 175) = true := by decide +kernel
set_option maxRecDepth 200000 in
theorem zd_175_2 : ((zt_L_asks.drop 80).take 40).all (zdc 175) = true := by decide +kernel
set_option maxRecDepth 200000 in
theorem zd_175_3 : ((zt_L_asks.drop 120).take 40).all (zdc 175) = true := by decide +kernel
set_option maxRecDepth 200000 in
theorem zd_175_4 : ((zt_L_asks.drop 160).take 40).all (zdc 175) = true := by decide +kernel
set_option maxRecDepth 200000 in
theorem zd_175 : zt_L_asks.all (zdc 175) = true := zall_0 (zall_st (j := 0) zd_175_0 (zall_st (j := 40) zd_175_1 (zall_st (j := 80) zd_175_2 (zall_st (j := 120) zd_175_3 (zall_st (j := 160) zd_175_4 (zall_nil (by decide +kernel : (zt_L_asks.drop 200) = [])))))))
set_option maxRecDepth 200000 in
theorem zw_175 : zt_L_asks.all (zwc 175) = true := by decide +kernel
set_option maxRecDepth 200000 in
theorem zm_175 : zmc 175 = true := by decide +kernel
set_option maxRecDepth 200000 in
theorem zk_175 : zcw 175 ∈ lw_tbl := List.mem_of_getElem? (i := 887) rfl
set_option maxRecDepth 200000 in
theorem zd_176_0 : ((zt_L_changes.drop 0).take 40).all (zdc 176) = true := by decide +kernel
set_option maxRecDepth 200000 in
theorem zd_176_1 : ((zt_L_changes.drop 40).take 40).all (zdc 176) = true := by decide +kernel
set_option maxRecDepth 200000 in
theorem zd_176_2 : ((zt_L_changes.drop 80).take 40).all (zdc 176) = true := by decide +kernel
set_option maxRecDepth 200000 in
theorem zd_176_3 : ((zt_L_changes.drop 120).take 40).all (zdc 176) = true := by decide +kernel
set_option maxRecDepth 200000 in
theorem zd_176 : zt_L_changes.all (zdc 176) = true := zall_0 (zall_st (j := 0) zd_176_0 (zall_st (j := 40) zd_176_1 (zall_st (j := 80) zd_176_2 (zall_st (j := 120) zd_176_3 (zall_nil (by decide +kernel : (zt_L_changes.drop 160) = []))))))
set_option maxRecDepth 200000 in
theorem zw_176 : zt_L_changes.all (zwc 176) = true := by decide +kernel
set_option maxRecDepth 200000 in
theorem zm_176 : zmc 176 = true := by decide +kernel
set_option maxRecDepth 200000 in
theorem zk_176 : zcw 176 ∈ lw_tbl := List.mem_of_getElem? (i := 1359) rfl
set_option maxRecDepth 200000 in
theorem zd_177_0 : ((zt_L_thrown.drop 0).take 40).all (zdc 177) = true := by decide +kernel
set_option maxRecDepth 200000 in
theorem zd_177_1 : ((zt_L_thrown.drop 40).take 40).all (zdc 177) = true := by decide +kernel
set_option maxRecDepth 200000 in
theorem zd_177_2 : ((zt_L_thrown.drop 80).take 40).all (zdc 177) = true := by decide +kernel
set_option maxRecDepth 200000 in
theorem zd_177_3 : ((zt_L_thrown.drop 120).take 40).all (zdc 177) = true := by decide +kernel
set_option maxRecDepth 200000 in
theorem zd_177_4 : ((zt_L_thrown.drop 160).take 40).all (zdc 177) = true := by decide +kernel
set_option maxRecDepth 200000 in
theorem zd_177_5 : ((zt_L_thrown.drop 200).take 40).all (zdc 177) = true := by decide +kernel
set_option maxRecDepth 200000 in
theorem zd_177_6 : ((zt_L_thrown.drop 240).take 40).all (zdc 177) = true := by decide +kernel
set_option maxRecDepth 200000 in
theorem zd_177_7 : ((zt_L_thrown.drop 280).take 40).all (zdc 177) = true := by decide +kernel
set_option maxRecDepth 200000 in
theorem zd_177_8 : ((zt_L_thrown.drop 320).take 40).all (zdc 177) = true := by decide +kernel
set_option maxRecDepth 200000 in
theorem zd_177_9 : ((zt_L_thrown.drop 360).take 40).all (zdc 177) = true := by decide +kernel
set_option maxRecDepth 200000 in
theorem zd_177_10 : ((zt_L_thrown.drop 400).take 40).all (zdc 177) = true := by decide +kernel
set_option maxRecDepth 200000 in
theorem zd_177_11 : ((zt_L_thrown.drop 440).take 40).all (zdc 177) = true := by decide +kernel
set_option maxRecDepth 200000 in
theorem zd_177 : zt_L_thrown.all (zdc 177) = true := zall_0 (zall_st (j := 0) zd_177_0 (zall_st (j := 40) zd_177_1 (zall_st (j := 80) zd_177_2 (zall_st (j := 120) zd_177_3 (zall_st (j := 160) zd_177_4 (zall_st (j := 200) zd_177_5 (zall_st (j := 240) zd_177_6 (zall_st (j := 280) zd_177_7 (zall_st (j := 320) zd_177_8 (zall_st (j := 360) zd_177_9 (zall_st (j := 400) zd_177_10 (zall_st (j := 440) zd_177_11 (zall_nil (by decide +kernel : (zt_L_thrown.drop 480) = []))))))))))))))
set_option maxRecDepth 200000 in
theorem zw_177 : zt_L_thrown.all (zwc 177) = true := by decide +kernel
set_option maxRecDepth 200000 in
theorem zm_177 : zmc 177 = true := by decide +kernel
set_option maxRecDepth 200000 in
theorem zk_177 : zcw 177 ∈ lw_tbl := List.mem_of_getElem? (i := 1383) rfl
set_option maxRecDepth 200000 in
theorem zd_178_0 : ((zt_L_law.drop 0).take 40).all (zdc 178) = true := by decide +kernel
set_option maxRecDepth 200000 in
theorem zd_178_1 : ((zt_L_law.drop 40).take 40).all (zdc 178) = true := by decide +kernel
set_option maxRecDepth 200000 in
theorem zd_178_2 : ((zt_L_law.drop 80).take 40).all (zdc 178) = true := by decide +kernel
set_option maxRecDepth 200000 in
theorem zd_178_3 : ((zt_L_law.drop 120).take 40).all (zdc 178) = true := by decide +kernel
set_option maxRecDepth 200000 in
theorem zd_178_4 : ((zt_L_law.drop 160).take 40).all (zdc 178) = true := by decide +kernel
set_option maxRecDepth 200000 in
theorem zd_178_5 : ((zt_L_law.drop 200).take 40).all (zdc 178) = true := by decide +kernel
set_option maxRecDepth 200000 in
theorem zd_178_6 : ((zt_L_law.drop 240).take 40).all (zdc 178) = true := by decide +kernel
set_option maxRecDepth 200000 in
theorem zd_178_7 : ((zt_L_law.drop 280).take 40).all (zdc 178) = true := by decide +kernel
set_option maxRecDepth 200000 in
theorem zd_178_8 : ((zt_L_law.drop 320).take 40).all (zdc 178) = true := by decide +kernel
set_option maxRecDepth 200000 in
theorem zd_178_9 : ((zt_L_law.drop 360).take 40).all (zdc 178) = true := by decide +kernel
set_option maxRecDepth 200000 in
theorem zd_178_10 : ((zt_L_law.drop 400).take 40).all (zdc 178) = true := by decide +kernel
set_option maxRecDepth 200000 in
theorem zd_178 : zt_L_law.all (zdc 178) = true := zall_0 (zall_st (j := 0) zd_178_0 (zall_st (j := 40) zd_178_1 (zall_st (j := 80) zd_178_2 (zall_st (j := 120) zd_178_3 (zall_st (j := 160) zd_178_4 (zall_st (j := 200) zd_178_5 (zall_st (j := 240) zd_178_6 (zall_st (j := 280) zd_178_7 (zall_st (j := 320) zd_178_8 (zall_st (j := 360) zd_178_9 (zall_st (j := 400) zd_178_10 (zall_nil (by decide +kernel : (zt_L_law.drop 440) = [])))))))))))))
set_option maxRecDepth 200000 in
theorem zw_178 : zt_L_law.all (zwc 178) = true := by decide +kernel
end
section
set_option maxRecDepth 200000 in
theorem zd_179 : zt_J5_init_d00df.all (zdc 179) = true := by decide +kernel
set_option maxRecDepth 200000 in
theorem zw_179 : zt_J5_init_d00df.all (zwc 179) = true := by decide +kernel
set_option maxRecDepth 200000 in
theorem zm_179 : zmc 179 = true := by decide +kernel
set_option maxRecDepth 200000 in
theorem zk_179 : zcw 179 ∈ lw_tbl := List.mem_of_getElem? (i := 253) rfl
set_option maxRecDepth 200000 in
theorem zd_180 : zt_J5_length_8abf5.all (zdc 180) = true := by decide +kernel
set_option maxRecDepth 200000 in
theorem zw_180 : zt_J5_length_8abf5.all (zwc 180) = true := by decide +kernel
set_option maxRecDepth 200000 in
theorem zm_180 : zmc 180 = true := by decide +kernel
set_option maxRecDepth 200000 in
theorem zk_180 : zcw 180 ∈ lw_tbl := List.mem_of_getElem? (i := 1208) rfl
set_option maxRecDepth 200000 in
theorem zd_181 : zt_J5_ensureCapacityInternal_d00df.all (zdc 181) = true := by decide +kernel
set_option maxRecDepth 200000 in
theorem zw_181 : zt_J5_ensureCapacityInternal_d00df.all (zwc 181) = true := by decide +kernel
set_option maxRecDepth 200000 in
theorem zm_181 : zmc 181 = true := by decide +kernel
set_option maxRecDepth 200000 in
theorem zk_181 : zcw 181 ∈ lw_tbl := List.mem_of_getElem? (i := 1078) rfl
set_option maxRecDepth 200000 in
theorem zd_182 : zt_J5_newCapacity_0f7a4.all (zdc 182) = true := by decide +kernel
set_option maxRecDepth 200000 in
theorem zw_182 : zt_J5_newCapacity_0f7a4.all (zwc 182) = true := by decide +kernel
set_option maxRecDepth 200000 in
theorem zm_182 : zmc 182 = true := by decide +kernel
set_option maxRecDepth 200000 in
theorem zk_182 : zcw 182 ∈ lw_tbl := List.mem_of_getElem? (i := 1082) rfl
set_option maxRecDepth 200000 in
theorem zd_183 : zt_J5_setLength_d00df.all (zdc 183) = true := by decide +kernel
set_option maxRecDepth 200000 in
theorem zw_183 : zt_J5_setLength_d00df.all (zwc 183) = true := by decide +kernel
set_option maxRecDepth 200000 in
theorem zm_183 : zmc 183 = true := by decide +kernel
set_option maxRecDepth 200000 in
theorem zk_183 : zcw 183 ∈ lw_tbl := List.mem_of_getElem? (i := 1055) rfl
set_option maxRecDepth 200000 in
theorem zd_184 : zt_J5_charAt_5068e.all (zdc 184) = true := by decide +kernel
set_option maxRecDepth 200000 in
theorem zw_184 : zt_J5_charAt_5068e.all (zwc 184) = true := by decide +kernel
set_option maxRecDepth 200000 in
theorem zm_184 : zmc 184 = true := by decide +kernel
set_option maxRecDepth 200000 in
theorem zk_184 : zcw 184 ∈ lw_tbl := List.mem_of_getElem? (i := 1312) rfl
set_option maxRecDepth 200000 in
theorem zd_185 : zt_J5_append_cf1ce.all (zdc 185) = true := by decide +kernel
set_option maxRecDepth 200000 in
theorem zw_185 : zt_J5_append_cf1ce.all (zwc 185) = true := by decide +kernel
set_option maxRecDepth 200000 in
theorem zm_185 : zmc 185 = true := by decide +kernel
set_option maxRecDepth 200000 in
theorem zk_185 : zcw 185 ∈ lw_tbl := List.mem_of_getElem? (i := 1070) rfl
set_option maxRecDepth 200000 in
theorem zd_186 : zt_J5_append_3fe6f.all (zdc 186) = true := by decide +kernel
set_option maxRecDepth 200000 in
theorem zw_186 : zt_J5_append_3fe6f.all (zwc 186) = true := by decide +kernel
set_option maxRecDepth 200000 in
theorem zm_186 : zmc 186 = true := by decide +kernel
set_option maxRecDepth 200000 in
theorem zk_186 : zcw 186 ∈ lw_tbl := List.mem_of_getElem? (i := 1285) rfl
set_option maxRecDepth 200000 in
theorem zd_187 : zt_J5_append_c97b9.all (zdc 187) = true := by decide +kernel
set_option maxRecDepth 200000 in
theorem zw_187 : zt_J5_append_c97b9.all (zwc 187) = true := by decide +kernel
set_option maxRecDepth 200000 in
theorem zm_187 : zmc 187 = true := by decide +kernel
set_option maxRecDepth 200000 in
theorem zk_187 : zcw 187 ∈ lw_tbl := List.mem_of_getElem? (i := 1165) rfl
set_option maxRecDepth 200000 in
theorem zd_188 : zt_J5_getValue_6d5f1.all (zdc 188) = true := by decide +kernel
set_option maxRecDepth 200000 in
theorem zw_188 : zt_J5_getValue_6d5f1.all (zwc 188) = true := by decide +kernel
set_option maxRecDepth 200000 in
theorem zm_188 : zmc 188 = true := by decide +kernel
set_option maxRecDepth 200000 in
theorem zk_188 : zcw 188 ∈ lw_tbl := List.mem_of_getElem? (i := 1200) rfl
set_option maxRecDepth 200000 in
theorem zd_189 : zt_J5_isLatin1_aae02.all (zdc 189) = true := by decide +kernel
set_option maxRecDepth 200000 in
theorem zw_189 : zt_J5_isLatin1_aae02.all (zwc 189) = true := by decide +kernel
set_option maxRecDepth 200000 in
theorem zm_189 : zmc 189 = true := by decide +kernel
set_option maxRecDepth 200000 in
theorem zk_189 : zcw 189 ∈ lw_tbl := List.mem_of_getElem? (i := 1108) rfl
set_option maxRecDepth 200000 in
theorem zd_190 : zt_J5_inflateIfNeededFor_a7421.all (zdc 190) = true := by decide +kernel
set_option maxRecDepth 200000 in
theorem zw_190 : zt_J5_inflateIfNeededFor_a7421.all (zwc 190) = true := by decide +kernel
set_option maxRecDepth 200000 in
theorem zm_190 : zmc 190 = true := by decide +kernel
set_option maxRecDepth 200000 in
theorem zk_190 : zcw 190 ∈ lw_tbl := List.mem_of_getElem? (i := 1132) rfl
set_option maxRecDepth 200000 in
theorem zd_191 : zt_J5_putStringAt_47b60.all (zdc 191) = true := by decide +kernel
set_option maxRecDepth 200000 in
theorem zw_191 : zt_J5_putStringAt_47b60.all (zwc 191) = true := by decide +kernel
set_option maxRecDepth 200000 in
theorem zm_191 : zmc 191 = true := by decide +kernel
set_option maxRecDepth 200000 in
theorem zk_191 : zcw 191 ∈ lw_tbl := List.mem_of_getElem? (i := 1128) rfl
set_option maxRecDepth 200000 in
theorem zd_192_0 : ((zt_J6_getChars_ba4f3.drop 0).take 40).all (zdc 192) = true := by decide +kernel
set_option maxRecDepth 200000 in
theorem zd_192_1 : ((zt_J6_getChars_ba4f3.drop 40).take 40).all (zdc 192) = true := by decide +kernel
set_option maxRecDepth 200000 in
theorem zd_192 : zt_J6_getChars_ba4f3.all (zdc 192) = true := zall_0 (zall_st (j := 0) zd_192_0 (zall_st (j := 40) zd_192_1 (zall_nil (by decide +kernel : (zt_J6_getChars_ba4f3.drop 80) = []))))
set_option maxRecDepth 200000 in
theorem zw_192 : zt_J6_getChars_ba4f3.all (zwc 192) = true := by decide +kernel
set_option maxRecDepth 200000 in
theorem zm_192 : zmc 192 = true := by decide +kernel
set_option maxRecDepth 200000 in
theorem zk_192 : zcw 192 ∈ lw_tbl := List.mem_of_getElem? (i := 1171) rfl
set_option maxRecDepth 200000 in
theorem zd_193 : zt_J6_stringSize_0f7a4.all (zdc 193) = true := by decide +kernel
set_option maxRecDepth 200000 in
theorem zw_193 : zt_J6_stringSize_0f7a4.all (zwc 193) = true := by decide +kernel
set_option maxRecDepth 200000 in
theorem zm_193 : zmc 193 = true := by decide +kernel
set_option maxRecDepth 200000 in
theorem zk_193 : zcw 193 ∈ lw_tbl := List.mem_of_getElem? (i := 1168) rfl
set_option maxRecDepth 200000 in
theorem zd_194 : zt_J6_bitCount_0f7a4.all (zdc 194) = true := by decide +kernel
set_option maxRecDepth 200000 in
theorem zw_194 : zt_J6_bitCount_0f7a4.all (zwc 194) = true := by decide +kernel
set_option maxRecDepth 200000 in
theorem zm_194 : zmc 194 = true := by decide +kernel
set_option maxRecDepth 200000 in
theorem zk_194 : zcw 194 ∈ lw_tbl := List.mem_of_getElem? (i := 575) rfl
set_option maxRecDepth 200000 in
theorem zd_195 : zt_J0_init_81219.all (zdc 195) = true := by decide +kernel
set_option maxRecDepth 200000 in
theorem zw_195 : zt_J0_init_81219.all (zwc 195) = true := by decide +kernel
set_option maxRecDepth 200000 in
theorem zm_195 : zmc 195 = true := by decide +kernel
set_option maxRecDepth 200000 in
theorem zk_195 : zcw 195 ∈ lw_tbl := List.mem_of_getElem? (i := 1191) rfl
set_option maxRecDepth 200000 in
theorem zd_196 : zt_J0_length_8abf5.all (zdc 196) = true := by decide +kernel
set_option maxRecDepth 200000 in
theorem zw_196 : zt_J0_length_8abf5.all (zwc 196) = true := by decide +kernel
set_option maxRecDepth 200000 in
theorem zm_196 : zmc 196 = true := by decide +kernel
set_option maxRecDepth 200000 in
theorem zk_196 : zcw 196 ∈ lw_tbl := List.mem_of_getElem? (i := 744) rfl
set_option maxRecDepth 200000 in
theorem zd_197 : zt_J0_charAt_5068e.all (zdc 197) = true := by decide +kernel
set_option maxRecDepth 200000 in
theorem zw_197 : zt_J0_charAt_5068e.all (zwc 197) = true := by decide +kernel
set_option maxRecDepth 200000 in
theorem zm_197 : zmc 197 = true := by decide +kernel
set_option maxRecDepth 200000 in
theorem zk_197 : zcw 197 ∈ lw_tbl := List.mem_of_getElem? (i := 754) rfl
set_option maxRecDepth 200000 in
theorem zd_198 : zt_J0_getBytes_840e7.all (zdc 198) = true := by decide +kernel
set_option maxRecDepth 200000 in
theorem zw_198 : zt_J0_getBytes_840e7.all (zwc 198) = true := by decide +kernel
set_option maxRecDepth 200000 in
theorem zm_198 : zmc 198 = true := by decide +kernel
set_option maxRecDepth 200000 in
theorem zk_198 : zcw 198 ∈ lw_tbl := List.mem_of_getElem? (i := 1156) rfl
set_option maxRecDepth 200000 in
theorem zd_199 : zt_J0_init_db425.all (zdc 199) = true := by decide +kernel
set_option maxRecDepth 200000 in
theorem zw_199 : zt_J0_init_db425.all (zwc 199) = true := by decide +kernel
set_option maxRecDepth 200000 in
theorem zm_199 : zmc 199 = true := by decide +kernel
set_option maxRecDepth 200000 in
theorem zk_199 : zcw 199 ∈ lw_tbl := List.mem_of_getElem? (i := 1194) rfl
set_option maxRecDepth 200000 in
theorem zd_200 : zt_J0_coder_7d493.all (zdc 200) = true := by decide +kernel
set_option maxRecDepth 200000 in
theorem zw_200 : zt_J0_coder_7d493.all (zwc 200) = true := by decide +kernel
set_option maxRecDepth 200000 in
theorem zm_200 : zmc 200 = true := by decide +kernel
set_option maxRecDepth 200000 in
theorem zk_200 : zcw 200 ∈ lw_tbl := List.mem_of_getElem? (i := 748) rfl
set_option maxRecDepth 200000 in
theorem zd_201 : zt_J0_isLatin1_aae02.all (zdc 201) = true := by decide +kernel
set_option maxRecDepth 200000 in
theorem zw_201 : zt_J0_isLatin1_aae02.all (zwc 201) = true := by decide +kernel
set_option maxRecDepth 200000 in
theorem zm_201 : zmc 201 = true := by decide +kernel
set_option maxRecDepth 200000 in
theorem zk_201 : zcw 201 ∈ lw_tbl := List.mem_of_getElem? (i := 758) rfl
set_option maxRecDepth 200000 in
theorem zd_202 : zt_J0_checkIndex_df160.all (zdc 202) = true := by decide +kernel
set_option maxRecDepth 200000 in
theorem zw_202 : zt_J0_checkIndex_df160.all (zwc 202) = true := by decide +kernel
set_option maxRecDepth 200000 in
theorem zm_202 : zmc 202 = true := by decide +kernel
set_option maxRecDepth 200000 in
theorem zk_202 : zcw 202 ∈ lw_tbl := List.mem_of_getElem? (i := 764) rfl
set_option maxRecDepth 200000 in
theorem zd_203 : zt_J4_init_da8c8.all (zdc 203) = true := by decide +kernel
set_option maxRecDepth 200000 in
theorem zw_203 : zt_J4_init_da8c8.all (zwc 203) = true := by decide +kernel
set_option maxRecDepth 200000 in
theorem zm_203 : zmc 203 = true := by decide +kernel
set_option maxRecDepth 200000 in
theorem zk_203 : zcw 203 ∈ lw_tbl := List.mem_of_getElem? (i := 250) rfl
set_option maxRecDepth 200000 in
theorem zd_204 : zt_J4_append_15ec4.all (zdc 204) = true := by decide +kernel
set_option maxRecDepth 200000 in
theorem zw_204 : zt_J4_append_15ec4.all (zwc 204) = true := by decide +kernel
set_option maxRecDepth 200000 in
theorem zm_204 : zmc 204 = true := by decide +kernel
set_option maxRecDepth 200000 in
theorem zk_204 : zcw 204 ∈ lw_tbl := List.mem_of_getElem? (i := 1067) rfl
set_option maxRecDepth 200000 in
theorem zd_205 : zt_J4_append_cf468.all (zdc 205) = true := by decide +kernel
set_option maxRecDepth 200000 in
theorem zw_205 : zt_J4_append_cf468.all (zwc 205) = true := by decide +kernel
set_option maxRecDepth 200000 in
theorem zm_205 : zmc 205 = true := by decide +kernel
set_option maxRecDepth 200000 in
theorem zk_205 : zcw 205 ∈ lw_tbl := List.mem_of_getElem? (i := 1282) rfl
set_option maxRecDepth 200000 in
theorem zd_206 : zt_J4_append_bf812.all (zdc 206) = true := by decide +kernel
set_option maxRecDepth 200000 in
theorem zw_206 : zt_J4_append_bf812.all (zwc 206) = true := by decide +kernel
set_option maxRecDepth 200000 in
theorem zm_206 : zmc 206 = true := by decide +kernel
set_option maxRecDepth 200000 in
theorem zk_206 : zcw 206 ∈ lw_tbl := List.mem_of_getElem? (i := 1162) rfl
set_option maxRecDepth 200000 in
theorem zd_207 : zt_J4_toString_0e30d.all (zdc 207) = true := by decide +kernel
set_option maxRecDepth 200000 in
theorem zw_207 : zt_J4_toString_0e30d.all (zwc 207) = true := by decide +kernel
set_option maxRecDepth 200000 in
theorem zm_207 : zmc 207 = true := by decide +kernel
set_option maxRecDepth 200000 in
theorem zk_207 : zcw 207 ∈ lw_tbl := List.mem_of_getElem? (i := 1187) rfl
set_option maxRecDepth 200000 in
theorem zd_208 : zt_J4_charAt_5068e.all (zdc 208) = true := by decide +kernel
set_option maxRecDepth 200000 in
theorem zw_208 : zt_J4_charAt_5068e.all (zwc 208) = true := by decide +kernel
set_option maxRecDepth 200000 in
theorem zm_208 : zmc 208 = true := by decide +kernel
set_option maxRecDepth 200000 in
theorem zk_208 : zcw 208 ∈ lw_tbl := List.mem_of_getElem? (i := 1309) rfl
set_option maxRecDepth 200000 in
theorem zd_209 : zt_J4_setLength_d00df.all (zdc 209) = true := by decide +kernel
set_option maxRecDepth 200000 in
theorem zw_209 : zt_J4_setLength_d00df.all (zwc 209) = true := by decide +kernel
set_option maxRecDepth 200000 in
theorem zm_209 : zmc 209 = true := by decide +kernel
set_option maxRecDepth 200000 in
theorem zk_209 : zcw 209 ∈ lw_tbl := List.mem_of_getElem? (i := 1052) rfl
set_option maxRecDepth 200000 in
theorem zd_210 : zt_J4_length_8abf5.all (zdc 210) = true := by decide +kernel
set_option maxRecDepth 200000 in
theorem zw_210 : zt_J4_length_8abf5.all (zwc 210) = true := by decide +kernel
set_option maxRecDepth 200000 in
theorem zm_210 : zmc 210 = true := by decide +kernel
set_option maxRecDepth 200000 in
theorem zk_210 : zcw 210 ∈ lw_tbl := List.mem_of_getElem? (i := 1206) rfl
set_option maxRecDepth 200000 in
theorem zd_211 : zt_J1_charAt_3b067.all (zdc 211) = true := by decide +kernel
set_option maxRecDepth 200000 in
theorem zw_211 : zt_J1_charAt_3b067.all (zwc 211) = true := by decide +kernel
set_option maxRecDepth 200000 in
theorem zm_211 : zmc 211 = true := by decide +kernel
set_option maxRecDepth 200000 in
theorem zk_211 : zcw 211 ∈ lw_tbl := List.mem_of_getElem? (i := 761) rfl
set_option maxRecDepth 200000 in
theorem zd_212 : zt_J1_canEncode_fc78d.all (zdc 212) = true := by decide +kernel
set_option maxRecDepth 200000 in
theorem zw_212 : zt_J1_canEncode_fc78d.all (zwc 212) = true := by decide +kernel
set_option maxRecDepth 200000 in
theorem zm_212 : zmc 212 = true := by decide +kernel
set_option maxRecDepth 200000 in
theorem zk_212 : zcw 212 ∈ lw_tbl := List.mem_of_getElem? (i := 1288) rfl
set_option maxRecDepth 200000 in
theorem zd_213 : zt_J1_fillNull_b72d1.all (zdc 213) = true := by decide +kernel
set_option maxRecDepth 200000 in
theorem zw_213 : zt_J1_fillNull_b72d1.all (zwc 213) = true := by decide +kernel
set_option maxRecDepth 200000 in
theorem zm_213 : zmc 213 = true := by decide +kernel
set_option maxRecDepth 200000 in
theorem zk_213 : zcw 213 ∈ lw_tbl := List.mem_of_getElem? (i := 1254) rfl
set_option maxRecDepth 200000 in
theorem zd_214 : zt_J7_rangeCheck_23922.all (zdc 214) = true := by decide +kernel
set_option maxRecDepth 200000 in
theorem zw_214 : zt_J7_rangeCheck_23922.all (zwc 214) = true := by decide +kernel
set_option maxRecDepth 200000 in
theorem zm_214 : zmc 214 = true := by decide +kernel
set_option maxRecDepth 200000 in
theorem zk_214 : zcw 214 ∈ lw_tbl := List.mem_of_getElem? (i := 1260) rfl
set_option maxRecDepth 200000 in
theorem zd_215 : zt_J7_fill_53178.all (zdc 215) = true := by decide +kernel
set_option maxRecDepth 200000 in
theorem zw_215 : zt_J7_fill_53178.all (zwc 215) = true := by decide +kernel
set_option maxRecDepth 200000 in
theorem zm_215 : zmc 215 = true := by decide +kernel
set_option maxRecDepth 200000 in
theorem zk_215 : zcw 215 ∈ lw_tbl := List.mem_of_getElem? (i := 978) rfl
set_option maxRecDepth 200000 in
theorem zd_216 : zt_J7_fill_eb02e.all (zdc 216) = true := by decide +kernel
set_option maxRecDepth 200000 in
theorem zw_216 : zt_J7_fill_eb02e.all (zwc 216) = true := by decide +kernel
set_option maxRecDepth 200000 in
theorem zm_216 : zmc 216 = true := by decide +kernel
set_option maxRecDepth 200000 in
theorem zk_216 : zcw 216 ∈ lw_tbl := List.mem_of_getElem? (i := 1257) rfl
set_option maxRecDepth 200000 in
theorem zd_217 : zt_J7_copyOf_9075b.all (zdc 217) = true := by decide +kernel
set_option maxRecDepth 200000 in
theorem zw_217 : zt_J7_copyOf_9075b.all (zwc 217) = true := by decide +kernel
set_option maxRecDepth 200000 in
theorem zm_217 : zmc 217 = true := by decide +kernel
set_option maxRecDepth 200000 in
theorem zk_217 : zcw 217 ∈ lw_tbl := List.mem_of_getElem? (i := 1094) rfl
set_option maxRecDepth 200000 in
theorem zd_218 : zt_J7_checkLength_df160.all (zdc 218) = true := by decide +kernel
set_option maxRecDepth 200000 in
theorem zw_218 : zt_J7_checkLength_df160.all (zwc 218) = true := by decide +kernel
set_option maxRecDepth 200000 in
theorem zm_218 : zmc 218 = true := by decide +kernel
set_option maxRecDepth 200000 in
theorem zk_218 : zcw 218 ∈ lw_tbl := List.mem_of_getElem? (i := 1218) rfl
set_option maxRecDepth 200000 in
theorem zd_219 : zt_J7_copyOfRange_39247.all (zdc 219) = true := by decide +kernel
set_option maxRecDepth 200000 in
theorem zw_219 : zt_J7_copyOfRange_39247.all (zwc 219) = true := by decide +kernel
set_option maxRecDepth 200000 in
theorem zm_219 : zmc 219 = true := by decide +kernel
set_option maxRecDepth 200000 in
theorem zk_219 : zcw 219 ∈ lw_tbl := List.mem_of_getElem? (i := 1212) rfl
set_option maxRecDepth 200000 in
theorem zd_220 : zt_J7_copyOfRangeByte_39247.all (zdc 220) = true := by decide +kernel
set_option maxRecDepth 200000 in
theorem zw_220 : zt_J7_copyOfRangeByte_39247.all (zwc 220) = true := by decide +kernel
set_option maxRecDepth 200000 in
theorem zm_220 : zmc 220 = true := by decide +kernel
set_option maxRecDepth 200000 in
theorem zk_220 : zcw 220 ∈ lw_tbl := List.mem_of_getElem? (i := 1215) rfl
set_option maxRecDepth 200000 in
theorem zd_221 : zt_J8_newLength_cabcc.all (zdc 221) = true := by decide +kernel
set_option maxRecDepth 200000 in
theorem zw_221 : zt_J8_newLength_cabcc.all (zwc 221) = true := by decide +kernel
set_option maxRecDepth 200000 in
theorem zm_221 : zmc 221 = true := by decide +kernel
set_option maxRecDepth 200000 in
theorem zk_221 : zcw 221 ∈ lw_tbl := List.mem_of_getElem? (i := 1085) rfl
set_option maxRecDepth 200000 in
theorem zd_222 : zt_J3_checkIndex_8e157.all (zdc 222) = true := by decide +kernel
set_option maxRecDepth 200000 in
theorem zw_222 : zt_J3_checkIndex_8e157.all (zwc 222) = true := by decide +kernel
set_option maxRecDepth 200000 in
theorem zm_222 : zmc 222 = true := by decide +kernel
set_option maxRecDepth 200000 in
theorem zk_222 : zcw 222 ∈ lw_tbl := List.mem_of_getElem? (i := 769) rfl
set_option maxRecDepth 200000 in
theorem zd_223 : zt_J3_checkFromToIndex_8c36e.all (zdc 223) = true := by decide +kernel
set_option maxRecDepth 200000 in
theorem zw_223 : zt_J3_checkFromToIndex_8c36e.all (zwc 223) = true := by decide +kernel
set_option maxRecDepth 200000 in
theorem zm_223 : zmc 223 = true := by decide +kernel
set_option maxRecDepth 200000 in
theorem zk_223 : zcw 223 ∈ lw_tbl := List.mem_of_getElem? (i := 1120) rfl
end
section
theorem zd_all : ∀ mi : Nat, (ztab.getD mi []).all (zdc mi) = true := fun mi => match mi with
  | 0 => zd_0
  | 1 => zd_1
  | 2 => zd_2
  | 3 => zd_3
  | 4 => zd_4
  | 5 => zd_5
  | 6 => zd_6
  | 7 => zd_7
  | 8 => zd_8
  | 9 => zd_9
  | 10 => zd_10
  | 11 => zd_11
  | 12 => zd_12
  | 13 => zd_13
  | 14 => zd_14
  | 15 => zd_15
  | 16 => zd_16
  | 17 => zd_17
  | 18 => zd_18
  | 19 => zd_19
  | 20 => zd_20
  | 21 => zd_21
  | 22 => zd_22
  | 23 => zd_23
  | 24 => zd_24
  | 25 => zd_25
  | 26 => zd_26
  | 27 => zd_27
  | 28 => zd_28
  | 29 => zd_29
  | 30 => zd_30
  | 31 => zd_31
  | 32 => zd_32
  | 33 => zd_33
  | 34 => zd_34
  | 35 => zd_35
  | 36 => zd_36
  | 37 => zd_37
  | 38 => zd_38
  | 39 => zd_39
  | 40 => zd_40
  | 41 => zd_41
  | 42 => zd_42
  | 43 => zd_43
  | 44 => zd_44
  | 45 => zd_45
  | 46 => zd_46
  | 47 => zd_47
  | 48 => zd_48
  | 49 => zd_49
  | 50 => zd_50
  | 51 => zd_51
  | 52 => zd_52
  | 53 => zd_53
  | 54 => zd_54
  | 55 => zd_55
  | 56 => zd_56
  | 57 => zd_57
  | 58 => zd_58
  | 59 => zd_59
  | 60 => zd_60
  | 61 => zd_61
  | 62 => zd_62
  | 63 => zd_63
  | 64 => zd_64
  | 65 => zd_65
  | 66 => zd_66
  | 67 => zd_67
  | 68 => zd_68
  | 69 => zd_69
  | 70 => zd_70
  | 71 => zd_71
  | 72 => zd_72
  | 73 => zd_73
  | 74 => zd_74
  | 75 => zd_75
  | 76 => zd_76
  | 77 => zd_77
  | 78 => zd_78
  | 79 => zd_79
  | 80 => zd_80
  | 81 => zd_81
  | 82 => zd_82
  | 83 => zd_83
  | 84 => zd_84
  | 85 => zd_85
  | 86 => zd_86
  | 87 => zd_87
  | 88 => zd_88
  | 89 => zd_89
  | 90 => zd_90
  | 91 => zd_91
  | 92 => zd_92
  | 93 => zd_93
  | 94 => zd_94
  | 95 => zd_95
  | 96 => zd_96
  | 97 => zd_97
  | 98 => zd_98
  | 99 => zd_99
  | 100 => zd_100
  | 101 => zd_101
  | 102 => zd_102
  | 103 => zd_103
  | 104 => zd_104
  | 105 => zd_105
  | 106 => zd_106
  | 107 => zd_107
  | 108 => zd_108
  | 109 => zd_109
  | 110 => zd_110
  | 111 => zd_111
  | 112 => zd_112
  | 113 => zd_113
  | 114 => zd_114
  | 115 => zd_115
  | 116 => zd_116
  | 117 => zd_117
  | 118 => zd_118
  | 119 => zd_119
  | 120 => zd_120
  | 121 => zd_121
  | 122 => zd_122
  | 123 => zd_123
  | 124 => zd_124
  | 125 => zd_125
  | 126 => zd_126
  | 127 => zd_127
  | 128 => zd_128
  | 129 => zd_129
  | 130 => zd_130
  | 131 => zd_131
  | 132 => zd_132
  | 133 => zd_133
  | 134 => zd_134
  | 135 => zd_135
  | 136 => zd_136
  | 137 => zd_137
  | 138 => zd_138
  | 139 => zd_139
  | 140 => zd_140
  | 141 => zd_141
  | 142 => zd_142
  | 143 => zd_143
  | 144 => zd_144
  | 145 => zd_145
  | 146 => zd_146
  | 147 => zd_147
  | 148 => zd_148
  | 149 => zd_149
  | 150 => zd_150
  | 151 => zd_151
  | 152 => zd_152
  | 153 => zd_153
  | 154 => zd_154
  | 155 => zd_155
  | 156 => zd_156
  | 157 => zd_157
  | 158 => zd_158
  | 159 => zd_159
  | 160 => zd_160
  | 161 => zd_161
  | 162 => zd_162
  | 163 => zd_163
  | 164 => zd_164
  | 165 => zd_165
  | 166 => zd_166
  | 167 => zd_167
  | 168 => zd_168
  | 169 => zd_169
  | 170 => zd_170
  | 171 => zd_171
  | 172 => zd_172
  | 173 => zd_173
  | 174 => zd_174
  | 175 => zd_175
  | 176 => zd_176
  | 177 => zd_177
  | 178 => zd_178
  | 179 => zd_179
  | 180 => zd_180
  | 181 => zd_181
  | 182 => zd_182
  | 183 => zd_183
  | 184 => zd_184
  | 185 => zd_185
  | 186 => zd_186
  | 187 => zd_187
  | 188 => zd_188
  | 189 => zd_189
  | 190 => zd_190
  | 191 => zd_191
  | 192 => zd_192
  | 193 => zd_193
  | 194 => zd_194
  | 195 => zd_195
  | 196 => zd_196
  | 197 => zd_197
  | 198 => zd_198
  | 199 => zd_199
  | 200 => zd_200
  | 201 => zd_201
  | 202 => zd_202
  | 203 => zd_203
  | 204 => zd_204
  | 205 => zd_205
  | 206 => zd_206
  | 207 => zd_207
  | 208 => zd_208
  | 209 => zd_209
  | 210 => zd_210
  | 211 => zd_211
  | 212 => zd_212
  | 213 => zd_213
  | 214 => zd_214
  | 215 => zd_215
  | 216 => zd_216
  | 217 => zd_217
  | 218 => zd_218
  | 219 => zd_219
  | 220 => zd_220
  | 221 => zd_221
  | 222 => zd_222
  | 223 => zd_223
  | n + 224 => by
    rw [List.getD_eq_getElem?_getD, List.getElem?_eq_none (by rw [ztab_len]; omega)]
    rfl
theorem zw_all : ∀ mi : Nat, (ztab.getD mi []).all (zwc mi) = true := fun mi => match mi with
  | 0 => zw_0
  | 1 => zw_1
  | 2 => zw_2
  | 3 => zw_3
  | 4 => zw_4
  | 5 => zw_5
  | 6 => zw_6
  | 7 => zw_7
  | 8 => zw_8
  | 9 => zw_9
  | 10 => zw_10
  | 11 => zw_11
  | 12 => zw_12
  | 13 => zw_13
  | 14 => zw_14
  | 15 => zw_15
  | 16 => zw_16
  | 17 => zw_17
  | 18 => zw_18
  | 19 => zw_19
  | 20 => zw_20
  | 21 => zw_21
  | 22 => zw_22
  | 23 => zw_23
  | 24 => zw_24
  | 25 => zw_25
  | 26 => zw_26
  | 27 => zw_27
  | 28 => zw_28
  | 29 => zw_29
  | 30 => zw_30
  | 31 => zw_31
  | 32 => zw_32
  | 33 => zw_33
  | 34 => zw_34
  | 35 => zw_35
  | 36 => zw_36
  | 37 => zw_37
  | 38 => zw_38
  | 39 => zw_39
  | 40 => zw_40
  | 41 => zw_41
  | 42 => zw_42
  | 43 => zw_43
  | 44 => zw_44
  | 45 => zw_45
  | 46 => zw_46
  | 47 => zw_47
  | 48 => zw_48
  | 49 => zw_49
  | 50 => zw_50
  | 51 => zw_51
  | 52 => zw_52
  | 53 => zw_53
  | 54 => zw_54
  | 55 => zw_55
  | 56 => zw_56
  | 57 => zw_57
  | 58 => zw_58
  | 59 => zw_59
  | 60 => zw_60
  | 61 => zw_61
  | 62 => zw_62
  | 63 => zw_63
  | 64 => zw_64
  | 65 => zw_65
  | 66 => zw_66
  | 67 => zw_67
  | 68 => zw_68
  | 69 => zw_69
  | 70 => zw_70
  | 71 => zw_71
  | 72 => zw_72
  | 73 => zw_73
  | 74 => zw_74
  | 75 => zw_75
  | 76 => zw_76
  | 77 => zw_77
  | 78 => zw_78
  | 79 => zw_79
  | 80 => zw_80
  | 81 => zw_81
  | 82 => zw_82
  | 83 => zw_83
  | 84 => zw_84
  | 85 => zw_85
  | 86 => zw_86
  | 87 => zw_87
  | 88 => zw_88
  | 89 => zw_89
  | 90 => zw_90
  | 91 => zw_91
  | 92 => zw_92
  | 93 => zw_93
  | 94 => zw_94
  | 95 => zw_95
  | 96 => zw_96
  | 97 => zw_97
  | 98 => zw_98
  | 99 => zw_99
  | 100 => zw_100
  | 101 => zw_101
  | 102 => zw_102
  | 103 => zw_103
  | 104 => zw_104
  | 105 => zw_105
  | 106 => zw_106
  | 107 => zw_107
  | 108 => zw_108
  | 109 => zw_109
  | 110 => zw_110
  | 111 => zw_111
  | 112 => zw_112
  | 113 => zw_113
  | 114 => zw_114
  | 115 => zw_115
  | 116 => zw_116
  | 117 => zw_117
  | 118 => zw_118
  | 119 => zw_119
  | 120 => zw_120
  | 121 => zw_121
  | 122 => zw_122
  | 123 => zw_123
  | 124 => zw_124
  | 125 => zw_125
  | 126 => zw_126
  | 127 => zw_127
  | 128 => zw_128
  | 129 => zw_129
  | 130 => zw_130
  | 131 => zw_131
  | 132 => zw_132
  | 133 => zw_133
  | 134 => zw_134
  | 135 => zw_135
  | 136 => zw_136
  | 137 => zw_137
  | 138 => zw_138
  | 139 => zw_139
  | 140 => zw_140
  | 141 => zw_141
  | 142 => zw_142
  | 143 => zw_143
  | 144 => zw_144
  | 145 => zw_145
  | 146 => zw_146
  | 147 => zw_147
  | 148 => zw_148
  | 149 => zw_149
  | 150 => zw_150
  | 151 => zw_151
  | 152 => zw_152
  | 153 => zw_153
  | 154 => zw_154
  | 155 => zw_155
  | 156 => zw_156
  | 157 => zw_157
  | 158 => zw_158
  | 159 => zw_159
  | 160 => zw_160
  | 161 => zw_161
  | 162 => zw_162
  | 163 => zw_163
  | 164 => zw_164
  | 165 => zw_165
  | 166 => zw_166
  | 167 => zw_167
  | 168 => zw_168
  | 169 => zw_169
  | 170 => zw_170
  | 171 => zw_171
  | 172 => zw_172
  | 173 => zw_173
  | 174 => zw_174
  | 175 => zw_175
  | 176 => zw_176
  | 177 => zw_177
  | 178 => zw_178
  | 179 => zw_179
  | 180 => zw_180
  | 181 => zw_181
  | 182 => zw_182
  | 183 => zw_183
  | 184 => zw_184
  | 185 => zw_185
  | 186 => zw_186
  | 187 => zw_187
  | 188 => zw_188
  | 189 => zw_189
  | 190 => zw_190
  | 191 => zw_191
  | 192 => zw_192
  | 193 => zw_193
  | 194 => zw_194
  | 195 => zw_195
  | 196 => zw_196
  | 197 => zw_197
  | 198 => zw_198
  | 199 => zw_199
  | 200 => zw_200
  | 201 => zw_201
  | 202 => zw_202
  | 203 => zw_203
  | 204 => zw_204
  | 205 => zw_205
  | 206 => zw_206
  | 207 => zw_207
  | 208 => zw_208
  | 209 => zw_209
  | 210 => zw_210
  | 211 => zw_211
  | 212 => zw_212
  | 213 => zw_213
  | 214 => zw_214
  | 215 => zw_215
  | 216 => zw_216
  | 217 => zw_217
  | 218 => zw_218
  | 219 => zw_219
  | 220 => zw_220
  | 221 => zw_221
  | 222 => zw_222
  | 223 => zw_223
  | n + 224 => by
    rw [List.getD_eq_getElem?_getD, List.getElem?_eq_none (by rw [ztab_len]; omega)]
    rfl
theorem zm_all : ∀ mi : Nat, mi < 224 → mi ≠ 178 → zmc mi = true ∧ zcw mi ∈ lw_tbl := fun mi h hne => match mi, h, hne with
  | 0, _, _ => ⟨zm_0, zk_0⟩
  | 1, _, _ => ⟨zm_1, zk_1⟩
  | 2, _, _ => ⟨zm_2, zk_2⟩
  | 3, _, _ => ⟨zm_3, zk_3⟩
  | 4, _, _ => ⟨zm_4, zk_4⟩
  | 5, _, _ => ⟨zm_5, zk_5⟩
  | 6, _, _ => ⟨zm_6, zk_6⟩
  | 7, _, _ => ⟨zm_7, zk_7⟩
  | 8, _, _ => ⟨zm_8, zk_8⟩
  | 9, _, _ => ⟨zm_9, zk_9⟩
  | 10, _, _ => ⟨zm_10, zk_10⟩
  | 11, _, _ => ⟨zm_11, zk_11⟩
  | 12, _, _ => ⟨zm_12, zk_12⟩
  | 13, _, _ => ⟨zm_13, zk_13⟩
  | 14, _, _ => ⟨zm_14, zk_14⟩
  | 15, _, _ => ⟨zm_15, zk_15⟩
  | 16, _, _ => ⟨zm_16, zk_16⟩
  | 17, _, _ => ⟨zm_17, zk_17⟩
  | 18, _, _ => ⟨zm_18, zk_18⟩
  | 19, _, _ => ⟨zm_19, zk_19⟩
  | 20, _, _ => ⟨zm_20, zk_20⟩
  | 21, _, _ => ⟨zm_21, zk_21⟩
  | 22, _, _ => ⟨zm_22, zk_22⟩
  | 23, _, _ => ⟨zm_23, zk_23⟩
  | 24, _, _ => ⟨zm_24, zk_24⟩
  | 25, _, _ => ⟨zm_25, zk_25⟩
  | 26, _, _ => ⟨zm_26, zk_26⟩
  | 27, _, _ => ⟨zm_27, zk_27⟩
  | 28, _, _ => ⟨zm_28, zk_28⟩
  | 29, _, _ => ⟨zm_29, zk_29⟩
  | 30, _, _ => ⟨zm_30, zk_30⟩
  | 31, _, _ => ⟨zm_31, zk_31⟩
  | 32, _, _ => ⟨zm_32, zk_32⟩
  | 33, _, _ => ⟨zm_33, zk_33⟩
  | 34, _, _ => ⟨zm_34, zk_34⟩
  | 35, _, _ => ⟨zm_35, zk_35⟩
  | 36, _, _ => ⟨zm_36, zk_36⟩
  | 37, _, _ => ⟨zm_37, zk_37⟩
  | 38, _, _ => ⟨zm_38, zk_38⟩
  | 39, _, _ => ⟨zm_39, zk_39⟩
  | 40, _, _ => ⟨zm_40, zk_40⟩
  | 41, _, _ => ⟨zm_41, zk_41⟩
  | 42, _, _ => ⟨zm_42, zk_42⟩
  | 43, _, _ => ⟨zm_43, zk_43⟩
  | 44, _, _ => ⟨zm_44, zk_44⟩
  | 45, _, _ => ⟨zm_45, zk_45⟩
  | 46, _, _ => ⟨zm_46, zk_46⟩
  | 47, _, _ => ⟨zm_47, zk_47⟩
  | 48, _, _ => ⟨zm_48, zk_48⟩
  | 49, _, _ => ⟨zm_49, zk_49⟩
  | 50, _, _ => ⟨zm_50, zk_50⟩
  | 51, _, _ => ⟨zm_51, zk_51⟩
  | 52, _, _ => ⟨zm_52, zk_52⟩
  | 53, _, _ => ⟨zm_53, zk_53⟩
  | 54, _, _ => ⟨zm_54, zk_54⟩
  | 55, _, _ => ⟨zm_55, zk_55⟩
  | 56, _, _ => ⟨zm_56, zk_56⟩
  | 57, _, _ => ⟨zm_57, zk_57⟩
  | 58, _, _ => ⟨zm_58, zk_58⟩
  | 59, _, _ => ⟨zm_59, zk_59⟩
  | 60, _, _ => ⟨zm_60, zk_60⟩
  | 61, _, _ => ⟨zm_61, zk_61⟩
  | 62, _, _ => ⟨zm_62, zk_62⟩
  | 63, _, _ => ⟨zm_63, zk_63⟩
  | 64, _, _ => ⟨zm_64, zk_64⟩
  | 65, _, _ => ⟨zm_65, zk_65⟩
  | 66, _, _ => ⟨zm_66, zk_66⟩
  | 67, _, _ => ⟨zm_67, zk_67⟩
  | 68, _, _ => ⟨zm_68, zk_68⟩
  | 69, _, _ => ⟨zm_69, zk_69⟩
  | 70, _, _ => ⟨zm_70, zk_70⟩
  | 71, _, _ => ⟨zm_71, zk_71⟩
  | 72, _, _ => ⟨zm_72, zk_72⟩
  | 73, _, _ => ⟨zm_73, zk_73⟩
  | 74, _, _ => ⟨zm_74, zk_74⟩
  | 75, _, _ => ⟨zm_75, zk_75⟩
  | 76, _, _ => ⟨zm_76, zk_76⟩
  | 77, _, _ => ⟨zm_77, zk_77⟩
  | 78, _, _ => ⟨zm_78, zk_78⟩
  | 79, _, _ => ⟨zm_79, zk_79⟩
  | 80, _, _ => ⟨zm_80, zk_80⟩
  | 81, _, _ => ⟨zm_81, zk_81⟩
  | 82, _, _ => ⟨zm_82, zk_82⟩
  | 83, _, _ => ⟨zm_83, zk_83⟩
  | 84, _, _ => ⟨zm_84, zk_84⟩
  | 85, _, _ => ⟨zm_85, zk_85⟩
  | 86, _, _ => ⟨zm_86, zk_86⟩
  | 87, _, _ => ⟨zm_87, zk_87⟩
  | 88, _, _ => ⟨zm_88, zk_88⟩
  | 89, _, _ => ⟨zm_89, zk_89⟩
  | 90, _, _ => ⟨zm_90, zk_90⟩
  | 91, _, _ => ⟨zm_91, zk_91⟩
  | 92, _, _ => ⟨zm_92, zk_92⟩
  | 93, _, _ => ⟨zm_93, zk_93⟩
  | 94, _, _ => ⟨zm_94, zk_94⟩
  | 95, _, _ => ⟨zm_95, zk_95⟩
  | 96, _, _ => ⟨zm_96, zk_96⟩
  | 97, _, _ => ⟨zm_97, zk_97⟩
  | 98, _, _ => ⟨zm_98, zk_98⟩
  | 99, _, _ => ⟨zm_99, zk_99⟩
  | 100, _, _ => ⟨zm_100, zk_100⟩
  | 101, _, _ => ⟨zm_101, zk_101⟩
  | 102, _, _ => ⟨zm_102, zk_102⟩
  | 103, _, _ => ⟨zm_103, zk_103⟩
  | 104, _, _ => ⟨zm_104, zk_104⟩
  | 105, _, _ => ⟨zm_105, zk_105⟩
  | 106, _, _ => ⟨zm_106, zk_106⟩
  | 107, _, _ => ⟨zm_107, zk_107⟩
  | 108, _, _ => ⟨zm_108, zk_108⟩
  | 109, _, _ => ⟨zm_109, zk_109⟩
  | 110, _, _ => ⟨zm_110, zk_110⟩
  | 111, _, _ => ⟨zm_111, zk_111⟩
  | 112, _, _ => ⟨zm_112, zk_112⟩
  | 113, _, _ => ⟨zm_113, zk_113⟩
  | 114, _, _ => ⟨zm_114, zk_114⟩
  | 115, _, _ => ⟨zm_115, zk_115⟩
  | 116, _, _ => ⟨zm_116, zk_116⟩
  | 117, _, _ => ⟨zm_117, zk_117⟩
  | 118, _, _ => ⟨zm_118, zk_118⟩
  | 119, _, _ => ⟨zm_119, zk_119⟩
  | 120, _, _ => ⟨zm_120, zk_120⟩
  | 121, _, _ => ⟨zm_121, zk_121⟩
  | 122, _, _ => ⟨zm_122, zk_122⟩
  | 123, _, _ => ⟨zm_123, zk_123⟩
  | 124, _, _ => ⟨zm_124, zk_124⟩
  | 125, _, _ => ⟨zm_125, zk_125⟩
  | 126, _, _ => ⟨zm_126, zk_126⟩
  | 127, _, _ => ⟨zm_127, zk_127⟩
  | 128, _, _ => ⟨zm_128, zk_128⟩
  | 129, _, _ => ⟨zm_129, zk_129⟩
  | 130, _, _ => ⟨zm_130, zk_130⟩
  | 131, _, _ => ⟨zm_131, zk_131⟩
  | 132, _, _ => ⟨zm_132, zk_132⟩
  | 133, _, _ => ⟨zm_133, zk_133⟩
  | 134, _, _ => ⟨zm_134, zk_134⟩
  | 135, _, _ => ⟨zm_135, zk_135⟩
  | 136, _, _ => ⟨zm_136, zk_136⟩
  | 137, _, _ => ⟨zm_137, zk_137⟩
  | 138, _, _ => ⟨zm_138, zk_138⟩
  | 139, _, _ => ⟨zm_139, zk_139⟩
  | 140, _, _ => ⟨zm_140, zk_140⟩
  | 141, _, _ => ⟨zm_141, zk_141⟩
  | 142, _, _ => ⟨zm_142, zk_142⟩
  | 143, _, _ => ⟨zm_143, zk_143⟩
  | 144, _, _ => ⟨zm_144, zk_144⟩
  | 145, _, _ => ⟨zm_145, zk_145⟩
  | 146, _, _ => ⟨zm_146, zk_146⟩
  | 147, _, _ => ⟨zm_147, zk_147⟩
  | 148, _, _ => ⟨zm_148, zk_148⟩
  | 149, _, _ => ⟨zm_149, zk_149⟩
  | 150, _, _ => ⟨zm_150, zk_150⟩
  | 151, _, _ => ⟨zm_151, zk_151⟩
  | 152, _, _ => ⟨zm_152, zk_152⟩
  | 153, _, _ => ⟨zm_153, zk_153⟩
  | 154, _, _ => ⟨zm_154, zk_154⟩
  | 155, _, _ => ⟨zm_155, zk_155⟩
  | 156, _, _ => ⟨zm_156, zk_156⟩
  | 157, _, _ => ⟨zm_157, zk_157⟩
  | 158, _, _ => ⟨zm_158, zk_158⟩
  | 159, _, _ => ⟨zm_159, zk_159⟩
  | 160, _, _ => ⟨zm_160, zk_160⟩
  | 161, _, _ => ⟨zm_161, zk_161⟩
  | 162, _, _ => ⟨zm_162, zk_162⟩
  | 163, _, _ => ⟨zm_163, zk_163⟩
  | 164, _, _ => ⟨zm_164, zk_164⟩
  | 165, _, _ => ⟨zm_165, zk_165⟩
  | 166, _, _ => ⟨zm_166, zk_166⟩
  | 167, _, _ => ⟨zm_167, zk_167⟩
  | 168, _, _ => ⟨zm_168, zk_168⟩
  | 169, _, _ => ⟨zm_169, zk_169⟩
  | 170, _, _ => ⟨zm_170, zk_170⟩
  | 171, _, _ => ⟨zm_171, zk_171⟩
  | 172, _, _ => ⟨zm_172, zk_172⟩
  | 173, _, _ => ⟨zm_173, zk_173⟩
  | 174, _, _ => ⟨zm_174, zk_174⟩
  | 175, _, _ => ⟨zm_175, zk_175⟩
  | 176, _, _ => ⟨zm_176, zk_176⟩
  | 177, _, _ => ⟨zm_177, zk_177⟩
  | 178, _, h => absurd rfl h
  | 179, _, _ => ⟨zm_179, zk_179⟩
  | 180, _, _ => ⟨zm_180, zk_180⟩
  | 181, _, _ => ⟨zm_181, zk_181⟩
  | 182, _, _ => ⟨zm_182, zk_182⟩
  | 183, _, _ => ⟨zm_183, zk_183⟩
  | 184, _, _ => ⟨zm_184, zk_184⟩
  | 185, _, _ => ⟨zm_185, zk_185⟩
  | 186, _, _ => ⟨zm_186, zk_186⟩
  | 187, _, _ => ⟨zm_187, zk_187⟩
  | 188, _, _ => ⟨zm_188, zk_188⟩
  | 189, _, _ => ⟨zm_189, zk_189⟩
  | 190, _, _ => ⟨zm_190, zk_190⟩
  | 191, _, _ => ⟨zm_191, zk_191⟩
  | 192, _, _ => ⟨zm_192, zk_192⟩
  | 193, _, _ => ⟨zm_193, zk_193⟩
  | 194, _, _ => ⟨zm_194, zk_194⟩
  | 195, _, _ => ⟨zm_195, zk_195⟩
  | 196, _, _ => ⟨zm_196, zk_196⟩
  | 197, _, _ => ⟨zm_197, zk_197⟩
  | 198, _, _ => ⟨zm_198, zk_198⟩
  | 199, _, _ => ⟨zm_199, zk_199⟩
  | 200, _, _ => ⟨zm_200, zk_200⟩
  | 201, _, _ => ⟨zm_201, zk_201⟩
  | 202, _, _ => ⟨zm_202, zk_202⟩
  | 203, _, _ => ⟨zm_203, zk_203⟩
  | 204, _, _ => ⟨zm_204, zk_204⟩
  | 205, _, _ => ⟨zm_205, zk_205⟩
  | 206, _, _ => ⟨zm_206, zk_206⟩
  | 207, _, _ => ⟨zm_207, zk_207⟩
  | 208, _, _ => ⟨zm_208, zk_208⟩
  | 209, _, _ => ⟨zm_209, zk_209⟩
  | 210, _, _ => ⟨zm_210, zk_210⟩
  | 211, _, _ => ⟨zm_211, zk_211⟩
  | 212, _, _ => ⟨zm_212, zk_212⟩
  | 213, _, _ => ⟨zm_213, zk_213⟩
  | 214, _, _ => ⟨zm_214, zk_214⟩
  | 215, _, _ => ⟨zm_215, zk_215⟩
  | 216, _, _ => ⟨zm_216, zk_216⟩
  | 217, _, _ => ⟨zm_217, zk_217⟩
  | 218, _, _ => ⟨zm_218, zk_218⟩
  | 219, _, _ => ⟨zm_219, zk_219⟩
  | 220, _, _ => ⟨zm_220, zk_220⟩
  | 221, _, _ => ⟨zm_221, zk_221⟩
  | 222, _, _ => ⟨zm_222, zk_222⟩
  | 223, _, _ => ⟨zm_223, zk_223⟩
  | n + 224, h, _ => absurd h (by omega)
end
section
/-! RULES OF zV, an instruction each: what touches no memory -/
theorem zfind_mem {pc : Nat} {q : Instr × Nat × Nat × Nat × Nat} : ∀ {t : List zE}, zfind pc t = some q → (pc, q) ∈ t
  | [], h => by simp [zfind] at h
  | e :: t, h => by
    unfold zfind at h
    cases hb : Nat.beq e.1 pc with
    | true =>
      rw [hb] at h
      have h1 : e.1 = pc := Nat.eq_of_beq_eq_true hb
      have h2 : e.2 = q := Option.some.inj h
      rw [← h1, ← h2]
      exact List.mem_cons_self
    | false =>
      rw [hb] at h
      exact List.mem_cons_of_mem _ (zfind_mem h)
theorem zl_dec {mi pc len r1 r2 r3 : Nat} {i : Instr} (h : zl mi pc = some (i, len, r1, r2, r3)) : decode (zB mi) pc = .ok (i, len) := by
  have h1 := List.all_eq_true.mp (zd_all mi) _ (zfind_mem h)
  unfold zdc at h1
  dsimp only at h1
  split at h1
  · rename_i q hq
    rw [hq, of_decide_eq_true h1]
  · cases h1
theorem zl_wc {mi pc len r1 r2 r3 : Nat} {i : Instr} (h : zl mi pc = some (i, len, r1, r2, r3)) : zwc mi (pc, i, len, r1, r2, r3) = true := List.all_eq_true.mp (zw_all mi) _ (zfind_mem h)
theorem zTs_in {i : Nat} {w : Cond} (h : zhas i w = true) (g : goodWord w = true) : w ∈ zTs := List.mem_filter.mpr ⟨List.mem_of_getElem? (of_decide_eq_true h), g⟩
theorem zTf_in {i : Nat} {w : Cond} (h : zhas i w = true) (g : (w.faceAtom || zisN w) = true) : w ∈ zTf := List.mem_filter.mpr ⟨List.mem_of_getElem? (of_decide_eq_true h), g⟩
def zlk : List (Nat × Value) → Nat → Option Value
  | [], _ => none
  | q :: t, i => match Nat.beq q.1 i with
    | true => some q.2
    | false => zlk t i
theorem zlk_mem {i : Nat} {v : Value} : ∀ {ls : List (Nat × Value)}, zlk ls i = some v → (i, v) ∈ ls
  | [], h => by simp [zlk] at h
  | q :: t, h => by
    unfold zlk at h
    cases hb : Nat.beq q.1 i with
    | true =>
      rw [hb] at h
      have h1 : q.1 = i := Nat.eq_of_beq_eq_true hb
      have h2 : q.2 = v := Option.some.inj h
      rw [← h1, ← h2]
      exact List.mem_cons_self
    | false =>
      rw [hb] at h
      exact List.mem_cons_of_mem _ (zlk_mem h)
theorem zlk_at {ls : List (Nat × Value)} {lsr : Array Slot} {nL i : Nat} {v : Value} (hl : lv_has lsr nL ls) (h : zlk ls i = some v) : lsr[i]? = some (.val v) := hl.2.2 (i, v) (zlk_mem h)
/-- a store of a value of one slot, of two -/
def zs1 (ls : List (Nat × Value)) (i : Nat) (v : Value) : List (Nat × Value) := (i, v) :: ls.filter (fun q => !(q.1 == i) && !(q.1 + 1 == i && q.2.category == 2))
def zs2 (ls : List (Nat × Value)) (i : Nat) (v : Value) : List (Nat × Value) := (i, v) :: ls.filter (fun q => !(q.1 == i) && (!(q.1 == i + 1) && !(q.1 + 1 == i && q.2.category == 2)))
section ZV
variable {l : Launch} {X : zX} {d bc bs mi pc : Nat} {ls : List (Nat × Value)} {st : List Value} {n : Nat} {K : zKT} {P : zPT} {I : zIT} {L : zLT} {Post : zPost} {r1 r2 r3 : Nat}
theorem zV_ls {ls' : List (Nat × Value)} (e : ls = ls') (k : zV l X d bc bs mi pc ls' st n K P I L Post) : zV l X d bc bs mi pc ls st n K P I L Post := e ▸ k
theorem zV_st {st' : List Value} (e : st = st') (k : zV l X d bc bs mi pc ls st' n K P I L Post) : zV l X d bc bs mi pc ls st n K P I L Post := e ▸ k
theorem zV_I {I' : zIT} (e : I = I') (k : zV l X d bc bs mi pc ls st n K P I' L Post) : zV l X d bc bs mi pc ls st n K P I L Post := e ▸ k
theorem zV_post {Post' : zPost} (h : ∀ r n K P I L, Post' r n K P I L → Post r n K P I L) (k : zV l X d bc bs mi pc ls st n K P I L Post') : zV l X d bc bs mi pc ls st n K P I L Post := by
  intro p e R s m args below meth c H locs cells slots mc ms lsr S D hl T hT Y
  obtain ⟨t, a, o, b1, b2, b3⟩ := k p e R s m args below meth c H locs cells slots mc ms lsr S D hl T hT Y
  refine ⟨t, a, o, b1, b2, ?_⟩
  rcases b3 with ⟨⟨⟨v, n1, K1, P1, I1, L1, q1, q2, q3⟩, q4⟩, b4⟩ | ⟨q, q1, E, ce, LL, ⟨⟨x, n1, K1, P1, I1, L1, x1, x2, x3, x4⟩, q4⟩, q5⟩
  · exact Or.inl ⟨⟨⟨v, n1, K1, P1, I1, L1, q1, h _ _ _ _ _ _ q2, q3⟩, q4⟩, b4⟩
  · exact Or.inr ⟨q, q1, E, ce, LL, ⟨⟨x, n1, K1, P1, I1, L1, x1, x2, h _ _ _ _ _ _ x3, x4⟩, q4⟩, q5⟩
theorem zV_iconst {i : Int} {v : Int32} (h : zl mi pc = some (.iconst i, 1, r1, r2, r3)) (hv : Int32.ofInt i = v) (k : zV l X d bc bs mi (pc + 1) ls (.int v :: st) n K P I L Post) : zV l X d bc bs mi pc ls (st) n K P I L Post := fun p e R s m args below meth c H locs cells slots mc ms lsr S D hl => lv_iconst S.1 S.2.1 (zl_dec h) hv (k p e R s m args below meth c H locs cells slots mc ms lsr S D hl)
theorem zV_bipush {i : Int} {v : Int32} (h : zl mi pc = some (.bipush i, 2, r1, r2, r3)) (hv : (Int8.ofInt i).toInt32 = v) (k : zV l X d bc bs mi (pc + 2) ls (.int v :: st) n K P I L Post) : zV l X d bc bs mi pc ls (st) n K P I L Post := fun p e R s m args below meth c H locs cells slots mc ms lsr S D hl => lv_bipush S.1 S.2.1 (zl_dec h) hv (k p e R s m args below meth c H locs cells slots mc ms lsr S D hl)
theorem zV_sipush {i : Int} {v : Int32} (h : zl mi pc = some (.sipush i, 3, r1, r2, r3)) (hv : (Int16.ofInt i).toInt32 = v) (k : zV l X d bc bs mi (pc + 3) ls (.int v :: st) n K P I L Post) : zV l X d bc bs mi pc ls (st) n K P I L Post := fun p e R s m args below meth c H locs cells slots mc ms lsr S D hl => lv_sipush S.1 S.2.1 (zl_dec h) hv (k p e R s m args below meth c H locs cells slots mc ms lsr S D hl)
theorem zV_lconst {i : Fin 2} {v : Int64} (h : zl mi pc = some (.lconst i, 1, r1, r2, r3)) (hv : Int64.ofNat (i : Nat) = v) (k : zV l X d bc bs mi (pc + 1) ls (.long v :: st) n K P I L Post) : zV l X d bc bs mi pc ls (st) n K P I L Post := fun p e R s m args below meth c H locs cells slots mc ms lsr S D hl => lv_lconst S.1 S.2.1 (zl_dec h) hv (k p e R s m args below meth c H locs cells slots mc ms lsr S D hl)
theorem zV_fconst0 (h : zl mi pc = some (.fconst 0, 1, r1, r2, r3)) (k : zV l X d bc bs mi (pc + 1) ls (.float FP.fconst0 :: st) n K P I L Post) : zV l X d bc bs mi pc ls (st) n K P I L Post := fun p e R s m args below meth c H locs cells slots mc ms lsr S D hl => lv_fconst0 S.1 S.2.1 (zl_dec h) (k p e R s m args below meth c H locs cells slots mc ms lsr S D hl)
theorem zV_fconst1 (h : zl mi pc = some (.fconst 1, 1, r1, r2, r3)) (k : zV l X d bc bs mi (pc + 1) ls (.float FP.fconst1 :: st) n K P I L Post) : zV l X d bc bs mi pc ls (st) n K P I L Post := fun p e R s m args below meth c H locs cells slots mc ms lsr S D hl => lv_fconst1 S.1 S.2.1 (zl_dec h) (k p e R s m args below meth c H locs cells slots mc ms lsr S D hl)
theorem zV_fconst2 (h : zl mi pc = some (.fconst 2, 1, r1, r2, r3)) (k : zV l X d bc bs mi (pc + 1) ls (.float FP.fconst2 :: st) n K P I L Post) : zV l X d bc bs mi pc ls (st) n K P I L Post := fun p e R s m args below meth c H locs cells slots mc ms lsr S D hl => lv_fconst2 S.1 S.2.1 (zl_dec h) (k p e R s m args below meth c H locs cells slots mc ms lsr S D hl)
theorem zV_dconst0 (h : zl mi pc = some (.dconst 0, 1, r1, r2, r3)) (k : zV l X d bc bs mi (pc + 1) ls (.double FP.dconst0 :: st) n K P I L Post) : zV l X d bc bs mi pc ls (st) n K P I L Post := fun p e R s m args below meth c H locs cells slots mc ms lsr S D hl => lv_dconst0 S.1 S.2.1 (zl_dec h) (k p e R s m args below meth c H locs cells slots mc ms lsr S D hl)
theorem zV_dconst1 (h : zl mi pc = some (.dconst 1, 1, r1, r2, r3)) (k : zV l X d bc bs mi (pc + 1) ls (.double FP.dconst1 :: st) n K P I L Post) : zV l X d bc bs mi pc ls (st) n K P I L Post := fun p e R s m args below meth c H locs cells slots mc ms lsr S D hl => lv_dconst1 S.1 S.2.1 (zl_dec h) (k p e R s m args below meth c H locs cells slots mc ms lsr S D hl)
theorem zV_aconst_null (h : zl mi pc = some (.aconst_null, 1, r1, r2, r3)) (k : zV l X d bc bs mi (pc + 1) ls (.null :: st) n K P I L Post) : zV l X d bc bs mi pc ls (st) n K P I L Post := fun p e R s m args below meth c H locs cells slots mc ms lsr S D hl => lv_null S.1 S.2.1 (zl_dec h) (k p e R s m args below meth c H locs cells slots mc ms lsr S D hl)
theorem zV_iload_n {i : Fin 4} {x : Int32} (h : zl mi pc = some (.iload_n i, 1, r1, r2, r3)) (hx : zlk ls (i : Nat) = some (.int x)) (k : zV l X d bc bs mi (pc + 1) ls (.int x :: st) n K P I L Post) : zV l X d bc bs mi pc ls (st) n K P I L Post := fun p e R s m args below meth c H locs cells slots mc ms lsr S D hl => lv_iload_n S.1 S.2.1 (zl_dec h) rfl (zlk_at hl hx) (k p e R s m args below meth c H locs cells slots mc ms lsr S D hl)
theorem zV_iload {i : Nat} {x : Int32} (h : zl mi pc = some (.iload i, 2, r1, r2, r3)) (hx : zlk ls i = some (.int x)) (k : zV l X d bc bs mi (pc + 2) ls (.int x :: st) n K P I L Post) : zV l X d bc bs mi pc ls (st) n K P I L Post := fun p e R s m args below meth c H locs cells slots mc ms lsr S D hl => lv_iload S.1 S.2.1 (zl_dec h) (zlk_at hl hx) (k p e R s m args below meth c H locs cells slots mc ms lsr S D hl)
theorem zV_istore_n {i : Fin 4} {x : Int32} {ls' : List (Nat × Value)} (h : zl mi pc = some (.istore_n i, 1, r1, r2, r3)) (hn : (i : Nat) < zL mi) (hs : zs1 ls (i : Nat) (.int x) = ls') (k : zV l X d bc bs mi (pc + 1) ls' st n K P I L Post) : zV l X d bc bs mi pc ls (.int x :: st) n K P I L Post := fun p e R s m args below meth c H locs cells slots mc ms lsr S D hl => lv_istore_n S.1 S.2.1 (zl_dec h) rfl hl hn hs (fun lsr hl => k p e R s m args below meth c H locs cells slots mc ms lsr S D hl)
theorem zV_istore {i : Nat} {x : Int32} {ls' : List (Nat × Value)} (h : zl mi pc = some (.istore i, 2, r1, r2, r3)) (hn : i < zL mi) (hs : zs1 ls i (.int x) = ls') (k : zV l X d bc bs mi (pc + 2) ls' st n K P I L Post) : zV l X d bc bs mi pc ls (.int x :: st) n K P I L Post := fun p e R s m args below meth c H locs cells slots mc ms lsr S D hl => lv_istore S.1 S.2.1 (zl_dec h) hl hn hs (fun lsr hl => k p e R s m args below meth c H locs cells slots mc ms lsr S D hl)
theorem zV_lload_n {i : Fin 4} {x : Int64} (h : zl mi pc = some (.lload_n i, 1, r1, r2, r3)) (hx : zlk ls (i : Nat) = some (.long x)) (k : zV l X d bc bs mi (pc + 1) ls (.long x :: st) n K P I L Post) : zV l X d bc bs mi pc ls (st) n K P I L Post := fun p e R s m args below meth c H locs cells slots mc ms lsr S D hl => lv_lload_n S.1 S.2.1 (zl_dec h) rfl (zlk_at hl hx) (k p e R s m args below meth c H locs cells slots mc ms lsr S D hl)
theorem zV_lload {i : Nat} {x : Int64} (h : zl mi pc = some (.lload i, 2, r1, r2, r3)) (hx : zlk ls i = some (.long x)) (k : zV l X d bc bs mi (pc + 2) ls (.long x :: st) n K P I L Post) : zV l X d bc bs mi pc ls (st) n K P I L Post := fun p e R s m args below meth c H locs cells slots mc ms lsr S D hl => lv_lload S.1 S.2.1 (zl_dec h) (zlk_at hl hx) (k p e R s m args below meth c H locs cells slots mc ms lsr S D hl)
theorem zV_lstore_n {i : Fin 4} {x : Int64} {ls' : List (Nat × Value)} (h : zl mi pc = some (.lstore_n i, 1, r1, r2, r3)) (hn : (i : Nat) + 1 < zL mi) (hs : zs2 ls (i : Nat) (.long x) = ls') (k : zV l X d bc bs mi (pc + 1) ls' st n K P I L Post) : zV l X d bc bs mi pc ls (.long x :: st) n K P I L Post := fun p e R s m args below meth c H locs cells slots mc ms lsr S D hl => lv_lstore_n S.1 S.2.1 (zl_dec h) rfl hl hn hs (fun lsr hl => k p e R s m args below meth c H locs cells slots mc ms lsr S D hl)
theorem zV_lstore {i : Nat} {x : Int64} {ls' : List (Nat × Value)} (h : zl mi pc = some (.lstore i, 2, r1, r2, r3)) (hn : i + 1 < zL mi) (hs : zs2 ls i (.long x) = ls') (k : zV l X d bc bs mi (pc + 2) ls' st n K P I L Post) : zV l X d bc bs mi pc ls (.long x :: st) n K P I L Post := fun p e R s m args below meth c H locs cells slots mc ms lsr S D hl => lv_lstore S.1 S.2.1 (zl_dec h) hl hn hs (fun lsr hl => k p e R s m args below meth c H locs cells slots mc ms lsr S D hl)
theorem zV_fload_n {i : Fin 4} {x : UInt32} (h : zl mi pc = some (.fload_n i, 1, r1, r2, r3)) (hx : zlk ls (i : Nat) = some (.float x)) (k : zV l X d bc bs mi (pc + 1) ls (.float x :: st) n K P I L Post) : zV l X d bc bs mi pc ls (st) n K P I L Post := fun p e R s m args below meth c H locs cells slots mc ms lsr S D hl => lv_fload_n S.1 S.2.1 (zl_dec h) rfl (zlk_at hl hx) (k p e R s m args below meth c H locs cells slots mc ms lsr S D hl)
theorem zV_fload {i : Nat} {x : UInt32} (h : zl mi pc = some (.fload i, 2, r1, r2, r3)) (hx : zlk ls i = some (.float x)) (k : zV l X d bc bs mi (pc + 2) ls (.float x :: st) n K P I L Post) : zV l X d bc bs mi pc ls (st) n K P I L Post := fun p e R s m args below meth c H locs cells slots mc ms lsr S D hl => lv_fload S.1 S.2.1 (zl_dec h) (zlk_at hl hx) (k p e R s m args below meth c H locs cells slots mc ms lsr S D hl)
theorem zV_fstore_n {i : Fin 4} {x : UInt32} {ls' : List (Nat × Value)} (h : zl mi pc = some (.fstore_n i, 1, r1, r2, r3)) (hn : (i : Nat) < zL mi) (hs : zs1 ls (i : Nat) (.float x) = ls') (k : zV l X d bc bs mi (pc + 1) ls' st n K P I L Post) : zV l X d bc bs mi pc ls (.float x :: st) n K P I L Post := fun p e R s m args below meth c H locs cells slots mc ms lsr S D hl => lv_fstore_n S.1 S.2.1 (zl_dec h) rfl hl hn hs (fun lsr hl => k p e R s m args below meth c H locs cells slots mc ms lsr S D hl)
theorem zV_fstore {i : Nat} {x : UInt32} {ls' : List (Nat × Value)} (h : zl mi pc = some (.fstore i, 2, r1, r2, r3)) (hn : i < zL mi) (hs : zs1 ls i (.float x) = ls') (k : zV l X d bc bs mi (pc + 2) ls' st n K P I L Post) : zV l X d bc bs mi pc ls (.float x :: st) n K P I L Post := fun p e R s m args below meth c H locs cells slots mc ms lsr S D hl => lv_fstore S.1 S.2.1 (zl_dec h) hl hn hs (fun lsr hl => k p e R s m args below meth c H locs cells slots mc ms lsr S D hl)
theorem zV_dload_n {i : Fin 4} {x : UInt64} (h : zl mi pc = some (.dload_n i, 1, r1, r2, r3)) (hx : zlk ls (i : Nat) = some (.double x)) (k : zV l X d bc bs mi (pc + 1) ls (.double x :: st) n K P I L Post) : zV l X d bc bs mi pc ls (st) n K P I L Post := fun p e R s m args below meth c H locs cells slots mc ms lsr S D hl => lv_dload_n S.1 S.2.1 (zl_dec h) rfl (zlk_at hl hx) (k p e R s m args below meth c H locs cells slots mc ms lsr S D hl)
theorem zV_dload {i : Nat} {x : UInt64} (h : zl mi pc = some (.dload i, 2, r1, r2, r3)) (hx : zlk ls i = some (.double x)) (k : zV l X d bc bs mi (pc + 2) ls (.double x :: st) n K P I L Post) : zV l X d bc bs mi pc ls (st) n K P I L Post := fun p e R s m args below meth c H locs cells slots mc ms lsr S D hl => lv_dload S.1 S.2.1 (zl_dec h) (zlk_at hl hx) (k p e R s m args below meth c H locs cells slots mc ms lsr S D hl)
theorem zV_dstore_n {i : Fin 4} {x : UInt64} {ls' : List (Nat × Value)} (h : zl mi pc = some (.dstore_n i, 1, r1, r2, r3)) (hn : (i : Nat) + 1 < zL mi) (hs : zs2 ls (i : Nat) (.double x) = ls') (k : zV l X d bc bs mi (pc + 1) ls' st n K P I L Post) : zV l X d bc bs mi pc ls (.double x :: st) n K P I L Post := fun p e R s m args below meth c H locs cells slots mc ms lsr S D hl => lv_dstore_n S.1 S.2.1 (zl_dec h) rfl hl hn hs (fun lsr hl => k p e R s m args below meth c H locs cells slots mc ms lsr S D hl)
theorem zV_dstore {i : Nat} {x : UInt64} {ls' : List (Nat × Value)} (h : zl mi pc = some (.dstore i, 2, r1, r2, r3)) (hn : i + 1 < zL mi) (hs : zs2 ls i (.double x) = ls') (k : zV l X d bc bs mi (pc + 2) ls' st n K P I L Post) : zV l X d bc bs mi pc ls (.double x :: st) n K P I L Post := fun p e R s m args below meth c H locs cells slots mc ms lsr S D hl => lv_dstore S.1 S.2.1 (zl_dec h) hl hn hs (fun lsr hl => k p e R s m args below meth c H locs cells slots mc ms lsr S D hl)
theorem zV_aload_n {i : Fin 4} {x : Nat} (h : zl mi pc = some (.aload_n i, 1, r1, r2, r3)) (hx : zlk ls (i : Nat) = some (.ref x)) (k : zV l X d bc bs mi (pc + 1) ls (.ref x :: st) n K P I L Post) : zV l X d bc bs mi pc ls (st) n K P I L Post := fun p e R s m args below meth c H locs cells slots mc ms lsr S D hl => lv_aload_n S.1 S.2.1 (zl_dec h) rfl (zlk_at hl hx) (k p e R s m args below meth c H locs cells slots mc ms lsr S D hl)
theorem zV_aload {i : Nat} {x : Nat} (h : zl mi pc = some (.aload i, 2, r1, r2, r3)) (hx : zlk ls i = some (.ref x)) (k : zV l X d bc bs mi (pc + 2) ls (.ref x :: st) n K P I L Post) : zV l X d bc bs mi pc ls (st) n K P I L Post := fun p e R s m args below meth c H locs cells slots mc ms lsr S D hl => lv_aload S.1 S.2.1 (zl_dec h) (zlk_at hl hx) (k p e R s m args below meth c H locs cells slots mc ms lsr S D hl)
theorem zV_astore_n {i : Fin 4} {x : Nat} {ls' : List (Nat × Value)} (h : zl mi pc = some (.astore_n i, 1, r1, r2, r3)) (hn : (i : Nat) < zL mi) (hs : zs1 ls (i : Nat) (.ref x) = ls') (k : zV l X d bc bs mi (pc + 1) ls' st n K P I L Post) : zV l X d bc bs mi pc ls (.ref x :: st) n K P I L Post := fun p e R s m args below meth c H locs cells slots mc ms lsr S D hl => lv_astore_n S.1 S.2.1 (zl_dec h) rfl hl hn hs (fun lsr hl => k p e R s m args below meth c H locs cells slots mc ms lsr S D hl)
theorem zV_astore {i : Nat} {x : Nat} {ls' : List (Nat × Value)} (h : zl mi pc = some (.astore i, 2, r1, r2, r3)) (hn : i < zL mi) (hs : zs1 ls i (.ref x) = ls') (k : zV l X d bc bs mi (pc + 2) ls' st n K P I L Post) : zV l X d bc bs mi pc ls (.ref x :: st) n K P I L Post := fun p e R s m args below meth c H locs cells slots mc ms lsr S D hl => lv_astore S.1 S.2.1 (zl_dec h) hl hn hs (fun lsr hl => k p e R s m args below meth c H locs cells slots mc ms lsr S D hl)
theorem zV_aload_nN {i : Fin 4} (h : zl mi pc = some (.aload_n i, 1, r1, r2, r3)) (hx : zlk ls (i : Nat) = some .null) (k : zV l X d bc bs mi (pc + 1) ls (.null :: st) n K P I L Post) : zV l X d bc bs mi pc ls (st) n K P I L Post := fun p e R s m args below meth c H locs cells slots mc ms lsr S D hl => lv_aload_nN S.1 S.2.1 (zl_dec h) rfl (zlk_at hl hx) (k p e R s m args below meth c H locs cells slots mc ms lsr S D hl)
theorem zV_iinc {i : Nat} {j : Int} {x v : Int32} {ls' : List (Nat × Value)} (h : zl mi pc = some (.iinc i j, 3, r1, r2, r3)) (hx : zlk ls i = some (.int x)) (hv : x + Int32.ofInt j = v) (hn : i < zL mi) (hs : zs1 ls i (.int v) = ls') (k : zV l X d bc bs mi (pc + 3) ls' st n K P I L Post) : zV l X d bc bs mi pc ls st n K P I L Post := by
  intro p e R s m args below meth c H locs cells slots mc ms lsr S D hl
  obtain ⟨kk, hk⟩ := List.getElem?_of_mem (zlk_mem hx)
  exact lv_iinc S.1 S.2.1 (zl_dec h) hl hk hv hn hs (fun lsr hl => k p e R s m args below meth c H locs cells slots mc ms lsr S D hl)
theorem zV_iadd {x y : Int32} (h : zl mi pc = some (.iadd, 1, r1, r2, r3)) (k : zV l X d bc bs mi (pc + 1) ls (.int (x + y) :: st) n K P I L Post) : zV l X d bc bs mi pc ls (.int y :: .int x :: st) n K P I L Post := fun p e R s m args below meth c H locs cells slots mc ms lsr S D hl => lv_iadd S.1 S.2.1 (zl_dec h) (k p e R s m args below meth c H locs cells slots mc ms lsr S D hl)
theorem zV_isub {x y : Int32} (h : zl mi pc = some (.isub, 1, r1, r2, r3)) (k : zV l X d bc bs mi (pc + 1) ls (.int (x - y) :: st) n K P I L Post) : zV l X d bc bs mi pc ls (.int y :: .int x :: st) n K P I L Post := fun p e R s m args below meth c H locs cells slots mc ms lsr S D hl => lv_isub S.1 S.2.1 (zl_dec h) (k p e R s m args below meth c H locs cells slots mc ms lsr S D hl)
theorem zV_imul {x y : Int32} (h : zl mi pc = some (.imul, 1, r1, r2, r3)) (k : zV l X d bc bs mi (pc + 1) ls (.int (x * y) :: st) n K P I L Post) : zV l X d bc bs mi pc ls (.int y :: .int x :: st) n K P I L Post := fun p e R s m args below meth c H locs cells slots mc ms lsr S D hl => lv_imul S.1 S.2.1 (zl_dec h) (k p e R s m args below meth c H locs cells slots mc ms lsr S D hl)
theorem zV_iand {x y : Int32} (h : zl mi pc = some (.iand, 1, r1, r2, r3)) (k : zV l X d bc bs mi (pc + 1) ls (.int (x &&& y) :: st) n K P I L Post) : zV l X d bc bs mi pc ls (.int y :: .int x :: st) n K P I L Post := fun p e R s m args below meth c H locs cells slots mc ms lsr S D hl => lv_iand S.1 S.2.1 (zl_dec h) (k p e R s m args below meth c H locs cells slots mc ms lsr S D hl)
theorem zV_ior {x y : Int32} (h : zl mi pc = some (.ior, 1, r1, r2, r3)) (k : zV l X d bc bs mi (pc + 1) ls (.int (x ||| y) :: st) n K P I L Post) : zV l X d bc bs mi pc ls (.int y :: .int x :: st) n K P I L Post := fun p e R s m args below meth c H locs cells slots mc ms lsr S D hl => lv_ior S.1 S.2.1 (zl_dec h) (k p e R s m args below meth c H locs cells slots mc ms lsr S D hl)
theorem zV_ixor {x y : Int32} (h : zl mi pc = some (.ixor, 1, r1, r2, r3)) (k : zV l X d bc bs mi (pc + 1) ls (.int (x ^^^ y) :: st) n K P I L Post) : zV l X d bc bs mi pc ls (.int y :: .int x :: st) n K P I L Post := fun p e R s m args below meth c H locs cells slots mc ms lsr S D hl => lv_ixor S.1 S.2.1 (zl_dec h) (k p e R s m args below meth c H locs cells slots mc ms lsr S D hl)
theorem zV_idiv {x y : Int32} (h : zl mi pc = some (.idiv, 1, r1, r2, r3)) (hne : ¬ y = 0) (k : zV l X d bc bs mi (pc + 1) ls (.int (x / y) :: st) n K P I L Post) : zV l X d bc bs mi pc ls (.int y :: .int x :: st) n K P I L Post := fun p e R s m args below meth c H locs cells slots mc ms lsr S D hl => lv_idiv S.1 S.2.1 (zl_dec h) hne (k p e R s m args below meth c H locs cells slots mc ms lsr S D hl)
theorem zV_irem {x y : Int32} (h : zl mi pc = some (.irem, 1, r1, r2, r3)) (hne : ¬ y = 0) (k : zV l X d bc bs mi (pc + 1) ls (.int (x - x / y * y) :: st) n K P I L Post) : zV l X d bc bs mi pc ls (.int y :: .int x :: st) n K P I L Post := fun p e R s m args below meth c H locs cells slots mc ms lsr S D hl => lv_irem S.1 S.2.1 (zl_dec h) hne (k p e R s m args below meth c H locs cells slots mc ms lsr S D hl)
theorem zV_ineg {x : Int32} (h : zl mi pc = some (.ineg, 1, r1, r2, r3)) (k : zV l X d bc bs mi (pc + 1) ls (.int (-x) :: st) n K P I L Post) : zV l X d bc bs mi pc ls (.int x :: st) n K P I L Post := fun p e R s m args below meth c H locs cells slots mc ms lsr S D hl => lv_ineg S.1 S.2.1 (zl_dec h) (k p e R s m args below meth c H locs cells slots mc ms lsr S D hl)
theorem zV_ishl {x y : Int32} (h : zl mi pc = some (.ishl, 1, r1, r2, r3)) (k : zV l X d bc bs mi (pc + 1) ls (.int (x <<< (y &&& 31)) :: st) n K P I L Post) : zV l X d bc bs mi pc ls (.int y :: .int x :: st) n K P I L Post := fun p e R s m args below meth c H locs cells slots mc ms lsr S D hl => lv_ishl S.1 S.2.1 (zl_dec h) (k p e R s m args below meth c H locs cells slots mc ms lsr S D hl)
theorem zV_ishr {x y : Int32} (h : zl mi pc = some (.ishr, 1, r1, r2, r3)) (k : zV l X d bc bs mi (pc + 1) ls (.int (x >>> (y &&& 31)) :: st) n K P I L Post) : zV l X d bc bs mi pc ls (.int y :: .int x :: st) n K P I L Post := fun p e R s m args below meth c H locs cells slots mc ms lsr S D hl => lv_ishr S.1 S.2.1 (zl_dec h) (k p e R s m args below meth c H locs cells slots mc ms lsr S D hl)
theorem zV_iushr {x y v : Int32} (h : zl mi pc = some (.iushr, 1, r1, r2, r3)) (hv : (x.toUInt32 >>> (y.toUInt32 &&& Int32.toUInt32 31)).toInt32 = v) (k : zV l X d bc bs mi (pc + 1) ls (.int v :: st) n K P I L Post) : zV l X d bc bs mi pc ls (.int y :: .int x :: st) n K P I L Post := fun p e R s m args below meth c H locs cells slots mc ms lsr S D hl => lv_iushr S.1 S.2.1 (zl_dec h) hv (k p e R s m args below meth c H locs cells slots mc ms lsr S D hl)
theorem zV_ladd {x y : Int64} (h : zl mi pc = some (.ladd, 1, r1, r2, r3)) (k : zV l X d bc bs mi (pc + 1) ls (.long (x + y) :: st) n K P I L Post) : zV l X d bc bs mi pc ls (.long y :: .long x :: st) n K P I L Post := fun p e R s m args below meth c H locs cells slots mc ms lsr S D hl => lv_ladd S.1 S.2.1 (zl_dec h) (k p e R s m args below meth c H locs cells slots mc ms lsr S D hl)
theorem zV_lsub {x y : Int64} (h : zl mi pc = some (.lsub, 1, r1, r2, r3)) (k : zV l X d bc bs mi (pc + 1) ls (.long (x - y) :: st) n K P I L Post) : zV l X d bc bs mi pc ls (.long y :: .long x :: st) n K P I L Post := fun p e R s m args below meth c H locs cells slots mc ms lsr S D hl => lv_lsub S.1 S.2.1 (zl_dec h) (k p e R s m args below meth c H locs cells slots mc ms lsr S D hl)
theorem zV_lmul {x y : Int64} (h : zl mi pc = some (.lmul, 1, r1, r2, r3)) (k : zV l X d bc bs mi (pc + 1) ls (.long (x * y) :: st) n K P I L Post) : zV l X d bc bs mi pc ls (.long y :: .long x :: st) n K P I L Post := fun p e R s m args below meth c H locs cells slots mc ms lsr S D hl => lv_lmul S.1 S.2.1 (zl_dec h) (k p e R s m args below meth c H locs cells slots mc ms lsr S D hl)
theorem zV_land {x y : Int64} (h : zl mi pc = some (.land, 1, r1, r2, r3)) (k : zV l X d bc bs mi (pc + 1) ls (.long (x &&& y) :: st) n K P I L Post) : zV l X d bc bs mi pc ls (.long y :: .long x :: st) n K P I L Post := fun p e R s m args below meth c H locs cells slots mc ms lsr S D hl => lv_land S.1 S.2.1 (zl_dec h) (k p e R s m args below meth c H locs cells slots mc ms lsr S D hl)
theorem zV_lor {x y : Int64} (h : zl mi pc = some (.lor, 1, r1, r2, r3)) (k : zV l X d bc bs mi (pc + 1) ls (.long (x ||| y) :: st) n K P I L Post) : zV l X d bc bs mi pc ls (.long y :: .long x :: st) n K P I L Post := fun p e R s m args below meth c H locs cells slots mc ms lsr S D hl => lv_lor S.1 S.2.1 (zl_dec h) (k p e R s m args below meth c H locs cells slots mc ms lsr S D hl)
theorem zV_lxor {x y : Int64} (h : zl mi pc = some (.lxor, 1, r1, r2, r3)) (k : zV l X d bc bs mi (pc + 1) ls (.long (x ^^^ y) :: st) n K P I L Post) : zV l X d bc bs mi pc ls (.long y :: .long x :: st) n K P I L Post := fun p e R s m args below meth c H locs cells slots mc ms lsr S D hl => lv_lxor S.1 S.2.1 (zl_dec h) (k p e R s m args below meth c H locs cells slots mc ms lsr S D hl)
theorem zV_lshl {x : Int64} {y : Int32} (h : zl mi pc = some (.lshl, 1, r1, r2, r3)) (k : zV l X d bc bs mi (pc + 1) ls (.long (x <<< (y.toInt64 &&& 63)) :: st) n K P I L Post) : zV l X d bc bs mi pc ls (.int y :: .long x :: st) n K P I L Post := fun p e R s m args below meth c H locs cells slots mc ms lsr S D hl => lv_lshl S.1 S.2.1 (zl_dec h) rfl (k p e R s m args below meth c H locs cells slots mc ms lsr S D hl)
theorem zV_lushr {x : Int64} {y : Int32} (h : zl mi pc = some (.lushr, 1, r1, r2, r3)) (k : zV l X d bc bs mi (pc + 1) ls (.long ((x.toUInt64 >>> (y.toInt64.toUInt64 &&& Int64.toUInt64 63)).toInt64) :: st) n K P I L Post) : zV l X d bc bs mi pc ls (.int y :: .long x :: st) n K P I L Post := fun p e R s m args below meth c H locs cells slots mc ms lsr S D hl => lv_lushr S.1 S.2.1 (zl_dec h) rfl (k p e R s m args below meth c H locs cells slots mc ms lsr S D hl)
theorem zV_i2l {x : Int32} (h : zl mi pc = some (.i2l, 1, r1, r2, r3)) (k : zV l X d bc bs mi (pc + 1) ls (.long x.toInt64 :: st) n K P I L Post) : zV l X d bc bs mi pc ls (.int x :: st) n K P I L Post := fun p e R s m args below meth c H locs cells slots mc ms lsr S D hl => lv_i2l S.1 S.2.1 (zl_dec h) rfl (k p e R s m args below meth c H locs cells slots mc ms lsr S D hl)
theorem zV_i2b {x : Int32} (h : zl mi pc = some (.i2b, 1, r1, r2, r3)) (k : zV l X d bc bs mi (pc + 1) ls (.int x.toInt8.toInt32 :: st) n K P I L Post) : zV l X d bc bs mi pc ls (.int x :: st) n K P I L Post := fun p e R s m args below meth c H locs cells slots mc ms lsr S D hl => lv_i2b S.1 S.2.1 (zl_dec h) rfl (k p e R s m args below meth c H locs cells slots mc ms lsr S D hl)
theorem zV_i2c {x v : Int32} (h : zl mi pc = some (.i2c, 1, r1, r2, r3)) (hv : (x.toUInt32 % 65536).toInt32 = v) (k : zV l X d bc bs mi (pc + 1) ls (.int v :: st) n K P I L Post) : zV l X d bc bs mi pc ls (.int x :: st) n K P I L Post := fun p e R s m args below meth c H locs cells slots mc ms lsr S D hl => lv_i2c S.1 S.2.1 (zl_dec h) hv (k p e R s m args below meth c H locs cells slots mc ms lsr S D hl)
theorem zV_i2f {x : Int32} (h : zl mi pc = some (.i2f, 1, r1, r2, r3)) (k : zV l X d bc bs mi (pc + 1) ls (.float (FP.i2f x) :: st) n K P I L Post) : zV l X d bc bs mi pc ls (.int x :: st) n K P I L Post := fun p e R s m args below meth c H locs cells slots mc ms lsr S D hl => lv_i2f S.1 S.2.1 (zl_dec h) (k p e R s m args below meth c H locs cells slots mc ms lsr S D hl)
theorem zV_i2d {x : Int32} (h : zl mi pc = some (.i2d, 1, r1, r2, r3)) (k : zV l X d bc bs mi (pc + 1) ls (.double (FP.i2d x) :: st) n K P I L Post) : zV l X d bc bs mi pc ls (.int x :: st) n K P I L Post := fun p e R s m args below meth c H locs cells slots mc ms lsr S D hl => lv_i2d S.1 S.2.1 (zl_dec h) (k p e R s m args below meth c H locs cells slots mc ms lsr S D hl)
theorem zV_f2i {x : UInt32} (h : zl mi pc = some (.f2i, 1, r1, r2, r3)) (k : zV l X d bc bs mi (pc + 1) ls (.int (FP.f2i x) :: st) n K P I L Post) : zV l X d bc bs mi pc ls (.float x :: st) n K P I L Post := fun p e R s m args below meth c H locs cells slots mc ms lsr S D hl => lv_f2i S.1 S.2.1 (zl_dec h) (k p e R s m args below meth c H locs cells slots mc ms lsr S D hl)
theorem zV_d2l {x : UInt64} (h : zl mi pc = some (.d2l, 1, r1, r2, r3)) (k : zV l X d bc bs mi (pc + 1) ls (.long (FP.d2l x) :: st) n K P I L Post) : zV l X d bc bs mi pc ls (.double x :: st) n K P I L Post := fun p e R s m args below meth c H locs cells slots mc ms lsr S D hl => lv_d2l S.1 S.2.1 (zl_dec h) (k p e R s m args below meth c H locs cells slots mc ms lsr S D hl)
theorem zV_fmul {x y : UInt32} (h : zl mi pc = some (.fmul, 1, r1, r2, r3)) (hne : vf_n32 (FP.fmul x y)) (k : zV l X d bc bs mi (pc + 1) ls (.float (FP.fmul x y) :: st) n K P I L Post) : zV l X d bc bs mi pc ls (.float y :: .float x :: st) n K P I L Post := fun p e R s m args below meth c H locs cells slots mc ms lsr S D hl => lv_fmul S.1 S.2.1 (zl_dec h) hne (k p e R s m args below meth c H locs cells slots mc ms lsr S D hl)
theorem zV_fdiv {x y : UInt32} (h : zl mi pc = some (.fdiv, 1, r1, r2, r3)) (hne : vf_n32 (FP.fdiv x y)) (k : zV l X d bc bs mi (pc + 1) ls (.float (FP.fdiv x y) :: st) n K P I L Post) : zV l X d bc bs mi pc ls (.float y :: .float x :: st) n K P I L Post := fun p e R s m args below meth c H locs cells slots mc ms lsr S D hl => lv_fdiv S.1 S.2.1 (zl_dec h) hne (k p e R s m args below meth c H locs cells slots mc ms lsr S D hl)
theorem zV_fsub {x y : UInt32} (h : zl mi pc = some (.fsub, 1, r1, r2, r3)) (hne : vf_n32 (FP.fsub x y)) (k : zV l X d bc bs mi (pc + 1) ls (.float (FP.fsub x y) :: st) n K P I L Post) : zV l X d bc bs mi pc ls (.float y :: .float x :: st) n K P I L Post := fun p e R s m args below meth c H locs cells slots mc ms lsr S D hl => lv_fsub S.1 S.2.1 (zl_dec h) hne (k p e R s m args below meth c H locs cells slots mc ms lsr S D hl)
theorem zV_dmul {x y : UInt64} (h : zl mi pc = some (.dmul, 1, r1, r2, r3)) (hne : vf_n64 (FP.dmul x y)) (k : zV l X d bc bs mi (pc + 1) ls (.double (FP.dmul x y) :: st) n K P I L Post) : zV l X d bc bs mi pc ls (.double y :: .double x :: st) n K P I L Post := fun p e R s m args below meth c H locs cells slots mc ms lsr S D hl => lv_dmul S.1 S.2.1 (zl_dec h) hne (k p e R s m args below meth c H locs cells slots mc ms lsr S D hl)
theorem zV_ddiv {x y : UInt64} (h : zl mi pc = some (.ddiv, 1, r1, r2, r3)) (hne : vf_n64 (FP.ddiv x y)) (k : zV l X d bc bs mi (pc + 1) ls (.double (FP.ddiv x y) :: st) n K P I L Post) : zV l X d bc bs mi pc ls (.double y :: .double x :: st) n K P I L Post := fun p e R s m args below meth c H locs cells slots mc ms lsr S D hl => lv_ddiv S.1 S.2.1 (zl_dec h) hne (k p e R s m args below meth c H locs cells slots mc ms lsr S D hl)
theorem zV_dsub {x y : UInt64} (h : zl mi pc = some (.dsub, 1, r1, r2, r3)) (hne : vf_n64 (FP.dsub x y)) (k : zV l X d bc bs mi (pc + 1) ls (.double (FP.dsub x y) :: st) n K P I L Post) : zV l X d bc bs mi pc ls (.double y :: .double x :: st) n K P I L Post := fun p e R s m args below meth c H locs cells slots mc ms lsr S D hl => lv_dsub S.1 S.2.1 (zl_dec h) hne (k p e R s m args below meth c H locs cells slots mc ms lsr S D hl)
theorem zV_fcmp {x y : UInt32} {o : CmpOp} (h : zl mi pc = some (.fcmp o, 1, r1, r2, r3)) (k : zV l X d bc bs mi (pc + 1) ls (.int (Op.cmpValue (FP.fcmp x y) o) :: st) n K P I L Post) : zV l X d bc bs mi pc ls (.float y :: .float x :: st) n K P I L Post := fun p e R s m args below meth c H locs cells slots mc ms lsr S D hl => lv_fcmp S.1 S.2.1 (zl_dec h) (k p e R s m args below meth c H locs cells slots mc ms lsr S D hl)
theorem zV_dcmp {x y : UInt64} {o : CmpOp} (h : zl mi pc = some (.dcmp o, 1, r1, r2, r3)) (k : zV l X d bc bs mi (pc + 1) ls (.int (Op.cmpValue (FP.dcmp x y) o) :: st) n K P I L Post) : zV l X d bc bs mi pc ls (.double y :: .double x :: st) n K P I L Post := fun p e R s m args below meth c H locs cells slots mc ms lsr S D hl => lv_dcmp S.1 S.2.1 (zl_dec h) (k p e R s m args below meth c H locs cells slots mc ms lsr S D hl)
theorem zV_lcmp {x y : Int64} (h : zl mi pc = some (.lcmp, 1, r1, r2, r3)) (k : zV l X d bc bs mi (pc + 1) ls (.int (lg_cmp x y) :: st) n K P I L Post) : zV l X d bc bs mi pc ls (.long y :: .long x :: st) n K P I L Post := fun p e R s m args below meth c H locs cells slots mc ms lsr S D hl => W.lcmp S.1 S.2.1 (zl_dec h) (k p e R s m args below meth c H locs cells slots mc ms lsr S D hl)
theorem zV_dup {v : Value} (h : zl mi pc = some (.dup, 1, r1, r2, r3)) (hc : v.category = 1) (k : zV l X d bc bs mi (pc + 1) ls (v :: v :: st) n K P I L Post) : zV l X d bc bs mi pc ls (v :: st) n K P I L Post := fun p e R s m args below meth c H locs cells slots mc ms lsr S D hl => lv_dup S.1 S.2.1 (zl_dec h) hc (k p e R s m args below meth c H locs cells slots mc ms lsr S D hl)
theorem zV_pop {v : Value} (h : zl mi pc = some (.pop, 1, r1, r2, r3)) (hc : v.category = 1) (k : zV l X d bc bs mi (pc + 1) ls (st) n K P I L Post) : zV l X d bc bs mi pc ls (v :: st) n K P I L Post := fun p e R s m args below meth c H locs cells slots mc ms lsr S D hl => lv_pop S.1 S.2.1 (zl_dec h) hc (k p e R s m args below meth c H locs cells slots mc ms lsr S D hl)
theorem zV_dup_x1 {v u : Value} (h : zl mi pc = some (.dup_x1, 1, r1, r2, r3)) (hc : v.category = 1) (hd : u.category = 1) (k : zV l X d bc bs mi (pc + 1) ls (v :: u :: v :: st) n K P I L Post) : zV l X d bc bs mi pc ls (v :: u :: st) n K P I L Post := fun p e R s m args below meth c H locs cells slots mc ms lsr S D hl => lv_dup_x1 S.1 S.2.1 (zl_dec h) hc hd (k p e R s m args below meth c H locs cells slots mc ms lsr S D hl)
theorem zV_dup2 {v u : Value} (h : zl mi pc = some (.dup2, 1, r1, r2, r3)) (hc : v.category = 1) (hd : u.category = 1) (k : zV l X d bc bs mi (pc + 1) ls (v :: u :: v :: u :: st) n K P I L Post) : zV l X d bc bs mi pc ls (v :: u :: st) n K P I L Post := fun p e R s m args below meth c H locs cells slots mc ms lsr S D hl => lv_dup2_11 S.1 S.2.1 (zl_dec h) hc hd (k p e R s m args below meth c H locs cells slots mc ms lsr S D hl)
theorem zV_if_eq {x : Int32} {off : Int} (tgt : Nat) (h : zl mi pc = some (.ifCond .eq off, 3, r1, r2, r3)) (ht : (pc : Int) + off = (tgt : Int)) (kt : x = 0 → zV l X d bc bs mi tgt ls st n K P I L Post) (kf : ¬ x = 0 → zV l X d bc bs mi (pc + 3) ls st n K P I L Post) : zV l X d bc bs mi pc ls (.int x :: st) n K P I L Post := fun p e R s m args below meth c H locs cells slots mc ms lsr S D hl => lv_if_eq S.1 S.2.1 (zl_dec h) ht (fun q => kt q p e R s m args below meth c H locs cells slots mc ms lsr S D hl) (fun q => kf q p e R s m args below meth c H locs cells slots mc ms lsr S D hl)
theorem zV_icmp_eq {x y : Int32} {off : Int} (tgt : Nat) (h : zl mi pc = some (.if_icmp .eq off, 3, r1, r2, r3)) (ht : (pc : Int) + off = (tgt : Int)) (kt : x = y → zV l X d bc bs mi tgt ls st n K P I L Post) (kf : ¬ x = y → zV l X d bc bs mi (pc + 3) ls st n K P I L Post) : zV l X d bc bs mi pc ls (.int y :: .int x :: st) n K P I L Post := fun p e R s m args below meth c H locs cells slots mc ms lsr S D hl => lv_icmp_eq S.1 S.2.1 (zl_dec h) ht (fun q => kt q p e R s m args below meth c H locs cells slots mc ms lsr S D hl) (fun q => kf q p e R s m args below meth c H locs cells slots mc ms lsr S D hl)
theorem zV_if_ne {x : Int32} {off : Int} (tgt : Nat) (h : zl mi pc = some (.ifCond .ne off, 3, r1, r2, r3)) (ht : (pc : Int) + off = (tgt : Int)) (kt : ¬ x = 0 → zV l X d bc bs mi tgt ls st n K P I L Post) (kf : x = 0 → zV l X d bc bs mi (pc + 3) ls st n K P I L Post) : zV l X d bc bs mi pc ls (.int x :: st) n K P I L Post := fun p e R s m args below meth c H locs cells slots mc ms lsr S D hl => lv_if_ne S.1 S.2.1 (zl_dec h) ht (fun q => kt q p e R s m args below meth c H locs cells slots mc ms lsr S D hl) (fun q => kf q p e R s m args below meth c H locs cells slots mc ms lsr S D hl)
theorem zV_icmp_ne {x y : Int32} {off : Int} (tgt : Nat) (h : zl mi pc = some (.if_icmp .ne off, 3, r1, r2, r3)) (ht : (pc : Int) + off = (tgt : Int)) (kt : ¬ x = y → zV l X d bc bs mi tgt ls st n K P I L Post) (kf : x = y → zV l X d bc bs mi (pc + 3) ls st n K P I L Post) : zV l X d bc bs mi pc ls (.int y :: .int x :: st) n K P I L Post := fun p e R s m args below meth c H locs cells slots mc ms lsr S D hl => lv_icmp_ne S.1 S.2.1 (zl_dec h) ht (fun q => kt q p e R s m args below meth c H locs cells slots mc ms lsr S D hl) (fun q => kf q p e R s m args below meth c H locs cells slots mc ms lsr S D hl)
theorem zV_if_lt {x : Int32} {off : Int} (tgt : Nat) (h : zl mi pc = some (.ifCond .lt off, 3, r1, r2, r3)) (ht : (pc : Int) + off = (tgt : Int)) (kt : x < 0 → zV l X d bc bs mi tgt ls st n K P I L Post) (kf : ¬ x < 0 → zV l X d bc bs mi (pc + 3) ls st n K P I L Post) : zV l X d bc bs mi pc ls (.int x :: st) n K P I L Post := fun p e R s m args below meth c H locs cells slots mc ms lsr S D hl => lv_if_lt S.1 S.2.1 (zl_dec h) ht (fun q => kt q p e R s m args below meth c H locs cells slots mc ms lsr S D hl) (fun q => kf q p e R s m args below meth c H locs cells slots mc ms lsr S D hl)
theorem zV_icmp_lt {x y : Int32} {off : Int} (tgt : Nat) (h : zl mi pc = some (.if_icmp .lt off, 3, r1, r2, r3)) (ht : (pc : Int) + off = (tgt : Int)) (kt : x < y → zV l X d bc bs mi tgt ls st n K P I L Post) (kf : ¬ x < y → zV l X d bc bs mi (pc + 3) ls st n K P I L Post) : zV l X d bc bs mi pc ls (.int y :: .int x :: st) n K P I L Post := fun p e R s m args below meth c H locs cells slots mc ms lsr S D hl => lv_icmp_lt S.1 S.2.1 (zl_dec h) ht (fun q => kt q p e R s m args below meth c H locs cells slots mc ms lsr S D hl) (fun q => kf q p e R s m args below meth c H locs cells slots mc ms lsr S D hl)
theorem zV_if_ge {x : Int32} {off : Int} (tgt : Nat) (h : zl mi pc = some (.ifCond .ge off, 3, r1, r2, r3)) (ht : (pc : Int) + off = (tgt : Int)) (kt : 0 ≤ x → zV l X d bc bs mi tgt ls st n K P I L Post) (kf : ¬ 0 ≤ x → zV l X d bc bs mi (pc + 3) ls st n K P I L Post) : zV l X d bc bs mi pc ls (.int x :: st) n K P I L Post := fun p e R s m args below meth c H locs cells slots mc ms lsr S D hl => lv_if_ge S.1 S.2.1 (zl_dec h) ht (fun q => kt q p e R s m args below meth c H locs cells slots mc ms lsr S D hl) (fun q => kf q p e R s m args below meth c H locs cells slots mc ms lsr S D hl)
theorem zV_icmp_ge {x y : Int32} {off : Int} (tgt : Nat) (h : zl mi pc = some (.if_icmp .ge off, 3, r1, r2, r3)) (ht : (pc : Int) + off = (tgt : Int)) (kt : y ≤ x → zV l X d bc bs mi tgt ls st n K P I L Post) (kf : ¬ y ≤ x → zV l X d bc bs mi (pc + 3) ls st n K P I L Post) : zV l X d bc bs mi pc ls (.int y :: .int x :: st) n K P I L Post := fun p e R s m args below meth c H locs cells slots mc ms lsr S D hl => lv_icmp_ge S.1 S.2.1 (zl_dec h) ht (fun q => kt q p e R s m args below meth c H locs cells slots mc ms lsr S D hl) (fun q => kf q p e R s m args below meth c H locs cells slots mc ms lsr S D hl)
theorem zV_if_gt {x : Int32} {off : Int} (tgt : Nat) (h : zl mi pc = some (.ifCond .gt off, 3, r1, r2, r3)) (ht : (pc : Int) + off = (tgt : Int)) (kt : 0 < x → zV l X d bc bs mi tgt ls st n K P I L Post) (kf : ¬ 0 < x → zV l X d bc bs mi (pc + 3) ls st n K P I L Post) : zV l X d bc bs mi pc ls (.int x :: st) n K P I L Post := fun p e R s m args below meth c H locs cells slots mc ms lsr S D hl => lv_if_gt S.1 S.2.1 (zl_dec h) ht (fun q => kt q p e R s m args below meth c H locs cells slots mc ms lsr S D hl) (fun q => kf q p e R s m args below meth c H locs cells slots mc ms lsr S D hl)
theorem zV_icmp_gt {x y : Int32} {off : Int} (tgt : Nat) (h : zl mi pc = some (.if_icmp .gt off, 3, r1, r2, r3)) (ht : (pc : Int) + off = (tgt : Int)) (kt : y < x → zV l X d bc bs mi tgt ls st n K P I L Post) (kf : ¬ y < x → zV l X d bc bs mi (pc + 3) ls st n K P I L Post) : zV l X d bc bs mi pc ls (.int y :: .int x :: st) n K P I L Post := fun p e R s m args below meth c H locs cells slots mc ms lsr S D hl => lv_icmp_gt S.1 S.2.1 (zl_dec h) ht (fun q => kt q p e R s m args below meth c H locs cells slots mc ms lsr S D hl) (fun q => kf q p e R s m args below meth c H locs cells slots mc ms lsr S D hl)
theorem zV_if_le {x : Int32} {off : Int} (tgt : Nat) (h : zl mi pc = some (.ifCond .le off, 3, r1, r2, r3)) (ht : (pc : Int) + off = (tgt : Int)) (kt : x ≤ 0 → zV l X d bc bs mi tgt ls st n K P I L Post) (kf : ¬ x ≤ 0 → zV l X d bc bs mi (pc + 3) ls st n K P I L Post) : zV l X d bc bs mi pc ls (.int x :: st) n K P I L Post := fun p e R s m args below meth c H locs cells slots mc ms lsr S D hl => lv_if_le S.1 S.2.1 (zl_dec h) ht (fun q => kt q p e R s m args below meth c H locs cells slots mc ms lsr S D hl) (fun q => kf q p e R s m args below meth c H locs cells slots mc ms lsr S D hl)
theorem zV_icmp_le {x y : Int32} {off : Int} (tgt : Nat) (h : zl mi pc = some (.if_icmp .le off, 3, r1, r2, r3)) (ht : (pc : Int) + off = (tgt : Int)) (kt : x ≤ y → zV l X d bc bs mi tgt ls st n K P I L Post) (kf : ¬ x ≤ y → zV l X d bc bs mi (pc + 3) ls st n K P I L Post) : zV l X d bc bs mi pc ls (.int y :: .int x :: st) n K P I L Post := fun p e R s m args below meth c H locs cells slots mc ms lsr S D hl => lv_icmp_le S.1 S.2.1 (zl_dec h) ht (fun q => kt q p e R s m args below meth c H locs cells slots mc ms lsr S D hl) (fun q => kf q p e R s m args below meth c H locs cells slots mc ms lsr S D hl)
theorem zV_goto {off : Int} (tgt : Nat) (h : zl mi pc = some (.goto off, 3, r1, r2, r3)) (ht : (pc : Int) + off = (tgt : Int)) (k : zV l X d bc bs mi tgt ls st n K P I L Post) : zV l X d bc bs mi pc ls st n K P I L Post := fun p e R s m args below meth c H locs cells slots mc ms lsr S D hl => lv_goto S.1 S.2.1 (zl_dec h) ht (k p e R s m args below meth c H locs cells slots mc ms lsr S D hl)
theorem zV_ifnonnull {a : Nat} {off : Int} (tgt : Nat) (h : zl mi pc = some (.ifnonnull off, 3, r1, r2, r3)) (ht : (pc : Int) + off = (tgt : Int)) (k : zV l X d bc bs mi tgt ls st n K P I L Post) : zV l X d bc bs mi pc ls (.ref a :: st) n K P I L Post := fun p e R s m args below meth c H locs cells slots mc ms lsr S D hl => lv_ifnonnull S.1 S.2.1 (zl_dec h) ht (k p e R s m args below meth c H locs cells slots mc ms lsr S D hl)
theorem zV_tableIn {dflt lo hi : Int} {offs : Array Int} {len : Nat} {x : Int32} {off : Int} (tgt : Nat) (h : zl mi pc = some (.tableswitch dflt lo hi offs, len, r1, r2, r3)) (h1 : ¬ x.toInt < lo) (h2 : ¬ hi < x.toInt) (ho : offs[(x.toInt - lo).toNat]? = some off) (ht : (pc : Int) + off = (tgt : Int)) (k : zV l X d bc bs mi tgt ls st n K P I L Post) : zV l X d bc bs mi pc ls (.int x :: st) n K P I L Post := fun p e R s m args below meth c H locs cells slots mc ms lsr S D hl => lv_tableIn S.1 S.2.1 (zl_dec h) h1 h2 ho ht (k p e R s m args below meth c H locs cells slots mc ms lsr S D hl)
theorem zV_tableOut {dflt lo hi : Int} {offs : Array Int} {len : Nat} {x : Int32} (tgt : Nat) (h : zl mi pc = some (.tableswitch dflt lo hi offs, len, r1, r2, r3)) (h1 : x.toInt < lo ∨ hi < x.toInt) (ht : (pc : Int) + dflt = (tgt : Int)) (k : zV l X d bc bs mi tgt ls st n K P I L Post) : zV l X d bc bs mi pc ls (.int x :: st) n K P I L Post := fun p e R s m args below meth c H locs cells slots mc ms lsr S D hl => lv_tableOut S.1 S.2.1 (zl_dec h) h1 ht (k p e R s m args below meth c H locs cells slots mc ms lsr S D hl)
theorem zV_lookup {dflt : Int} {ps : Array (Int × Int)} {len : Nat} {x : Int32} {off : Int} (tgt : Nat) (h : zl mi pc = some (.lookupswitch dflt ps, len, r1, r2, r3)) (hp : (ps.toList.zip (ps.toList.drop 1)).all (fun (a, next) => a.1 < next.1) = true) (ho : Op.lookupswitch.offset ps.toList dflt x.toInt = off) (ht : (pc : Int) + off = (tgt : Int)) (k : zV l X d bc bs mi tgt ls st n K P I L Post) : zV l X d bc bs mi pc ls (.int x :: st) n K P I L Post := fun p e R s m args below meth c H locs cells slots mc ms lsr S D hl => lv_lookup S.1 S.2.1 (zl_dec h) hp ho ht (k p e R s m args below meth c H locs cells slots mc ms lsr S D hl)
end ZV
end
section
/-! MEMORY, ENDS, CALLS -/
theorem zNw_moved {w : Cond} {s U : State} (hw : (w.faceAtom || zisN w) = true) (hW : s.WarmedH U.vm) (h : va_Nw w s) : va_Nw w U := by
  by_cases hf : w.faceAtom = true
  · have h1 : w.before #[] (s.setVm U.vm) = true := Cond.faceAtom_setVm hW.alike w hf h
    refine va_tabs (u := s.setVm U.vm) ?_ rfl h1
    cases w <;> first | rfl | (simp [Cond.faceAtom] at hf; done)
  · have hn : zisN w = true := by
      cases hz : zisN w with
      | true => rfl
      | false => rw [hz] at hw; simp only [Bool.or_false] at hw; exact absurd hw hf
    cases w <;> first | exact va_Nw.warmM hW h | (simp [zisN] at hn; done)
theorem zK_moved {X : zX} {s U : State} {H : Heap} {locs : List Loc} (h : zK X s s.heap) (hW : s.WarmedH U.vm) (hS : va_S (zA X) s.heap H locs) (hU : U.heap = H) : zK X U U.heap := by
  obtain ⟨h1, h2, ⟨s1, s2, s3, s4, s5, s6⟩, h4, h5, h6⟩ := h
  have hvm : s.vm.Alike U.vm := hW.alike
  subst hU
  refine ⟨Nat.le_trans h1 hS.1, va_K.moved hvm h2, ⟨va_Z.moved hvm (s1.kept hS.2.1), va_Z.moved hvm (s2.kept hS.2.1), va_Z.moved hvm (s3.kept hS.2.1), va_Zq.moved hvm (s4.kept hS.2.1), vx_Zq.moved hvm (s5.kept hS.2.1), vx_Zq.moved hvm (s6.kept hS.2.1)⟩,
    fun w hw => zNw_moved (List.mem_filter.mp hw).2 hW (h4 w hw), fun i j hi hj hne => (h5 i j hi hj hne).moved hvm, fun i q hq => vk_R.warm hW (h6 i q hq)⟩
theorem zAt_moved {X : zX} {U U' : State} {H : Heap} {P : zPT} {I : zIT} {L : zLT} {a k n : Nat} (hvm : U.vm.Alike U'.vm) (h : zAt X U H P I L a k n) : zAt X U' H P I L a k n := by
  obtain ⟨h1, h2, h3, h4⟩ := h
  refine ⟨h1, h2, fun g1 g2 => ?_, fun g => ?_⟩
  · obtain ⟨x, cell, c1, c2, c3⟩ := h3 g1 g2
    exact ⟨x, cell, c1, State.isArrayOf_alike hvm c2, c3⟩
  · obtain ⟨x, cell, c1, c2, c3, c4, c5⟩ := h4 g
    exact ⟨x, cell, c1, c2, c3, by rw [hvm.findClass]; exact c4, c5⟩
theorem zPic_moved {X : zX} {U U' : State} {H : Heap} {n : Nat} {K : zKT} {P : zPT} {I : zIT} {L : zLT} (hvm : U.vm.Alike U'.vm) (h : zPic X U H n K P I L) : zPic X U' H n K P I L :=
  ⟨h.1, fun a k m hk => zAt_moved hvm (h.2 a k m hk)⟩
theorem zfv_eq {ci k a : Nat} {P P' : zPT} {I I' : zIT} (hP : P' a = P a) (hI : I' a = I a) : zfv ci k P' I' a = zfv ci k P I a := by
  unfold zfv; rw [hP, hI]
theorem zel_eq {k a j : Nat} {P P' : zPT} {I I' : zIT} {L L' : zLT} (hP : P' a = P a) (hI : I' a = I a) (hL : L' a = L a) : zel k P' I' L' a j = zel k P I L a j := by
  unfold zel; rw [hP, hI, hL]
theorem zAt_kept {X : zX} {U : State} {H H' : Heap} {P P' : zPT} {I I' : zIT} {L L' : zLT} {a k n : Nat} (h : zAt X U H P I L a k n) (hq : H'[a]? = H[a]?) (hP : P' a = P a) (hI : I' a = I a) (hL : L' a = L a) : zAt X U H' P' I' L' a k n := by
  obtain ⟨h1, h2, h3, h4⟩ := h
  refine ⟨fun g => ?_, fun g1 g2 => ?_, fun g1 g2 => ?_, fun g => ?_⟩
  · obtain ⟨x, r, r1, r2, r3⟩ := h1 g
    exact ⟨x, r, r1, r2, (r3.kept hq).to (fun j _ => (zfv_eq hP hI).symm)⟩
  · obtain ⟨x, x2⟩ := h2 g1 g2
    refine ⟨x, ?_⟩
    rw [hq, x2, show zel k P' I' L' a = zel k P I L a from funext fun j => zel_eq hP hI hL]
  · obtain ⟨x, cell, c1, c2, c3, c4, c5⟩ := h3 g1 g2
    exact ⟨x, cell, by rw [hq]; exact c1, c2, c3, c4, fun j hj => by rw [hI]; exact c5 j hj⟩
  · obtain ⟨x, cell, c1, c2, c3, c4, c5⟩ := h4 g
    exact ⟨x, cell, by rw [hq]; exact c1, c2, c3, c4, fun j hj => by rw [zfv_eq hP hI]; exact c5 j hj⟩
theorem zAt_lt {X : zX} {U : State} {H : Heap} {P : zPT} {I : zIT} {L : zLT} {a k n : Nat} (h : zAt X U H P I L a k n) : a < H.size := by
  obtain ⟨h1, h2, h3, h4⟩ := h
  have key : ∀ {cell : Cell}, H[a]? = some cell → a < H.size := fun h => (Array.getElem?_eq_some_iff.mp h).1
  rcases Nat.lt_or_ge k 100 with g | g
  · obtain ⟨-, r, -, -, cell, c1, -⟩ := h1 g
    exact key c1
  · rcases Nat.lt_or_ge k 110 with g2 | g2
    · exact key (h2 g g2).2
    · rcases Nat.lt_or_ge k 120 with g3 | g3
      · obtain ⟨-, cell, c1, -⟩ := h3 g2 g3
        exact key c1
      · obtain ⟨-, cell, c1, -⟩ := h4 g3
        exact key c1
theorem zPic_lt {X : zX} {U : State} {H : Heap} {n : Nat} {K : zKT} {P : zPT} {I : zIT} {L : zLT} (h : zPic X U H n K P I L) {a : Nat} {e : Nat × Nat} (hk : K a = some e) : a < n := by
  rw [← h.1]; exact zAt_lt (h.2 a e.1 e.2 hk)
/-- the heap has grown, nothing tracked has changed -/
theorem zPic_grown {X : zX} {U : State} {H H' : Heap} {n : Nat} {K : zKT} {P : zPT} {I : zIT} {L : zLT} (h : zPic X U H n K P I L) (hq : ∀ q : Nat, q < H.size → H'[q]? = H[q]?) : zPic X U H' H'.size K P I L :=
  ⟨rfl, fun a k m hk => zAt_kept (h.2 a k m hk) (hq a (zAt_lt (h.2 a k m hk))) rfl rfl rfl⟩
def zuI (I : zIT) (a k : Nat) (x : Int32) : zIT := fun q => if q = a then upd (I a) k x else I q
def zuP (P : zPT) (a k : Nat) (x : Option Nat) : zPT := fun q => if q = a then va_up (P a) k x else P q
def zuL (L : zLT) (a k : Nat) (x : Int64) : zLT := fun q => if q = a then vp_updL (L a) k x else L q
def zuK (K : zKT) (a : Nat) (e : Nat × Nat) : zKT := fun q => if q = a then some e else K q
def z0I (I : zIT) (a : Nat) : zIT := fun q => if q = a then fun _ => 0 else I q
def z0P (P : zPT) (a : Nat) : zPT := fun q => if q = a then fun _ => none else P q
def z0L (L : zLT) (a : Nat) : zLT := fun q => if q = a then fun _ => 0 else L q
/-- one tracked cell is written -/
theorem zPic_put {X : zX} {U : State} {H H' : Heap} {n : Nat} {K : zKT} {P P' : zPT} {I I' : zIT} {L L' : zLT} {a k m : Nat} (h : zPic X U H n K P I L) (ha : K a = some (k, m)) (hn : zAt X U H' P' I' L' a k m) (hz : H'.size = H.size) (hq : ∀ q : Nat, q ≠ a → H'[q]? = H[q]?)
    (hP : ∀ q, q ≠ a → P' q = P q) (hI : ∀ q, q ≠ a → I' q = I q) (hL : ∀ q, q ≠ a → L' q = L q) : zPic X U H' n K P' I' L' := by
  refine ⟨hz.trans h.1, fun b k2 m2 hk => ?_⟩
  by_cases hb : b = a
  · subst hb
    cases ha.symm.trans hk
    exact hn
  · exact zAt_kept (h.2 b k2 m2 hk) (hq b hb) (hP b hb) (hI b hb) (hL b hb)
/-- a tracked cell is made -/
theorem zPic_new {X : zX} {U : State} {H H' : Heap} {n : Nat} {K : zKT} {P : zPT} {I : zIT} {L : zLT} {k m : Nat} (h : zPic X U H n K P I L) (hn : zAt X U H' (z0P P n) (z0I I n) (z0L L n) n k m) (hz : H'.size = n + 1) (hq : ∀ q : Nat, q < n → H'[q]? = H[q]?) : zPic X U H' (n + 1) (zuK K n (k, m)) (z0P P n) (z0I I n) (z0L L n) := by
  refine ⟨hz, fun b k2 m2 hk => ?_⟩
  unfold zuK at hk
  by_cases hb : b = n
  · subst hb
    rw [if_pos rfl] at hk
    cases hk
    exact hn
  · rw [if_neg hb] at hk
    have hl := zPic_lt h hk
    exact zAt_kept (h.2 b k2 m2 hk) (hq b hl) (if_neg hb) (if_neg hb) (if_neg hb)
theorem zcl_ok {ci k : Nat} (h : k < zN ci) : vwCl[ci]? = some (zcn ci, zT ci, zN ci) ∧ ci < 100 := by
  match ci, h with
  | 0, _ => exact ⟨rfl, by decide⟩
  | 1, _ => exact ⟨rfl, by decide⟩
  | 4, _ => exact ⟨rfl, by decide⟩
  | 5, _ => exact ⟨rfl, by decide⟩
  | 6, _ => exact ⟨rfl, by decide⟩
  | 7, _ => exact ⟨rfl, by decide⟩
  | 8, _ => exact ⟨rfl, by decide⟩
  | 2, h => exact absurd h (by simp [zN])
  | 3, h => exact absurd h (by simp [zN])
  | n + 9, h => exact absurd h (by simp [zN])
set_option maxRecDepth 200000 in
theorem zu_0 : ((u_ws (zcn 0) (zT 0) (zN 0)).all (fun w => decide (w ∈ lw_tbl) && goodWord w)) = true := by decide +kernel
set_option maxRecDepth 200000 in
theorem zu_1 : ((u_ws (zcn 1) (zT 1) (zN 1)).all (fun w => decide (w ∈ lw_tbl) && goodWord w)) = true := by decide +kernel
set_option maxRecDepth 200000 in
theorem zu_4 : ((u_ws (zcn 4) (zT 4) (zN 4)).all (fun w => decide (w ∈ lw_tbl) && goodWord w)) = true := by decide +kernel
set_option maxRecDepth 200000 in
theorem zu_5 : ((u_ws (zcn 5) (zT 5) (zN 5)).all (fun w => decide (w ∈ lw_tbl) && goodWord w)) = true := by decide +kernel
set_option maxRecDepth 200000 in
theorem zu_6 : ((u_ws (zcn 6) (zT 6) (zN 6)).all (fun w => decide (w ∈ lw_tbl) && goodWord w)) = true := by decide +kernel
set_option maxRecDepth 200000 in
theorem zu_7 : ((u_ws (zcn 7) (zT 7) (zN 7)).all (fun w => decide (w ∈ lw_tbl) && goodWord w)) = true := by decide +kernel
set_option maxRecDepth 200000 in
theorem zu_8 : ((u_ws (zcn 8) (zT 8) (zN 8)).all (fun w => decide (w ∈ lw_tbl) && goodWord w)) = true := by decide +kernel
theorem zu_of {t : List Cond} (h : (t.all (fun w => decide (w ∈ lw_tbl) && goodWord w)) = true) : ∀ w ∈ t, w ∈ zTs := fun w hw => by
  have h1 := List.all_eq_true.mp h w hw
  simp only [Bool.and_eq_true, decide_eq_true_eq] at h1
  exact List.mem_filter.mpr h1
theorem zu_in {ci k : Nat} (h : k < zN ci) : ∀ w ∈ u_ws (zcn ci) (zT ci) (zN ci), w ∈ zTs := by
  match ci, h with
  | 0, _ => exact zu_of zu_0
  | 1, _ => exact zu_of zu_1
  | 4, _ => exact zu_of zu_4
  | 5, _ => exact zu_of zu_5
  | 6, _ => exact zu_of zu_6
  | 7, _ => exact zu_of zu_7
  | 8, _ => exact zu_of zu_8
  | 2, h => exact absurd h (by simp [zN])
  | 3, h => exact absurd h (by simp [zN])
  | n + 9, h => exact absurd h (by simp [zN])
theorem zty_ok {ci k0 : Nat} (h : k0 < zN ci) : ∀ k, k < zN ci → parseFieldDescriptor (zT ci k).2.2.1 = some (zty ci k) := by
  match ci, h with
  | 0, _ => exact tyJ0_ok
  | 1, _ => exact tyJ4_ok
  | 4, _ => exact tyX0_ok
  | 5, _ => exact tyX1_ok
  | 6, _ => exact tyX2_ok
  | 7, _ => exact tyX3_ok
  | 8, _ => exact tyX4_ok
  | 2, h => exact absurd h (by simp [zN])
  | 3, h => exact absurd h (by simp [zN])
  | n + 9, h => exact absurd h (by simp [zN])
theorem znm_ok {ci k0 : Nat} (h : k0 < zN ci) : ∀ a, a < zN ci → ∀ b, b < zN ci → a ≠ b → (zT ci a).2.1 ≠ (zT ci b).2.1 := by
  match ci, h with
  | 0, _ => exact nmJ0
  | 1, _ => exact nmJ4
  | 4, _ => exact nmX0
  | 5, _ => exact nmX1
  | 6, _ => exact nmX2
  | 7, _ => exact nmX3
  | 8, _ => exact nmX4
  | 2, h => exact absurd h (by simp [zN])
  | 3, h => exact absurd h (by simp [zN])
  | n + 9, h => exact absurd h (by simp [zN])
end
section
section ZM
variable {l : Launch} {X : zX} {d bc bs mi pc : Nat} {ls : List (Nat × Value)} {st : List Value} {n : Nat} {K : zKT} {P : zPT} {I : zIT} {L : zLT} {Post : zPost} {r1 r2 r3 : Nat}
theorem zwc_get {idx ci k len : Nat} (h : zl mi pc = some (.getfield idx, len, ci, k, r3)) (hk : k < zN ci) : zhas r3 (.fieldLink (zO mi) idx (zT ci k).1 (zT ci k).2.1 (zT ci k).2.2.1) = true := by
  have h1 := zl_wc h
  unfold zwc at h1
  simpa [hk] using h1
theorem zwc_put {idx ci k len : Nat} (h : zl mi pc = some (.putfield idx, len, ci, k, r3)) (hk : k < zN ci) : zhas r3 (.fieldLink (zO mi) idx (zT ci k).1 (zT ci k).2.1 (zT ci k).2.2.1) = true ∧ ((zT ci k).2.2.2 = false ∨ ((zY mi).name = "<init>" ∧ (zT ci k).1 = zO mi)) := by
  have h1 := zl_wc h
  unfold zwc at h1
  simpa [hk] using h1
/-- a field of an own object is read -/
theorem zV_get {idx ci k m a : Nat} (h : zl mi pc = some (.getfield idx, 3, ci, k, r3)) (hKa : K a = some (ci, m)) (hk : k < zN ci) (kk : zV l X d bc bs mi (pc + 3) ls (zfv ci k P I a :: st) n K P I L Post) : zV l X d bc bs mi pc ls (.ref a :: st) n K P I L Post := by
  intro p e R s m' args below meth c H locs cells slots mc ms lsr S D hl
  obtain ⟨hx, hb, hml, hown, hts, hr, hlk, htab, hnm, hdf, hdl, hKs, hst⟩ := id S
  obtain ⟨d1, d2, d3, d4, hS, hpic⟩ := id D
  obtain ⟨hcl, hlt⟩ := zcl_ok hk
  obtain ⟨hA, r, g1, g2, hOB⟩ := (hpic.2 a ci m hKa).1 hlt
  cases g1.symm.trans hcl
  have hP : va_P X.2.1 vwCl [(a, .inr (ci, (List.range (zN ci)).map (fun j => zfv ci j P I a)))] H := by
    intro q x hq
    have hq0 : q < 1 := (List.getElem?_eq_some_iff.mp hq).1
    obtain rfl : q = 0 := by omega
    cases hq
    refine ⟨_, hcl, hOB.to (fun j hj => ?_)⟩
    simp [vp_V, hj]
  exact va_get hx hb hts (zu_in hk) hown hKs.2.1 hP 0 rfl hcl k hk (hts _ (zTs_in (zwc_get h hk) rfl)) (fun _ h => h) (by simp [hk]) (zl_dec h) (kk p e R s m' args below meth c H locs cells slots mc ms lsr S D hl)
theorem zV_getI {idx ci k m a : Nat} (h : zl mi pc = some (.getfield idx, 3, ci, k, r3)) (hKa : K a = some (ci, m)) (hk : k < zN ci) (hf : zrf ci k = false) (kk : zV l X d bc bs mi (pc + 3) ls (.int (I a k) :: st) n K P I L Post) : zV l X d bc bs mi pc ls (.ref a :: st) n K P I L Post := by
  refine zV_get h hKa hk ?_
  unfold zfv
  rw [hf]
  exact kk
theorem zV_getR {idx ci k m a q : Nat} (h : zl mi pc = some (.getfield idx, 3, ci, k, r3)) (hKa : K a = some (ci, m)) (hk : k < zN ci) (hf : zrf ci k = true) (hp : P a k = some q) (kk : zV l X d bc bs mi (pc + 3) ls (.ref q :: st) n K P I L Post) : zV l X d bc bs mi pc ls (.ref a :: st) n K P I L Post := by
  refine zV_get h hKa hk ?_
  unfold zfv
  rw [hf, hp]
  exact kk
/-- a field of a String that was there before is read -/
theorem zV_getS {idx k m a : Nat} (h : zl mi pc = some (.getfield idx, 3, 0, k, r3)) (hKa : K a = some (120, m)) (hk : k < 2) (kk : zV l X d bc bs mi (pc + 3) ls (zfv 0 k P I a :: st) n K P I L Post) : zV l X d bc bs mi pc ls (.ref a :: st) n K P I L Post := by
  intro p e R s m' args below meth c H locs cells slots mc ms lsr S D hl
  obtain ⟨hx, hb, hml, hown, hts, hr, hlk, htab, hnm, hdf, hdl, hKs, hst⟩ := id S
  obtain ⟨d1, d2, d3, d4, hS, hpic⟩ := id D
  have hk4 : k < zN 0 := Nat.lt_trans hk (by decide)
  obtain ⟨hcl, hlt⟩ := zcl_ok hk4
  obtain ⟨hA, cell, c1, c2, c3, c4, c5⟩ := (hpic.2 a 120 m hKa).2.2.2 (by decide)
  obtain ⟨hSl, hfc, kC, hkC, hkind⟩ := hKs.2.1.1 0 _ hcl
  obtain ⟨cf, kf, fi, f, hi, hsl⟩ := hSl k hk4
  refine W.getf hx hb hown (hts _ (zTs_in (zwc_get h hk4) rfl)) hi (u_facts hfc hkC (u_lays hts (zu_in hk4) hk4) hi).1 c1 c2 (v := zfv 0 k P I a) ?_ rfl rfl (zl_dec h) (kk p e R s m' args below meth c H locs cells slots mc ms lsr S D hl)
  rw [hsl]
  exact c5 k hk
/-- a field of an own object is written -/
theorem zV_put {idx ci k m a : Nat} {v : Value} {P' : zPT} {I' : zIT} (h : zl mi pc = some (.putfield idx, 3, ci, k, r3)) (hKa : K a = some (ci, m)) (hk : k < zN ci) (hn : narrow (zty ci k) v = v) (hf : fits (zty ci k) v = true)
    (hv : zfv ci k P' I' a = v) (hj : ∀ j, j ≠ k → zfv ci j P' I' a = zfv ci j P I a) (hP : ∀ q, q ≠ a → P' q = P q) (hI : ∀ q, q ≠ a → I' q = I q)
    (kk : zV l X d bc bs mi (pc + 3) ls st n K P' I' L Post) : zV l X d bc bs mi pc ls (v :: .ref a :: st) n K P I L Post := by
  intro p e R s m' args below meth c H locs cells slots mc ms lsr S D hl
  obtain ⟨hx, hb, hml, hown, hts, hr, hlk, htab, hnm, hdf, hdl, hKs, hst⟩ := id S
  obtain ⟨d1, d2, d3, d4, hS, hpic⟩ := id D
  obtain ⟨hcl, hlt⟩ := zcl_ok hk
  obtain ⟨hA, r, g1, g2, cell, q1, q2, q3, q4⟩ := (hpic.2 a ci m hKa).1 hlt
  cases g1.symm.trans hcl
  obtain ⟨hSl, hfc, kC, hkC, hkind⟩ := hKs.2.1.1 ci _ hcl
  obtain ⟨cf, kf, fi, f, hi, hsl⟩ := hSl k hk
  have hap := va_apart (own := zO mi) hts (zu_in hk) (zty ci) (zty_ok hk) (znm_ok hk) hKs.2.1 hcl
  have hlay := hts _ (zu_in hk _ (u_in_lay hk))
  have hstat := (u_facts hfc hkC (u_lays hts (zu_in hk) hk) hi).1
  obtain ⟨hw, hfin⟩ := zwc_put h hk
  have hlink := hts _ (zTs_in hw rfl)
  have fin : ∀ H' : Heap, H'[a]? = some (cell.setSlot f.slot v) → H'.size = H.size → (∀ q, q ≠ a → H'[q]? = H[q]?) → W p l e R s m' args below meth c H' (locs ++ [⟨a, f.slot⟩]) cells slots (vx_MQ below (zQ X Post) (zXC X Post) args s mc ms (zA X)) (F0 m' (pc + 3) lsr st) := by
    intro H' e1 e2 e3
    rw [hsl] at e1
    refine kk p e R s m' args below meth c H' _ cells slots mc ms lsr S ⟨d1, d2, d3, d4, hS.put e2 e3 hA, zPic_put hpic hKa ?_ e2 e3 hP hI (fun _ _ => rfl)⟩ hl
    refine ⟨fun _ => ⟨hA, _, hcl, g2, ?_⟩, fun q => absurd q (by omega), fun q => absurd q (by omega), fun q => absurd q (by omega)⟩
    refine t_OB.to (V := updV (fun j => zfv ci j P I a) k v) ⟨_, e1, q2, q3, t_set q4 hap hk v⟩ (fun j hjN => ?_)
    unfold updV
    by_cases hjk : j = k
    · rw [if_pos hjk, hjk, hv]
    · rw [if_neg hjk, hj j hjk]
  by_cases hff : (zT ci k).2.2.2 = true
  · obtain ⟨hin, hdecl⟩ := hfin.resolve_left (by rw [hff]; decide)
    unfold u_lay at hlay
    rw [if_pos hff] at hlay
    have hcf : m'.cls = cf := by
      obtain ⟨_, _, c', _, _, _, -, -, hf', -, -, -, hown2, -⟩ := Cond.laysFinal_spec hlay
      have e1 : c' = cf := by have := hi.symm.trans hf'; simp at this; exact this.1.symm
      rw [hdecl] at hown2
      rw [← e1]; exact Option.some.inj (hown.symm.trans hown2)
    have h6 := u_fits hfc hkC hkind (Or.inr hlay) hi (zty_ok hk k hk) hn hf
    exact W.putFinK hx hb hown hlink hi hstat hcf (hnm.trans hin) (by rw [q2]; exact h6) q1 q3 (by rw [hsl]; exact k2_hasslot (q4 k hk)) rfl rfl (zl_dec h) fin
  · unfold u_lay at hlay
    rw [if_neg hff] at hlay
    have h6 := u_store hfc hkC hkind hlay hi (zty_ok hk k hk) hn hf
    exact W.putK hx hb (f := f) ⟨hown, hlink, ⟨_, _, _, hi⟩, hstat⟩ (by rw [q2]; exact h6) q1 q3 (by rw [hsl]; exact k2_hasslot (q4 k hk)) rfl rfl (zl_dec h) fin
theorem zV_putI {idx ci k m a : Nat} {x : Int32} (h : zl mi pc = some (.putfield idx, 3, ci, k, r3)) (hKa : K a = some (ci, m)) (hk : k < zN ci) (hf : zrf ci k = false) (hn : narrow (zty ci k) (.int x) = .int x) (hft : fits (zty ci k) (.int x) = true)
    (kk : zV l X d bc bs mi (pc + 3) ls st n K P (zuI I a k x) L Post) : zV l X d bc bs mi pc ls (.int x :: .ref a :: st) n K P I L Post := by
  refine zV_put h hKa hk hn hft (P' := P) (I' := zuI I a k x) ?_ (fun j hj => ?_) (fun _ _ => rfl) (fun q hq => if_neg hq) kk
  · unfold zfv
    rw [hf]
    simp [zuI, upd]
  · unfold zfv
    simp [zuI, upd, hj]
theorem zV_putR {idx ci k m a q : Nat} (h : zl mi pc = some (.putfield idx, 3, ci, k, r3)) (hKa : K a = some (ci, m)) (hk : k < zN ci) (hf : zrf ci k = true) (hn : narrow (zty ci k) (.ref q) = .ref q) (hft : fits (zty ci k) (.ref q) = true)
    (kk : zV l X d bc bs mi (pc + 3) ls st n K (zuP P a k (some q)) I L Post) : zV l X d bc bs mi pc ls (.ref q :: .ref a :: st) n K P I L Post := by
  refine zV_put h hKa hk hn hft (P' := zuP P a k (some q)) (I' := I) ?_ (fun j hj => ?_) (fun q hq => if_neg hq) (fun _ _ => rfl) kk
  · unfold zfv
    rw [hf]
    simp [zuP, va_up, va_rf]
  · unfold zfv
    simp [zuP, va_up, hj]
/-- an array is read -/
theorem zK_arr {s : State} (hKs : zK X s s.heap) {k : Nat} (hk : k = 100 ∨ k = 101 ∨ k = 102 ∨ k = 103 ∨ k = 104) : ArrOfT s (X.2.2.1 k) (zaty k) := by
  have h := hKs.2.1.2
  rcases hk with rfl | rfl | rfl | rfl | rfl
  · exact (h 0 _ rfl).1
  · exact (h 1 _ rfl).1
  · exact (h 2 _ rfl).1
  · exact (h 3 _ rfl).1
  · exact (h 4 _ rfl).1
theorem zAt_rd {s : State} {H : Heap} (hKs : zK X s s.heap) {a k m : Nat} (hpic : zAt X s H P I L a k m) (hk : k = 100 ∨ k = 101 ∨ k = 102 ∨ k = 103 ∨ k = 104 ∨ k = 110 ∨ k = 113) :
    ∃ cell : Cell, H[a]? = some cell ∧ s.isArrayOf cell (zaty k) ∧ cell.vm ≠ .unknown ∧ cell.slots.size = m ∧ ∀ j, j < m → cell.slots[j]? = some (zel k P I L a j) := by
  by_cases h1 : k < 110
  · have hk2 : k = 100 ∨ k = 101 ∨ k = 102 ∨ k = 103 ∨ k = 104 := by omega
    obtain ⟨-, x⟩ := hpic.2.1 (by omega) h1
    exact ⟨_, x, zK_arr hKs hk2 m _, (fun q => by cases q), arrV_size _ _ _, fun j hj => arrV_read _ _ hj⟩
  · obtain ⟨-, cell, c1, c2, c3, c4, c5⟩ := hpic.2.2.1 (by omega) (by omega)
    refine ⟨cell, c1, c2, c3, c4, fun j hj => ?_⟩
    rw [c5 j hj]
    unfold zel
    rw [if_neg (by omega), if_neg (by omega)]
theorem zV_iald {k m a : Nat} {i : Int32} (h : zl mi pc = some (.iaload, 1, r1, r2, r3)) (hKa : K a = some (k, m)) (hk : k = 100 ∨ k = 110) (hi : vp_in i m) (kk : zV l X d bc bs mi (pc + 1) ls (.int (I a i.toNatClampNeg) :: st) n K P I L Post) : zV l X d bc bs mi pc ls (.int i :: .ref a :: st) n K P I L Post := by
  intro p e R s m' args below meth c H locs cells slots mc ms lsr S D hl
  obtain ⟨cell, c1, c2, c3, c4, c5⟩ := zAt_rd S.2.2.2.2.2.2.2.2.2.2.2.1 (D.2.2.2.2.2.2 a k m hKa) (by omega)
  have hlt : i.toNatClampNeg < m := Nat.not_le.mp fun q => hi (Or.inr q)
  refine W.iald (v := .int (I a i.toNatClampNeg)) S.1 S.2.1 c1 (by rcases hk with rfl | rfl <;> exact c2) c3 (by rw [c4]; exact hi) ?_ rfl rfl (zl_dec h) (kk p e R s m' args below meth c H locs cells slots mc ms lsr S D hl)
  rw [c5 _ hlt]
  rcases hk with rfl | rfl <;> rfl
theorem zV_bald {k m a : Nat} {i : Int32} (h : zl mi pc = some (.baload, 1, r1, r2, r3)) (hKa : K a = some (k, m)) (hk : k = 103 ∨ k = 113) (hi : vp_in i m) (kk : zV l X d bc bs mi (pc + 1) ls (.int (I a i.toNatClampNeg) :: st) n K P I L Post) : zV l X d bc bs mi pc ls (.int i :: .ref a :: st) n K P I L Post := by
  intro p e R s m' args below meth c H locs cells slots mc ms lsr S D hl
  obtain ⟨cell, c1, c2, c3, c4, c5⟩ := zAt_rd S.2.2.2.2.2.2.2.2.2.2.2.1 (D.2.2.2.2.2.2 a k m hKa) (by omega)
  have hlt : i.toNatClampNeg < m := Nat.not_le.mp fun q => hi (Or.inr q)
  refine W.bald (v := .int (I a i.toNatClampNeg)) S.1 S.2.1 c1 (by rcases hk with rfl | rfl <;> exact c2) c3 (by rw [c4]; exact hi) ?_ rfl rfl (zl_dec h) (kk p e R s m' args below meth c H locs cells slots mc ms lsr S D hl)
  rw [c5 _ hlt]
  rcases hk with rfl | rfl <;> rfl
theorem zV_cald {m a : Nat} {i : Int32} (h : zl mi pc = some (.caload, 1, r1, r2, r3)) (hKa : K a = some (102, m)) (hi : vp_in i m) (kk : zV l X d bc bs mi (pc + 1) ls (.int (I a i.toNatClampNeg) :: st) n K P I L Post) : zV l X d bc bs mi pc ls (.int i :: .ref a :: st) n K P I L Post := by
  intro p e R s m' args below meth c H locs cells slots mc ms lsr S D hl
  obtain ⟨cell, c1, c2, c3, c4, c5⟩ := zAt_rd S.2.2.2.2.2.2.2.2.2.2.2.1 (D.2.2.2.2.2.2 a 102 m hKa) (by omega)
  have hlt : i.toNatClampNeg < m := Nat.not_le.mp fun q => hi (Or.inr q)
  refine W.cald (v := .int (I a i.toNatClampNeg)) S.1 S.2.1 c1 c2 c3 (by rw [c4]; exact hi) ?_ rfl rfl (zl_dec h) (kk p e R s m' args below meth c H locs cells slots mc ms lsr S D hl)
  rw [c5 _ hlt]
  rfl
theorem zV_lald {m a : Nat} {i : Int32} (h : zl mi pc = some (.laload, 1, r1, r2, r3)) (hKa : K a = some (101, m)) (hi : vp_in i m) (kk : zV l X d bc bs mi (pc + 1) ls (.long (L a i.toNatClampNeg) :: st) n K P I L Post) : zV l X d bc bs mi pc ls (.int i :: .ref a :: st) n K P I L Post := by
  intro p e R s m' args below meth c H locs cells slots mc ms lsr S D hl
  obtain ⟨cell, c1, c2, c3, c4, c5⟩ := zAt_rd S.2.2.2.2.2.2.2.2.2.2.2.1 (D.2.2.2.2.2.2 a 101 m hKa) (by omega)
  have hlt : i.toNatClampNeg < m := Nat.not_le.mp fun q => hi (Or.inr q)
  refine W.lald (v := .long (L a i.toNatClampNeg)) S.1 S.2.1 c1 c2 c3 (by rw [c4]; exact hi) ?_ rfl rfl (zl_dec h) (kk p e R s m' args below meth c H locs cells slots mc ms lsr S D hl)
  rw [c5 _ hlt]
  rfl
theorem zV_aald {m a q : Nat} {i : Int32} (h : zl mi pc = some (.aaload, 1, r1, r2, r3)) (hKa : K a = some (104, m)) (hi : vp_in i m) (hp : P a i.toNatClampNeg = some q) (kk : zV l X d bc bs mi (pc + 1) ls (.ref q :: st) n K P I L Post) : zV l X d bc bs mi pc ls (.int i :: .ref a :: st) n K P I L Post := by
  intro p e R s m' args below meth c H locs cells slots mc ms lsr S D hl
  obtain ⟨cell, c1, c2, c3, c4, c5⟩ := zAt_rd S.2.2.2.2.2.2.2.2.2.2.2.1 (D.2.2.2.2.2.2 a 104 m hKa) (by omega)
  have hlt : i.toNatClampNeg < m := Nat.not_le.mp fun q => hi (Or.inr q)
  refine W.aald (v := .ref q) (ty := .object RX3) S.1 S.2.1 c1 c2 rfl c3 (by rw [c4]; exact hi) ?_ rfl rfl (zl_dec h) (kk p e R s m' args below meth c H locs cells slots mc ms lsr S D hl)
  rw [c5 _ hlt]
  show some (va_rf (P a i.toNatClampNeg)) = _
  rw [hp]
  rfl
theorem zV_alen {k m a : Nat} {v : Int32} (h : zl mi pc = some (.arraylength, 1, r1, r2, r3)) (hKa : K a = some (k, m)) (hk : k = 100 ∨ k = 101 ∨ k = 102 ∨ k = 103 ∨ k = 104 ∨ k = 110 ∨ k = 113) (hv : Int32.ofNat m = v) (kk : zV l X d bc bs mi (pc + 1) ls (.int v :: st) n K P I L Post) : zV l X d bc bs mi pc ls (.ref a :: st) n K P I L Post := by
  intro p e R s m' args below meth c H locs cells slots mc ms lsr S D hl
  obtain ⟨cell, c1, c2, c3, c4, c5⟩ := zAt_rd S.2.2.2.2.2.2.2.2.2.2.2.1 (D.2.2.2.2.2.2 a k m hKa) hk
  exact W.alen S.1 S.2.1 c1 c2 (by rw [c4]; exact hv) rfl rfl (zl_dec h) (kk p e R s m' args below meth c H locs cells slots mc ms lsr S D hl)
/-- an own array is written -/
theorem zAt_arr {s : State} {H1 : Heap} {a k m j : Nat} {v : Value} {P' : zPT} {I' : zIT} {L' : zLT} (hk1 : 100 ≤ k) (hk2 : k < 110) (hA : zA X a) (e : H1[a]? = some ((arrV (X.2.2.1 k) m (zel k P I L a)).setSlot j v)) (hv : zel k P' I' L' a j = v) (hj : ∀ q, q ≠ j → zel k P' I' L' a q = zel k P I L a q) : zAt X s H1 P' I' L' a k m := by
  refine ⟨fun q => absurd q (by omega), fun _ _ => ⟨hA, ?_⟩, fun q => absurd q (by omega), fun q => absurd q (by omega)⟩
  rw [e, arrV_store]
  congr 2
  funext q
  unfold updV
  by_cases hq : q = j
  · rw [if_pos hq, hq, hv]
  · rw [if_neg hq, hj q hq]
theorem zV_iast {m a : Nat} {i x : Int32} (h : zl mi pc = some (.iastore, 1, r1, r2, r3)) (hKa : K a = some (100, m)) (hi : vp_in i m) (kk : zV l X d bc bs mi (pc + 1) ls st n K P (zuI I a i.toNatClampNeg x) L Post) : zV l X d bc bs mi pc ls (.int x :: .int i :: .ref a :: st) n K P I L Post := by
  intro p e R s m' args below meth c H locs cells slots mc ms lsr S D hl
  obtain ⟨d1, d2, d3, d4, hS, hpic⟩ := id D
  obtain ⟨hA, hx⟩ := (hpic.2 a 100 m hKa).2.1 (by decide) (by decide)
  refine W.iast S.1 S.2.1 hx (zK_arr S.2.2.2.2.2.2.2.2.2.2.2.1 (by omega) m _) (fun q => by cases q) (by rw [arrV_size]; exact hi) rfl rfl (zl_dec h) fun H1 e1 z oq => ?_
  refine kk p e R s m' args below meth c H1 _ cells slots mc ms lsr S ⟨d1, d2, d3, d4, hS.put z oq hA, zPic_put hpic hKa (zAt_arr (by decide) (by decide) hA e1 ?_ (fun q hq => ?_)) z oq (fun _ _ => rfl) (fun q hq => if_neg hq) (fun _ _ => rfl)⟩ hl
  · simp [zel, zuI, upd]
  · simp [zel, zuI, upd, hq]
theorem zV_bast {m a : Nat} {i x : Int32} (h : zl mi pc = some (.bastore, 1, r1, r2, r3)) (hKa : K a = some (103, m)) (hi : vp_in i m) (kk : zV l X d bc bs mi (pc + 1) ls st n K P (zuI I a i.toNatClampNeg x.toInt8.toInt32) L Post) : zV l X d bc bs mi pc ls (.int x :: .int i :: .ref a :: st) n K P I L Post := by
  intro p e R s m' args below meth c H locs cells slots mc ms lsr S D hl
  obtain ⟨d1, d2, d3, d4, hS, hpic⟩ := id D
  obtain ⟨hA, hx⟩ := (hpic.2 a 103 m hKa).2.1 (by decide) (by decide)
  refine W.bast S.1 S.2.1 hx (zK_arr S.2.2.2.2.2.2.2.2.2.2.2.1 (by omega) m _) (fun q => by cases q) (by rw [arrV_size]; exact hi) rfl rfl (zl_dec h) fun H1 e1 z oq => ?_
  refine kk p e R s m' args below meth c H1 _ cells slots mc ms lsr S ⟨d1, d2, d3, d4, hS.put z oq hA, zPic_put hpic hKa (zAt_arr (by decide) (by decide) hA e1 ?_ (fun q hq => ?_)) z oq (fun _ _ => rfl) (fun q hq => if_neg hq) (fun _ _ => rfl)⟩ hl
  · simp [zel, zuI, upd, narrow]
  · simp [zel, zuI, upd, hq]
theorem zV_cast {m a : Nat} {i x : Int32} (h : zl mi pc = some (.castore, 1, r1, r2, r3)) (hKa : K a = some (102, m)) (hi : vp_in i m) (kk : zV l X d bc bs mi (pc + 1) ls st n K P (zuI I a i.toNatClampNeg (vp_nar .char x)) L Post) : zV l X d bc bs mi pc ls (.int x :: .int i :: .ref a :: st) n K P I L Post := by
  intro p e R s m' args below meth c H locs cells slots mc ms lsr S D hl
  obtain ⟨d1, d2, d3, d4, hS, hpic⟩ := id D
  obtain ⟨hA, hx⟩ := (hpic.2 a 102 m hKa).2.1 (by decide) (by decide)
  refine W.cast S.1 S.2.1 hx (zK_arr S.2.2.2.2.2.2.2.2.2.2.2.1 (by omega) m _) (fun q => by cases q) (by rw [arrV_size]; exact hi) rfl rfl (zl_dec h) fun H1 e1 z oq => ?_
  refine kk p e R s m' args below meth c H1 _ cells slots mc ms lsr S ⟨d1, d2, d3, d4, hS.put z oq hA, zPic_put hpic hKa (zAt_arr (by decide) (by decide) hA e1 ?_ (fun q hq => ?_)) z oq (fun _ _ => rfl) (fun q hq => if_neg hq) (fun _ _ => rfl)⟩ hl
  · simp [zel, zuI, upd, vp_nar]
    try rfl
  · simp [zel, zuI, upd, hq]
theorem zV_last {m a : Nat} {i : Int32} {x : Int64} (h : zl mi pc = some (.lastore, 1, r1, r2, r3)) (hKa : K a = some (101, m)) (hi : vp_in i m) (kk : zV l X d bc bs mi (pc + 1) ls st n K P I (zuL L a i.toNatClampNeg x) Post) : zV l X d bc bs mi pc ls (.long x :: .int i :: .ref a :: st) n K P I L Post := by
  intro p e R s m' args below meth c H locs cells slots mc ms lsr S D hl
  obtain ⟨d1, d2, d3, d4, hS, hpic⟩ := id D
  obtain ⟨hA, hx⟩ := (hpic.2 a 101 m hKa).2.1 (by decide) (by decide)
  refine W.last S.1 S.2.1 hx (zK_arr S.2.2.2.2.2.2.2.2.2.2.2.1 (by omega) m _) (fun q => by cases q) (by rw [arrV_size]; exact hi) rfl rfl (zl_dec h) fun H1 e1 z oq => ?_
  refine kk p e R s m' args below meth c H1 _ cells slots mc ms lsr S ⟨d1, d2, d3, d4, hS.put z oq hA, zPic_put hpic hKa (zAt_arr (by decide) (by decide) hA e1 ?_ (fun q hq => ?_)) z oq (fun _ _ => rfl) (fun _ _ => rfl) (fun q hq => if_neg hq)⟩ hl
  · simp [zel, zuL, vp_updL]
  · simp [zel, zuL, vp_updL, hq]
end ZM
end
section
/-! an exception whose constructor bears another index: NoSuchElementException -/
abbrev zNS : String := "java/util/NoSuchElementException"
def znames : List String := ["java/lang/RuntimeException", "java/lang/Exception"]
def zownX : List Cond := (Bundle.ownAtoms RX4 142 zNS znames).filter (fun w => decide (w ∉ Bundle.passSAtoms zNS "java/lang/RuntimeException" 7 Bundle.six)) ++ Bundle.passSAtoms zNS "java/lang/RuntimeException" 13 prog_35_method_4_code
theorem zNS_fit : Bundle.fit zNS = true := by decide +kernel
theorem znames_ok : ∀ q ∈ znames, Bundle.fit q = true := by decide +kernel
set_option maxRecDepth 200000 in
theorem zownX_1 : ∀ x ∈ Bundle.throwableAtoms, x ∈ zownX := by decide +kernel
set_option maxRecDepth 200000 in
theorem zownX_2 : ∀ x ∈ Bundle.throwableSAtoms, x ∈ zownX := by decide +kernel
set_option maxRecDepth 200000 in
theorem zownX_3 : ∀ x ∈ Bundle.passSAtoms zNS "java/lang/RuntimeException" 13 prog_35_method_4_code, x ∈ zownX := by decide +kernel
set_option maxRecDepth 200000 in
theorem zownX_4 : ∀ x ∈ Bundle.chainSAtoms "java/lang/RuntimeException" ["java/lang/Exception"], x ∈ zownX := by decide +kernel
theorem zchainX {args : Array Value} {s : State} {pl : Platform} (hpl : pl.magicAccessors = ({} : Platform).magicAccessors) {top : MethodId} (htop : s.methodNamed? (Bundle.initS Bundle.tN) = some top) (h : ∀ a ∈ zownX, a.before args s = true) :
    ∃ (P1 : PassC) (Ps : List PassC), Ps.length = 2 ∧ P1.LinksS pl s ∧ (∀ P, P ∈ Ps → P.LinksS pl s) ∧ s.methodNamed? (Bundle.initS zNS) = some P1.m ∧ P1.sup = firstOf top (Ps.map (·.toPassT)) ∧ PassesOn top (Ps.map (·.toPassT)) := by
  obtain ⟨Q, Qs, g1, g2, g3, g4, g5, g6⟩ := Bundle.chainS (args := args) hpl htop ["java/lang/Exception"] "java/lang/RuntimeException" (by decide +kernel) (by decide +kernel) (fun c hc => h c (zownX_4 c hc))
  obtain ⟨P, L, hm, hs⟩ := PassC.ofS_atoms (args := args) (s := s) hpl (X := zNS) (Y := "java/lang/RuntimeException") (index := 13) (bytes := prog_35_method_4_code) (by decide +kernel) (by decide) (by decide +kernel) (by decide +kernel) (by decide +kernel) (by decide +kernel) (fun c hc => h c (zownX_3 c hc))
  refine ⟨P, Q :: Qs, by simp [g1], L, fun R hR => ?_, hm, Option.some.inj (hs.symm.trans g4), g5, g6⟩
  rcases List.mem_cons.mp hR with rfl | hR
  · exact g2
  · exact g3 R hR
section ZNS
variable {p : Program} {l : Launch} {e : Env} {R : Room} {s : State} {m₀ : MethodId} {args : Array Value} {below : List Frame} {meth : Method} {c : Code} {W : State} {locs : List Loc} {cells slots : Nat}
set_option maxHeartbeats 1000000 in
theorem zctorMadeX (X : Stand p l e R s m₀ args below meth c W locs cells slots) (hexec : p.tables.exec = Jvm.exec) (htr : e.platform.stackTraces = false) 
    (hown : s.vm.findClass RX4 = some m₀.cls) 
    (h : ∀ a ∈ zownX, a.before args s = true)
    (hlocs : ∀ x ∈ locs, ∀ cell, s.heap[x.base]? = some cell → cell.vm.isStatics = false)
    {a : Addr} {cX : ClassId} {kX : Class} (hfoundX : s.vm.findClass zNS = some cX) (hkX : s.vm.classes[cX]? = some kX) (hcell : W.heap[a]? = some (freshCell cX kX)) (hnew : s.heap.size ≤ a)
    {msg : Value} (hmsg : msg.isRef = true)
    {g : JFrame} (hg : g.method = m₀) (hsize : g.locals.size = c.maxLocals) {rest : List Value} (hstack : g.stack = msg :: .ref a :: .ref a :: rest)
    (hd6 : decode c.code g.pc = .ok (.invokespecial 142, 3))
    (hRframes : 2 + 3 < R.frames) (hRlocals : 2 * g.monitorRoom + ((Value.ref a :: rest).map fun v => v.category).sum + (13 * (2 + 1) + 42) ≤ R.locals) :
    ∃ (V : State) (ce : Cell) (L : List Loc), Stand p l e R s m₀ args below meth c (V.setCell a ce) (locs ++ L) cells slots ∧ (∀ y ∈ L, y.base = a) ∧ a < V.heap.size ∧ ce.cls = cX ∧ ce.vm = .none ∧
      ∀ target, Steps p.tables e below ((V.setCell a ce).setTop { g with stack := .ref a :: rest, pc := g.pc + 3 }) target → Steps p.tables e below (W.setTop g) target := by
  have howns : e.platform.frameOwnsMonitors = true := by rw [X.admits.platform]
  have hfin : e.platform.finalization = false := by rw [X.admits.platform]
  have hpl : e.platform.magicAccessors = ({} : Platform).magicAccessors := by rw [X.admits.platform]
  have a' : ∀ x, x ∈ zownX → x.holds args s none s [] = true := fun x hx => h x hx
  obtain ⟨T, Z0, L, -, Y⟩ := ThrowableC.of_atoms (args := args) howns hfin hpl (fun x hx => h x (zownX_1 x hx))
  obtain ⟨Z, M, LZ, LM, hnZ⟩ := Init0T.ofS_atoms (args := args) hpl L Y (fun x hx => h x (zownX_2 x hx))
  obtain ⟨P1, Ps, hlen, L1, hL, hP1m, hlink1, hlink⟩ := zchainX (args := args) hpl hnZ h
  have hfound : s.vm.findClass zNS = some P1.m.cls := findClass_of_methodNamed hP1m
  cases Option.some.inj (hfoundX.symm.trans hfound)
  obtain ⟨c1, kX', hc1, hk, hord, -, -, hn6⟩ := Cond.instantiable_spec (a' (.instantiable zNS 6) (by decide +kernel))
  cases Option.some.inj (hc1.symm.trans hfound)
  cases Option.some.inj (hkX.symm.trans hk)
  have hsel0 : selectMethod e.platform s.vm P1.m.cls T.fill0 = .method T.fill0 := by
    obtain ⟨c2, r2, m2, q1, q2, q3, q4, -⟩ := Cond.selects_spec (a' (.selects zNS Bundle.tFill0 Bundle.tFill0) (by decide +kernel))
    cases Option.some.inj (q1.symm.trans hfound)
    cases Option.some.inj (q2.symm.trans (State.methodFound?_of_named Y.fill0 (by decide)))
    cases Option.some.inj (q3.symm.trans Y.fill0)
    rw [Launch.admits_selectMethod X.admits]; exact q4
  have hselF : selectMethod e.platform s.vm P1.m.cls T.fill = .method T.fill := by
    obtain ⟨c2, r2, m2, q1, q2, q3, q4, -⟩ := Cond.selects_spec (a' (.selects zNS Bundle.tFill Bundle.tFill) (by decide +kernel))
    cases Option.some.inj (q1.symm.trans hfound)
    cases Option.some.inj (q2.symm.trans (State.methodFound?_of_named Y.fill (by decide)))
    cases Option.some.inj (q3.symm.trans Y.fill)
    rw [Launch.admits_selectMethod X.admits]; exact q4
  obtain ⟨cellS0, hcS0, hiss⟩ := Y.statics
  obtain ⟨u0, hu0⟩ := Cond.staticRefV Y.unassigned L.unassignedStatic L.statics hcS0 hiss (a' (.isRef (.static Bundle.tN "UNASSIGNED_STACK" Bundle.steD)) (by decide +kernel))
  obtain ⟨sen, hsen⟩ := Cond.staticRefV Y.sentinel L.sentinelStatic L.statics hcS0 hiss (a' (.isRef (.static Bundle.tN "SUPPRESSED_SENTINEL" Bundle.listD)) (by decide +kernel))
  obtain ⟨ci198, i198, fB, hk198, hg198, ha198, hsB, -, hnB, htB, hffB⟩ := Cond.ownField (t := .object "java/lang/Object") Y.found L.cls (by decide +kernel) (a' (.fieldLink Bundle.tN 198 Bundle.tN "backtrace" "Ljava/lang/Object;") (by decide +kernel)) (a' (.lays Bundle.tN Bundle.tN "backtrace" "Ljava/lang/Object;") (by decide +kernel)) e.platform hpl
  obtain ⟨cellS, hcS', heS, -, hkeep⟩ := X.same.2.2.2.2.2 T.aS cellS0 hcS0
  have hcellS : W.heap[T.aS]? = some cellS := hcS'
  have hout' : ∀ i, (⟨T.aS, i⟩ : Loc) ∉ locs := fun i hmem => by
    have := hlocs _ hmem cellS0 hcS0
    rw [hiss] at this; cases this
  have hknownS : cellS.vm ≠ .unknown := by
    rw [heS]; intro hu
    rw [show cellS0.vm = .unknown from hu] at hiss
    cases hiss
  have hneS : T.aS ≠ a := Nat.ne_of_lt (Nat.lt_of_lt_of_le (Array.getElem?_eq_some_iff.mp hcS0).1 hnew)
  obtain ⟨iM, hffM⟩ := Y.msg
  obtain ⟨tyC, dC, hdC, hdnC⟩ := Cond.laysAt hfound hk Y.cause (a' (.lays zNS Bundle.tN "cause" "Ljava/lang/Throwable;") (by decide +kernel))
  obtain ⟨tyS, dS, hdS, hdnS⟩ := Cond.laysAt hfound hk Y.stack (a' (.lays zNS Bundle.tN "stackTrace" Bundle.steD) (by decide +kernel))
  obtain ⟨tyP, dP, hdP, hdnP⟩ := Cond.laysAt hfound hk Y.supp (a' (.lays zNS Bundle.tN "suppressedExceptions" Bundle.listD) (by decide +kernel))
  obtain ⟨tyM, dM, hdM, hdnM⟩ := Cond.laysAt hfound hk hffM (a' (.lays zNS Bundle.tN "detailMessage" "Ljava/lang/String;") (by decide +kernel))
  obtain ⟨tyB, dB, hdB, hdnB⟩ := Cond.laysAt hfound hk hffB (a' (.lays zNS Bundle.tN "backtrace" "Ljava/lang/Object;") (by decide +kernel))
  have bC := Cond.laysApart hdB hdC hdnB hdnC (by rw [hnB, Y.causeName]; decide)
  have bS := Cond.laysApart hdB hdS hdnB hdnS (by rw [hnB, Y.stackName]; decide)
  have bP := Cond.laysApart hdB hdP hdnB hdnP (by rw [hnB, Y.suppName]; decide)
  have hskip : SkipFacts T e.platform s (fun u => u) u0 ((preparedCellV T.toThrowableT (freshCell P1.m.cls kX) a u0 sen).withEntry W.cur) :=
    ⟨{ ci198 := ci198, i198 := i198, fBack := fB }, ⟨hk198, hg198, ha198, hsB⟩, by
      have := fresh_default (c := P1.m.cls) tyB
      rw [htB] at this
      simpa [preparedCellV, Cell.setSlot, Cell.withEntry, Array.getElem?_setIfInBounds, bC, bS, bP, bC.symm, bS.symm, bP.symm, defaultValue] using this, fun _ _ => rfl⟩
  obtain ⟨tm, methC, cdC, kC, vm₁, hnC, -, -, -, -, -, -, -, hW₁, st1⟩ := Steps.initColdS (tb := p.tables) (e := e) (below := below) (s := s) (U := W) X.here hexec X.warmed hpl hown (t := Bundle.initS zNS) rfl rfl (Bundle.fit_spec zNS_fit).2
    (a' (.methodLink RX4 142 (Bundle.initS zNS)) (by decide +kernel)) (h (.instanceMethod (Bundle.initS zNS)) (by decide +kernel)) (bytes := prog_35_method_4_code) (maxL := 2) (h (.code (Bundle.initS zNS) prog_35_method_4_code 2 none) (by decide +kernel))
    (f := g) hg (a := a) (msg := msg) (rest := .ref a :: rest) hstack hd6
  cases Option.some.inj (hnC.symm.trans hP1m)
  have X₁ := X.noted hW₁
  obtain ⟨vm₂, X₂, st2⟩ := X₁.ctorMessageOffV hexec (g := { g with stack := .ref a :: rest }) hg hsize T L Z LZ M LM (P1 :: Ps)
    (fun P hP => by rcases List.mem_cons.mp hP with rfl | hP; exact L1; exact hL P hP) ⟨hlink1, hlink⟩ (u0 := u0) (sen := sen) (self := a) hmsg (cell := freshCell P1.m.cls kX) (cellS := cellS)
    hcell (fun _ => by simp) (by simp) rfl rfl hsel0 hselF hcellS hneS hknownS (by rw [hkeep _ (hout' _)]; exact hu0) (by rw [hkeep _ (hout' _)]; exact hsen)
    (Takes.of_laid hk hord tyC (by rw [Y.causeType]; rfl)) (Takes.of_laid hk hord tyS (by rw [Y.stackType]; exact fits_refV_array _ u0)) (Takes.of_laid hk hord tyP (by rw [Y.suppType]; exact fits_refV_object _ sen))
    (Takes.of_laid hk hord tyM (by rw [Y.msgType]; exact fits_refV_object _ ⟨msg, hmsg⟩)) Y.objLocals hskip htr [] hd6
    (by simp only [List.length_cons, hlen]; omega) (by simp only [List.length_cons, hlen]; exact hRlocals)
  have hlt : a < ((W.setVm vm₁).setVm vm₂).heap.size := (Array.getElem?_eq_some_iff.mp hcell).1
  refine ⟨(W.setVm vm₁).setVm vm₂, _, _, X₂, fun y hy => ?_, hlt, rfl, rfl, fun target hwalk => st1 _ (fun acts => ?_)⟩
  · simp only [List.mem_cons, List.not_mem_nil, or_false] at hy
    rcases hy with rfl | rfl | rfl | rfl | rfl <;> rfl
  · rw [doInvoke_state]
    exact st2 _ hwalk
end ZNS
section ZNT
variable {p : Program} {l : Launch} {e : Env} {R : Room} {s : State} {m : MethodId} {args : Array Value} {below : List Frame} {meth : Method} {c : Code} {H : Heap} {locs : List Loc} {cells slots : Nat} {Q : State → Prop}
variable {mc ms : Nat} {free : Addr → Prop} {A0 A1 : Nat → Prop} {H0 : Heap} {a : Array Value} {ls : Array Slot} {st0 rest : List Value}
variable {Qc : Array Value → State → Outcome → State → Prop} {XC : String → State → State → Prop}

theorem zthrowX {cc : ByteArray} {pc : Nat} (hexec : p.tables.exec = Jvm.exec) (hb : c.code = cc) (hl : l.stackTraces = false) {text : String} {ik is mc ms sa : Nat} {A : Nat → Prop}
    (hown : s.vm.findClass RX4 = some m.cls) 
    (hk : (Cond.classLink RX4 ik zNS).before args s = true) (hini : (Cond.initialized zNS).before args s = true) (hstr : vk_R RX4 is text sa s) (hat : ∀ w ∈ zownX.filter vx_no, w.before args s = true)
    (hgood : ∀ w ∈ Cond.classLink RX4 ik zNS :: Cond.initialized zNS :: zownX.filter vx_no, vx_ot w = true)
    (hU : vx_Zq Bundle.tN "UNASSIGNED_STACK" Bundle.steD A s s.heap) (hN : vx_Zq Bundle.tN "SUPPRESSED_SENTINEL" Bundle.listD A s s.heap) (hS : va_S A s.heap H locs) (hsize : ls.size = c.maxLocals)
    (d0 : decode cc pc = .ok (.new ik, 3)) (d3 : decode cc (pc + 3) = .ok (.dup, 1)) (d4 : decode cc (pc + 4) = .ok (.ldc is, 2)) (d6 : decode cc (pc + 6) = .ok (.invokespecial 142, 3)) (d9 : decode cc (pc + 9) = .ok (.athrow, 1))
    (hout : ∀ x ∈ c.exceptionTable.toList, covers x (pc + 9) = false)
    (hRframes : 2 + 3 < R.frames) (hRlocals : (rest.map fun v => v.category).sum + (13 * (2 + 1) + 43) ≤ R.locals) (hRcells : cells + 1 ≤ R.cells) (hRslots : slots + 6 ≤ R.slots) (hlocks : meth.locks = false)
    (hx : ∀ t : State, s.vm.Alike t.vm → H.size ≤ t.heap.size → (∀ q : Nat, q < H.size → t.heap[q]? = H[q]?) → XC zNS s t)
    (hf : ∀ z ∈ locs, free z.base) (hc : cells + 1 ≤ mc) (hs : slots + 6 ≤ ms) :
    W p l e R s m args below meth c H locs cells slots (vx_MQ below Qc XC args s mc ms free) (F0 m pc ls rest) := by
  intro T hT X
  have htr : e.platform.stackTraces = false := (show e.platform.stackTraces = l.stackTraces by rw [X.admits.platform]).trans hl
  have Y := vx_rebase X (R' := { frames := R.frames, locals := R.locals, cells := 1, slots := 6 }) (Nat.le_refl _) (Nat.le_refl _) hRcells hRslots
  obtain ⟨s', hA⟩ : ∃ z, z = (T.setVm s.vm).setFrames (.invoking m args :: below) := ⟨_, rfl⟩
  rw [← hA] at Y
  have hvm : s'.vm = s.vm := by rw [hA]; rfl
  have hhp : s'.heap = H := by rw [hA]; exact hT
  have hW0 : s.WarmedH s'.vm := by rw [hvm]; exact State.WarmedH.refl s
  have hat' : ∀ w ∈ zownX.filter vx_no, w.before args s' = true := fun w hw => vx_ot_at hW0 hvm.symm (hgood w (List.mem_cons_of_mem _ (List.mem_cons_of_mem _ hw))) (hat w hw)
  have hk' : (Cond.classLink RX4 ik zNS).before args s' = true := vx_ot_at hW0 hvm.symm (hgood _ List.mem_cons_self) hk
  have hini' : (Cond.initialized zNS).before args s' = true := vx_ot_at hW0 hvm.symm (hgood _ (List.mem_cons_of_mem _ List.mem_cons_self)) hini
  have hU' : vx_Zq Bundle.tN "UNASSIGNED_STACK" Bundle.steD A s' s'.heap := by rw [hhp]; exact vx_Zq.moved hW0.alike (hU.kept hS.2.1)
  have hN' : vx_Zq Bundle.tN "SUPPRESSED_SENTINEL" Bundle.listD A s' s'.heap := by rw [hhp]; exact vx_Zq.moved hW0.alike (hN.kept hS.2.1)
  have h : ∀ w ∈ zownX, w.before args s' = true := vx_own hat' (vx_isRefq hU'.1) (vx_isRefq hN'.1) hU'.2.word hN'.2.word
  have hown' : s'.vm.findClass RX4 = some m.cls := by rw [hvm]; exact hown
  have hins : (Cond.instantiable zNS 6).before args s' = true := h _ (by decide +kernel)
  obtain ⟨vm₁, cX, kX, hfX, hkX, -, -, X₁, st1⟩ := Y.newCold hexec (own := RX4) (C := zNS) (index := ik) (n := 6) hown' hk' hins hini'
    (g := F0 m pc ls rest) rfl (by rw [hb]; exact d0) (Nat.le_refl _) (Nat.le_refl _)
  generalize hT1 : (T.setVm vm₁).pushCell { cls := cX, slots := kX.instanceTypes.map defaultValue, vm := .none } = T1 at X₁ st1
  have hcat : (Value.ref T.heap.size).category = 1 := rfl
  have hcellA : T1.heap[T.heap.size]? = some (freshCell cX kX) := by rw [← hT1]; exact State.heap_pushCell_size _ _
  have d3' : decode c.code (pc + 3) = .ok (.dup, 1) := by rw [hb]; exact d3
  have d4' : decode c.code (pc + 4) = .ok (.ldc is, 2) := by rw [hb]; exact d4
  have hstr' : vk_R RX4 is text sa s' := vk_R.warm hW0 hstr
  obtain ⟨V, ce, L, Z, hL, hlt, hcl9, hvm9, st⟩ := zctorMadeX X₁ hexec htr hown' h (fun x hx => nomatch hx) hfX hkX hcellA (by rw [hhp, hT]; exact Nat.le_refl _) (msg := .ref sa) rfl
    (g := { method := m, pc := pc + 6, locals := ls, stack := .ref sa :: .ref T.heap.size :: .ref T.heap.size :: rest, locked := none }) rfl hsize (rest := rest) rfl
    (by rw [hb]; exact d6) hRframes (by simp only [List.map_cons, List.sum_cons, hcat]; omega)
  obtain ⟨hwalk, hrun, hend, hW, hsame0⟩ := Z.athrowLeaves hexec (g := { method := m, pc := pc + 9, locals := ls, stack := .ref T.heap.size :: rest, locked := none }) rfl rfl rfl hout (a := T.heap.size) (rest := rest) rfl (by rw [hb]; exact d9)
  have hh : ((V.setCell T.heap.size ce).setFrames (.throwing T.heap.size :: below)).heap[T.heap.size]? = some ce := heapAt_setCell_self (s := V) ce hlt
  generalize (V.setCell T.heap.size ce).setFrames (.throwing T.heap.size :: below) = U at hwalk hrun hend hW hsame0 hh
  have hsame := hsame0.weaken (l' := []) (fun y hy hlt' => by
    exfalso
    rcases List.mem_append.mp hy with h1 | h1
    · exact nomatch h1
    · rw [hL y h1, hhp, hT] at hlt'
      exact Nat.lt_irrefl _ hlt') (Nat.le_refl _) (Nat.le_refl _)
  have hsteps := st _ hwalk
  obtain ⟨f1, f2⟩ := vx_frame hsame
  rw [hhp] at f1 f2
  have hWs : s.WarmedH U.vm := State.WarmedH.trans hW0 hW
  have hcl : s.vm.findClass zNS = some ce.cls := by
    rw [hcl9, ← hvm]
    exact hfX
  have hall : s.sameButNew ({ U with vm := s.vm } : State) locs mc ms := by
    subst hA
    obtain ⟨e1, e2⟩ := hsame
    rw [State.setFrames_setFrames] at e1
    have h2 : (T.setVm s.vm).sameButNew ({ U with vm := s.vm } : State) [] (0 + 1) (0 + 6) := ⟨e1, e2⟩
    have h3 := X.same.trans h2
    rw [List.append_nil] at h3
    exact h3.mono hc hs
  refine ⟨U, ?_, .threw T.heap.size, hrun, hend, Or.inr ⟨T.heap.size, rfl, zNS, ce, locs, hx U hWs.alike f1 (fun q hq => f2 q hq (fun z hz => nomatch hz)), hh, hvm9, hcl, hWs, hall, hf⟩⟩
  refine st1 _ ?_
  show Steps p.tables e below (T1.setTop { method := m, pc := pc + 3, locals := ls, stack := .ref T.heap.size :: rest, locked := none }) _
  jvm_step X₁.here [X₁.here.top, hexec, d3', Value.category]
  exact X₁.ldcString hexec (own := RX4) (text := text) (index := is) (a := sa) hown' hstr'.1 hstr'.2
    (g := { method := m, pc := pc + 4, locals := ls, stack := .ref T.heap.size :: .ref T.heap.size :: rest, locked := none }) rfl d4' _ hsteps
theorem zthrowXW {cc : ByteArray} {pc : Nat} (hexec : p.tables.exec = Jvm.exec) (hb : c.code = cc) (hl : l.stackTraces = false) {text : String} {ik is mc ms sa : Nat} {A : Nat → Prop}
    (hown : s.vm.findClass RX4 = some m.cls) 
    (hk : (Cond.classLink RX4 ik zNS).before args s = true) (hini : (Cond.initialized zNS).before args s = true) (hstr : vk_R RX4 is text sa s) (hat : ∀ w ∈ zownX.filter vx_no, w.before args s = true)
    (hgood : ∀ w ∈ Cond.classLink RX4 ik zNS :: Cond.initialized zNS :: zownX.filter vx_no, vx_ot w = true)
    (hU : vx_Zq Bundle.tN "UNASSIGNED_STACK" Bundle.steD A s s.heap) (hN : vx_Zq Bundle.tN "SUPPRESSED_SENTINEL" Bundle.listD A s s.heap) (hS : va_S A s.heap H locs) (hsize : ls.size = c.maxLocals)
    (d0 : decode cc pc = .ok (.new ik, 3)) (d3 : decode cc (pc + 3) = .ok (.dup, 1)) (d4 : decode cc (pc + 4) = .ok (.ldc_w is, 3)) (d7 : decode cc (pc + 7) = .ok (.invokespecial 142, 3)) (d10 : decode cc (pc + 10) = .ok (.athrow, 1))
    (hout : ∀ x ∈ c.exceptionTable.toList, covers x (pc + 10) = false)
    (hRframes : 2 + 3 < R.frames) (hRlocals : (rest.map fun v => v.category).sum + (13 * (2 + 1) + 43) ≤ R.locals) (hRcells : cells + 1 ≤ R.cells) (hRslots : slots + 6 ≤ R.slots) (hlocks : meth.locks = false)
    (hx : ∀ t : State, s.vm.Alike t.vm → H.size ≤ t.heap.size → (∀ q : Nat, q < H.size → t.heap[q]? = H[q]?) → XC zNS s t)
    (hf : ∀ z ∈ locs, free z.base) (hc : cells + 1 ≤ mc) (hs : slots + 6 ≤ ms) :
    W p l e R s m args below meth c H locs cells slots (vx_MQ below Qc XC args s mc ms free) (F0 m pc ls rest) := by
  intro T hT X
  have htr : e.platform.stackTraces = false := (show e.platform.stackTraces = l.stackTraces by rw [X.admits.platform]).trans hl
  have Y := vx_rebase X (R' := { frames := R.frames, locals := R.locals, cells := 1, slots := 6 }) (Nat.le_refl _) (Nat.le_refl _) hRcells hRslots
  obtain ⟨s', hA⟩ : ∃ z, z = (T.setVm s.vm).setFrames (.invoking m args :: below) := ⟨_, rfl⟩
  rw [← hA] at Y
  have hvm : s'.vm = s.vm := by rw [hA]; rfl
  have hhp : s'.heap = H := by rw [hA]; exact hT
  have hW0 : s.WarmedH s'.vm := by rw [hvm]; exact State.WarmedH.refl s
  have hat' : ∀ w ∈ zownX.filter vx_no, w.before args s' = true := fun w hw => vx_ot_at hW0 hvm.symm (hgood w (List.mem_cons_of_mem _ (List.mem_cons_of_mem _ hw))) (hat w hw)
  have hk' : (Cond.classLink RX4 ik zNS).before args s' = true := vx_ot_at hW0 hvm.symm (hgood _ List.mem_cons_self) hk
  have hini' : (Cond.initialized zNS).before args s' = true := vx_ot_at hW0 hvm.symm (hgood _ (List.mem_cons_of_mem _ List.mem_cons_self)) hini
  have hU' : vx_Zq Bundle.tN "UNASSIGNED_STACK" Bundle.steD A s' s'.heap := by rw [hhp]; exact vx_Zq.moved hW0.alike (hU.kept hS.2.1)
  have hN' : vx_Zq Bundle.tN "SUPPRESSED_SENTINEL" Bundle.listD A s' s'.heap := by rw [hhp]; exact vx_Zq.moved hW0.alike (hN.kept hS.2.1)
  have h : ∀ w ∈ zownX, w.before args s' = true := vx_own hat' (vx_isRefq hU'.1) (vx_isRefq hN'.1) hU'.2.word hN'.2.word
  have hown' : s'.vm.findClass RX4 = some m.cls := by rw [hvm]; exact hown
  have hins : (Cond.instantiable zNS 6).before args s' = true := h _ (by decide +kernel)
  obtain ⟨vm₁, cX, kX, hfX, hkX, -, -, X₁, st1⟩ := Y.newCold hexec (own := RX4) (C := zNS) (index := ik) (n := 6) hown' hk' hins hini'
    (g := F0 m pc ls rest) rfl (by rw [hb]; exact d0) (Nat.le_refl _) (Nat.le_refl _)
  generalize hT1 : (T.setVm vm₁).pushCell { cls := cX, slots := kX.instanceTypes.map defaultValue, vm := .none } = T1 at X₁ st1
  have hcat : (Value.ref T.heap.size).category = 1 := rfl
  have hcellA : T1.heap[T.heap.size]? = some (freshCell cX kX) := by rw [← hT1]; exact State.heap_pushCell_size _ _
  have d3' : decode c.code (pc + 3) = .ok (.dup, 1) := by rw [hb]; exact d3
  have d4' : decode c.code (pc + 4) = .ok (.ldc_w is, 3) := by rw [hb]; exact d4
  have hstr' : vk_R RX4 is text sa s' := vk_R.warm hW0 hstr
  obtain ⟨V, ce, L, Z, hL, hlt, hcl9, hvm9, st⟩ := zctorMadeX X₁ hexec htr hown' h (fun x hx => nomatch hx) hfX hkX hcellA (by rw [hhp, hT]; exact Nat.le_refl _) (msg := .ref sa) rfl
    (g := { method := m, pc := pc + 7, locals := ls, stack := .ref sa :: .ref T.heap.size :: .ref T.heap.size :: rest, locked := none }) rfl hsize (rest := rest) rfl
    (by rw [hb]; exact d7) hRframes (by simp only [List.map_cons, List.sum_cons, hcat]; omega)
  obtain ⟨hwalk, hrun, hend, hW, hsame0⟩ := Z.athrowLeaves hexec (g := { method := m, pc := pc + 10, locals := ls, stack := .ref T.heap.size :: rest, locked := none }) rfl rfl rfl hout (a := T.heap.size) (rest := rest) rfl (by rw [hb]; exact d10)
  have hh : ((V.setCell T.heap.size ce).setFrames (.throwing T.heap.size :: below)).heap[T.heap.size]? = some ce := heapAt_setCell_self (s := V) ce hlt
  generalize (V.setCell T.heap.size ce).setFrames (.throwing T.heap.size :: below) = U at hwalk hrun hend hW hsame0 hh
  have hsame := hsame0.weaken (l' := []) (fun y hy hlt' => by
    exfalso
    rcases List.mem_append.mp hy with h1 | h1
    · exact nomatch h1
    · rw [hL y h1, hhp, hT] at hlt'
      exact Nat.lt_irrefl _ hlt') (Nat.le_refl _) (Nat.le_refl _)
  have hsteps := st _ hwalk
  obtain ⟨f1, f2⟩ := vx_frame hsame
  rw [hhp] at f1 f2
  have hWs : s.WarmedH U.vm := State.WarmedH.trans hW0 hW
  have hcl : s.vm.findClass zNS = some ce.cls := by
    rw [hcl9, ← hvm]
    exact hfX
  have hall : s.sameButNew ({ U with vm := s.vm } : State) locs mc ms := by
    subst hA
    obtain ⟨e1, e2⟩ := hsame
    rw [State.setFrames_setFrames] at e1
    have h2 : (T.setVm s.vm).sameButNew ({ U with vm := s.vm } : State) [] (0 + 1) (0 + 6) := ⟨e1, e2⟩
    have h3 := X.same.trans h2
    rw [List.append_nil] at h3
    exact h3.mono hc hs
  refine ⟨U, ?_, .threw T.heap.size, hrun, hend, Or.inr ⟨T.heap.size, rfl, zNS, ce, locs, hx U hWs.alike f1 (fun q hq => f2 q hq (fun z hz => nomatch hz)), hh, hvm9, hcl, hWs, hall, hf⟩⟩
  refine st1 _ ?_
  show Steps p.tables e below (T1.setTop { method := m, pc := pc + 3, locals := ls, stack := .ref T.heap.size :: rest, locked := none }) _
  jvm_step X₁.here [X₁.here.top, hexec, d3', Value.category]
  exact X₁.ldcStringW hexec (own := RX4) (text := text) (index := is) (a := sa) hown' hstr'.1 hstr'.2
    (g := { method := m, pc := pc + 4, locals := ls, stack := .ref T.heap.size :: .ref T.heap.size :: rest, locked := none }) rfl d4' _ hsteps
end ZNT
end
section
/-! THE SITES OF THROWS: their words are in the tables -/
theorem zface_on {w : Cond} (h : w.faceAtom = true) : w.onTables = true := by
  cases w <;> first | rfl | (simp [Cond.faceAtom] at h; done)
def zsite (x : Nat) : Bool := (vx_atS RX4 (zic x) (zEx x) znames).all (fun w => decide (w ∈ lw_tbl) && (goodWord w || w.faceAtom) && vx_ot w) && (decide (Cond.initialized (zEx x) ∈ lw_tbl) && Bundle.fit (zEx x))
set_option maxRecDepth 200000 in
theorem zsite_0 : zsite 0 = true := by decide +kernel
set_option maxRecDepth 200000 in
theorem zsite_1 : zsite 1 = true := by decide +kernel
set_option maxRecDepth 200000 in
theorem zsite_2 : zsite 2 = true := by decide +kernel
set_option maxRecDepth 200000 in
theorem zsite_3 : zsite 3 = true := by decide +kernel
set_option maxRecDepth 200000 in
theorem zsite_5 : zsite 5 = true := by decide +kernel
def zsiteX : Bool := (zownX.filter vx_no).all (fun w => decide (w ∈ lw_tbl) && (goodWord w || w.faceAtom) && vx_ot w) && (decide (Cond.initialized zNS ∈ lw_tbl) && Bundle.fit zNS)
set_option maxRecDepth 200000 in
theorem zsiteX_ok : zsiteX = true := by decide +kernel
theorem zsite_ok {x : Nat} (h : x < 6) (h4 : x ≠ 4) : zsite x = true := by
  match x, h with
  | 0, _ => exact zsite_0
  | 1, _ => exact zsite_1
  | 2, _ => exact zsite_2
  | 3, _ => exact zsite_3
  | 4, _ => exact absurd rfl h4
  | 5, _ => exact zsite_5
  | n + 6, h => omega
end
section
/-! MAKING, ENDS, THROWS, CALLS -/
theorem zins_of {a b : Cond} (h : ([a, b].all (fun w => decide (w ∈ lw_tbl) && goodWord w)) = true) : a ∈ zTs ∧ b ∈ zTs := ⟨zu_of h a List.mem_cons_self, zu_of h b (List.mem_cons_of_mem _ List.mem_cons_self)⟩
set_option maxRecDepth 200000 in
theorem zins_in {ci k : Nat} (h : k < zN ci) : Cond.instantiable (zcn ci) (zN ci) ∈ zTs ∧ Cond.initialized (zcn ci) ∈ zTs := by
  match ci, h with
  | 0, _ => exact zins_of (by decide +kernel)
  | 1, _ => exact zins_of (by decide +kernel)
  | 4, _ => exact zins_of (by decide +kernel)
  | 5, _ => exact zins_of (by decide +kernel)
  | 6, _ => exact zins_of (by decide +kernel)
  | 7, _ => exact zins_of (by decide +kernel)
  | 8, _ => exact zins_of (by decide +kernel)
  | 2, h => exact absurd h (by simp [zN])
  | 3, h => exact absurd h (by simp [zN])
  | n + 9, h => exact absurd h (by simp [zN])
theorem zdef_ok {ci j : Nat} (h : j < zN ci) : (if zrf ci j = true then Value.null else .int 0) = defaultValue (zty ci j) := by
  match ci, h with
  | 0, h => rcases (show j = 0 ∨ j = 1 ∨ j = 2 ∨ j = 3 by simp only [zN] at h; omega) with rfl | rfl | rfl | rfl <;> rfl
  | 1, h => rcases (show j = 0 ∨ j = 1 ∨ j = 2 ∨ j = 3 by simp only [zN] at h; omega) with rfl | rfl | rfl | rfl <;> rfl
  | 4, h => rcases (show j = 0 ∨ j = 1 ∨ j = 2 ∨ j = 3 ∨ j = 4 ∨ j = 5 ∨ j = 6 ∨ j = 7 ∨ j = 8 ∨ j = 9 ∨ j = 10 ∨ j = 11 by simp only [zN] at h; omega) with rfl | rfl | rfl | rfl | rfl | rfl | rfl | rfl | rfl | rfl | rfl | rfl <;> rfl
  | 5, h => rcases (show j = 0 ∨ j = 1 ∨ j = 2 by simp only [zN] at h; omega) with rfl | rfl | rfl <;> rfl
  | 6, h => rcases (show j = 0 ∨ j = 1 ∨ j = 2 ∨ j = 3 ∨ j = 4 ∨ j = 5 by simp only [zN] at h; omega) with rfl | rfl | rfl | rfl | rfl | rfl <;> rfl
  | 7, h => rcases (show j = 0 ∨ j = 1 ∨ j = 2 ∨ j = 3 ∨ j = 4 ∨ j = 5 ∨ j = 6 ∨ j = 7 ∨ j = 8 ∨ j = 9 ∨ j = 10 ∨ j = 11 ∨ j = 12 ∨ j = 13 ∨ j = 14 ∨ j = 15 by simp only [zN] at h; omega) with rfl | rfl | rfl | rfl | rfl | rfl | rfl | rfl | rfl | rfl | rfl | rfl | rfl | rfl | rfl | rfl <;> rfl
  | 8, h => rcases (show j = 0 ∨ j = 1 ∨ j = 2 ∨ j = 3 ∨ j = 4 ∨ j = 5 ∨ j = 6 ∨ j = 7 ∨ j = 8 ∨ j = 9 ∨ j = 10 by simp only [zN] at h; omega) with rfl | rfl | rfl | rfl | rfl | rfl | rfl | rfl | rfl | rfl | rfl <;> rfl
  | 2, h => exact absurd h (by simp [zN])
  | 3, h => exact absurd h (by simp [zN])
  | n + 9, h => exact absurd h (by simp [zN])
section ZC
variable {l : Launch} {X : zX} {d bc bs mi pc : Nat} {ls : List (Nat × Value)} {st : List Value} {n : Nat} {K : zKT} {P : zPT} {I : zIT} {L : zLT} {Post : zPost} {r1 r2 r3 : Nat}
theorem zV_new {idx ci : Nat} (h : zl mi pc = some (.new idx, 3, ci, 0, r3)) (hk : 0 < zN ci)
    (kk : zV l X d bc bs mi (pc + 3) ls (.ref n :: st) (n + 1) (zuK K n (ci, zN ci)) (z0P P n) (z0I I n) (z0L L n) Post) : zV l X d (bc + 1) (bs + zN ci) mi pc ls st n K P I L Post := by
  intro p e R s m' args below meth c H locs cells slots mc ms lsr S D hl
  obtain ⟨hx, hb, hml, hown, hts, hr, hlk, htab, hnm, hdf, hdl, hKs, hst⟩ := id S
  obtain ⟨d1, d2, d3, d4, hS, hpic⟩ := id D
  obtain ⟨hcl, hlt⟩ := zcl_ok hk
  obtain ⟨w1, w2⟩ := zins_in hk
  have hwc : zhas r3 (.classLink (zO mi) idx (zcn ci)) = true := by
    have h1 := zl_wc h
    unfold zwc at h1
    exact h1
  have hKn := hKs.2.1.1 ci _ hcl
  refine W.newcK hx hb hown (hts _ (zTs_in hwc rfl)) (hts _ w1) (hts _ w2) rfl (zl_dec h) (by omega) (by omega) hKn.2.1 hpic.1 fun H1 kC hkC e1 z1 o1 => ?_
  refine kk p e R s m' args below meth c H1 locs (cells + 1) (slots + zN ci) mc ms lsr S ⟨by omega, by omega, d3, d4, ⟨Nat.le_trans hS.1 (by rw [hpic.1]; omega), fun q h1 h2 => (o1 q (by have := hS.1; rw [hpic.1] at this; omega)).trans (hS.2.1 q h1 h2), hS.2.2⟩, zPic_new hpic ?_ z1 o1⟩ hl
  refine ⟨fun _ => ⟨?_, _, hcl, rfl, (u_born (zty ci) hts (zu_in hk) hKn hkC e1 (zty_ok hk)).to (fun j hj => ?_)⟩, fun q => absurd q (by omega), fun q => absurd q (by omega), fun q => absurd q (by omega)⟩
  · show X.1 ≤ n
    have := hKs.1
    have := hS.1
    rw [hpic.1] at this
    omega
  · rw [← zdef_ok hj]
    simp [zfv, z0P, z0I, va_rf]
theorem zV_newa {k N : Nat} {ty : ArrayType} {x : Int32} (h : zl mi pc = some (.newarray ty, 2, k, r2, r3)) (hk : k = 100 ∨ k = 101 ∨ k = 102 ∨ k = 103) (hty : newarray.typeOf ty = zaty k) (hx : ¬ x < 0) (hN : x.toNatClampNeg = N) (hbytes : N * componentBytes (newarray.typeOf ty) ≤ 536870912)
    (kk : zV l X d bc bs mi (pc + 2) ls (.ref n :: st) (n + 1) (zuK K n (k, N)) (z0P P n) (z0I I n) (z0L L n) Post) : zV l X d (bc + 1) (bs + N) mi pc ls (.int x :: st) n K P I L Post := by
  intro p e R s m' args below meth c H locs cells slots mc ms lsr S D hl
  obtain ⟨hxx, hb, hml, hown, hts, hr, hlk, htab, hnm, hdf, hdl, hKs, hst⟩ := id S
  obtain ⟨d1, d2, d3, d4, hS, hpic⟩ := id D
  have hwc : zhas r3 (.arrayClass (zaty k)) = true := by
    have h1 := zl_wc h
    unfold zwc at h1
    exact h1
  have harr : (Cond.arrayClass (newarray.typeOf ty)).before args s = true := by
    rw [hty]
    exact hts _ (zTs_in hwc rfl)
  refine va_newaK hxx hb harr rfl (zl_dec h) rfl hx hN hbytes (by omega) (by omega) hpic.1 fun H1 cA e1 z1 o1 hAr hNm => ?_
  have hcA : cA = X.2.2.1 k := by
    rw [hty] at hNm
    have h2 := hKs.2.1.2
    rcases hk with rfl | rfl | rfl | rfl
    · exact Option.some.inj (hNm.symm.trans (h2 0 _ rfl).2)
    · exact Option.some.inj (hNm.symm.trans (h2 1 _ rfl).2)
    · exact Option.some.inj (hNm.symm.trans (h2 2 _ rfl).2)
    · exact Option.some.inj (hNm.symm.trans (h2 3 _ rfl).2)
  subst hcA
  refine kk p e R s m' args below meth c H1 locs (cells + 1) (slots + N) mc ms lsr S ⟨by omega, by omega, d3, d4, ⟨Nat.le_trans hS.1 (by rw [hpic.1]; omega), fun q h1 h2 => (o1 q (by have := hS.1; rw [hpic.1] at this; omega)).trans (hS.2.1 q h1 h2), hS.2.2⟩, zPic_new hpic ?_ z1 o1⟩ hl
  refine ⟨fun q => absurd q (by omega), fun _ _ => ⟨?_, ?_⟩, fun q => absurd q (by omega), fun q => absurd q (by omega)⟩
  · show X.1 ≤ n
    have := hKs.1
    have := hS.1
    rw [hpic.1] at this
    omega
  · rw [e1, hty]
    congr 2
    funext j
    rcases hk with rfl | rfl | rfl | rfl <;> simp [zel, z0I, z0L, zaty, defaultValue]
/-- ends -/
theorem zV_ret {v : Int32} {ty : FieldType} (h : zl mi pc = some (.ireturn, 1, r1, r2, r3)) (hr : zRt mi = some ty) (hn : narrow ty (.int v) = .int v) (hp : Post (.inl (some (.int v))) n K P I L) : zV l X d bc bs mi pc ls [.int v] n K P I L Post := by
  intro p e R s m' args below meth c H locs cells slots mc ms lsr S D hl
  obtain ⟨d1, d2, d3, d4, hS, hpic⟩ := id D
  refine W.widen (k := mc) (n := ms) (by omega) (by omega) (vx_ret (W.zret S.1 S.2.1 (S.2.2.2.2.2.1.trans hr) hn (fun t ht hW => ⟨⟨_, n, K, P, I, L, rfl, hp, ?_⟩, hS.F ht⟩) hS.2.2 (zl_dec h) S.2.2.2.2.2.2.1))
  rw [ht]
  exact zPic_moved hW.alike hpic
theorem zV_lret {v : Int64} (h : zl mi pc = some (.lreturn, 1, r1, r2, r3)) (hr : zRt mi = some .long) (hp : Post (.inl (some (.long v))) n K P I L) : zV l X d bc bs mi pc ls [.long v] n K P I L Post := by
  intro p e R s m' args below meth c H locs cells slots mc ms lsr S D hl
  obtain ⟨d1, d2, d3, d4, hS, hpic⟩ := id D
  refine W.widen (k := mc) (n := ms) (by omega) (by omega) (vx_ret (W.lret S.1 S.2.1 (S.2.2.2.2.2.1.trans hr) (fun t ht hW => ⟨⟨_, n, K, P, I, L, rfl, hp, ?_⟩, hS.F ht⟩) hS.2.2 (zl_dec h) S.2.2.2.2.2.2.1))
  rw [ht]
  exact zPic_moved hW.alike hpic
theorem zV_fret {v : UInt32} (h : zl mi pc = some (.freturn, 1, r1, r2, r3)) (hr : zRt mi = some .float) (hp : Post (.inl (some (.float v))) n K P I L) : zV l X d bc bs mi pc ls [.float v] n K P I L Post := by
  intro p e R s m' args below meth c H locs cells slots mc ms lsr S D hl
  obtain ⟨d1, d2, d3, d4, hS, hpic⟩ := id D
  refine W.widen (k := mc) (n := ms) (by omega) (by omega) (vx_ret (W.fret S.1 S.2.1 (S.2.2.2.2.2.1.trans hr) (fun t ht hW => ⟨⟨_, n, K, P, I, L, rfl, hp, ?_⟩, hS.F ht⟩) hS.2.2 (zl_dec h) S.2.2.2.2.2.2.1))
  rw [ht]
  exact zPic_moved hW.alike hpic
theorem zV_dret {v : UInt64} (h : zl mi pc = some (.dreturn, 1, r1, r2, r3)) (hr : zRt mi = some .double) (hp : Post (.inl (some (.double v))) n K P I L) : zV l X d bc bs mi pc ls [.double v] n K P I L Post := by
  intro p e R s m' args below meth c H locs cells slots mc ms lsr S D hl
  obtain ⟨d1, d2, d3, d4, hS, hpic⟩ := id D
  refine W.widen (k := mc) (n := ms) (by omega) (by omega) (vx_ret (W.dret S.1 S.2.1 (S.2.2.2.2.2.1.trans hr) (fun t ht hW => ⟨⟨_, n, K, P, I, L, rfl, hp, ?_⟩, hS.F ht⟩) hS.2.2 (zl_dec h) S.2.2.2.2.2.2.1))
  rw [ht]
  exact zPic_moved hW.alike hpic
theorem zV_vret (h : zl mi pc = some (.return_, 1, r1, r2, r3)) (hr : zRt mi = none) (hp : Post (.inl none) n K P I L) : zV l X d bc bs mi pc ls [] n K P I L Post := by
  intro p e R s m' args below meth c H locs cells slots mc ms lsr S D hl
  obtain ⟨d1, d2, d3, d4, hS, hpic⟩ := id D
  refine W.widen (k := mc) (n := ms) (by omega) (by omega) (vx_ret (W.vret S.1 S.2.1 (S.2.2.2.2.2.1.trans hr) (fun t ht hW => ⟨⟨_, n, K, P, I, L, rfl, hp, ?_⟩, hS.F ht⟩) hS.2.2 (zl_dec h) S.2.2.2.2.2.2.1))
  rw [ht]
  exact zPic_moved hW.alike hpic
theorem zV_aret {a : Nat} {rt : FieldType} (h : zl mi pc = some (.areturn, 1, r1, r2, r3)) (hr : zRt mi = some rt) (hrt : (∃ n, rt = .object n) ∨ ∃ t, rt = .array t) (hp : Post (.inl (some (.ref a))) n K P I L) : zV l X d bc bs mi pc ls [.ref a] n K P I L Post := by
  intro p e R s m' args below meth c H locs cells slots mc ms lsr S D hl
  obtain ⟨d1, d2, d3, d4, hS, hpic⟩ := id D
  refine W.widen (k := mc) (n := ms) (by omega) (by omega) (vx_ret (W.aret S.1 S.2.1 (S.2.2.2.2.2.1.trans hr) hrt (Or.inr ⟨a, rfl⟩) (fun t ht hW => ⟨⟨_, n, K, P, I, L, rfl, hp, ?_⟩, hS.F ht⟩) hS.2.2 (zl_dec h) S.2.2.2.2.2.2.1))
  rw [ht]
  exact zPic_moved hW.alike hpic
/-- throws -/
theorem zwc_new {idx x len : Nat} (h : zl mi pc = some (.new idx, len, x, 1, r3)) : zhas r3 (.classLink (zO mi) idx (zEx x)) = true ∧ x < 6 := by
  have h1 := zl_wc h
  unfold zwc at h1
  simpa using h1
theorem zwc_site {idx x len : Nat} (h : zl mi pc = some (.invokespecial idx, len, x, 10, r3)) : zO mi = RX4 ∧ idx = zic x := by
  have h1 := zl_wc h
  unfold zwc at h1
  simp only [Bool.and_eq_true, decide_eq_true_eq] at h1
  exact h1.1
theorem zwc_str {idx i len : Nat} {op : Instr} (ho : op = .ldc idx ∨ op = .ldc_w idx) (h : zl mi pc = some (op, len, 2, i, r3)) : ∃ q, zstr[i]? = some q ∧ q.1 = zO mi ∧ q.2.1 = idx := by
  have h1 := zl_wc h
  unfold zwc at h1
  rcases ho with rfl | rfl <;>
  · simp only at h1
    split at h1
    · rename_i q hq
      simp only [Bool.and_eq_true, decide_eq_true_eq] at h1
      exact ⟨q, hq, h1.1, h1.2⟩
    · cases h1
theorem zV_throw {x ik is ic i w0 w1 w2 w3 w4 u1 u2 u4 t1 t2 t4 : Nat} (h0 : zl mi pc = some (.new ik, 3, x, 1, w0)) (h1 : zl mi (pc + 3) = some (.dup, 1, u1, t1, w1)) (h2 : zl mi (pc + 4) = some (.ldc is, 2, 2, i, w2)) (h3 : zl mi (pc + 6) = some (.invokespecial ic, 3, x, 10, w3)) (h4 : zl mi (pc + 9) = some (.athrow, 1, u4, t4, w4))
    (hH : zH mi = []) (hd : 6 ≤ d) (hr : (st.map fun v => v.category).sum ≤ 100) (hp : ∀ n', n ≤ n' → Post (.inr x) n' K P I L) : zV l X d (bc + 1) (bs + 6) mi pc ls st n K P I L Post := by
  intro p e R s m' args below meth c H locs cells slots mc ms lsr S D hl
  obtain ⟨hx, hb, hml, hown, hts, hrt, hlk, htab, hnm, hdf, hdl, hKs, hst⟩ := id S
  obtain ⟨d1, d2, d3, d4, hS, hpic⟩ := id D
  obtain ⟨g1, hx6⟩ := zwc_new h0
  obtain ⟨g2, rfl⟩ := zwc_site h3
  obtain ⟨⟨qo, qi, qt⟩, hq, rfl, rfl⟩ := zwc_str (Or.inl rfl) h2
  by_cases hx4 : x = 4
  · subst hx4
    have hs := zsiteX_ok
    unfold zsiteX at hs
    simp only [Bool.and_eq_true, decide_eq_true_eq] at hs
    obtain ⟨hs1, hs2, hs3⟩ := hs
    have hs1 := List.all_eq_true.mp hs1
    have hini : Cond.initialized (zNS) ∈ zTs := List.mem_filter.mpr ⟨hs2, rfl⟩
    have hcls := zTs_in g1 rfl
    rw [g2] at hcls hown
    have hstr := hKs.2.2.2.2.2 i _ hq
    dsimp only at hstr
    rw [g2] at hstr
    have hat : ∀ w ∈ zownX.filter vx_no, w.before args s = true := by
      intro w hw
      have hw1 := hs1 w hw
      simp only [Bool.and_eq_true, Bool.or_eq_true, decide_eq_true_eq] at hw1
      rcases hw1.1.2 with hg | hf
      · exact hts w (List.mem_filter.mpr ⟨hw1.1.1, hg⟩)
      · exact va_Nw.use (zface_on hf) (hKs.2.2.2.1 w (List.mem_filter.mpr ⟨hw1.1.1, by rw [hf]; rfl⟩))
    have hgood : ∀ w ∈ Cond.classLink RX4 ik (zNS) :: Cond.initialized (zNS) :: zownX.filter vx_no, vx_ot w = true := by
      intro w hw
      rcases List.mem_cons.mp hw with rfl | hw
      · rfl
      · rcases List.mem_cons.mp hw with rfl | hw
        · rfl
        · have hw1 := hs1 w hw
          simp only [Bool.and_eq_true] at hw1
          exact hw1.2
    refine zthrowX hx hb hst hown (hts _ hcls) (hts _ hini) hstr hat hgood hKs.2.2.1.2.2.2.2.1 hKs.2.2.1.2.2.2.2.2 hS (by rw [hl.1, hml]) (zl_dec h0) (zl_dec h1) (zl_dec h2) (zl_dec h3) (zl_dec h4)
      (by rw [htab, hH]; exact fun z hz => nomatch hz) (by show 2 + 3 < R.frames; omega) (by show _ + (13 * (2 + 1) + 43) ≤ R.locals; omega) (by omega) (by omega) hlk (fun t hW f1 f2 => ⟨⟨4, t.heap.size, K, P, I, L, rfl, hx6, hp _ (by rw [← hpic.1]; exact f1), zPic_moved hW (zPic_grown hpic f2)⟩, ?_⟩) hS.2.2 (by omega) (by omega)
    exact ⟨Nat.le_trans hS.1 f1, fun q q1 q2 => (f2 q (Nat.lt_of_lt_of_le q1 hS.1)).trans (hS.2.1 q q1 q2)⟩
  · skip
    have hs := zsite_ok hx6 hx4
    unfold zsite at hs
    simp only [Bool.and_eq_true, decide_eq_true_eq] at hs
    obtain ⟨hs1, hs2, hs3⟩ := hs
    have hs1 := List.all_eq_true.mp hs1
    have hini : Cond.initialized (zEx x) ∈ zTs := List.mem_filter.mpr ⟨hs2, rfl⟩
    have hcls := zTs_in g1 rfl
    rw [g2] at hcls hown
    have hstr := hKs.2.2.2.2.2 i _ hq
    dsimp only at hstr
    rw [g2] at hstr
    have hat : ∀ w ∈ vx_atS RX4 (zic x) (zEx x) znames, w.before args s = true := by
      intro w hw
      have hw1 := hs1 w hw
      simp only [Bool.and_eq_true, Bool.or_eq_true, decide_eq_true_eq] at hw1
      rcases hw1.1.2 with hg | hf
      · exact hts w (List.mem_filter.mpr ⟨hw1.1.1, hg⟩)
      · exact va_Nw.use (zface_on hf) (hKs.2.2.2.1 w (List.mem_filter.mpr ⟨hw1.1.1, by rw [hf]; rfl⟩))
    have hgood : ∀ w ∈ Cond.classLink RX4 ik (zEx x) :: Cond.initialized (zEx x) :: vx_atS RX4 (zic x) (zEx x) znames, vx_ot w = true := by
      intro w hw
      rcases List.mem_cons.mp hw with rfl | hw
      · rfl
      · rcases List.mem_cons.mp hw with rfl | hw
        · rfl
        · have hw1 := hs1 w hw
          simp only [Bool.and_eq_true] at hw1
          exact hw1.2
    refine vx_throwS (names := znames) hx hb hst hown hs3 znames_ok (hts _ hcls) (hts _ hini) hstr hat hgood hKs.2.2.1.2.2.2.2.1 hKs.2.2.1.2.2.2.2.2 hS (by rw [hl.1, hml]) (zl_dec h0) (zl_dec h1) (zl_dec h2) (zl_dec h3) (zl_dec h4)
      (by rw [htab, hH]; exact fun z hz => nomatch hz) (by show 2 + 3 < R.frames; omega) (by show _ + (13 * (2 + 1) + 43) ≤ R.locals; omega) (by omega) (by omega) hlk (fun t hW f1 f2 => ⟨⟨x, t.heap.size, K, P, I, L, rfl, hx6, hp _ (by rw [← hpic.1]; exact f1), zPic_moved hW (zPic_grown hpic f2)⟩, ?_⟩) hS.2.2 (by omega) (by omega)
    exact ⟨Nat.le_trans hS.1 f1, fun q q1 q2 => (f2 q (Nat.lt_of_lt_of_le q1 hS.1)).trans (hS.2.1 q q1 q2)⟩
theorem zV_throwW {x ik is ic i w0 w1 w2 w3 w4 u1 u2 u4 t1 t2 t4 : Nat} (h0 : zl mi pc = some (.new ik, 3, x, 1, w0)) (h1 : zl mi (pc + 3) = some (.dup, 1, u1, t1, w1)) (h2 : zl mi (pc + 4) = some (.ldc_w is, 3, 2, i, w2)) (h3 : zl mi (pc + 7) = some (.invokespecial ic, 3, x, 10, w3)) (h4 : zl mi (pc + 10) = some (.athrow, 1, u4, t4, w4))
    (hH : zH mi = []) (hd : 6 ≤ d) (hr : (st.map fun v => v.category).sum ≤ 100) (hp : ∀ n', n ≤ n' → Post (.inr x) n' K P I L) : zV l X d (bc + 1) (bs + 6) mi pc ls st n K P I L Post := by
  intro p e R s m' args below meth c H locs cells slots mc ms lsr S D hl
  obtain ⟨hx, hb, hml, hown, hts, hrt, hlk, htab, hnm, hdf, hdl, hKs, hst⟩ := id S
  obtain ⟨d1, d2, d3, d4, hS, hpic⟩ := id D
  obtain ⟨g1, hx6⟩ := zwc_new h0
  obtain ⟨g2, rfl⟩ := zwc_site h3
  obtain ⟨⟨qo, qi, qt⟩, hq, rfl, rfl⟩ := zwc_str (Or.inr rfl) h2
  by_cases hx4 : x = 4
  · subst hx4
    have hs := zsiteX_ok
    unfold zsiteX at hs
    simp only [Bool.and_eq_true, decide_eq_true_eq] at hs
    obtain ⟨hs1, hs2, hs3⟩ := hs
    have hs1 := List.all_eq_true.mp hs1
    have hini : Cond.initialized (zNS) ∈ zTs := List.mem_filter.mpr ⟨hs2, rfl⟩
    have hcls := zTs_in g1 rfl
    rw [g2] at hcls hown
    have hstr := hKs.2.2.2.2.2 i _ hq
    dsimp only at hstr
    rw [g2] at hstr
    have hat : ∀ w ∈ zownX.filter vx_no, w.before args s = true := by
      intro w hw
      have hw1 := hs1 w hw
      simp only [Bool.and_eq_true, Bool.or_eq_true, decide_eq_true_eq] at hw1
      rcases hw1.1.2 with hg | hf
      · exact hts w (List.mem_filter.mpr ⟨hw1.1.1, hg⟩)
      · exact va_Nw.use (zface_on hf) (hKs.2.2.2.1 w (List.mem_filter.mpr ⟨hw1.1.1, by rw [hf]; rfl⟩))
    have hgood : ∀ w ∈ Cond.classLink RX4 ik (zNS) :: Cond.initialized (zNS) :: zownX.filter vx_no, vx_ot w = true := by
      intro w hw
      rcases List.mem_cons.mp hw with rfl | hw
      · rfl
      · rcases List.mem_cons.mp hw with rfl | hw
        · rfl
        · have hw1 := hs1 w hw
          simp only [Bool.and_eq_true] at hw1
          exact hw1.2
    refine zthrowXW hx hb hst hown (hts _ hcls) (hts _ hini) hstr hat hgood hKs.2.2.1.2.2.2.2.1 hKs.2.2.1.2.2.2.2.2 hS (by rw [hl.1, hml]) (zl_dec h0) (zl_dec h1) (zl_dec h2) (zl_dec h3) (zl_dec h4)
      (by rw [htab, hH]; exact fun z hz => nomatch hz) (by show 2 + 3 < R.frames; omega) (by show _ + (13 * (2 + 1) + 43) ≤ R.locals; omega) (by omega) (by omega) hlk (fun t hW f1 f2 => ⟨⟨4, t.heap.size, K, P, I, L, rfl, hx6, hp _ (by rw [← hpic.1]; exact f1), zPic_moved hW (zPic_grown hpic f2)⟩, ?_⟩) hS.2.2 (by omega) (by omega)
    exact ⟨Nat.le_trans hS.1 f1, fun q q1 q2 => (f2 q (Nat.lt_of_lt_of_le q1 hS.1)).trans (hS.2.1 q q1 q2)⟩
  · skip
    have hs := zsite_ok hx6 hx4
    unfold zsite at hs
    simp only [Bool.and_eq_true, decide_eq_true_eq] at hs
    obtain ⟨hs1, hs2, hs3⟩ := hs
    have hs1 := List.all_eq_true.mp hs1
    have hini : Cond.initialized (zEx x) ∈ zTs := List.mem_filter.mpr ⟨hs2, rfl⟩
    have hcls := zTs_in g1 rfl
    rw [g2] at hcls hown
    have hstr := hKs.2.2.2.2.2 i _ hq
    dsimp only at hstr
    rw [g2] at hstr
    have hat : ∀ w ∈ vx_atS RX4 (zic x) (zEx x) znames, w.before args s = true := by
      intro w hw
      have hw1 := hs1 w hw
      simp only [Bool.and_eq_true, Bool.or_eq_true, decide_eq_true_eq] at hw1
      rcases hw1.1.2 with hg | hf
      · exact hts w (List.mem_filter.mpr ⟨hw1.1.1, hg⟩)
      · exact va_Nw.use (zface_on hf) (hKs.2.2.2.1 w (List.mem_filter.mpr ⟨hw1.1.1, by rw [hf]; rfl⟩))
    have hgood : ∀ w ∈ Cond.classLink RX4 ik (zEx x) :: Cond.initialized (zEx x) :: vx_atS RX4 (zic x) (zEx x) znames, vx_ot w = true := by
      intro w hw
      rcases List.mem_cons.mp hw with rfl | hw
      · rfl
      · rcases List.mem_cons.mp hw with rfl | hw
        · rfl
        · have hw1 := hs1 w hw
          simp only [Bool.and_eq_true] at hw1
          exact hw1.2
    refine vx_throwSW (names := znames) hx hb hst hown hs3 znames_ok (hts _ hcls) (hts _ hini) hstr hat hgood hKs.2.2.1.2.2.2.2.1 hKs.2.2.1.2.2.2.2.2 hS (by rw [hl.1, hml]) (zl_dec h0) (zl_dec h1) (zl_dec h2) (zl_dec h3) (zl_dec h4)
      (by rw [htab, hH]; exact fun z hz => nomatch hz) (by show 2 + 3 < R.frames; omega) (by show _ + (13 * (2 + 1) + 43) ≤ R.locals; omega) (by omega) (by omega) hlk (fun t hW f1 f2 => ⟨⟨x, t.heap.size, K, P, I, L, rfl, hx6, hp _ (by rw [← hpic.1]; exact f1), zPic_moved hW (zPic_grown hpic f2)⟩, ?_⟩) hS.2.2 (by omega) (by omega)
    exact ⟨Nat.le_trans hS.1 f1, fun q q1 q2 => (f2 q (Nat.lt_of_lt_of_le q1 hS.1)).trans (hS.2.1 q q1 q2)⟩
end ZC
end
section
/-! MORE CHECKS OF THE TABLES: what a call's kind asks of the called method, what a handler asks -/
def zkc (e : zE) : Bool := match e with
  | (_, .invokestatic _, _, r1, r2, _) => match r2 with
    | 0 => zhas (zi r1).2.2.2.2.2.2.1 (.static (zY r1)) && (zH r1).isEmpty && decide (r1 < 224) && decide (r1 ≠ 178)
    | 1 => zhas (zi r1).2.2.2.2.2.2.1 (.static (zY r1)) && !(zH r1).isEmpty && decide (r1 < 224) && decide (r1 ≠ 178)
    | 2 => zhas (zi r1).2.2.2.2.2.2.1 (.static (zY r1)) && (zH r1).isEmpty && decide (r1 < 224) && decide (r1 ≠ 178)
    | _ => true
  | (_, .invokevirtual _, _, r1, r2, _) => match r2 with
    | 3 => zhas (zi r1).2.2.2.2.2.2.1 (.instanceMethod (zY r1)) && zhas (zi r1).2.2.2.2.2.2.2.1 (.selects (zY r1).cls (zY r1) (zY r1)) && (zH r1).isEmpty && decide (r1 < 224) && decide (r1 ≠ 178)
    | 4 => zhas (zi r1).2.2.2.2.2.2.1 (.instanceMethod (zY r1)) && (zH r1).isEmpty && decide (r1 < 224) && decide (r1 ≠ 178)
    | 12 => zhas (zi r1).2.2.2.2.2.2.1 (.instanceMethod (zY r1)) && (zH r1).isEmpty && decide (r1 < 224) && decide (r1 ≠ 178)
    | _ => true
  | (_, .invokespecial _, _, r1, r2, _) => match r2 with
    | 5 => zhas (zi r1).2.2.2.2.2.2.1 (.instanceMethod (zY r1)) && decide ((zY r1).name = "<init>") && decide (zRt r1 = none) && (zH r1).isEmpty && decide (r1 < 224) && decide (r1 ≠ 178)
    | 6 => zhas (zi r1).2.2.2.2.2.2.1 (.instanceMethod (zY r1)) && decide ((zY r1).name = "<init>") && decide (zRt r1 = none) && (zH r1).isEmpty && decide (r1 < 224) && decide (r1 ≠ 178)
    | 8 => zhas (zi r1).2.2.2.2.2.2.1 (.instanceMethod (zY r1)) && decide ((zY r1).name ≠ "<init>") && (zH r1).isEmpty && decide (r1 < 224) && decide (r1 ≠ 178)
    | _ => true
  | _ => true
set_option maxRecDepth 200000 in
theorem zkc_all : ztab.all (fun t => t.all zkc) = true := by decide +kernel
def zcc (c : Nat) : Nat := match c with
  | 0 => 21
  | 1 => 13
  | 2 => 15
  | 3 => 26
  | 4 => 60
  | _ => 128
/-- the handlers are the law's, each for one of the six -/
def zhc (i : zI) : Bool := i.2.2.2.2.1.isEmpty || (decide (i.1.cls = zO 178) && i.2.2.2.2.1.all (fun q => (List.range 6).any (fun c => Nat.beq q.2.2.2 (zcc c))))
set_option maxRecDepth 200000 in
theorem zhc_all : zinf.all zhc = true := by decide +kernel
set_option maxRecDepth 200000 in
theorem zcl_in : ((List.range 6).all (fun c => decide (Cond.classLink (zO 178) (zcc c) (zEx c) ∈ lw_tbl) && decide (Cond.castable (zEx c) (zEx c) ∈ lw_tbl))) = true := by decide +kernel
end
section
/-! how long an instruction is -/
def zln : Instr → Nat
  | .iconst _ => 1 | .bipush _ => 2 | .sipush _ => 3 | .lconst _ => 1 | .fconst _ => 1 | .dconst _ => 1 | .ldc _ => 2 | .ldc_w _ => 3 | .ldc2_w _ => 3
  | .iload _ => 2 | .lload _ => 2 | .fload _ => 2 | .dload _ => 2 | .aload _ => 2 | .iload_n _ => 1 | .lload_n _ => 1 | .fload_n _ => 1 | .dload_n _ => 1 | .aload_n _ => 1
  | .istore _ => 2 | .lstore _ => 2 | .fstore _ => 2 | .dstore _ => 2 | .astore _ => 2 | .istore_n _ => 1 | .lstore_n _ => 1 | .fstore_n _ => 1 | .dstore_n _ => 1 | .astore_n _ => 1
  | .iinc _ _ => 3 | .ifCond _ _ => 3 | .if_icmp _ _ => 3 | .goto _ => 3 | .tableswitch .. => 0 | .lookupswitch .. => 0
  | .getfield _ => 3 | .putfield _ => 3 | .getstatic _ => 3 | .invokestatic _ => 3 | .invokevirtual _ => 3 | .invokespecial _ => 3 | .new _ => 3 | .newarray _ => 2 | .anewarray _ => 3
  | .iadd => 1 | .isub => 1 | .imul => 1 | .iand => 1 | .ior => 1 | .ixor => 1 | .ishl => 1 | .ishr => 1 | .iushr => 1 | .idiv => 1 | .irem => 1 | .ineg => 1 | .ladd => 1 | .lmul => 1 | .lor => 1 | .lxor => 1 | .lshl => 1 | .lushr => 1
  | .i2l => 1 | .i2c => 1 | .i2f => 1 | .i2d => 1 | .f2i => 1 | .d2l => 1 | .fmul => 1 | .fdiv => 1 | .fsub => 1 | .dmul => 1 | .ddiv => 1 | .dsub => 1 | .fcmp _ => 1 | .dcmp _ => 1 | .lcmp => 1
  | .dup => 1 | .pop => 1 | .dup2 => 1 | .iaload => 1 | .caload => 1 | .aaload => 1 | .iastore => 1 | .castore => 1 | .arraylength => 1 | .ireturn => 1 | .lreturn => 1 | .freturn => 1 | .dreturn => 1 | .areturn => 1 | .return_ => 1 | .athrow => 1
  | _ => 0
set_option maxRecDepth 200000 in
theorem zln_all : ztab.all (fun t => t.all (fun e => Nat.beq (zln e.2.1) 0 || Nat.beq (zln e.2.1) e.2.2.1)) = true := by decide +kernel
end
section
/-! CALLS: a contract as the kit's, its words, what follows behind a call -/
def zPc (X : zX) (av : List Value) (n : Nat) (K : zKT) (P : zPT) (I : zIT) (L : zLT) : Array Value → State → Prop := fun a U => a = av.toArray ∧ zK X U U.heap ∧ zPic X U U.heap n K P I L
def zRm (d bc bs : Nat) : Room := { frames := d, cells := bc, slots := bs, locals := 60 * d }
theorem zmI {mi : Nat} (h : mi < 224) (hne : mi ≠ 178) : zhas (zi mi).2.2.2.2.2.2.2.2.1 (.initialized (zY mi).cls) = true ∧ zL mi ≤ 40 ∧ (parseMethodDescriptor (zY mi).desc).map (fun d => d.parameters.length) = some (zNP mi) ∧ plainName (zY mi).cls = true ∧ (zY mi).cls ≠ "java/lang/invoke/MethodHandle" ∧ (zY mi).cls ≠ "java/lang/invoke/VarHandle" := by
  have h1 := (zm_all mi h hne).1
  unfold zmc at h1
  simp only [Bool.and_eq_true, decide_eq_true_eq] at h1
  obtain ⟨⟨⟨⟨⟨⟨⟨-, -⟩, h2⟩, h3⟩, h4⟩, h5⟩, h6⟩, h7⟩ := h1
  exact ⟨h2, h3, h4, h5, h6, h7⟩
theorem zcw_good (mi : Nat) : goodWord (zcw mi) = true := by
  unfold zcw
  split <;> rfl
theorem zcw_in {mi : Nat} (h : mi < 224) (hne : mi ≠ 178) : zcw mi ∈ zTs := List.mem_filter.mpr ⟨(zm_all mi h hne).2, zcw_good mi⟩
theorem zws_good {mi : Nat} (h : mi < 224) (hne : mi ≠ 178) : GoodIn zTs (zcw mi :: zTs) := by
  intro w hw
  rcases List.mem_cons.mp hw with rfl | hw
  · exact ⟨zcw_in h hne, good_of_word (zcw_good mi)⟩
  · exact ⟨hw, good_of_word (List.mem_filter.mp hw).2⟩
theorem zS_new {l : Launch} {X : zX} {d bc bs mi : Nat} {av : List Value} {n : Nat} {K : zKT} {P : zPT} {I : zIT} {L : zLT} {p : Program} {e : Env} {s s₁ : State} {m : MethodId} {args : Array Value} {below : List Frame} {meth : Method} {c : Code}
    (hst : l.stackTraces = false) (B : BodyLoose p l (zY mi) (headSpec (zcw mi :: zTs) (zRm d bc bs)) (zB mi) (zL mi) (zRt mi) e s m args below meth c s₁) (hml : c.maxLocals = zL mi) (ht : c.exceptionTable.toList = tableOf (zH mi)) (hP : zPc X av n K P I L args s) :
    zS p l e (zRm d bc bs) s m args below meth c X d mi :=
  ⟨B.exec, B.bytes, hml, findClass_of_methodNamed B.named, fun w hw => atoms_spec (ws := zcw mi :: zTs) B.pre w (List.mem_cons_of_mem _ hw), B.returns, B.notSynchronized, ht, (name_of_methodNamed B.named B.method).1, Nat.le_refl _, Nat.le_refl _, hP.2.1, hst⟩
theorem zMet {l : Launch} {X : zX} {d bc bs mi : Nat} {av : List Value} {n : Nat} {K : zKT} {P : zPT} {I : zIT} {L : zLT} {Q : zPost} (h : mi < 224) (hne : mi ≠ 178) (hst : l.stackTraces = false) (hlen : (lg_sl av).length ≤ zL mi) (hv : zC l X d bc bs mi av n K P I L Q) :
    vx_Met l (zY mi) (zcw mi :: zTs) (zRm d bc bs) (zPc X av n K P I L) (zQ X Q) (zXC X Q) bc bs (zA X) := by
  have key : ∀ (p : Program) (e : Env) (s : State) (m : MethodId) (args : Array Value) (below : List Frame) (meth : Method) (c : Code) (s₁ : State), BodyLoose p l (zY mi) (headSpec (zcw mi :: zTs) (zRm d bc bs)) (zB mi) (zL mi) (zRt mi) e s m args below meth c s₁ → c.maxLocals = zL mi → c.exceptionTable.toList = tableOf (zH mi) → zPc X av n K P I L args s →
      W p l e (zRm d bc bs) s m args below meth c s.heap [] 0 0 (vx_MQ below (zQ X Q) (zXC X Q) args s bc bs (zA X)) (entryFrame m args (zL mi)) := by
    intro p e s m args below meth c s₁ B hml ht hP
    have S := zS_new hst B hml ht hP
    obtain ⟨rfl, hK, hpic⟩ := hP
    rw [lg_entry_eq]
    exact hv p e (zRm d bc bs) s m av.toArray below meth c s.heap [] 0 0 bc bs _ S ⟨Nat.le_of_eq (Nat.zero_add _), Nat.le_of_eq (Nat.zero_add _), Nat.le_refl _, Nat.le_refl _, ⟨Nat.le_refl _, fun _ _ _ => rfl, fun q hq => nomatch hq⟩, hpic⟩ (lv_entry av hlen)
  cases hH : zH mi with
  | nil =>
    refine vx_ofW (cc := zB mi) (maxL := zL mi) (ret := zRt mi) (ws' := zTs) (zmI h hne).2.2.2.1 (by unfold zcw; rw [hH]) ?_
    intro p e s m args below meth c s₁ B hml ht hP
    refine key p e s m args below meth c s₁ B hml ?_ hP
    rw [hH]
    cases hc : c.exceptionTable.toList with
    | nil => rfl
    | cons x t => exact (ht x (by rw [hc]; exact List.mem_cons_self)).elim
  | cons q r =>
    have hw : zcw mi = Cond.codeWith (zY mi) (zB mi) (zL mi) (zRt mi) (q :: r) := by unfold zcw; rw [hH]
    refine vx_ofWH (cc := zB mi) (maxL := zL mi) (ret := zRt mi) (hh := q :: r) (ws' := zTs) (zmI h hne).2.2.2.1 (by rw [hw]) ?_
    intro p e s m args below meth c s₁ B hml hP
    refine key p e s m args below meth c s₁ B hml ?_ hP
    rw [hH]
    exact vx_table (x := zY mi) B (by rw [← hw]; exact atoms_spec (ws := zcw mi :: zTs) B.pre _ List.mem_cons_self)
theorem zPc_blind {X : zX} {av : List Value} {n : Nat} {K : zKT} {P : zPT} {I : zIT} {L : zLT} : FrameBlind (zPc X av n K P I L) := fun _ U _ _ h =>
  ⟨h.1, zK_moved (locs := []) h.2.1 (State.WarmedH.refl U) ⟨Nat.le_refl _, fun _ _ _ => rfl, fun q hq => nomatch hq⟩ rfl, zPic_moved (State.WarmedH.refl U).alike h.2.2⟩
theorem zPc_at {X : zX} {av : List Value} {n : Nat} {K : zKT} {P : zPT} {I : zIT} {L : zLT} {s U : State} {H : Heap} {locs : List Loc} (hK : zK X s s.heap) (hS : va_S (zA X) s.heap H locs) (hpic : zPic X s H n K P I L) (hU : U.heap = H) (hW : s.WarmedH U.vm) : zPc X av n K P I L av.toArray U := by
  subst hU
  exact ⟨rfl, zK_moved hK hW hS rfl, zPic_moved hW.alike hpic⟩
section ZA
variable {l : Launch} {X : zX} {d bc bs mi pc : Nat} {ls : List (Nat × Value)} {st : List Value} {n : Nat} {K : zKT} {P : zPT} {I : zIT} {L : zLT} {Post : zPost}
/-- what is thrown x here: no handler, or one of them with any place q of it -/
def zXh (l : Launch) (X : zX) (d bc bs mi pc : Nat) (ls : List (Nat × Value)) (x n : Nat) (K : zKT) (P : zPT) (I : zIT) (L : zLT) (Post : zPost) : Prop :=
  ((∀ z ∈ zH mi, ¬ (z.1 ≤ pc ∧ pc < z.2.1)) ∧ Post (.inr x) n K P I L) ∨
  ∃ (pre suf : List (Nat × Nat × Nat × Nat)) (z : Nat × Nat × Nat × Nat), zH mi = pre ++ z :: suf ∧ (z.1 ≤ pc ∧ pc < z.2.1) ∧ z.2.2.2 = zcc x ∧ (∀ w ∈ pre, ¬ (w.1 ≤ pc ∧ pc < w.2.1) ∨ w.2.2.2 ≠ zcc x) ∧ ∀ q : Nat, zV l X d bc bs mi z.2.2.1 ls [.ref q] n K P I L Post
theorem zcovers {z : Nat × Nat × Nat × Nat} {pc : Nat} : covers ⟨z.1, z.2.1, z.2.2.1, z.2.2.2⟩ pc = (decide (z.1 ≤ pc) && decide (pc < z.2.1)) := rfl
end ZA
end
section
/-! WHAT FOLLOWS BEHIND A CALL -/
section ZB
variable {l : Launch} {X : zX} {d bc1 bc2 bs1 bs2 mi pc : Nat} {ls : List (Nat × Value)} {n : Nat} {K : zKT} {P : zPT} {I : zIT} {L : zLT} {Post Q : zPost}
theorem zinf_at {mi : Nat} {q : Nat × Nat × Nat × Nat} (h : q ∈ zH mi) : zO mi = zO 178 ∧ ∃ c, c < 6 ∧ q.2.2.2 = zcc c := by
  have hz : zhc (zi mi) = true := by
    unfold zi
    rw [List.getD_eq_getElem?_getD]
    cases hg : zinf[mi]? with
    | none => rfl
    | some w => exact List.all_eq_true.mp zhc_all w (List.mem_of_getElem? hg)
  unfold zhc at hz
  unfold zH at h
  have hne : (zi mi).2.2.2.2.1.isEmpty = false := by
    cases hc : (zi mi).2.2.2.2.1 with
    | nil => rw [hc] at h; cases h
    | cons a t => rfl
  rw [hne] at hz
  simp only [Bool.false_or, Bool.and_eq_true, decide_eq_true_eq] at hz
  refine ⟨hz.1, ?_⟩
  have h2 := List.all_eq_true.mp hz.2 q h
  obtain ⟨c, hc, hb⟩ := List.any_eq_true.mp h2
  exact ⟨c, List.mem_range.mp hc, Nat.eq_of_beq_eq_true hb⟩
theorem zcc_inj {a b : Nat} (ha : a < 6) (hb : b < 6) (h : zcc a = zcc b) : a = b := by
  rcases (show a = 0 ∨ a = 1 ∨ a = 2 ∨ a = 3 ∨ a = 4 ∨ a = 5 by omega) with rfl | rfl | rfl | rfl | rfl | rfl <;>
  rcases (show b = 0 ∨ b = 1 ∨ b = 2 ∨ b = 3 ∨ b = 4 ∨ b = 5 by omega) with rfl | rfl | rfl | rfl | rfl | rfl <;> first | rfl | (simp [zcc] at h; done)
theorem zcc_pos (a : Nat) : zcc a ≠ 0 := by
  unfold zcc
  split <;> decide
theorem zcl_w {c : Nat} (h : c < 6) : Cond.classLink (zO 178) (zcc c) (zEx c) ∈ zTs ∧ Cond.castable (zEx c) (zEx c) ∈ lw_tbl := by
  have h1 := List.all_eq_true.mp zcl_in c (List.mem_range.mpr h)
  simp only [Bool.and_eq_true, decide_eq_true_eq] at h1
  exact ⟨List.mem_filter.mpr ⟨h1.1, rfl⟩, h1.2⟩
/-- behind a call that returns or throws -/
theorem zV_after {p : Program} {e : Env} {R : Room} {s : State} {m : MethodId} {args args' : Array Value} {below : List Frame} {meth : Method} {c : Code} {H : Heap} {locs : List Loc} {cells slots mc ms : Nat} {lsr : Array Slot} {rest st0 : List Value}
    (S : zS p l e R s m args below meth c X d mi) (D : zD X s R H locs cells slots (bc1 + bc2) (bs1 + bs2) mc ms n K P I L) (hl : lv_has lsr (zL mi) ls)
    (hr : vx_Run p l e R s m args below meth c H locs cells slots bc1 bs1 (F0 m pc lsr st0) rest (zQ X Q args') (zXC X Q) (zA X))
    (kk : ∀ (v : Option Value) (n' : Nat) (K' : zKT) (P' : zPT) (I' : zIT) (L' : zLT), Q (.inl v) n' K' P' I' L' → zV l X d bc2 bs2 mi (pc + 3) ls (v.toList ++ rest) n' K' P' I' L' Post)
    (kx : ∀ (x n' : Nat) (K' : zKT) (P' : zPT) (I' : zIT) (L' : zLT), x < 6 → Q (.inr x) n' K' P' I' L' → zXh l X d bc2 bs2 mi pc ls x n' K' P' I' L' Post) :
    W p l e R s m args below meth c H locs cells slots (vx_MQ below (zQ X Post) (zXC X Post) args s mc ms (zA X)) (F0 m pc lsr st0) := by
  intro T hT Xs
  obtain ⟨d1, d2, d3, d4, hS, hpic⟩ := id D
  rcases hr T hT Xs with ⟨v, st₀, t, T', LL, h0, X', hL, e1, e2, ⟨⟨w, n', K', P', I', L', hv, hQ, hp⟩, hF⟩, st⟩ | ⟨q, st₀, t, T', LL, E, ce, h0, X', hL, e1, e2, ⟨⟨x, n', K', P', I', L', hx, hx6, hQ, hp⟩, hF⟩, hce, hcv, hcl, st⟩
  · cases hv
    obtain ⟨k1, k2, k3⟩ := vx_keep h0 e1 hS (fun q _ h => h) (fun q h => h) hL hF
    have hal : s.vm.Alike t.vm := by rw [← e2]; exact X'.warmed.alike
    have D' : zD X s R T'.heap (locs ++ LL) (cells + bc1) (slots + bs1) bc2 bs2 mc ms n' K' P' I' L' := ⟨by omega, by omega, d3, d4, k3, by rw [e1]; exact zPic_moved hal.symm hp⟩
    obtain ⟨t2, a1, b1⟩ := kk v n' K' P' I' L' hQ p e R s m args below meth c T'.heap (locs ++ LL) (cells + bc1) (slots + bs1) mc ms lsr S D' hl T' rfl X'
    exact ⟨t2, st t2 a1, b1⟩
  · obtain ⟨k1, k2, k3⟩ := vx_keep h0 e1 hS (fun q _ h => h) (fun q h => h) hL hF
    have hal : s.vm.Alike t.vm := by rw [← e2]; exact X'.warmed.alike
    have D' : zD X s R T'.heap (locs ++ LL) (cells + bc1) (slots + bs1) bc2 bs2 mc ms n' K' P' I' L' := ⟨by omega, by omega, d3, d4, k3, by rw [e1]; exact zPic_moved hal.symm hp⟩
    have hce' : T'.heap[q]? = some ce := by rw [e1]; exact hce
    subst hx
    obtain ⟨hxx, hb, hml, hown, hts, hrt, hlk, htab, hnm, hdf, hdl, hKs, hst⟩ := id S
    have key : vx_W p l e R s m args below meth c T'.heap (locs ++ LL) (cells + bc1) (slots + bs1) (vx_MQ below (zQ X Post) (zXC X Post) args s mc ms (zA X)) (F0 m pc lsr rest) q := by
      rcases kx x n' K' P' I' L' hx6 hQ with ⟨hno, hp2⟩ | ⟨pre, suf, z, hz, hcov, hzc, hpre, hk⟩
      · refine vx_out (fun y hy => ?_) hlk hce' hcv hcl (fun u hu hau => ?_) k3.2.2 (by omega) (by omega)
        · rw [htab] at hy
          obtain ⟨z, hz, rfl⟩ := List.mem_map.mp hy
          have h1 := hno z hz
          show (decide (z.1 ≤ pc) && decide (pc < z.2.1)) = false
          cases hd : (decide (z.1 ≤ pc) && decide (pc < z.2.1)) with
          | false => rfl
          | true =>
            simp only [Bool.and_eq_true, decide_eq_true_eq] at hd
            exact absurd hd h1
        · refine ⟨⟨x, n', K', P', I', L', rfl, hx6, hp2, ?_⟩, ?_⟩
          · rw [hu, e1]
            exact zPic_moved (hal.symm.trans hau) hp
          · exact ⟨by rw [hu]; exact k3.1, fun q q1 q2 => by rw [hu]; exact k3.2.1 q q1 q2⟩
      · obtain ⟨ho, -⟩ := zinf_at (mi := mi) (q := z) (by rw [hz]; exact List.mem_append_right _ List.mem_cons_self)
        obtain ⟨w1, w2⟩ := zcl_w hx6
        refine vx_catch (own := zO mi) (name := zEx x) hown (pre.map fun q => ⟨q.1, q.2.1, q.2.2.1, q.2.2.2⟩) ⟨z.1, z.2.1, z.2.2.1, z.2.2.2⟩ (suf.map fun q => ⟨q.1, q.2.1, q.2.2.1, q.2.2.2⟩) ?_ ?_ ?_ ?_ ?_ ?_ hce' hcv hcl ?_
        · rw [htab, hz]
          simp [tableOf]
        · intro y hy
          obtain ⟨w, hw, rfl⟩ := List.mem_map.mp hy
          obtain ⟨ho2, c2, hc2, hcc⟩ := zinf_at (mi := mi) (q := w) (by rw [hz]; exact List.mem_append_left _ hw)
          rcases hpre w hw with h1 | h1
          · left
            show (decide (w.1 ≤ pc) && decide (pc < w.2.1)) = false
            cases hd : (decide (w.1 ≤ pc) && decide (pc < w.2.1)) with
            | false => rfl
            | true =>
              simp only [Bool.and_eq_true, decide_eq_true_eq] at hd
              exact absurd hd h1
          · right
            refine ⟨by show w.2.2.2 ≠ 0; rw [hcc]; exact zcc_pos c2, zEx c2, ?_, hKs.2.2.2.2.1 x c2 hx6 hc2 (fun h => h1 (by rw [hcc, h]))⟩
            show (Cond.classLink (zO mi) w.2.2.2 (zEx c2)).before args s = true
            rw [hcc, ho2]
            exact hts _ (zcl_w hc2).1
        · show (decide (z.1 ≤ pc) && decide (pc < z.2.1)) = true
          simp only [Bool.and_eq_true, decide_eq_true_eq]
          exact hcov
        · show z.2.2.2 ≠ 0
          rw [hzc]
          exact zcc_pos x
        · show (Cond.classLink (zO mi) z.2.2.2 (zEx x)).before args s = true
          rw [hzc, ho]
          exact hts _ w1
        · by_cases hg : goodWord (Cond.castable (zEx x) (zEx x)) = true
          · exact hts _ (List.mem_filter.mpr ⟨w2, hg⟩)
          · exact va_Nw.use (zface_on (by rfl)) (hKs.2.2.2.1 _ (List.mem_filter.mpr ⟨w2, by rfl⟩))
        · exact hk q p e R s m args below meth c T'.heap (locs ++ LL) (cells + bc1) (slots + bs1) mc ms lsr S D' hl
    obtain ⟨t2, a1, b1⟩ := key T' rfl X'
    exact ⟨t2, st.trans a1, b1⟩
end ZB
end
section
/-! THE KINDS OF CALLS -/
theorem zkc_at {mi pc : Nat} {q : Instr × Nat × Nat × Nat × Nat} (h : zl mi pc = some q) : zkc (pc, q) = true := by
  have hm := zfind_mem h
  rw [List.getD_eq_getElem?_getD] at hm
  cases hg : ztab[mi]? with
  | none => rw [hg] at hm; cases hm
  | some t =>
    rw [hg] at hm
    exact List.all_eq_true.mp (List.all_eq_true.mp zkc_all t (List.mem_of_getElem? hg)) _ hm
theorem zcw_nil {mi : Nat} (h : (zH mi).isEmpty = true) : zcw mi = .code (zY mi) (zB mi) (zL mi) (zRt mi) := by
  unfold zcw
  cases hH : zH mi with
  | nil => rfl
  | cons a t => rw [hH] at h; cases h
theorem zcw_cons {mi : Nat} (h : (!(zH mi).isEmpty) = true) : zcw mi = .codeWith (zY mi) (zB mi) (zL mi) (zRt mi) (zH mi) := by
  unfold zcw
  cases hH : zH mi with
  | nil => rw [hH] at h; cases h
  | cons a t => rfl
section ZK
variable {l : Launch} {X : zX} {d bc1 bc2 bs1 bs2 mi pc : Nat} {ls : List (Nat × Value)} {n : Nat} {K : zKT} {P : zPT} {I : zIT} {L : zLT} {Post Q : zPost} {r3 mk idx : Nat} {av rest : List Value}
theorem zroom {R : Room} {d mk : Nat} (h : mk < 224) (hne : mk ≠ 178) (h1 : d + 1 ≤ R.frames) (h2 : 60 * (d + 1) ≤ R.locals) (bc bs : Nat) : (zRm d bc bs).frames + 1 ≤ R.frames ∧ 8 + (zL mk + 11) + (zRm d bc bs).locals ≤ R.locals := by
  have := (zmI h hne).2.1
  refine ⟨h1, ?_⟩
  show 8 + (zL mk + 11) + 60 * d ≤ R.locals
  omega
theorem zcallB {p : Program} {e : Env} {R : Room} {s : State} {m : MethodId} {args : Array Value} {below : List Frame} {meth : Method} {c : Code} (S : zS p l e R s m args below meth c X (d + 1) mi) (h : mk < 224) (hne : mk ≠ 178) (hH : (zH mk).isEmpty = true) (hl : (Cond.methodLink (zO mi) idx (zY mk)).before args s = true) :
    CallB R s args (zO mi) idx (zY mk) (zB mk) (zL mk) (zRt mk) (zcw mk :: zTs) (zRm d bc1 bs1) bc1 bs1 (zNP mk) := by
  obtain ⟨hxx, hb, hml, hown, hts, hrt, hlk, htab, hnm, hdf, hdl, hKs, hst⟩ := S
  obtain ⟨g1, g2, g3, g4, g5, g6⟩ := zmI h hne
  obtain ⟨q1, q2⟩ := zroom h hne hdf hdl bc1 bs1
  have hc : zcw mk = .code (zY mk) (zB mk) (zL mk) (zRt mk) := zcw_nil hH
  refine ⟨rfl, rfl, q1, q2, pay_in hts (zws_good h hne), by rw [hc]; exact List.mem_cons_self, by rw [← hc]; exact hts _ (zcw_in h hne), hts _ (zTs_in g1 rfl), ⟨g5, g6⟩, fun sig hs => ?_, hl⟩
  rw [hs] at g3
  exact (Option.some.inj g3).symm
theorem zpre {s : State} {H : Heap} {locs : List Loc} (hK : zK X s s.heap) (hS : va_S (zA X) s.heap H locs) (hpic : zPic X s H n K P I L) : PreS s H (zPc X av n K P I L) av := ⟨zPc_blind, fun _ hU hW => zPc_at hK hS hpic hU hW⟩
/-- a static method of the class itself or of another one, without handlers -/
theorem zV_cs (h : zl mi pc = some (.invokestatic idx, 3, mk, 0, r3)) (hav : av.length = zNP mk) (hlen : (lg_sl av).length ≤ zL mk) (hW : (rest.map fun v => v.category).sum ≤ 8) (hc : zC l X d bc1 bs1 mk av n K P I L Q)
    (kk : ∀ (v : Option Value) (n' : Nat) (K' : zKT) (P' : zPT) (I' : zIT) (L' : zLT), Q (.inl v) n' K' P' I' L' → zV l X (d + 1) bc2 bs2 mi (pc + 3) ls (v.toList ++ rest) n' K' P' I' L' Post)
    (kx : ∀ (x n' : Nat) (K' : zKT) (P' : zPT) (I' : zIT) (L' : zLT), x < 6 → Q (.inr x) n' K' P' I' L' → zXh l X (d + 1) bc2 bs2 mi pc ls x n' K' P' I' L' Post) :
    zV l X (d + 1) (bc1 + bc2) (bs1 + bs2) mi pc ls (av.reverse ++ rest) n K P I L Post := by
  intro p e R s m args below meth c H locs cells slots mc ms lsr S D hl
  have hk := zkc_at h
  simp only [zkc, Bool.and_eq_true, decide_eq_true_eq] at hk
  obtain ⟨⟨⟨k1, k2⟩, k3⟩, k4⟩ := hk
  have hw : zhas r3 (.methodLink (zO mi) idx (zY mk)) = true := zl_wc h
  obtain ⟨hxx, hb, hml, hown, hts, hrt, hlk, htab, hnm, hdf, hdl, hKs, hst⟩ := id S
  obtain ⟨d1, d2, d3, d4, hS, hpic⟩ := id D
  exact zV_after S D hl (vx_runS (As := av) (rest := rest) ⟨hxx, hb, hml, hown, hts⟩ (zMet k3 k4 hst hlen hc) ⟨zcallB S k3 k4 k2 (hts _ (zTs_in hw rfl)), hts _ (zTs_in k1 rfl)⟩ (zpre hKs hS hpic) rfl hav hl.1 rfl (by show 2 * 0 + _ ≤ 8; omega) (zl_dec h) ⟨by omega, by omega⟩) kk kx
/-- a static method with handlers -/
theorem zV_csx (h : zl mi pc = some (.invokestatic idx, 3, mk, 1, r3)) (hav : av.length = zNP mk) (hlen : (lg_sl av).length ≤ zL mk) (hW : (rest.map fun v => v.category).sum ≤ 8) (hc : zC l X d bc1 bs1 mk av n K P I L Q)
    (kk : ∀ (v : Option Value) (n' : Nat) (K' : zKT) (P' : zPT) (I' : zIT) (L' : zLT), Q (.inl v) n' K' P' I' L' → zV l X (d + 1) bc2 bs2 mi (pc + 3) ls (v.toList ++ rest) n' K' P' I' L' Post)
    (kx : ∀ (x n' : Nat) (K' : zKT) (P' : zPT) (I' : zIT) (L' : zLT), x < 6 → Q (.inr x) n' K' P' I' L' → zXh l X (d + 1) bc2 bs2 mi pc ls x n' K' P' I' L' Post) :
    zV l X (d + 1) (bc1 + bc2) (bs1 + bs2) mi pc ls (av.reverse ++ rest) n K P I L Post := by
  intro p e R s m args below meth c H locs cells slots mc ms lsr S D hl
  have hk := zkc_at h
  simp only [zkc, Bool.and_eq_true, decide_eq_true_eq] at hk
  obtain ⟨⟨⟨k1, k2⟩, k3⟩, k4⟩ := hk
  have hw : zhas r3 (.methodLink (zO mi) idx (zY mk)) = true := zl_wc h
  obtain ⟨hxx, hb, hml, hown, hts, hrt, hlk, htab, hnm, hdf, hdl, hKs, hst⟩ := id S
  obtain ⟨d1, d2, d3, d4, hS, hpic⟩ := id D
  obtain ⟨g1, g2, g3, g4, g5, g6⟩ := zmI k3 k4
  obtain ⟨q1, q2⟩ := zroom k3 k4 hdf hdl bc1 bs1
  have hcw : zcw mk = .codeWith (zY mk) (zB mk) (zL mk) (zRt mk) (zH mk) := zcw_cons k2
  have cw : vx_CSW R s args (zO mi) idx (zY mk) (zB mk) (zL mk) (zRt mk) (zH mk) (zcw mk :: zTs) (zRm d bc1 bs1) bc1 bs1 (zNP mk) := by
    refine ⟨⟨rfl, rfl, q1, q2, pay_in hts (zws_good k3 k4), by rw [hcw]; exact List.mem_cons_self⟩, by rw [← hcw]; exact hts _ (zcw_in k3 k4), hts _ (zTs_in g1 rfl), ⟨g5, g6⟩, fun sig hs => ?_, hts _ (zTs_in hw rfl), hts _ (zTs_in k1 rfl)⟩
    rw [hs] at g3
    exact (Option.some.inj g3).symm
  exact zV_after S D hl (vx_runSX (As := av) (rest := rest) ⟨hxx, hb, hml, hown, hts⟩ (zMet k3 k4 hst hlen hc) cw (zpre hKs hS hpic) rfl hav hl.1 rfl (by show 2 * 0 + _ ≤ 8; omega) (zl_dec h) ⟨by omega, by omega⟩) kk kx
/-- a private static method of a class of the same nest -/
theorem zV_csn (h : zl mi pc = some (.invokestatic idx, 3, mk, 2, r3)) (hav : av.length = zNP mk) (hlen : (lg_sl av).length ≤ zL mk) (hW : (rest.map fun v => v.category).sum ≤ 8) (hc : zC l X d bc1 bs1 mk av n K P I L Q)
    (kk : ∀ (v : Option Value) (n' : Nat) (K' : zKT) (P' : zPT) (I' : zIT) (L' : zLT), Q (.inl v) n' K' P' I' L' → zV l X (d + 1) bc2 bs2 mi (pc + 3) ls (v.toList ++ rest) n' K' P' I' L' Post)
    (kx : ∀ (x n' : Nat) (K' : zKT) (P' : zPT) (I' : zIT) (L' : zLT), x < 6 → Q (.inr x) n' K' P' I' L' → zXh l X (d + 1) bc2 bs2 mi pc ls x n' K' P' I' L' Post) :
    zV l X (d + 1) (bc1 + bc2) (bs1 + bs2) mi pc ls (av.reverse ++ rest) n K P I L Post := by
  intro p e R s m args below meth c H locs cells slots mc ms lsr S D hl
  have hk := zkc_at h
  simp only [zkc, Bool.and_eq_true, decide_eq_true_eq] at hk
  obtain ⟨⟨⟨k1, k2⟩, k3⟩, k4⟩ := hk
  have hw : zhas r3 (.methodLinkNest (zO mi) idx (zY mk) RX4) = true := zl_wc h
  obtain ⟨hxx, hb, hml, hown, hts, hrt, hlk, htab, hnm, hdf, hdl, hKs, hst⟩ := id S
  obtain ⟨d1, d2, d3, d4, hS, hpic⟩ := id D
  obtain ⟨g1, g2, g3, g4, g5, g6⟩ := zmI k3 k4
  obtain ⟨q1, q2⟩ := zroom k3 k4 hdf hdl bc1 bs1
  have hcw : zcw mk = .code (zY mk) (zB mk) (zL mk) (zRt mk) := zcw_nil k2
  have cw : va_CN R s args (zO mi) idx (zY mk) RX4 (zB mk) (zL mk) (zRt mk) (zcw mk :: zTs) (zRm d bc1 bs1) bc1 bs1 (zNP mk) := by
    refine ⟨⟨rfl, rfl, q1, q2, pay_in hts (zws_good k3 k4), by rw [hcw]; exact List.mem_cons_self⟩, by rw [← hcw]; exact hts _ (zcw_in k3 k4), hts _ (zTs_in g1 rfl), ⟨g5, g6⟩, fun sig hs => ?_, va_Nw.use rfl (hKs.2.2.2.1 _ (zTf_in hw rfl))⟩
    rw [hs] at g3
    exact (Option.some.inj g3).symm
  exact zV_after S D hl (vx_runSN (As := av) (rest := rest) ⟨hxx, hb, hml, hown, hts⟩ (zMet k3 k4 hst hlen hc) ⟨cw, hts _ (zTs_in k1 rfl), trivial⟩ (zpre hKs hS hpic) rfl hav hl.1 rfl (by show 2 * 0 + _ ≤ 8; omega) (zl_dec h) ⟨by omega, by omega⟩) kk kx
/-- an own object as a receiver -/
theorem zown_at {s : State} {H : Heap} {a ci k : Nat} (hK : zK X s s.heap) (hpic : zPic X s H n K P I L) (hKa : K a = some (ci, k)) (hci : ci < 100) : ∃ (r : vw_C) (cell : Cell), vwCl[ci]? = some r ∧ H[a]? = some cell ∧ cell.vm.isStatics = false ∧ s.vm.findClass r.1 = some cell.cls := by
  obtain ⟨hA, r, g1, g2, cell, q1, q2, q3, q4⟩ := (hpic.2 a ci k hKa).1 hci
  refine ⟨r, cell, g1, q1, by rw [q3]; rfl, ?_⟩
  rw [q2]
  exact (hK.2.1.1 ci r g1).2.1
/-- a method of the receiver's own class -/
theorem zV_cv {a ci k : Nat} (h : zl mi pc = some (.invokevirtual idx, 3, mk, 3, r3)) (hKa : K a = some (ci, k)) (hci : ci < 100) (hco : vwCl[ci]?.map (fun r => r.1) = some (zO mk)) (hav : av.length = zNP mk) (hlen : (lg_sl (.ref a :: av)).length ≤ zL mk) (hW : (rest.map fun v => v.category).sum ≤ 8) (hc : zC l X d bc1 bs1 mk (.ref a :: av) n K P I L Q)
    (kk : ∀ (v : Option Value) (n' : Nat) (K' : zKT) (P' : zPT) (I' : zIT) (L' : zLT), Q (.inl v) n' K' P' I' L' → zV l X (d + 1) bc2 bs2 mi (pc + 3) ls (v.toList ++ rest) n' K' P' I' L' Post)
    (kx : ∀ (x n' : Nat) (K' : zKT) (P' : zPT) (I' : zIT) (L' : zLT), x < 6 → Q (.inr x) n' K' P' I' L' → zXh l X (d + 1) bc2 bs2 mi pc ls x n' K' P' I' L' Post) :
    zV l X (d + 1) (bc1 + bc2) (bs1 + bs2) mi pc ls (av.reverse ++ .ref a :: rest) n K P I L Post := by
  intro p e R s m args below meth c H locs cells slots mc ms lsr S D hl
  have hk := zkc_at h
  simp only [zkc, Bool.and_eq_true, decide_eq_true_eq] at hk
  obtain ⟨⟨⟨⟨k1, k5⟩, k2⟩, k3⟩, k4⟩ := hk
  have hw : zhas r3 (.methodLink (zO mi) idx (zY mk)) = true := zl_wc h
  obtain ⟨hxx, hb, hml, hown, hts, hrt, hlk, htab, hnm, hdf, hdl, hKs, hst⟩ := id S
  obtain ⟨d1, d2, d3, d4, hS, hpic⟩ := id D
  obtain ⟨r, cell, g1, g2, g3, g4⟩ := zown_at hKs hpic hKa hci
  rw [g1] at hco
  have hro : r.1 = zO mk := Option.some.inj hco
  exact zV_after S D hl (vx_runV (C := zO mk) (b := a) (As := av) (rest := rest) ⟨hxx, hb, hml, hown, hts⟩ (zMet k3 k4 hst hlen hc) ⟨zcallB S k3 k4 k2 (hts _ (zTs_in hw rfl)), hts _ (zTs_in k1 rfl), hts _ (zTs_in k5 rfl)⟩
    ⟨zPc_blind, ⟨cell, g2, g3, by rw [← hro]; exact g4⟩, fun _ hU hW => zPc_at hKs hS hpic hU hW⟩ rfl hav hl.1 rfl (by show 2 * 0 + _ ≤ 8; omega) (zl_dec h) ⟨by omega, by omega⟩) kk kx
/-- a constructor -/
theorem zV_ci {a : Nat} (h : zl mi pc = some (.invokespecial idx, 3, mk, 5, r3)) (hav : av.length = zNP mk) (hlen : (lg_sl (.ref a :: av)).length ≤ zL mk) (hW : (rest.map fun v => v.category).sum ≤ 8) (hc : zC l X d bc1 bs1 mk (.ref a :: av) n K P I L Q)
    (kk : ∀ (v : Option Value) (n' : Nat) (K' : zKT) (P' : zPT) (I' : zIT) (L' : zLT), Q (.inl v) n' K' P' I' L' → zV l X (d + 1) bc2 bs2 mi (pc + 3) ls (v.toList ++ rest) n' K' P' I' L' Post)
    (kx : ∀ (x n' : Nat) (K' : zKT) (P' : zPT) (I' : zIT) (L' : zLT), x < 6 → Q (.inr x) n' K' P' I' L' → zXh l X (d + 1) bc2 bs2 mi pc ls x n' K' P' I' L' Post) :
    zV l X (d + 1) (bc1 + bc2) (bs1 + bs2) mi pc ls (av.reverse ++ .ref a :: rest) n K P I L Post := by
  intro p e R s m args below meth c H locs cells slots mc ms lsr S D hl
  have hk := zkc_at h
  simp only [zkc, Bool.and_eq_true, decide_eq_true_eq] at hk
  obtain ⟨⟨⟨⟨⟨k1, k5⟩, k6⟩, k2⟩, k3⟩, k4⟩ := hk
  have hw : zhas r3 (.methodLink (zO mi) idx (zY mk)) = true := zl_wc h
  obtain ⟨hxx, hb, hml, hown, hts, hrt, hlk, htab, hnm, hdf, hdl, hKs, hst⟩ := id S
  obtain ⟨d1, d2, d3, d4, hS, hpic⟩ := id D
  exact zV_after S D hl (vx_runI (b := a) (As := av) (rest := rest) ⟨hxx, hb, hml, hown, hts⟩ (zMet k3 k4 hst hlen hc) ⟨by have := zcallB (bc1 := bc1) (bs1 := bs1) S k3 k4 k2 (hts _ (zTs_in hw rfl)); rw [k6] at this; exact this, k5, hts _ (zTs_in k1 rfl)⟩
    (zpre (av := .ref a :: av) hKs hS hpic) rfl hav hl.1 rfl (by show 2 * 0 + _ ≤ 8; omega) (zl_dec h) ⟨by omega, by omega⟩) kk kx
/-- a private constructor of a class of the same nest -/
theorem zV_cin {a : Nat} (h : zl mi pc = some (.invokespecial idx, 3, mk, 6, r3)) (hav : av.length = zNP mk) (hlen : (lg_sl (.ref a :: av)).length ≤ zL mk) (hW : (rest.map fun v => v.category).sum ≤ 8) (hc : zC l X d bc1 bs1 mk (.ref a :: av) n K P I L Q)
    (kk : ∀ (v : Option Value) (n' : Nat) (K' : zKT) (P' : zPT) (I' : zIT) (L' : zLT), Q (.inl v) n' K' P' I' L' → zV l X (d + 1) bc2 bs2 mi (pc + 3) ls (v.toList ++ rest) n' K' P' I' L' Post)
    (kx : ∀ (x n' : Nat) (K' : zKT) (P' : zPT) (I' : zIT) (L' : zLT), x < 6 → Q (.inr x) n' K' P' I' L' → zXh l X (d + 1) bc2 bs2 mi pc ls x n' K' P' I' L' Post) :
    zV l X (d + 1) (bc1 + bc2) (bs1 + bs2) mi pc ls (av.reverse ++ .ref a :: rest) n K P I L Post := by
  intro p e R s m args below meth c H locs cells slots mc ms lsr S D hl
  have hk := zkc_at h
  simp only [zkc, Bool.and_eq_true, decide_eq_true_eq] at hk
  obtain ⟨⟨⟨⟨⟨k1, k5⟩, k6⟩, k2⟩, k3⟩, k4⟩ := hk
  have hw : zhas r3 (.methodLinkNest (zO mi) idx (zY mk) RX4) = true := zl_wc h
  obtain ⟨hxx, hb, hml, hown, hts, hrt, hlk, htab, hnm, hdf, hdl, hKs, hst⟩ := id S
  obtain ⟨d1, d2, d3, d4, hS, hpic⟩ := id D
  obtain ⟨g1, g2, g3, g4, g5, g6⟩ := zmI k3 k4
  obtain ⟨q1, q2⟩ := zroom k3 k4 hdf hdl bc1 bs1
  have hcw : zcw mk = .code (zY mk) (zB mk) (zL mk) (zRt mk) := zcw_nil k2
  have cw : va_CN R s args (zO mi) idx (zY mk) RX4 (zB mk) (zL mk) (zRt mk) (zcw mk :: zTs) (zRm d bc1 bs1) bc1 bs1 (zNP mk) := by
    refine ⟨⟨rfl, rfl, q1, q2, pay_in hts (zws_good k3 k4), by rw [hcw]; exact List.mem_cons_self⟩, by rw [← hcw]; exact hts _ (zcw_in k3 k4), hts _ (zTs_in g1 rfl), ⟨g5, g6⟩, fun sig hs => ?_, va_Nw.use rfl (hKs.2.2.2.1 _ (zTf_in hw rfl))⟩
    rw [hs] at g3
    exact (Option.some.inj g3).symm
  exact zV_after S D hl (vx_runIN (b := a) (As := av) (rest := rest) ⟨hxx, hb, hml, hown, hts⟩ (zMet k3 k4 hst hlen hc) ⟨by rw [k6] at cw; exact cw, k5, hts _ (zTs_in k1 rfl)⟩
    (zpre (av := .ref a :: av) hKs hS hpic) rfl hav hl.1 rfl (by show 2 * 0 + _ ≤ 8; omega) (zl_dec h) ⟨by omega, by omega⟩) kk kx
end ZK
end
section
/-! MORE RULES: constants, copies, Math -/
set_option maxRecDepth 200000 in
theorem zcp_w : ([Cond.native arraycopyName, Cond.static arraycopyName, Cond.initialized "java/lang/System", Cond.static Lib.Math.min.name, Cond.static Lib.Math.max.name, Cond.static Lib.Math.abs.name, Cond.initialized "java/lang/Math",
    Cond.code Lib.Math.min.name Lib.Math.min.code 2 (some .int), Cond.code Lib.Math.max.name Lib.Math.max.code 2 (some .int), Cond.code Lib.Math.abs.name Lib.Math.abs.code 1 (some .int)].all (fun w => decide (w ∈ lw_tbl) && goodWord w)) = true := by decide +kernel
theorem zcp_in (k : Nat) {w : Cond} (h : [Cond.native arraycopyName, Cond.static arraycopyName, Cond.initialized "java/lang/System", Cond.static Lib.Math.min.name, Cond.static Lib.Math.max.name, Cond.static Lib.Math.abs.name, Cond.initialized "java/lang/Math",
    Cond.code Lib.Math.min.name Lib.Math.min.code 2 (some .int), Cond.code Lib.Math.max.name Lib.Math.max.code 2 (some .int), Cond.code Lib.Math.abs.name Lib.Math.abs.code 1 (some .int)][k]? = some w) : w ∈ zTs := by
  have h1 := List.all_eq_true.mp zcp_w w (List.mem_of_getElem? h)
  simp only [Bool.and_eq_true, decide_eq_true_eq] at h1
  exact List.mem_filter.mpr h1
theorem va_ldcwF {p : Program} {l : Launch} {e : Env} {R : Room} {s : State} {m : MethodId} {args : Array Value} {below : List Frame} {meth : Method} {c : Code} {T : State} {locs : List Loc} {cells slots : Nat} (X : Stand p l e R s m args below meth c T locs cells slots) (hexec : p.tables.exec = Jvm.exec) {own : String} {index : Nat} {v : UInt32} (hown : s.vm.findClass own = some m.cls)
    (hconst : (Cond.constantFloat own index v).before args s = true) {g : JFrame} (hg : g.method = m) (hdg : decode c.code g.pc = .ok (.ldc_w index, 3)) :
    ∀ target, Steps p.tables e below (T.setTop { g with pc := g.pc + 3, stack := .float v :: g.stack }) target → Steps p.tables e below (T.setTop g) target := by
  obtain ⟨k, cf, hk, hcf, hcp⟩ := Cond.constantFloat_spec hown hconst
  obtain ⟨k', hk', he⟩ := X.warmed.alike.2.2 _ _ hk
  intro target hrest
  subst hg
  jvm_step X.here [hexec, hdg, ldc_w.wp_float (s := T) (f := g) X.here.top hk' (by rw [he]; exact hcf) hcp]
  exact hrest
theorem znn {z : Int32} (hz : ¬ z < 0) : z.toInt = (z.toNatClampNeg : Int) := by
  have hz0 : (0 : Int) ≤ z.toInt := by simpa using Int32.le_iff_toInt_le.mp (Int32.not_lt.mp hz)
  show z.toInt = ((z.toInt.toNat : Nat) : Int)
  omega
/-- an array of ints is copied, from its start to another's start; everything else stays -/
theorem zcopyK {p : Program} {l : Launch} {e : Env} {R : Room} {s : State} {m : MethodId} {args : Array Value} {below : List Frame} {meth : Method} {c : Code} {H : Heap} {locs : List Loc} {cells slots : Nat} {Q : State → Prop} {cc : ByteArray} {pc : Nat} {ls : Array Slot} {rest : List Value}
    (hexec : p.tables.exec = Jvm.exec) (hb : c.code = cc) (hml : c.maxLocals = ls.size) {own : String} {index : Nat} (hown : s.vm.findClass own = some m.cls) (hlink : (Cond.methodLink own index arraycopyName).before args s = true) (hnat : (Cond.native arraycopyName).before args s = true) (hstat : (Cond.static arraycopyName).before args s = true) (hini : (Cond.initialized "java/lang/System").before args s = true)
    {a b na nb : Nat} {cA cB : ClassId} {f g : Nat → Int32} {ty : FieldType} (ha : H[a]? = some (arrV cA na (fun j => .int (f j)))) (hbb : H[b]? = some (arrV cB nb (fun j => .int (g j)))) (hA : ArrOfT s cA ty) (hprim : refKind ty = false) {hB : ArrOfT s cB ty}
    {n : Int32} (h3 : ¬ n < 0) (h4 : n.toNatClampNeg ≤ na) (h5 : n.toNatClampNeg ≤ nb) (hfit : ∀ i, i < n.toNatClampNeg → fits ty (.int (f i)) = true)
    (hframes : 1 ≤ R.frames) (hlocals : (rest.map fun v => v.category).sum + (nativeFrameWords "java/lang/System" "arraycopy" 5 + 11) ≤ R.locals) (hdg : decode cc pc = .ok (.invokestatic index, 3))
    (kk : ∀ (H1 : Heap) (L1 : List Loc), H1[b]? = some (arrV cB nb (fun j => .int (va_cpy f g 0 0 n.toNatClampNeg j))) → H1.size = H.size → (∀ q : Nat, q ≠ b → H1[q]? = H[q]?) → (∀ z ∈ L1, z.base = b) → W p l e R s m args below meth c H1 (locs ++ L1) cells slots Q (F0 m (pc + 3) ls rest)) :
    W p l e R s m args below meth c H locs cells slots Q (F0 m pc ls (.int n :: .int 0 :: .ref b :: .int 0 :: .ref a :: rest)) := by
  intro T hT X
  obtain ⟨-, k0, hk0, cm0, hkk0⟩ := hA na (fun j => .int (f j))
  obtain ⟨-, k1, hk1, cm1, hkk1⟩ := hB nb (fun j => .int (g j))
  have z0 : (0 : Int32).toNatClampNeg = 0 := rfl
  have zi0 : (0 : Int32).toInt = 0 := rfl
  obtain ⟨vm', X', step⟩ := X.arraycopy hexec hown hlink hnat hstat hini (src := a) (dst := b) (cs := arrV cA na (fun j => .int (f j))) (cd := arrV cB nb (fun j => .int (g j))) (srcPos := 0) (destPos := 0) (n := n) (by rw [hT]; exact ha) (by rw [hT]; exact hbb)
    (fun _ h => by cases h) (fun _ h => by cases h) (fun h => by cases h) (fun h => by cases h) hk0 hk1 hkk0 hkk1 (by simp [hprim]) (by decide) (by decide) h3
    (by rw [zi0, znn h3, arrV_size]; omega) (by rw [zi0, znn h3, arrV_size]; omega)
    (fun vm₁ _ i hi => by
      have e : (arrV cA na (fun j => .int (f j))).slots.getD ((0 : Int32).toNatClampNeg + i) .null = .int (f i) := by
        rw [z0, Nat.zero_add, Array.getD_eq_getD_getElem?, arrV_read _ _ (by omega)]
        rfl
      exact ⟨by rw [e]; exact hfit i hi, by rw [e]; exact trivial⟩)
    (g := F0 m pc ls (.int n :: .int 0 :: .ref b :: .int 0 :: .ref a :: rest)) rfl (by rw [hml]) (rest := rest) rfl (by rw [hb]; exact hdg) hframes (by show 2 * 0 + _ + _ ≤ _; omega)
  have e1 : copied (arrV cA na (fun j => .int (f j))) (arrV cB nb (fun j => .int (g j))) 0 0 n = arrV cB nb (fun j => .int (va_cpy f g 0 0 n.toNatClampNeg j)) := va_copied (fun z => .int z) cA cB f g (by rw [z0]; omega)
  rw [e1] at X' step
  have hl : b < H.size := (Array.getElem?_eq_some_iff.mp hbb).1
  have hheap : ((T.setVm vm').setCell b (arrV cB nb (fun j => .int (va_cpy f g 0 0 n.toNatClampNeg j)))).heap = H.setIfInBounds b (arrV cB nb (fun j => .int (va_cpy f g 0 0 n.toNatClampNeg j))) := by rw [← hT]; rfl
  obtain ⟨t, a1, b1⟩ := kk (H.setIfInBounds b (arrV cB nb (fun j => .int (va_cpy f g 0 0 n.toNatClampNeg j)))) _ (by simp [hl]) (by simp) (fun q hq => by simp [Array.getElem?_setIfInBounds, Ne.symm hq]) (fun z hz => by
    obtain ⟨w, -, hw⟩ := List.mem_map.mp hz
    rw [← hw]) _ hheap X'
  exact ⟨t, step t a1, b1⟩
section ZN
variable {l : Launch} {X : zX} {d bc bs mi pc : Nat} {ls : List (Nat × Value)} {st : List Value} {n : Nat} {K : zKT} {P : zPT} {I : zIT} {L : zLT} {Post : zPost} {r1 r2 r3 : Nat}
theorem zV_ldcI {idx : Nat} (h : zl mi pc = some (.ldc idx, 2, 0, r2, r3)) (k : zV l X d bc bs mi (pc + 2) ls (.int (Int32.ofNat r2) :: st) n K P I L Post) : zV l X d bc bs mi pc ls st n K P I L Post := fun p e R s m args below meth c H locs cells slots mc ms lsr S D hl => lv_ldc S.1 S.2.1 S.2.2.2.1 (S.2.2.2.2.1 _ (zTs_in (w := .constant (zO mi) idx (Int32.ofNat r2)) (i := r3) (zl_wc h) rfl)) (zl_dec h) (k p e R s m args below meth c H locs cells slots mc ms lsr S D hl)
theorem zV_ldcwI {idx : Nat} (h : zl mi pc = some (.ldc_w idx, 3, 0, r2, r3)) (k : zV l X d bc bs mi (pc + 3) ls (.int (Int32.ofNat r2) :: st) n K P I L Post) : zV l X d bc bs mi pc ls st n K P I L Post := fun p e R s m args below meth c H locs cells slots mc ms lsr S D hl => lv_ldcw S.1 S.2.1 S.2.2.2.1 (S.2.2.2.2.1 _ (zTs_in (w := .constant (zO mi) idx (Int32.ofNat r2)) (i := r3) (zl_wc h) rfl)) (zl_dec h) (k p e R s m args below meth c H locs cells slots mc ms lsr S D hl)
theorem zV_ldcF {idx : Nat} (h : zl mi pc = some (.ldc idx, 2, 1, r2, r3)) (k : zV l X d bc bs mi (pc + 2) ls (.float (UInt32.ofNat r2) :: st) n K P I L Post) : zV l X d bc bs mi pc ls st n K P I L Post := fun p e R s m args below meth c H locs cells slots mc ms lsr S D hl => lv_ldcf S.1 S.2.1 S.2.2.2.1 (S.2.2.2.2.1 _ (zTs_in (w := .constantFloat (zO mi) idx (UInt32.ofNat r2)) (i := r3) (zl_wc h) rfl)) (zl_dec h) (k p e R s m args below meth c H locs cells slots mc ms lsr S D hl)
theorem zV_ldcwF {idx : Nat} (h : zl mi pc = some (.ldc_w idx, 3, 1, r2, r3)) (k : zV l X d bc bs mi (pc + 3) ls (.float (UInt32.ofNat r2) :: st) n K P I L Post) : zV l X d bc bs mi pc ls st n K P I L Post := by
  intro p e R s m args below meth c H locs cells slots mc ms lsr S D hl T hT Z
  obtain ⟨t, a, b⟩ := k p e R s m args below meth c H locs cells slots mc ms lsr S D hl T hT Z
  exact ⟨t, va_ldcwF Z S.1 S.2.2.2.1 (S.2.2.2.2.1 _ (zTs_in (w := .constantFloat (zO mi) idx (UInt32.ofNat r2)) (i := r3) (zl_wc h) rfl)) (g := F0 m pc lsr st) rfl (by rw [S.2.1]; exact zl_dec h) t a, b⟩
theorem zV_ldc2L {idx : Nat} (h : zl mi pc = some (.ldc2_w idx, 3, 3, r2, r3)) (k : zV l X d bc bs mi (pc + 3) ls (.long (Int64.ofNat r2) :: st) n K P I L Post) : zV l X d bc bs mi pc ls st n K P I L Post := fun p e R s m args below meth c H locs cells slots mc ms lsr S D hl => lv_ldc2 S.1 S.2.1 S.2.2.2.1 (S.2.2.2.2.1 _ (zTs_in (w := .constantLong (zO mi) idx (Int64.ofNat r2)) (i := r3) (zl_wc h) rfl)) (zl_dec h) (k p e R s m args below meth c H locs cells slots mc ms lsr S D hl)
theorem zV_ldc2D {idx : Nat} (h : zl mi pc = some (.ldc2_w idx, 3, 4, r2, r3)) (k : zV l X d bc bs mi (pc + 3) ls (.double (UInt64.ofNat r2) :: st) n K P I L Post) : zV l X d bc bs mi pc ls st n K P I L Post := fun p e R s m args below meth c H locs cells slots mc ms lsr S D hl => lv_ldc2d S.1 S.2.1 S.2.2.2.1 (S.2.2.2.2.1 _ (zTs_in (w := .constantDouble (zO mi) idx (UInt64.ofNat r2)) (i := r3) (zl_wc h) rfl)) (zl_dec h) (k p e R s m args below meth c H locs cells slots mc ms lsr S D hl)
theorem zV_ldcS {idx : Nat} (h : zl mi pc = some (.ldc idx, 2, 2, r2, r3)) (k : zV l X d bc bs mi (pc + 2) ls (.ref (X.2.2.2 r2) :: st) n K P I L Post) : zV l X d bc bs mi pc ls st n K P I L Post := by
  intro p e R s m args below meth c H locs cells slots mc ms lsr S D hl
  obtain ⟨q, hq, h1, h2⟩ := zwc_str (Or.inl rfl) h
  have hs := S.2.2.2.2.2.2.2.2.2.2.2.1.2.2.2.2.2 r2 q hq
  rw [h1, h2] at hs
  exact va_ldcS S.1 S.2.1 S.2.2.2.1 hs (zl_dec h) (k p e R s m args below meth c H locs cells slots mc ms lsr S D hl)
theorem zV_ldcwS {idx : Nat} (h : zl mi pc = some (.ldc_w idx, 3, 2, r2, r3)) (k : zV l X d bc bs mi (pc + 3) ls (.ref (X.2.2.2 r2) :: st) n K P I L Post) : zV l X d bc bs mi pc ls st n K P I L Post := by
  intro p e R s m args below meth c H locs cells slots mc ms lsr S D hl T hT Z
  obtain ⟨q, hq, h1, h2⟩ := zwc_str (Or.inr rfl) h
  have hs := S.2.2.2.2.2.2.2.2.2.2.2.1.2.2.2.2.2 r2 q hq
  rw [h1, h2] at hs
  obtain ⟨t, a, b⟩ := k p e R s m args below meth c H locs cells slots mc ms lsr S D hl T hT Z
  exact ⟨t, Z.ldcStringW S.1 (own := zO mi) (index := idx) (a := X.2.2.2 r2) S.2.2.2.1 hs.1 hs.2 (g := F0 m pc lsr st) rfl (by rw [S.2.1]; exact zl_dec h) t a, b⟩
theorem zV_mmin {x y : Int32} {idx : Nat} (h : zl mi pc = some (.invokestatic idx, 3, 0, 13, r3)) (hW : (st.map fun v => v.category).sum ≤ 8) (k : zV l X (d + 1) bc bs mi (pc + 3) ls (.int (if y < x then y else x) :: st) n K P I L Post) : zV l X (d + 1) bc bs mi pc ls (.int y :: .int x :: st) n K P I L Post := by
  intro p e R s m args below meth c H locs cells slots mc ms lsr S D hl
  obtain ⟨hxx, hb, hml, hown, hts, hrt, hlk, htab, hnm, hdf, hdl, hKs, hst⟩ := id S
  obtain ⟨d1, d2, d3, d4, hS, hpic⟩ := id D
  exact va_mmin hxx hb (by rw [hl.1, hml]) hown (hts _ (zTs_in (w := .methodLink (zO mi) idx Lib.Math.min.name) (i := r3) (zl_wc h) rfl)) (hts _ (zcp_in 3 rfl)) (hts _ (zcp_in 6 rfl)) (hts _ (zcp_in 7 rfl)) (by omega) (by omega) (by omega) (by omega) (zl_dec h) (k p e R s m args below meth c H locs cells slots mc ms lsr S D hl)
theorem zV_mmax {x y : Int32} {idx : Nat} (h : zl mi pc = some (.invokestatic idx, 3, 1, 13, r3)) (hW : (st.map fun v => v.category).sum ≤ 8) (k : zV l X (d + 1) bc bs mi (pc + 3) ls (.int (if x < y then y else x) :: st) n K P I L Post) : zV l X (d + 1) bc bs mi pc ls (.int y :: .int x :: st) n K P I L Post := by
  intro p e R s m args below meth c H locs cells slots mc ms lsr S D hl
  obtain ⟨hxx, hb, hml, hown, hts, hrt, hlk, htab, hnm, hdf, hdl, hKs, hst⟩ := id S
  obtain ⟨d1, d2, d3, d4, hS, hpic⟩ := id D
  exact va_mmax hxx hb (by rw [hl.1, hml]) hown (hts _ (zTs_in (w := .methodLink (zO mi) idx Lib.Math.max.name) (i := r3) (zl_wc h) rfl)) (hts _ (zcp_in 4 rfl)) (hts _ (zcp_in 6 rfl)) (hts _ (zcp_in 8 rfl)) (by omega) (by omega) (by omega) (by omega) (zl_dec h) (k p e R s m args below meth c H locs cells slots mc ms lsr S D hl)
theorem zV_mabs {x : Int32} {idx : Nat} (h : zl mi pc = some (.invokestatic idx, 3, 2, 13, r3)) (hW : (st.map fun v => v.category).sum ≤ 8) (k : zV l X (d + 1) bc bs mi (pc + 3) ls (.int (if 0 ≤ x then x else 0 - x) :: st) n K P I L Post) : zV l X (d + 1) bc bs mi pc ls (.int x :: st) n K P I L Post := by
  intro p e R s m args below meth c H locs cells slots mc ms lsr S D hl
  obtain ⟨hxx, hb, hml, hown, hts, hrt, hlk, htab, hnm, hdf, hdl, hKs, hst⟩ := id S
  obtain ⟨d1, d2, d3, d4, hS, hpic⟩ := id D
  exact va_mabs hxx hb (by rw [hl.1, hml]) hown (hts _ (zTs_in (w := .methodLink (zO mi) idx Lib.Math.abs.name) (i := r3) (zl_wc h) rfl)) (hts _ (zcp_in 5 rfl)) (hts _ (zcp_in 6 rfl)) (hts _ (zcp_in 9 rfl)) (by omega) (by omega) (by omega) (by omega) (zl_dec h) (k p e R s m args below meth c H locs cells slots mc ms lsr S D hl)
/-- ints are copied from the start of one array to the start of another -/
def zuC (I : zIT) (a b k : Nat) : zIT := fun q => if q = b then va_cpy (I a) (I b) 0 0 k else I q
theorem zV_copy {a b na nb idx : Nat} {k : Int32} (h : zl mi pc = some (.invokestatic idx, 3, r1, 9, r3)) (hKa : K a = some (100, na)) (hKb : K b = some (100, nb)) (hab : a ≠ b) (hk : ¬ k < 0) (h1 : k.toNatClampNeg ≤ na) (h2 : k.toNatClampNeg ≤ nb) (hW : (st.map fun v => v.category).sum ≤ 8)
    (kk : zV l X (d + 1) bc bs mi (pc + 3) ls st n K P (zuC I a b k.toNatClampNeg) L Post) : zV l X (d + 1) bc bs mi pc ls (.int k :: .int 0 :: .ref b :: .int 0 :: .ref a :: st) n K P I L Post := by
  intro p e R s m args below meth c H locs cells slots mc ms lsr S D hl
  obtain ⟨hxx, hb, hml, hown, hts, hrt, hlk, htab, hnm, hdf, hdl, hKs, hst⟩ := id S
  obtain ⟨d1, d2, d3, d4, hS, hpic⟩ := id D
  obtain ⟨hAa, ha⟩ := (hpic.2 a 100 na hKa).2.1 (by decide) (by decide)
  obtain ⟨hAb, hbb⟩ := (hpic.2 b 100 nb hKb).2.1 (by decide) (by decide)
  have hlr : (st.map fun v => v.category).sum + (nativeFrameWords "java/lang/System" "arraycopy" 5 + 11) ≤ R.locals := by
    have : nativeFrameWords "java/lang/System" "arraycopy" 5 ≤ 30 := by decide
    omega
  refine zcopyK hxx hb (by rw [hl.1, hml]) hown (hts _ (zTs_in (w := .methodLink (zO mi) idx arraycopyName) (i := r3) (zl_wc h) rfl)) (hts _ (zcp_in 0 rfl)) (hts _ (zcp_in 1 rfl)) (hts _ (zcp_in 2 rfl)) (ty := .int) ha hbb (zK_arr hKs (Or.inl rfl)) rfl (hB := zK_arr hKs (Or.inl rfl)) hk h1 h2 (fun i _ => rfl) (by omega) hlr (zl_dec h) fun H1 L1 e1 z1 o1 hL1 => ?_
  refine kk p e R s m args below meth c H1 (locs ++ L1) cells slots mc ms lsr S ⟨d1, d2, d3, d4, ⟨by rw [z1]; exact hS.1, fun q g1 g2 => (o1 q (fun e => g2 (by rw [e]; exact hAb))).trans (hS.2.1 q g1 g2), fun q hq => ?_⟩, zPic_put hpic hKb ?_ z1 o1 (fun _ _ => rfl) (fun q hq => if_neg hq) (fun _ _ => rfl)⟩ hl
  · rcases List.mem_append.mp hq with h | h
    · exact hS.2.2 q h
    · rw [hL1 q h]; exact hAb
  · refine ⟨fun q => absurd q (by omega), fun _ _ => ⟨hAb, ?_⟩, fun q => absurd q (by omega), fun q => absurd q (by omega)⟩
    rw [e1]
    congr 2
    funext j
    simp [zel, zuC]
end ZN
end
section
/-! THE PURE INTERPRETER over the tables: places instead of addresses, a memory that knows some cells -/
abbrev zM : Type := Nat → Nat → Option Int32
abbrev zLs : Type := List (Nat × Value)
/-- an outcome: 0 returned, c + 1 thrown zEx c; the value; the memory; how many places were made that nobody sees -/
abbrev zO4 : Type := Nat × Option Value × zM × Nat
/-- a step: goes on (pc, locals, stack, memory, made) .. or returns .. or throws .. or calls (method, pc behind, its locals, the stack below, made before) -/
abbrev zRes : Type := (Nat × zLs × List Value × zM × Nat) ⊕ (Option Value ⊕ (Nat ⊕ (Nat × Nat × zLs × List Value × Nat)))
def zup (I : zM) (a k : Nat) (x : Int32) : zM := fun b j => match Nat.beq b a with
  | true => match Nat.beq j k with
    | true => some x
    | false => I b j
  | false => I b j
def zcpm (I : zM) (s d n : Nat) : zM := fun b j => match Nat.beq b d with
  | true => match Nat.ble (j + 1) n with
    | true => I s j
    | false => I b j
  | false => I b j
/-- the offset of a place within a State: 0 the object, 1 to 10 its arrays -/
def zof (a : Nat) : Nat := match Nat.ble 1 a && Nat.ble a 44 with
  | true => (a - 1) % 11
  | false => match Nat.ble 47 a && Nat.ble a 134 with
    | true => (a - 47) % 11
    | false => 99
/-- a place's kind and length; sl is the length of the law's array -/
def zkd (sl a : Nat) : Option (Nat × Nat) := match zof a with
  | 0 => some (7, 16)
  | 1 => some (100, 8)
  | 2 => some (100, 8)
  | 3 => some (100, 8)
  | 99 => match a with
    | 0 => some (8, 11)
    | 45 => some (5, 3)
    | 46 => some (104, 8)
    | 135 => some (4, 12)
    | 136 => some (100, 8)
    | 137 => some (100, 8)
    | 138 => some (100, 8)
    | 139 => some (100, 8)
    | 140 => some (100, 8)
    | 141 => some (100, 8)
    | 142 => some (100, 256)
    | 143 => some (100, 2048)
    | 144 => some (6, 6)
    | 145 => some (102, 60)
    | 146 => some (100, 12)
    | 147 => some (100, 36)
    | 1000 => some (110, sl)
    | _ => none
  | _ => some (100, 12)
/-- the places that a place refers to -/
def zpd (a k : Nat) : Option Nat := match zof a with
  | 0 => match Nat.ble (k + 1) 10 with
    | true => some (a + 1 + k)
    | false => none
  | 99 => match a with
    | 0 => match k with
      | 0 => some 1
      | 1 => some 12
      | 2 => some 23
      | 3 => some 34
      | 4 => some 45
      | 5 => some 135
      | 6 => some 144
      | 7 => some 148
      | _ => none
    | 45 => match k with
      | 0 => some 46
      | _ => none
    | 46 => match Nat.ble (k + 1) 8 with
      | true => some (47 + 11 * k)
      | false => none
    | 135 => match k with
      | 0 => some 1
      | _ => match Nat.ble k 8 with
        | true => some (135 + k)
        | false => none
    | 144 => match Nat.ble (k + 1) 3 with
      | true => some (145 + k)
      | false => none
    | _ => none
  | _ => none
def zch (s : String) : List Int32 := s.toList.map (fun c => Int32.ofNat c.toNat)
/-- the digits of a number under 1000 -/
def zdg (x : Int32) : List Int32 := if x < 10 then [48 + x] else if x < 100 then [48 + x / 10, 48 + (x - x / 10 * 10)] else [48 + x / 100, 48 + (x / 10 - x / 100 * 10), 48 + (x - x / 10 * 10)]
/-- the text of a String's place: constants; the two that the law builds -/
def ztx (dy a : Nat) : Option (List Int32) := match Nat.ble 5000 a with
  | false => match Nat.ble 2000 a with
    | true => (zstr[a - 2000]?).map (fun q => zch q.2.2)
    | false => none
  | true => match Nat.beq a dy with
    | false => none
    | true => match Nat.ble 5100 a with
      | false => some (zch "wait;valve " ++ zdg (Int32.ofNat (a - 5000)) ++ zch " 3")
      | true => some (zch "pour 0 1/h;draw " ++ zdg (Int32.ofNat (a - 5100)) ++ zch " 2")
def zvt : Value → Nat
  | .int _ => 0
  | .long _ => 1
  | .float _ => 2
  | .double _ => 3
  | .ref _ => 4
  | _ => 5
def zld (ls : zLs) (i t : Nat) : Option Value := match zlk ls i with
  | some v => match Nat.beq (zvt v) t with
    | true => some v
    | false => none
  | none => none
def znx (pc : Nat) (ls : zLs) (st : List Value) (I : zM) : Option zRes := some (.inl (pc, ls, st, I, 0))
def zLd (pc : Nat) (ls : zLs) (st : List Value) (I : zM) (i t : Nat) : Option zRes := match zld ls i t with
  | some v => znx pc ls (v :: st) I
  | none => none
/-- a store: the local must lie within the method's locals -/
def zSt (pc nL : Nat) (ls : zLs) (st : List Value) (I : zM) (i t : Nat) : Option zRes := match st with
  | v :: r => match Nat.beq (zvt v) t && Nat.ble (i + (if t = 1 ∨ t = 3 then 2 else 1)) nL with
    | true => znx pc (if t = 1 ∨ t = 3 then zs2 ls i v else zs1 ls i v) r I
    | false => none
  | _ => none
def ztg (pc : Nat) (off : Int) : Option Nat := match (pc : Int) + off with
  | .ofNat t => some t
  | .negSucc _ => none
def zjmp (pc : Nat) (off : Int) (ls : zLs) (st : List Value) (I : zM) : Option zRes := match ztg pc off with
  | some t => znx t ls st I
  | none => none
def zc1 (c : ClassFile.Cond) (x y : Int32) : Bool := match c with
  | .eq => decide (x = y)
  | .ne => !decide (x = y)
  | .lt => decide (x < y)
  | .ge => decide (y ≤ x)
  | .gt => decide (y < x)
  | .le => decide (x ≤ y)
def zi2 (f : Int32 → Int32 → Int32) (pc : Nat) (ls : zLs) (st : List Value) (I : zM) : Option zRes := match st with
  | .int y :: .int x :: r => znx pc ls (.int (f x y) :: r) I
  | _ => none
def zl2 (f : Int64 → Int64 → Int64) (pc : Nat) (ls : zLs) (st : List Value) (I : zM) : Option zRes := match st with
  | .long y :: .long x :: r => znx pc ls (.long (f x y) :: r) I
  | _ => none
def zf2 (f : UInt32 → UInt32 → UInt32) (pc : Nat) (ls : zLs) (st : List Value) (I : zM) : Option zRes := match st with
  | .float y :: .float x :: r => match decide (f x y &&& 0x7fffffff ≤ 0x7f800000) with
    | true => znx pc ls (.float (f x y) :: r) I
    | false => none
  | _ => none
def zd2 (f : UInt64 → UInt64 → UInt64) (pc : Nat) (ls : zLs) (st : List Value) (I : zM) : Option zRes := match st with
  | .double y :: .double x :: r => match decide (f x y &&& 0x7fffffffffffffff ≤ 0x7ff0000000000000) with
    | true => znx pc ls (.double (f x y) :: r) I
    | false => none
  | _ => none
def zin (i : Int32) (n : Nat) : Bool := decide (0 ≤ i) && Nat.ble (i.toNatClampNeg + 1) n
def zcat (st : List Value) : Nat := (st.map fun v => v.category).sum
/-- the stack below a call is small -/
def zsm (st : List Value) : Bool := Nat.ble (zcat st) 8
/-- what is thrown, with its text, here -/
def zthr (mi pc x : Nat) : Bool := match zl mi (pc + 3), zl mi (pc + 4), zH mi with
  | some (.dup, 1, _, _, _), some (.ldc _, 2, 2, _, _), [] => match zl mi (pc + 6), zl mi (pc + 9) with
    | some (.invokespecial _, 3, y, 10, _), some (.athrow, 1, _, _, _) => Nat.beq x y
    | _, _ => false
  | some (.dup, 1, _, _, _), some (.ldc_w _, 3, 2, _, _), [] => match zl mi (pc + 7), zl mi (pc + 10) with
    | some (.invokespecial _, 3, y, 10, _), some (.athrow, 1, _, _, _) => Nat.beq x y
    | _, _ => false
  | _, _, _ => false

/-- the calls that are not walked: on the output's builder (place 148: 0 its length; 149 its characters) and on Strings -/
def zprim (dy c : Nat) (pc : Nat) (ls : zLs) (st : List Value) (I : zM) : Option zRes := match c with
  | 206 => match st with
    | .int x :: .ref 148 :: r => match decide (0 ≤ x ∧ x < 1000), I 148 0 with
      | true, some n => match decide (0 ≤ n ∧ n ≤ 60) with
        | true => some (.inl (pc, ls, .ref 148 :: r, zup ((zdg x).foldl (fun (q : zM × Nat) ch => (zup q.1 149 q.2 ch, q.2 + 1)) (I, n.toNatClampNeg)).1 148 0 (n + Int32.ofNat (zdg x).length), 1))
        | false => none
      | _, _ => none
    | _ => none
  | 205 => match st with
    | .int x :: .ref 148 :: r => match decide (0 ≤ x ∧ x < 128), I 148 0 with
      | true, some n => match decide (0 ≤ n ∧ n ≤ 60) with
        | true => some (.inl (pc, ls, .ref 148 :: r, zup (zup I 149 n.toNatClampNeg x) 148 0 (n + 1), 1))
        | false => none
      | _, _ => none
    | _ => none
  | 209 => match st with
    | .int x :: .ref 148 :: r => match decide (x = 0) with
      | true => znx pc ls r (zup I 148 0 0)
      | false => none
    | _ => none
  | 210 => match st with
    | .ref 148 :: r => match I 148 0 with
      | some n => znx pc ls (.int n :: r) I
      | none => none
    | _ => none
  | 208 => match st with
    | .int i :: .ref 148 :: r => match I 148 0, I 149 i.toNatClampNeg with
      | some n, some x => match decide (0 ≤ i ∧ i < n) with
        | true => znx pc ls (.int x :: r) I
        | false => none
      | _, _ => none
    | _ => none
  | 196 => match st with
    | .ref a :: r => match ztx dy a with
      | some t => znx pc ls (.int (Int32.ofNat t.length) :: r) I
      | none => none
    | _ => none
  | 197 => match st with
    | .int i :: .ref a :: r => match ztx dy a with
      | some t => match decide (0 ≤ i), t[i.toNatClampNeg]? with
        | true, some x => znx pc ls (.int x :: r) I
        | _, _ => none
      | none => none
    | _ => none
  | _ => none
/-- what is walked: methods of the class, of the law, two of the JDK -/
def zwalk (c : Nat) : Bool := Nat.ble (c + 1) 179 || Nat.beq c 194 || Nat.beq c 215
def zcall (c pc k : Nat) (st : List Value) : Option zRes := match zwalk c && zsm (st.drop k) && Nat.ble k st.length && Nat.ble (zcat (st.take k)) (zL c) with
  | true => some (.inr (.inr (.inr (c, pc, lv_args 0 (st.take k).reverse, st.drop k, 0))))
  | false => none
/-- a call's receiver: a place of the class that the method is of -/
def zrecv (sl c : Nat) (st : List Value) : Bool := match st.drop (zNP c) with
  | .ref a :: _ => match zkd sl a with
    | some (k, _) => Nat.ble (k + 1) 100 && decide (zcn k = zO c)
    | none => false
  | _ => false
def zldc (pc : Nat) (ls : zLs) (st : List Value) (I : zM) (r1 r2 : Nat) : Option zRes := match r1 with
  | 0 => znx pc ls (.int (Int32.ofNat r2) :: st) I
  | 1 => znx pc ls (.float (UInt32.ofNat r2) :: st) I
  | 2 => znx pc ls (.ref (2000 + r2) :: st) I
  | _ => none
/-- the two places where the law builds a text and runs it -/
def zcat2 (mi pc : Nat) (ls : zLs) (st : List Value) (r1 : Nat) : Option zRes := match Nat.beq mi 176, st with
  | true, [.ref 0] => match r1, pc with
    | 1, 297 => match zlk ls 3 with
      | some (.int p) => match decide (0 ≤ p ∧ p < 13) with
        | true => some (.inr (.inr (.inr (173, 355, [(0, .ref 0), (1, .ref (5000 + p.toNatClampNeg))], [], 1))))
        | false => none
      | _ => none
    | 1, 326 => match zlk ls 2 with
      | some (.int t) => match decide (0 ≤ t ∧ t < 9) with
        | true => some (.inr (.inr (.inr (173, 355, [(0, .ref 0), (1, .ref (5100 + t.toNatClampNeg))], [], 1))))
        | false => none
      | _ => none
    | _, _ => none
  | _, _ => none
/-- one instruction -/
def zstep (sl dy mi pc : Nat) (e : Instr × Nat × Nat × Nat × Nat) (ls : zLs) (st : List Value) (I : zM) : Option zRes := match e with
  | (i, len, r1, r2, _) => match i with
    | .iconst n => znx (pc + len) ls (.int (Int32.ofInt n) :: st) I
    | .bipush n => znx (pc + len) ls (.int (Int8.ofInt n).toInt32 :: st) I
    | .sipush n => znx (pc + len) ls (.int (Int16.ofInt n).toInt32 :: st) I
    | .lconst n => znx (pc + len) ls (.long (Int64.ofNat n.val) :: st) I
    | .fconst 0 => znx (pc + len) ls (.float FP.fconst0 :: st) I
    | .fconst 1 => znx (pc + len) ls (.float FP.fconst1 :: st) I
    | .fconst 2 => znx (pc + len) ls (.float FP.fconst2 :: st) I
    | .dconst 0 => znx (pc + len) ls (.double FP.dconst0 :: st) I
    | .dconst 1 => znx (pc + len) ls (.double FP.dconst1 :: st) I
    | .ldc _ => zldc (pc + len) ls st I r1 r2
    | .ldc_w _ => zldc (pc + len) ls st I r1 r2
    | .ldc2_w _ => match r1 with
      | 3 => znx (pc + len) ls (.long (Int64.ofNat r2) :: st) I
      | 4 => znx (pc + len) ls (.double (UInt64.ofNat r2) :: st) I
      | _ => none
    | .iload i => zLd (pc + len) ls st I i 0
    | .iload_n i => zLd (pc + len) ls st I i.val 0
    | .lload i => zLd (pc + len) ls st I i 1
    | .lload_n i => zLd (pc + len) ls st I i.val 1
    | .fload i => zLd (pc + len) ls st I i 2
    | .fload_n i => zLd (pc + len) ls st I i.val 2
    | .dload i => zLd (pc + len) ls st I i 3
    | .dload_n i => zLd (pc + len) ls st I i.val 3
    | .aload i => zLd (pc + len) ls st I i 4
    | .aload_n i => zLd (pc + len) ls st I i.val 4
    | .istore i => zSt (pc + len) (zL mi) ls st I i 0
    | .istore_n i => zSt (pc + len) (zL mi) ls st I i.val 0
    | .lstore i => zSt (pc + len) (zL mi) ls st I i 1
    | .lstore_n i => zSt (pc + len) (zL mi) ls st I i.val 1
    | .fstore i => zSt (pc + len) (zL mi) ls st I i 2
    | .fstore_n i => zSt (pc + len) (zL mi) ls st I i.val 2
    | .dstore i => zSt (pc + len) (zL mi) ls st I i 3
    | .dstore_n i => zSt (pc + len) (zL mi) ls st I i.val 3
    | .iinc i n => match zlk ls i with
      | some (.int x) => match Nat.ble (i + 1) (zL mi) with
        | true => znx (pc + len) (zs1 ls i (.int (x + Int32.ofInt n))) st I
        | false => none
      | _ => none
    | .iadd => zi2 (fun x y => x + y) (pc + len) ls st I
    | .isub => zi2 (fun x y => x - y) (pc + len) ls st I
    | .imul => zi2 (fun x y => x * y) (pc + len) ls st I
    | .iand => zi2 (fun x y => x &&& y) (pc + len) ls st I
    | .ior => zi2 (fun x y => x ||| y) (pc + len) ls st I
    | .ixor => zi2 (fun x y => x ^^^ y) (pc + len) ls st I
    | .ishl => zi2 (fun x y => x <<< (y &&& 31)) (pc + len) ls st I
    | .ishr => zi2 (fun x y => x >>> (y &&& 31)) (pc + len) ls st I
    | .iushr => zi2 (fun x y => (x.toUInt32 >>> (y.toUInt32 &&& Int32.toUInt32 31)).toInt32) (pc + len) ls st I
    | .idiv => match st with
      | .int y :: .int x :: r => match decide (y = 0) with
        | false => znx (pc + len) ls (.int (x / y) :: r) I
        | true => none
      | _ => none
    | .irem => match st with
      | .int y :: .int x :: r => match decide (y = 0) with
        | false => znx (pc + len) ls (.int (x - x / y * y) :: r) I
        | true => none
      | _ => none
    | .ineg => match st with
      | .int x :: r => znx (pc + len) ls (.int (-x) :: r) I
      | _ => none
    | .ladd => zl2 (fun x y => x + y) (pc + len) ls st I
    | .lmul => zl2 (fun x y => x * y) (pc + len) ls st I
    | .lor => zl2 (fun x y => x ||| y) (pc + len) ls st I
    | .lxor => zl2 (fun x y => x ^^^ y) (pc + len) ls st I
    | .lshl => match st with
      | .int y :: .long x :: r => znx (pc + len) ls (.long (x <<< (y.toInt64 &&& 63)) :: r) I
      | _ => none
    | .lushr => match st with
      | .int y :: .long x :: r => znx (pc + len) ls (.long ((x.toUInt64 >>> (y.toInt64.toUInt64 &&& Int64.toUInt64 63)).toInt64) :: r) I
      | _ => none
    | .i2l => match st with
      | .int x :: r => znx (pc + len) ls (.long x.toInt64 :: r) I
      | _ => none
    | .i2c => match st with
      | .int x :: r => znx (pc + len) ls (.int (x.toUInt32 % 65536).toInt32 :: r) I
      | _ => none
    | .i2f => match st with
      | .int x :: r => znx (pc + len) ls (.float (FP.i2f x) :: r) I
      | _ => none
    | .i2d => match st with
      | .int x :: r => znx (pc + len) ls (.double (FP.i2d x) :: r) I
      | _ => none
    | .f2i => match st with
      | .float x :: r => znx (pc + len) ls (.int (FP.f2i x) :: r) I
      | _ => none
    | .d2l => match st with
      | .double x :: r => znx (pc + len) ls (.long (FP.d2l x) :: r) I
      | _ => none
    | .fmul => zf2 FP.fmul (pc + len) ls st I
    | .fdiv => zf2 FP.fdiv (pc + len) ls st I
    | .fsub => zf2 FP.fsub (pc + len) ls st I
    | .dmul => zd2 FP.dmul (pc + len) ls st I
    | .ddiv => zd2 FP.ddiv (pc + len) ls st I
    | .dsub => zd2 FP.dsub (pc + len) ls st I
    | .fcmp o => match st with
      | .float y :: .float x :: r => znx (pc + len) ls (.int (Op.cmpValue (FP.fcmp x y) o) :: r) I
      | _ => none
    | .dcmp o => match st with
      | .double y :: .double x :: r => znx (pc + len) ls (.int (Op.cmpValue (FP.dcmp x y) o) :: r) I
      | _ => none
    | .lcmp => match st with
      | .long y :: .long x :: r => znx (pc + len) ls (.int (lg_cmp x y) :: r) I
      | _ => none
    | .dup => match st with
      | v :: r => match Nat.beq v.category 1 with
        | true => znx (pc + len) ls (v :: v :: r) I
        | false => none
      | _ => none
    | .pop => match st with
      | v :: r => match Nat.beq v.category 1 with
        | true => znx (pc + len) ls r I
        | false => none
      | _ => none
    | .dup2 => match st with
      | v :: u :: r => match Nat.beq v.category 1 && Nat.beq u.category 1 with
        | true => znx (pc + len) ls (v :: u :: v :: u :: r) I
        | false => none
      | _ => none
    | .ifCond c off => match ztg pc off with
      | some t => match st with
        | .int x :: r => match zc1 c x 0 with
          | true => znx t ls r I
          | false => znx (pc + len) ls r I
        | _ => none
      | none => none
    | .if_icmp c off => match ztg pc off with
      | some t => match st with
        | .int y :: .int x :: r => match zc1 c x y with
          | true => znx t ls r I
          | false => znx (pc + len) ls r I
        | _ => none
      | none => none
    | .goto off => zjmp pc off ls st I
    | .tableswitch dflt lo hi offs => match st with
      | .int x :: r => match decide (x.toInt < lo ∨ hi < x.toInt) with
        | true => zjmp pc dflt ls r I
        | false => match offs[(x.toInt - lo).toNat]? with
          | some off => zjmp pc off ls r I
          | none => none
      | _ => none
    | .lookupswitch dflt ps => match st with
      | .int x :: r => match (ps.toList.zip (ps.toList.drop 1)).all (fun (a, next) => a.1 < next.1) with
        | true => zjmp pc (Op.lookupswitch.offset ps.toList dflt x.toInt) ls r I
        | false => none
      | _ => none
    | .getfield _ => match st with
      | .ref a :: r => match zkd sl a with
        | some (k, _) => match Nat.beq k r1 && Nat.ble (r2 + 1) (zN r1) && Nat.ble (k + 1) 100 with
          | true => match zrf r1 r2 with
            | true => match zpd a r2 with
              | some q => znx (pc + len) ls (.ref q :: r) I
              | none => none
            | false => match I a r2 with
              | some x => znx (pc + len) ls (.int x :: r) I
              | none => none
          | false => none
        | none => none
      | _ => none
    | .putfield _ => match st with
      | .int x :: .ref a :: r => match zkd sl a with
        | some (k, _) => match Nat.beq k r1 && Nat.ble (r2 + 1) (zN r1) && Nat.ble (k + 1) 100 && !(zrf r1 r2) && decide (narrow (zty r1 r2) (.int x) = .int x) && fits (zty r1 r2) (.int x) with
          | true => znx (pc + len) ls r (zup I a r2 x)
          | false => none
        | none => none
      | _ => none
    | .iaload => match st with
      | .int i :: .ref a :: r => match zkd sl a with
        | some (k, n) => match (Nat.beq k 100 || Nat.beq k 110) && zin i n, I a i.toNatClampNeg with
          | true, some x => znx (pc + len) ls (.int x :: r) I
          | _, _ => none
        | none => none
      | _ => none
    | .caload => match st with
      | .int i :: .ref a :: r => match zkd sl a with
        | some (k, n) => match Nat.beq k 102 && zin i n, I a i.toNatClampNeg with
          | true, some x => znx (pc + len) ls (.int x :: r) I
          | _, _ => none
        | none => none
      | _ => none
    | .aaload => match st with
      | .int i :: .ref a :: r => match zkd sl a with
        | some (k, n) => match Nat.beq k 104 && zin i n, zpd a i.toNatClampNeg with
          | true, some q => znx (pc + len) ls (.ref q :: r) I
          | _, _ => none
        | none => none
      | _ => none
    | .iastore => match st with
      | .int x :: .int i :: .ref a :: r => match zkd sl a with
        | some (k, n) => match Nat.beq k 100 && zin i n with
          | true => znx (pc + len) ls r (zup I a i.toNatClampNeg x)
          | false => none
        | none => none
      | _ => none
    | .castore => match st with
      | .int x :: .int i :: .ref a :: r => match zkd sl a with
        | some (k, n) => match Nat.beq k 102 && zin i n with
          | true => znx (pc + len) ls r (zup I a i.toNatClampNeg (vp_nar .char x))
          | false => none
        | none => none
      | _ => none
    | .arraylength => match st with
      | .ref a :: r => match zkd sl a with
        | some (k, n) => match (Nat.beq k 100 || Nat.beq k 110) && Nat.ble n 2147483647 with
          | true => znx (pc + len) ls (.int (Int32.ofNat n) :: r) I
          | false => none
        | none => none
      | _ => none
    | .invokestatic _ => match r2 with
      | 0 => zcall r1 (pc + len) (zNP r1) st
      | 1 => zcall r1 (pc + len) (zNP r1) st
      | 2 => zcall r1 (pc + len) (zNP r1) st
      | 9 => match st with
        | .int n :: .int 0 :: .ref d :: .int 0 :: .ref s :: r => match zkd sl s, zkd sl d with
          | some (100, ns), some (100, nd) => match decide (0 ≤ n) && Nat.ble n.toNatClampNeg ns && Nat.ble n.toNatClampNeg nd && !(Nat.beq s d) && zsm r && (List.range n.toNatClampNeg).all (fun j => (I s j).isSome) with
            | true => znx (pc + len) ls r (zcpm I s d n.toNatClampNeg)
            | false => none
          | _, _ => none
        | _ => none
      | 13 => match r1 with
        | 0 => match zsm st with
          | true => zi2 (fun x y => if y < x then y else x) (pc + len) ls st I
          | false => none
        | 1 => match zsm st with
          | true => zi2 (fun x y => if x < y then y else x) (pc + len) ls st I
          | false => none
        | 2 => match st with
          | .int x :: r => match zsm r with
            | true => znx (pc + len) ls (.int (if 0 ≤ x then x else 0 - x) :: r) I
            | false => none
          | _ => none
        | _ => none
      | _ => none
    | .invokevirtual _ => match r2 with
      | 3 => match zwalk r1 with
        | true => match zrecv sl r1 st with
          | true => zcall r1 (pc + len) (zNP r1 + 1) st
          | false => none
        | false => match zsm st with
          | true => zprim dy r1 (pc + len) ls st I
          | false => none
      | _ => none
    | .ireturn => match st with
      | [.int x] => match zRt mi with
        | some ty => match decide (narrow ty (.int x) = .int x) with
          | true => some (.inr (.inl (some (.int x))))
          | false => none
        | none => none
      | _ => none
    | .lreturn => match st with
      | [.long x] => match decide (zRt mi = some .long) with
        | true => some (.inr (.inl (some (.long x))))
        | false => none
      | _ => none
    | .freturn => match st with
      | [.float x] => match decide (zRt mi = some .float) with
        | true => some (.inr (.inl (some (.float x))))
        | false => none
      | _ => none
    | .dreturn => match st with
      | [.double x] => match decide (zRt mi = some .double) with
        | true => some (.inr (.inl (some (.double x))))
        | false => none
      | _ => none
    | .areturn => match st with
      | [.ref a] => match zRt mi with
        | some (.object _) => some (.inr (.inl (some (.ref a))))
        | _ => none
      | _ => none
    | .return_ => match st with
      | [] => match zRt mi with
        | none => some (.inr (.inl none))
        | some _ => none
      | _ => none
    | .new _ => match r2 with
      | 1 => match zthr mi pc r1 && Nat.ble (zcat st) 100 with
        | true => some (.inr (.inr (.inl r1)))
        | false => none
      | 0 => zcat2 mi pc ls st r1
      | _ => none
    | _ => none
/-- the handler of what a call threw: its place, the locals without the one that keeps it -/
def zhd (c pc : Nat) : List (Nat × Nat × Nat × Nat) → Option Nat
  | [] => none
  | (a, b, h, t) :: r => match Nat.ble a pc && Nat.ble (pc + 1) b && Nat.beq t (zcc c) with
    | true => some h
    | false => zhd c pc r
def zcat3 (mi pc c : Nat) (ls : zLs) : Option (Nat × zLs) := match zhd c pc (zH mi) with
  | none => none
  | some h => match zl mi h with
    | some (.astore_n i, 1, _, _, _) => match Nat.ble (i.val + 1) (zL mi) with
      | true => some (h + 1, ls.filter (fun q => !(q.1 == i.val) && !(q.1 + 1 == i.val && q.2.category == 2)))
      | false => none
    | some (.astore i, 2, _, _, _) => match Nat.ble (i + 1) (zL mi) with
      | true => some (h + 2, ls.filter (fun q => !(q.1 == i) && !(q.1 + 1 == i && q.2.category == 2)))
      | false => none
    | _ => none
/-- some handler stands over this place -/
def zany (pc : Nat) (hs : List (Nat × Nat × Nat × Nat)) : Bool := hs.any (fun q => Nat.ble q.1 pc && Nat.ble (pc + 1) q.2.1)
def zadd (u : Nat) (o : zO4) : zO4 := (o.1, o.2.1, o.2.2.1, o.2.2.2 + u)
def zpush (v : Option Value) (st : List Value) : List Value := match v with
  | some x => x :: st
  | none => st
/-- which text the called method may know: the one that was built for it -/
def zdy (u dy : Nat) (ls : zLs) : Nat := match u with
  | 0 => dy
  | _ => match ls with
    | [_, (1, .ref a)] => a
    | _ => dy
/-- what a method that was given a built text may answer: an int -/
def zgd (u : Nat) (v : Option Value) : Bool := match u with
  | 0 => true
  | _ => match v with
    | some (.int _) => true
    | _ => false
/-- N steps, calls D deep -/
def zrun (sl : Nat) : Nat → Nat → Nat → Nat → Nat → zLs → List Value → zM → Option zO4
  | 0, _, _, _, _, _, _, _ => none
  | N + 1, D, dy, mi, pc, ls, st, I => match zl mi pc with
    | none => none
    | some e => match zstep sl dy mi pc e ls st I with
      | none => none
      | some (.inl (pc', ls', st', I', u)) => (zrun sl N D dy mi pc' ls' st' I').map (zadd u)
      | some (.inr (.inl v)) => some (0, v, I, 0)
      | some (.inr (.inr (.inl c))) => some (c + 1, none, I, 1)
      | some (.inr (.inr (.inr (m, pc', la, st', u0)))) => match D with
        | 0 => none
        | D' + 1 => match zrun sl N D' (zdy u0 dy la) m 0 la [] I with
          | none => none
          | some (0, v, I', u) => match zgd u0 v with
            | true => (zrun sl N (D' + 1) dy mi pc' ls (zpush v st') I').map (zadd (u + u0))
            | false => none
          | some (c + 1, _, I', u) => match zhd c pc (zH mi) with
            | none => match zany pc (zH mi) with
              | true => none
              | false => some (c + 1, none, I', u + u0)
            | some _ => match zcat3 mi pc c ls with
              | none => none
              | some (pc2, ls2) => (zrun sl N (D' + 1) dy mi pc2 ls2 [] I').map (zadd (u + u0))
end
section
/-! THE LOGIC over the interpreter -/
theorem zrun_le {sl : Nat} : ∀ (N : Nat) {D dy mi pc : Nat} {ls : zLs} {st : List Value} {I : zM} {o : zO4}, zrun sl N D dy mi pc ls st I = some o → ∀ {N' D' : Nat}, N ≤ N' → D ≤ D' → zrun sl N' D' dy mi pc ls st I = some o := by
  intro N
  induction N with
  | zero => intro D dy mi pc ls st I o h; simp [zrun] at h
  | succ N ih =>
    intro D dy mi pc ls st I o h N' D' hN hD
    obtain ⟨N', rfl⟩ : ∃ k, N' = k + 1 := ⟨N' - 1, by omega⟩
    have hN : N ≤ N' := by omega
    unfold zrun at h ⊢
    cases hl : zl mi pc with
    | none => rw [hl] at h; simp at h
    | some e =>
      rw [hl] at h
      simp only at h ⊢
      cases hs : zstep sl dy mi pc e ls st I with
      | none => rw [hs] at h; simp at h
      | some r =>
        rw [hs] at h
        rcases r with ⟨pc', ls', st', I', u⟩ | v | c | ⟨m, pc', la, st', u0⟩
        · simp only [Option.map_eq_some_iff] at h ⊢
          obtain ⟨q, h1, h2⟩ := h
          exact ⟨q, ih h1 hN hD, h2⟩
        · exact h
        · exact h
        · cases D with
          | zero => simp at h
          | succ D =>
            obtain ⟨D', rfl⟩ : ∃ k, D' = k + 1 := ⟨D' - 1, by omega⟩
            have hD2 : D ≤ D' := by omega
            simp only at h ⊢
            cases hc : zrun sl N D (zdy u0 dy la) m 0 la [] I with
            | none => rw [hc] at h; simp at h
            | some q =>
              rw [hc] at h
              rw [ih hc hN hD2]
              obtain ⟨c, v, I', u⟩ := q
              cases c with
              | zero =>
                simp only at h ⊢
                cases hg : zgd u0 v with
                | false => rw [hg] at h; cases h
                | true =>
                  rw [hg] at h
                  simp only [Option.map_eq_some_iff] at h ⊢
                  obtain ⟨q, h1, h2⟩ := h
                  exact ⟨q, ih h1 hN hD, h2⟩
              | succ c =>
                simp only at h ⊢
                cases hy : zhd c pc (zH mi) with
                | none => rw [hy] at h; exact h
                | some hh =>
                  rw [hy] at h
                  simp only at h ⊢
                  cases hz : zcat3 mi pc c ls with
                  | none => rw [hz] at h; cases h
                  | some w =>
                    rw [hz] at h
                    obtain ⟨pc2, ls2⟩ := w
                    simp only [Option.map_eq_some_iff] at h ⊢
                    obtain ⟨q, h1, h2⟩ := h
                    exact ⟨q, ih h1 hN hD, h2⟩
/-- it comes to an end, with Post of the outcome -/
def zW (sl D dy mi pc : Nat) (ls : zLs) (st : List Value) (I : zM) (Post : zO4 → Prop) : Prop := ∃ (N : Nat) (o : zO4), zrun sl N D dy mi pc ls st I = some o ∧ Post o
section ZT
variable {sl D dy mi pc : Nat} {ls : zLs} {st : List Value} {I : zM} {Post : zO4 → Prop}
theorem zW_post {Q : zO4 → Prop} (k : zW sl D dy mi pc ls st I Q) (h : ∀ o, Q o → Post o) : zW sl D dy mi pc ls st I Post := by
  obtain ⟨N, o, h1, h2⟩ := k
  exact ⟨N, o, h1, h o h2⟩
theorem zW_D {D' : Nat} (k : zW sl D dy mi pc ls st I Post) (h : D ≤ D') : zW sl D' dy mi pc ls st I Post := by
  obtain ⟨N, o, h1, h2⟩ := k
  exact ⟨N, o, zrun_le N h1 (Nat.le_refl _) h, h2⟩
theorem zW_nu {e : Instr × Nat × Nat × Nat × Nat} {pc' u : Nat} {ls' : zLs} {st' : List Value} {I' : zM} (h : zl mi pc = some e) (hs : zstep sl dy mi pc e ls st I = some (.inl (pc', ls', st', I', u))) (k : zW sl D dy mi pc' ls' st' I' (fun o => Post (zadd u o))) : zW sl D dy mi pc ls st I Post := by
  obtain ⟨N, o, h1, h2⟩ := k
  refine ⟨N + 1, zadd u o, ?_, h2⟩
  simp only [zrun, h, hs, h1, Option.map_some]
theorem zW_n {e : Instr × Nat × Nat × Nat × Nat} {pc' : Nat} {ls' : zLs} {st' : List Value} {I' : zM} (h : zl mi pc = some e) (hs : zstep sl dy mi pc e ls st I = some (.inl (pc', ls', st', I', 0))) (k : zW sl D dy mi pc' ls' st' I' Post) : zW sl D dy mi pc ls st I Post := zW_nu h hs k
theorem zW_r {e : Instr × Nat × Nat × Nat × Nat} {v : Option Value} (h : zl mi pc = some e) (hs : zstep sl dy mi pc e ls st I = some (.inr (.inl v))) (hp : Post (0, v, I, 0)) : zW sl D dy mi pc ls st I Post := by
  refine ⟨1, _, ?_, hp⟩
  simp only [zrun, h, hs]
theorem zW_x {e : Instr × Nat × Nat × Nat × Nat} {c : Nat} (h : zl mi pc = some e) (hs : zstep sl dy mi pc e ls st I = some (.inr (.inr (.inl c)))) (hp : Post (c + 1, none, I, 1)) : zW sl D dy mi pc ls st I Post := by
  refine ⟨1, _, ?_, hp⟩
  simp only [zrun, h, hs]
theorem zcat3_some {c : Nat} {w : Nat × zLs} (h : zcat3 mi pc c ls = some w) : ∃ hh, zhd c pc (zH mi) = some hh := by
  unfold zcat3 at h
  split at h
  · cases h
  · rename_i hh hx
    exact ⟨hh, hx⟩
/-- a call: what it gives, what it throws here or further on -/
theorem zW_cu {e : Instr × Nat × Nat × Nat × Nat} {m pc' u0 : Nat} {la : zLs} {st' : List Value} {Q : zO4 → Prop} (h : zl mi pc = some e) (hs : zstep sl dy mi pc e ls st I = some (.inr (.inr (.inr (m, pc', la, st', u0)))))
    (hc : zW sl D (zdy u0 dy la) m 0 la [] I Q)
    (hr : ∀ (v : Option Value) (I' : zM) (u : Nat), Q (0, v, I', u) → zgd u0 v = true ∧ zW sl (D + 1) dy mi pc' ls (zpush v st') I' (fun o => Post (zadd (u + u0) o)))
    (hx : ∀ (c : Nat) (v : Option Value) (I' : zM) (u : Nat), Q (c + 1, v, I', u) → (zhd c pc (zH mi) = none ∧ zany pc (zH mi) = false ∧ Post (c + 1, none, I', u + u0)) ∨ ∃ (pc2 : Nat) (ls2 : zLs), zcat3 mi pc c ls = some (pc2, ls2) ∧ zW sl (D + 1) dy mi pc2 ls2 [] I' (fun o => Post (zadd (u + u0) o))) :
    zW sl (D + 1) dy mi pc ls st I Post := by
  obtain ⟨N, ⟨c, v, I', u⟩, h1, h2⟩ := hc
  cases c with
  | zero =>
    obtain ⟨hg, N2, o, g1, g2⟩ := hr v I' u h2
    refine ⟨max N N2 + 1, zadd (u + u0) o, ?_, g2⟩
    have e1 := zrun_le N h1 (Nat.le_max_left N N2) (Nat.le_refl _)
    have e2 := zrun_le N2 g1 (Nat.le_max_right N N2) (Nat.le_refl _)
    unfold zrun
    simp only [h, hs, e1, hg, e2, Option.map_some]
  | succ c =>
    rcases hx c v I' u h2 with ⟨g1, g0, g2⟩ | ⟨pc2, ls2, g1, N2, o, g2, g3⟩
    · refine ⟨N + 1, _, ?_, g2⟩
      unfold zrun
      simp only [h, hs, h1, g1, g0]
    · refine ⟨max N N2 + 1, zadd (u + u0) o, ?_, g3⟩
      have e1 := zrun_le N h1 (Nat.le_max_left N N2) (Nat.le_refl _)
      have e2 := zrun_le N2 g2 (Nat.le_max_right N N2) (Nat.le_refl _)
      obtain ⟨hh, hy⟩ := zcat3_some g1
      unfold zrun
      simp only [h, hs, e1, e2, g1, hy, Option.map_some]
/-- several instructions of one method that go on -/
def zgo (sl dy mi : Nat) : Nat → Nat × zLs × List Value × zM × Nat → Option (Nat × zLs × List Value × zM × Nat)
  | 0, c => some c
  | n + 1, (pc, ls, st, I, u) => match zl mi pc with
    | some e => match zstep sl dy mi pc e ls st I with
      | some (.inl (pc', ls', st', I', u')) => zgo sl dy mi n (pc', ls', st', I', u' + u)
      | _ => none
    | none => none
theorem zW_gu : ∀ (n : Nat) {pc : Nat} {ls : zLs} {st : List Value} {I : zM} {u0 : Nat} {Post : zO4 → Prop} {pc' : Nat} {ls' : zLs} {st' : List Value} {I' : zM} {u : Nat}, zgo sl dy mi n (pc, ls, st, I, u0) = some (pc', ls', st', I', u) → zW sl D dy mi pc' ls' st' I' (fun o => Post (zadd u o)) → zW sl D dy mi pc ls st I (fun o => Post (zadd u0 o))
  | 0, pc, ls, st, I, u0, Post, pc', ls', st', I', u, h, k => by
    simp only [zgo, Option.some.injEq, Prod.mk.injEq] at h
    obtain ⟨rfl, rfl, rfl, rfl, rfl⟩ := h
    exact k
  | n + 1, pc, ls, st, I, u0, Post, pc', ls', st', I', u, h, k => by
    unfold zgo at h
    cases hl : zl mi pc with
    | none => rw [hl] at h; simp at h
    | some e =>
      rw [hl] at h
      simp only at h
      cases hs : zstep sl dy mi pc e ls st I with
      | none => rw [hs] at h; simp at h
      | some r =>
        rw [hs] at h
        rcases r with ⟨pc1, ls1, st1, I1, u1⟩ | v | c | q
        · refine zW_nu hl hs ?_
          refine zW_post (zW_gu n h k) (fun o ho => ?_)
          have : zadd (u1 + u0) o = zadd u0 (zadd u1 o) := by simp only [zadd, Nat.add_assoc]
          rw [← this]
          exact ho
        · simp at h
        · simp at h
        · simp at h
theorem zW_g (n : Nat) {pc' : Nat} {ls' : zLs} {st' : List Value} {I' : zM} (h : zgo sl dy mi n (pc, ls, st, I, 0) = some (pc', ls', st', I', 0)) (k : zW sl D dy mi pc' ls' st' I' Post) : zW sl D dy mi pc ls st I Post := zW_gu n h k
end ZT
end
section
/-! THE PURE MEMORY AND THE REAL ONE -/
theorem zlen_at {mi pc len r1 r2 r3 : Nat} {i : Instr} (h : zl mi pc = some (i, len, r1, r2, r3)) : zln i = 0 ∨ zln i = len := by
  have hm := zfind_mem h
  rw [List.getD_eq_getElem?_getD] at hm
  cases hg : ztab[mi]? with
  | none => rw [hg] at hm; cases hm
  | some t =>
    rw [hg] at hm
    have h1 := List.all_eq_true.mp (List.all_eq_true.mp zln_all t (List.mem_of_getElem? hg)) _ hm
    simp only [Bool.or_eq_true] at h1
    rcases h1 with h1 | h1
    · exact Or.inl (Nat.eq_of_beq_eq_true h1)
    · exact Or.inr (Nat.eq_of_beq_eq_true h1)
theorem zlen_eq {mi pc len r1 r2 r3 k : Nat} {i : Instr} (h : zl mi pc = some (i, len, r1, r2, r3)) (hk : zln i = k + 1) : len = k + 1 := by
  rcases zlen_at h with h1 | h1
  · rw [hk] at h1; cases h1
  · rw [← h1, hk]
def zmv (ρ : Nat → Nat) : Value → Value
  | .ref a => .ref (ρ a)
  | v => v
abbrev zmS (ρ : Nat → Nat) (st : List Value) : List Value := st.map (zmv ρ)
abbrev zmL (ρ : Nat → Nat) (ls : zLs) : zLs := ls.map (fun q => (q.1, zmv ρ q.2))
theorem zmv_cat (ρ : Nat → Nat) (v : Value) : (zmv ρ v).category = v.category := by cases v <;> rfl
theorem zmS_cat (ρ : Nat → Nat) (st : List Value) : ((zmS ρ st).map fun v => v.category).sum = zcat st := by
  unfold zcat
  induction st with
  | nil => rfl
  | cons v r ih => simp only [List.map_cons, List.sum_cons, zmv_cat] at ih ⊢; rw [ih]
theorem zlk_map (ρ : Nat → Nat) (i : Nat) : ∀ ls : zLs, zlk (zmL ρ ls) i = (zlk ls i).map (zmv ρ)
  | [] => rfl
  | q :: t => by
    show zlk ((q.1, zmv ρ q.2) :: zmL ρ t) i = _
    unfold zlk
    cases hb : Nat.beq q.1 i with
    | true => rfl
    | false => exact zlk_map ρ i t
theorem zfilter_map (ρ : Nat → Nat) (f : Nat × Value → Bool) (hf : ∀ q : Nat × Value, f (q.1, zmv ρ q.2) = f q) (ls : zLs) : (zmL ρ ls).filter f = zmL ρ (ls.filter f) := by
  induction ls with
  | nil => rfl
  | cons q t ih =>
    show ((q.1, zmv ρ q.2) :: zmL ρ t).filter f = _
    simp only [List.filter_cons, hf]
    split
    · rw [ih]; rfl
    · exact ih
theorem zs1_map (ρ : Nat → Nat) (ls : zLs) (i : Nat) (v : Value) : zs1 (zmL ρ ls) i (zmv ρ v) = zmL ρ (zs1 ls i v) := by
  unfold zs1
  rw [zfilter_map ρ _ (fun q => by simp only [zmv_cat])]
  rfl
theorem zs2_map (ρ : Nat → Nat) (ls : zLs) (i : Nat) (v : Value) : zs2 (zmL ρ ls) i (zmv ρ v) = zmL ρ (zs2 ls i v) := by
  unfold zs2
  rw [zfilter_map ρ _ (fun q => by simp only [zmv_cat])]
  rfl
theorem zargs_map (ρ : Nat → Nat) : ∀ (i : Nat) (vs : List Value), lv_args i (zmS ρ vs) = zmL ρ (lv_args i vs)
  | _, [] => rfl
  | i, v :: vs => by
    show lv_args i (zmv ρ v :: zmS ρ vs) = _
    unfold lv_args
    rw [zmv_cat, zargs_map ρ _ vs]
    rfl
/-- a String that is there: its text; F: the cells that stay as they were in K0, P0, I0 -/
def zStr (F : Nat → Prop) (K0 : zKT) (P0 : zPT) (I0 : zIT) (a : Nat) (t : List Int32) : Prop :=
  ∃ (b k1 m k2 : Nat), F a ∧ F b ∧ K0 a = some (k1, m) ∧ (k1 = 120 ∨ k1 = 0) ∧ P0 a 0 = some b ∧ K0 b = some (k2, t.length) ∧ (k2 = 113 ∨ k2 = 103) ∧ I0 a 1 = 0 ∧ ∀ (j : Nat) (x : Int32), t[j]? = some x → I0 b j = x ∧ 0 ≤ x ∧ x < 128
/-- a StringBuilder that is there: its text -/
def zBd (n : Nat) (K : zKT) (P : zPT) (I : zIT) (b va : Nat) (t : List Int32) : Prop :=
  ∃ cap : Nat, K b = some (1, 4) ∧ P b 0 = some va ∧ K va = some (103, cap) ∧ b < va ∧ va < n ∧ t.length ≤ cap ∧ cap ≤ 200 ∧ I b 1 = 0 ∧ I b 3 = Int32.ofNat t.length ∧ ∀ (j : Nat) (x : Int32), t[j]? = some x → I va j = x ∧ 0 ≤ x ∧ x < 128
/-- nothing else has changed but the builder b, whose bytes lay at va and now lie at va' -/
def zKeep (n : Nat) (K : zKT) (P : zPT) (I : zIT) (L : zLT) (b va va' : Nat) (n' : Nat) (K' : zKT) (P' : zPT) (I' : zIT) (L' : zLT) : Prop :=
  n ≤ n' ∧ (va' = va ∨ n ≤ va') ∧ ∀ q, q < n → q ≠ b → q ≠ va → K' q = K q ∧ P' q = P q ∧ I' q = I q ∧ L' q = L q
/-- what is given: the base, the places' addresses, the cells that stay -/
abbrev zEnv : Type := Nat × (Nat → Nat) × (Nat → Prop) × zKT × zPT × zIT × zLT
def zEB (E : zEnv) : Nat := E.1
def zEr (E : zEnv) : Nat → Nat := E.2.1
def zEF (E : zEnv) : Nat → Prop := E.2.2.1
def zEK (E : zEnv) : zKT := E.2.2.2.1
def zEP (E : zEnv) : zPT := E.2.2.2.2.1
def zEI (E : zEnv) : zIT := E.2.2.2.2.2.1
def zEL (E : zEnv) : zLT := E.2.2.2.2.2.2
def zEok (X : zX) (sl dy : Nat) (E : zEnv) : Prop :=
  (∀ i, i < 150 → zEr E i = zEB E + i) ∧ (zEF E (zEr E 1000) ∧ zEK E (zEr E 1000) = some (110, sl)) ∧ (∀ (i : Nat) (t : List Int32), ztx dy i = some t → zStr (zEF E) (zEK E) (zEP E) (zEI E) (zEr E i) t) ∧
  (∀ k, k < 1000 → zEr E (2000 + k) = X.2.2.2 k) ∧ (∀ a, zEF E a → ¬ (zEB E ≤ a ∧ a < zEB E + 150))
/-- the real memory is as the pure one says -/
def zRel (E : zEnv) (n : Nat) (K : zKT) (P : zPT) (I : zIT) (L : zLT) (M : zM) : Prop :=
  zEB E + 150 ≤ n ∧ (∀ (i : Nat) (sl : Nat) (e : Nat × Nat), i < 150 → zkd sl i = some e → K (zEB E + i) = some e) ∧ (∀ i k q : Nat, zpd i k = some q → P (zEB E + i) k = some (zEB E + q)) ∧
  (∀ (i k : Nat) (x : Int32), i < 148 → M i k = some x → I (zEB E + i) k = x) ∧ (∀ (k : Nat) (x : Int32), M 1000 k = some x → zEI E (zEr E 1000) k = x) ∧
  ∃ (va : Nat) (t : List Int32), zBd n K P I (zEB E + 148) va t ∧ t.length ≤ 63 ∧ zEB E + 149 ≤ va ∧ (∀ x, M 148 0 = some x → Int32.ofNat t.length = x) ∧ (∀ (j : Nat) (x : Int32), j < t.length → M 149 j = some x → t[j]? = some x) ∧
    ∀ a, zEF E a → a < n ∧ a ≠ va ∧ K a = zEK E a ∧ P a = zEP E a ∧ I a = zEI E a ∧ L a = zEL E a
theorem zof_lt {a k : Nat} (h : zof a = k) (hk : k ≠ 99) : a < 135 ∧ 1 ≤ a := by
  unfold zof at h
  split at h
  · rename_i h1
    simp only [Bool.and_eq_true] at h1
    have := Nat.le_of_ble_eq_true h1.1
    have := Nat.le_of_ble_eq_true h1.2
    omega
  · split at h
    · rename_i h1
      simp only [Bool.and_eq_true] at h1
      have := Nat.le_of_ble_eq_true h1.1
      have := Nat.le_of_ble_eq_true h1.2
      omega
    · exact absurd h.symm hk
theorem zkd_lt {sl a : Nat} {e : Nat × Nat} (h : zkd sl a = some e) : a < 148 ∨ (a = 1000 ∧ e = (110, sl)) := by
  by_cases h9 : zof a = 99
  · unfold zkd at h
    rw [h9] at h
    simp only at h
    split at h <;> first | (left; omega) | (right; exact ⟨rfl, (Option.some.inj h).symm⟩) | cases h
  · exact Or.inl (Nat.lt_of_lt_of_le (zof_lt rfl h9).1 (by decide))
theorem zpd_lt {a k q : Nat} (h : zpd a k = some q) : a < 148 ∧ q < 150 := by
  by_cases h9 : zof a = 99
  · unfold zpd at h
    rw [h9] at h
    simp only at h
    split at h
    · split at h <;> first | (cases h; omega) | cases h
    · split at h <;> first | (cases h; omega) | cases h
    · split at h
      · rename_i hb
        have := Nat.le_of_ble_eq_true hb
        cases h; omega
      · cases h
    · split at h
      · cases h; omega
      · split at h
        · rename_i hb
          have := Nat.le_of_ble_eq_true hb
          cases h; omega
        · cases h
    · split at h
      · rename_i hb
        have := Nat.le_of_ble_eq_true hb
        cases h; omega
      · cases h
    · cases h
  · have hz := zof_lt rfl h9
    refine ⟨by omega, ?_⟩
    unfold zpd at h
    split at h
    · split at h
      · rename_i hb
        have := Nat.le_of_ble_eq_true hb
        cases h; omega
      · cases h
    · rename_i h1
      exact absurd h1 h9
    · cases h
section ZR
variable {X : zX} {sl dy : Nat} {E : zEnv} {n : Nat} {K : zKT} {P : zPT} {I : zIT} {L : zLT} {M : zM}
theorem zRel_K {a : Nat} {e : Nat × Nat} (hE : zEok X sl dy E) (hR : zRel E n K P I L M) (h : zkd sl a = some e) : K (zEr E a) = some e := by
  rcases zkd_lt h with h1 | ⟨rfl, rfl⟩
  · rw [hE.1 a (by omega)]
    exact hR.2.1 a sl e (by omega) h
  · obtain ⟨va, t, -, -, -, -, -, hF⟩ := hR.2.2.2.2.2
    rw [(hF _ hE.2.1.1).2.2.1]
    exact hE.2.1.2
theorem zRel_P {a k q : Nat} (hE : zEok X sl dy E) (hR : zRel E n K P I L M) (h : zpd a k = some q) : P (zEr E a) k = some (zEr E q) := by
  have h1 := zpd_lt h
  rw [hE.1 a (by omega), hE.1 q (by omega)]
  exact hR.2.2.1 a k q h
theorem zRel_I {a k : Nat} {x : Int32} {e : Nat × Nat} (hE : zEok X sl dy E) (hR : zRel E n K P I L M) (h : zkd sl a = some e) (hM : M a k = some x) : I (zEr E a) k = x := by
  rcases zkd_lt h with h1 | ⟨rfl, rfl⟩
  · rw [hE.1 a (by omega)]
    exact hR.2.2.2.1 a k x h1 hM
  · obtain ⟨va, t, -, -, -, -, -, hF⟩ := hR.2.2.2.2.2
    rw [(hF _ hE.2.1.1).2.2.2.2.1]
    exact hR.2.2.2.2.1 k x hM
theorem zup_at (M : zM) (a k : Nat) (x : Int32) (b j : Nat) : zup M a k x b j = if b = a ∧ j = k then some x else M b j := by
  unfold zup
  by_cases h1 : b = a
  · subst h1
    rw [show Nat.beq b b = true from Nat.beq_refl b]
    by_cases h2 : j = k
    · subst h2
      rw [show Nat.beq j j = true from Nat.beq_refl j]
      simp
    · have : Nat.beq j k = false := by
        cases hb : Nat.beq j k with
        | true => exact absurd (Nat.eq_of_beq_eq_true hb) h2
        | false => rfl
      rw [this]
      simp [h2]
  · have : Nat.beq b a = false := by
      cases hb : Nat.beq b a with
      | true => exact absurd (Nat.eq_of_beq_eq_true hb) h1
      | false => rfl
    rw [this]
    simp [h1]
theorem zcpm_at (M : zM) (s d k : Nat) (b j : Nat) : zcpm M s d k b j = if b = d ∧ j < k then M s j else M b j := by
  unfold zcpm
  by_cases h1 : b = d
  · subst h1
    rw [show Nat.beq b b = true from Nat.beq_refl b]
    by_cases h2 : j < k
    · rw [Nat.ble_eq_true_of_le h2]
      simp [h2]
    · have : Nat.ble (j + 1) k = false := by
        cases hb : Nat.ble (j + 1) k with
        | true => exact absurd (Nat.le_of_ble_eq_true hb) h2
        | false => rfl
      rw [this]
      simp [h2]
  · have : Nat.beq b d = false := by
      cases hb : Nat.beq b d with
      | true => exact absurd (Nat.eq_of_beq_eq_true hb) h1
      | false => rfl
    rw [this]
    simp [h1]
/-- a cell of an own place is written -/
theorem zRel_up {a k : Nat} {x : Int32} (ha : a < 148) (hEF : ∀ q, zEF E q → ¬ (zEB E ≤ q ∧ q < zEB E + 150)) (hR : zRel E n K P I L M) : zRel E n K P (zuI I (zEB E + a) k x) L (zup M a k x) := by
  obtain ⟨h1, h2, h3, h4, h5, va, t, ⟨cap, b1, b2, b3, b4, b5, b6, b7, b8, b9, b10⟩, h7, h8, h9, h10, h11⟩ := hR
  have ne : ∀ q, q ≠ zEB E + a → zuI I (zEB E + a) k x q = I q := fun q hq => if_neg hq
  refine ⟨h1, h2, h3, fun i j y hi hy => ?_, fun j y hy => ?_, va, t, ⟨cap, b1, b2, b3, b4, b5, b6, b7, ?_, ?_, fun j y hj => ?_⟩, h7, h8, fun y hy => ?_, fun j y hj hy => ?_, fun q hq => ?_⟩
  · rw [zup_at] at hy
    by_cases hia : i = a
    · subst hia
      show (if zEB E + i = zEB E + i then upd (I (zEB E + i)) k x else I (zEB E + i)) j = y
      rw [if_pos rfl]
      unfold upd
      by_cases hjk : j = k
      · subst hjk
        simp at hy ⊢
        exact hy
      · simp [hjk] at hy ⊢
        exact h4 i j y hi hy
    · rw [ne _ (by omega)]
      rw [if_neg (by simp [hia])] at hy
      exact h4 i j y hi hy
  · rw [zup_at, if_neg (by simp; omega)] at hy
    exact h5 j y hy
  · rw [ne _ (by omega)]; exact b8
  · rw [ne _ (by omega)]; exact b9
  · rw [ne _ (by omega)]; exact b10 j y hj
  · rw [zup_at, if_neg (by simp; omega)] at hy
    exact h9 y hy
  · rw [zup_at, if_neg (by simp; omega)] at hy
    exact h10 j y hj hy
  · obtain ⟨g1, g2, g3, g4, g5, g6⟩ := h11 q hq
    refine ⟨g1, g2, g3, g4, ?_, g6⟩
    rw [ne q (fun e => hEF q hq (by omega))]
    exact g5
/-- an own row of ints is copied to another own one -/
theorem zRel_cp {a b k : Nat} (ha : a < 148) (hb : b < 148) (hab : a ≠ b) (hEF : ∀ q, zEF E q → ¬ (zEB E ≤ q ∧ q < zEB E + 150)) (hR : zRel E n K P I L M) : zRel E n K P (zuC I (zEB E + a) (zEB E + b) k) L (zcpm M a b k) := by
  obtain ⟨h1, h2, h3, h4, h5, va, t, ⟨cap, b1, b2, b3, b4, b5, b6, b7, b8, b9, b10⟩, h7, h8, h9, h10, h11⟩ := hR
  have ne : ∀ q, q ≠ zEB E + b → zuC I (zEB E + a) (zEB E + b) k q = I q := fun q hq => if_neg hq
  refine ⟨h1, h2, h3, fun i j y hi hy => ?_, fun j y hy => ?_, va, t, ⟨cap, b1, b2, b3, b4, b5, b6, b7, ?_, ?_, fun j y hj => ?_⟩, h7, h8, fun y hy => ?_, fun j y hj hy => ?_, fun q hq => ?_⟩
  · rw [zcpm_at] at hy
    by_cases hib : i = b
    · subst hib
      show (if zEB E + i = zEB E + i then va_cpy (I (zEB E + a)) (I (zEB E + i)) 0 0 k else I (zEB E + i)) j = y
      rw [if_pos rfl]
      unfold va_cpy
      by_cases hjk : j < k
      · rw [if_pos ⟨rfl, hjk⟩] at hy
        rw [if_pos ⟨Nat.zero_le _, by omega⟩]
        rw [show 0 + (j - 0) = j by omega]
        exact h4 a j y ha hy
      · rw [if_neg (by simp [hjk])] at hy
        rw [if_neg (by omega)]
        exact h4 i j y hi hy
    · rw [ne _ (by omega)]
      rw [if_neg (by simp [hib])] at hy
      exact h4 i j y hi hy
  · rw [zcpm_at, if_neg (by omega)] at hy
    exact h5 j y hy
  · rw [ne _ (by omega)]; exact b8
  · rw [ne _ (by omega)]; exact b9
  · rw [ne _ (by omega)]; exact b10 j y hj
  · rw [zcpm_at, if_neg (by omega)] at hy
    exact h9 y hy
  · rw [zcpm_at, if_neg (by omega)] at hy
    exact h10 j y hj hy
  · obtain ⟨g1, g2, g3, g4, g5, g6⟩ := h11 q hq
    refine ⟨g1, g2, g3, g4, ?_, g6⟩
    rw [ne q (fun e => hEF q hq (by omega))]
    exact g5
theorem zRel_n {n' : Nat} (h : n ≤ n') (hR : zRel E n K P I L M) : zRel E n' K P I L M := by
  obtain ⟨h1, h2, h3, h4, h5, va, t, ⟨cap, b1, b2, b3, b4, b5, b6⟩, h7, h8, h9, h10, h11⟩ := hR
  exact ⟨by omega, h2, h3, h4, h5, va, t, ⟨cap, b1, b2, b3, b4, by omega, b6⟩, h7, h8, h9, h10, fun a ha => ⟨by have := (h11 a ha).1; omega, (h11 a ha).2⟩⟩
end ZR
theorem zV_bud {l : Launch} {X : zX} {d bc bs bc' bs' mi pc : Nat} {ls : List (Nat × Value)} {st : List Value} {n : Nat} {K : zKT} {P : zPT} {I : zIT} {L : zLT} {Post : zPost} (h1 : bc ≤ bc') (h2 : bs ≤ bs') (k : zV l X d bc bs mi pc ls st n K P I L Post) : zV l X d bc' bs' mi pc ls st n K P I L Post :=
  fun p e R s m args below meth c H locs cells slots mc ms lsr S D hl => k p e R s m args below meth c H locs cells slots mc ms lsr S ⟨by have := D.1; omega, by have := D.2.1; omega, D.2.2⟩ hl
end
section
/-! A STEP OF THE INTERPRETER IS ONE OF zV -/
theorem zLd_inv {pc i t : Nat} {ls : zLs} {st : List Value} {I : zM} {r : zRes} (h : zLd pc ls st I i t = some r) : ∃ v, zlk ls i = some v ∧ zvt v = t ∧ r = .inl (pc, ls, v :: st, I, 0) := by
  unfold zLd zld at h
  cases hl : zlk ls i with
  | none => rw [hl] at h; cases h
  | some v =>
    rw [hl] at h
    simp only at h
    cases hb : Nat.beq (zvt v) t with
    | false => rw [hb] at h; cases h
    | true =>
      rw [hb] at h
      exact ⟨v, rfl, Nat.eq_of_beq_eq_true hb, (Option.some.inj h).symm⟩
theorem zSt_inv {pc nL i t : Nat} {ls : zLs} {st : List Value} {I : zM} {r : zRes} (h : zSt pc nL ls st I i t = some r) : ∃ v r0, st = v :: r0 ∧ zvt v = t ∧ i + (if t = 1 ∨ t = 3 then 2 else 1) ≤ nL ∧ r = .inl (pc, if t = 1 ∨ t = 3 then zs2 ls i v else zs1 ls i v, r0, I, 0) := by
  unfold zSt at h
  cases st with
  | nil => cases h
  | cons v r0 =>
    simp only at h
    cases hb : Nat.beq (zvt v) t && Nat.ble (i + (if t = 1 ∨ t = 3 then 2 else 1)) nL with
    | false => rw [hb] at h; cases h
    | true =>
      rw [hb] at h
      simp only [Bool.and_eq_true] at hb
      exact ⟨v, r0, rfl, Nat.eq_of_beq_eq_true hb.1, Nat.le_of_ble_eq_true hb.2, (Option.some.inj h).symm⟩
theorem zvt_0 {v : Value} (h : zvt v = 0) : ∃ x, v = .int x := by cases v <;> first | exact ⟨_, rfl⟩ | cases h
theorem zvt_1 {v : Value} (h : zvt v = 1) : ∃ x, v = .long x := by cases v <;> first | exact ⟨_, rfl⟩ | cases h
theorem zvt_2 {v : Value} (h : zvt v = 2) : ∃ x, v = .float x := by cases v <;> first | exact ⟨_, rfl⟩ | cases h
theorem zvt_3 {v : Value} (h : zvt v = 3) : ∃ x, v = .double x := by cases v <;> first | exact ⟨_, rfl⟩ | cases h
theorem zvt_4 {v : Value} (h : zvt v = 4) : ∃ x, v = .ref x := by cases v <;> first | exact ⟨_, rfl⟩ | cases h
theorem zi2_inv {f : Int32 → Int32 → Int32} {pc : Nat} {ls : zLs} {st : List Value} {I : zM} {r : zRes} (h : zi2 f pc ls st I = some r) : ∃ x y r0, st = .int y :: .int x :: r0 ∧ r = .inl (pc, ls, .int (f x y) :: r0, I, 0) := by
  unfold zi2 at h
  split at h
  · exact ⟨_, _, _, rfl, (Option.some.inj h).symm⟩
  · cases h
theorem zl2_inv {f : Int64 → Int64 → Int64} {pc : Nat} {ls : zLs} {st : List Value} {I : zM} {r : zRes} (h : zl2 f pc ls st I = some r) : ∃ x y r0, st = .long y :: .long x :: r0 ∧ r = .inl (pc, ls, .long (f x y) :: r0, I, 0) := by
  unfold zl2 at h
  split at h
  · exact ⟨_, _, _, rfl, (Option.some.inj h).symm⟩
  · cases h
theorem zf2_inv {f : UInt32 → UInt32 → UInt32} {pc : Nat} {ls : zLs} {st : List Value} {I : zM} {r : zRes} (h : zf2 f pc ls st I = some r) : ∃ x y r0, st = .float y :: .float x :: r0 ∧ vf_n32 (f x y) ∧ r = .inl (pc, ls, .float (f x y) :: r0, I, 0) := by
  unfold zf2 at h
  split at h
  · split at h
    · rename_i hd
      exact ⟨_, _, _, rfl, by unfold vf_n32; exact of_decide_eq_true hd, (Option.some.inj h).symm⟩
    · cases h
  · cases h
theorem zd2_inv {f : UInt64 → UInt64 → UInt64} {pc : Nat} {ls : zLs} {st : List Value} {I : zM} {r : zRes} (h : zd2 f pc ls st I = some r) : ∃ x y r0, st = .double y :: .double x :: r0 ∧ vf_n64 (f x y) ∧ r = .inl (pc, ls, .double (f x y) :: r0, I, 0) := by
  unfold zd2 at h
  split at h
  · split at h
    · rename_i hd
      exact ⟨_, _, _, rfl, by unfold vf_n64; exact of_decide_eq_true hd, (Option.some.inj h).symm⟩
    · cases h
  · cases h
theorem ztg_eq {pc t : Nat} {off : Int} (h : ztg pc off = some t) : (pc : Int) + off = (t : Int) := by
  unfold ztg at h
  split at h
  · rename_i u hu
    cases h
    exact hu
  · cases h
theorem zjmp_inv {pc : Nat} {off : Int} {ls : zLs} {st : List Value} {I : zM} {r : zRes} (h : zjmp pc off ls st I = some r) : ∃ t, ztg pc off = some t ∧ r = .inl (t, ls, st, I, 0) := by
  unfold zjmp at h
  split at h
  · rename_i t ht
    exact ⟨t, ht, (Option.some.inj h).symm⟩
  · cases h
theorem zldc_inv {pc r1 r2 : Nat} {ls : zLs} {st : List Value} {I : zM} {r : zRes} (h : zldc pc ls st I r1 r2 = some r) : (r1 = 0 ∧ r = .inl (pc, ls, .int (Int32.ofNat r2) :: st, I, 0)) ∨ (r1 = 1 ∧ r = .inl (pc, ls, .float (UInt32.ofNat r2) :: st, I, 0)) ∨ (r1 = 2 ∧ r = .inl (pc, ls, .ref (2000 + r2) :: st, I, 0)) := by
  unfold zldc at h
  split at h
  · exact Or.inl ⟨rfl, (Option.some.inj h).symm⟩
  · exact Or.inr (Or.inl ⟨rfl, (Option.some.inj h).symm⟩)
  · exact Or.inr (Or.inr ⟨rfl, (Option.some.inj h).symm⟩)
  · cases h
theorem zstr_lt {mi pc idx r2 r3 len : Nat} {op : Instr} (hz : zl mi pc = some (op, len, 2, r2, r3)) (ho : op = .ldc idx ∨ op = .ldc_w idx := by first | exact Or.inl rfl | exact Or.inr rfl) : r2 < 1000 := by
  obtain ⟨q, hq, -, -⟩ := zwc_str ho hz
  have h1 := (List.getElem?_eq_some_iff.mp hq).1
  have h2 : zstr.length = 40 := by decide +kernel
  omega
theorem zin_vp {i : Int32} {n : Nat} (h : zin i n = true) : vp_in i n := by
  unfold zin at h
  simp only [Bool.and_eq_true, decide_eq_true_eq] at h
  have h2 := Nat.le_of_ble_eq_true h.2
  rintro (h3 | h3)
  · exact (Int32.lt_irrefl (Int32.lt_of_lt_of_le h3 h.1)).elim
  · omega
section ZSTEP
variable {l : Launch} {X : zX} {sl dy d bc bs mi pc : Nat} {E : zEnv} {n : Nat} {K : zKT} {P : zPT} {Ir : zIT} {L : zLT} {Post : zPost}

theorem zq_iconst {j : Int} {len r1 r2 r3 pc1 u : Nat} {ls ls1 : zLs} {st st1 : List Value} {I I1 : zM} (hE : zEok X sl dy E) (hR : zRel E n K P Ir L I) (hz : zl mi pc = some (.iconst j, len, r1, r2, r3)) (hs : zstep sl dy mi pc (.iconst j, len, r1, r2, r3) ls st I = some (.inl (pc1, ls1, st1, I1, u)))
    (k : ∀ (n' : Nat) (K' : zKT) (P' : zPT) (Ir' : zIT) (L' : zLT), zRel E n' K' P' Ir' L' I1 → zV l X (d + 1) bc bs mi pc1 (zmL (zEr E) ls1) (zmS (zEr E) st1) n' K' P' Ir' L' Post) : zV l X (d + 1) bc bs mi pc (zmL (zEr E) ls) (zmS (zEr E) st) n K P Ir L Post := by
  obtain rfl : len = 1 := zlen_eq hz rfl
  cases hs
  exact zV_iconst hz rfl (k n K P Ir L hR)
theorem zq_bipush {j : Int} {len r1 r2 r3 pc1 u : Nat} {ls ls1 : zLs} {st st1 : List Value} {I I1 : zM} (hE : zEok X sl dy E) (hR : zRel E n K P Ir L I) (hz : zl mi pc = some (.bipush j, len, r1, r2, r3)) (hs : zstep sl dy mi pc (.bipush j, len, r1, r2, r3) ls st I = some (.inl (pc1, ls1, st1, I1, u)))
    (k : ∀ (n' : Nat) (K' : zKT) (P' : zPT) (Ir' : zIT) (L' : zLT), zRel E n' K' P' Ir' L' I1 → zV l X (d + 1) bc bs mi pc1 (zmL (zEr E) ls1) (zmS (zEr E) st1) n' K' P' Ir' L' Post) : zV l X (d + 1) bc bs mi pc (zmL (zEr E) ls) (zmS (zEr E) st) n K P Ir L Post := by
  obtain rfl : len = 2 := zlen_eq hz rfl
  cases hs
  exact zV_bipush hz rfl (k n K P Ir L hR)
theorem zq_sipush {j : Int} {len r1 r2 r3 pc1 u : Nat} {ls ls1 : zLs} {st st1 : List Value} {I I1 : zM} (hE : zEok X sl dy E) (hR : zRel E n K P Ir L I) (hz : zl mi pc = some (.sipush j, len, r1, r2, r3)) (hs : zstep sl dy mi pc (.sipush j, len, r1, r2, r3) ls st I = some (.inl (pc1, ls1, st1, I1, u)))
    (k : ∀ (n' : Nat) (K' : zKT) (P' : zPT) (Ir' : zIT) (L' : zLT), zRel E n' K' P' Ir' L' I1 → zV l X (d + 1) bc bs mi pc1 (zmL (zEr E) ls1) (zmS (zEr E) st1) n' K' P' Ir' L' Post) : zV l X (d + 1) bc bs mi pc (zmL (zEr E) ls) (zmS (zEr E) st) n K P Ir L Post := by
  obtain rfl : len = 3 := zlen_eq hz rfl
  cases hs
  exact zV_sipush hz rfl (k n K P Ir L hR)
theorem zq_lconst {j : Fin 2} {len r1 r2 r3 pc1 u : Nat} {ls ls1 : zLs} {st st1 : List Value} {I I1 : zM} (hE : zEok X sl dy E) (hR : zRel E n K P Ir L I) (hz : zl mi pc = some (.lconst j, len, r1, r2, r3)) (hs : zstep sl dy mi pc (.lconst j, len, r1, r2, r3) ls st I = some (.inl (pc1, ls1, st1, I1, u)))
    (k : ∀ (n' : Nat) (K' : zKT) (P' : zPT) (Ir' : zIT) (L' : zLT), zRel E n' K' P' Ir' L' I1 → zV l X (d + 1) bc bs mi pc1 (zmL (zEr E) ls1) (zmS (zEr E) st1) n' K' P' Ir' L' Post) : zV l X (d + 1) bc bs mi pc (zmL (zEr E) ls) (zmS (zEr E) st) n K P Ir L Post := by
  obtain rfl : len = 1 := zlen_eq hz rfl
  cases hs
  exact zV_lconst hz rfl (k n K P Ir L hR)
theorem zq_fconst {j : Fin 3} {len r1 r2 r3 pc1 u : Nat} {ls ls1 : zLs} {st st1 : List Value} {I I1 : zM} (hE : zEok X sl dy E) (hR : zRel E n K P Ir L I) (hz : zl mi pc = some (.fconst j, len, r1, r2, r3)) (hs : zstep sl dy mi pc (.fconst j, len, r1, r2, r3) ls st I = some (.inl (pc1, ls1, st1, I1, u)))
    (k : ∀ (n' : Nat) (K' : zKT) (P' : zPT) (Ir' : zIT) (L' : zLT), zRel E n' K' P' Ir' L' I1 → zV l X (d + 1) bc bs mi pc1 (zmL (zEr E) ls1) (zmS (zEr E) st1) n' K' P' Ir' L' Post) : zV l X (d + 1) bc bs mi pc (zmL (zEr E) ls) (zmS (zEr E) st) n K P Ir L Post := by
  obtain rfl : len = 1 := zlen_eq hz rfl
  match j, hz, hs with
  | 0, hz, hs => cases hs; exact zV_fconst0 hz (k n K P Ir L hR)
  | 1, hz, hs => cases hs; exact zV_fconst1 hz (k n K P Ir L hR)
  | 2, hz, hs => cases hs; exact zV_fconst2 hz (k n K P Ir L hR)
theorem zq_dconst {j : Fin 2} {len r1 r2 r3 pc1 u : Nat} {ls ls1 : zLs} {st st1 : List Value} {I I1 : zM} (hE : zEok X sl dy E) (hR : zRel E n K P Ir L I) (hz : zl mi pc = some (.dconst j, len, r1, r2, r3)) (hs : zstep sl dy mi pc (.dconst j, len, r1, r2, r3) ls st I = some (.inl (pc1, ls1, st1, I1, u)))
    (k : ∀ (n' : Nat) (K' : zKT) (P' : zPT) (Ir' : zIT) (L' : zLT), zRel E n' K' P' Ir' L' I1 → zV l X (d + 1) bc bs mi pc1 (zmL (zEr E) ls1) (zmS (zEr E) st1) n' K' P' Ir' L' Post) : zV l X (d + 1) bc bs mi pc (zmL (zEr E) ls) (zmS (zEr E) st) n K P Ir L Post := by
  obtain rfl : len = 1 := zlen_eq hz rfl
  match j, hz, hs with
  | 0, hz, hs => cases hs; exact zV_dconst0 hz (k n K P Ir L hR)
  | 1, hz, hs => cases hs; exact zV_dconst1 hz (k n K P Ir L hR)
theorem zq_ldc {j : Nat} {len r1 r2 r3 pc1 u : Nat} {ls ls1 : zLs} {st st1 : List Value} {I I1 : zM} (hE : zEok X sl dy E) (hR : zRel E n K P Ir L I) (hz : zl mi pc = some (.ldc j, len, r1, r2, r3)) (hs : zstep sl dy mi pc (.ldc j, len, r1, r2, r3) ls st I = some (.inl (pc1, ls1, st1, I1, u)))
    (k : ∀ (n' : Nat) (K' : zKT) (P' : zPT) (Ir' : zIT) (L' : zLT), zRel E n' K' P' Ir' L' I1 → zV l X (d + 1) bc bs mi pc1 (zmL (zEr E) ls1) (zmS (zEr E) st1) n' K' P' Ir' L' Post) : zV l X (d + 1) bc bs mi pc (zmL (zEr E) ls) (zmS (zEr E) st) n K P Ir L Post := by
  obtain rfl : len = 2 := zlen_eq hz rfl
  rcases zldc_inv hs with ⟨rfl, e⟩ | ⟨rfl, e⟩ | ⟨rfl, e⟩ <;> cases e
  · exact zV_ldcI hz (k n K P Ir L hR)
  · exact zV_ldcF hz (k n K P Ir L hR)
  · refine zV_ldcS hz ?_
    have := k n K P Ir L hR
    rw [show zmS (zEr E) (.ref (2000 + r2) :: st) = .ref (X.2.2.2 r2) :: zmS (zEr E) st from by rw [← hE.2.2.2.1 r2 (zstr_lt hz)]; rfl] at this
    exact this
theorem zq_ldc_w {j : Nat} {len r1 r2 r3 pc1 u : Nat} {ls ls1 : zLs} {st st1 : List Value} {I I1 : zM} (hE : zEok X sl dy E) (hR : zRel E n K P Ir L I) (hz : zl mi pc = some (.ldc_w j, len, r1, r2, r3)) (hs : zstep sl dy mi pc (.ldc_w j, len, r1, r2, r3) ls st I = some (.inl (pc1, ls1, st1, I1, u)))
    (k : ∀ (n' : Nat) (K' : zKT) (P' : zPT) (Ir' : zIT) (L' : zLT), zRel E n' K' P' Ir' L' I1 → zV l X (d + 1) bc bs mi pc1 (zmL (zEr E) ls1) (zmS (zEr E) st1) n' K' P' Ir' L' Post) : zV l X (d + 1) bc bs mi pc (zmL (zEr E) ls) (zmS (zEr E) st) n K P Ir L Post := by
  obtain rfl : len = 3 := zlen_eq hz rfl
  rcases zldc_inv hs with ⟨rfl, e⟩ | ⟨rfl, e⟩ | ⟨rfl, e⟩ <;> cases e
  · exact zV_ldcwI hz (k n K P Ir L hR)
  · exact zV_ldcwF hz (k n K P Ir L hR)
  · refine zV_ldcwS hz ?_
    have := k n K P Ir L hR
    rw [show zmS (zEr E) (.ref (2000 + r2) :: st) = .ref (X.2.2.2 r2) :: zmS (zEr E) st from by rw [← hE.2.2.2.1 r2 (zstr_lt hz)]; rfl] at this
    exact this
theorem zq_ldc2_w {j : Nat} {len r1 r2 r3 pc1 u : Nat} {ls ls1 : zLs} {st st1 : List Value} {I I1 : zM} (hE : zEok X sl dy E) (hR : zRel E n K P Ir L I) (hz : zl mi pc = some (.ldc2_w j, len, r1, r2, r3)) (hs : zstep sl dy mi pc (.ldc2_w j, len, r1, r2, r3) ls st I = some (.inl (pc1, ls1, st1, I1, u)))
    (k : ∀ (n' : Nat) (K' : zKT) (P' : zPT) (Ir' : zIT) (L' : zLT), zRel E n' K' P' Ir' L' I1 → zV l X (d + 1) bc bs mi pc1 (zmL (zEr E) ls1) (zmS (zEr E) st1) n' K' P' Ir' L' Post) : zV l X (d + 1) bc bs mi pc (zmL (zEr E) ls) (zmS (zEr E) st) n K P Ir L Post := by
  obtain rfl : len = 3 := zlen_eq hz rfl
  simp only [zstep] at hs
  split at hs
  · cases hs; exact zV_ldc2L hz (k n K P Ir L hR)
  · cases hs; exact zV_ldc2D hz (k n K P Ir L hR)
  · cases hs
theorem zq_iload {j : Nat} {len r1 r2 r3 pc1 u : Nat} {ls ls1 : zLs} {st st1 : List Value} {I I1 : zM} (hE : zEok X sl dy E) (hR : zRel E n K P Ir L I) (hz : zl mi pc = some (.iload j, len, r1, r2, r3)) (hs : zstep sl dy mi pc (.iload j, len, r1, r2, r3) ls st I = some (.inl (pc1, ls1, st1, I1, u)))
    (k : ∀ (n' : Nat) (K' : zKT) (P' : zPT) (Ir' : zIT) (L' : zLT), zRel E n' K' P' Ir' L' I1 → zV l X (d + 1) bc bs mi pc1 (zmL (zEr E) ls1) (zmS (zEr E) st1) n' K' P' Ir' L' Post) : zV l X (d + 1) bc bs mi pc (zmL (zEr E) ls) (zmS (zEr E) st) n K P Ir L Post := by
  obtain rfl : len = 2 := zlen_eq hz rfl
  obtain ⟨v, h1, h2, e⟩ := zLd_inv hs
  obtain ⟨x, rfl⟩ := zvt_0 h2
  cases e
  exact zV_iload hz (by rw [zlk_map, h1]; rfl) (k n K P Ir L hR)
theorem zq_iload_n {j : Fin 4} {len r1 r2 r3 pc1 u : Nat} {ls ls1 : zLs} {st st1 : List Value} {I I1 : zM} (hE : zEok X sl dy E) (hR : zRel E n K P Ir L I) (hz : zl mi pc = some (.iload_n j, len, r1, r2, r3)) (hs : zstep sl dy mi pc (.iload_n j, len, r1, r2, r3) ls st I = some (.inl (pc1, ls1, st1, I1, u)))
    (k : ∀ (n' : Nat) (K' : zKT) (P' : zPT) (Ir' : zIT) (L' : zLT), zRel E n' K' P' Ir' L' I1 → zV l X (d + 1) bc bs mi pc1 (zmL (zEr E) ls1) (zmS (zEr E) st1) n' K' P' Ir' L' Post) : zV l X (d + 1) bc bs mi pc (zmL (zEr E) ls) (zmS (zEr E) st) n K P Ir L Post := by
  obtain rfl : len = 1 := zlen_eq hz rfl
  obtain ⟨v, h1, h2, e⟩ := zLd_inv hs
  obtain ⟨x, rfl⟩ := zvt_0 h2
  cases e
  exact zV_iload_n hz (by rw [zlk_map, h1]; rfl) (k n K P Ir L hR)
theorem zq_lload {j : Nat} {len r1 r2 r3 pc1 u : Nat} {ls ls1 : zLs} {st st1 : List Value} {I I1 : zM} (hE : zEok X sl dy E) (hR : zRel E n K P Ir L I) (hz : zl mi pc = some (.lload j, len, r1, r2, r3)) (hs : zstep sl dy mi pc (.lload j, len, r1, r2, r3) ls st I = some (.inl (pc1, ls1, st1, I1, u)))
    (k : ∀ (n' : Nat) (K' : zKT) (P' : zPT) (Ir' : zIT) (L' : zLT), zRel E n' K' P' Ir' L' I1 → zV l X (d + 1) bc bs mi pc1 (zmL (zEr E) ls1) (zmS (zEr E) st1) n' K' P' Ir' L' Post) : zV l X (d + 1) bc bs mi pc (zmL (zEr E) ls) (zmS (zEr E) st) n K P Ir L Post := by
  obtain rfl : len = 2 := zlen_eq hz rfl
  obtain ⟨v, h1, h2, e⟩ := zLd_inv hs
  obtain ⟨x, rfl⟩ := zvt_1 h2
  cases e
  exact zV_lload hz (by rw [zlk_map, h1]; rfl) (k n K P Ir L hR)
theorem zq_lload_n {j : Fin 4} {len r1 r2 r3 pc1 u : Nat} {ls ls1 : zLs} {st st1 : List Value} {I I1 : zM} (hE : zEok X sl dy E) (hR : zRel E n K P Ir L I) (hz : zl mi pc = some (.lload_n j, len, r1, r2, r3)) (hs : zstep sl dy mi pc (.lload_n j, len, r1, r2, r3) ls st I = some (.inl (pc1, ls1, st1, I1, u)))
    (k : ∀ (n' : Nat) (K' : zKT) (P' : zPT) (Ir' : zIT) (L' : zLT), zRel E n' K' P' Ir' L' I1 → zV l X (d + 1) bc bs mi pc1 (zmL (zEr E) ls1) (zmS (zEr E) st1) n' K' P' Ir' L' Post) : zV l X (d + 1) bc bs mi pc (zmL (zEr E) ls) (zmS (zEr E) st) n K P Ir L Post := by
  obtain rfl : len = 1 := zlen_eq hz rfl
  obtain ⟨v, h1, h2, e⟩ := zLd_inv hs
  obtain ⟨x, rfl⟩ := zvt_1 h2
  cases e
  exact zV_lload_n hz (by rw [zlk_map, h1]; rfl) (k n K P Ir L hR)
theorem zq_fload {j : Nat} {len r1 r2 r3 pc1 u : Nat} {ls ls1 : zLs} {st st1 : List Value} {I I1 : zM} (hE : zEok X sl dy E) (hR : zRel E n K P Ir L I) (hz : zl mi pc = some (.fload j, len, r1, r2, r3)) (hs : zstep sl dy mi pc (.fload j, len, r1, r2, r3) ls st I = some (.inl (pc1, ls1, st1, I1, u)))
    (k : ∀ (n' : Nat) (K' : zKT) (P' : zPT) (Ir' : zIT) (L' : zLT), zRel E n' K' P' Ir' L' I1 → zV l X (d + 1) bc bs mi pc1 (zmL (zEr E) ls1) (zmS (zEr E) st1) n' K' P' Ir' L' Post) : zV l X (d + 1) bc bs mi pc (zmL (zEr E) ls) (zmS (zEr E) st) n K P Ir L Post := by
  obtain rfl : len = 2 := zlen_eq hz rfl
  obtain ⟨v, h1, h2, e⟩ := zLd_inv hs
  obtain ⟨x, rfl⟩ := zvt_2 h2
  cases e
  exact zV_fload hz (by rw [zlk_map, h1]; rfl) (k n K P Ir L hR)
theorem zq_fload_n {j : Fin 4} {len r1 r2 r3 pc1 u : Nat} {ls ls1 : zLs} {st st1 : List Value} {I I1 : zM} (hE : zEok X sl dy E) (hR : zRel E n K P Ir L I) (hz : zl mi pc = some (.fload_n j, len, r1, r2, r3)) (hs : zstep sl dy mi pc (.fload_n j, len, r1, r2, r3) ls st I = some (.inl (pc1, ls1, st1, I1, u)))
    (k : ∀ (n' : Nat) (K' : zKT) (P' : zPT) (Ir' : zIT) (L' : zLT), zRel E n' K' P' Ir' L' I1 → zV l X (d + 1) bc bs mi pc1 (zmL (zEr E) ls1) (zmS (zEr E) st1) n' K' P' Ir' L' Post) : zV l X (d + 1) bc bs mi pc (zmL (zEr E) ls) (zmS (zEr E) st) n K P Ir L Post := by
  obtain rfl : len = 1 := zlen_eq hz rfl
  obtain ⟨v, h1, h2, e⟩ := zLd_inv hs
  obtain ⟨x, rfl⟩ := zvt_2 h2
  cases e
  exact zV_fload_n hz (by rw [zlk_map, h1]; rfl) (k n K P Ir L hR)
theorem zq_dload {j : Nat} {len r1 r2 r3 pc1 u : Nat} {ls ls1 : zLs} {st st1 : List Value} {I I1 : zM} (hE : zEok X sl dy E) (hR : zRel E n K P Ir L I) (hz : zl mi pc = some (.dload j, len, r1, r2, r3)) (hs : zstep sl dy mi pc (.dload j, len, r1, r2, r3) ls st I = some (.inl (pc1, ls1, st1, I1, u)))
    (k : ∀ (n' : Nat) (K' : zKT) (P' : zPT) (Ir' : zIT) (L' : zLT), zRel E n' K' P' Ir' L' I1 → zV l X (d + 1) bc bs mi pc1 (zmL (zEr E) ls1) (zmS (zEr E) st1) n' K' P' Ir' L' Post) : zV l X (d + 1) bc bs mi pc (zmL (zEr E) ls) (zmS (zEr E) st) n K P Ir L Post := by
  obtain rfl : len = 2 := zlen_eq hz rfl
  obtain ⟨v, h1, h2, e⟩ := zLd_inv hs
  obtain ⟨x, rfl⟩ := zvt_3 h2
  cases e
  exact zV_dload hz (by rw [zlk_map, h1]; rfl) (k n K P Ir L hR)
theorem zq_dload_n {j : Fin 4} {len r1 r2 r3 pc1 u : Nat} {ls ls1 : zLs} {st st1 : List Value} {I I1 : zM} (hE : zEok X sl dy E) (hR : zRel E n K P Ir L I) (hz : zl mi pc = some (.dload_n j, len, r1, r2, r3)) (hs : zstep sl dy mi pc (.dload_n j, len, r1, r2, r3) ls st I = some (.inl (pc1, ls1, st1, I1, u)))
    (k : ∀ (n' : Nat) (K' : zKT) (P' : zPT) (Ir' : zIT) (L' : zLT), zRel E n' K' P' Ir' L' I1 → zV l X (d + 1) bc bs mi pc1 (zmL (zEr E) ls1) (zmS (zEr E) st1) n' K' P' Ir' L' Post) : zV l X (d + 1) bc bs mi pc (zmL (zEr E) ls) (zmS (zEr E) st) n K P Ir L Post := by
  obtain rfl : len = 1 := zlen_eq hz rfl
  obtain ⟨v, h1, h2, e⟩ := zLd_inv hs
  obtain ⟨x, rfl⟩ := zvt_3 h2
  cases e
  exact zV_dload_n hz (by rw [zlk_map, h1]; rfl) (k n K P Ir L hR)
theorem zq_aload {j : Nat} {len r1 r2 r3 pc1 u : Nat} {ls ls1 : zLs} {st st1 : List Value} {I I1 : zM} (hE : zEok X sl dy E) (hR : zRel E n K P Ir L I) (hz : zl mi pc = some (.aload j, len, r1, r2, r3)) (hs : zstep sl dy mi pc (.aload j, len, r1, r2, r3) ls st I = some (.inl (pc1, ls1, st1, I1, u)))
    (k : ∀ (n' : Nat) (K' : zKT) (P' : zPT) (Ir' : zIT) (L' : zLT), zRel E n' K' P' Ir' L' I1 → zV l X (d + 1) bc bs mi pc1 (zmL (zEr E) ls1) (zmS (zEr E) st1) n' K' P' Ir' L' Post) : zV l X (d + 1) bc bs mi pc (zmL (zEr E) ls) (zmS (zEr E) st) n K P Ir L Post := by
  obtain rfl : len = 2 := zlen_eq hz rfl
  obtain ⟨v, h1, h2, e⟩ := zLd_inv hs
  obtain ⟨x, rfl⟩ := zvt_4 h2
  cases e
  exact zV_aload hz (by rw [zlk_map, h1]; rfl) (k n K P Ir L hR)
theorem zq_aload_n {j : Fin 4} {len r1 r2 r3 pc1 u : Nat} {ls ls1 : zLs} {st st1 : List Value} {I I1 : zM} (hE : zEok X sl dy E) (hR : zRel E n K P Ir L I) (hz : zl mi pc = some (.aload_n j, len, r1, r2, r3)) (hs : zstep sl dy mi pc (.aload_n j, len, r1, r2, r3) ls st I = some (.inl (pc1, ls1, st1, I1, u)))
    (k : ∀ (n' : Nat) (K' : zKT) (P' : zPT) (Ir' : zIT) (L' : zLT), zRel E n' K' P' Ir' L' I1 → zV l X (d + 1) bc bs mi pc1 (zmL (zEr E) ls1) (zmS (zEr E) st1) n' K' P' Ir' L' Post) : zV l X (d + 1) bc bs mi pc (zmL (zEr E) ls) (zmS (zEr E) st) n K P Ir L Post := by
  obtain rfl : len = 1 := zlen_eq hz rfl
  obtain ⟨v, h1, h2, e⟩ := zLd_inv hs
  obtain ⟨x, rfl⟩ := zvt_4 h2
  cases e
  exact zV_aload_n hz (by rw [zlk_map, h1]; rfl) (k n K P Ir L hR)
theorem zq_istore {j : Nat} {len r1 r2 r3 pc1 u : Nat} {ls ls1 : zLs} {st st1 : List Value} {I I1 : zM} (hE : zEok X sl dy E) (hR : zRel E n K P Ir L I) (hz : zl mi pc = some (.istore j, len, r1, r2, r3)) (hs : zstep sl dy mi pc (.istore j, len, r1, r2, r3) ls st I = some (.inl (pc1, ls1, st1, I1, u)))
    (k : ∀ (n' : Nat) (K' : zKT) (P' : zPT) (Ir' : zIT) (L' : zLT), zRel E n' K' P' Ir' L' I1 → zV l X (d + 1) bc bs mi pc1 (zmL (zEr E) ls1) (zmS (zEr E) st1) n' K' P' Ir' L' Post) : zV l X (d + 1) bc bs mi pc (zmL (zEr E) ls) (zmS (zEr E) st) n K P Ir L Post := by
  obtain rfl : len = 2 := zlen_eq hz rfl
  obtain ⟨v, r0, rfl, h2, h3, e⟩ := zSt_inv hs
  obtain ⟨x, rfl⟩ := zvt_0 h2
  cases e
  exact zV_istore hz (by have h4 := h3; simp at h4; omega) (zs1_map (zEr E) ls _ (.int x)) (k n K P Ir L hR)
theorem zq_istore_n {j : Fin 4} {len r1 r2 r3 pc1 u : Nat} {ls ls1 : zLs} {st st1 : List Value} {I I1 : zM} (hE : zEok X sl dy E) (hR : zRel E n K P Ir L I) (hz : zl mi pc = some (.istore_n j, len, r1, r2, r3)) (hs : zstep sl dy mi pc (.istore_n j, len, r1, r2, r3) ls st I = some (.inl (pc1, ls1, st1, I1, u)))
    (k : ∀ (n' : Nat) (K' : zKT) (P' : zPT) (Ir' : zIT) (L' : zLT), zRel E n' K' P' Ir' L' I1 → zV l X (d + 1) bc bs mi pc1 (zmL (zEr E) ls1) (zmS (zEr E) st1) n' K' P' Ir' L' Post) : zV l X (d + 1) bc bs mi pc (zmL (zEr E) ls) (zmS (zEr E) st) n K P Ir L Post := by
  obtain rfl : len = 1 := zlen_eq hz rfl
  obtain ⟨v, r0, rfl, h2, h3, e⟩ := zSt_inv hs
  obtain ⟨x, rfl⟩ := zvt_0 h2
  cases e
  exact zV_istore_n hz (by have h4 := h3; simp at h4; omega) (zs1_map (zEr E) ls _ (.int x)) (k n K P Ir L hR)
theorem zq_lstore {j : Nat} {len r1 r2 r3 pc1 u : Nat} {ls ls1 : zLs} {st st1 : List Value} {I I1 : zM} (hE : zEok X sl dy E) (hR : zRel E n K P Ir L I) (hz : zl mi pc = some (.lstore j, len, r1, r2, r3)) (hs : zstep sl dy mi pc (.lstore j, len, r1, r2, r3) ls st I = some (.inl (pc1, ls1, st1, I1, u)))
    (k : ∀ (n' : Nat) (K' : zKT) (P' : zPT) (Ir' : zIT) (L' : zLT), zRel E n' K' P' Ir' L' I1 → zV l X (d + 1) bc bs mi pc1 (zmL (zEr E) ls1) (zmS (zEr E) st1) n' K' P' Ir' L' Post) : zV l X (d + 1) bc bs mi pc (zmL (zEr E) ls) (zmS (zEr E) st) n K P Ir L Post := by
  obtain rfl : len = 2 := zlen_eq hz rfl
  obtain ⟨v, r0, rfl, h2, h3, e⟩ := zSt_inv hs
  obtain ⟨x, rfl⟩ := zvt_1 h2
  cases e
  exact zV_lstore hz (by have h4 := h3; simp at h4; omega) (zs2_map (zEr E) ls _ (.long x)) (k n K P Ir L hR)
theorem zq_lstore_n {j : Fin 4} {len r1 r2 r3 pc1 u : Nat} {ls ls1 : zLs} {st st1 : List Value} {I I1 : zM} (hE : zEok X sl dy E) (hR : zRel E n K P Ir L I) (hz : zl mi pc = some (.lstore_n j, len, r1, r2, r3)) (hs : zstep sl dy mi pc (.lstore_n j, len, r1, r2, r3) ls st I = some (.inl (pc1, ls1, st1, I1, u)))
    (k : ∀ (n' : Nat) (K' : zKT) (P' : zPT) (Ir' : zIT) (L' : zLT), zRel E n' K' P' Ir' L' I1 → zV l X (d + 1) bc bs mi pc1 (zmL (zEr E) ls1) (zmS (zEr E) st1) n' K' P' Ir' L' Post) : zV l X (d + 1) bc bs mi pc (zmL (zEr E) ls) (zmS (zEr E) st) n K P Ir L Post := by
  obtain rfl : len = 1 := zlen_eq hz rfl
  obtain ⟨v, r0, rfl, h2, h3, e⟩ := zSt_inv hs
  obtain ⟨x, rfl⟩ := zvt_1 h2
  cases e
  exact zV_lstore_n hz (by have h4 := h3; simp at h4; omega) (zs2_map (zEr E) ls _ (.long x)) (k n K P Ir L hR)
theorem zq_fstore {j : Nat} {len r1 r2 r3 pc1 u : Nat} {ls ls1 : zLs} {st st1 : List Value} {I I1 : zM} (hE : zEok X sl dy E) (hR : zRel E n K P Ir L I) (hz : zl mi pc = some (.fstore j, len, r1, r2, r3)) (hs : zstep sl dy mi pc (.fstore j, len, r1, r2, r3) ls st I = some (.inl (pc1, ls1, st1, I1, u)))
    (k : ∀ (n' : Nat) (K' : zKT) (P' : zPT) (Ir' : zIT) (L' : zLT), zRel E n' K' P' Ir' L' I1 → zV l X (d + 1) bc bs mi pc1 (zmL (zEr E) ls1) (zmS (zEr E) st1) n' K' P' Ir' L' Post) : zV l X (d + 1) bc bs mi pc (zmL (zEr E) ls) (zmS (zEr E) st) n K P Ir L Post := by
  obtain rfl : len = 2 := zlen_eq hz rfl
  obtain ⟨v, r0, rfl, h2, h3, e⟩ := zSt_inv hs
  obtain ⟨x, rfl⟩ := zvt_2 h2
  cases e
  exact zV_fstore hz (by have h4 := h3; simp at h4; omega) (zs1_map (zEr E) ls _ (.float x)) (k n K P Ir L hR)
theorem zq_fstore_n {j : Fin 4} {len r1 r2 r3 pc1 u : Nat} {ls ls1 : zLs} {st st1 : List Value} {I I1 : zM} (hE : zEok X sl dy E) (hR : zRel E n K P Ir L I) (hz : zl mi pc = some (.fstore_n j, len, r1, r2, r3)) (hs : zstep sl dy mi pc (.fstore_n j, len, r1, r2, r3) ls st I = some (.inl (pc1, ls1, st1, I1, u)))
    (k : ∀ (n' : Nat) (K' : zKT) (P' : zPT) (Ir' : zIT) (L' : zLT), zRel E n' K' P' Ir' L' I1 → zV l X (d + 1) bc bs mi pc1 (zmL (zEr E) ls1) (zmS (zEr E) st1) n' K' P' Ir' L' Post) : zV l X (d + 1) bc bs mi pc (zmL (zEr E) ls) (zmS (zEr E) st) n K P Ir L Post := by
  obtain rfl : len = 1 := zlen_eq hz rfl
  obtain ⟨v, r0, rfl, h2, h3, e⟩ := zSt_inv hs
  obtain ⟨x, rfl⟩ := zvt_2 h2
  cases e
  exact zV_fstore_n hz (by have h4 := h3; simp at h4; omega) (zs1_map (zEr E) ls _ (.float x)) (k n K P Ir L hR)
theorem zq_dstore {j : Nat} {len r1 r2 r3 pc1 u : Nat} {ls ls1 : zLs} {st st1 : List Value} {I I1 : zM} (hE : zEok X sl dy E) (hR : zRel E n K P Ir L I) (hz : zl mi pc = some (.dstore j, len, r1, r2, r3)) (hs : zstep sl dy mi pc (.dstore j, len, r1, r2, r3) ls st I = some (.inl (pc1, ls1, st1, I1, u)))
    (k : ∀ (n' : Nat) (K' : zKT) (P' : zPT) (Ir' : zIT) (L' : zLT), zRel E n' K' P' Ir' L' I1 → zV l X (d + 1) bc bs mi pc1 (zmL (zEr E) ls1) (zmS (zEr E) st1) n' K' P' Ir' L' Post) : zV l X (d + 1) bc bs mi pc (zmL (zEr E) ls) (zmS (zEr E) st) n K P Ir L Post := by
  obtain rfl : len = 2 := zlen_eq hz rfl
  obtain ⟨v, r0, rfl, h2, h3, e⟩ := zSt_inv hs
  obtain ⟨x, rfl⟩ := zvt_3 h2
  cases e
  exact zV_dstore hz (by have h4 := h3; simp at h4; omega) (zs2_map (zEr E) ls _ (.double x)) (k n K P Ir L hR)
theorem zq_dstore_n {j : Fin 4} {len r1 r2 r3 pc1 u : Nat} {ls ls1 : zLs} {st st1 : List Value} {I I1 : zM} (hE : zEok X sl dy E) (hR : zRel E n K P Ir L I) (hz : zl mi pc = some (.dstore_n j, len, r1, r2, r3)) (hs : zstep sl dy mi pc (.dstore_n j, len, r1, r2, r3) ls st I = some (.inl (pc1, ls1, st1, I1, u)))
    (k : ∀ (n' : Nat) (K' : zKT) (P' : zPT) (Ir' : zIT) (L' : zLT), zRel E n' K' P' Ir' L' I1 → zV l X (d + 1) bc bs mi pc1 (zmL (zEr E) ls1) (zmS (zEr E) st1) n' K' P' Ir' L' Post) : zV l X (d + 1) bc bs mi pc (zmL (zEr E) ls) (zmS (zEr E) st) n K P Ir L Post := by
  obtain rfl : len = 1 := zlen_eq hz rfl
  obtain ⟨v, r0, rfl, h2, h3, e⟩ := zSt_inv hs
  obtain ⟨x, rfl⟩ := zvt_3 h2
  cases e
  exact zV_dstore_n hz (by have h4 := h3; simp at h4; omega) (zs2_map (zEr E) ls _ (.double x)) (k n K P Ir L hR)
theorem zq_iinc {j : Nat} {c : Int} {len r1 r2 r3 pc1 u : Nat} {ls ls1 : zLs} {st st1 : List Value} {I I1 : zM} (hE : zEok X sl dy E) (hR : zRel E n K P Ir L I) (hz : zl mi pc = some (.iinc j c, len, r1, r2, r3)) (hs : zstep sl dy mi pc (.iinc j c, len, r1, r2, r3) ls st I = some (.inl (pc1, ls1, st1, I1, u)))
    (k : ∀ (n' : Nat) (K' : zKT) (P' : zPT) (Ir' : zIT) (L' : zLT), zRel E n' K' P' Ir' L' I1 → zV l X (d + 1) bc bs mi pc1 (zmL (zEr E) ls1) (zmS (zEr E) st1) n' K' P' Ir' L' Post) : zV l X (d + 1) bc bs mi pc (zmL (zEr E) ls) (zmS (zEr E) st) n K P Ir L Post := by
  obtain rfl : len = 3 := zlen_eq hz rfl
  simp only [zstep] at hs
  split at hs
  · rename_i x hx
    split at hs
    · rename_i hb
      cases hs
      exact zV_iinc hz (by rw [zlk_map, hx]; rfl) rfl (Nat.le_of_ble_eq_true hb) (zs1_map (zEr E) ls _ (.int _)) (k n K P Ir L hR)
    · cases hs
  · cases hs
theorem zq_iadd {len r1 r2 r3 pc1 u : Nat} {ls ls1 : zLs} {st st1 : List Value} {I I1 : zM} (hE : zEok X sl dy E) (hR : zRel E n K P Ir L I) (hz : zl mi pc = some (.iadd, len, r1, r2, r3)) (hs : zstep sl dy mi pc (.iadd, len, r1, r2, r3) ls st I = some (.inl (pc1, ls1, st1, I1, u)))
    (k : ∀ (n' : Nat) (K' : zKT) (P' : zPT) (Ir' : zIT) (L' : zLT), zRel E n' K' P' Ir' L' I1 → zV l X (d + 1) bc bs mi pc1 (zmL (zEr E) ls1) (zmS (zEr E) st1) n' K' P' Ir' L' Post) : zV l X (d + 1) bc bs mi pc (zmL (zEr E) ls) (zmS (zEr E) st) n K P Ir L Post := by
  obtain rfl : len = 1 := zlen_eq hz rfl
  obtain ⟨x, y, r0, rfl, e⟩ := zi2_inv hs
  cases e
  exact zV_iadd hz (k n K P Ir L hR)
theorem zq_isub {len r1 r2 r3 pc1 u : Nat} {ls ls1 : zLs} {st st1 : List Value} {I I1 : zM} (hE : zEok X sl dy E) (hR : zRel E n K P Ir L I) (hz : zl mi pc = some (.isub, len, r1, r2, r3)) (hs : zstep sl dy mi pc (.isub, len, r1, r2, r3) ls st I = some (.inl (pc1, ls1, st1, I1, u)))
    (k : ∀ (n' : Nat) (K' : zKT) (P' : zPT) (Ir' : zIT) (L' : zLT), zRel E n' K' P' Ir' L' I1 → zV l X (d + 1) bc bs mi pc1 (zmL (zEr E) ls1) (zmS (zEr E) st1) n' K' P' Ir' L' Post) : zV l X (d + 1) bc bs mi pc (zmL (zEr E) ls) (zmS (zEr E) st) n K P Ir L Post := by
  obtain rfl : len = 1 := zlen_eq hz rfl
  obtain ⟨x, y, r0, rfl, e⟩ := zi2_inv hs
  cases e
  exact zV_isub hz (k n K P Ir L hR)
theorem zq_imul {len r1 r2 r3 pc1 u : Nat} {ls ls1 : zLs} {st st1 : List Value} {I I1 : zM} (hE : zEok X sl dy E) (hR : zRel E n K P Ir L I) (hz : zl mi pc = some (.imul, len, r1, r2, r3)) (hs : zstep sl dy mi pc (.imul, len, r1, r2, r3) ls st I = some (.inl (pc1, ls1, st1, I1, u)))
    (k : ∀ (n' : Nat) (K' : zKT) (P' : zPT) (Ir' : zIT) (L' : zLT), zRel E n' K' P' Ir' L' I1 → zV l X (d + 1) bc bs mi pc1 (zmL (zEr E) ls1) (zmS (zEr E) st1) n' K' P' Ir' L' Post) : zV l X (d + 1) bc bs mi pc (zmL (zEr E) ls) (zmS (zEr E) st) n K P Ir L Post := by
  obtain rfl : len = 1 := zlen_eq hz rfl
  obtain ⟨x, y, r0, rfl, e⟩ := zi2_inv hs
  cases e
  exact zV_imul hz (k n K P Ir L hR)
theorem zq_iand {len r1 r2 r3 pc1 u : Nat} {ls ls1 : zLs} {st st1 : List Value} {I I1 : zM} (hE : zEok X sl dy E) (hR : zRel E n K P Ir L I) (hz : zl mi pc = some (.iand, len, r1, r2, r3)) (hs : zstep sl dy mi pc (.iand, len, r1, r2, r3) ls st I = some (.inl (pc1, ls1, st1, I1, u)))
    (k : ∀ (n' : Nat) (K' : zKT) (P' : zPT) (Ir' : zIT) (L' : zLT), zRel E n' K' P' Ir' L' I1 → zV l X (d + 1) bc bs mi pc1 (zmL (zEr E) ls1) (zmS (zEr E) st1) n' K' P' Ir' L' Post) : zV l X (d + 1) bc bs mi pc (zmL (zEr E) ls) (zmS (zEr E) st) n K P Ir L Post := by
  obtain rfl : len = 1 := zlen_eq hz rfl
  obtain ⟨x, y, r0, rfl, e⟩ := zi2_inv hs
  cases e
  exact zV_iand hz (k n K P Ir L hR)
theorem zq_ior {len r1 r2 r3 pc1 u : Nat} {ls ls1 : zLs} {st st1 : List Value} {I I1 : zM} (hE : zEok X sl dy E) (hR : zRel E n K P Ir L I) (hz : zl mi pc = some (.ior, len, r1, r2, r3)) (hs : zstep sl dy mi pc (.ior, len, r1, r2, r3) ls st I = some (.inl (pc1, ls1, st1, I1, u)))
    (k : ∀ (n' : Nat) (K' : zKT) (P' : zPT) (Ir' : zIT) (L' : zLT), zRel E n' K' P' Ir' L' I1 → zV l X (d + 1) bc bs mi pc1 (zmL (zEr E) ls1) (zmS (zEr E) st1) n' K' P' Ir' L' Post) : zV l X (d + 1) bc bs mi pc (zmL (zEr E) ls) (zmS (zEr E) st) n K P Ir L Post := by
  obtain rfl : len = 1 := zlen_eq hz rfl
  obtain ⟨x, y, r0, rfl, e⟩ := zi2_inv hs
  cases e
  exact zV_ior hz (k n K P Ir L hR)
theorem zq_ixor {len r1 r2 r3 pc1 u : Nat} {ls ls1 : zLs} {st st1 : List Value} {I I1 : zM} (hE : zEok X sl dy E) (hR : zRel E n K P Ir L I) (hz : zl mi pc = some (.ixor, len, r1, r2, r3)) (hs : zstep sl dy mi pc (.ixor, len, r1, r2, r3) ls st I = some (.inl (pc1, ls1, st1, I1, u)))
    (k : ∀ (n' : Nat) (K' : zKT) (P' : zPT) (Ir' : zIT) (L' : zLT), zRel E n' K' P' Ir' L' I1 → zV l X (d + 1) bc bs mi pc1 (zmL (zEr E) ls1) (zmS (zEr E) st1) n' K' P' Ir' L' Post) : zV l X (d + 1) bc bs mi pc (zmL (zEr E) ls) (zmS (zEr E) st) n K P Ir L Post := by
  obtain rfl : len = 1 := zlen_eq hz rfl
  obtain ⟨x, y, r0, rfl, e⟩ := zi2_inv hs
  cases e
  exact zV_ixor hz (k n K P Ir L hR)
theorem zq_ishl {len r1 r2 r3 pc1 u : Nat} {ls ls1 : zLs} {st st1 : List Value} {I I1 : zM} (hE : zEok X sl dy E) (hR : zRel E n K P Ir L I) (hz : zl mi pc = some (.ishl, len, r1, r2, r3)) (hs : zstep sl dy mi pc (.ishl, len, r1, r2, r3) ls st I = some (.inl (pc1, ls1, st1, I1, u)))
    (k : ∀ (n' : Nat) (K' : zKT) (P' : zPT) (Ir' : zIT) (L' : zLT), zRel E n' K' P' Ir' L' I1 → zV l X (d + 1) bc bs mi pc1 (zmL (zEr E) ls1) (zmS (zEr E) st1) n' K' P' Ir' L' Post) : zV l X (d + 1) bc bs mi pc (zmL (zEr E) ls) (zmS (zEr E) st) n K P Ir L Post := by
  obtain rfl : len = 1 := zlen_eq hz rfl
  obtain ⟨x, y, r0, rfl, e⟩ := zi2_inv hs
  cases e
  exact zV_ishl hz (k n K P Ir L hR)
theorem zq_ishr {len r1 r2 r3 pc1 u : Nat} {ls ls1 : zLs} {st st1 : List Value} {I I1 : zM} (hE : zEok X sl dy E) (hR : zRel E n K P Ir L I) (hz : zl mi pc = some (.ishr, len, r1, r2, r3)) (hs : zstep sl dy mi pc (.ishr, len, r1, r2, r3) ls st I = some (.inl (pc1, ls1, st1, I1, u)))
    (k : ∀ (n' : Nat) (K' : zKT) (P' : zPT) (Ir' : zIT) (L' : zLT), zRel E n' K' P' Ir' L' I1 → zV l X (d + 1) bc bs mi pc1 (zmL (zEr E) ls1) (zmS (zEr E) st1) n' K' P' Ir' L' Post) : zV l X (d + 1) bc bs mi pc (zmL (zEr E) ls) (zmS (zEr E) st) n K P Ir L Post := by
  obtain rfl : len = 1 := zlen_eq hz rfl
  obtain ⟨x, y, r0, rfl, e⟩ := zi2_inv hs
  cases e
  exact zV_ishr hz (k n K P Ir L hR)
theorem zq_iushr {len r1 r2 r3 pc1 u : Nat} {ls ls1 : zLs} {st st1 : List Value} {I I1 : zM} (hE : zEok X sl dy E) (hR : zRel E n K P Ir L I) (hz : zl mi pc = some (.iushr, len, r1, r2, r3)) (hs : zstep sl dy mi pc (.iushr, len, r1, r2, r3) ls st I = some (.inl (pc1, ls1, st1, I1, u)))
    (k : ∀ (n' : Nat) (K' : zKT) (P' : zPT) (Ir' : zIT) (L' : zLT), zRel E n' K' P' Ir' L' I1 → zV l X (d + 1) bc bs mi pc1 (zmL (zEr E) ls1) (zmS (zEr E) st1) n' K' P' Ir' L' Post) : zV l X (d + 1) bc bs mi pc (zmL (zEr E) ls) (zmS (zEr E) st) n K P Ir L Post := by
  obtain rfl : len = 1 := zlen_eq hz rfl
  obtain ⟨x, y, r0, rfl, e⟩ := zi2_inv hs
  cases e
  exact zV_iushr hz rfl (k n K P Ir L hR)
theorem zq_idiv {len r1 r2 r3 pc1 u : Nat} {ls ls1 : zLs} {st st1 : List Value} {I I1 : zM} (hE : zEok X sl dy E) (hR : zRel E n K P Ir L I) (hz : zl mi pc = some (.idiv, len, r1, r2, r3)) (hs : zstep sl dy mi pc (.idiv, len, r1, r2, r3) ls st I = some (.inl (pc1, ls1, st1, I1, u)))
    (k : ∀ (n' : Nat) (K' : zKT) (P' : zPT) (Ir' : zIT) (L' : zLT), zRel E n' K' P' Ir' L' I1 → zV l X (d + 1) bc bs mi pc1 (zmL (zEr E) ls1) (zmS (zEr E) st1) n' K' P' Ir' L' Post) : zV l X (d + 1) bc bs mi pc (zmL (zEr E) ls) (zmS (zEr E) st) n K P Ir L Post := by
  obtain rfl : len = 1 := zlen_eq hz rfl
  simp only [zstep] at hs
  split at hs
  · split at hs
    · rename_i hd
      cases hs
      exact zV_idiv hz (of_decide_eq_false hd) (k n K P Ir L hR)
    · cases hs
  · cases hs
theorem zq_irem {len r1 r2 r3 pc1 u : Nat} {ls ls1 : zLs} {st st1 : List Value} {I I1 : zM} (hE : zEok X sl dy E) (hR : zRel E n K P Ir L I) (hz : zl mi pc = some (.irem, len, r1, r2, r3)) (hs : zstep sl dy mi pc (.irem, len, r1, r2, r3) ls st I = some (.inl (pc1, ls1, st1, I1, u)))
    (k : ∀ (n' : Nat) (K' : zKT) (P' : zPT) (Ir' : zIT) (L' : zLT), zRel E n' K' P' Ir' L' I1 → zV l X (d + 1) bc bs mi pc1 (zmL (zEr E) ls1) (zmS (zEr E) st1) n' K' P' Ir' L' Post) : zV l X (d + 1) bc bs mi pc (zmL (zEr E) ls) (zmS (zEr E) st) n K P Ir L Post := by
  obtain rfl : len = 1 := zlen_eq hz rfl
  simp only [zstep] at hs
  split at hs
  · split at hs
    · rename_i hd
      cases hs
      exact zV_irem hz (of_decide_eq_false hd) (k n K P Ir L hR)
    · cases hs
  · cases hs
theorem zq_ladd {len r1 r2 r3 pc1 u : Nat} {ls ls1 : zLs} {st st1 : List Value} {I I1 : zM} (hE : zEok X sl dy E) (hR : zRel E n K P Ir L I) (hz : zl mi pc = some (.ladd, len, r1, r2, r3)) (hs : zstep sl dy mi pc (.ladd, len, r1, r2, r3) ls st I = some (.inl (pc1, ls1, st1, I1, u)))
    (k : ∀ (n' : Nat) (K' : zKT) (P' : zPT) (Ir' : zIT) (L' : zLT), zRel E n' K' P' Ir' L' I1 → zV l X (d + 1) bc bs mi pc1 (zmL (zEr E) ls1) (zmS (zEr E) st1) n' K' P' Ir' L' Post) : zV l X (d + 1) bc bs mi pc (zmL (zEr E) ls) (zmS (zEr E) st) n K P Ir L Post := by
  obtain rfl : len = 1 := zlen_eq hz rfl
  obtain ⟨x, y, r0, rfl, e⟩ := zl2_inv hs
  cases e
  exact zV_ladd hz (k n K P Ir L hR)
theorem zq_lmul {len r1 r2 r3 pc1 u : Nat} {ls ls1 : zLs} {st st1 : List Value} {I I1 : zM} (hE : zEok X sl dy E) (hR : zRel E n K P Ir L I) (hz : zl mi pc = some (.lmul, len, r1, r2, r3)) (hs : zstep sl dy mi pc (.lmul, len, r1, r2, r3) ls st I = some (.inl (pc1, ls1, st1, I1, u)))
    (k : ∀ (n' : Nat) (K' : zKT) (P' : zPT) (Ir' : zIT) (L' : zLT), zRel E n' K' P' Ir' L' I1 → zV l X (d + 1) bc bs mi pc1 (zmL (zEr E) ls1) (zmS (zEr E) st1) n' K' P' Ir' L' Post) : zV l X (d + 1) bc bs mi pc (zmL (zEr E) ls) (zmS (zEr E) st) n K P Ir L Post := by
  obtain rfl : len = 1 := zlen_eq hz rfl
  obtain ⟨x, y, r0, rfl, e⟩ := zl2_inv hs
  cases e
  exact zV_lmul hz (k n K P Ir L hR)
theorem zq_lor {len r1 r2 r3 pc1 u : Nat} {ls ls1 : zLs} {st st1 : List Value} {I I1 : zM} (hE : zEok X sl dy E) (hR : zRel E n K P Ir L I) (hz : zl mi pc = some (.lor, len, r1, r2, r3)) (hs : zstep sl dy mi pc (.lor, len, r1, r2, r3) ls st I = some (.inl (pc1, ls1, st1, I1, u)))
    (k : ∀ (n' : Nat) (K' : zKT) (P' : zPT) (Ir' : zIT) (L' : zLT), zRel E n' K' P' Ir' L' I1 → zV l X (d + 1) bc bs mi pc1 (zmL (zEr E) ls1) (zmS (zEr E) st1) n' K' P' Ir' L' Post) : zV l X (d + 1) bc bs mi pc (zmL (zEr E) ls) (zmS (zEr E) st) n K P Ir L Post := by
  obtain rfl : len = 1 := zlen_eq hz rfl
  obtain ⟨x, y, r0, rfl, e⟩ := zl2_inv hs
  cases e
  exact zV_lor hz (k n K P Ir L hR)
theorem zq_lxor {len r1 r2 r3 pc1 u : Nat} {ls ls1 : zLs} {st st1 : List Value} {I I1 : zM} (hE : zEok X sl dy E) (hR : zRel E n K P Ir L I) (hz : zl mi pc = some (.lxor, len, r1, r2, r3)) (hs : zstep sl dy mi pc (.lxor, len, r1, r2, r3) ls st I = some (.inl (pc1, ls1, st1, I1, u)))
    (k : ∀ (n' : Nat) (K' : zKT) (P' : zPT) (Ir' : zIT) (L' : zLT), zRel E n' K' P' Ir' L' I1 → zV l X (d + 1) bc bs mi pc1 (zmL (zEr E) ls1) (zmS (zEr E) st1) n' K' P' Ir' L' Post) : zV l X (d + 1) bc bs mi pc (zmL (zEr E) ls) (zmS (zEr E) st) n K P Ir L Post := by
  obtain rfl : len = 1 := zlen_eq hz rfl
  obtain ⟨x, y, r0, rfl, e⟩ := zl2_inv hs
  cases e
  exact zV_lxor hz (k n K P Ir L hR)
theorem zq_ineg {len r1 r2 r3 pc1 u : Nat} {ls ls1 : zLs} {st st1 : List Value} {I I1 : zM} (hE : zEok X sl dy E) (hR : zRel E n K P Ir L I) (hz : zl mi pc = some (.ineg, len, r1, r2, r3)) (hs : zstep sl dy mi pc (.ineg, len, r1, r2, r3) ls st I = some (.inl (pc1, ls1, st1, I1, u)))
    (k : ∀ (n' : Nat) (K' : zKT) (P' : zPT) (Ir' : zIT) (L' : zLT), zRel E n' K' P' Ir' L' I1 → zV l X (d + 1) bc bs mi pc1 (zmL (zEr E) ls1) (zmS (zEr E) st1) n' K' P' Ir' L' Post) : zV l X (d + 1) bc bs mi pc (zmL (zEr E) ls) (zmS (zEr E) st) n K P Ir L Post := by
  obtain rfl : len = 1 := zlen_eq hz rfl
  simp only [zstep] at hs
  split at hs
  · cases hs; exact zV_ineg hz (k n K P Ir L hR)
  · cases hs
theorem zq_lshl {len r1 r2 r3 pc1 u : Nat} {ls ls1 : zLs} {st st1 : List Value} {I I1 : zM} (hE : zEok X sl dy E) (hR : zRel E n K P Ir L I) (hz : zl mi pc = some (.lshl, len, r1, r2, r3)) (hs : zstep sl dy mi pc (.lshl, len, r1, r2, r3) ls st I = some (.inl (pc1, ls1, st1, I1, u)))
    (k : ∀ (n' : Nat) (K' : zKT) (P' : zPT) (Ir' : zIT) (L' : zLT), zRel E n' K' P' Ir' L' I1 → zV l X (d + 1) bc bs mi pc1 (zmL (zEr E) ls1) (zmS (zEr E) st1) n' K' P' Ir' L' Post) : zV l X (d + 1) bc bs mi pc (zmL (zEr E) ls) (zmS (zEr E) st) n K P Ir L Post := by
  obtain rfl : len = 1 := zlen_eq hz rfl
  simp only [zstep] at hs
  split at hs
  · cases hs; exact zV_lshl hz (k n K P Ir L hR)
  · cases hs
theorem zq_lushr {len r1 r2 r3 pc1 u : Nat} {ls ls1 : zLs} {st st1 : List Value} {I I1 : zM} (hE : zEok X sl dy E) (hR : zRel E n K P Ir L I) (hz : zl mi pc = some (.lushr, len, r1, r2, r3)) (hs : zstep sl dy mi pc (.lushr, len, r1, r2, r3) ls st I = some (.inl (pc1, ls1, st1, I1, u)))
    (k : ∀ (n' : Nat) (K' : zKT) (P' : zPT) (Ir' : zIT) (L' : zLT), zRel E n' K' P' Ir' L' I1 → zV l X (d + 1) bc bs mi pc1 (zmL (zEr E) ls1) (zmS (zEr E) st1) n' K' P' Ir' L' Post) : zV l X (d + 1) bc bs mi pc (zmL (zEr E) ls) (zmS (zEr E) st) n K P Ir L Post := by
  obtain rfl : len = 1 := zlen_eq hz rfl
  simp only [zstep] at hs
  split at hs
  · cases hs; exact zV_lushr hz (k n K P Ir L hR)
  · cases hs
theorem zq_i2l {len r1 r2 r3 pc1 u : Nat} {ls ls1 : zLs} {st st1 : List Value} {I I1 : zM} (hE : zEok X sl dy E) (hR : zRel E n K P Ir L I) (hz : zl mi pc = some (.i2l, len, r1, r2, r3)) (hs : zstep sl dy mi pc (.i2l, len, r1, r2, r3) ls st I = some (.inl (pc1, ls1, st1, I1, u)))
    (k : ∀ (n' : Nat) (K' : zKT) (P' : zPT) (Ir' : zIT) (L' : zLT), zRel E n' K' P' Ir' L' I1 → zV l X (d + 1) bc bs mi pc1 (zmL (zEr E) ls1) (zmS (zEr E) st1) n' K' P' Ir' L' Post) : zV l X (d + 1) bc bs mi pc (zmL (zEr E) ls) (zmS (zEr E) st) n K P Ir L Post := by
  obtain rfl : len = 1 := zlen_eq hz rfl
  simp only [zstep] at hs
  split at hs
  · cases hs; exact zV_i2l hz (k n K P Ir L hR)
  · cases hs
theorem zq_i2f {len r1 r2 r3 pc1 u : Nat} {ls ls1 : zLs} {st st1 : List Value} {I I1 : zM} (hE : zEok X sl dy E) (hR : zRel E n K P Ir L I) (hz : zl mi pc = some (.i2f, len, r1, r2, r3)) (hs : zstep sl dy mi pc (.i2f, len, r1, r2, r3) ls st I = some (.inl (pc1, ls1, st1, I1, u)))
    (k : ∀ (n' : Nat) (K' : zKT) (P' : zPT) (Ir' : zIT) (L' : zLT), zRel E n' K' P' Ir' L' I1 → zV l X (d + 1) bc bs mi pc1 (zmL (zEr E) ls1) (zmS (zEr E) st1) n' K' P' Ir' L' Post) : zV l X (d + 1) bc bs mi pc (zmL (zEr E) ls) (zmS (zEr E) st) n K P Ir L Post := by
  obtain rfl : len = 1 := zlen_eq hz rfl
  simp only [zstep] at hs
  split at hs
  · cases hs; exact zV_i2f hz (k n K P Ir L hR)
  · cases hs
theorem zq_i2d {len r1 r2 r3 pc1 u : Nat} {ls ls1 : zLs} {st st1 : List Value} {I I1 : zM} (hE : zEok X sl dy E) (hR : zRel E n K P Ir L I) (hz : zl mi pc = some (.i2d, len, r1, r2, r3)) (hs : zstep sl dy mi pc (.i2d, len, r1, r2, r3) ls st I = some (.inl (pc1, ls1, st1, I1, u)))
    (k : ∀ (n' : Nat) (K' : zKT) (P' : zPT) (Ir' : zIT) (L' : zLT), zRel E n' K' P' Ir' L' I1 → zV l X (d + 1) bc bs mi pc1 (zmL (zEr E) ls1) (zmS (zEr E) st1) n' K' P' Ir' L' Post) : zV l X (d + 1) bc bs mi pc (zmL (zEr E) ls) (zmS (zEr E) st) n K P Ir L Post := by
  obtain rfl : len = 1 := zlen_eq hz rfl
  simp only [zstep] at hs
  split at hs
  · cases hs; exact zV_i2d hz (k n K P Ir L hR)
  · cases hs
theorem zq_f2i {len r1 r2 r3 pc1 u : Nat} {ls ls1 : zLs} {st st1 : List Value} {I I1 : zM} (hE : zEok X sl dy E) (hR : zRel E n K P Ir L I) (hz : zl mi pc = some (.f2i, len, r1, r2, r3)) (hs : zstep sl dy mi pc (.f2i, len, r1, r2, r3) ls st I = some (.inl (pc1, ls1, st1, I1, u)))
    (k : ∀ (n' : Nat) (K' : zKT) (P' : zPT) (Ir' : zIT) (L' : zLT), zRel E n' K' P' Ir' L' I1 → zV l X (d + 1) bc bs mi pc1 (zmL (zEr E) ls1) (zmS (zEr E) st1) n' K' P' Ir' L' Post) : zV l X (d + 1) bc bs mi pc (zmL (zEr E) ls) (zmS (zEr E) st) n K P Ir L Post := by
  obtain rfl : len = 1 := zlen_eq hz rfl
  simp only [zstep] at hs
  split at hs
  · cases hs; exact zV_f2i hz (k n K P Ir L hR)
  · cases hs
theorem zq_d2l {len r1 r2 r3 pc1 u : Nat} {ls ls1 : zLs} {st st1 : List Value} {I I1 : zM} (hE : zEok X sl dy E) (hR : zRel E n K P Ir L I) (hz : zl mi pc = some (.d2l, len, r1, r2, r3)) (hs : zstep sl dy mi pc (.d2l, len, r1, r2, r3) ls st I = some (.inl (pc1, ls1, st1, I1, u)))
    (k : ∀ (n' : Nat) (K' : zKT) (P' : zPT) (Ir' : zIT) (L' : zLT), zRel E n' K' P' Ir' L' I1 → zV l X (d + 1) bc bs mi pc1 (zmL (zEr E) ls1) (zmS (zEr E) st1) n' K' P' Ir' L' Post) : zV l X (d + 1) bc bs mi pc (zmL (zEr E) ls) (zmS (zEr E) st) n K P Ir L Post := by
  obtain rfl : len = 1 := zlen_eq hz rfl
  simp only [zstep] at hs
  split at hs
  · cases hs; exact zV_d2l hz (k n K P Ir L hR)
  · cases hs
theorem zq_lcmp {len r1 r2 r3 pc1 u : Nat} {ls ls1 : zLs} {st st1 : List Value} {I I1 : zM} (hE : zEok X sl dy E) (hR : zRel E n K P Ir L I) (hz : zl mi pc = some (.lcmp, len, r1, r2, r3)) (hs : zstep sl dy mi pc (.lcmp, len, r1, r2, r3) ls st I = some (.inl (pc1, ls1, st1, I1, u)))
    (k : ∀ (n' : Nat) (K' : zKT) (P' : zPT) (Ir' : zIT) (L' : zLT), zRel E n' K' P' Ir' L' I1 → zV l X (d + 1) bc bs mi pc1 (zmL (zEr E) ls1) (zmS (zEr E) st1) n' K' P' Ir' L' Post) : zV l X (d + 1) bc bs mi pc (zmL (zEr E) ls) (zmS (zEr E) st) n K P Ir L Post := by
  obtain rfl : len = 1 := zlen_eq hz rfl
  simp only [zstep] at hs
  split at hs
  · cases hs; exact zV_lcmp hz (k n K P Ir L hR)
  · cases hs
theorem zq_i2c {len r1 r2 r3 pc1 u : Nat} {ls ls1 : zLs} {st st1 : List Value} {I I1 : zM} (hE : zEok X sl dy E) (hR : zRel E n K P Ir L I) (hz : zl mi pc = some (.i2c, len, r1, r2, r3)) (hs : zstep sl dy mi pc (.i2c, len, r1, r2, r3) ls st I = some (.inl (pc1, ls1, st1, I1, u)))
    (k : ∀ (n' : Nat) (K' : zKT) (P' : zPT) (Ir' : zIT) (L' : zLT), zRel E n' K' P' Ir' L' I1 → zV l X (d + 1) bc bs mi pc1 (zmL (zEr E) ls1) (zmS (zEr E) st1) n' K' P' Ir' L' Post) : zV l X (d + 1) bc bs mi pc (zmL (zEr E) ls) (zmS (zEr E) st) n K P Ir L Post := by
  obtain rfl : len = 1 := zlen_eq hz rfl
  simp only [zstep] at hs
  split at hs
  · cases hs; exact zV_i2c hz rfl (k n K P Ir L hR)
  · cases hs
theorem zq_fcmp {c : CmpOp} {len r1 r2 r3 pc1 u : Nat} {ls ls1 : zLs} {st st1 : List Value} {I I1 : zM} (hE : zEok X sl dy E) (hR : zRel E n K P Ir L I) (hz : zl mi pc = some (.fcmp c, len, r1, r2, r3)) (hs : zstep sl dy mi pc (.fcmp c, len, r1, r2, r3) ls st I = some (.inl (pc1, ls1, st1, I1, u)))
    (k : ∀ (n' : Nat) (K' : zKT) (P' : zPT) (Ir' : zIT) (L' : zLT), zRel E n' K' P' Ir' L' I1 → zV l X (d + 1) bc bs mi pc1 (zmL (zEr E) ls1) (zmS (zEr E) st1) n' K' P' Ir' L' Post) : zV l X (d + 1) bc bs mi pc (zmL (zEr E) ls) (zmS (zEr E) st) n K P Ir L Post := by
  obtain rfl : len = 1 := zlen_eq hz rfl
  simp only [zstep] at hs
  split at hs
  · cases hs; exact zV_fcmp hz (k n K P Ir L hR)
  · cases hs
theorem zq_dcmp {c : CmpOp} {len r1 r2 r3 pc1 u : Nat} {ls ls1 : zLs} {st st1 : List Value} {I I1 : zM} (hE : zEok X sl dy E) (hR : zRel E n K P Ir L I) (hz : zl mi pc = some (.dcmp c, len, r1, r2, r3)) (hs : zstep sl dy mi pc (.dcmp c, len, r1, r2, r3) ls st I = some (.inl (pc1, ls1, st1, I1, u)))
    (k : ∀ (n' : Nat) (K' : zKT) (P' : zPT) (Ir' : zIT) (L' : zLT), zRel E n' K' P' Ir' L' I1 → zV l X (d + 1) bc bs mi pc1 (zmL (zEr E) ls1) (zmS (zEr E) st1) n' K' P' Ir' L' Post) : zV l X (d + 1) bc bs mi pc (zmL (zEr E) ls) (zmS (zEr E) st) n K P Ir L Post := by
  obtain rfl : len = 1 := zlen_eq hz rfl
  simp only [zstep] at hs
  split at hs
  · cases hs; exact zV_dcmp hz (k n K P Ir L hR)
  · cases hs
theorem zq_fmul {len r1 r2 r3 pc1 u : Nat} {ls ls1 : zLs} {st st1 : List Value} {I I1 : zM} (hE : zEok X sl dy E) (hR : zRel E n K P Ir L I) (hz : zl mi pc = some (.fmul, len, r1, r2, r3)) (hs : zstep sl dy mi pc (.fmul, len, r1, r2, r3) ls st I = some (.inl (pc1, ls1, st1, I1, u)))
    (k : ∀ (n' : Nat) (K' : zKT) (P' : zPT) (Ir' : zIT) (L' : zLT), zRel E n' K' P' Ir' L' I1 → zV l X (d + 1) bc bs mi pc1 (zmL (zEr E) ls1) (zmS (zEr E) st1) n' K' P' Ir' L' Post) : zV l X (d + 1) bc bs mi pc (zmL (zEr E) ls) (zmS (zEr E) st) n K P Ir L Post := by
  obtain rfl : len = 1 := zlen_eq hz rfl
  obtain ⟨x, y, r0, rfl, hn, e⟩ := zf2_inv hs
  cases e
  exact zV_fmul hz hn (k n K P Ir L hR)
theorem zq_fdiv {len r1 r2 r3 pc1 u : Nat} {ls ls1 : zLs} {st st1 : List Value} {I I1 : zM} (hE : zEok X sl dy E) (hR : zRel E n K P Ir L I) (hz : zl mi pc = some (.fdiv, len, r1, r2, r3)) (hs : zstep sl dy mi pc (.fdiv, len, r1, r2, r3) ls st I = some (.inl (pc1, ls1, st1, I1, u)))
    (k : ∀ (n' : Nat) (K' : zKT) (P' : zPT) (Ir' : zIT) (L' : zLT), zRel E n' K' P' Ir' L' I1 → zV l X (d + 1) bc bs mi pc1 (zmL (zEr E) ls1) (zmS (zEr E) st1) n' K' P' Ir' L' Post) : zV l X (d + 1) bc bs mi pc (zmL (zEr E) ls) (zmS (zEr E) st) n K P Ir L Post := by
  obtain rfl : len = 1 := zlen_eq hz rfl
  obtain ⟨x, y, r0, rfl, hn, e⟩ := zf2_inv hs
  cases e
  exact zV_fdiv hz hn (k n K P Ir L hR)
theorem zq_fsub {len r1 r2 r3 pc1 u : Nat} {ls ls1 : zLs} {st st1 : List Value} {I I1 : zM} (hE : zEok X sl dy E) (hR : zRel E n K P Ir L I) (hz : zl mi pc = some (.fsub, len, r1, r2, r3)) (hs : zstep sl dy mi pc (.fsub, len, r1, r2, r3) ls st I = some (.inl (pc1, ls1, st1, I1, u)))
    (k : ∀ (n' : Nat) (K' : zKT) (P' : zPT) (Ir' : zIT) (L' : zLT), zRel E n' K' P' Ir' L' I1 → zV l X (d + 1) bc bs mi pc1 (zmL (zEr E) ls1) (zmS (zEr E) st1) n' K' P' Ir' L' Post) : zV l X (d + 1) bc bs mi pc (zmL (zEr E) ls) (zmS (zEr E) st) n K P Ir L Post := by
  obtain rfl : len = 1 := zlen_eq hz rfl
  obtain ⟨x, y, r0, rfl, hn, e⟩ := zf2_inv hs
  cases e
  exact zV_fsub hz hn (k n K P Ir L hR)
theorem zq_dmul {len r1 r2 r3 pc1 u : Nat} {ls ls1 : zLs} {st st1 : List Value} {I I1 : zM} (hE : zEok X sl dy E) (hR : zRel E n K P Ir L I) (hz : zl mi pc = some (.dmul, len, r1, r2, r3)) (hs : zstep sl dy mi pc (.dmul, len, r1, r2, r3) ls st I = some (.inl (pc1, ls1, st1, I1, u)))
    (k : ∀ (n' : Nat) (K' : zKT) (P' : zPT) (Ir' : zIT) (L' : zLT), zRel E n' K' P' Ir' L' I1 → zV l X (d + 1) bc bs mi pc1 (zmL (zEr E) ls1) (zmS (zEr E) st1) n' K' P' Ir' L' Post) : zV l X (d + 1) bc bs mi pc (zmL (zEr E) ls) (zmS (zEr E) st) n K P Ir L Post := by
  obtain rfl : len = 1 := zlen_eq hz rfl
  obtain ⟨x, y, r0, rfl, hn, e⟩ := zd2_inv hs
  cases e
  exact zV_dmul hz hn (k n K P Ir L hR)
theorem zq_ddiv {len r1 r2 r3 pc1 u : Nat} {ls ls1 : zLs} {st st1 : List Value} {I I1 : zM} (hE : zEok X sl dy E) (hR : zRel E n K P Ir L I) (hz : zl mi pc = some (.ddiv, len, r1, r2, r3)) (hs : zstep sl dy mi pc (.ddiv, len, r1, r2, r3) ls st I = some (.inl (pc1, ls1, st1, I1, u)))
    (k : ∀ (n' : Nat) (K' : zKT) (P' : zPT) (Ir' : zIT) (L' : zLT), zRel E n' K' P' Ir' L' I1 → zV l X (d + 1) bc bs mi pc1 (zmL (zEr E) ls1) (zmS (zEr E) st1) n' K' P' Ir' L' Post) : zV l X (d + 1) bc bs mi pc (zmL (zEr E) ls) (zmS (zEr E) st) n K P Ir L Post := by
  obtain rfl : len = 1 := zlen_eq hz rfl
  obtain ⟨x, y, r0, rfl, hn, e⟩ := zd2_inv hs
  cases e
  exact zV_ddiv hz hn (k n K P Ir L hR)
theorem zq_dsub {len r1 r2 r3 pc1 u : Nat} {ls ls1 : zLs} {st st1 : List Value} {I I1 : zM} (hE : zEok X sl dy E) (hR : zRel E n K P Ir L I) (hz : zl mi pc = some (.dsub, len, r1, r2, r3)) (hs : zstep sl dy mi pc (.dsub, len, r1, r2, r3) ls st I = some (.inl (pc1, ls1, st1, I1, u)))
    (k : ∀ (n' : Nat) (K' : zKT) (P' : zPT) (Ir' : zIT) (L' : zLT), zRel E n' K' P' Ir' L' I1 → zV l X (d + 1) bc bs mi pc1 (zmL (zEr E) ls1) (zmS (zEr E) st1) n' K' P' Ir' L' Post) : zV l X (d + 1) bc bs mi pc (zmL (zEr E) ls) (zmS (zEr E) st) n K P Ir L Post := by
  obtain rfl : len = 1 := zlen_eq hz rfl
  obtain ⟨x, y, r0, rfl, hn, e⟩ := zd2_inv hs
  cases e
  exact zV_dsub hz hn (k n K P Ir L hR)
theorem zq_dup {len r1 r2 r3 pc1 u : Nat} {ls ls1 : zLs} {st st1 : List Value} {I I1 : zM} (hE : zEok X sl dy E) (hR : zRel E n K P Ir L I) (hz : zl mi pc = some (.dup, len, r1, r2, r3)) (hs : zstep sl dy mi pc (.dup, len, r1, r2, r3) ls st I = some (.inl (pc1, ls1, st1, I1, u)))
    (k : ∀ (n' : Nat) (K' : zKT) (P' : zPT) (Ir' : zIT) (L' : zLT), zRel E n' K' P' Ir' L' I1 → zV l X (d + 1) bc bs mi pc1 (zmL (zEr E) ls1) (zmS (zEr E) st1) n' K' P' Ir' L' Post) : zV l X (d + 1) bc bs mi pc (zmL (zEr E) ls) (zmS (zEr E) st) n K P Ir L Post := by
  obtain rfl : len = 1 := zlen_eq hz rfl
  simp only [zstep] at hs
  split at hs
  · split at hs
    · rename_i hb
      cases hs; exact zV_dup hz (by rw [zmv_cat]; exact Nat.eq_of_beq_eq_true hb) (k n K P Ir L hR)
    · cases hs
  · cases hs
theorem zq_pop {len r1 r2 r3 pc1 u : Nat} {ls ls1 : zLs} {st st1 : List Value} {I I1 : zM} (hE : zEok X sl dy E) (hR : zRel E n K P Ir L I) (hz : zl mi pc = some (.pop, len, r1, r2, r3)) (hs : zstep sl dy mi pc (.pop, len, r1, r2, r3) ls st I = some (.inl (pc1, ls1, st1, I1, u)))
    (k : ∀ (n' : Nat) (K' : zKT) (P' : zPT) (Ir' : zIT) (L' : zLT), zRel E n' K' P' Ir' L' I1 → zV l X (d + 1) bc bs mi pc1 (zmL (zEr E) ls1) (zmS (zEr E) st1) n' K' P' Ir' L' Post) : zV l X (d + 1) bc bs mi pc (zmL (zEr E) ls) (zmS (zEr E) st) n K P Ir L Post := by
  obtain rfl : len = 1 := zlen_eq hz rfl
  simp only [zstep] at hs
  split at hs
  · split at hs
    · rename_i hb
      cases hs; exact zV_pop hz (by rw [zmv_cat]; exact Nat.eq_of_beq_eq_true hb) (k n K P Ir L hR)
    · cases hs
  · cases hs
theorem zq_dup2 {len r1 r2 r3 pc1 u : Nat} {ls ls1 : zLs} {st st1 : List Value} {I I1 : zM} (hE : zEok X sl dy E) (hR : zRel E n K P Ir L I) (hz : zl mi pc = some (.dup2, len, r1, r2, r3)) (hs : zstep sl dy mi pc (.dup2, len, r1, r2, r3) ls st I = some (.inl (pc1, ls1, st1, I1, u)))
    (k : ∀ (n' : Nat) (K' : zKT) (P' : zPT) (Ir' : zIT) (L' : zLT), zRel E n' K' P' Ir' L' I1 → zV l X (d + 1) bc bs mi pc1 (zmL (zEr E) ls1) (zmS (zEr E) st1) n' K' P' Ir' L' Post) : zV l X (d + 1) bc bs mi pc (zmL (zEr E) ls) (zmS (zEr E) st) n K P Ir L Post := by
  obtain rfl : len = 1 := zlen_eq hz rfl
  simp only [zstep] at hs
  split at hs
  · split at hs
    · rename_i hb
      simp only [Bool.and_eq_true] at hb
      cases hs; exact zV_dup2 hz (by rw [zmv_cat]; exact Nat.eq_of_beq_eq_true hb.1) (by rw [zmv_cat]; exact Nat.eq_of_beq_eq_true hb.2) (k n K P Ir L hR)
    · cases hs
  · cases hs
theorem zq_goto {off : Int} {len r1 r2 r3 pc1 u : Nat} {ls ls1 : zLs} {st st1 : List Value} {I I1 : zM} (hE : zEok X sl dy E) (hR : zRel E n K P Ir L I) (hz : zl mi pc = some (.goto off, len, r1, r2, r3)) (hs : zstep sl dy mi pc (.goto off, len, r1, r2, r3) ls st I = some (.inl (pc1, ls1, st1, I1, u)))
    (k : ∀ (n' : Nat) (K' : zKT) (P' : zPT) (Ir' : zIT) (L' : zLT), zRel E n' K' P' Ir' L' I1 → zV l X (d + 1) bc bs mi pc1 (zmL (zEr E) ls1) (zmS (zEr E) st1) n' K' P' Ir' L' Post) : zV l X (d + 1) bc bs mi pc (zmL (zEr E) ls) (zmS (zEr E) st) n K P Ir L Post := by
  obtain rfl : len = 3 := zlen_eq hz rfl
  obtain ⟨t, h1, e⟩ := zjmp_inv hs
  cases e
  exact zV_goto _ hz (ztg_eq h1) (k n K P Ir L hR)
theorem zq_ifCond {c : ClassFile.Cond} {off : Int} {len r1 r2 r3 pc1 u : Nat} {ls ls1 : zLs} {st st1 : List Value} {I I1 : zM} (hE : zEok X sl dy E) (hR : zRel E n K P Ir L I) (hz : zl mi pc = some (.ifCond c off, len, r1, r2, r3)) (hs : zstep sl dy mi pc (.ifCond c off, len, r1, r2, r3) ls st I = some (.inl (pc1, ls1, st1, I1, u)))
    (k : ∀ (n' : Nat) (K' : zKT) (P' : zPT) (Ir' : zIT) (L' : zLT), zRel E n' K' P' Ir' L' I1 → zV l X (d + 1) bc bs mi pc1 (zmL (zEr E) ls1) (zmS (zEr E) st1) n' K' P' Ir' L' Post) : zV l X (d + 1) bc bs mi pc (zmL (zEr E) ls) (zmS (zEr E) st) n K P Ir L Post := by
  obtain rfl : len = 3 := zlen_eq hz rfl
  match c, hz, hs with
  | .eq, hz, hs =>
    simp only [zstep] at hs
    split at hs
    · rename_i t ht
      split at hs
      · split at hs
        · rename_i hc
          cases hs
          refine zV_if_eq _ hz (ztg_eq ht) (fun _ => k n K P Ir L hR) (fun hn => absurd ?_ hn)
          simpa [zc1] using hc
        · rename_i hc
          cases hs
          refine zV_if_eq _ hz (ztg_eq ht) (fun hp => absurd hp ?_) (fun _ => k n K P Ir L hR)
          simpa [zc1] using hc
      · cases hs
    · cases hs
  | .ne, hz, hs =>
    simp only [zstep] at hs
    split at hs
    · rename_i t ht
      split at hs
      · split at hs
        · rename_i hc
          cases hs
          refine zV_if_ne _ hz (ztg_eq ht) (fun _ => k n K P Ir L hR) (fun hn => absurd hn ?_)
          simpa [zc1] using hc
        · rename_i hc
          cases hs
          refine zV_if_ne _ hz (ztg_eq ht) (fun hp => absurd ?_ hp) (fun _ => k n K P Ir L hR)
          simpa [zc1] using hc
      · cases hs
    · cases hs
  | .lt, hz, hs =>
    simp only [zstep] at hs
    split at hs
    · rename_i t ht
      split at hs
      · split at hs
        · rename_i hc
          cases hs
          refine zV_if_lt _ hz (ztg_eq ht) (fun _ => k n K P Ir L hR) (fun hn => absurd ?_ hn)
          simpa [zc1] using hc
        · rename_i hc
          cases hs
          refine zV_if_lt _ hz (ztg_eq ht) (fun hp => absurd hp ?_) (fun _ => k n K P Ir L hR)
          simpa [zc1] using hc
      · cases hs
    · cases hs
  | .ge, hz, hs =>
    simp only [zstep] at hs
    split at hs
    · rename_i t ht
      split at hs
      · split at hs
        · rename_i hc
          cases hs
          refine zV_if_ge _ hz (ztg_eq ht) (fun _ => k n K P Ir L hR) (fun hn => absurd ?_ hn)
          simpa [zc1] using hc
        · rename_i hc
          cases hs
          refine zV_if_ge _ hz (ztg_eq ht) (fun hp => absurd hp ?_) (fun _ => k n K P Ir L hR)
          simpa [zc1] using hc
      · cases hs
    · cases hs
  | .gt, hz, hs =>
    simp only [zstep] at hs
    split at hs
    · rename_i t ht
      split at hs
      · split at hs
        · rename_i hc
          cases hs
          refine zV_if_gt _ hz (ztg_eq ht) (fun _ => k n K P Ir L hR) (fun hn => absurd ?_ hn)
          simpa [zc1] using hc
        · rename_i hc
          cases hs
          refine zV_if_gt _ hz (ztg_eq ht) (fun hp => absurd hp ?_) (fun _ => k n K P Ir L hR)
          simpa [zc1] using hc
      · cases hs
    · cases hs
  | .le, hz, hs =>
    simp only [zstep] at hs
    split at hs
    · rename_i t ht
      split at hs
      · split at hs
        · rename_i hc
          cases hs
          refine zV_if_le _ hz (ztg_eq ht) (fun _ => k n K P Ir L hR) (fun hn => absurd ?_ hn)
          simpa [zc1] using hc
        · rename_i hc
          cases hs
          refine zV_if_le _ hz (ztg_eq ht) (fun hp => absurd hp ?_) (fun _ => k n K P Ir L hR)
          simpa [zc1] using hc
      · cases hs
    · cases hs
theorem zq_if_icmp {c : ClassFile.Cond} {off : Int} {len r1 r2 r3 pc1 u : Nat} {ls ls1 : zLs} {st st1 : List Value} {I I1 : zM} (hE : zEok X sl dy E) (hR : zRel E n K P Ir L I) (hz : zl mi pc = some (.if_icmp c off, len, r1, r2, r3)) (hs : zstep sl dy mi pc (.if_icmp c off, len, r1, r2, r3) ls st I = some (.inl (pc1, ls1, st1, I1, u)))
    (k : ∀ (n' : Nat) (K' : zKT) (P' : zPT) (Ir' : zIT) (L' : zLT), zRel E n' K' P' Ir' L' I1 → zV l X (d + 1) bc bs mi pc1 (zmL (zEr E) ls1) (zmS (zEr E) st1) n' K' P' Ir' L' Post) : zV l X (d + 1) bc bs mi pc (zmL (zEr E) ls) (zmS (zEr E) st) n K P Ir L Post := by
  obtain rfl : len = 3 := zlen_eq hz rfl
  match c, hz, hs with
  | .eq, hz, hs =>
    simp only [zstep] at hs
    split at hs
    · rename_i t ht
      split at hs
      · split at hs
        · rename_i hc
          cases hs
          refine zV_icmp_eq _ hz (ztg_eq ht) (fun _ => k n K P Ir L hR) (fun hn => absurd ?_ hn)
          simpa [zc1] using hc
        · rename_i hc
          cases hs
          refine zV_icmp_eq _ hz (ztg_eq ht) (fun hp => absurd hp ?_) (fun _ => k n K P Ir L hR)
          simpa [zc1] using hc
      · cases hs
    · cases hs
  | .ne, hz, hs =>
    simp only [zstep] at hs
    split at hs
    · rename_i t ht
      split at hs
      · split at hs
        · rename_i hc
          cases hs
          refine zV_icmp_ne _ hz (ztg_eq ht) (fun _ => k n K P Ir L hR) (fun hn => absurd hn ?_)
          simpa [zc1] using hc
        · rename_i hc
          cases hs
          refine zV_icmp_ne _ hz (ztg_eq ht) (fun hp => absurd ?_ hp) (fun _ => k n K P Ir L hR)
          simpa [zc1] using hc
      · cases hs
    · cases hs
  | .lt, hz, hs =>
    simp only [zstep] at hs
    split at hs
    · rename_i t ht
      split at hs
      · split at hs
        · rename_i hc
          cases hs
          refine zV_icmp_lt _ hz (ztg_eq ht) (fun _ => k n K P Ir L hR) (fun hn => absurd ?_ hn)
          simpa [zc1] using hc
        · rename_i hc
          cases hs
          refine zV_icmp_lt _ hz (ztg_eq ht) (fun hp => absurd hp ?_) (fun _ => k n K P Ir L hR)
          simpa [zc1] using hc
      · cases hs
    · cases hs
  | .ge, hz, hs =>
    simp only [zstep] at hs
    split at hs
    · rename_i t ht
      split at hs
      · split at hs
        · rename_i hc
          cases hs
          refine zV_icmp_ge _ hz (ztg_eq ht) (fun _ => k n K P Ir L hR) (fun hn => absurd ?_ hn)
          simpa [zc1] using hc
        · rename_i hc
          cases hs
          refine zV_icmp_ge _ hz (ztg_eq ht) (fun hp => absurd hp ?_) (fun _ => k n K P Ir L hR)
          simpa [zc1] using hc
      · cases hs
    · cases hs
  | .gt, hz, hs =>
    simp only [zstep] at hs
    split at hs
    · rename_i t ht
      split at hs
      · split at hs
        · rename_i hc
          cases hs
          refine zV_icmp_gt _ hz (ztg_eq ht) (fun _ => k n K P Ir L hR) (fun hn => absurd ?_ hn)
          simpa [zc1] using hc
        · rename_i hc
          cases hs
          refine zV_icmp_gt _ hz (ztg_eq ht) (fun hp => absurd hp ?_) (fun _ => k n K P Ir L hR)
          simpa [zc1] using hc
      · cases hs
    · cases hs
  | .le, hz, hs =>
    simp only [zstep] at hs
    split at hs
    · rename_i t ht
      split at hs
      · split at hs
        · rename_i hc
          cases hs
          refine zV_icmp_le _ hz (ztg_eq ht) (fun _ => k n K P Ir L hR) (fun hn => absurd ?_ hn)
          simpa [zc1] using hc
        · rename_i hc
          cases hs
          refine zV_icmp_le _ hz (ztg_eq ht) (fun hp => absurd hp ?_) (fun _ => k n K P Ir L hR)
          simpa [zc1] using hc
      · cases hs
    · cases hs
theorem zq_tableswitch {dflt lo hi : Int} {offs : Array Int} {len r1 r2 r3 pc1 u : Nat} {ls ls1 : zLs} {st st1 : List Value} {I I1 : zM} (hE : zEok X sl dy E) (hR : zRel E n K P Ir L I) (hz : zl mi pc = some (.tableswitch dflt lo hi offs, len, r1, r2, r3)) (hs : zstep sl dy mi pc (.tableswitch dflt lo hi offs, len, r1, r2, r3) ls st I = some (.inl (pc1, ls1, st1, I1, u)))
    (k : ∀ (n' : Nat) (K' : zKT) (P' : zPT) (Ir' : zIT) (L' : zLT), zRel E n' K' P' Ir' L' I1 → zV l X (d + 1) bc bs mi pc1 (zmL (zEr E) ls1) (zmS (zEr E) st1) n' K' P' Ir' L' Post) : zV l X (d + 1) bc bs mi pc (zmL (zEr E) ls) (zmS (zEr E) st) n K P Ir L Post := by
  simp only [zstep] at hs
  split at hs
  · split at hs
    · rename_i hd
      obtain ⟨t, h1, e⟩ := zjmp_inv hs
      cases e
      exact zV_tableOut _ hz (of_decide_eq_true hd) (ztg_eq h1) (k n K P Ir L hR)
    · rename_i hd
      have hd := of_decide_eq_false hd
      split at hs
      · rename_i off ho
        obtain ⟨t, h1, e⟩ := zjmp_inv hs
        cases e
        exact zV_tableIn _ hz (fun h => hd (Or.inl h)) (fun h => hd (Or.inr h)) ho (ztg_eq h1) (k n K P Ir L hR)
      · cases hs
  · cases hs
theorem zq_lookupswitch {dflt : Int} {ps : Array (Int × Int)} {len r1 r2 r3 pc1 u : Nat} {ls ls1 : zLs} {st st1 : List Value} {I I1 : zM} (hE : zEok X sl dy E) (hR : zRel E n K P Ir L I) (hz : zl mi pc = some (.lookupswitch dflt ps, len, r1, r2, r3)) (hs : zstep sl dy mi pc (.lookupswitch dflt ps, len, r1, r2, r3) ls st I = some (.inl (pc1, ls1, st1, I1, u)))
    (k : ∀ (n' : Nat) (K' : zKT) (P' : zPT) (Ir' : zIT) (L' : zLT), zRel E n' K' P' Ir' L' I1 → zV l X (d + 1) bc bs mi pc1 (zmL (zEr E) ls1) (zmS (zEr E) st1) n' K' P' Ir' L' Post) : zV l X (d + 1) bc bs mi pc (zmL (zEr E) ls) (zmS (zEr E) st) n K P Ir L Post := by
  simp only [zstep] at hs
  split at hs
  · split at hs
    · rename_i hd
      obtain ⟨t, h1, e⟩ := zjmp_inv hs
      cases e
      exact zV_lookup _ hz hd rfl (ztg_eq h1) (k n K P Ir L hR)
    · cases hs
  · cases hs
theorem zq_getfield {j : Nat} {len r1 r2 r3 pc1 u : Nat} {ls ls1 : zLs} {st st1 : List Value} {I I1 : zM} (hE : zEok X sl dy E) (hR : zRel E n K P Ir L I) (hz : zl mi pc = some (.getfield j, len, r1, r2, r3)) (hs : zstep sl dy mi pc (.getfield j, len, r1, r2, r3) ls st I = some (.inl (pc1, ls1, st1, I1, u)))
    (k : ∀ (n' : Nat) (K' : zKT) (P' : zPT) (Ir' : zIT) (L' : zLT), zRel E n' K' P' Ir' L' I1 → zV l X (d + 1) bc bs mi pc1 (zmL (zEr E) ls1) (zmS (zEr E) st1) n' K' P' Ir' L' Post) : zV l X (d + 1) bc bs mi pc (zmL (zEr E) ls) (zmS (zEr E) st) n K P Ir L Post := by
  obtain rfl : len = 3 := zlen_eq hz rfl
  simp only [zstep] at hs
  split at hs
  · rename_i a r
    split at hs
    · rename_i kk mm hk
      split at hs
      · rename_i hb
        simp only [Bool.and_eq_true] at hb
        obtain rfl := Nat.eq_of_beq_eq_true hb.1.1
        split at hs
        · rename_i hf
          split at hs
          · rename_i q hq
            cases hs
            exact zV_getR hz (zRel_K hE hR hk) (Nat.le_of_ble_eq_true hb.1.2) hf (zRel_P hE hR hq) (k n K P Ir L hR)
          · cases hs
        · rename_i hf
          split at hs
          · rename_i x hx
            cases hs
            refine zV_getI hz (zRel_K hE hR hk) (Nat.le_of_ble_eq_true hb.1.2) hf ?_
            rw [zRel_I hE hR hk hx]
            exact k n K P Ir L hR
          · cases hs
      · cases hs
    · cases hs
  · cases hs
theorem zq_putfield {j : Nat} {len r1 r2 r3 pc1 u : Nat} {ls ls1 : zLs} {st st1 : List Value} {I I1 : zM} (hE : zEok X sl dy E) (hR : zRel E n K P Ir L I) (hz : zl mi pc = some (.putfield j, len, r1, r2, r3)) (hs : zstep sl dy mi pc (.putfield j, len, r1, r2, r3) ls st I = some (.inl (pc1, ls1, st1, I1, u)))
    (k : ∀ (n' : Nat) (K' : zKT) (P' : zPT) (Ir' : zIT) (L' : zLT), zRel E n' K' P' Ir' L' I1 → zV l X (d + 1) bc bs mi pc1 (zmL (zEr E) ls1) (zmS (zEr E) st1) n' K' P' Ir' L' Post) : zV l X (d + 1) bc bs mi pc (zmL (zEr E) ls) (zmS (zEr E) st) n K P Ir L Post := by
  obtain rfl : len = 3 := zlen_eq hz rfl
  simp only [zstep] at hs
  split at hs
  · rename_i x a r
    split at hs
    · rename_i kk mm hk
      split at hs
      · rename_i hb
        simp only [Bool.and_eq_true, decide_eq_true_eq, Bool.not_eq_true'] at hb
        obtain ⟨⟨⟨⟨⟨b1, b2⟩, b3⟩, b4⟩, b5⟩, b6⟩ := hb
        obtain rfl := Nat.eq_of_beq_eq_true b1
        cases hs
        have ha : a < 148 := by
          rcases zkd_lt hk with h | ⟨-, h⟩
          · exact h
          · cases h
            exact absurd (Nat.le_of_ble_eq_true b3) (by decide)
        refine zV_putI hz (zRel_K hE hR hk) (Nat.le_of_ble_eq_true b2) b4 b5 b6 ?_
        have := k n K P _ L (zRel_up (k := r2) (x := x) ha hE.2.2.2.2 hR)
        rw [hE.1 a (Nat.lt_trans ha (by decide))]
        exact this
      · cases hs
    · cases hs
  · cases hs
theorem zq_iaload {len r1 r2 r3 pc1 u : Nat} {ls ls1 : zLs} {st st1 : List Value} {I I1 : zM} (hE : zEok X sl dy E) (hR : zRel E n K P Ir L I) (hz : zl mi pc = some (.iaload, len, r1, r2, r3)) (hs : zstep sl dy mi pc (.iaload, len, r1, r2, r3) ls st I = some (.inl (pc1, ls1, st1, I1, u)))
    (k : ∀ (n' : Nat) (K' : zKT) (P' : zPT) (Ir' : zIT) (L' : zLT), zRel E n' K' P' Ir' L' I1 → zV l X (d + 1) bc bs mi pc1 (zmL (zEr E) ls1) (zmS (zEr E) st1) n' K' P' Ir' L' Post) : zV l X (d + 1) bc bs mi pc (zmL (zEr E) ls) (zmS (zEr E) st) n K P Ir L Post := by
  obtain rfl : len = 1 := zlen_eq hz rfl
  simp only [zstep] at hs
  split at hs
  · rename_i i a r
    split at hs
    · rename_i kk mm hk
      split at hs
      · rename_i x hb hx
        simp only [Bool.and_eq_true, Bool.or_eq_true] at hb
        cases hs
        have e1 := zRel_I hE hR hk hx
        refine zV_iald hz (zRel_K hE hR hk) (hb.1.imp Nat.eq_of_beq_eq_true Nat.eq_of_beq_eq_true) (zin_vp hb.2) ?_
        rw [e1]
        exact k n K P Ir L hR
      · cases hs
    · cases hs
  · cases hs
theorem zq_caload {len r1 r2 r3 pc1 u : Nat} {ls ls1 : zLs} {st st1 : List Value} {I I1 : zM} (hE : zEok X sl dy E) (hR : zRel E n K P Ir L I) (hz : zl mi pc = some (.caload, len, r1, r2, r3)) (hs : zstep sl dy mi pc (.caload, len, r1, r2, r3) ls st I = some (.inl (pc1, ls1, st1, I1, u)))
    (k : ∀ (n' : Nat) (K' : zKT) (P' : zPT) (Ir' : zIT) (L' : zLT), zRel E n' K' P' Ir' L' I1 → zV l X (d + 1) bc bs mi pc1 (zmL (zEr E) ls1) (zmS (zEr E) st1) n' K' P' Ir' L' Post) : zV l X (d + 1) bc bs mi pc (zmL (zEr E) ls) (zmS (zEr E) st) n K P Ir L Post := by
  obtain rfl : len = 1 := zlen_eq hz rfl
  simp only [zstep] at hs
  split at hs
  · rename_i i a r
    split at hs
    · rename_i kk mm hk
      split at hs
      · rename_i x hb hx
        simp only [Bool.and_eq_true, Bool.or_eq_true] at hb
        cases hs
        have e1 := zRel_I hE hR hk hx
        obtain rfl := Nat.eq_of_beq_eq_true hb.1
        refine zV_cald hz (zRel_K hE hR hk) (zin_vp hb.2) ?_
        rw [e1]
        exact k n K P Ir L hR
      · cases hs
    · cases hs
  · cases hs
theorem zq_aaload {len r1 r2 r3 pc1 u : Nat} {ls ls1 : zLs} {st st1 : List Value} {I I1 : zM} (hE : zEok X sl dy E) (hR : zRel E n K P Ir L I) (hz : zl mi pc = some (.aaload, len, r1, r2, r3)) (hs : zstep sl dy mi pc (.aaload, len, r1, r2, r3) ls st I = some (.inl (pc1, ls1, st1, I1, u)))
    (k : ∀ (n' : Nat) (K' : zKT) (P' : zPT) (Ir' : zIT) (L' : zLT), zRel E n' K' P' Ir' L' I1 → zV l X (d + 1) bc bs mi pc1 (zmL (zEr E) ls1) (zmS (zEr E) st1) n' K' P' Ir' L' Post) : zV l X (d + 1) bc bs mi pc (zmL (zEr E) ls) (zmS (zEr E) st) n K P Ir L Post := by
  obtain rfl : len = 1 := zlen_eq hz rfl
  simp only [zstep] at hs
  split at hs
  · rename_i i a r
    split at hs
    · rename_i kk mm hk
      split at hs
      · rename_i q hb hq
        simp only [Bool.and_eq_true] at hb
        obtain rfl := Nat.eq_of_beq_eq_true hb.1
        cases hs
        exact zV_aald hz (zRel_K hE hR hk) (zin_vp hb.2) (zRel_P hE hR hq) (k n K P Ir L hR)
      · cases hs
    · cases hs
  · cases hs
theorem zq_iastore {len r1 r2 r3 pc1 u : Nat} {ls ls1 : zLs} {st st1 : List Value} {I I1 : zM} (hE : zEok X sl dy E) (hR : zRel E n K P Ir L I) (hz : zl mi pc = some (.iastore, len, r1, r2, r3)) (hs : zstep sl dy mi pc (.iastore, len, r1, r2, r3) ls st I = some (.inl (pc1, ls1, st1, I1, u)))
    (k : ∀ (n' : Nat) (K' : zKT) (P' : zPT) (Ir' : zIT) (L' : zLT), zRel E n' K' P' Ir' L' I1 → zV l X (d + 1) bc bs mi pc1 (zmL (zEr E) ls1) (zmS (zEr E) st1) n' K' P' Ir' L' Post) : zV l X (d + 1) bc bs mi pc (zmL (zEr E) ls) (zmS (zEr E) st) n K P Ir L Post := by
  obtain rfl : len = 1 := zlen_eq hz rfl
  simp only [zstep] at hs
  split at hs
  · rename_i x i a r
    split at hs
    · rename_i kk mm hk
      split at hs
      · rename_i hb
        simp only [Bool.and_eq_true] at hb
        obtain rfl := Nat.eq_of_beq_eq_true hb.1
        cases hs
        have ha : a < 148 := by
          rcases zkd_lt hk with h | ⟨-, h⟩
          · exact h
          · cases h
        refine zV_iast hz (zRel_K hE hR hk) (zin_vp hb.2) ?_
        have := k n K P _ L (zRel_up (k := i.toNatClampNeg) (x := x) ha hE.2.2.2.2 hR)
        rw [hE.1 a (Nat.lt_trans ha (by decide))]
        exact this
      · cases hs
    · cases hs
  · cases hs
theorem zq_castore {len r1 r2 r3 pc1 u : Nat} {ls ls1 : zLs} {st st1 : List Value} {I I1 : zM} (hE : zEok X sl dy E) (hR : zRel E n K P Ir L I) (hz : zl mi pc = some (.castore, len, r1, r2, r3)) (hs : zstep sl dy mi pc (.castore, len, r1, r2, r3) ls st I = some (.inl (pc1, ls1, st1, I1, u)))
    (k : ∀ (n' : Nat) (K' : zKT) (P' : zPT) (Ir' : zIT) (L' : zLT), zRel E n' K' P' Ir' L' I1 → zV l X (d + 1) bc bs mi pc1 (zmL (zEr E) ls1) (zmS (zEr E) st1) n' K' P' Ir' L' Post) : zV l X (d + 1) bc bs mi pc (zmL (zEr E) ls) (zmS (zEr E) st) n K P Ir L Post := by
  obtain rfl : len = 1 := zlen_eq hz rfl
  simp only [zstep] at hs
  split at hs
  · rename_i x i a r
    split at hs
    · rename_i kk mm hk
      split at hs
      · rename_i hb
        simp only [Bool.and_eq_true] at hb
        obtain rfl := Nat.eq_of_beq_eq_true hb.1
        cases hs
        have ha : a < 148 := by
          rcases zkd_lt hk with h | ⟨-, h⟩
          · exact h
          · cases h
        refine zV_cast hz (zRel_K hE hR hk) (zin_vp hb.2) ?_
        have := k n K P _ L (zRel_up (k := i.toNatClampNeg) (x := (vp_nar .char x)) ha hE.2.2.2.2 hR)
        rw [hE.1 a (Nat.lt_trans ha (by decide))]
        exact this
      · cases hs
    · cases hs
  · cases hs
theorem zq_arraylength {len r1 r2 r3 pc1 u : Nat} {ls ls1 : zLs} {st st1 : List Value} {I I1 : zM} (hE : zEok X sl dy E) (hR : zRel E n K P Ir L I) (hz : zl mi pc = some (.arraylength, len, r1, r2, r3)) (hs : zstep sl dy mi pc (.arraylength, len, r1, r2, r3) ls st I = some (.inl (pc1, ls1, st1, I1, u)))
    (k : ∀ (n' : Nat) (K' : zKT) (P' : zPT) (Ir' : zIT) (L' : zLT), zRel E n' K' P' Ir' L' I1 → zV l X (d + 1) bc bs mi pc1 (zmL (zEr E) ls1) (zmS (zEr E) st1) n' K' P' Ir' L' Post) : zV l X (d + 1) bc bs mi pc (zmL (zEr E) ls) (zmS (zEr E) st) n K P Ir L Post := by
  obtain rfl : len = 1 := zlen_eq hz rfl
  simp only [zstep] at hs
  split at hs
  · rename_i a r
    split at hs
    · rename_i kk mm hk
      split at hs
      · rename_i hb
        simp only [Bool.and_eq_true, Bool.or_eq_true] at hb
        cases hs
        exact zV_alen hz (zRel_K hE hR hk) (hb.1.elim (fun h => Or.inl (Nat.eq_of_beq_eq_true h)) (fun h => Or.inr (Or.inr (Or.inr (Or.inr (Or.inr (Or.inl (Nat.eq_of_beq_eq_true h)))))))) rfl (k n K P Ir L hR)
      · cases hs
    · cases hs
  · cases hs
end ZSTEP
end
section
/-! WHAT THE JDK'S METHODS ON TEXTS OWE (proved in later parts) -/
def zSame (n : Nat) (K : zKT) (P : zPT) (I : zIT) (L : zLT) (v : Value) : zPost := fun r n' K' P' I' L' => r = .inl (some v) ∧ n' = n ∧ K' = K ∧ P' = P ∧ I' = I ∧ L' = L
def zPB (n : Nat) (K : zKT) (P : zPT) (I : zIT) (L : zLT) (b va : Nat) (v : Option Value) (t : List Int32) : zPost := fun r n' K' P' I' L' => r = .inl v ∧ ∃ va', zBd n' K' P' I' b va' t ∧ zKeep n K P I L b va va' n' K' P' I' L'
def zAll (X : zX) (n : Nat) (a : Nat) : Prop := X.1 ≤ a ∧ a < n
/-- StringBuilder.append(int) -/
def zJ206 (l : Launch) (X : zX) : Prop := ∀ (d n : Nat) (K : zKT) (P : zPT) (I : zIT) (L : zLT) (b va : Nat) (t : List Int32) (x : Int32), zBd n K P I b va t → t.length ≤ 60 → 0 ≤ x → x < 1000 → zC l X (d + 11) 8 400 206 [.ref b, .int x] n K P I L (zPB n K P I L b va (some (.ref b)) (t ++ zdg x))
/-- StringBuilder.append(char) -/
def zJ205 (l : Launch) (X : zX) : Prop := ∀ (d n : Nat) (K : zKT) (P : zPT) (I : zIT) (L : zLT) (b va : Nat) (t : List Int32) (x : Int32), zBd n K P I b va t → t.length ≤ 60 → 0 ≤ x → x < 128 → zC l X (d + 11) 8 400 205 [.ref b, .int x] n K P I L (zPB n K P I L b va (some (.ref b)) (t ++ [x]))
/-- StringBuilder.setLength(0) -/
def zJ209 (l : Launch) (X : zX) : Prop := ∀ (d n : Nat) (K : zKT) (P : zPT) (I : zIT) (L : zLT) (b va : Nat) (t : List Int32), zBd n K P I b va t → t.length ≤ 63 → zC l X (d + 11) 0 0 209 [.ref b, .int 0] n K P I L (zPB n K P I L b va none [])
/-- StringBuilder.length() -/
def zJ210 (l : Launch) (X : zX) : Prop := ∀ (d n : Nat) (K : zKT) (P : zPT) (I : zIT) (L : zLT) (b va : Nat) (t : List Int32), zBd n K P I b va t → zC l X (d + 11) 0 0 210 [.ref b] n K P I L (zSame n K P I L (.int (Int32.ofNat t.length)))
/-- StringBuilder.charAt(int) -/
def zJ208 (l : Launch) (X : zX) : Prop := ∀ (d n : Nat) (K : zKT) (P : zPT) (I : zIT) (L : zLT) (b va : Nat) (t : List Int32) (i x : Int32), zBd n K P I b va t → t.length ≤ 63 → 0 ≤ i → t[i.toNatClampNeg]? = some x → zC l X (d + 11) 0 0 208 [.ref b, .int i] n K P I L (zSame n K P I L (.int x))
/-- String.length() -/
def zJ196 (l : Launch) (X : zX) : Prop := ∀ (d n : Nat) (K : zKT) (P : zPT) (I : zIT) (L : zLT) (a : Nat) (t : List Int32), zStr (fun _ => True) K P I a t → zC l X (d + 11) 0 0 196 [.ref a] n K P I L (zSame n K P I L (.int (Int32.ofNat t.length)))
/-- String.charAt(int) -/
def zJ197 (l : Launch) (X : zX) : Prop := ∀ (d n : Nat) (K : zKT) (P : zPT) (I : zIT) (L : zLT) (a : Nat) (t : List Int32) (i x : Int32), zStr (fun _ => True) K P I a t → t.length ≤ 1000 → 0 ≤ i → t[i.toNatClampNeg]? = some x → zC l X (d + 11) 0 0 197 [.ref a, .int i] n K P I L (zSame n K P I L (.int x))
/-- a text is built: everything that was there stays, a String of it is new -/
def zMade (n : Nat) (K : zKT) (P : zPT) (I : zIT) (L : zLT) (n' : Nat) (K' : zKT) (P' : zPT) (I' : zIT) (L' : zLT) (a : Nat) (t : List Int32) : Prop :=
  n ≤ n' ∧ zStr (fun q => n ≤ q ∧ q < n') K' P' I' a t ∧ ∀ q, q < n → K' q = K q ∧ P' q = P q ∧ I' q = I q ∧ L' q = L q
/-- the law's two texts -/
def zJtxt (l : Launch) (X : zX) (pc i : Nat) (a b : String) : Prop := ∀ (d bc bs n : Nat) (K : zKT) (P : zPT) (I : zIT) (L : zLT) (ls : List (Nat × Value)) (o : Nat) (x : Int32) (Post : zPost), zlk ls i = some (.int x) → 0 ≤ x → x < 13 →
  (∀ (n' : Nat) (K' : zKT) (P' : zPT) (I' : zIT) (L' : zLT) (q : Nat), zMade n K P I L n' K' P' I' L' q (zch a ++ zdg x ++ zch b) → zV l X (d + 12) bc bs 176 352 ls [.ref q, .ref o] n' K' P' I' L' Post) →
  zV l X (d + 12) (bc + 8) (bs + 400) 176 pc ls [.ref o] n K P I L Post
def zJDK (l : Launch) (X : zX) : Prop := zJ206 l X ∧ zJ205 l X ∧ zJ209 l X ∧ zJ210 l X ∧ zJ208 l X ∧ zJ196 l X ∧ zJ197 l X ∧ zJtxt l X 297 3 "wait;valve " " 3" ∧ zJtxt l X 326 2 "pour 0 1/h;draw " " 2"
end
section
/-! THE PRIMITIVES OF THE INTERPRETER ARE THE JDK'S METHODS -/
theorem zn_of {k : Nat} (h : k ≤ 2000) : (Int32.ofNat k).toNatClampNeg = k := by
  have h1 : (Int32.ofNat k).toInt = (k : Int) := Int32.toInt_ofNat_of_lt (by omega)
  unfold Int32.toNatClampNeg
  rw [h1]
  rfl
theorem zfold_at (cs : List Int32) : ∀ (M : zM) (k i j : Nat), (cs.foldl (fun (q : zM × Nat) ch => (zup q.1 149 q.2 ch, q.2 + 1)) (M, k)).1 i j = if i = 149 ∧ k ≤ j ∧ j < k + cs.length then cs[j - k]? else M i j := by
  induction cs with
  | nil =>
    intro M k i j
    rw [if_neg (by simp only [List.length_nil]; omega)]
    rfl
  | cons c r ih =>
    intro M k i j
    show (r.foldl _ (zup M 149 k c, k + 1)).1 i j = _
    rw [ih, zup_at]
    simp only [List.length_cons]
    by_cases hi : i = 149
    · subst hi
      by_cases hj : j = k
      · subst hj
        rw [if_neg (by omega), if_pos ⟨rfl, rfl⟩, if_pos ⟨rfl, Nat.le_refl _, by omega⟩]
        simp
      · by_cases hlt : k + 1 ≤ j ∧ j < k + 1 + r.length
        · rw [if_pos ⟨rfl, hlt⟩, if_pos ⟨rfl, by omega, by omega⟩]
          rw [show j - k = (j - (k + 1)) + 1 by omega]
          simp
        · rw [if_neg (by simp; omega), if_neg (by simp [hj]), if_neg (by simp; omega)]
    · rw [if_neg (by simp [hi]), if_neg (by simp [hi]), if_neg (by simp [hi])]
theorem zdg_len (x : Int32) : (zdg x).length ≤ 3 := by
  unfold zdg
  split
  · simp
  · split <;> simp
set_option maxRecDepth 100000 in
theorem zstr_len : (zstr.all (fun q => decide ((zch q.2.2).length ≤ 900))) = true := by decide +kernel
theorem ztx_len {dy a : Nat} {t : List Int32} (h : ztx dy a = some t) : t.length ≤ 1000 := by
  unfold ztx at h
  split at h
  · split at h
    · simp only [Option.map_eq_some_iff] at h
      obtain ⟨q, h1, rfl⟩ := h
      have := of_decide_eq_true (List.all_eq_true.mp zstr_len q (List.mem_of_getElem? h1))
      omega
    · cases h
  · split at h
    · cases h
    · split at h
      · cases h
        have := zdg_len (Int32.ofNat (a - 5000))
        simp only [List.length_append]
        rw [show (zch "wait;valve ").length = 11 from by decide +kernel, show (zch " 3").length = 2 from by decide +kernel]
        omega
      · cases h
        have := zdg_len (Int32.ofNat (a - 5100))
        simp only [List.length_append]
        rw [show (zch "pour 0 1/h;draw ").length = 16 from by decide +kernel, show (zch " 2").length = 2 from by decide +kernel]
        omega
section ZPRIM
variable {l : Launch} {X : zX} {sl dy d bc bs mi pc : Nat} {E : zEnv} {n : Nat} {K : zKT} {P : zPT} {Ir : zIT} {L : zLT} {Post : zPost}
/-- the builder has changed, all else is as it was -/
theorem zRel_keep {M M' : zM} {va va' n' : Nat} {K' : zKT} {P' : zPT} {I' : zIT} {L' : zLT} {t' : List Int32} (hEF : ∀ q, zEF E q → ¬ (zEB E ≤ q ∧ q < zEB E + 150)) (hR : zRel E n K P Ir L M) (hva : P (zEB E + 148) 0 = some va) (hk : zKeep n K P Ir L (zEB E + 148) va va' n' K' P' I' L') (hb : zBd n' K' P' I' (zEB E + 148) va' t') (hl : t'.length ≤ 63)
    (hM : ∀ i k, i ≠ 148 → i ≠ 149 → M' i k = M i k) (h8 : ∀ x, M' 148 0 = some x → Int32.ofNat t'.length = x) (h9 : ∀ (j : Nat) (x : Int32), j < t'.length → M' 149 j = some x → t'[j]? = some x) : zRel E n' K' P' I' L' M' := by
  obtain ⟨r1, r2, r3, r4, r5, va0, t, ⟨cap, b1, b2, b3, b4, b5, b6, b7, b8, b9, b10⟩, r7, r8, r9, r10, r11⟩ := hR
  cases Option.some.inj (hva.symm.trans b2)
  obtain ⟨k1, k2, k3⟩ := hk
  have kk : ∀ i, i < 148 → K' (zEB E + i) = K (zEB E + i) ∧ P' (zEB E + i) = P (zEB E + i) ∧ I' (zEB E + i) = Ir (zEB E + i) ∧ L' (zEB E + i) = L (zEB E + i) := fun i hi => k3 _ (by omega) (by omega) (by omega)
  refine ⟨by omega, fun i sl e hi he => ?_, fun i k q hq => ?_, fun i k x hi hx => ?_, fun k x hx => ?_, va', t', hb, hl, by omega, h8, h9, fun a ha => ?_⟩
  · have hi2 : i < 148 := by
      rcases zkd_lt he with h | h
      · exact h
      · omega
    rw [(kk i hi2).1]
    exact r2 i sl e hi he
  · rw [(kk i (zpd_lt hq).1).2.1]
    exact r3 i k q hq
  · rw [(kk i hi).2.2.1]
    rw [hM i k (by omega) (by omega)] at hx
    exact r4 i k x hi hx
  · rw [hM 1000 k (by omega) (by omega)] at hx
    exact r5 k x hx
  · obtain ⟨g1, g2, g3, g4, g5, g6⟩ := r11 a ha
    have hne : a ≠ zEB E + 148 := fun e => hEF a ha (by omega)
    obtain ⟨q1, q2, q3, q4⟩ := k3 a g1 hne g2
    exact ⟨by omega, by omega, by rw [q1, g3], by rw [q2, g4], by rw [q3, g5], by rw [q4, g6]⟩
/-- a String's method: the receiver is any String -/
theorem zV_cvS {bc1 bc2 bs1 bs2 r3 mk idx : Nat} {ls : List (Nat × Value)} {av rest : List Value} {Q : zPost} {a k m : Nat} (h : zl mi pc = some (.invokevirtual idx, 3, mk, 3, r3)) (hKa : K a = some (k, m)) (hk : k = 120 ∨ k = 0) (hco : zO mk = RJ0) (hav : av.length = zNP mk) (hlen : (lg_sl (.ref a :: av)).length ≤ zL mk) (hW : (rest.map fun v => v.category).sum ≤ 8) (hc : zC l X d bc1 bs1 mk (.ref a :: av) n K P Ir L Q)
    (kk : ∀ (v : Option Value) (n' : Nat) (K' : zKT) (P' : zPT) (I' : zIT) (L' : zLT), Q (.inl v) n' K' P' I' L' → zV l X (d + 1) bc2 bs2 mi (pc + 3) ls (v.toList ++ rest) n' K' P' I' L' Post)
    (kx : ∀ (x n' : Nat) (K' : zKT) (P' : zPT) (I' : zIT) (L' : zLT), x < 6 → Q (.inr x) n' K' P' I' L' → zXh l X (d + 1) bc2 bs2 mi pc ls x n' K' P' I' L' Post) :
    zV l X (d + 1) (bc1 + bc2) (bs1 + bs2) mi pc ls (av.reverse ++ .ref a :: rest) n K P Ir L Post := by
  rcases hk with rfl | rfl
  · intro p e R s m args below meth c H locs cells slots mc ms lsr S D hl
    have hk := zkc_at h
    simp only [zkc, Bool.and_eq_true, decide_eq_true_eq] at hk
    obtain ⟨⟨⟨⟨k1, k5⟩, k2⟩, k3⟩, k4⟩ := hk
    have hw : zhas r3 (.methodLink (zO mi) idx (zY mk)) = true := zl_wc h
    obtain ⟨hxx, hb, hml, hown, hts, hrt, hlk, htab, hnm, hdf, hdl, hKs, hst⟩ := id S
    obtain ⟨d1, d2, d3, d4, hS, hpic⟩ := id D
    obtain ⟨hA, cell, c1, c2, c3, c4, c5⟩ := (hpic.2 a 120 _ hKa).2.2.2 (by decide)
    exact zV_after S D hl (vx_runV (C := zO mk) (b := a) (As := av) (rest := rest) ⟨hxx, hb, hml, hown, hts⟩ (zMet k3 k4 hst hlen hc) ⟨zcallB S k3 k4 k2 (hts _ (zTs_in hw rfl)), hts _ (zTs_in k1 rfl), hts _ (zTs_in k5 rfl)⟩
      ⟨zPc_blind, ⟨cell, c1, c3, by rw [hco]; exact c4⟩, fun _ hU hW => zPc_at hKs hS hpic hU hW⟩ rfl hav hl.1 rfl (by show 2 * 0 + _ ≤ 8; omega) (zl_dec h) ⟨by omega, by omega⟩) kk kx
  · exact zV_cv h hKa (by decide) (by rw [hco]; rfl) hav hlen hW hc kk kx
theorem zStr_now {a : Nat} {t : List Int32} {M : zM} (hE : zEok X sl dy E) (hR : zRel E n K P Ir L M) (h : ztx dy a = some t) : zStr (fun _ => True) K P Ir (zEr E a) t := by
  obtain ⟨b, k1, m, k2, f1, f2, h1, h2, h3, h4, h5, h6, h7⟩ := hE.2.2.1 a t h
  obtain ⟨va, t0, -, -, -, -, -, hF⟩ := hR.2.2.2.2.2
  obtain ⟨-, -, a1, a2, a3, -⟩ := hF _ f1
  obtain ⟨-, -, b1, b2, b3, -⟩ := hF _ f2
  exact ⟨b, k1, m, k2, trivial, trivial, by rw [a1]; exact h1, h2, by rw [a2]; exact h3, by rw [b1]; exact h4, h5, by rw [a3]; exact h6, fun j x hj => by rw [b3]; exact h7 j x hj⟩
end ZPRIM
end
section
/-! A PRIMITIVE'S STEP -/
section ZPS
variable {l : Launch} {X : zX} {sl dy d bc bs mi pc : Nat} {E : zEnv} {n : Nat} {K : zKT} {P : zPT} {Ir : zIT} {L : zLT} {Post : zPost}
theorem zXh_false {bc bs x n' : Nat} {ls : List (Nat × Value)} {K' : zKT} {P' : zPT} {I' : zIT} {L' : zLT} {q : Option Value} (h : (Sum.inr x : zR) = .inl q) : zXh l X d bc bs mi pc ls x n' K' P' I' L' Post := nomatch h
theorem zcat_le {v : Value} {r : List Value} {ρ : Nat → Nat} (h : zsm (v :: r) = true) : ((zmS ρ r).map fun v => v.category).sum ≤ 8 := by
  rw [zmS_cat]
  have h1 := Nat.le_of_ble_eq_true h
  unfold zcat at h1 ⊢
  simp only [List.map_cons, List.sum_cons] at h1
  omega
theorem zcat_le2 {v w : Value} {r : List Value} {ρ : Nat → Nat} (h : zsm (v :: w :: r) = true) : ((zmS ρ r).map fun v => v.category).sum ≤ 8 := by
  rw [zmS_cat]
  have h1 := Nat.le_of_ble_eq_true h
  unfold zcat at h1 ⊢
  simp only [List.map_cons, List.sum_cons] at h1
  omega
theorem zq_prim (J : zJDK l X) {idx c r3 pc1 u : Nat} {ls ls1 : zLs} {st st1 : List Value} {I I1 : zM} (hE : zEok X sl dy E) (hR : zRel E n K P Ir L I) (hz : zl mi pc = some (.invokevirtual idx, 3, c, 3, r3)) (hs : zprim dy c (pc + 3) ls st I = some (.inl (pc1, ls1, st1, I1, u))) (hm : zsm st = true)
    (k : ∀ (n' : Nat) (K' : zKT) (P' : zPT) (Ir' : zIT) (L' : zLT), zRel E n' K' P' Ir' L' I1 → zV l X (d + 12) bc bs mi pc1 (zmL (zEr E) ls1) (zmS (zEr E) st1) n' K' P' Ir' L' Post) : zV l X (d + 12) (bc + u * 8) (bs + u * 400) mi pc (zmL (zEr E) ls) (zmS (zEr E) st) n K P Ir L Post := by
  obtain ⟨J206, J205, J209, J210, J208, J196, J197, -, -⟩ := J
  have hEF := hE.2.2.2.2
  have hr148 : zEr E 148 = zEB E + 148 := hE.1 148 (by decide)
  obtain ⟨r1, r2, r3', r4, r5, va, t, hb, r7, r8, r9, r10, r11⟩ := id hR
  obtain ⟨cap, b1, b2, b3, b4, b5, b6, b7, b8, b9, b10⟩ := id hb
  unfold zprim at hs
  split at hs
  -- append(int)
  · split at hs
    · rename_i x r
      split at hs
      · rename_i m hx hm0
        have hx := of_decide_eq_true hx
        split at hs
        · rename_i hn
          have hn := of_decide_eq_true hn
          cases hs
          have ht : Int32.ofNat t.length = m := r9 m hm0
          have htn : m.toNatClampNeg = t.length := by rw [← ht]; exact zn_of (by omega)
          have htl : t.length ≤ 60 := by
            have h1 := Int32.le_iff_toInt_le.mp hn.2
            rw [← ht, Int32.toInt_ofNat_of_lt (by omega)] at h1
            have : (60 : Int32).toInt = 60 := rfl
            omega
          have hv := zV_cv (bc2 := bc) (bs2 := bs) (ls := zmL (zEr E) ls) (rest := zmS (zEr E) r) (av := [.int x]) (Post := Post) hz (a := zEB E + 148) b1 (by decide) rfl rfl (by show 2 ≤ _; decide) (zcat_le2 hm) (J206 d n K P Ir L (zEB E + 148) va t x hb htl hx.1 hx.2)
            (fun v n' K' P' I' L' hq => by
              obtain ⟨e, va', g1, g2⟩ := hq
              cases e
              have hl := zdg_len x
              have := k n' K' P' I' L' (zRel_keep (t' := t ++ zdg x) hEF hR b2 g2 g1 (by simp; omega) (fun i j h1 h2 => by rw [zup_at, if_neg (by simp [h1]), zfold_at, if_neg (by simp [h2])]) (fun y hy => by
                rw [zup_at, if_pos ⟨rfl, rfl⟩] at hy
                cases hy
                rw [List.length_append, Int32.ofNat_add, ht]) (fun j y hj hy => by
                rw [zup_at, if_neg (by simp), zfold_at, htn] at hy
                by_cases hjt : t.length ≤ j
                · rw [if_pos ⟨rfl, hjt, by simpa using hj⟩] at hy
                  rw [List.getElem?_append_right hjt]
                  exact hy
                · rw [if_neg (by omega)] at hy
                  rw [List.getElem?_append_left (by omega)]
                  exact r10 j y (by omega) hy))
              rw [show zmS (zEr E) (.ref 148 :: r) = .ref (zEB E + 148) :: zmS (zEr E) r from by rw [← hr148]; rfl] at this
              exact this)
            (fun y n' K' P' I' L' _ hq => zXh_false hq.1)
          rw [show zmS (zEr E) (.int x :: .ref 148 :: r) = .int x :: .ref (zEB E + 148) :: zmS (zEr E) r from by rw [← hr148]; rfl]
          exact zV_bud (by omega) (by omega) hv
        · cases hs
      · cases hs
    · cases hs
  -- append(char)
  · split at hs
    · rename_i x r
      split at hs
      · rename_i m hx hm0
        have hx := of_decide_eq_true hx
        split at hs
        · rename_i hn
          have hn := of_decide_eq_true hn
          cases hs
          have ht : Int32.ofNat t.length = m := r9 m hm0
          have htn : m.toNatClampNeg = t.length := by rw [← ht]; exact zn_of (by omega)
          have htl : t.length ≤ 60 := by
            have h1 := Int32.le_iff_toInt_le.mp hn.2
            rw [← ht, Int32.toInt_ofNat_of_lt (by omega)] at h1
            have : (60 : Int32).toInt = 60 := rfl
            omega
          have hv := zV_cv (bc2 := bc) (bs2 := bs) (ls := zmL (zEr E) ls) (rest := zmS (zEr E) r) (av := [.int x]) (Post := Post) hz (a := zEB E + 148) b1 (by decide) rfl rfl (by show 2 ≤ _; decide) (zcat_le2 hm) (J205 d n K P Ir L (zEB E + 148) va t x hb htl hx.1 hx.2)
            (fun v n' K' P' I' L' hq => by
              obtain ⟨e, va', g1, g2⟩ := hq
              cases e
              have := k n' K' P' I' L' (zRel_keep (t' := t ++ [x]) hEF hR b2 g2 g1 (by simp; omega) (fun i j h1 h2 => by rw [zup_at, if_neg (by simp [h1]), zup_at, if_neg (by simp [h2])]) (fun y hy => by
                rw [zup_at, if_pos ⟨rfl, rfl⟩] at hy
                cases hy
                rw [List.length_append, Int32.ofNat_add, ht]
                rfl) (fun j y hj hy => by
                rw [zup_at, if_neg (by simp), zup_at, htn] at hy
                by_cases hjt : j = t.length
                · rw [if_pos ⟨rfl, hjt⟩] at hy
                  rw [List.getElem?_append_right (by omega), hjt]
                  simpa using hy
                · rw [if_neg (by simp [hjt])] at hy
                  simp at hj
                  rw [List.getElem?_append_left (by omega)]
                  exact r10 j y (by omega) hy))
              rw [show zmS (zEr E) (.ref 148 :: r) = .ref (zEB E + 148) :: zmS (zEr E) r from by rw [← hr148]; rfl] at this
              exact this)
            (fun y n' K' P' I' L' _ hq => zXh_false hq.1)
          rw [show zmS (zEr E) (.int x :: .ref 148 :: r) = .int x :: .ref (zEB E + 148) :: zmS (zEr E) r from by rw [← hr148]; rfl]
          exact zV_bud (by omega) (by omega) hv
        · cases hs
      · cases hs
    · cases hs
  -- setLength(0)
  · split at hs
    · rename_i x r
      split at hs
      · rename_i hx
        have hx0 := of_decide_eq_true hx
        subst hx0
        cases hs
        have hv := zV_cv (bc2 := bc) (bs2 := bs) (ls := zmL (zEr E) ls) (rest := zmS (zEr E) st1) (av := [.int 0]) (Post := Post) hz (a := zEB E + 148) b1 (by decide) rfl rfl (by show 2 ≤ _; decide) (zcat_le2 hm) (J209 d n K P Ir L (zEB E + 148) va t hb r7)
          (fun v n' K' P' I' L' hq => by
            obtain ⟨e, va', g1, g2⟩ := hq
            cases e
            exact k n' K' P' I' L' (zRel_keep (t' := []) hEF hR b2 g2 g1 (by decide) (fun i j h1 h2 => by rw [zup_at, if_neg (by simp [h1])]) (fun y hy => by
              rw [zup_at, if_pos ⟨rfl, rfl⟩] at hy
              cases hy
              rfl) (fun j y hj hy => absurd hj (Nat.not_lt_zero j))))
          (fun y n' K' P' I' L' _ hq => zXh_false hq.1)
        rw [show zmS (zEr E) (.int 0 :: .ref 148 :: st1) = .int 0 :: .ref (zEB E + 148) :: zmS (zEr E) st1 from by rw [← hr148]; rfl]
        exact zV_bud (by omega) (by omega) hv
      · cases hs
    · cases hs
  -- length()
  · split at hs
    · rename_i r
      split at hs
      · rename_i m hm0
        cases hs
        have ht : Int32.ofNat t.length = m := r9 m hm0
        have hv := zV_cv (bc2 := bc) (bs2 := bs) (ls := zmL (zEr E) ls) (rest := zmS (zEr E) r) (av := []) (Post := Post) hz (a := zEB E + 148) b1 (by decide) rfl rfl (by show 1 ≤ _; decide) (zcat_le hm) (J210 d n K P Ir L (zEB E + 148) va t hb)
          (fun v n' K' P' I' L' hq => by
            obtain ⟨e, rfl, rfl, rfl, rfl, rfl⟩ := hq
            cases e
            have := k _ _ _ _ _ hR
            rw [← ht] at this
            exact this)
          (fun y n' K' P' I' L' _ hq => zXh_false hq.1)
        rw [show zmS (zEr E) (.ref 148 :: r) = .ref (zEB E + 148) :: zmS (zEr E) r from by rw [← hr148]; rfl]
        exact zV_bud (by omega) (by omega) hv
      · cases hs
    · cases hs
  -- charAt(int)
  · split at hs
    · rename_i i r
      split at hs
      · rename_i m x hm0 hx
        split at hs
        · rename_i hd
          have hd := of_decide_eq_true hd
          cases hs
          have ht : Int32.ofNat t.length = m := r9 m hm0
          have hit : i.toNatClampNeg < t.length := by
            have h1 := Int32.lt_iff_toInt_lt.mp hd.2
            rw [← ht, Int32.toInt_ofNat_of_lt (by omega)] at h1
            have h2 := znn (Int32.not_lt.mpr hd.1)
            omega
          have htx : t[i.toNatClampNeg]? = some x := r10 _ _ hit hx
          have hv := zV_cv (bc2 := bc) (bs2 := bs) (ls := zmL (zEr E) ls) (rest := zmS (zEr E) r) (av := [.int i]) (Post := Post) hz (a := zEB E + 148) b1 (by decide) rfl rfl (by show 2 ≤ _; decide) (zcat_le2 hm) (J208 d n K P Ir L (zEB E + 148) va t i x hb r7 hd.1 htx)
            (fun v n' K' P' I' L' hq => by
              obtain ⟨e, rfl, rfl, rfl, rfl, rfl⟩ := hq
              cases e
              exact k _ _ _ _ _ hR)
            (fun y n' K' P' I' L' _ hq => zXh_false hq.1)
          rw [show zmS (zEr E) (.int i :: .ref 148 :: r) = .int i :: .ref (zEB E + 148) :: zmS (zEr E) r from by rw [← hr148]; rfl]
          exact zV_bud (by omega) (by omega) hv
        · cases hs
      · cases hs
    · cases hs
  -- String.length()
  · split at hs
    · rename_i a r
      split at hs
      · rename_i tt htt
        cases hs
        have hS := zStr_now hE hR htt
        obtain ⟨b, k1, m, k2, -, -, g1, g2, -⟩ := id hS
        have hv := zV_cvS (bc2 := bc) (bs2 := bs) (ls := zmL (zEr E) ls) (rest := zmS (zEr E) r) (av := []) (Post := Post) hz (a := zEr E a) g1 g2 rfl rfl (by show 1 ≤ _; decide) (zcat_le hm) (J196 d n K P Ir L (zEr E a) tt hS)
          (fun v n' K' P' I' L' hq => by
            obtain ⟨e, rfl, rfl, rfl, rfl, rfl⟩ := hq
            cases e
            exact k _ _ _ _ _ hR)
          (fun y n' K' P' I' L' _ hq => zXh_false hq.1)
        exact zV_bud (by omega) (by omega) hv
      · cases hs
    · cases hs
  -- String.charAt(int)
  · split at hs
    · rename_i i a r
      split at hs
      · rename_i tt htt
        split at hs
        · rename_i x hd hx
          have hd := of_decide_eq_true hd
          cases hs
          have hS := zStr_now hE hR htt
          obtain ⟨b, k1, m, k2, -, -, g1, g2, -⟩ := id hS
          have hv := zV_cvS (bc2 := bc) (bs2 := bs) (ls := zmL (zEr E) ls) (rest := zmS (zEr E) r) (av := [.int i]) (Post := Post) hz (a := zEr E a) g1 g2 rfl rfl (by show 2 ≤ _; decide) (zcat_le2 hm) (J197 d n K P Ir L (zEr E a) tt i x hS (ztx_len htt) hd hx)
            (fun v n' K' P' I' L' hq => by
              obtain ⟨e, rfl, rfl, rfl, rfl, rfl⟩ := hq
              cases e
              exact k _ _ _ _ _ hR)
            (fun y n' K' P' I' L' _ hq => zXh_false hq.1)
          exact zV_bud (by omega) (by omega) hv
        · cases hs
      · cases hs
    · cases hs
  · cases hs
end ZPS
end
section
/-! THE SIMULATION: a run of the interpreter is a run of the machine -/
theorem zcall_inv {c pc k : Nat} {st : List Value} {r : zRes} (h : zcall c pc k st = some r) : zwalk c = true ∧ zsm (st.drop k) = true ∧ k ≤ st.length ∧ zcat (st.take k) ≤ zL c ∧ r = .inr (.inr (.inr (c, pc, lv_args 0 (st.take k).reverse, st.drop k, 0))) := by
  unfold zcall at h
  split at h
  · rename_i hb
    simp only [Bool.and_eq_true] at hb
    exact ⟨hb.1.1.1, hb.1.1.2, Nat.le_of_ble_eq_true hb.1.2, Nat.le_of_ble_eq_true hb.2, (Option.some.inj h).symm⟩
  · cases h
def zisI : zRes → Bool
  | .inl _ => true
  | _ => false
theorem zprim_shape {dy c pc : Nat} {ls : zLs} {st : List Value} {I : zM} {r : zRes} (h : zprim dy c pc ls st I = some r) : zisI r = true := by
  unfold zprim znx at h
  repeat' split at h
  all_goals first | (cases h; rfl) | cases h
def zshape (i : Instr) (r : zRes) : Bool := match i with
  | .ireturn | .lreturn | .freturn | .dreturn | .areturn | .return_ => match r with
    | .inr (.inl _) => true
    | _ => false
  | .new _ => match r with
    | .inr (.inr _) => true
    | _ => false
  | .invokestatic _ | .invokevirtual _ => match r with
    | .inl _ => true
    | .inr (.inr (.inr _)) => true
    | _ => false
  | _ => zisI r
theorem zshape_of {sl dy mi pc len r1 r2 r3 : Nat} {i : Instr} {ls : zLs} {st : List Value} {I : zM} {r : zRes} (hs : zstep sl dy mi pc (i, len, r1, r2, r3) ls st I = some r) : zshape i r = true := by
  cases i with
  | iconst a0 => cases hs; rfl
  | bipush a0 => cases hs; rfl
  | sipush a0 => cases hs; rfl
  | lconst a0 => cases hs; rfl
  | fconst a0 => 
    match a0, hs with
    | 0, hs => cases hs; rfl
    | 1, hs => cases hs; rfl
    | 2, hs => cases hs; rfl
  | dconst a0 => 
    match a0, hs with
    | 0, hs => cases hs; rfl
    | 1, hs => cases hs; rfl
  | ldc a0 => rcases zldc_inv hs with ⟨-, rfl⟩ | ⟨-, rfl⟩ | ⟨-, rfl⟩ <;> rfl
  | ldc_w a0 => rcases zldc_inv hs with ⟨-, rfl⟩ | ⟨-, rfl⟩ | ⟨-, rfl⟩ <;> rfl
  | ldc2_w a0 => 
    simp only [zstep, znx, zjmp] at hs
    repeat' split at hs
    all_goals first | (cases hs; rfl) | cases hs
  | iload a0 => obtain ⟨v, -, -, rfl⟩ := zLd_inv hs; rfl
  | iload_n a0 => obtain ⟨v, -, -, rfl⟩ := zLd_inv hs; rfl
  | lload a0 => obtain ⟨v, -, -, rfl⟩ := zLd_inv hs; rfl
  | lload_n a0 => obtain ⟨v, -, -, rfl⟩ := zLd_inv hs; rfl
  | fload a0 => obtain ⟨v, -, -, rfl⟩ := zLd_inv hs; rfl
  | fload_n a0 => obtain ⟨v, -, -, rfl⟩ := zLd_inv hs; rfl
  | dload a0 => obtain ⟨v, -, -, rfl⟩ := zLd_inv hs; rfl
  | dload_n a0 => obtain ⟨v, -, -, rfl⟩ := zLd_inv hs; rfl
  | aload a0 => obtain ⟨v, -, -, rfl⟩ := zLd_inv hs; rfl
  | aload_n a0 => obtain ⟨v, -, -, rfl⟩ := zLd_inv hs; rfl
  | istore a0 => obtain ⟨v, r0, -, -, -, rfl⟩ := zSt_inv hs; rfl
  | istore_n a0 => obtain ⟨v, r0, -, -, -, rfl⟩ := zSt_inv hs; rfl
  | lstore a0 => obtain ⟨v, r0, -, -, -, rfl⟩ := zSt_inv hs; rfl
  | lstore_n a0 => obtain ⟨v, r0, -, -, -, rfl⟩ := zSt_inv hs; rfl
  | fstore a0 => obtain ⟨v, r0, -, -, -, rfl⟩ := zSt_inv hs; rfl
  | fstore_n a0 => obtain ⟨v, r0, -, -, -, rfl⟩ := zSt_inv hs; rfl
  | dstore a0 => obtain ⟨v, r0, -, -, -, rfl⟩ := zSt_inv hs; rfl
  | dstore_n a0 => obtain ⟨v, r0, -, -, -, rfl⟩ := zSt_inv hs; rfl
  | iinc a0 a1 => 
    simp only [zstep, znx, zjmp] at hs
    repeat' split at hs
    all_goals first | (cases hs; rfl) | cases hs
  | iadd => obtain ⟨x, y, r0, rfl, rfl⟩ := zi2_inv hs; rfl
  | isub => obtain ⟨x, y, r0, rfl, rfl⟩ := zi2_inv hs; rfl
  | imul => obtain ⟨x, y, r0, rfl, rfl⟩ := zi2_inv hs; rfl
  | iand => obtain ⟨x, y, r0, rfl, rfl⟩ := zi2_inv hs; rfl
  | ior => obtain ⟨x, y, r0, rfl, rfl⟩ := zi2_inv hs; rfl
  | ixor => obtain ⟨x, y, r0, rfl, rfl⟩ := zi2_inv hs; rfl
  | ishl => obtain ⟨x, y, r0, rfl, rfl⟩ := zi2_inv hs; rfl
  | ishr => obtain ⟨x, y, r0, rfl, rfl⟩ := zi2_inv hs; rfl
  | iushr => obtain ⟨x, y, r0, rfl, rfl⟩ := zi2_inv hs; rfl
  | idiv => 
    simp only [zstep, znx, zjmp] at hs
    repeat' split at hs
    all_goals first | (cases hs; rfl) | cases hs
  | irem => 
    simp only [zstep, znx, zjmp] at hs
    repeat' split at hs
    all_goals first | (cases hs; rfl) | cases hs
  | ladd => obtain ⟨x, y, r0, rfl, rfl⟩ := zl2_inv hs; rfl
  | lmul => obtain ⟨x, y, r0, rfl, rfl⟩ := zl2_inv hs; rfl
  | lor => obtain ⟨x, y, r0, rfl, rfl⟩ := zl2_inv hs; rfl
  | lxor => obtain ⟨x, y, r0, rfl, rfl⟩ := zl2_inv hs; rfl
  | ineg => 
    simp only [zstep, znx, zjmp] at hs
    repeat' split at hs
    all_goals first | (cases hs; rfl) | cases hs
  | lshl => 
    simp only [zstep, znx, zjmp] at hs
    repeat' split at hs
    all_goals first | (cases hs; rfl) | cases hs
  | lushr => 
    simp only [zstep, znx, zjmp] at hs
    repeat' split at hs
    all_goals first | (cases hs; rfl) | cases hs
  | i2l => 
    simp only [zstep, znx, zjmp] at hs
    repeat' split at hs
    all_goals first | (cases hs; rfl) | cases hs
  | i2f => 
    simp only [zstep, znx, zjmp] at hs
    repeat' split at hs
    all_goals first | (cases hs; rfl) | cases hs
  | i2d => 
    simp only [zstep, znx, zjmp] at hs
    repeat' split at hs
    all_goals first | (cases hs; rfl) | cases hs
  | f2i => 
    simp only [zstep, znx, zjmp] at hs
    repeat' split at hs
    all_goals first | (cases hs; rfl) | cases hs
  | d2l => 
    simp only [zstep, znx, zjmp] at hs
    repeat' split at hs
    all_goals first | (cases hs; rfl) | cases hs
  | lcmp => 
    simp only [zstep, znx, zjmp] at hs
    repeat' split at hs
    all_goals first | (cases hs; rfl) | cases hs
  | i2c => 
    simp only [zstep, znx, zjmp] at hs
    repeat' split at hs
    all_goals first | (cases hs; rfl) | cases hs
  | fcmp a0 => 
    simp only [zstep, znx, zjmp] at hs
    repeat' split at hs
    all_goals first | (cases hs; rfl) | cases hs
  | dcmp a0 => 
    simp only [zstep, znx, zjmp] at hs
    repeat' split at hs
    all_goals first | (cases hs; rfl) | cases hs
  | fmul => obtain ⟨x, y, r0, rfl, -, rfl⟩ := zf2_inv hs; rfl
  | fdiv => obtain ⟨x, y, r0, rfl, -, rfl⟩ := zf2_inv hs; rfl
  | fsub => obtain ⟨x, y, r0, rfl, -, rfl⟩ := zf2_inv hs; rfl
  | dmul => obtain ⟨x, y, r0, rfl, -, rfl⟩ := zd2_inv hs; rfl
  | ddiv => obtain ⟨x, y, r0, rfl, -, rfl⟩ := zd2_inv hs; rfl
  | dsub => obtain ⟨x, y, r0, rfl, -, rfl⟩ := zd2_inv hs; rfl
  | dup => 
    simp only [zstep, znx, zjmp] at hs
    repeat' split at hs
    all_goals first | (cases hs; rfl) | cases hs
  | pop => 
    simp only [zstep, znx, zjmp] at hs
    repeat' split at hs
    all_goals first | (cases hs; rfl) | cases hs
  | dup2 => 
    simp only [zstep, znx, zjmp] at hs
    repeat' split at hs
    all_goals first | (cases hs; rfl) | cases hs
  | goto a0 => obtain ⟨t, -, rfl⟩ := zjmp_inv hs; rfl
  | ifCond a0 a1 => 
    simp only [zstep, znx, zjmp] at hs
    repeat' split at hs
    all_goals first | (cases hs; rfl) | cases hs
  | if_icmp a0 a1 => 
    simp only [zstep, znx, zjmp] at hs
    repeat' split at hs
    all_goals first | (cases hs; rfl) | cases hs
  | tableswitch a0 a1 a2 a3 => 
    simp only [zstep, znx, zjmp] at hs
    repeat' split at hs
    all_goals first | (cases hs; rfl) | cases hs
  | lookupswitch a0 a1 => 
    simp only [zstep, znx, zjmp] at hs
    repeat' split at hs
    all_goals first | (cases hs; rfl) | cases hs
  | getfield a0 => 
    simp only [zstep, znx, zjmp] at hs
    repeat' split at hs
    all_goals first | (cases hs; rfl) | cases hs
  | putfield a0 => 
    simp only [zstep, znx, zjmp] at hs
    repeat' split at hs
    all_goals first | (cases hs; rfl) | cases hs
  | iaload => 
    simp only [zstep, znx, zjmp] at hs
    repeat' split at hs
    all_goals first | (cases hs; rfl) | cases hs
  | caload => 
    simp only [zstep, znx, zjmp] at hs
    repeat' split at hs
    all_goals first | (cases hs; rfl) | cases hs
  | aaload => 
    simp only [zstep, znx, zjmp] at hs
    repeat' split at hs
    all_goals first | (cases hs; rfl) | cases hs
  | iastore => 
    simp only [zstep, znx, zjmp] at hs
    repeat' split at hs
    all_goals first | (cases hs; rfl) | cases hs
  | castore => 
    simp only [zstep, znx, zjmp] at hs
    repeat' split at hs
    all_goals first | (cases hs; rfl) | cases hs
  | arraylength => 
    simp only [zstep, znx, zjmp] at hs
    repeat' split at hs
    all_goals first | (cases hs; rfl) | cases hs
  | ireturn =>
    simp only [zstep] at hs
    repeat' split at hs
    all_goals first | (cases hs; rfl) | cases hs
  | lreturn =>
    simp only [zstep] at hs
    repeat' split at hs
    all_goals first | (cases hs; rfl) | cases hs
  | freturn =>
    simp only [zstep] at hs
    repeat' split at hs
    all_goals first | (cases hs; rfl) | cases hs
  | dreturn =>
    simp only [zstep] at hs
    repeat' split at hs
    all_goals first | (cases hs; rfl) | cases hs
  | areturn =>
    simp only [zstep] at hs
    repeat' split at hs
    all_goals first | (cases hs; rfl) | cases hs
  | return_ =>
    simp only [zstep] at hs
    repeat' split at hs
    all_goals first | (cases hs; rfl) | cases hs
  | new a0 =>
    simp only [zstep, zcat2] at hs
    repeat' split at hs
    all_goals first | (cases hs; rfl) | cases hs
  | invokestatic a0 =>
    simp only [zstep] at hs
    split at hs
    · obtain ⟨-, -, -, -, rfl⟩ := zcall_inv hs; rfl
    · obtain ⟨-, -, -, -, rfl⟩ := zcall_inv hs; rfl
    · obtain ⟨-, -, -, -, rfl⟩ := zcall_inv hs; rfl
    · simp only [znx] at hs
      repeat' split at hs
      all_goals first | (cases hs; rfl) | cases hs
    · simp only [znx, zi2] at hs
      repeat' split at hs
      all_goals first | (cases hs; rfl) | cases hs
    · cases hs
  | invokevirtual a0 =>
    simp only [zstep] at hs
    split at hs
    · split at hs
      · split at hs
        · obtain ⟨-, -, -, -, rfl⟩ := zcall_inv hs; rfl
        · cases hs
      · split at hs
        · have h1 := zprim_shape hs
          cases r with
          | inl q => rfl
          | inr q => cases h1
        · cases hs
    · cases hs
  | _ => simp [zstep] at hs
section ZSIM
variable {l : Launch} {X : zX} {sl dy d bc bs mi pc : Nat} {E : zEnv} {n : Nat} {K : zKT} {P : zPT} {Ir : zIT} {L : zLT} {Post : zPost}
/-- every step that goes on -/
theorem zq_step (J : zJDK l X) {i : Instr} {len r1 r2 r3 pc1 u : Nat} {ls ls1 : zLs} {st st1 : List Value} {I I1 : zM} (hE : zEok X sl dy E) (hR : zRel E n K P Ir L I) (hz : zl mi pc = some (i, len, r1, r2, r3)) (hs : zstep sl dy mi pc (i, len, r1, r2, r3) ls st I = some (.inl (pc1, ls1, st1, I1, u)))
    (k : ∀ (n' : Nat) (K' : zKT) (P' : zPT) (Ir' : zIT) (L' : zLT), zRel E n' K' P' Ir' L' I1 → zV l X (d + 12) bc bs mi pc1 (zmL (zEr E) ls1) (zmS (zEr E) st1) n' K' P' Ir' L' Post) : zV l X (d + 12) (bc + u * 8) (bs + u * 400) mi pc (zmL (zEr E) ls) (zmS (zEr E) st) n K P Ir L Post := by
  have hsh := zshape_of hs
  cases i with
  | iconst a0 => exact zV_bud (Nat.le_add_right _ _) (Nat.le_add_right _ _) (zq_iconst (d := d + 11) hE hR hz hs k)
  | bipush a0 => exact zV_bud (Nat.le_add_right _ _) (Nat.le_add_right _ _) (zq_bipush (d := d + 11) hE hR hz hs k)
  | sipush a0 => exact zV_bud (Nat.le_add_right _ _) (Nat.le_add_right _ _) (zq_sipush (d := d + 11) hE hR hz hs k)
  | lconst a0 => exact zV_bud (Nat.le_add_right _ _) (Nat.le_add_right _ _) (zq_lconst (d := d + 11) hE hR hz hs k)
  | fconst a0 => exact zV_bud (Nat.le_add_right _ _) (Nat.le_add_right _ _) (zq_fconst (d := d + 11) hE hR hz hs k)
  | dconst a0 => exact zV_bud (Nat.le_add_right _ _) (Nat.le_add_right _ _) (zq_dconst (d := d + 11) hE hR hz hs k)
  | ldc a0 => exact zV_bud (Nat.le_add_right _ _) (Nat.le_add_right _ _) (zq_ldc (d := d + 11) hE hR hz hs k)
  | ldc_w a0 => exact zV_bud (Nat.le_add_right _ _) (Nat.le_add_right _ _) (zq_ldc_w (d := d + 11) hE hR hz hs k)
  | ldc2_w a0 => exact zV_bud (Nat.le_add_right _ _) (Nat.le_add_right _ _) (zq_ldc2_w (d := d + 11) hE hR hz hs k)
  | iload a0 => exact zV_bud (Nat.le_add_right _ _) (Nat.le_add_right _ _) (zq_iload (d := d + 11) hE hR hz hs k)
  | iload_n a0 => exact zV_bud (Nat.le_add_right _ _) (Nat.le_add_right _ _) (zq_iload_n (d := d + 11) hE hR hz hs k)
  | lload a0 => exact zV_bud (Nat.le_add_right _ _) (Nat.le_add_right _ _) (zq_lload (d := d + 11) hE hR hz hs k)
  | lload_n a0 => exact zV_bud (Nat.le_add_right _ _) (Nat.le_add_right _ _) (zq_lload_n (d := d + 11) hE hR hz hs k)
  | fload a0 => exact zV_bud (Nat.le_add_right _ _) (Nat.le_add_right _ _) (zq_fload (d := d + 11) hE hR hz hs k)
  | fload_n a0 => exact zV_bud (Nat.le_add_right _ _) (Nat.le_add_right _ _) (zq_fload_n (d := d + 11) hE hR hz hs k)
  | dload a0 => exact zV_bud (Nat.le_add_right _ _) (Nat.le_add_right _ _) (zq_dload (d := d + 11) hE hR hz hs k)
  | dload_n a0 => exact zV_bud (Nat.le_add_right _ _) (Nat.le_add_right _ _) (zq_dload_n (d := d + 11) hE hR hz hs k)
  | aload a0 => exact zV_bud (Nat.le_add_right _ _) (Nat.le_add_right _ _) (zq_aload (d := d + 11) hE hR hz hs k)
  | aload_n a0 => exact zV_bud (Nat.le_add_right _ _) (Nat.le_add_right _ _) (zq_aload_n (d := d + 11) hE hR hz hs k)
  | istore a0 => exact zV_bud (Nat.le_add_right _ _) (Nat.le_add_right _ _) (zq_istore (d := d + 11) hE hR hz hs k)
  | istore_n a0 => exact zV_bud (Nat.le_add_right _ _) (Nat.le_add_right _ _) (zq_istore_n (d := d + 11) hE hR hz hs k)
  | lstore a0 => exact zV_bud (Nat.le_add_right _ _) (Nat.le_add_right _ _) (zq_lstore (d := d + 11) hE hR hz hs k)
  | lstore_n a0 => exact zV_bud (Nat.le_add_right _ _) (Nat.le_add_right _ _) (zq_lstore_n (d := d + 11) hE hR hz hs k)
  | fstore a0 => exact zV_bud (Nat.le_add_right _ _) (Nat.le_add_right _ _) (zq_fstore (d := d + 11) hE hR hz hs k)
  | fstore_n a0 => exact zV_bud (Nat.le_add_right _ _) (Nat.le_add_right _ _) (zq_fstore_n (d := d + 11) hE hR hz hs k)
  | dstore a0 => exact zV_bud (Nat.le_add_right _ _) (Nat.le_add_right _ _) (zq_dstore (d := d + 11) hE hR hz hs k)
  | dstore_n a0 => exact zV_bud (Nat.le_add_right _ _) (Nat.le_add_right _ _) (zq_dstore_n (d := d + 11) hE hR hz hs k)
  | iinc a0 a1 => exact zV_bud (Nat.le_add_right _ _) (Nat.le_add_right _ _) (zq_iinc (d := d + 11) hE hR hz hs k)
  | iadd => exact zV_bud (Nat.le_add_right _ _) (Nat.le_add_right _ _) (zq_iadd (d := d + 11) hE hR hz hs k)
  | isub => exact zV_bud (Nat.le_add_right _ _) (Nat.le_add_right _ _) (zq_isub (d := d + 11) hE hR hz hs k)
  | imul => exact zV_bud (Nat.le_add_right _ _) (Nat.le_add_right _ _) (zq_imul (d := d + 11) hE hR hz hs k)
  | iand => exact zV_bud (Nat.le_add_right _ _) (Nat.le_add_right _ _) (zq_iand (d := d + 11) hE hR hz hs k)
  | ior => exact zV_bud (Nat.le_add_right _ _) (Nat.le_add_right _ _) (zq_ior (d := d + 11) hE hR hz hs k)
  | ixor => exact zV_bud (Nat.le_add_right _ _) (Nat.le_add_right _ _) (zq_ixor (d := d + 11) hE hR hz hs k)
  | ishl => exact zV_bud (Nat.le_add_right _ _) (Nat.le_add_right _ _) (zq_ishl (d := d + 11) hE hR hz hs k)
  | ishr => exact zV_bud (Nat.le_add_right _ _) (Nat.le_add_right _ _) (zq_ishr (d := d + 11) hE hR hz hs k)
  | iushr => exact zV_bud (Nat.le_add_right _ _) (Nat.le_add_right _ _) (zq_iushr (d := d + 11) hE hR hz hs k)
  | idiv => exact zV_bud (Nat.le_add_right _ _) (Nat.le_add_right _ _) (zq_idiv (d := d + 11) hE hR hz hs k)
  | irem => exact zV_bud (Nat.le_add_right _ _) (Nat.le_add_right _ _) (zq_irem (d := d + 11) hE hR hz hs k)
  | ladd => exact zV_bud (Nat.le_add_right _ _) (Nat.le_add_right _ _) (zq_ladd (d := d + 11) hE hR hz hs k)
  | lmul => exact zV_bud (Nat.le_add_right _ _) (Nat.le_add_right _ _) (zq_lmul (d := d + 11) hE hR hz hs k)
  | lor => exact zV_bud (Nat.le_add_right _ _) (Nat.le_add_right _ _) (zq_lor (d := d + 11) hE hR hz hs k)
  | lxor => exact zV_bud (Nat.le_add_right _ _) (Nat.le_add_right _ _) (zq_lxor (d := d + 11) hE hR hz hs k)
  | ineg => exact zV_bud (Nat.le_add_right _ _) (Nat.le_add_right _ _) (zq_ineg (d := d + 11) hE hR hz hs k)
  | lshl => exact zV_bud (Nat.le_add_right _ _) (Nat.le_add_right _ _) (zq_lshl (d := d + 11) hE hR hz hs k)
  | lushr => exact zV_bud (Nat.le_add_right _ _) (Nat.le_add_right _ _) (zq_lushr (d := d + 11) hE hR hz hs k)
  | i2l => exact zV_bud (Nat.le_add_right _ _) (Nat.le_add_right _ _) (zq_i2l (d := d + 11) hE hR hz hs k)
  | i2f => exact zV_bud (Nat.le_add_right _ _) (Nat.le_add_right _ _) (zq_i2f (d := d + 11) hE hR hz hs k)
  | i2d => exact zV_bud (Nat.le_add_right _ _) (Nat.le_add_right _ _) (zq_i2d (d := d + 11) hE hR hz hs k)
  | f2i => exact zV_bud (Nat.le_add_right _ _) (Nat.le_add_right _ _) (zq_f2i (d := d + 11) hE hR hz hs k)
  | d2l => exact zV_bud (Nat.le_add_right _ _) (Nat.le_add_right _ _) (zq_d2l (d := d + 11) hE hR hz hs k)
  | lcmp => exact zV_bud (Nat.le_add_right _ _) (Nat.le_add_right _ _) (zq_lcmp (d := d + 11) hE hR hz hs k)
  | i2c => exact zV_bud (Nat.le_add_right _ _) (Nat.le_add_right _ _) (zq_i2c (d := d + 11) hE hR hz hs k)
  | fcmp a0 => exact zV_bud (Nat.le_add_right _ _) (Nat.le_add_right _ _) (zq_fcmp (d := d + 11) hE hR hz hs k)
  | dcmp a0 => exact zV_bud (Nat.le_add_right _ _) (Nat.le_add_right _ _) (zq_dcmp (d := d + 11) hE hR hz hs k)
  | fmul => exact zV_bud (Nat.le_add_right _ _) (Nat.le_add_right _ _) (zq_fmul (d := d + 11) hE hR hz hs k)
  | fdiv => exact zV_bud (Nat.le_add_right _ _) (Nat.le_add_right _ _) (zq_fdiv (d := d + 11) hE hR hz hs k)
  | fsub => exact zV_bud (Nat.le_add_right _ _) (Nat.le_add_right _ _) (zq_fsub (d := d + 11) hE hR hz hs k)
  | dmul => exact zV_bud (Nat.le_add_right _ _) (Nat.le_add_right _ _) (zq_dmul (d := d + 11) hE hR hz hs k)
  | ddiv => exact zV_bud (Nat.le_add_right _ _) (Nat.le_add_right _ _) (zq_ddiv (d := d + 11) hE hR hz hs k)
  | dsub => exact zV_bud (Nat.le_add_right _ _) (Nat.le_add_right _ _) (zq_dsub (d := d + 11) hE hR hz hs k)
  | dup => exact zV_bud (Nat.le_add_right _ _) (Nat.le_add_right _ _) (zq_dup (d := d + 11) hE hR hz hs k)
  | pop => exact zV_bud (Nat.le_add_right _ _) (Nat.le_add_right _ _) (zq_pop (d := d + 11) hE hR hz hs k)
  | dup2 => exact zV_bud (Nat.le_add_right _ _) (Nat.le_add_right _ _) (zq_dup2 (d := d + 11) hE hR hz hs k)
  | goto a0 => exact zV_bud (Nat.le_add_right _ _) (Nat.le_add_right _ _) (zq_goto (d := d + 11) hE hR hz hs k)
  | ifCond a0 a1 => exact zV_bud (Nat.le_add_right _ _) (Nat.le_add_right _ _) (zq_ifCond (d := d + 11) hE hR hz hs k)
  | if_icmp a0 a1 => exact zV_bud (Nat.le_add_right _ _) (Nat.le_add_right _ _) (zq_if_icmp (d := d + 11) hE hR hz hs k)
  | tableswitch a0 a1 a2 a3 => exact zV_bud (Nat.le_add_right _ _) (Nat.le_add_right _ _) (zq_tableswitch (d := d + 11) hE hR hz hs k)
  | lookupswitch a0 a1 => exact zV_bud (Nat.le_add_right _ _) (Nat.le_add_right _ _) (zq_lookupswitch (d := d + 11) hE hR hz hs k)
  | getfield a0 => exact zV_bud (Nat.le_add_right _ _) (Nat.le_add_right _ _) (zq_getfield (d := d + 11) hE hR hz hs k)
  | putfield a0 => exact zV_bud (Nat.le_add_right _ _) (Nat.le_add_right _ _) (zq_putfield (d := d + 11) hE hR hz hs k)
  | iaload => exact zV_bud (Nat.le_add_right _ _) (Nat.le_add_right _ _) (zq_iaload (d := d + 11) hE hR hz hs k)
  | caload => exact zV_bud (Nat.le_add_right _ _) (Nat.le_add_right _ _) (zq_caload (d := d + 11) hE hR hz hs k)
  | aaload => exact zV_bud (Nat.le_add_right _ _) (Nat.le_add_right _ _) (zq_aaload (d := d + 11) hE hR hz hs k)
  | iastore => exact zV_bud (Nat.le_add_right _ _) (Nat.le_add_right _ _) (zq_iastore (d := d + 11) hE hR hz hs k)
  | castore => exact zV_bud (Nat.le_add_right _ _) (Nat.le_add_right _ _) (zq_castore (d := d + 11) hE hR hz hs k)
  | arraylength => exact zV_bud (Nat.le_add_right _ _) (Nat.le_add_right _ _) (zq_arraylength (d := d + 11) hE hR hz hs k)
  | ireturn => cases hsh
  | lreturn => cases hsh
  | freturn => cases hsh
  | dreturn => cases hsh
  | areturn => cases hsh
  | return_ => cases hsh
  | new a0 => cases hsh
  | invokestatic a0 =>
    obtain rfl : len = 3 := zlen_eq hz rfl
    refine zV_bud (Nat.le_add_right _ _) (Nat.le_add_right _ _) ?_
    simp only [zstep] at hs
    split at hs
    · obtain ⟨-, -, -, -, e⟩ := zcall_inv hs; cases e
    · obtain ⟨-, -, -, -, e⟩ := zcall_inv hs; cases e
    · obtain ⟨-, -, -, -, e⟩ := zcall_inv hs; cases e
    · split at hs
      · rename_i c dd ss rr
        split at hs
        · rename_i ns nd h1 h2
          split at hs
          · rename_i hb
            simp only [Bool.and_eq_true, decide_eq_true_eq, Bool.not_eq_true'] at hb
            obtain ⟨⟨⟨⟨⟨b1, b2⟩, b3⟩, b4⟩, b5⟩, -⟩ := hb
            cases hs
            have hss : ss < 148 := by
              rcases zkd_lt h1 with h | ⟨-, h⟩
              · exact h
              · cases h
            have hdd : dd < 148 := by
              rcases zkd_lt h2 with h | ⟨-, h⟩
              · exact h
              · cases h
            have hne : ss ≠ dd := fun e => by
              subst e
              rw [show Nat.beq ss ss = true from Nat.beq_refl ss] at b4
              cases b4
            have e1 := hE.1 ss (Nat.lt_trans hss (by decide))
            have e2 := hE.1 dd (Nat.lt_trans hdd (by decide))
            refine zV_copy (d := d + 11) hz (zRel_K hE hR h1) (zRel_K hE hR h2) ?_ (Int32.not_lt.mpr b1) (Nat.le_of_ble_eq_true b2) (Nat.le_of_ble_eq_true b3) (by rw [zmS_cat]; exact Nat.le_of_ble_eq_true b5) ?_
            · intro e
              rw [e1, e2] at e
              exact hne (Nat.add_left_cancel e)
            · have := k n K P _ L (zRel_cp (k := c.toNatClampNeg) hss hdd hne hE.2.2.2.2 hR)
              rw [e1, e2]
              exact this
          · cases hs
        · cases hs
      · cases hs
    · split at hs
      · split at hs
        · rename_i hm
          obtain ⟨x, y, r0, rfl, e⟩ := zi2_inv hs
          cases e
          exact zV_mmin (d := d + 11) hz (zcat_le2 hm) (k n K P Ir L hR)
        · cases hs
      · split at hs
        · rename_i hm
          obtain ⟨x, y, r0, rfl, e⟩ := zi2_inv hs
          cases e
          exact zV_mmax (d := d + 11) hz (zcat_le2 hm) (k n K P Ir L hR)
        · cases hs
      · split at hs
        · split at hs
          · rename_i hm
            cases hs
            exact zV_mabs (d := d + 11) hz (by rw [zmS_cat]; exact Nat.le_of_ble_eq_true hm) (k n K P Ir L hR)
          · cases hs
        · cases hs
      · cases hs
    · cases hs
  | invokevirtual a0 =>
    obtain rfl : len = 3 := zlen_eq hz rfl
    simp only [zstep] at hs
    split at hs
    · split at hs
      · split at hs
        · obtain ⟨-, -, -, -, e⟩ := zcall_inv hs; cases e
        · cases hs
      · split at hs
        · rename_i hm
          exact zq_prim J hE hR hz hs hm k
        · cases hs
    · cases hs
  | _ => simp [zstep] at hs
/-- a return -/
theorem zq_ret {i : Instr} {len r1 r2 r3 : Nat} {ls : zLs} {st : List Value} {I : zM} {v : Option Value} (hz : zl mi pc = some (i, len, r1, r2, r3)) (hs : zstep sl dy mi pc (i, len, r1, r2, r3) ls st I = some (.inr (.inl v))) (hp : Post (.inl (v.map (zmv (zEr E)))) n K P Ir L) : zV l X d bc bs mi pc (zmL (zEr E) ls) (zmS (zEr E) st) n K P Ir L Post := by
  have hsh := zshape_of hs
  cases i with
  | ireturn =>
    obtain rfl : len = 1 := zlen_eq hz rfl
    simp only [zstep] at hs
    split at hs
    · split at hs
      · rename_i ty hr
        split at hs
        · rename_i hn
          cases hs
          exact zV_ret hz hr (of_decide_eq_true hn) hp
        · cases hs
      · cases hs
    · cases hs
  | lreturn =>
    obtain rfl : len = 1 := zlen_eq hz rfl
    simp only [zstep] at hs
    split at hs
    · split at hs
      · rename_i hr
        cases hs
        exact zV_lret hz (of_decide_eq_true hr) hp
      · cases hs
    · cases hs
  | freturn =>
    obtain rfl : len = 1 := zlen_eq hz rfl
    simp only [zstep] at hs
    split at hs
    · split at hs
      · rename_i hr
        cases hs
        exact zV_fret hz (of_decide_eq_true hr) hp
      · cases hs
    · cases hs
  | dreturn =>
    obtain rfl : len = 1 := zlen_eq hz rfl
    simp only [zstep] at hs
    split at hs
    · split at hs
      · rename_i hr
        cases hs
        exact zV_dret hz (of_decide_eq_true hr) hp
      · cases hs
    · cases hs
  | areturn =>
    obtain rfl : len = 1 := zlen_eq hz rfl
    simp only [zstep] at hs
    split at hs
    · split at hs
      · rename_i hr
        cases hs
        exact zV_aret hz hr (Or.inl ⟨_, rfl⟩) hp
      · cases hs
    · cases hs
  | return_ =>
    obtain rfl : len = 1 := zlen_eq hz rfl
    simp only [zstep] at hs
    split at hs
    · split at hs
      · rename_i hr
        cases hs
        exact zV_vret hz hr hp
      · cases hs
    · cases hs
  | new a0 =>
    cases hsh
  | invokestatic a0 => cases hsh
  | invokevirtual a0 => cases hsh
  | _ => first | cases hsh | (simp [zstep] at hs; done)
/-- a throw -/
theorem zq_thr {i : Instr} {len r1 r2 r3 c : Nat} {ls : zLs} {st : List Value} {I : zM} (hz : zl mi pc = some (i, len, r1, r2, r3)) (hs : zstep sl dy mi pc (i, len, r1, r2, r3) ls st I = some (.inr (.inr (.inl c)))) (hp : ∀ n', n ≤ n' → Post (.inr c) n' K P Ir L) : zV l X (d + 12) (bc + 8) (bs + 400) mi pc (zmL (zEr E) ls) (zmS (zEr E) st) n K P Ir L Post := by
  have hsh := zshape_of hs
  cases i with
  | new a0 =>
    obtain rfl : len = 3 := zlen_eq hz rfl
    simp only [zstep] at hs
    split at hs
    · split at hs
      · rename_i hb
        simp only [Bool.and_eq_true] at hb
        obtain ⟨hb, hm⟩ := hb
        cases hs
        have hm := Nat.le_of_ble_eq_true hm
        refine zV_bud (bc := bc + 1) (bs := bs + 6) (by omega) (by omega) ?_
        unfold zthr at hb
        split at hb
        · rename_i h1 h2 h3
          split at hb
          · rename_i h4 h5
            obtain rfl := Nat.eq_of_beq_eq_true hb
            exact zV_throw (u2 := 0) (t2 := 0) hz h1 h2 h4 h5 h3 (by omega) (by rw [zmS_cat]; exact hm) hp
          · cases hb
        · rename_i h1 h2 h3
          split at hb
          · rename_i h4 h5
            obtain rfl := Nat.eq_of_beq_eq_true hb
            exact zV_throwW (u2 := 0) (t2 := 0) hz h1 h2 h4 h5 h3 (by omega) (by rw [zmS_cat]; exact hm) hp
          · cases hb
        · cases hb
      · cases hs
    · simp only [zcat2] at hs
      repeat' split at hs
      all_goals cases hs
    · cases hs
  | ireturn => cases hsh
  | lreturn => cases hsh
  | freturn => cases hsh
  | dreturn => cases hsh
  | areturn => cases hsh
  | return_ => cases hsh
  | invokestatic a0 => cases hsh
  | invokevirtual a0 => cases hsh
  | _ => first | cases hsh | (simp [zstep] at hs; done)
end ZSIM
end
section
/-! THE MAIN THEOREM OF THE SIMULATION -/
theorem zhd_split {c pc h : Nat} : ∀ {l : List (Nat × Nat × Nat × Nat)}, zhd c pc l = some h → ∃ (pre suf : List (Nat × Nat × Nat × Nat)) (z : Nat × Nat × Nat × Nat), l = pre ++ z :: suf ∧ (z.1 ≤ pc ∧ pc < z.2.1) ∧ z.2.2.2 = zcc c ∧ z.2.2.1 = h ∧ ∀ w ∈ pre, ¬ (w.1 ≤ pc ∧ pc < w.2.1) ∨ w.2.2.2 ≠ zcc c
  | [], e => by cases e
  | (a, b, g, t) :: r, e => by
    unfold zhd at e
    cases hb : Nat.ble a pc && Nat.ble (pc + 1) b && Nat.beq t (zcc c) with
    | true =>
      rw [hb] at e
      simp only [Bool.and_eq_true] at hb
      exact ⟨[], r, (a, b, g, t), rfl, ⟨Nat.le_of_ble_eq_true hb.1.1, Nat.le_of_ble_eq_true hb.1.2⟩, Nat.eq_of_beq_eq_true hb.2, Option.some.inj e, fun w hw => nomatch hw⟩
    | false =>
      rw [hb] at e
      obtain ⟨pre, suf, z, h1, h2, h3, h4, h5⟩ := zhd_split e
      refine ⟨(a, b, g, t) :: pre, suf, z, by rw [h1]; rfl, h2, h3, h4, fun w hw => ?_⟩
      rcases List.mem_cons.mp hw with rfl | hw
      · by_cases hc : a ≤ pc ∧ pc < b
        · right
          intro ht
          have : (Nat.ble a pc && Nat.ble (pc + 1) b && Nat.beq t (zcc c)) = true := by
            rw [Nat.ble_eq_true_of_le hc.1, Nat.ble_eq_true_of_le hc.2, show t = zcc c from ht]
            simp
          rw [this] at hb
          cases hb
        · exact Or.inl hc
      · exact h5 w hw
theorem zany_false {pc : Nat} {l : List (Nat × Nat × Nat × Nat)} (h : zany pc l = false) : ∀ z ∈ l, ¬ (z.1 ≤ pc ∧ pc < z.2.1) := by
  intro z hz hc
  have h1 : (Nat.ble z.1 pc && Nat.ble (pc + 1) z.2.1) = true := by
    rw [Nat.ble_eq_true_of_le hc.1, Nat.ble_eq_true_of_le hc.2]
    rfl
  have h2 : zany pc l = true := List.any_eq_true.mpr ⟨z, hz, h1⟩
  rw [h] at h2
  cases h2
/-- what an outcome says of the machine -/
def zro (ρ : Nat → Nat) (o : zO4) : zR := match o.1 with
  | 0 => .inl (o.2.1.map (zmv ρ))
  | c + 1 => .inr c
def zPo (E : zEnv) (o : zO4) : zPost := fun r n' K' P' I' L' => r = zro (zEr E) o ∧ zRel E n' K' P' I' L' o.2.2.1
section ZSIM2
variable {l : Launch} {X : zX} {sl dy d bc bs mi pc : Nat} {E : zEnv} {n : Nat} {K : zKT} {P : zPT} {Ir : zIT} {L : zLT} {Post : zPost}
theorem zV_fewer {ls ls' : List (Nat × Value)} {st : List Value} (h : ∀ q ∈ ls', q ∈ ls) (k : zV l X d bc bs mi pc ls' st n K P Ir L Post) : zV l X d bc bs mi pc ls st n K P Ir L Post :=
  fun p e R s m args below meth c H locs cells slots mc ms lsr S D hl => k p e R s m args below meth c H locs cells slots mc ms lsr S D ⟨hl.1, hl.2.1, fun q hq => hl.2.2 q (h q hq)⟩
theorem zsl_len (av : List Value) : (lg_sl av).length = zcat av := by
  unfold lg_sl zcat
  induction av with
  | nil => rfl
  | cons v r ih =>
    simp only [List.flatMap_cons, List.length_append, List.map_cons, List.sum_cons, ih]
    congr 1
    cases v <;> rfl
theorem zstk (ρ : Nat → Nat) (k : Nat) (st : List Value) : zmS ρ st = (zmS ρ (st.take k).reverse).reverse ++ zmS ρ (st.drop k) := by
  conv => lhs; rw [← List.take_append_drop k st]
  simp only [List.map_append, List.map_reverse, List.reverse_reverse]
theorem zcat_rev (st : List Value) : zcat st.reverse = zcat st := by
  unfold zcat
  rw [List.map_reverse, List.sum_reverse]
theorem zpush_map (ρ : Nat → Nat) (v : Option Value) (st : List Value) : (v.map (zmv ρ)).toList ++ zmS ρ st = zmS ρ (zpush v st) := by cases v <;> rfl
/-- what is thrown on here: caught, or not at all -/
theorem zq_caught {c : Nat} {ls : zLs} {I' : zM} {o : zO4} {u : Nat}
    (h : (zhd c pc (zH mi) = none ∧ zany pc (zH mi) = false ∧ o = (c + 1, none, I', u)) ∨ ∃ (pc2 : Nat) (ls2 : zLs), zcat3 mi pc c ls = some (pc2, ls2) ∧ zV l X d bc bs mi pc2 (zmL (zEr E) ls2) [] n K P Ir L (zPo E o)) (hR : zRel E n K P Ir L I') : zXh l X d bc bs mi pc (zmL (zEr E) ls) c n K P Ir L (zPo E o) := by
  rcases h with ⟨-, h2, rfl⟩ | ⟨pc2, ls2, h1, h2⟩
  · exact Or.inl ⟨zany_false h2, rfl, hR⟩
  · right
    unfold zcat3 at h1
    cases hh : zhd c pc (zH mi) with
    | none => rw [hh] at h1; cases h1
    | some g =>
      rw [hh] at h1
      obtain ⟨pre, suf, z, g1, g2, g3, g4, g5⟩ := zhd_split hh
      refine ⟨pre, suf, z, g1, g2, g3, g5, fun q => ?_⟩
      rw [g4]
      simp only at h1
      split at h1
      · rename_i i e1 e2 e3 hz
        split at h1
        · rename_i hb
          cases h1
          refine zV_astore_n hz (Nat.le_of_ble_eq_true hb) rfl (zV_fewer (fun y hy => ?_) h2)
          unfold zs1
          refine List.mem_cons_of_mem _ ?_
          rw [zfilter_map (zEr E) _ (fun y => by simp only [zmv_cat])]
          exact hy
        · cases h1
      · rename_i i e1 e2 e3 hz
        split at h1
        · rename_i hb
          cases h1
          refine zV_astore hz (Nat.le_of_ble_eq_true hb) rfl (zV_fewer (fun y hy => ?_) h2)
          unfold zs1
          refine List.mem_cons_of_mem _ ?_
          rw [zfilter_map (zEr E) _ (fun y => by simp only [zmv_cat])]
          exact hy
        · cases h1
      · cases h1
end ZSIM2
end
section
/-- a walked method's arguments: no texts are given to it but by the law's two places -/
theorem zrecv_inv {sl c : Nat} {st : List Value} (h : zrecv sl c st = true) : ∃ (a k m : Nat) (r : List Value), st.drop (zNP c) = .ref a :: r ∧ zkd sl a = some (k, m) ∧ k < 100 ∧ zcn k = zO c := by
  unfold zrecv at h
  split at h
  · rename_i a r hd
    split at h
    · rename_i k m hk
      simp only [Bool.and_eq_true, decide_eq_true_eq] at h
      exact ⟨a, k, m, r, hd, hk, Nat.le_of_ble_eq_true h.1, h.2⟩
    · cases h
  · cases h
theorem zkd_own {sl a k m : Nat} (h : zkd sl a = some (k, m)) (hk : k < 100) : vwCl[k]?.map (fun r => r.1) = some (zcn k) := by
  by_cases h9 : zof a = 99
  · unfold zkd at h
    rw [h9] at h
    simp only at h
    split at h <;> first | (cases h; rfl) | (cases h; omega) | cases h
  · unfold zkd at h
    split at h
    · cases h; rfl
    · cases h; omega
    · cases h; omega
    · cases h; omega
    · rename_i h1
      exact absurd h1 h9
    · cases h; omega
section ZMAIN
variable {l : Launch} {X : zX} {sl : Nat}
/-- the environment of a method that is given a built text -/
def zEtxt (E : zEnv) (n n' : Nat) (K' : zKT) (P' : zPT) (I' : zIT) (L' : zLT) (j q : Nat) : zEnv :=
  (zEB E, fun i => if i = j then q else zEr E i, fun a => zEF E a ∨ (n ≤ a ∧ a < n'), K', P', I', L')
theorem zstr_mono {F G : Nat → Prop} {K K' : zKT} {P P' : zPT} {I I' : zIT} {a : Nat} {t : List Int32} (h : zStr F K P I a t) (hFG : ∀ q, F q → G q) (he : ∀ q, F q → K' q = K q ∧ P' q = P q ∧ I' q = I q) : zStr G K' P' I' a t := by
  obtain ⟨b, k1, m, k2, f1, f2, h1, h2, h3, h4, h5, h6, h7⟩ := h
  obtain ⟨a1, a2, a3⟩ := he _ f1
  obtain ⟨b1, b2, b3⟩ := he _ f2
  exact ⟨b, k1, m, k2, hFG _ f1, hFG _ f2, by rw [a1]; exact h1, h2, by rw [a2]; exact h3, by rw [b1]; exact h4, h5, by rw [a3]; exact h6, fun j x hj => by rw [b3]; exact h7 j x hj⟩
theorem ztx_const {dy dy' a : Nat} (h : a < 5000) : ztx dy a = ztx dy' a := by
  unfold ztx
  have : Nat.ble 5000 a = false := by
    cases hb : Nat.ble 5000 a with
    | true => exact absurd (Nat.le_of_ble_eq_true hb) (by omega)
    | false => rfl
  rw [this]
theorem ztx_dy {dy a : Nat} {t : List Int32} (h : ztx dy a = some t) (ha : 5000 ≤ a) : a = dy := by
  unfold ztx at h
  rw [Nat.ble_eq_true_of_le ha] at h
  simp only at h
  cases hb : Nat.beq a dy with
  | true => exact Nat.eq_of_beq_eq_true hb
  | false => rw [hb] at h; cases h
theorem zEtxt_ok {dy j q n n' : Nat} {E : zEnv} {K K' : zKT} {P P' : zPT} {Ir I' : zIT} {L L' : zLT} {M : zM} {t : List Int32} (hE : zEok X sl dy E) (hR : zRel E n K P Ir L M) (hm : zMade n K P Ir L n' K' P' I' L' q t) (hj : 5000 ≤ j) (ht : ∀ t', ztx j j = some t' → t' = t) :
    zEok X sl j (zEtxt E n n' K' P' I' L' j q) ∧ zRel (zEtxt E n n' K' P' I' L' j q) n' K' P' I' L' M := by
  obtain ⟨m1, m2, m3⟩ := hm
  obtain ⟨e1, e2, e3, e4, e5⟩ := id hE
  obtain ⟨r1, r2, r3, r4, r5, va, t0, ⟨cap, b1, b2, b3, b4, b5, b6, b7, b8, b9, b10⟩, r7, r8, r9, r10, r11⟩ := id hR
  have old : ∀ a, zEF E a → K' a = zEK E a ∧ P' a = zEP E a ∧ I' a = zEI E a := fun a ha => by
    obtain ⟨g1, g2, g3, g4, g5, g6⟩ := r11 a ha
    obtain ⟨q1, q2, q3, q4⟩ := m3 a g1
    exact ⟨by rw [q1, g3], by rw [q2, g4], by rw [q3, g5]⟩
  have own : ∀ i, i < 150 → K' (zEB E + i) = K (zEB E + i) ∧ P' (zEB E + i) = P (zEB E + i) ∧ I' (zEB E + i) = Ir (zEB E + i) := fun i hi => by
    obtain ⟨q1, q2, q3, q4⟩ := m3 (zEB E + i) (by omega)
    exact ⟨q1, q2, q3⟩
  have hρ : ∀ i, i ≠ j → zEr (zEtxt E n n' K' P' I' L' j q) i = zEr E i := fun i hi => if_neg hi
  have hρj : zEr (zEtxt E n n' K' P' I' L' j q) j = q := if_pos rfl
  refine ⟨⟨fun i hi => ?_, ⟨?_, ?_⟩, fun i u hu => ?_, fun k hk => ?_, fun a ha => ?_⟩, Nat.le_trans r1 m1, fun i sl e hi he => ?_, fun i k w hw => ?_, fun i k x hi hx => ?_, fun k x hx => ?_, va, t0, ?_, r7, r8, r9, r10, fun a ha => ?_⟩
  · rw [hρ i (by omega)]; exact e1 i hi
  · rw [hρ 1000 (by omega)]; exact Or.inl e2.1
  · rw [hρ 1000 (by omega)]
    show K' (zEr E 1000) = _
    rw [(old _ e2.1).1]
    exact e2.2
  · by_cases hi : i < 5000
    · rw [hρ i (by omega)]
      rw [ztx_const (dy' := dy) hi] at hu
      exact zstr_mono (e3 i u hu) (fun a ha => Or.inl ha) (fun a ha => old a ha)
    · have hij := ztx_dy hu (by omega)
      subst hij
      rw [hρj, ht u hu]
      exact zstr_mono m2 (fun a ha => Or.inr ha) (fun a ha => ⟨rfl, rfl, rfl⟩)
  · rw [hρ _ (by omega)]; exact e4 k hk
  · rcases ha with ha | ha
    · exact e5 a ha
    · show ¬ (zEB E ≤ a ∧ a < zEB E + 150)
      omega
  · rw [show zEB (zEtxt E n n' K' P' I' L' j q) = zEB E from rfl, (own i hi).1]
    exact r2 i sl e hi he
  · have h1 := (zpd_lt hw).1
    rw [show zEB (zEtxt E n n' K' P' I' L' j q) = zEB E from rfl, (own i (by omega)).2.1]
    exact r3 i k w hw
  · rw [show zEB (zEtxt E n n' K' P' I' L' j q) = zEB E from rfl, (own i (by omega)).2.2]
    exact r4 i k x hi hx
  · rw [hρ 1000 (by omega)]
    show I' (zEr E 1000) k = x
    rw [(old _ e2.1).2.2]
    exact r5 k x hx
  · rw [show zEB (zEtxt E n n' K' P' I' L' j q) = zEB E from rfl]
    have h8 := own 148 (by omega)
    obtain ⟨q1, q2, q3, q4⟩ := m3 va b5
    exact ⟨cap, by rw [h8.1]; exact b1, by rw [h8.2.1]; exact b2, by rw [q1]; exact b3, b4, by omega, b6, b7, by rw [h8.2.2]; exact b8, by rw [h8.2.2]; exact b9, fun j x hj => by rw [q3]; exact b10 j x hj⟩
  · rcases ha with ha | ha
    · obtain ⟨g1, g2, -⟩ := r11 a ha
      exact ⟨by omega, g2, rfl, rfl, rfl, rfl⟩
    · exact ⟨ha.2, by omega, rfl, rfl, rfl, rfl⟩
theorem zEtxt_back {dy j q n n' : Nat} {E : zEnv} {K K' : zKT} {P P' : zPT} {Ir I' : zIT} {L L' : zLT} {M M' : zM} {t : List Int32} {n2 : Nat} {K2 : zKT} {P2 : zPT} {I2 : zIT} {L2 : zLT} (hE : zEok X sl dy E) (hR : zRel E n K P Ir L M) (hm : zMade n K P Ir L n' K' P' I' L' q t) (hj : 5000 ≤ j)
    (h2 : zRel (zEtxt E n n' K' P' I' L' j q) n2 K2 P2 I2 L2 M') : zRel E n2 K2 P2 I2 L2 M' := by
  obtain ⟨m1, m2, m3⟩ := hm
  obtain ⟨e1, e2, e3, e4, e5⟩ := id hE
  obtain ⟨-, -, -, -, -, va0, t0, -, -, -, -, -, r11⟩ := id hR
  obtain ⟨s1, s2, s3, s4, s5, va, t1, s6, s7, s8, s9, s10, s11⟩ := h2
  have old : ∀ a, zEF E a → K' a = zEK E a ∧ P' a = zEP E a ∧ I' a = zEI E a ∧ L' a = zEL E a := fun a ha => by
    obtain ⟨g1, g2, g3, g4, g5, g6⟩ := r11 a ha
    obtain ⟨q1, q2, q3, q4⟩ := m3 a g1
    exact ⟨by rw [q1, g3], by rw [q2, g4], by rw [q3, g5], by rw [q4, g6]⟩
  refine ⟨s1, s2, s3, s4, fun k x hx => ?_, va, t1, s6, s7, s8, s9, s10, fun a ha => ?_⟩
  · have := s5 k x hx
    rw [show zEr (zEtxt E n n' K' P' I' L' j q) 1000 = zEr E 1000 from if_neg (by omega)] at this
    rw [← (old _ e2.1).2.2.1]
    exact this
  · obtain ⟨g1, g2, g3, g4, g5, g6⟩ := s11 a (Or.inl ha)
    obtain ⟨o1, o2, o3, o4⟩ := old a ha
    exact ⟨g1, g2, g3.trans o1, g4.trans o2, g5.trans o3, g6.trans o4⟩
theorem zof_ref (p : Int32) (h0 : 0 ≤ p) : Int32.ofNat p.toNatClampNeg = p := by
  have h1 := znn (Int32.not_lt.mpr h0)
  rw [← Int32.toInt_inj, Int32.toInt_ofNat_of_lt (by have := Int32.toInt_lt p; omega), h1]
/-- A RUN OF THE INTERPRETER IS ONE OF THE MACHINE -/
theorem zsim (J : zJDK l X) : ∀ (N : Nat) {D dy mi pc : Nat} {ls : zLs} {st : List Value} {M : zM} {o : zO4}, zrun sl N D dy mi pc ls st M = some o → ∀ {E : zEnv} {n : Nat} {K : zKT} {P : zPT} {Ir : zIT} {L : zLT}, zEok X sl dy E → zRel E n K P Ir L M →
    zV l X (D + 12) (o.2.2.2 * 8) (o.2.2.2 * 400) mi pc (zmL (zEr E) ls) (zmS (zEr E) st) n K P Ir L (zPo E o) := by
  intro N
  induction N with
  | zero => intro D dy mi pc ls st M o h; simp [zrun] at h
  | succ N ih =>
    intro D dy mi pc ls st M o h E n K P Ir L hE hR
    unfold zrun at h
    cases hz : zl mi pc with
    | none => rw [hz] at h; simp at h
    | some e =>
      obtain ⟨i, len, r1, r2, r3⟩ := e
      rw [hz] at h
      simp only at h
      cases hs : zstep sl dy mi pc (i, len, r1, r2, r3) ls st M with
      | none => rw [hs] at h; simp at h
      | some r =>
        rw [hs] at h
        rcases r with ⟨pc', ls', st', I', u⟩ | v | c | ⟨m, pc', la, st', u0⟩
        · simp only [Option.map_eq_some_iff] at h
          obtain ⟨q, h1, rfl⟩ := h
          refine zV_bud (bc := q.2.2.2 * 8 + u * 8) (bs := q.2.2.2 * 400 + u * 400) (by simp only [zadd]; omega) (by simp only [zadd]; omega) ?_
          exact zq_step (Post := zPo E (zadd u q)) J hE hR hz hs (fun n' K' P' Ir' L' hR' => ih h1 hE hR')
        · cases h
          exact zV_bud (Nat.zero_le _) (Nat.zero_le _) (zq_ret (bc := 0) (bs := 0) hz hs ⟨rfl, hR⟩)
        · cases h
          exact zV_bud (bc := 0 + 8) (bs := 0 + 400) (by simp) (by simp) (zq_thr hz hs (fun n' hn => ⟨rfl, zRel_n hn hR⟩))
        · cases D with
          | zero => simp at h
          | succ D =>
            simp only at h
            cases hc : zrun sl N D (zdy u0 dy la) m 0 la [] M with
            | none => rw [hc] at h; simp at h
            | some oc =>
              rw [hc] at h
              obtain ⟨cc, v, I1, u1⟩ := oc
              -- what follows
              have key : ∃ w : Nat, o.2.2.2 = u1 + u0 + w ∧ (cc = 0 → zgd u0 v = true) ∧
                  (∀ (n' : Nat) (K' : zKT) (P' : zPT) (Ir' : zIT) (L' : zLT), cc = 0 → zRel E n' K' P' Ir' L' I1 → zV l X (D + 1 + 12) (w * 8) (w * 400) mi pc' (zmL (zEr E) ls) (zmS (zEr E) (zpush v st')) n' K' P' Ir' L' (zPo E o)) ∧
                  (∀ (c n' : Nat) (K' : zKT) (P' : zPT) (Ir' : zIT) (L' : zLT), cc = c + 1 → zRel E n' K' P' Ir' L' I1 → zXh l X (D + 1 + 12) (w * 8) (w * 400) mi pc (zmL (zEr E) ls) c n' K' P' Ir' L' (zPo E o)) ∧
                  (∀ c, cc = c + 1 → zH mi = [] → zro (zEr E) o = .inr c ∧ o.2.2.1 = I1) := by
                cases cc with
                | zero =>
                  simp only at h
                  cases hg : zgd u0 v with
                  | false => rw [hg] at h; cases h
                  | true =>
                    rw [hg] at h
                    simp only [Option.map_eq_some_iff] at h
                    obtain ⟨q, h1, rfl⟩ := h
                    exact ⟨q.2.2.2, by simp only [zadd]; omega, fun _ => rfl, fun n' K' P' Ir' L' _ hR' => ih h1 hE hR', fun c n' K' P' Ir' L' hc => (by cases hc), fun c hc => (by cases hc)⟩
                | succ c =>
                  simp only at h
                  cases hy : zhd c pc (zH mi) with
                  | none =>
                    rw [hy] at h
                    simp only at h
                    cases ha : zany pc (zH mi) with
                    | true => rw [ha] at h; cases h
                    | false =>
                      rw [ha] at h
                      cases h
                      exact ⟨0, rfl, fun hc => (by cases hc), fun n' K' P' Ir' L' hc => (by cases hc), fun c2 n' K' P' Ir' L' hc hR' => by
                        cases hc
                        exact zq_caught (Or.inl ⟨hy, ha, rfl⟩) hR', fun c2 hc _ => by cases hc; exact ⟨rfl, rfl⟩⟩
                  | some hh =>
                    rw [hy] at h
                    simp only at h
                    cases hz3 : zcat3 mi pc c ls with
                    | none => rw [hz3] at h; cases h
                    | some w =>
                      rw [hz3] at h
                      obtain ⟨pc2, ls2⟩ := w
                      simp only [Option.map_eq_some_iff] at h
                      obtain ⟨q, h1, rfl⟩ := h
                      exact ⟨q.2.2.2, by simp only [zadd]; omega, fun hc => (by cases hc), fun n' K' P' Ir' L' hc => (by cases hc), fun c2 n' K' P' Ir' L' hc hR' => by
                        cases hc
                        exact zq_caught (u := 0) (o := zadd (u1 + u0) q) (Or.inr ⟨pc2, ls2, hz3, ih h1 hE hR'⟩) hR', fun c2 hc hH => by
                        rw [hH] at hy
                        cases hy⟩
              obtain ⟨w, kw, kg, kr, kx, kn⟩ := key
              have hsh := zshape_of hs
              cases i with
              | invokestatic a0 =>
                obtain rfl : len = 3 := zlen_eq hz rfl
                have hst : (r2 = 0 ∨ r2 = 1 ∨ r2 = 2) ∧ zcall r1 (pc + 3) (zNP r1) st = some (.inr (.inr (.inr (m, pc', la, st', u0)))) := by
                  simp only [zstep] at hs
                  split at hs
                  · exact ⟨Or.inl rfl, hs⟩
                  · exact ⟨Or.inr (Or.inl rfl), hs⟩
                  · exact ⟨Or.inr (Or.inr rfl), hs⟩
                  · simp only [znx] at hs
                    repeat' split at hs
                    all_goals cases hs
                  · simp only [znx, zi2] at hs
                    repeat' split at hs
                    all_goals cases hs
                  · cases hs
                obtain ⟨hr2, hcl⟩ := hst
                obtain ⟨-, c2, c3, c4, e⟩ := zcall_inv hcl
                cases e
                have hav : (zmS (zEr E) (st.take (zNP r1)).reverse).length = zNP r1 := by simp; omega
                have hlen : (lg_sl (zmS (zEr E) (st.take (zNP r1)).reverse)).length ≤ zL r1 := by
                  rw [zsl_len]
                  show zcat _ ≤ _
                  have : zcat (zmS (zEr E) (st.take (zNP r1)).reverse) = zcat (st.take (zNP r1)) := by
                    rw [← zcat_rev (st.take (zNP r1))]
                    exact zmS_cat _ _
                  omega
                have hW : ((zmS (zEr E) (st.drop (zNP r1))).map fun v => v.category).sum ≤ 8 := by
                  rw [zmS_cat]
                  exact Nat.le_of_ble_eq_true c2
                have hcc : zC l X (D + 12) (u1 * 8) (u1 * 400) r1 (zmS (zEr E) (st.take (zNP r1)).reverse) n K P Ir L (zPo E (cc, v, I1, u1)) := by
                  unfold zC
                  rw [zargs_map]
                  exact ih hc hE hR
                have kk : ∀ (v' : Option Value) (n' : Nat) (K' : zKT) (P' : zPT) (I' : zIT) (L' : zLT), zPo E (cc, v, I1, u1) (.inl v') n' K' P' I' L' → zV l X (D + 12 + 1) (w * 8) (w * 400) mi (pc + 3) (zmL (zEr E) ls) (v'.toList ++ zmS (zEr E) (st.drop (zNP r1))) n' K' P' I' L' (zPo E o) := by
                  rintro v' n' K' P' I' L' ⟨e1, e2⟩
                  cases cc with
                  | zero =>
                    cases e1
                    rw [zpush_map]
                    exact kr n' K' P' I' L' rfl e2
                  | succ c => cases e1
                have kx' : ∀ (x n' : Nat) (K' : zKT) (P' : zPT) (I' : zIT) (L' : zLT), x < 6 → zPo E (cc, v, I1, u1) (.inr x) n' K' P' I' L' → zXh l X (D + 12 + 1) (w * 8) (w * 400) mi pc (zmL (zEr E) ls) x n' K' P' I' L' (zPo E o) := by
                  rintro x n' K' P' I' L' - ⟨e1, e2⟩
                  cases cc with
                  | zero => cases e1
                  | succ c =>
                    cases e1
                    exact kx _ n' K' P' I' L' rfl e2
                rw [zstk (zEr E) (zNP r1) st]
                refine zV_bud (bc := u1 * 8 + w * 8) (bs := u1 * 400 + w * 400) (by rw [kw]; omega) (by rw [kw]; omega) ?_
                rcases hr2 with rfl | rfl | rfl
                · exact zV_cs (d := D + 12) hz hav hlen hW hcc kk kx'
                · exact zV_csx (d := D + 12) hz hav hlen hW hcc kk kx'
                · exact zV_csn (d := D + 12) hz hav hlen hW hcc kk kx'
              | invokevirtual a0 =>
                obtain rfl : len = 3 := zlen_eq hz rfl
                have hst : r2 = 3 ∧ zrecv sl r1 st = true ∧ zcall r1 (pc + 3) (zNP r1 + 1) st = some (.inr (.inr (.inr (m, pc', la, st', u0)))) := by
                  simp only [zstep] at hs
                  split at hs
                  · split at hs
                    · split at hs
                      · rename_i hrc
                        exact ⟨rfl, hrc, hs⟩
                      · cases hs
                    · split at hs
                      · have h1 := zprim_shape hs
                        cases h1
                      · cases hs
                  · cases hs
                obtain ⟨rfl, hrc, hcl⟩ := hst
                obtain ⟨-, c2, c3, c4, e⟩ := zcall_inv hcl
                cases e
                obtain ⟨a, k0, m0, rr, hd, hk0, hk100, hcn⟩ := zrecv_inv hrc
                have ht : st.take (zNP r1 + 1) = st.take (zNP r1) ++ [.ref a] := by
                  have h1 : st[zNP r1]? = some (.ref a) := by
                    have : (st.drop (zNP r1))[0]? = some (.ref a) := by rw [hd]; rfl
                    simpa using this
                  rw [List.take_succ, h1]
                  rfl
                have hdr : st.drop (zNP r1 + 1) = rr := by
                  rw [← List.drop_drop, hd]
                  rfl
                have hst2 : zmS (zEr E) st = (zmS (zEr E) (st.take (zNP r1)).reverse).reverse ++ .ref (zEr E a) :: zmS (zEr E) rr := by
                  rw [zstk (zEr E) (zNP r1) st, hd]
                  rfl
                have hav : (zmS (zEr E) (st.take (zNP r1)).reverse).length = zNP r1 := by simp; omega
                have hrev : (st.take (zNP r1 + 1)).reverse = .ref a :: (st.take (zNP r1)).reverse := by rw [ht, List.reverse_append]; rfl
                have hlen : (lg_sl (.ref (zEr E a) :: zmS (zEr E) (st.take (zNP r1)).reverse)).length ≤ zL r1 := by
                  rw [zsl_len]
                  have : zcat (zmS (zEr E) (st.take (zNP r1 + 1)).reverse) = zcat (st.take (zNP r1 + 1)) := by
                    rw [← zcat_rev (st.take (zNP r1 + 1))]
                    exact zmS_cat _ _
                  rw [hrev] at this
                  have h2 : zcat (.ref (zEr E a) :: zmS (zEr E) (st.take (zNP r1)).reverse) = zcat (st.take (zNP r1 + 1)) := this
                  omega
                have hW : ((zmS (zEr E) rr).map fun v => v.category).sum ≤ 8 := by
                  rw [zmS_cat, ← hdr]
                  exact Nat.le_of_ble_eq_true c2
                have hcc : zC l X (D + 12) (u1 * 8) (u1 * 400) r1 (.ref (zEr E a) :: zmS (zEr E) (st.take (zNP r1)).reverse) n K P Ir L (zPo E (cc, v, I1, u1)) := by
                  unfold zC
                  have := ih hc hE hR
                  rw [hrev, ← zargs_map] at this
                  exact this
                have kk : ∀ (v' : Option Value) (n' : Nat) (K' : zKT) (P' : zPT) (I' : zIT) (L' : zLT), zPo E (cc, v, I1, u1) (.inl v') n' K' P' I' L' → zV l X (D + 12 + 1) (w * 8) (w * 400) mi (pc + 3) (zmL (zEr E) ls) (v'.toList ++ zmS (zEr E) rr) n' K' P' I' L' (zPo E o) := by
                  rintro v' n' K' P' I' L' ⟨e1, e2⟩
                  cases cc with
                  | zero =>
                    cases e1
                    have := kr n' K' P' I' L' rfl e2
                    rw [hdr] at this
                    rw [zpush_map]
                    exact this
                  | succ c => cases e1
                have kx' : ∀ (x n' : Nat) (K' : zKT) (P' : zPT) (I' : zIT) (L' : zLT), x < 6 → zPo E (cc, v, I1, u1) (.inr x) n' K' P' I' L' → zXh l X (D + 12 + 1) (w * 8) (w * 400) mi pc (zmL (zEr E) ls) x n' K' P' I' L' (zPo E o) := by
                  rintro x n' K' P' I' L' - ⟨e1, e2⟩
                  cases cc with
                  | zero => cases e1
                  | succ c =>
                    cases e1
                    exact kx _ n' K' P' I' L' rfl e2
                rw [hst2]
                refine zV_bud (bc := u1 * 8 + w * 8) (bs := u1 * 400 + w * 400) (by rw [kw]; omega) (by rw [kw]; omega) ?_
                exact zV_cv (d := D + 12) hz (zRel_K hE hR hk0) hk100 (by rw [zkd_own hk0 hk100, hcn]) hav hlen hW hcc kk kx'
              | new a0 =>
                have hst : ∃ (p j : Nat) (x : Int32) (a b : String), mi = 176 ∧ st = [.ref 0] ∧ zlk ls j = some (.int x) ∧ 0 ≤ x ∧ x < 13 ∧ m = 173 ∧ pc' = 355 ∧ st' = [] ∧ u0 = 1 ∧ la = [(0, .ref 0), (1, .ref p)] ∧ 5000 ≤ p ∧ (∀ t, ztx p p = some t → t = zch a ++ zdg x ++ zch b) ∧ zJtxt l X pc j a b := by
                  simp only [zstep] at hs
                  split at hs
                  · split at hs
                    · cases hs
                    · cases hs
                  · unfold zcat2 at hs
                    split at hs
                    · rename_i hmi
                      split at hs
                      · split at hs
                        · rename_i x hx
                          split at hs
                          · rename_i hd
                            have hd := of_decide_eq_true hd
                            cases hs
                            refine ⟨_, 3, x, "wait;valve ", " 3", Nat.eq_of_beq_eq_true hmi, rfl, hx, hd.1, hd.2, rfl, rfl, rfl, rfl, rfl, Nat.le_add_right _ _, fun t ht => ?_, J.2.2.2.2.2.2.2.1⟩
                            have h13 : x.toNatClampNeg < 100 := by
                              have h1 := znn (Int32.not_lt.mpr hd.1)
                              have h2 := Int32.lt_iff_toInt_lt.mp hd.2
                              have : (13 : Int32).toInt = 13 := rfl
                              omega
                            unfold ztx at ht
                            rw [Nat.ble_eq_true_of_le (Nat.le_add_right 5000 _), Nat.beq_refl] at ht
                            have h51 : Nat.ble 5100 (5000 + x.toNatClampNeg) = false := by
                              cases hb : Nat.ble 5100 (5000 + x.toNatClampNeg) with
                              | true => exact absurd (Nat.le_of_ble_eq_true hb) (by omega)
                              | false => rfl
                            simp only [h51] at ht
                            rw [← Option.some.inj ht, show 5000 + x.toNatClampNeg - 5000 = x.toNatClampNeg by omega, zof_ref x hd.1]
                          · cases hs
                        · cases hs
                      · split at hs
                        · rename_i x hx
                          split at hs
                          · rename_i hd
                            have hd := of_decide_eq_true hd
                            cases hs
                            refine ⟨_, 2, x, "pour 0 1/h;draw ", " 2", Nat.eq_of_beq_eq_true hmi, rfl, hx, hd.1, Int32.lt_of_lt_of_le hd.2 (by decide), rfl, rfl, rfl, rfl, rfl, by omega, fun t ht => ?_, J.2.2.2.2.2.2.2.2⟩
                            unfold ztx at ht
                            rw [Nat.ble_eq_true_of_le (show 5000 ≤ 5100 + x.toNatClampNeg by omega), Nat.beq_refl] at ht
                            simp only [Nat.ble_eq_true_of_le (Nat.le_add_right 5100 _)] at ht
                            rw [← Option.some.inj ht, show 5100 + x.toNatClampNeg - 5100 = x.toNatClampNeg by omega, zof_ref x hd.1]
                          · cases hs
                        · cases hs
                      · cases hs
                    · cases hs
                  · cases hs
                obtain ⟨p, j, x, a, b, rfl, rfl, hx, hx0, hx13, rfl, rfl, rfl, rfl, rfl, hp, htx, hJ⟩ := hst
                have hlx : zlk (zmL (zEr E) ls) j = some (.int x) := by rw [zlk_map, hx]; rfl
                refine zV_bud (bc := u1 * 8 + w * 8 + 8) (bs := u1 * 400 + w * 400 + 400) (by rw [kw]; omega) (by rw [kw]; omega) ?_
                refine hJ (D + 1) (u1 * 8 + w * 8) (u1 * 400 + w * 400) n K P Ir L (zmL (zEr E) ls) (zEr E 0) x (zPo E o) hlx hx0 hx13 (fun n' K' P' I' L' q hm => ?_)
                obtain ⟨hE2, hR2⟩ := zEtxt_ok hE hR hm hp htx
                have hcc : zC l X (D + 12) (u1 * 8) (u1 * 400) 173 [.ref (zEr E 0), .ref q] n' K' P' I' L' (zPo (zEtxt E n n' K' P' I' L' p q) (cc, v, I1, u1)) := by
                  unfold zC
                  have := ih hc hE2 hR2
                  rw [show zmL (zEr (zEtxt E n n' K' P' I' L' p q)) [(0, .ref 0), (1, .ref p)] = lv_args 0 [.ref (zEr E 0), .ref q] from by
                    show [(0, Value.ref (zEr (zEtxt E n n' K' P' I' L' p q) 0)), (1, Value.ref (zEr (zEtxt E n n' K' P' I' L' p q) p))] = [(0, Value.ref (zEr E 0)), (1, Value.ref q)]
                    rw [show zEr (zEtxt E n n' K' P' I' L' p q) 0 = zEr E 0 from if_neg (by omega), show zEr (zEtxt E n n' K' P' I' L' p q) p = q from if_pos rfl]] at this
                  exact this
                refine zV_cs (d := D + 12) (av := [.ref (zEr E 0), .ref q]) (rest := []) (idx := 289) (r3 := 1376) (by decide +kernel) rfl (by show 2 ≤ _; decide) (by decide) hcc ?_ ?_
                · rintro v' n2 K2 P2 I2 L2 ⟨e1, e2⟩
                  cases cc with
                  | zero =>
                    cases e1
                    have hg := kg rfl
                    have := kr n2 K2 P2 I2 L2 rfl (zEtxt_back hE hR hm hp e2)
                    match v, hg, this with
                    | some (.int z), _, this => exact this
                  | succ c => cases e1
                · rintro y n2 K2 P2 I2 L2 - ⟨e1, e2⟩
                  cases cc with
                  | zero => cases e1
                  | succ c =>
                    cases e1
                    obtain ⟨g1, g2⟩ := kn y rfl rfl
                    left
                    refine ⟨fun z hz => (nomatch (show z ∈ ([] : List (Nat × Nat × Nat × Nat)) from hz)), g1.symm, ?_⟩
                    rw [g2]
                    exact zEtxt_back hE hR hm hp e2
              | ireturn => cases hsh
              | lreturn => cases hsh
              | freturn => cases hsh
              | dreturn => cases hsh
              | areturn => cases hsh
              | return_ => cases hsh
              | _ => first | cases hsh | (simp [zstep] at hs; done)
end ZMAIN
end
section
/-! A RUN FROM A SMALLER MEMORY IS A RUN FROM A LARGER ONE -/
def zle (I J : zM) : Prop := ∀ (a k : Nat) (x : Int32), I a k = some x → J a k = some x
/-- the larger memory changes as the smaller one -/
def zmr (I' J J' : zM) : Prop := zle I' J' ∧ ∀ a k, J' a k = J a k ∨ ∃ x, I' a k = some x ∧ J' a k = some x
theorem zmr_refl {I J : zM} (h : zle I J) : zmr I J J := ⟨h, fun _ _ => Or.inl rfl⟩
/-- known cells stay known -/
def zkn (I I' : zM) : Prop := ∀ a k x, I a k = some x → ∃ y, I' a k = some y
theorem zmr_comp {I1 I2 J J1 J2 : zM} (h1 : zmr I1 J J1) (k2 : zkn I1 I2) (h2 : zmr I2 J1 J2) : zmr I2 J J2 := by
  refine ⟨h2.1, fun a k => ?_⟩
  rcases h2.2 a k with e | e
  · rcases h1.2 a k with e1 | ⟨x, e1, e2⟩
    · exact Or.inl (e.trans e1)
    · obtain ⟨y, hy⟩ := k2 a k x e1
      have h3 := h2.1 a k y hy
      exact Or.inr ⟨y, hy, h3⟩
  · exact Or.inr e
theorem zkn_trans {I1 I2 I3 : zM} (h1 : zkn I1 I2) (h2 : zkn I2 I3) : zkn I1 I3 := fun a k x hx => by
  obtain ⟨y, hy⟩ := h1 a k x hx
  exact h2 a k y hy
theorem zkn_refl (I : zM) : zkn I I := fun _ _ x h => ⟨x, h⟩
theorem zup_mr {I J J0 : zM} (h : zmr I J0 J) (a k : Nat) (x : Int32) : zmr (zup I a k x) J0 (zup J a k x) := by
  refine ⟨fun b j y hy => ?_, fun b j => ?_⟩
  · rw [zup_at] at hy ⊢
    split
    · rename_i hc; rw [if_pos hc] at hy; exact hy
    · rename_i hc; rw [if_neg hc] at hy; exact h.1 b j y hy
  · rw [zup_at, zup_at]
    split
    · exact Or.inr ⟨x, rfl, rfl⟩
    · exact h.2 b j
theorem zup_kn {I0 I : zM} (h : zkn I0 I) (a k : Nat) (x : Int32) : zkn I0 (zup I a k x) := by
  intro b j y hy
  rw [zup_at]
  split
  · exact ⟨x, rfl⟩
  · exact h b j y hy
theorem zcpm_mr {I J : zM} (h : zle I J) (s d n : Nat) (hk : (List.range n).all (fun j => (I s j).isSome) = true) : zmr (zcpm I s d n) J (zcpm J s d n) ∧ zkn I (zcpm I s d n) := by
  have hj : ∀ j, j < n → ∃ y, I s j = some y := fun j hj => Option.isSome_iff_exists.mp (List.all_eq_true.mp hk j (List.mem_range.mpr hj))
  refine ⟨⟨fun b j y hy => ?_, fun b j => ?_⟩, fun b j y hy => ?_⟩
  · rw [zcpm_at] at hy ⊢
    split
    · rename_i hc; rw [if_pos hc] at hy; exact h s j y hy
    · rename_i hc; rw [if_neg hc] at hy; exact h b j y hy
  · rw [zcpm_at, zcpm_at]
    split
    · rename_i hc
      obtain ⟨y, hy⟩ := hj j hc.2
      exact Or.inr ⟨y, hy, h s j y hy⟩
    · exact Or.inl rfl
  · rw [zcpm_at]
    split
    · rename_i hc
      exact hj j hc.2
    · exact ⟨y, hy⟩
theorem zfold_mr (cs : List Int32) : ∀ {I J J0 : zM} (k : Nat), zmr I J0 J → zmr (cs.foldl (fun (q : zM × Nat) ch => (zup q.1 149 q.2 ch, q.2 + 1)) (I, k)).1 J0 (cs.foldl (fun (q : zM × Nat) ch => (zup q.1 149 q.2 ch, q.2 + 1)) (J, k)).1 := by
  induction cs with
  | nil => intro I J J0 k h; exact h
  | cons c r ih => intro I J J0 k h; exact ih (k + 1) (zup_mr h 149 k c)
theorem zfold_kn (cs : List Int32) : ∀ {I0 I : zM} (k : Nat), zkn I0 I → zkn I0 (cs.foldl (fun (q : zM × Nat) ch => (zup q.1 149 q.2 ch, q.2 + 1)) (I, k)).1 := by
  induction cs with
  | nil => intro I0 I k h; exact h
  | cons c r ih => intro I0 I k h; exact ih (k + 1) (zup_kn h 149 k c)
/-- two steps' results -/
def zrs (I J : zM) (r r' : zRes) : Prop := match r with
  | .inl (p, l, s, I', u) => ∃ J', r' = .inl (p, l, s, J', u) ∧ zmr I' J J' ∧ zkn I I'
  | .inr x => r' = .inr x
def zsetM (J : zM) : zRes → zRes
  | .inl (p, l, s, _, u) => .inl (p, l, s, J, u)
  | .inr x => .inr x
def zkeeps (I : zM) : zRes → Prop
  | .inl (_, _, _, I', _) => I' = I
  | .inr _ => True
theorem zrs_free {I J : zM} {r : zRes} (h : zle I J) (hk : zkeeps I r) : zrs I J r (zsetM J r) := by
  rcases r with ⟨p, l, s, I', u⟩ | x
  · cases (show I' = I from hk)
    exact ⟨J, rfl, zmr_refl h, zkn_refl I⟩
  · rfl
def zfreeI : Instr → Bool
  | .getfield _ | .putfield _ | .iaload | .caload | .iastore | .castore | .invokestatic _ | .invokevirtual _ => false
  | _ => true
section ZMONO
variable {sl dy mi pc len r1 r2 r3 : Nat} {ls : zLs} {st : List Value} {I J : zM}
theorem zfree_of {i : Instr} {r : zRes} (hf : zfreeI i = true) (hs : zstep sl dy mi pc (i, len, r1, r2, r3) ls st I = some r) : zkeeps I r ∧ zstep sl dy mi pc (i, len, r1, r2, r3) ls st J = some (zsetM J r) := by
  cases i with
  | iconst a0 => cases hs; exact ⟨rfl, rfl⟩
  | bipush a0 => cases hs; exact ⟨rfl, rfl⟩
  | sipush a0 => cases hs; exact ⟨rfl, rfl⟩
  | lconst a0 => cases hs; exact ⟨rfl, rfl⟩
  | fconst a0 => match a0, hs with
    | 0, hs => cases hs; exact ⟨rfl, rfl⟩
    | 1, hs => cases hs; exact ⟨rfl, rfl⟩
    | 2, hs => cases hs; exact ⟨rfl, rfl⟩
  | dconst a0 => match a0, hs with
    | 0, hs => cases hs; exact ⟨rfl, rfl⟩
    | 1, hs => cases hs; exact ⟨rfl, rfl⟩
  | ldc a0 =>
    simp only [zstep, znx, zLd, zSt, zi2, zl2, zf2, zd2, zjmp, zldc, zcat2] at hs ⊢
    repeat' split at hs
    all_goals first | (cases hs; exact ⟨rfl, by simp_all [zsetM]⟩) | (cases hs; exact ⟨trivial, by simp_all [zsetM]⟩) | cases hs
  | ldc_w a0 =>
    simp only [zstep, znx, zLd, zSt, zi2, zl2, zf2, zd2, zjmp, zldc, zcat2] at hs ⊢
    repeat' split at hs
    all_goals first | (cases hs; exact ⟨rfl, by simp_all [zsetM]⟩) | (cases hs; exact ⟨trivial, by simp_all [zsetM]⟩) | cases hs
  | ldc2_w a0 =>
    simp only [zstep, znx, zLd, zSt, zi2, zl2, zf2, zd2, zjmp, zldc, zcat2] at hs ⊢
    repeat' split at hs
    all_goals first | (cases hs; exact ⟨rfl, by simp_all [zsetM]⟩) | (cases hs; exact ⟨trivial, by simp_all [zsetM]⟩) | cases hs
  | iload a0 =>
    simp only [zstep, znx, zLd, zSt, zi2, zl2, zf2, zd2, zjmp, zldc, zcat2] at hs ⊢
    repeat' split at hs
    all_goals first | (cases hs; exact ⟨rfl, by simp_all [zsetM]⟩) | (cases hs; exact ⟨trivial, by simp_all [zsetM]⟩) | cases hs
  | iload_n a0 =>
    simp only [zstep, znx, zLd, zSt, zi2, zl2, zf2, zd2, zjmp, zldc, zcat2] at hs ⊢
    repeat' split at hs
    all_goals first | (cases hs; exact ⟨rfl, by simp_all [zsetM]⟩) | (cases hs; exact ⟨trivial, by simp_all [zsetM]⟩) | cases hs
  | lload a0 =>
    simp only [zstep, znx, zLd, zSt, zi2, zl2, zf2, zd2, zjmp, zldc, zcat2] at hs ⊢
    repeat' split at hs
    all_goals first | (cases hs; exact ⟨rfl, by simp_all [zsetM]⟩) | (cases hs; exact ⟨trivial, by simp_all [zsetM]⟩) | cases hs
  | lload_n a0 =>
    simp only [zstep, znx, zLd, zSt, zi2, zl2, zf2, zd2, zjmp, zldc, zcat2] at hs ⊢
    repeat' split at hs
    all_goals first | (cases hs; exact ⟨rfl, by simp_all [zsetM]⟩) | (cases hs; exact ⟨trivial, by simp_all [zsetM]⟩) | cases hs
  | fload a0 =>
    simp only [zstep, znx, zLd, zSt, zi2, zl2, zf2, zd2, zjmp, zldc, zcat2] at hs ⊢
    repeat' split at hs
    all_goals first | (cases hs; exact ⟨rfl, by simp_all [zsetM]⟩) | (cases hs; exact ⟨trivial, by simp_all [zsetM]⟩) | cases hs
  | fload_n a0 =>
    simp only [zstep, znx, zLd, zSt, zi2, zl2, zf2, zd2, zjmp, zldc, zcat2] at hs ⊢
    repeat' split at hs
    all_goals first | (cases hs; exact ⟨rfl, by simp_all [zsetM]⟩) | (cases hs; exact ⟨trivial, by simp_all [zsetM]⟩) | cases hs
  | dload a0 =>
    simp only [zstep, znx, zLd, zSt, zi2, zl2, zf2, zd2, zjmp, zldc, zcat2] at hs ⊢
    repeat' split at hs
    all_goals first | (cases hs; exact ⟨rfl, by simp_all [zsetM]⟩) | (cases hs; exact ⟨trivial, by simp_all [zsetM]⟩) | cases hs
  | dload_n a0 =>
    simp only [zstep, znx, zLd, zSt, zi2, zl2, zf2, zd2, zjmp, zldc, zcat2] at hs ⊢
    repeat' split at hs
    all_goals first | (cases hs; exact ⟨rfl, by simp_all [zsetM]⟩) | (cases hs; exact ⟨trivial, by simp_all [zsetM]⟩) | cases hs
  | aload a0 =>
    simp only [zstep, znx, zLd, zSt, zi2, zl2, zf2, zd2, zjmp, zldc, zcat2] at hs ⊢
    repeat' split at hs
    all_goals first | (cases hs; exact ⟨rfl, by simp_all [zsetM]⟩) | (cases hs; exact ⟨trivial, by simp_all [zsetM]⟩) | cases hs
  | aload_n a0 =>
    simp only [zstep, znx, zLd, zSt, zi2, zl2, zf2, zd2, zjmp, zldc, zcat2] at hs ⊢
    repeat' split at hs
    all_goals first | (cases hs; exact ⟨rfl, by simp_all [zsetM]⟩) | (cases hs; exact ⟨trivial, by simp_all [zsetM]⟩) | cases hs
  | istore a0 =>
    simp only [zstep, znx, zLd, zSt, zi2, zl2, zf2, zd2, zjmp, zldc, zcat2] at hs ⊢
    repeat' split at hs
    all_goals first | (cases hs; exact ⟨rfl, by simp_all [zsetM]⟩) | (cases hs; exact ⟨trivial, by simp_all [zsetM]⟩) | cases hs
  | istore_n a0 =>
    simp only [zstep, znx, zLd, zSt, zi2, zl2, zf2, zd2, zjmp, zldc, zcat2] at hs ⊢
    repeat' split at hs
    all_goals first | (cases hs; exact ⟨rfl, by simp_all [zsetM]⟩) | (cases hs; exact ⟨trivial, by simp_all [zsetM]⟩) | cases hs
  | lstore a0 =>
    simp only [zstep, znx, zLd, zSt, zi2, zl2, zf2, zd2, zjmp, zldc, zcat2] at hs ⊢
    repeat' split at hs
    all_goals first | (cases hs; exact ⟨rfl, by simp_all [zsetM]⟩) | (cases hs; exact ⟨trivial, by simp_all [zsetM]⟩) | cases hs
  | lstore_n a0 =>
    simp only [zstep, znx, zLd, zSt, zi2, zl2, zf2, zd2, zjmp, zldc, zcat2] at hs ⊢
    repeat' split at hs
    all_goals first | (cases hs; exact ⟨rfl, by simp_all [zsetM]⟩) | (cases hs; exact ⟨trivial, by simp_all [zsetM]⟩) | cases hs
  | fstore a0 =>
    simp only [zstep, znx, zLd, zSt, zi2, zl2, zf2, zd2, zjmp, zldc, zcat2] at hs ⊢
    repeat' split at hs
    all_goals first | (cases hs; exact ⟨rfl, by simp_all [zsetM]⟩) | (cases hs; exact ⟨trivial, by simp_all [zsetM]⟩) | cases hs
  | fstore_n a0 =>
    simp only [zstep, znx, zLd, zSt, zi2, zl2, zf2, zd2, zjmp, zldc, zcat2] at hs ⊢
    repeat' split at hs
    all_goals first | (cases hs; exact ⟨rfl, by simp_all [zsetM]⟩) | (cases hs; exact ⟨trivial, by simp_all [zsetM]⟩) | cases hs
  | dstore a0 =>
    simp only [zstep, znx, zLd, zSt, zi2, zl2, zf2, zd2, zjmp, zldc, zcat2] at hs ⊢
    repeat' split at hs
    all_goals first | (cases hs; exact ⟨rfl, by simp_all [zsetM]⟩) | (cases hs; exact ⟨trivial, by simp_all [zsetM]⟩) | cases hs
  | dstore_n a0 =>
    simp only [zstep, znx, zLd, zSt, zi2, zl2, zf2, zd2, zjmp, zldc, zcat2] at hs ⊢
    repeat' split at hs
    all_goals first | (cases hs; exact ⟨rfl, by simp_all [zsetM]⟩) | (cases hs; exact ⟨trivial, by simp_all [zsetM]⟩) | cases hs
  | iinc a0 a1 =>
    simp only [zstep, znx, zLd, zSt, zi2, zl2, zf2, zd2, zjmp, zldc, zcat2] at hs ⊢
    repeat' split at hs
    all_goals first | (cases hs; exact ⟨rfl, by simp_all [zsetM]⟩) | (cases hs; exact ⟨trivial, by simp_all [zsetM]⟩) | cases hs
  | iadd =>
    simp only [zstep, znx, zLd, zSt, zi2, zl2, zf2, zd2, zjmp, zldc, zcat2] at hs ⊢
    repeat' split at hs
    all_goals first | (cases hs; exact ⟨rfl, by simp_all [zsetM]⟩) | (cases hs; exact ⟨trivial, by simp_all [zsetM]⟩) | cases hs
  | isub =>
    simp only [zstep, znx, zLd, zSt, zi2, zl2, zf2, zd2, zjmp, zldc, zcat2] at hs ⊢
    repeat' split at hs
    all_goals first | (cases hs; exact ⟨rfl, by simp_all [zsetM]⟩) | (cases hs; exact ⟨trivial, by simp_all [zsetM]⟩) | cases hs
  | imul =>
    simp only [zstep, znx, zLd, zSt, zi2, zl2, zf2, zd2, zjmp, zldc, zcat2] at hs ⊢
    repeat' split at hs
    all_goals first | (cases hs; exact ⟨rfl, by simp_all [zsetM]⟩) | (cases hs; exact ⟨trivial, by simp_all [zsetM]⟩) | cases hs
  | iand =>
    simp only [zstep, znx, zLd, zSt, zi2, zl2, zf2, zd2, zjmp, zldc, zcat2] at hs ⊢
    repeat' split at hs
    all_goals first | (cases hs; exact ⟨rfl, by simp_all [zsetM]⟩) | (cases hs; exact ⟨trivial, by simp_all [zsetM]⟩) | cases hs
  | ior =>
    simp only [zstep, znx, zLd, zSt, zi2, zl2, zf2, zd2, zjmp, zldc, zcat2] at hs ⊢
    repeat' split at hs
    all_goals first | (cases hs; exact ⟨rfl, by simp_all [zsetM]⟩) | (cases hs; exact ⟨trivial, by simp_all [zsetM]⟩) | cases hs
  | ixor =>
    simp only [zstep, znx, zLd, zSt, zi2, zl2, zf2, zd2, zjmp, zldc, zcat2] at hs ⊢
    repeat' split at hs
    all_goals first | (cases hs; exact ⟨rfl, by simp_all [zsetM]⟩) | (cases hs; exact ⟨trivial, by simp_all [zsetM]⟩) | cases hs
  | ishl =>
    simp only [zstep, znx, zLd, zSt, zi2, zl2, zf2, zd2, zjmp, zldc, zcat2] at hs ⊢
    repeat' split at hs
    all_goals first | (cases hs; exact ⟨rfl, by simp_all [zsetM]⟩) | (cases hs; exact ⟨trivial, by simp_all [zsetM]⟩) | cases hs
  | ishr =>
    simp only [zstep, znx, zLd, zSt, zi2, zl2, zf2, zd2, zjmp, zldc, zcat2] at hs ⊢
    repeat' split at hs
    all_goals first | (cases hs; exact ⟨rfl, by simp_all [zsetM]⟩) | (cases hs; exact ⟨trivial, by simp_all [zsetM]⟩) | cases hs
  | iushr =>
    simp only [zstep, znx, zLd, zSt, zi2, zl2, zf2, zd2, zjmp, zldc, zcat2] at hs ⊢
    repeat' split at hs
    all_goals first | (cases hs; exact ⟨rfl, by simp_all [zsetM]⟩) | (cases hs; exact ⟨trivial, by simp_all [zsetM]⟩) | cases hs
  | idiv =>
    simp only [zstep, znx, zLd, zSt, zi2, zl2, zf2, zd2, zjmp, zldc, zcat2] at hs ⊢
    repeat' split at hs
    all_goals first | (cases hs; exact ⟨rfl, by simp_all [zsetM]⟩) | (cases hs; exact ⟨trivial, by simp_all [zsetM]⟩) | cases hs
  | irem =>
    simp only [zstep, znx, zLd, zSt, zi2, zl2, zf2, zd2, zjmp, zldc, zcat2] at hs ⊢
    repeat' split at hs
    all_goals first | (cases hs; exact ⟨rfl, by simp_all [zsetM]⟩) | (cases hs; exact ⟨trivial, by simp_all [zsetM]⟩) | cases hs
  | ladd =>
    simp only [zstep, znx, zLd, zSt, zi2, zl2, zf2, zd2, zjmp, zldc, zcat2] at hs ⊢
    repeat' split at hs
    all_goals first | (cases hs; exact ⟨rfl, by simp_all [zsetM]⟩) | (cases hs; exact ⟨trivial, by simp_all [zsetM]⟩) | cases hs
  | lmul =>
    simp only [zstep, znx, zLd, zSt, zi2, zl2, zf2, zd2, zjmp, zldc, zcat2] at hs ⊢
    repeat' split at hs
    all_goals first | (cases hs; exact ⟨rfl, by simp_all [zsetM]⟩) | (cases hs; exact ⟨trivial, by simp_all [zsetM]⟩) | cases hs
  | lor =>
    simp only [zstep, znx, zLd, zSt, zi2, zl2, zf2, zd2, zjmp, zldc, zcat2] at hs ⊢
    repeat' split at hs
    all_goals first | (cases hs; exact ⟨rfl, by simp_all [zsetM]⟩) | (cases hs; exact ⟨trivial, by simp_all [zsetM]⟩) | cases hs
  | lxor =>
    simp only [zstep, znx, zLd, zSt, zi2, zl2, zf2, zd2, zjmp, zldc, zcat2] at hs ⊢
    repeat' split at hs
    all_goals first | (cases hs; exact ⟨rfl, by simp_all [zsetM]⟩) | (cases hs; exact ⟨trivial, by simp_all [zsetM]⟩) | cases hs
  | ineg =>
    simp only [zstep, znx, zLd, zSt, zi2, zl2, zf2, zd2, zjmp, zldc, zcat2] at hs ⊢
    repeat' split at hs
    all_goals first | (cases hs; exact ⟨rfl, by simp_all [zsetM]⟩) | (cases hs; exact ⟨trivial, by simp_all [zsetM]⟩) | cases hs
  | lshl =>
    simp only [zstep, znx, zLd, zSt, zi2, zl2, zf2, zd2, zjmp, zldc, zcat2] at hs ⊢
    repeat' split at hs
    all_goals first | (cases hs; exact ⟨rfl, by simp_all [zsetM]⟩) | (cases hs; exact ⟨trivial, by simp_all [zsetM]⟩) | cases hs
  | lushr =>
    simp only [zstep, znx, zLd, zSt, zi2, zl2, zf2, zd2, zjmp, zldc, zcat2] at hs ⊢
    repeat' split at hs
    all_goals first | (cases hs; exact ⟨rfl, by simp_all [zsetM]⟩) | (cases hs; exact ⟨trivial, by simp_all [zsetM]⟩) | cases hs
  | i2l =>
    simp only [zstep, znx, zLd, zSt, zi2, zl2, zf2, zd2, zjmp, zldc, zcat2] at hs ⊢
    repeat' split at hs
    all_goals first | (cases hs; exact ⟨rfl, by simp_all [zsetM]⟩) | (cases hs; exact ⟨trivial, by simp_all [zsetM]⟩) | cases hs
  | i2f =>
    simp only [zstep, znx, zLd, zSt, zi2, zl2, zf2, zd2, zjmp, zldc, zcat2] at hs ⊢
    repeat' split at hs
    all_goals first | (cases hs; exact ⟨rfl, by simp_all [zsetM]⟩) | (cases hs; exact ⟨trivial, by simp_all [zsetM]⟩) | cases hs
  | i2d =>
    simp only [zstep, znx, zLd, zSt, zi2, zl2, zf2, zd2, zjmp, zldc, zcat2] at hs ⊢
    repeat' split at hs
    all_goals first | (cases hs; exact ⟨rfl, by simp_all [zsetM]⟩) | (cases hs; exact ⟨trivial, by simp_all [zsetM]⟩) | cases hs
  | f2i =>
    simp only [zstep, znx, zLd, zSt, zi2, zl2, zf2, zd2, zjmp, zldc, zcat2] at hs ⊢
    repeat' split at hs
    all_goals first | (cases hs; exact ⟨rfl, by simp_all [zsetM]⟩) | (cases hs; exact ⟨trivial, by simp_all [zsetM]⟩) | cases hs
  | d2l =>
    simp only [zstep, znx, zLd, zSt, zi2, zl2, zf2, zd2, zjmp, zldc, zcat2] at hs ⊢
    repeat' split at hs
    all_goals first | (cases hs; exact ⟨rfl, by simp_all [zsetM]⟩) | (cases hs; exact ⟨trivial, by simp_all [zsetM]⟩) | cases hs
  | lcmp =>
    simp only [zstep, znx, zLd, zSt, zi2, zl2, zf2, zd2, zjmp, zldc, zcat2] at hs ⊢
    repeat' split at hs
    all_goals first | (cases hs; exact ⟨rfl, by simp_all [zsetM]⟩) | (cases hs; exact ⟨trivial, by simp_all [zsetM]⟩) | cases hs
  | i2c =>
    simp only [zstep, znx, zLd, zSt, zi2, zl2, zf2, zd2, zjmp, zldc, zcat2] at hs ⊢
    repeat' split at hs
    all_goals first | (cases hs; exact ⟨rfl, by simp_all [zsetM]⟩) | (cases hs; exact ⟨trivial, by simp_all [zsetM]⟩) | cases hs
  | fcmp a0 =>
    simp only [zstep, znx, zLd, zSt, zi2, zl2, zf2, zd2, zjmp, zldc, zcat2] at hs ⊢
    repeat' split at hs
    all_goals first | (cases hs; exact ⟨rfl, by simp_all [zsetM]⟩) | (cases hs; exact ⟨trivial, by simp_all [zsetM]⟩) | cases hs
  | dcmp a0 =>
    simp only [zstep, znx, zLd, zSt, zi2, zl2, zf2, zd2, zjmp, zldc, zcat2] at hs ⊢
    repeat' split at hs
    all_goals first | (cases hs; exact ⟨rfl, by simp_all [zsetM]⟩) | (cases hs; exact ⟨trivial, by simp_all [zsetM]⟩) | cases hs
  | fmul =>
    simp only [zstep, znx, zLd, zSt, zi2, zl2, zf2, zd2, zjmp, zldc, zcat2] at hs ⊢
    repeat' split at hs
    all_goals first | (cases hs; exact ⟨rfl, by simp_all [zsetM]⟩) | (cases hs; exact ⟨trivial, by simp_all [zsetM]⟩) | cases hs
  | fdiv =>
    simp only [zstep, znx, zLd, zSt, zi2, zl2, zf2, zd2, zjmp, zldc, zcat2] at hs ⊢
    repeat' split at hs
    all_goals first | (cases hs; exact ⟨rfl, by simp_all [zsetM]⟩) | (cases hs; exact ⟨trivial, by simp_all [zsetM]⟩) | cases hs
  | fsub =>
    simp only [zstep, znx, zLd, zSt, zi2, zl2, zf2, zd2, zjmp, zldc, zcat2] at hs ⊢
    repeat' split at hs
    all_goals first | (cases hs; exact ⟨rfl, by simp_all [zsetM]⟩) | (cases hs; exact ⟨trivial, by simp_all [zsetM]⟩) | cases hs
  | dmul =>
    simp only [zstep, znx, zLd, zSt, zi2, zl2, zf2, zd2, zjmp, zldc, zcat2] at hs ⊢
    repeat' split at hs
    all_goals first | (cases hs; exact ⟨rfl, by simp_all [zsetM]⟩) | (cases hs; exact ⟨trivial, by simp_all [zsetM]⟩) | cases hs
  | ddiv =>
    simp only [zstep, znx, zLd, zSt, zi2, zl2, zf2, zd2, zjmp, zldc, zcat2] at hs ⊢
    repeat' split at hs
    all_goals first | (cases hs; exact ⟨rfl, by simp_all [zsetM]⟩) | (cases hs; exact ⟨trivial, by simp_all [zsetM]⟩) | cases hs
  | dsub =>
    simp only [zstep, znx, zLd, zSt, zi2, zl2, zf2, zd2, zjmp, zldc, zcat2] at hs ⊢
    repeat' split at hs
    all_goals first | (cases hs; exact ⟨rfl, by simp_all [zsetM]⟩) | (cases hs; exact ⟨trivial, by simp_all [zsetM]⟩) | cases hs
  | dup =>
    simp only [zstep, znx, zLd, zSt, zi2, zl2, zf2, zd2, zjmp, zldc, zcat2] at hs ⊢
    repeat' split at hs
    all_goals first | (cases hs; exact ⟨rfl, by simp_all [zsetM]⟩) | (cases hs; exact ⟨trivial, by simp_all [zsetM]⟩) | cases hs
  | pop =>
    simp only [zstep, znx, zLd, zSt, zi2, zl2, zf2, zd2, zjmp, zldc, zcat2] at hs ⊢
    repeat' split at hs
    all_goals first | (cases hs; exact ⟨rfl, by simp_all [zsetM]⟩) | (cases hs; exact ⟨trivial, by simp_all [zsetM]⟩) | cases hs
  | dup2 =>
    simp only [zstep, znx, zLd, zSt, zi2, zl2, zf2, zd2, zjmp, zldc, zcat2] at hs ⊢
    repeat' split at hs
    all_goals first | (cases hs; exact ⟨rfl, by simp_all [zsetM]⟩) | (cases hs; exact ⟨trivial, by simp_all [zsetM]⟩) | cases hs
  | goto a0 =>
    simp only [zstep, znx, zLd, zSt, zi2, zl2, zf2, zd2, zjmp, zldc, zcat2] at hs ⊢
    repeat' split at hs
    all_goals first | (cases hs; exact ⟨rfl, by simp_all [zsetM]⟩) | (cases hs; exact ⟨trivial, by simp_all [zsetM]⟩) | cases hs
  | ifCond a0 a1 =>
    simp only [zstep, znx, zLd, zSt, zi2, zl2, zf2, zd2, zjmp, zldc, zcat2] at hs ⊢
    repeat' split at hs
    all_goals first | (cases hs; exact ⟨rfl, by simp_all [zsetM]⟩) | (cases hs; exact ⟨trivial, by simp_all [zsetM]⟩) | cases hs
  | if_icmp a0 a1 =>
    simp only [zstep, znx, zLd, zSt, zi2, zl2, zf2, zd2, zjmp, zldc, zcat2] at hs ⊢
    repeat' split at hs
    all_goals first | (cases hs; exact ⟨rfl, by simp_all [zsetM]⟩) | (cases hs; exact ⟨trivial, by simp_all [zsetM]⟩) | cases hs
  | tableswitch a0 a1 a2 a3 =>
    simp only [zstep, znx, zLd, zSt, zi2, zl2, zf2, zd2, zjmp, zldc, zcat2] at hs ⊢
    repeat' split at hs
    all_goals first | (cases hs; exact ⟨rfl, by simp_all [zsetM]⟩) | (cases hs; exact ⟨trivial, by simp_all [zsetM]⟩) | cases hs
  | lookupswitch a0 a1 =>
    simp only [zstep, znx, zLd, zSt, zi2, zl2, zf2, zd2, zjmp, zldc, zcat2] at hs ⊢
    repeat' split at hs
    all_goals first | (cases hs; exact ⟨rfl, by simp_all [zsetM]⟩) | (cases hs; exact ⟨trivial, by simp_all [zsetM]⟩) | cases hs
  | aaload =>
    simp only [zstep, znx, zLd, zSt, zi2, zl2, zf2, zd2, zjmp, zldc, zcat2] at hs ⊢
    repeat' split at hs
    all_goals first | (cases hs; exact ⟨rfl, by simp_all [zsetM]⟩) | (cases hs; exact ⟨trivial, by simp_all [zsetM]⟩) | cases hs
  | arraylength =>
    simp only [zstep, znx, zLd, zSt, zi2, zl2, zf2, zd2, zjmp, zldc, zcat2] at hs ⊢
    repeat' split at hs
    all_goals first | (cases hs; exact ⟨rfl, by simp_all [zsetM]⟩) | (cases hs; exact ⟨trivial, by simp_all [zsetM]⟩) | cases hs
  | ireturn =>
    simp only [zstep, znx, zLd, zSt, zi2, zl2, zf2, zd2, zjmp, zldc, zcat2] at hs ⊢
    repeat' split at hs
    all_goals first | (cases hs; exact ⟨rfl, by simp_all [zsetM]⟩) | (cases hs; exact ⟨trivial, by simp_all [zsetM]⟩) | cases hs
  | lreturn =>
    simp only [zstep, znx, zLd, zSt, zi2, zl2, zf2, zd2, zjmp, zldc, zcat2] at hs ⊢
    repeat' split at hs
    all_goals first | (cases hs; exact ⟨rfl, by simp_all [zsetM]⟩) | (cases hs; exact ⟨trivial, by simp_all [zsetM]⟩) | cases hs
  | freturn =>
    simp only [zstep, znx, zLd, zSt, zi2, zl2, zf2, zd2, zjmp, zldc, zcat2] at hs ⊢
    repeat' split at hs
    all_goals first | (cases hs; exact ⟨rfl, by simp_all [zsetM]⟩) | (cases hs; exact ⟨trivial, by simp_all [zsetM]⟩) | cases hs
  | dreturn =>
    simp only [zstep, znx, zLd, zSt, zi2, zl2, zf2, zd2, zjmp, zldc, zcat2] at hs ⊢
    repeat' split at hs
    all_goals first | (cases hs; exact ⟨rfl, by simp_all [zsetM]⟩) | (cases hs; exact ⟨trivial, by simp_all [zsetM]⟩) | cases hs
  | areturn =>
    simp only [zstep, znx, zLd, zSt, zi2, zl2, zf2, zd2, zjmp, zldc, zcat2] at hs ⊢
    repeat' split at hs
    all_goals first | (cases hs; exact ⟨rfl, by simp_all [zsetM]⟩) | (cases hs; exact ⟨trivial, by simp_all [zsetM]⟩) | cases hs
  | return_ =>
    simp only [zstep, znx, zLd, zSt, zi2, zl2, zf2, zd2, zjmp, zldc, zcat2] at hs ⊢
    repeat' split at hs
    all_goals first | (cases hs; exact ⟨rfl, by simp_all [zsetM]⟩) | (cases hs; exact ⟨trivial, by simp_all [zsetM]⟩) | cases hs
  | new a0 =>
    simp only [zstep, znx, zLd, zSt, zi2, zl2, zf2, zd2, zjmp, zldc, zcat2] at hs ⊢
    repeat' split at hs
    all_goals first | (cases hs; exact ⟨rfl, by simp_all [zsetM]⟩) | (cases hs; exact ⟨trivial, by simp_all [zsetM]⟩) | cases hs
  | getfield a0 => cases hf
  | putfield a0 => cases hf
  | iaload => cases hf
  | caload => cases hf
  | iastore => cases hf
  | castore => cases hf
  | invokestatic a0 => cases hf
  | invokevirtual a0 => cases hf
  | _ => simp [zstep] at hs
theorem zprim_mono {c : Nat} {r : zRes} (h : zle I J) (hs : zprim dy c pc ls st I = some r) : ∃ r', zprim dy c pc ls st J = some r' ∧ zrs I J r r' := by
  unfold zprim at hs ⊢
  split at hs
  · try simp only
    split at hs
    · rename_i x t
      try simp only
      split at hs
      · rename_i m hx hm
        try rw [hx]
        try rw [h _ _ _ hm]
        try simp only
        split at hs
        · rename_i hn
          try rw [hn]
          cases hs
          exact ⟨_, rfl, _, rfl, zup_mr (zfold_mr _ _ (zmr_refl h)) _ _ _, zup_kn (zfold_kn _ _ (zkn_refl I)) _ _ _⟩
        · cases hs
      · cases hs
    · cases hs
  · try simp only
    split at hs
    · rename_i x t
      try simp only
      split at hs
      · rename_i m hx hm
        try rw [hx]
        try rw [h _ _ _ hm]
        try simp only
        split at hs
        · rename_i hn
          try rw [hn]
          cases hs
          exact ⟨_, rfl, _, rfl, zup_mr (zup_mr (zmr_refl h) _ _ _) _ _ _, zup_kn (zup_kn (zkn_refl I) _ _ _) _ _ _⟩
        · cases hs
      · cases hs
    · cases hs
  · try simp only
    split at hs
    · rename_i x t
      try simp only
      split at hs
      · rename_i hx
        try rw [hx]
        cases hs
        exact ⟨_, rfl, _, rfl, zup_mr (zmr_refl h) _ _ _, zup_kn (zkn_refl I) _ _ _⟩
      · cases hs
    · cases hs
  · try simp only
    split at hs
    · rename_i t
      try simp only
      split at hs
      · rename_i m hm
        try rw [h _ _ _ hm]
        cases hs
        exact ⟨_, rfl, _, rfl, zmr_refl h, zkn_refl I⟩
      · cases hs
    · cases hs
  · try simp only
    split at hs
    · rename_i i t
      try simp only
      split at hs
      · rename_i m x hm hx
        try rw [h _ _ _ hm]
        try rw [h _ _ _ hx]
        try simp only
        split at hs
        · rename_i hd
          try rw [hd]
          cases hs
          exact ⟨_, rfl, _, rfl, zmr_refl h, zkn_refl I⟩
        · cases hs
      · cases hs
    · cases hs
  · try simp only
    split at hs
    · rename_i a t
      try simp only
      split at hs
      · rename_i u hu
        try rw [hu]
        cases hs
        exact ⟨_, rfl, _, rfl, zmr_refl h, zkn_refl I⟩
      · cases hs
    · cases hs
  · try simp only
    split at hs
    · rename_i i a t
      try simp only
      split at hs
      · rename_i u hu
        try rw [hu]
        try simp only
        split at hs
        · rename_i x hd hx
          try rw [hd]
          try rw [hx]
          cases hs
          exact ⟨_, rfl, _, rfl, zmr_refl h, zkn_refl I⟩
        · cases hs
      · cases hs
    · cases hs
  · cases hs
theorem zstep_mono {i : Instr} {r : zRes} (h : zle I J) (hs : zstep sl dy mi pc (i, len, r1, r2, r3) ls st I = some r) : ∃ r', zstep sl dy mi pc (i, len, r1, r2, r3) ls st J = some r' ∧ zrs I J r r' := by
  cases hf : zfreeI i with
  | true =>
    obtain ⟨h1, h2⟩ := zfree_of (J := J) hf hs
    exact ⟨_, h2, zrs_free h h1⟩
  | false =>
    cases i with
    | getfield a0 =>
      simp only [zstep] at hs ⊢
      split at hs
      · rename_i a t
        try simp only
        split at hs
        · rename_i k m hk
          try rw [hk]
          try simp only
          split at hs
          · rename_i hb
            try rw [hb]
            try simp only
            split at hs
            · rename_i hz
              try rw [hz]
              try simp only
              split at hs
              · rename_i q hq
                try rw [hq]
                cases hs
                exact ⟨_, rfl, _, rfl, zmr_refl h, zkn_refl I⟩
              · cases hs
            · rename_i hz
              try rw [hz]
              try simp only
              split at hs
              · rename_i x hx
                try rw [h _ _ _ hx]
                cases hs
                exact ⟨_, rfl, _, rfl, zmr_refl h, zkn_refl I⟩
              · cases hs
          · cases hs
        · cases hs
      · cases hs
    | putfield a0 =>
      simp only [zstep] at hs ⊢
      split at hs
      · rename_i x a t
        try simp only
        split at hs
        · rename_i k m hk
          try rw [hk]
          try simp only
          split at hs
          · rename_i hb
            try rw [hb]
            cases hs
            exact ⟨_, rfl, _, rfl, zup_mr (zmr_refl h) _ _ _, zup_kn (zkn_refl I) _ _ _⟩
          · cases hs
        · cases hs
      · cases hs
    | iaload =>
      simp only [zstep] at hs ⊢
      split at hs
      · rename_i i a t
        try simp only
        split at hs
        · rename_i k m hk
          try rw [hk]
          try simp only
          split at hs
          · rename_i x hb hx
            try rw [hb]
            try rw [h _ _ _ hx]
            cases hs
            exact ⟨_, rfl, _, rfl, zmr_refl h, zkn_refl I⟩
          · cases hs
        · cases hs
      · cases hs
    | caload =>
      simp only [zstep] at hs ⊢
      split at hs
      · rename_i i a t
        try simp only
        split at hs
        · rename_i k m hk
          try rw [hk]
          try simp only
          split at hs
          · rename_i x hb hx
            try rw [hb]
            try rw [h _ _ _ hx]
            cases hs
            exact ⟨_, rfl, _, rfl, zmr_refl h, zkn_refl I⟩
          · cases hs
        · cases hs
      · cases hs
    | iastore =>
      simp only [zstep] at hs ⊢
      split at hs
      · rename_i x i a t
        try simp only
        split at hs
        · rename_i k m hk
          try rw [hk]
          try simp only
          split at hs
          · rename_i hb
            try rw [hb]
            cases hs
            exact ⟨_, rfl, _, rfl, zup_mr (zmr_refl h) _ _ _, zup_kn (zkn_refl I) _ _ _⟩
          · cases hs
        · cases hs
      · cases hs
    | castore =>
      simp only [zstep] at hs ⊢
      split at hs
      · rename_i x i a t
        try simp only
        split at hs
        · rename_i k m hk
          try rw [hk]
          try simp only
          split at hs
          · rename_i hb
            try rw [hb]
            cases hs
            exact ⟨_, rfl, _, rfl, zup_mr (zmr_refl h) _ _ _, zup_kn (zkn_refl I) _ _ _⟩
          · cases hs
        · cases hs
      · cases hs
    | invokestatic a0 =>
      simp only [zstep] at hs ⊢
      split at hs
      · try simp only
        exact ⟨r, hs, by obtain ⟨-, -, -, -, rfl⟩ := zcall_inv hs; rfl⟩
      · try simp only
        exact ⟨r, hs, by obtain ⟨-, -, -, -, rfl⟩ := zcall_inv hs; rfl⟩
      · try simp only
        exact ⟨r, hs, by obtain ⟨-, -, -, -, rfl⟩ := zcall_inv hs; rfl⟩
      · try simp only
        split at hs
        · rename_i c dd ss t
          try simp only
          split at hs
          · rename_i ns nd h1 h2
            try rw [h1]
            try rw [h2]
            try simp only
            split at hs
            · rename_i hb
              have hb2 := hb
              simp only [Bool.and_eq_true] at hb2
              have hall : (List.range c.toNatClampNeg).all (fun j => (J ss j).isSome) = true := by
                refine List.all_eq_true.mpr fun j hj => ?_
                obtain ⟨y, hy⟩ := Option.isSome_iff_exists.mp (List.all_eq_true.mp hb2.2 j hj)
                try rw [h _ _ _ hy]
                rfl
              rw [show (decide (0 ≤ c) && Nat.ble c.toNatClampNeg ns && Nat.ble c.toNatClampNeg nd && !(Nat.beq ss dd) && zsm t && (List.range c.toNatClampNeg).all (fun j => (J ss j).isSome)) = true from by
                try rw [hall]
                simp only [Bool.and_eq_true]
                exact ⟨hb2.1, trivial⟩]
              cases hs
              obtain ⟨g1, g2⟩ := zcpm_mr h ss dd c.toNatClampNeg hb2.2
              exact ⟨_, rfl, _, rfl, g1, g2⟩
            · cases hs
          · cases hs
        · cases hs
      · try simp only
        split at hs
        · split at hs
          · rename_i hm
            try rw [hm]
            obtain ⟨x, y, r0, rfl, rfl⟩ := zi2_inv hs
            exact ⟨_, rfl, _, rfl, zmr_refl h, zkn_refl _⟩
          · cases hs
        · split at hs
          · rename_i hm
            try rw [hm]
            obtain ⟨x, y, r0, rfl, rfl⟩ := zi2_inv hs
            exact ⟨_, rfl, _, rfl, zmr_refl h, zkn_refl _⟩
          · cases hs
        · split at hs
          · rename_i x t
            try simp only
            split at hs
            · rename_i hm
              try rw [hm]
              cases hs
              exact ⟨_, rfl, _, rfl, zmr_refl h, zkn_refl _⟩
            · cases hs
          · cases hs
        · cases hs
      · cases hs
    | invokevirtual a0 =>
      simp only [zstep] at hs ⊢
      split at hs
      · try simp only
        split at hs
        · rename_i hw
          try rw [hw]
          try simp only
          split at hs
          · rename_i hr
            try rw [hr]
            exact ⟨r, hs, by obtain ⟨-, -, -, -, rfl⟩ := zcall_inv hs; rfl⟩
          · cases hs
        · rename_i hw
          try rw [hw]
          try simp only
          split at hs
          · rename_i hm
            try rw [hm]
            exact zprim_mono h hs
          · cases hs
      · cases hs
    | _ => cases hf
theorem zmono {sl : Nat} : ∀ (N : Nat) {D dy mi pc : Nat} {ls : zLs} {st : List Value} {I J : zM} {o : zO4}, zle I J → zrun sl N D dy mi pc ls st I = some o → ∃ J', zrun sl N D dy mi pc ls st J = some (o.1, o.2.1, J', o.2.2.2) ∧ zmr o.2.2.1 J J' ∧ zkn I o.2.2.1 := by
  intro N
  induction N with
  | zero => intro D dy mi pc ls st I J o _ h; simp [zrun] at h
  | succ N ih =>
    intro D dy mi pc ls st I J o hIJ h
    unfold zrun at h ⊢
    cases hl : zl mi pc with
    | none => rw [hl] at h; simp at h
    | some e =>
      obtain ⟨i, len, r1, r2, r3⟩ := e
      rw [hl] at h
      simp only at h ⊢
      cases hs : zstep sl dy mi pc (i, len, r1, r2, r3) ls st I with
      | none => rw [hs] at h; simp at h
      | some r =>
        rw [hs] at h
        obtain ⟨r', hs', hr⟩ := zstep_mono hIJ hs
        rw [hs']
        rcases r with ⟨pc', ls', st', I', u⟩ | v | c | ⟨m, pc', la, st', u0⟩
        · obtain ⟨J', rfl, m1, k1⟩ := hr
          simp only [Option.map_eq_some_iff] at h ⊢
          obtain ⟨q, h1, rfl⟩ := h
          obtain ⟨J2, g1, g2, g3⟩ := ih m1.1 h1
          exact ⟨J2, ⟨_, g1, rfl⟩, zmr_comp m1 g3 g2, zkn_trans k1 g3⟩
        · cases (show r' = .inr (.inl v) from hr)
          cases h
          exact ⟨J, rfl, zmr_refl hIJ, zkn_refl I⟩
        · cases (show r' = .inr (.inr (.inl c)) from hr)
          cases h
          exact ⟨J, rfl, zmr_refl hIJ, zkn_refl I⟩
        · cases (show r' = .inr (.inr (.inr (m, pc', la, st', u0))) from hr)
          cases D with
          | zero => simp at h
          | succ D =>
            simp only at h ⊢
            cases hc : zrun sl N D (zdy u0 dy la) m 0 la [] I with
            | none => rw [hc] at h; simp at h
            | some q =>
              rw [hc] at h
              obtain ⟨J1, g1, g2, g3⟩ := ih hIJ hc
              rw [g1]
              obtain ⟨c, v, I', u⟩ := q
              cases c with
              | zero =>
                simp only at h ⊢
                cases hg : zgd u0 v with
                | false => rw [hg] at h; cases h
                | true =>
                  rw [hg] at h
                  simp only [Option.map_eq_some_iff] at h ⊢
                  obtain ⟨q, h1, rfl⟩ := h
                  obtain ⟨J2, f1, f2, f3⟩ := ih g2.1 h1
                  exact ⟨J2, ⟨_, f1, rfl⟩, zmr_comp g2 f3 f2, zkn_trans g3 f3⟩
              | succ c =>
                simp only at h ⊢
                cases hy : zhd c pc (zH mi) with
                | none =>
                  rw [hy] at h
                  simp only at h ⊢
                  cases ha : zany pc (zH mi) with
                  | true => rw [ha] at h; cases h
                  | false =>
                    rw [ha] at h
                    cases h
                    exact ⟨J1, rfl, g2, g3⟩
                | some hh =>
                  rw [hy] at h
                  simp only at h ⊢
                  cases hz : zcat3 mi pc c ls with
                  | none => rw [hz] at h; cases h
                  | some w =>
                    rw [hz] at h
                    obtain ⟨pc2, ls2⟩ := w
                    simp only [Option.map_eq_some_iff] at h ⊢
                    obtain ⟨q, h1, rfl⟩ := h
                    obtain ⟨J2, f1, f2, f3⟩ := ih g2.1 h1
                    exact ⟨J2, ⟨_, f1, rfl⟩, zmr_comp g2 f3 f2, zkn_trans g3 f3⟩
end ZMONO
end
section
/-! RULES FOR WALKING THE INTERPRETER -/
/-- an outcome: code, value and memory as R says, at most b made -/
def zRg (b : Nat) (R : Nat → Option Value → zM → Prop) : zO4 → Prop := fun o => R o.1 o.2.1 o.2.2.1 ∧ o.2.2.2 ≤ b
/-- a method that answers true or false and leaves the memory as it is -/
def zQb (I : zM) (P : Prop) : Nat → Option Value → zM → Prop := fun c v J => c = 0 ∧ J = I ∧ ((v = some (.int 1) ∧ P) ∨ (v = some (.int 0) ∧ ¬ P))
/-- one value, the memory as it is -/
def zQf (I : zM) (w : Option Value) : Nat → Option Value → zM → Prop := fun c v J => c = 0 ∧ v = w ∧ J = I
/-- thrown, the memory as it is -/
def zQx (I : zM) (c : Nat) : Nat → Option Value → zM → Prop := fun d _ J => d = c + 1 ∧ J = I
section ZWR
variable {sl D dy mi pc : Nat} {ls : zLs} {st : List Value} {I : zM} {b : Nat} {R : Nat → Option Value → zM → Prop}
theorem zRg_add {u b1 b2 : Nat} {o : zO4} (h : zRg b2 R o) (hu : u ≤ b1) : zRg (b1 + b2) R (zadd u o) := ⟨h.1, by have := h.2; show o.2.2.2 + u ≤ _; omega⟩
theorem zwp {b' : Nat} {Q : Nat → Option Value → zM → Prop} (k : zW sl D dy mi pc ls st I (zRg b Q)) (h : ∀ c v J, Q c v J → R c v J) (hb : b ≤ b' := by omega) : zW sl D dy mi pc ls st I (zRg b' R) :=
  zW_post k fun o ho => ⟨h _ _ _ ho.1, Nat.le_trans ho.2 hb⟩
/-- several instructions that touch no memory that isn't known -/
theorem zg (n : Nat) {pc' : Nat} {ls' : zLs} {st' : List Value} {I' : zM} (h : zgo sl dy mi n (pc, ls, st, I, 0) = some (pc', ls', st', I', 0)) (k : zW sl D dy mi pc' ls' st' I' (zRg b R)) : zW sl D dy mi pc ls st I (zRg b R) := zW_g n h k
theorem zret {e : Instr × Nat × Nat × Nat × Nat} {v : Option Value} (h : zl mi pc = some e) (hs : zstep sl dy mi pc e ls st I = some (.inr (.inl v))) (hp : R 0 v I) : zW sl D dy mi pc ls st I (zRg b R) := zW_r h hs ⟨hp, Nat.zero_le _⟩
theorem zthrow {e : Instr × Nat × Nat × Nat × Nat} {c : Nat} (h : zl mi pc = some e) (hs : zstep sl dy mi pc e ls st I = some (.inr (.inr (.inl c)))) (hp : R (c + 1) none I) (hb : 1 ≤ b := by omega) : zW sl D dy mi pc ls st I (zRg b R) := zW_x h hs ⟨hp, hb⟩
/-- an int is returned of whose type nothing is lost -/
theorem ziret {len r1 r2 r3 : Nat} {x : Int32} {ty : FieldType} (h : zl mi pc = some (.ireturn, len, r1, r2, r3)) (hr : zRt mi = some ty) (hn : narrow ty (.int x) = .int x) (hp : R 0 (some (.int x)) I) : zW sl D dy mi pc ls [.int x] I (zRg b R) := by
  refine zret h ?_ hp
  simp only [zstep, hr, hn, decide_true]
/-- a call -/
theorem zcal {e : Instr × Nat × Nat × Nat × Nat} {m pc' b1 b2 : Nat} {la : zLs} {st' : List Value} {Q : Nat → Option Value → zM → Prop} (h : zl mi pc = some e) (hs : zstep sl dy mi pc e ls st I = some (.inr (.inr (.inr (m, pc', la, st', 0)))))
    (hc : zW sl D dy m 0 la [] I (zRg b1 Q))
    (kr : ∀ (v : Option Value) (J : zM), Q 0 v J → zW sl (D + 1) dy mi pc' ls (zpush v st') J (zRg b2 R))
    (kx : ∀ (c : Nat) (v : Option Value) (J : zM), Q (c + 1) v J → (zhd c pc (zH mi) = none ∧ zany pc (zH mi) = false ∧ R (c + 1) none J) ∨ ∃ (pc2 : Nat) (ls2 : zLs), zcat3 mi pc c ls = some (pc2, ls2) ∧ zW sl (D + 1) dy mi pc2 ls2 [] J (zRg b2 R))
    (hb : b1 + b2 ≤ b := by omega) : zW sl (D + 1) dy mi pc ls st I (zRg b R) := by
  refine zW_cu h hs (Q := zRg b1 Q) hc (fun v J u hq => ⟨rfl, zW_post (kr v J hq.1) fun o ho => ⟨ho.1, ?_⟩⟩) (fun c v J u hq => ?_)
  · have h1 := ho.2; have h2 : u ≤ b1 := hq.2
    show o.2.2.2 + (u + 0) ≤ b
    omega
  · have h2 : u ≤ b1 := hq.2
    rcases kx c v J hq.1 with ⟨g1, g2, g3⟩ | ⟨pc2, ls2, g1, g2⟩
    · exact Or.inl ⟨g1, g2, g3, by show u + 0 ≤ b; omega⟩
    · exact Or.inr ⟨pc2, ls2, g1, zW_post g2 fun o ho => ⟨ho.1, by have h1 := ho.2; show o.2.2.2 + (u + 0) ≤ b; omega⟩⟩
/-- a call that returns one value and leaves the memory as it is -/
theorem zcf {e : Instr × Nat × Nat × Nat × Nat} {m pc' : Nat} {la : zLs} {st' : List Value} {v : Option Value} (h : zl mi pc = some e) (hs : zstep sl dy mi pc e ls st I = some (.inr (.inr (.inr (m, pc', la, st', 0)))))
    (hc : zW sl D dy m 0 la [] I (zRg 0 (zQf I v)))
    (kr : zW sl (D + 1) dy mi pc' ls (zpush v st') I (zRg b R)) : zW sl (D + 1) dy mi pc ls st I (zRg b R) :=
  zcal (b1 := 0) (b2 := b) h hs hc (fun w J ⟨_, h2, h3⟩ => by rw [h2, h3]; exact kr) (fun c w J ⟨h1, _⟩ => by cases h1)
/-- a call that throws, and nothing catches it here -/
theorem zcx {e : Instr × Nat × Nat × Nat × Nat} {m pc' b1 c : Nat} {la : zLs} {st' : List Value} (h : zl mi pc = some e) (hs : zstep sl dy mi pc e ls st I = some (.inr (.inr (.inr (m, pc', la, st', 0)))))
    (hc : zW sl D dy m 0 la [] I (zRg b1 (zQx I c))) (hh : zH mi = []) (hp : R (c + 1) none I) (hb : b1 ≤ b := by omega) : zW sl (D + 1) dy mi pc ls st I (zRg b R) :=
  zcal (b1 := b1) (b2 := 0) h hs hc (fun w J ⟨h1, _⟩ => by cases h1) (fun d w J ⟨h1, h2⟩ => by
    cases h1
    subst h2
    exact Or.inl ⟨by rw [hh]; rfl, by rw [hh]; rfl, hp⟩)
theorem zif {len r1 r2 r3 t : Nat} {c : ClassFile.Cond} {off : Int} {x : Int32} (h : zl mi pc = some (.ifCond c off, len, r1, r2, r3)) (ht : ztg pc off = some t)
    (kt : zc1 c x 0 = true → zW sl D dy mi t ls st I (zRg b R)) (kf : zc1 c x 0 = false → zW sl D dy mi (pc + len) ls st I (zRg b R)) : zW sl D dy mi pc ls (.int x :: st) I (zRg b R) := by
  cases hc : zc1 c x 0 with
  | true => exact zW_n h (by simp only [zstep, ht, hc]; rfl) (kt hc)
  | false => exact zW_n h (by simp only [zstep, ht, hc]; rfl) (kf hc)
theorem zicmp {len r1 r2 r3 t : Nat} {c : ClassFile.Cond} {off : Int} {x y : Int32} (h : zl mi pc = some (.if_icmp c off, len, r1, r2, r3)) (ht : ztg pc off = some t)
    (kt : zc1 c x y = true → zW sl D dy mi t ls st I (zRg b R)) (kf : zc1 c x y = false → zW sl D dy mi (pc + len) ls st I (zRg b R)) : zW sl D dy mi pc ls (.int y :: .int x :: st) I (zRg b R) := by
  cases hc : zc1 c x y with
  | true => exact zW_n h (by simp only [zstep, ht, hc]; rfl) (kt hc)
  | false => exact zW_n h (by simp only [zstep, ht, hc]; rfl) (kf hc)
/-- memory -/
def zgk (sl a ci k : Nat) : Bool := match zkd sl a with
  | some (q, _) => Nat.beq q ci && Nat.ble (k + 1) (zN ci) && Nat.ble (q + 1) 100
  | none => false
theorem zgf {idx ci k len r3 a : Nat} {x : Int32} (h : zl mi pc = some (.getfield idx, len, ci, k, r3)) (ha : zgk sl a ci k = true) (hf : zrf ci k = false) (hx : I a k = some x) (kk : zW sl D dy mi (pc + len) ls (.int x :: st) I (zRg b R)) : zW sl D dy mi pc ls (.ref a :: st) I (zRg b R) := by
  unfold zgk at ha
  split at ha
  · rename_i q m hk
    exact zW_n h (by simp only [zstep, hk, ha, hf, hx]; rfl) kk
  · cases ha
theorem zgr {idx ci k len r3 a q : Nat} (h : zl mi pc = some (.getfield idx, len, ci, k, r3)) (ha : zgk sl a ci k = true) (hf : zrf ci k = true) (hx : zpd a k = some q) (kk : zW sl D dy mi (pc + len) ls (.ref q :: st) I (zRg b R)) : zW sl D dy mi pc ls (.ref a :: st) I (zRg b R) := by
  unfold zgk at ha
  split at ha
  · rename_i q m hk
    exact zW_n h (by simp only [zstep, hk, ha, hf, hx]; rfl) kk
  · cases ha
theorem zpf {idx ci k len r3 a : Nat} {x : Int32} (h : zl mi pc = some (.putfield idx, len, ci, k, r3)) (ha : zgk sl a ci k = true) (hf : zrf ci k = false) (hn : narrow (zty ci k) (.int x) = .int x) (hft : fits (zty ci k) (.int x) = true) (kk : zW sl D dy mi (pc + len) ls st (zup I a k x) (zRg b R)) : zW sl D dy mi pc ls (.int x :: .ref a :: st) I (zRg b R) := by
  unfold zgk at ha
  split at ha
  · rename_i q m hk
    refine zW_n h ?_ kk
    simp only [zstep, hk, ha, hf, hn, hft]
    rfl
  · cases ha
theorem zia {len r1 r2 r3 a n : Nat} {i x : Int32} (h : zl mi pc = some (.iaload, len, r1, r2, r3)) (ha : zkd sl a = some (100, n)) (hi : zin i n = true) (hx : I a i.toNatClampNeg = some x) (kk : zW sl D dy mi (pc + len) ls (.int x :: st) I (zRg b R)) : zW sl D dy mi pc ls (.int i :: .ref a :: st) I (zRg b R) :=
  zW_n h (by simp only [zstep, ha, hi, hx]; rfl) kk
theorem zis {len r1 r2 r3 a n : Nat} {i x : Int32} (h : zl mi pc = some (.iastore, len, r1, r2, r3)) (ha : zkd sl a = some (100, n)) (hi : zin i n = true) (kk : zW sl D dy mi (pc + len) ls st (zup I a i.toNatClampNeg x) (zRg b R)) : zW sl D dy mi pc ls (.int x :: .int i :: .ref a :: st) I (zRg b R) :=
  zW_n h (by simp only [zstep, ha, hi]; rfl) kk
/-- what is not 0 may be divided by -/
theorem zdivr {len r1 r2 r3 : Nat} {x y : Int32} (h : zl mi pc = some (.idiv, len, r1, r2, r3)) (hy : y ≠ 0) (kk : zW sl D dy mi (pc + len) ls (.int (x / y) :: st) I (zRg b R)) : zW sl D dy mi pc ls (.int y :: .int x :: st) I (zRg b R) :=
  zW_n h (by simp only [zstep, hy, decide_false]; rfl) kk
theorem zremr {len r1 r2 r3 : Nat} {x y : Int32} (h : zl mi pc = some (.irem, len, r1, r2, r3)) (hy : y ≠ 0) (kk : zW sl D dy mi (pc + len) ls (.int (x - x / y * y) :: st) I (zRg b R)) : zW sl D dy mi pc ls (.int y :: .int x :: st) I (zRg b R) :=
  zW_n h (by simp only [zstep, hy, decide_false]; rfl) kk
end ZWR
/-- conditions, as propositions -/
theorem zc_eq {x y : Int32} : (zc1 .eq x y = true ↔ x = y) ∧ (zc1 .eq x y = false ↔ ¬ x = y) := ⟨by simp [zc1], by simp [zc1]⟩
theorem zc_ne {x y : Int32} : (zc1 .ne x y = true ↔ ¬ x = y) ∧ (zc1 .ne x y = false ↔ x = y) := ⟨by simp [zc1], by simp [zc1]⟩
theorem zc_lt {x y : Int32} : (zc1 .lt x y = true ↔ x.toInt < y.toInt) ∧ (zc1 .lt x y = false ↔ ¬ x.toInt < y.toInt) := ⟨by simp [zc1, Int32.lt_iff_toInt_lt], by simp [zc1, Int32.lt_iff_toInt_lt, Int32.le_iff_toInt_le]⟩
theorem zc_ge {x y : Int32} : (zc1 .ge x y = true ↔ y.toInt ≤ x.toInt) ∧ (zc1 .ge x y = false ↔ ¬ y.toInt ≤ x.toInt) := ⟨by simp [zc1, Int32.le_iff_toInt_le], by simp [zc1, Int32.lt_iff_toInt_lt, Int32.le_iff_toInt_le]⟩
theorem zc_gt {x y : Int32} : (zc1 .gt x y = true ↔ y.toInt < x.toInt) ∧ (zc1 .gt x y = false ↔ ¬ y.toInt < x.toInt) := ⟨by simp [zc1, Int32.lt_iff_toInt_lt], by simp [zc1, Int32.lt_iff_toInt_lt, Int32.le_iff_toInt_le]⟩
theorem zc_le {x y : Int32} : (zc1 .le x y = true ↔ x.toInt ≤ y.toInt) ∧ (zc1 .le x y = false ↔ ¬ x.toInt ≤ y.toInt) := ⟨by simp [zc1, Int32.le_iff_toInt_le], by simp [zc1, Int32.lt_iff_toInt_lt, Int32.le_iff_toInt_le]⟩
theorem zin_ok {i : Int32} {n : Nat} (h0 : 0 ≤ i.toInt) (h1 : i.toInt < (n : Int)) : zin i n = true := by
  unfold zin
  have h2 : i.toNatClampNeg = i.toInt.toNat := rfl
  simp only [Bool.and_eq_true, decide_eq_true_eq]
  exact ⟨Int32.le_iff_toInt_le.mpr h0, Nat.ble_eq_true_of_le (by omega)⟩
section ZWR2
variable {sl D dy mi pc : Nat} {ls : zLs} {st : List Value} {I : zM} {b : Nat} {R : Nat → Option Value → zM → Prop}
theorem zcb {e : Instr × Nat × Nat × Nat × Nat} {m pc' : Nat} {la : zLs} {st' : List Value} {P : Prop} (h : zl mi pc = some e) (hs : zstep sl dy mi pc e ls st I = some (.inr (.inr (.inr (m, pc', la, st', 0)))))
    (hc : zW sl D dy m 0 la [] I (zRg 0 (zQb I P))) (k1 : P → zW sl (D + 1) dy mi pc' ls (.int 1 :: st') I (zRg b R)) (k0 : ¬ P → zW sl (D + 1) dy mi pc' ls (.int 0 :: st') I (zRg b R)) : zW sl (D + 1) dy mi pc ls st I (zRg b R) :=
  zcal (b1 := 0) (b2 := b) h hs hc (fun w J ⟨_, h3, h2⟩ => by
    rw [h3]
    rcases h2 with ⟨rfl, hp⟩ | ⟨rfl, hp⟩
    · exact k1 hp
    · exact k0 hp) (fun c w J ⟨h1, _⟩ => by cases h1)
theorem zb1 {P : Prop} (h : P) : zQb I P 0 (some (.int 1)) I := ⟨rfl, rfl, Or.inl ⟨rfl, h⟩⟩
theorem zb0 {P : Prop} (h : ¬ P) : zQb I P 0 (some (.int 0)) I := ⟨rfl, rfl, Or.inr ⟨rfl, h⟩⟩
theorem zf1 {w : Option Value} : zQf I w 0 w I := ⟨rfl, rfl, rfl⟩
theorem zx1 {c : Nat} : zQx I c (c + 1) none I := ⟨rfl, rfl⟩
end ZWR2
/-- the state's cells, by the place of the object that holds them -/
def zcell (o k : Nat) : Bool := match o with
  | 0 => Nat.ble 10 k && Nat.ble k 15
  | 1 => Nat.ble k 7
  | 2 => Nat.ble k 7
  | 3 => Nat.ble k 7
  | _ => Nat.ble o 10 && Nat.ble k 11
def zSB (p : Nat) (S : Nat → Nat → Int32) (I : zM) : Prop := ∀ o k, zcell o k = true → I (o + p) k = some (S o k)
theorem zcell_8 {o : Nat} {i : Int32} (ho : 1 ≤ o ∧ o ≤ 3) (h0 : 0 ≤ i.toInt) (h : i.toInt < 8) : zcell o i.toNatClampNeg = true := by
  have h2 : i.toNatClampNeg = i.toInt.toNat := rfl
  have h3 : Nat.ble i.toNatClampNeg 7 = true := Nat.ble_eq_true_of_le (by omega)
  rcases (show o = 1 ∨ o = 2 ∨ o = 3 by omega) with rfl | rfl | rfl <;> exact h3
theorem zcell_12 {o : Nat} {i : Int32} (ho : 4 ≤ o ∧ o ≤ 10) (h0 : 0 ≤ i.toInt) (h : i.toInt < 12) : zcell o i.toNatClampNeg = true := by
  have h2 : i.toNatClampNeg = i.toInt.toNat := rfl
  have h3 : Nat.ble i.toNatClampNeg 11 = true := Nat.ble_eq_true_of_le (by omega)
  have h4 : Nat.ble o 10 = true := Nat.ble_eq_true_of_le ho.2
  unfold zcell
  split <;> first | omega | simp [h3, h4]
/-- a state as the class keeps it -/
def zOK (S : Nat → Nat → Int32) : Prop :=
  (0 ≤ (S 0 10).toInt ∧ (S 0 10).toInt ≤ 8) ∧ (0 ≤ (S 0 11).toInt ∧ (S 0 11).toInt ≤ 12) ∧
  (∀ k : Nat, (k : Int) < (S 0 10).toInt → (10 ≤ (S 1 k).toInt ∧ (S 1 k).toInt ≤ 999) ∧ (0 ≤ (S 2 k).toInt ∧ (S 2 k).toInt ≤ (S 1 k).toInt) ∧ (0 ≤ (S 3 k).toInt ∧ (S 3 k).toInt ≤ 255)) ∧
  (∀ k : Nat, k < 8 → (S 0 10).toInt ≤ k → S 2 k = 0 ∧ S 3 k = 0) ∧
  (∀ k : Nat, (k : Int) < (S 0 11).toInt → (0 ≤ (S 4 k).toInt ∧ (S 4 k).toInt < (S 0 10).toInt) ∧ (0 ≤ (S 5 k).toInt ∧ (S 5 k).toInt < (S 0 10).toInt) ∧ (0 ≤ (S 6 k).toInt ∧ (S 6 k).toInt ≤ 255) ∧ (0 ≤ (S 7 k).toInt ∧ (S 7 k).toInt ≤ 4) ∧ (0 ≤ (S 8 k).toInt ∧ (S 8 k).toInt ≤ 9) ∧ (0 ≤ (S 9 k).toInt ∧ (S 9 k).toInt ≤ 20)) ∧
  (∀ k : Nat, k < 12 → (S 0 11).toInt ≤ k → S 7 k = 0 ∧ S 8 k = 0 ∧ S 9 k = 0 ∧ S 10 k = 0)
theorem zix {x n : Int32} (h0 : 0 ≤ x.toInt) (h1 : x.toInt < n.toInt) : ((x.toNatClampNeg : Nat) : Int) < n.toInt := by
  have h2 : x.toNatClampNeg = x.toInt.toNat := rfl
  omega
theorem zOK_tank {S : Nat → Nat → Int32} (h : zOK S) {t : Int32} (h0 : 0 ≤ t.toInt) (h1 : t.toInt < (S 0 10).toInt) : (10 ≤ (S 1 t.toNatClampNeg).toInt ∧ (S 1 t.toNatClampNeg).toInt ≤ 999) ∧ (0 ≤ (S 2 t.toNatClampNeg).toInt ∧ (S 2 t.toNatClampNeg).toInt ≤ (S 1 t.toNatClampNeg).toInt) ∧ (0 ≤ (S 3 t.toNatClampNeg).toInt ∧ (S 3 t.toNatClampNeg).toInt ≤ 255) := h.2.2.1 _ (zix h0 h1)
theorem zOK_pipe {S : Nat → Nat → Int32} (h : zOK S) {t : Int32} (h0 : 0 ≤ t.toInt) (h1 : t.toInt < (S 0 11).toInt) : (0 ≤ (S 4 t.toNatClampNeg).toInt ∧ (S 4 t.toNatClampNeg).toInt < (S 0 10).toInt) ∧ (0 ≤ (S 5 t.toNatClampNeg).toInt ∧ (S 5 t.toNatClampNeg).toInt < (S 0 10).toInt) ∧ (0 ≤ (S 6 t.toNatClampNeg).toInt ∧ (S 6 t.toNatClampNeg).toInt ≤ 255) ∧ (0 ≤ (S 7 t.toNatClampNeg).toInt ∧ (S 7 t.toNatClampNeg).toInt ≤ 4) ∧ (0 ≤ (S 8 t.toNatClampNeg).toInt ∧ (S 8 t.toNatClampNeg).toInt ≤ 9) ∧ (0 ≤ (S 9 t.toNatClampNeg).toInt ∧ (S 9 t.toNatClampNeg).toInt ≤ 20) := h.2.2.2.2.1 _ (zix h0 h1)
theorem zi0 : (0 : Int32).toInt = 0 := rfl
theorem zi8 : (8 : Int32).toInt = 8 := rfl
theorem zi20 : (20 : Int32).toInt = 20 := rfl
end
section
/-! CONTRACTS: the small methods -/
theorem zt_contains {sl D dy : Nat} {I : zM} (x y : Int32) : zW sl (D) dy 127 0 [(0, .int x), (1, .int y)] [] I (zRg 0 (zQb I (¬ (x >>> (y &&& 31)) &&& 1 = 0))) := by
  refine zg 5 (pc' := 5) (ls' := [(0, .int x), (1, .int y)]) (st' := [.int (((x >>> (y &&& 31)) &&& 1))]) (I' := I) rfl ?_
  refine zif rfl rfl (fun h1 => ?_) (fun h1 => ?_)
  · have h1 := zc_eq.1.mp h1
    refine zg 1 (pc' := 13) (ls' := [(0, .int x), (1, .int y)]) (st' := [.int 0]) (I' := I) rfl ?_
    refine ziret rfl rfl rfl ?_
    exact zb0 (fun q => q h1)
  · have h1 := zc_eq.2.mp h1
    refine zg 2 (pc' := 13) (ls' := [(0, .int x), (1, .int y)]) (st' := [.int 1]) (I' := I) rfl ?_
    refine ziret rfl rfl rfl ?_
    exact zb1 h1
theorem zt_hasTank {sl D dy : Nat} {I : zM} {S : Nat → Nat → Int32} (hB : zSB 1 S I) (t : Int32) : zW sl (D) dy 40 0 [(0, .ref 1), (1, .int t)] [] I (zRg 0 (zQb I (0 ≤ t.toInt ∧ t.toInt < (S 0 10).toInt))) := by
  refine zg 1 (pc' := 1) (ls' := [(0, .ref 1), (1, .int t)]) (st' := [.int t]) (I' := I) rfl ?_
  refine zif rfl rfl (fun h1 => ?_) (fun h1 => ?_)
  · have h1 := zc_lt.1.mp h1
    refine zg 1 (pc' := 17) (ls' := [(0, .ref 1), (1, .int t)]) (st' := [.int 0]) (I' := I) rfl ?_
    refine ziret rfl rfl rfl ?_
    have z0 : (0 : Int32).toInt = 0 := rfl
    exact zb0 (by omega)
  · have h1 := zc_lt.2.mp h1
    refine zg 2 (pc' := 6) (ls' := [(0, .ref 1), (1, .int t)]) (st' := [.ref 1, .int t]) (I' := I) rfl ?_
    refine zgf rfl rfl rfl (hB 0 10 rfl) ?_
    refine zicmp rfl rfl (fun h2 => ?_) (fun h2 => ?_)
    · have h2 := zc_ge.1.mp h2
      refine zg 1 (pc' := 17) (ls' := [(0, .ref 1), (1, .int t)]) (st' := [.int 0]) (I' := I) rfl ?_
      refine ziret rfl rfl rfl ?_
      have z0 : (0 : Int32).toInt = 0 := rfl
      exact zb0 (by omega)
    · have h2 := zc_ge.2.mp h2
      refine zg 2 (pc' := 17) (ls' := [(0, .ref 1), (1, .int t)]) (st' := [.int 1]) (I' := I) rfl ?_
      refine ziret rfl rfl rfl ?_
      have z0 : (0 : Int32).toInt = 0 := rfl
      exact zb1 (by omega)
theorem zt_hasPipe {sl D dy : Nat} {I : zM} {S : Nat → Nat → Int32} (hB : zSB 1 S I) (t : Int32) : zW sl (D) dy 41 0 [(0, .ref 1), (1, .int t)] [] I (zRg 0 (zQb I (0 ≤ t.toInt ∧ t.toInt < (S 0 11).toInt))) := by
  refine zg 1 (pc' := 1) (ls' := [(0, .ref 1), (1, .int t)]) (st' := [.int t]) (I' := I) rfl ?_
  refine zif rfl rfl (fun h1 => ?_) (fun h1 => ?_)
  · have h1 := zc_lt.1.mp h1
    refine zg 1 (pc' := 17) (ls' := [(0, .ref 1), (1, .int t)]) (st' := [.int 0]) (I' := I) rfl ?_
    refine ziret rfl rfl rfl ?_
    have z0 : (0 : Int32).toInt = 0 := rfl
    exact zb0 (by omega)
  · have h1 := zc_lt.2.mp h1
    refine zg 2 (pc' := 6) (ls' := [(0, .ref 1), (1, .int t)]) (st' := [.ref 1, .int t]) (I' := I) rfl ?_
    refine zgf rfl rfl rfl (hB 0 11 rfl) ?_
    refine zicmp rfl rfl (fun h2 => ?_) (fun h2 => ?_)
    · have h2 := zc_ge.1.mp h2
      refine zg 1 (pc' := 17) (ls' := [(0, .ref 1), (1, .int t)]) (st' := [.int 0]) (I' := I) rfl ?_
      refine ziret rfl rfl rfl ?_
      have z0 : (0 : Int32).toInt = 0 := rfl
      exact zb0 (by omega)
    · have h2 := zc_ge.2.mp h2
      refine zg 2 (pc' := 17) (ls' := [(0, .ref 1), (1, .int t)]) (st' := [.int 1]) (I' := I) rfl ?_
      refine ziret rfl rfl rfl ?_
      have z0 : (0 : Int32).toInt = 0 := rfl
      exact zb1 (by omega)
theorem zt_isWithin {sl D dy : Nat} {I : zM} (x a b : Int32) : zW sl (D) dy 43 0 [(0, .int x), (1, .int a), (2, .int b)] [] I (zRg 0 (zQb I (a.toInt ≤ x.toInt ∧ x.toInt ≤ b.toInt))) := by
  refine zg 2 (pc' := 2) (ls' := [(0, .int x), (1, .int a), (2, .int b)]) (st' := [.int a, .int x]) (I' := I) rfl ?_
  refine zicmp rfl rfl (fun h1 => ?_) (fun h1 => ?_)
  · have h1 := zc_lt.1.mp h1
    refine zg 1 (pc' := 15) (ls' := [(0, .int x), (1, .int a), (2, .int b)]) (st' := [.int 0]) (I' := I) rfl ?_
    refine ziret rfl rfl rfl ?_
    exact zb0 (by omega)
  · have h1 := zc_lt.2.mp h1
    refine zg 2 (pc' := 7) (ls' := [(0, .int x), (1, .int a), (2, .int b)]) (st' := [.int b, .int x]) (I' := I) rfl ?_
    refine zicmp rfl rfl (fun h2 => ?_) (fun h2 => ?_)
    · have h2 := zc_gt.1.mp h2
      refine zg 1 (pc' := 15) (ls' := [(0, .int x), (1, .int a), (2, .int b)]) (st' := [.int 0]) (I' := I) rfl ?_
      refine ziret rfl rfl rfl ?_
      exact zb0 (by omega)
    · have h2 := zc_gt.2.mp h2
      refine zg 2 (pc' := 15) (ls' := [(0, .int x), (1, .int a), (2, .int b)]) (st' := [.int 1]) (I' := I) rfl ?_
      refine ziret rfl rfl rfl ?_
      exact zb1 (by omega)
end
section
/-! CONTRACTS: pipes and tanks of a state -/
/-- an open pipe -/
def zop (S : Nat → Nat → Int32) (p : Nat) : Bool := !(decide (S 7 p = 0)) && decide ((S 9 p).toInt < 20)
theorem zop_iff {S : Nat → Nat → Int32} {p : Nat} : zop S p = true ↔ ¬ S 7 p = 0 ∧ (S 9 p).toInt < 20 := by simp [zop]
theorem zt_letsThrough {sl D dy : Nat} {I : zM} {S : Nat → Nat → Int32} (hB : zSB 1 S I) (hV : zOK S) (p : Int32) (h0 : 0 ≤ p.toInt) (hp : p.toInt < (S 0 11).toInt) : zW sl (D) dy 58 0 [(0, .ref 1), (1, .int p)] [] I (zRg 0 (zQb I (zop S p.toNatClampNeg = true))) := by
  have hT := hV.1
  have hP := hV.2.1
  have z0 := zi0
  have z8 := zi8
  have z20 := zi20
  refine zg 3 (pc' := 5) (ls' := [(0, .ref 1), (1, .int p)]) (st' := [.int p, .ref 8]) (I' := I) rfl ?_
  refine zia rfl rfl (zin_ok (n := 12) (by omega) (by omega)) (hB 7 _ (zcell_12 (by decide) (by omega) (by omega))) ?_
  refine zif rfl rfl (fun h1 => ?_) (fun h1 => ?_)
  · have h1 := zc_eq.1.mp h1
    refine zg 1 (pc' := 25) (ls' := [(0, .ref 1), (1, .int p)]) (st' := [.int 0]) (I' := I) rfl ?_
    refine ziret rfl rfl rfl ?_
    exact zb0 (fun q => by have q := zop_iff.mp q; first | exact q.1 h1 | (have := q.2; omega))
  · have h1 := zc_eq.2.mp h1
    refine zg 3 (pc' := 14) (ls' := [(0, .ref 1), (1, .int p)]) (st' := [.int p, .ref 10]) (I' := I) rfl ?_
    refine zia rfl rfl (zin_ok (n := 12) (by omega) (by omega)) (hB 9 _ (zcell_12 (by decide) (by omega) (by omega))) ?_
    refine zg 1 (pc' := 17) (ls' := [(0, .ref 1), (1, .int p)]) (st' := [.int 20, .int (S 9 p.toNatClampNeg)]) (I' := I) rfl ?_
    refine zicmp rfl rfl (fun h2 => ?_) (fun h2 => ?_)
    · have h2 := zc_ge.1.mp h2
      refine zg 1 (pc' := 25) (ls' := [(0, .ref 1), (1, .int p)]) (st' := [.int 0]) (I' := I) rfl ?_
      refine ziret rfl rfl rfl ?_
      exact zb0 (fun q => by have q := zop_iff.mp q; first | exact q.1 h1 | (have := q.2; omega))
    · have h2 := zc_ge.2.mp h2
      refine zg 2 (pc' := 25) (ls' := [(0, .ref 1), (1, .int p)]) (st' := [.int 1]) (I' := I) rfl ?_
      refine ziret rfl rfl rfl ?_
      exact zb1 (zop_iff.mpr ⟨h1, by omega⟩)
def zoth (S : Nat → Nat → Int32) (p : Nat) (t : Int32) : Int32 := if S 4 p = t then S 5 p else if S 5 p = t then S 4 p else -1
theorem zt_other {sl D dy : Nat} {I : zM} {S : Nat → Nat → Int32} (hB : zSB 1 S I) (hV : zOK S) (p t : Int32) (h0 : 0 ≤ p.toInt) (hp : p.toInt < (S 0 11).toInt) : zW sl (D) dy 1 0 [(0, .ref 1), (1, .int p), (2, .int t)] [] I (zRg 0 (zQf I (some (.int (zoth S p.toNatClampNeg t))))) := by
  have hT := hV.1
  have hP := hV.2.1
  have z0 := zi0
  have z8 := zi8
  have z20 := zi20
  refine zg 3 (pc' := 5) (ls' := [(0, .ref 1), (1, .int p), (2, .int t)]) (st' := [.int p, .ref 5]) (I' := I) rfl ?_
  refine zia rfl rfl (zin_ok (n := 12) (by omega) (by omega)) (hB 4 _ (zcell_12 (by decide) (by omega) (by omega))) ?_
  refine zg 1 (pc' := 7) (ls' := [(0, .ref 1), (1, .int p), (2, .int t)]) (st' := [.int t, .int (S 4 p.toNatClampNeg)]) (I' := I) rfl ?_
  refine zicmp rfl rfl (fun h1 => ?_) (fun h1 => ?_)
  · have h1 := zc_ne.1.mp h1
    refine zg 3 (pc' := 22) (ls' := [(0, .ref 1), (1, .int p), (2, .int t)]) (st' := [.int p, .ref 6]) (I' := I) rfl ?_
    refine zia rfl rfl (zin_ok (n := 12) (by omega) (by omega)) (hB 5 _ (zcell_12 (by decide) (by omega) (by omega))) ?_
    refine zg 1 (pc' := 24) (ls' := [(0, .ref 1), (1, .int p), (2, .int t)]) (st' := [.int t, .int (S 5 p.toNatClampNeg)]) (I' := I) rfl ?_
    refine zicmp rfl rfl (fun h2 => ?_) (fun h2 => ?_)
    · have h2 := zc_ne.1.mp h2
      refine zg 1 (pc' := 37) (ls' := [(0, .ref 1), (1, .int p), (2, .int t)]) (st' := [.int (-1)]) (I' := I) rfl ?_
      refine ziret rfl rfl rfl ?_
      refine ⟨rfl, ?_, rfl⟩
      unfold zoth
      first | rw [if_pos h1] | simp only [h1, h2, if_true, if_false]
    · have h2 := zc_ne.2.mp h2
      refine zg 3 (pc' := 32) (ls' := [(0, .ref 1), (1, .int p), (2, .int t)]) (st' := [.int p, .ref 5]) (I' := I) rfl ?_
      refine zia rfl rfl (zin_ok (n := 12) (by omega) (by omega)) (hB 4 _ (zcell_12 (by decide) (by omega) (by omega))) ?_
      refine zg 1 (pc' := 37) (ls' := [(0, .ref 1), (1, .int p), (2, .int t)]) (st' := [.int (S 4 p.toNatClampNeg)]) (I' := I) rfl ?_
      refine ziret rfl rfl rfl ?_
      refine ⟨rfl, ?_, rfl⟩
      unfold zoth
      first | rw [if_pos h1] | simp only [h1, h2, if_true, if_false]
  · have h1 := zc_ne.2.mp h1
    refine zg 3 (pc' := 15) (ls' := [(0, .ref 1), (1, .int p), (2, .int t)]) (st' := [.int p, .ref 6]) (I' := I) rfl ?_
    refine zia rfl rfl (zin_ok (n := 12) (by omega) (by omega)) (hB 5 _ (zcell_12 (by decide) (by omega) (by omega))) ?_
    refine ziret rfl rfl rfl ?_
    refine ⟨rfl, ?_, rfl⟩
    unfold zoth
    first | rw [if_pos h1] | simp only [h1, h2, if_true, if_false]
theorem zoth_in {S : Nat → Nat → Int32} (hV : zOK S) {p : Int32} {t : Int32} (h0 : 0 ≤ p.toInt) (hp : p.toInt < (S 0 11).toInt) (hn : ¬ zoth S p.toNatClampNeg t = -1) : 0 ≤ (zoth S p.toNatClampNeg t).toInt ∧ (zoth S p.toNatClampNeg t).toInt < (S 0 10).toInt := by
  have h := zOK_pipe hV h0 hp
  unfold zoth at hn ⊢
  split
  · exact h.2.1
  · rename_i q
    rw [if_neg q] at hn
    split
    · exact h.1
    · rename_i q2
      rw [if_neg q2] at hn
      exact absurd rfl hn
/-- bit y of x -/
def zbt (x y : Int32) : Bool := !(decide ((x >>> (y &&& 31)) &&& 1 = 0))
theorem zbt_iff {x y : Int32} : zbt x y = true ↔ ¬ (x >>> (y &&& 31)) &&& 1 = 0 := by simp [zbt]
theorem zt_cont {sl D dy : Nat} {I : zM} (x y : Int32) : zW sl D dy 127 0 [(0, .int x), (1, .int y)] [] I (zRg 0 (zQb I (zbt x y = true))) :=
  zwp (zt_contains x y) (fun c v J h => ⟨h.1, h.2.1, by rw [zbt_iff]; exact h.2.2⟩)
def znst (S : Nat → Nat → Int32) (ts least lo p f : Int32) : Int32 :=
  if p = lo then f else if zop S p.toNatClampNeg = true then
    if least.toInt ≤ (S 7 p.toNatClampNeg).toInt then
      if zbt ts (S 5 p.toNatClampNeg) = true then (if zbt ts (S 4 p.toNatClampNeg) = true then f ||| (1 <<< (S 5 p.toNatClampNeg &&& 31)) else f) ||| (1 <<< (S 4 p.toNatClampNeg &&& 31))
      else if zbt ts (S 4 p.toNatClampNeg) = true then f ||| (1 <<< (S 5 p.toNatClampNeg &&& 31)) else f
    else f
  else f
def znbl (S : Nat → Nat → Int32) (ts least lo : Int32) : Nat → Int32 → Int32 → Int32
  | 0, _, f => f
  | k + 1, p, f => znbl S ts least lo k (p + 1) (znst S ts least lo p f)
theorem zadd1 {x : Int32} (h0 : 0 ≤ x.toInt) (h1 : x.toInt < 1000000000) : (x + 1).toInt = x.toInt + 1 := by
  have h2 : (1 : Int32).toInt = 1 := rfl
  rw [Int32.toInt_add, h2]
  exact Int.bmod_eq_of_le (by omega) (by omega)
theorem zt_nbl {sl D dy : Nat} {I : zM} {S : Nat → Nat → Int32} (hB : zSB 1 S I) (hV : zOK S) (ts least lo : Int32) : ∀ (k : Nat) (p f : Int32) (h0 : 0 ≤ p.toInt) (hk : p.toInt + (k : Int) = (S 0 11).toInt), zW sl (D + 1) dy 3 6 [(5, .int p), (4, .int f), (0, .ref 135), (1, .int ts), (2, .int least), (3, .int lo)] [] I (zRg 0 (zQf I (some (.int (znbl S ts least lo k p f))))) := by
  intro k
  induction k with
  | zero =>
    intro p f h0 hk
    have hT := hV.1
    have hP := hV.2.1
    have z0 := zi0
    have z8 := zi8
    have z20 := zi20
    refine zg 3 (pc' := 12) (ls' := [(5, .int p), (4, .int f), (0, .ref 135), (1, .int ts), (2, .int least), (3, .int lo)]) (st' := [.ref 1, .int p]) (I' := I) rfl ?_
    refine zgf rfl rfl rfl (hB 0 11 rfl) ?_
    refine zicmp rfl rfl (fun h1 => ?_) (fun h1 => ?_)
    · have h1 := zc_ge.1.mp h1
      refine zg 1 (pc' := 129) (ls' := [(5, .int p), (4, .int f), (0, .ref 135), (1, .int ts), (2, .int least), (3, .int lo)]) (st' := [.int f]) (I' := I) rfl ?_
      refine ziret rfl rfl rfl ?_
      exact zf1
    · have h1 := zc_ge.2.mp h1
      exfalso; omega
  | succ k ih =>
    intro p f h0 hk
    have hT := hV.1
    have hP := hV.2.1
    have z0 := zi0
    have z8 := zi8
    have z20 := zi20
    refine zg 3 (pc' := 12) (ls' := [(5, .int p), (4, .int f), (0, .ref 135), (1, .int ts), (2, .int least), (3, .int lo)]) (st' := [.ref 1, .int p]) (I' := I) rfl ?_
    refine zgf rfl rfl rfl (hB 0 11 rfl) ?_
    refine zicmp rfl rfl (fun h1 => ?_) (fun h1 => ?_)
    · have h1 := zc_ge.1.mp h1
      exfalso; omega
    · have h1 := zc_ge.2.mp h1
      refine zg 2 (pc' := 21) (ls' := [(5, .int p), (4, .int f), (0, .ref 135), (1, .int ts), (2, .int least), (3, .int lo)]) (st' := [.int lo, .int p]) (I' := I) rfl ?_
      refine zicmp rfl rfl (fun h2 => ?_) (fun h2 => ?_)
      · have h2 := zc_eq.1.mp h2
        refine zg 2 (pc' := 6) (ls' := [(5, .int (p + 1)), (4, .int f), (0, .ref 135), (1, .int ts), (2, .int least), (3, .int lo)]) (st' := []) (I' := I) rfl ?_
        have e : znst S ts least lo p f = f := by
          unfold znst
          simp only [*, if_true, if_false]
          try simp
        show zW _ _ _ _ _ _ _ _ (zRg 0 (zQf I (some (.int (znbl S ts least lo k (p + 1) (znst S ts least lo p f))))))
        rw [e]
        exact (ih (p + 1) f (by rw [zadd1 h0 (by omega)]; omega) (by rw [zadd1 h0 (by omega)]; omega))
      · have h2 := zc_eq.2.mp h2
        refine zg 3 (pc' := 30) (ls' := [(5, .int p), (4, .int f), (0, .ref 135), (1, .int ts), (2, .int least), (3, .int lo)]) (st' := [.int p, .ref 1]) (I' := I) rfl ?_
        refine zcb rfl rfl (zt_letsThrough hB hV p (by omega) (by omega)) (fun h3 => ?_) (fun h3 => ?_)
        · skip
          refine zg 5 (pc' := 45) (ls' := [(5, .int p), (4, .int f), (0, .ref 135), (1, .int ts), (2, .int least), (3, .int lo)]) (st' := [.int p, .ref 8]) (I' := I) rfl ?_
          refine zia rfl rfl (zin_ok (n := 12) (by omega) (by omega)) (hB 7 _ (zcell_12 (by decide) (by omega) (by omega))) ?_
          refine zg 1 (pc' := 47) (ls' := [(5, .int p), (4, .int f), (0, .ref 135), (1, .int ts), (2, .int least), (3, .int lo)]) (st' := [.int least, .int (S 7 p.toNatClampNeg)]) (I' := I) rfl ?_
          refine zicmp rfl rfl (fun h4 => ?_) (fun h4 => ?_)
          · have h4 := zc_ge.1.mp h4
            refine zg 5 (pc' := 63) (ls' := [(5, .int p), (4, .int f), (0, .ref 135), (1, .int ts), (2, .int least), (3, .int lo)]) (st' := [.int p, .ref 5, .int ts]) (I' := I) rfl ?_
            refine zia rfl rfl (zin_ok (n := 12) (by omega) (by omega)) (hB 4 _ (zcell_12 (by decide) (by omega) (by omega))) ?_
            refine zcb rfl rfl (zt_cont ts (S 4 p.toNatClampNeg)) (fun h5 => ?_) (fun h5 => ?_)
            · skip
              refine zg 7 (pc' := 82) (ls' := [(5, .int p), (4, .int f), (0, .ref 135), (1, .int ts), (2, .int least), (3, .int lo)]) (st' := [.int p, .ref 6, .int 1, .int f]) (I' := I) rfl ?_
              refine zia rfl rfl (zin_ok (n := 12) (by omega) (by omega)) (hB 5 _ (zcell_12 (by decide) (by omega) (by omega))) ?_
              refine zg 8 (pc' := 97) (ls' := [(4, .int ((f ||| (1 <<< ((S 5 p.toNatClampNeg) &&& 31))))), (5, .int p), (0, .ref 135), (1, .int ts), (2, .int least), (3, .int lo)]) (st' := [.int p, .ref 6, .int ts]) (I' := I) rfl ?_
              refine zia rfl rfl (zin_ok (n := 12) (by omega) (by omega)) (hB 5 _ (zcell_12 (by decide) (by omega) (by omega))) ?_
              refine zcb rfl rfl (zt_cont ts (S 5 p.toNatClampNeg)) (fun h6 => ?_) (fun h6 => ?_)
              · skip
                refine zg 7 (pc' := 116) (ls' := [(4, .int ((f ||| (1 <<< ((S 5 p.toNatClampNeg) &&& 31))))), (5, .int p), (0, .ref 135), (1, .int ts), (2, .int least), (3, .int lo)]) (st' := [.int p, .ref 5, .int 1, .int ((f ||| (1 <<< ((S 5 p.toNatClampNeg) &&& 31))))]) (I' := I) rfl ?_
                refine zia rfl rfl (zin_ok (n := 12) (by omega) (by omega)) (hB 4 _ (zcell_12 (by decide) (by omega) (by omega))) ?_
                refine zg 5 (pc' := 6) (ls' := [(5, .int (p + 1)), (4, .int (((f ||| (1 <<< ((S 5 p.toNatClampNeg) &&& 31))) ||| (1 <<< ((S 4 p.toNatClampNeg) &&& 31))))), (0, .ref 135), (1, .int ts), (2, .int least), (3, .int lo)]) (st' := []) (I' := I) rfl ?_
                have e : znst S ts least lo p f = ((f ||| (1 <<< ((S 5 p.toNatClampNeg) &&& 31))) ||| (1 <<< ((S 4 p.toNatClampNeg) &&& 31))) := by
                  unfold znst
                  simp only [*, if_true, if_false]
                  try simp
                show zW _ _ _ _ _ _ _ _ (zRg 0 (zQf I (some (.int (znbl S ts least lo k (p + 1) (znst S ts least lo p f))))))
                rw [e]
                exact (ih (p + 1) (((f ||| (1 <<< ((S 5 p.toNatClampNeg) &&& 31))) ||| (1 <<< ((S 4 p.toNatClampNeg) &&& 31)))) (by rw [zadd1 h0 (by omega)]; omega) (by rw [zadd1 h0 (by omega)]; omega))
              · skip
                refine zg 3 (pc' := 6) (ls' := [(5, .int (p + 1)), (4, .int ((f ||| (1 <<< ((S 5 p.toNatClampNeg) &&& 31))))), (0, .ref 135), (1, .int ts), (2, .int least), (3, .int lo)]) (st' := []) (I' := I) rfl ?_
                have e : znst S ts least lo p f = (f ||| (1 <<< ((S 5 p.toNatClampNeg) &&& 31))) := by
                  unfold znst
                  simp only [*, if_true, if_false]
                  try simp
                show zW _ _ _ _ _ _ _ _ (zRg 0 (zQf I (some (.int (znbl S ts least lo k (p + 1) (znst S ts least lo p f))))))
                rw [e]
                exact (ih (p + 1) ((f ||| (1 <<< ((S 5 p.toNatClampNeg) &&& 31)))) (by rw [zadd1 h0 (by omega)]; omega) (by rw [zadd1 h0 (by omega)]; omega))
            · skip
              refine zg 6 (pc' := 97) (ls' := [(5, .int p), (4, .int f), (0, .ref 135), (1, .int ts), (2, .int least), (3, .int lo)]) (st' := [.int p, .ref 6, .int ts]) (I' := I) rfl ?_
              refine zia rfl rfl (zin_ok (n := 12) (by omega) (by omega)) (hB 5 _ (zcell_12 (by decide) (by omega) (by omega))) ?_
              refine zcb rfl rfl (zt_cont ts (S 5 p.toNatClampNeg)) (fun h7 => ?_) (fun h7 => ?_)
              · skip
                refine zg 7 (pc' := 116) (ls' := [(5, .int p), (4, .int f), (0, .ref 135), (1, .int ts), (2, .int least), (3, .int lo)]) (st' := [.int p, .ref 5, .int 1, .int f]) (I' := I) rfl ?_
                refine zia rfl rfl (zin_ok (n := 12) (by omega) (by omega)) (hB 4 _ (zcell_12 (by decide) (by omega) (by omega))) ?_
                refine zg 5 (pc' := 6) (ls' := [(5, .int (p + 1)), (4, .int ((f ||| (1 <<< ((S 4 p.toNatClampNeg) &&& 31))))), (0, .ref 135), (1, .int ts), (2, .int least), (3, .int lo)]) (st' := []) (I' := I) rfl ?_
                have e : znst S ts least lo p f = (f ||| (1 <<< ((S 4 p.toNatClampNeg) &&& 31))) := by
                  unfold znst
                  simp only [*, if_true, if_false]
                  try simp
                show zW _ _ _ _ _ _ _ _ (zRg 0 (zQf I (some (.int (znbl S ts least lo k (p + 1) (znst S ts least lo p f))))))
                rw [e]
                exact (ih (p + 1) ((f ||| (1 <<< ((S 4 p.toNatClampNeg) &&& 31)))) (by rw [zadd1 h0 (by omega)]; omega) (by rw [zadd1 h0 (by omega)]; omega))
              · skip
                refine zg 3 (pc' := 6) (ls' := [(5, .int (p + 1)), (4, .int f), (0, .ref 135), (1, .int ts), (2, .int least), (3, .int lo)]) (st' := []) (I' := I) rfl ?_
                have e : znst S ts least lo p f = f := by
                  unfold znst
                  simp only [*, if_true, if_false]
                  try simp
                show zW _ _ _ _ _ _ _ _ (zRg 0 (zQf I (some (.int (znbl S ts least lo k (p + 1) (znst S ts least lo p f))))))
                rw [e]
                exact (ih (p + 1) f (by rw [zadd1 h0 (by omega)]; omega) (by rw [zadd1 h0 (by omega)]; omega))
          · have h4 := zc_ge.2.mp h4
            refine zg 3 (pc' := 6) (ls' := [(5, .int (p + 1)), (4, .int f), (0, .ref 135), (1, .int ts), (2, .int least), (3, .int lo)]) (st' := []) (I' := I) rfl ?_
            have e : znst S ts least lo p f = f := by
              unfold znst
              simp only [*, if_true, if_false]
              try simp
            show zW _ _ _ _ _ _ _ _ (zRg 0 (zQf I (some (.int (znbl S ts least lo k (p + 1) (znst S ts least lo p f))))))
            rw [e]
            exact (ih (p + 1) f (by rw [zadd1 h0 (by omega)]; omega) (by rw [zadd1 h0 (by omega)]; omega))
        · skip
          refine zg 3 (pc' := 6) (ls' := [(5, .int (p + 1)), (4, .int f), (0, .ref 135), (1, .int ts), (2, .int least), (3, .int lo)]) (st' := []) (I' := I) rfl ?_
          have e : znst S ts least lo p f = f := by
            unfold znst
            simp only [*, if_true, if_false]
            try simp
          show zW _ _ _ _ _ _ _ _ (zRg 0 (zQf I (some (.int (znbl S ts least lo k (p + 1) (znst S ts least lo p f))))))
          rw [e]
          exact (ih (p + 1) f (by rw [zadd1 h0 (by omega)]; omega) (by rw [zadd1 h0 (by omega)]; omega))
theorem zt_neighbours {sl D dy : Nat} {I : zM} {S : Nat → Nat → Int32} (hB : zSB 1 S I) (hV : zOK S) (ts least lo : Int32) : zW sl (D + 1) dy 3 0 [(0, .ref 135), (1, .int ts), (2, .int least), (3, .int lo)] [] I (zRg 0 (zQf I (some (.int (znbl S ts least lo (S 0 11).toInt.toNat 0 0))))) := by
  have hT := hV.1
  have hP := hV.2.1
  have z0 := zi0
  have z8 := zi8
  have z20 := zi20
  refine zg 4 (pc' := 6) (ls' := [(5, .int 0), (4, .int 0), (0, .ref 135), (1, .int ts), (2, .int least), (3, .int lo)]) (st' := []) (I' := I) rfl ?_
  exact zt_nbl hB hV ts least lo _ 0 0 (by omega) (by omega)
end
