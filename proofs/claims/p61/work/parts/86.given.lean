/-! WHAT THE START GIVES: the premises by their places, the words of the tables -/
def zgv : List Cond := flatC (Jvm.Cond.and given_1 narrow_1)
def zvl (tm : Term) : Term := .field tm "java/lang/String" "value" "[B"
/-- what is given of a String constant -/
def zwS (q : String × Nat × String) : List Cond :=
  .exactly (.string q.1 q.2.1) "java/lang/String" :: .eq (.field (.string q.1 q.2.1) "java/lang/String" "coder" "B") (.int 0) :: .arrayOf (zvl (.string q.1 q.2.1)) .byte :: .eq (.length (zvl (.string q.1 q.2.1))) (.int (Int32.ofNat (zch q.2.2).length)) :: (List.range (zch q.2.2).length).map (fun j => Cond.eq (.elem (zvl (.string q.1 q.2.1)) (.int (Int32.ofNat j))) (.int ((zch q.2.2).getD j 0)))
def zps : List Nat := [299, 323, 358, 390, 430, 446, 1004, 786, 802, 774, 936, 462, 494, 635, 681, 701, 1044, 740, 759, 523, 532, 541, 550, 559, 569, 578, 588, 596, 603, 611, 618, 625, 630, 957, 972, 978, 998, 1024, 1029, 1079]
set_option maxRecDepth 400000 in
theorem zwS_all : ((List.range 40).all fun i => match zstr[i]? with
    | some q => decide ((zgv.drop (zps.getD i 0)).take ((zch q.2.2).length + 4) = zwS q)
    | none => false) = true := by decide +kernel
set_option maxRecDepth 400000 in
theorem zwS_len : zstr.length = 40 := by decide +kernel
theorem zwS_lt {i : Nat} {q : String × Nat × String} (h : zstr[i]? = some q) : i < 40 := by
  have := (List.getElem?_eq_some_iff.mp h).1
  rw [zwS_len] at this
  exact this
theorem zwS_in {i : Nat} {q : String × Nat × String} (h : zstr[i]? = some q) : ∀ w ∈ zwS q, w ∈ zgv := by
  have h1 := List.all_eq_true.mp zwS_all i (List.mem_range.mpr (zwS_lt h))
  rw [h] at h1
  have h2 := of_decide_eq_true h1
  intro w hw
  rw [← h2] at hw
  exact List.mem_of_mem_drop (List.mem_of_mem_take hw)
set_option maxRecDepth 400000 in
theorem zstr_ok : (zstr.all fun q => decide ((zch q.2.2).length < 100) && ((zch q.2.2).all fun x => decide (0 ≤ x) && decide (x < 128)) && decide (Cond.stringRef q.1 q.2.1 q.2.2 ∈ lw_tbl)) = true := by decide +kernel
theorem zstr_at {i : Nat} {q : String × Nat × String} (h : zstr[i]? = some q) : (zch q.2.2).length < 100 ∧ (∀ x ∈ zch q.2.2, 0 ≤ x ∧ x < 128) ∧ Cond.stringRef q.1 q.2.1 q.2.2 ∈ lw_tbl := by
  have h1 := List.all_eq_true.mp zstr_ok q (List.mem_of_getElem? h)
  simp only [Bool.and_eq_true, decide_eq_true_eq] at h1
  refine ⟨h1.1.1, fun x hx => ?_, h1.2⟩
  have h2 := List.all_eq_true.mp h1.1.2 x hx
  simp only [Bool.and_eq_true, decide_eq_true_eq] at h2
  exact h2
/-- what is given of a table of digits -/
def zwD (n : String) (f : Nat → Int32) : List Cond :=
  .arrayOf (.static "java/lang/Integer" n "[B") .byte :: .eq (.length (.static "java/lang/Integer" n "[B")) (.int (Int32.ofNat 100)) :: (List.range 100).map (fun j => Cond.eq (.elem (.static "java/lang/Integer" n "[B") (.int (Int32.ofNat j))) (.int (f j)))
set_option maxRecDepth 400000 in
theorem zwD_O : (zgv.drop 12).take 102 = zwD "DigitOnes" zdgO := by decide +kernel
set_option maxRecDepth 400000 in
theorem zwD_T : (zgv.drop 115).take 102 = zwD "DigitTens" zdgT := by decide +kernel
set_option maxRecDepth 400000 in
theorem zgv_4 : zgv[4]? = some (.eq (.static "java/lang/String" "COMPACT_STRINGS" "Z") (.int 1)) ∧ zgv[5]? = some (.isRef (.static Bundle.tN "UNASSIGNED_STACK" Bundle.steD)) ∧ zgv[6]? = some (.isRef (.static Bundle.tN "SUPPRESSED_SENTINEL" Bundle.listD)) ∧ zgv[7]? = some (.isRef (.static "jdk/internal/util/Preconditions" "SIOOBE_FORMATTER" "Ljava/util/function/BiFunction;")) := by decide +kernel
set_option maxRecDepth 400000 in
theorem zwN_all : ((List.range 6).all fun i => (List.range 6).all fun j => decide (i = j) || decide (Cond.not (.castable (zEx i) (zEx j)) ∈ zgv)) = true := by decide +kernel
theorem zwN_in {i j : Nat} (hi : i < 6) (hj : j < 6) (h : i ≠ j) : Cond.not (.castable (zEx i) (zEx j)) ∈ zgv := by
  have h1 := List.all_eq_true.mp (List.all_eq_true.mp zwN_all i (List.mem_range.mpr hi)) j (List.mem_range.mpr hj)
  rw [decide_eq_false h, Bool.false_or] at h1
  exact of_decide_eq_true h1
set_option maxRecDepth 400000 in
theorem zwC_all : (vwCl.all fun q => ((u_ws q.1 q.2.1 q.2.2).all fun w => decide (w ∈ lw_tbl)) && decide (Cond.instantiable q.1 q.2.2 ∈ lw_tbl)) = true := by decide +kernel
set_option maxRecDepth 400000 in
theorem zwA_all : Cond.arrayClass .int ∈ lw_tbl ∧ Cond.arrayClass .long ∈ lw_tbl ∧ Cond.arrayClass .char ∈ lw_tbl ∧ Cond.arrayClass .byte ∈ lw_tbl ∧ Cond.arrayOver (.object RX3) ∈ lw_tbl := by decide +kernel
set_option maxRecDepth 400000 in
theorem zwZ_all : ([Cond.laysStatic "java/lang/String" "COMPACT_STRINGS" "Z", .initialized "java/lang/String", .laysStatic "java/lang/Integer" "DigitOnes" "[B", .laysStatic "java/lang/Integer" "DigitTens" "[B", .initialized "java/lang/Integer", .laysStatic "jdk/internal/util/Preconditions" "SIOOBE_FORMATTER" "Ljava/util/function/BiFunction;", .initialized "jdk/internal/util/Preconditions", .laysStatic Bundle.tN "UNASSIGNED_STACK" Bundle.steD, .laysStatic Bundle.tN "SUPPRESSED_SENTINEL" Bundle.listD, .initialized Bundle.tN].all fun w => decide (w ∈ lw_tbl)) = true := by decide +kernel
theorem zwZ {args : Array Value} {s : State} (hts : ∀ w ∈ lw_tbl, w.before args s = true) (i : Nat) {w : Cond} (h : ([Cond.laysStatic "java/lang/String" "COMPACT_STRINGS" "Z", .initialized "java/lang/String", .laysStatic "java/lang/Integer" "DigitOnes" "[B", .laysStatic "java/lang/Integer" "DigitTens" "[B", .initialized "java/lang/Integer", .laysStatic "jdk/internal/util/Preconditions" "SIOOBE_FORMATTER" "Ljava/util/function/BiFunction;", .initialized "jdk/internal/util/Preconditions", .laysStatic Bundle.tN "UNASSIGNED_STACK" Bundle.steD, .laysStatic Bundle.tN "SUPPRESSED_SENTINEL" Bundle.listD, .initialized Bundle.tN] : List Cond)[i]? = some w) : w.before args s = true :=
  hts w (of_decide_eq_true (List.all_eq_true.mp zwZ_all w (List.mem_of_getElem? h)))
theorem zNw_of {w : Cond} {A : Array Value} {s : State} (hw : (w.faceAtom || zisN w) = true) (h : w.before A s = true) : va_Nw w s := by
  by_cases hf : w.faceAtom = true
  · refine va_Nw.of ?_ h
    cases w <;> first | rfl | (simp [Cond.faceAtom] at hf; done)
  · have hn : zisN w = true := by
      cases hz : zisN w with
      | true => rfl
      | false => rw [hz] at hw; simp only [Bool.or_false] at hw; exact absurd hw hf
    cases w <;> first | exact va_Nw.of rfl h | (simp [zisN] at hn; done) | (rename_i t; cases t <;> first | exact va_AO.of h | (simp [zisN] at hn; done))
