/-! Names: the two kinds of objects, their fields, their methods, the words of the tables by their places. -/
def lw_g : List Cond := lw_tbl.filter goodWord
theorem lw_gt {args : Array Value} {s : State} (h : ∀ w ∈ lw_tbl, w.before args s = true) : ∀ w ∈ lw_g, w.before args s = true := fun w hw => h w (List.mem_filter.mp hw).1
def R_TT : String := "TimeTable"
def R_TM : String := "TimeTableModel"
def R_law : String := "TimeTableLaw"
def F_TT : u_T := fun k => match k with
  | 0 => ("TimeTable", "bytes", "[B", true)
  | 1 => ("TimeTable", "order", "[I", true)
  | 2 => ("TimeTable", "numbers", "[I", true)
  | 3 => ("TimeTable", "times", "[I", true)
  | 4 => ("TimeTable", "starts", "[I", true)
  | 5 => ("TimeTable", "lengths", "[I", true)
  | 6 => ("TimeTable", "waiting", "I", false)
  | 7 => ("TimeTable", "waitedInAll", "I", false)
  | 8 => ("TimeTable", "now", "I", false)
  | 9 => ("TimeTable", "on", "Z", false)
  | 10 => ("TimeTable", "textStart", "I", false)
  | 11 => ("TimeTable", "textLength", "I", false)
  | 12 => ("TimeTable", "leftStart", "I", false)
  | _ => ("TimeTable", "leftLength", "I", false)
def t_TT : Nat → FieldType := fun k => match k with
  | 0 => .array .byte
  | 1 => .array .int
  | 2 => .array .int
  | 3 => .array .int
  | 4 => .array .int
  | 5 => .array .int
  | 6 => .int
  | 7 => .int
  | 8 => .int
  | 9 => .boolean
  | 10 => .int
  | 11 => .int
  | 12 => .int
  | _ => .int
abbrev w_TT : List Cond := u_ws R_TT F_TT 14
theorem n_TT : ∀ a, a < 14 → ∀ b, b < 14 → a ≠ b → (F_TT a).2.1 ≠ (F_TT b).2.1 := by decide +kernel
theorem t_TT_ok : ∀ k, k < 14 → parseFieldDescriptor (F_TT k).2.2.1 = some (t_TT k) := by decide +kernel
theorem i_TT : ∀ w ∈ w_TT, w ∈ lw_g := by decide +kernel
def F_TM : u_T := fun k => match k with
  | 0 => ("TimeTableModel", "thrown", "I", false)
  | 1 => ("TimeTableModel", "most", "I", true)
  | 2 => ("TimeTableModel", "now", "I", false)
  | 3 => ("TimeTableModel", "on", "Z", false)
  | 4 => ("TimeTableModel", "all", "I", false)
  | 5 => ("TimeTableModel", "text", "[B", true)
  | 6 => ("TimeTableModel", "textSize", "I", false)
  | 7 => ("TimeTableModel", "left", "[B", true)
  | 8 => ("TimeTableModel", "leftSize", "I", false)
  | 9 => ("TimeTableModel", "many", "I", false)
  | 10 => ("TimeTableModel", "number", "[I", true)
  | 11 => ("TimeTableModel", "time", "[I", true)
  | 12 => ("TimeTableModel", "size", "[I", true)
  | 13 => ("TimeTableModel", "row", "[I", true)
  | 14 => ("TimeTableModel", "used", "[Z", true)
  | _ => ("TimeTableModel", "bytes", "[B", true)
def t_TM : Nat → FieldType := fun k => match k with
  | 0 => .int
  | 1 => .int
  | 2 => .int
  | 3 => .boolean
  | 4 => .int
  | 5 => .array .byte
  | 6 => .int
  | 7 => .array .byte
  | 8 => .int
  | 9 => .int
  | 10 => .array .int
  | 11 => .array .int
  | 12 => .array .int
  | 13 => .array .int
  | 14 => .array .boolean
  | _ => .array .byte
abbrev w_TM : List Cond := u_ws R_TM F_TM 16
theorem n_TM : ∀ a, a < 16 → ∀ b, b < 16 → a ≠ b → (F_TM a).2.1 ≠ (F_TM b).2.1 := by decide +kernel
theorem t_TM_ok : ∀ k, k < 16 → parseFieldDescriptor (F_TM k).2.2.1 = some (t_TM k) := by decide +kernel
theorem i_TM : ∀ w ∈ w_TM, w ∈ lw_g := by decide +kernel
abbrev classes : List vw_C := [(R_TT, F_TT, 14), (R_TM, F_TM, 16)]
theorem good_all : lw_g.all goodWord = true := List.all_eq_true.mpr (fun _ h => (List.mem_filter.mp h).2)
theorem gd {own : String} {idx : Nat} {C : String} {y : MethodName} {b : ByteArray} {n : Nat} {ret : Option FieldType} (h1 : Cond.methodLink own idx y ∈ lw_g) (h2 : Cond.instanceMethod y ∈ lw_g) (h3 : Cond.selects C y y ∈ lw_g) (h4 : Cond.initialized C ∈ lw_g) (h5 : Cond.code y b n ret ∈ lw_g) : GoodIn lw_g (wsV own idx C y (Cond.code y b n ret :: lw_g)) := by
  have g : ∀ w, w ∈ lw_g → w ∈ lw_g ∧ ((w.onTables && w.keeps) = true ∨ ∃ ty, w = .arrayClass ty) := fun w h => ⟨h, good_of_word (List.all_eq_true.mp good_all w h)⟩
  intro w hw
  refine g w ?_
  unfold wsV at hw
  rcases List.mem_append.mp hw with h | h
  · rcases List.mem_cons.mp h with h | h
    · rw [h]; exact h1
    · rcases List.mem_cons.mp h with h | h
      · rw [h]; exact h2
      · rcases List.mem_cons.mp h with h | h
        · rw [h]; exact h3
        · rw [List.mem_singleton.mp h]; exact h4
  · rcases List.mem_cons.mp h with h | h
    · rw [h]; exact h5
    · exact h
theorem gd0 {y : MethodName} {b : ByteArray} {n : Nat} {ret : Option FieldType} (h5 : Cond.code y b n ret ∈ lw_g) : GoodIn lw_g (Cond.code y b n ret :: lw_g) := by
  intro w hw
  have h : w ∈ lw_g := by
    rcases List.mem_cons.mp hw with h | h
    · rw [h]; exact h5
    · exact h
  exact ⟨h, good_of_word (List.all_eq_true.mp good_all w h)⟩
theorem gdS {own : String} {idx : Nat} {y : MethodName} {b : ByteArray} {n : Nat} {ret : Option FieldType} (h1 : Cond.methodLink own idx y ∈ lw_g) (h2 : Cond.static y ∈ lw_g) (h4 : Cond.initialized own ∈ lw_g) (h5 : Cond.code y b n ret ∈ lw_g) : GoodIn lw_g (wsS own idx y (Cond.code y b n ret :: lw_g)) := by
  have g : ∀ w, w ∈ lw_g → w ∈ lw_g ∧ ((w.onTables && w.keeps) = true ∨ ∃ ty, w = .arrayClass ty) := fun w h => ⟨h, good_of_word (List.all_eq_true.mp good_all w h)⟩
  intro w hw
  refine g w ?_
  unfold wsS at hw
  rcases List.mem_append.mp hw with h | h
  · rcases List.mem_cons.mp h with h | h
    · rw [h]; exact h1
    · rcases List.mem_cons.mp h with h | h
      · rw [h]; exact h2
      · rw [List.mem_singleton.mp h]; exact h4
  · rcases List.mem_cons.mp h with h | h
    · rw [h]; exact h5
    · exact h
theorem in_law : Cond.initialized "TimeTableLaw" ∈ lw_g := List.mem_filter.mpr ⟨List.mem_append_right _ (List.mem_of_getElem? (i := 0) (by decide +kernel)), rfl⟩
theorem in_TT : Cond.initialized "TimeTable" ∈ lw_g := List.mem_filter.mpr ⟨List.mem_append_right _ (List.mem_of_getElem? (i := 1) (by decide +kernel)), rfl⟩
theorem in_Math : Cond.initialized "java/lang/Math" ∈ lw_g := List.mem_filter.mpr ⟨List.mem_append_right _ (List.mem_of_getElem? (i := 2) (by decide +kernel)), rfl⟩
theorem in_TM : Cond.initialized "TimeTableModel" ∈ lw_g := List.mem_filter.mpr ⟨List.mem_append_right _ (List.mem_of_getElem? (i := 3) (by decide +kernel)), rfl⟩
theorem ac_byte : Cond.arrayClass .byte ∈ lw_g := List.mem_filter.mpr ⟨List.mem_append_right _ (List.mem_of_getElem? (i := 61) (by decide +kernel)), rfl⟩
theorem ac_int : Cond.arrayClass .int ∈ lw_g := List.mem_filter.mpr ⟨List.mem_append_right _ (List.mem_of_getElem? (i := 62) (by decide +kernel)), rfl⟩
theorem ac_boolean : Cond.arrayClass .boolean ∈ lw_g := List.mem_filter.mpr ⟨List.mem_append_right _ (List.mem_of_getElem? (i := 232) (by decide +kernel)), rfl⟩
theorem cl_TT : Cond.classLink R_law 7 R_TT ∈ lw_g := List.mem_filter.mpr ⟨List.mem_append_right _ (List.mem_of_getElem? (i := 4) (by decide +kernel)), rfl⟩
theorem cl_TM : Cond.classLink R_law 18 R_TM ∈ lw_g := List.mem_filter.mpr ⟨List.mem_append_right _ (List.mem_of_getElem? (i := 176) (by decide +kernel)), rfl⟩
theorem ns_TT : Cond.instantiable R_TT 14 ∈ lw_g := List.mem_filter.mpr ⟨List.mem_append_right _ (List.mem_of_getElem? (i := 5) (by decide +kernel)), rfl⟩
theorem ns_TM : Cond.instantiable R_TM 16 ∈ lw_g := List.mem_filter.mpr ⟨List.mem_append_right _ (List.mem_of_getElem? (i := 177) (by decide +kernel)), rfl⟩
theorem k_TT_66 : Cond.constant R_TT 66 (nI 2147483647) ∈ lw_g := List.mem_filter.mpr ⟨List.mem_append_right _ (List.mem_of_getElem? (i := 111) (by decide +kernel)), rfl⟩
theorem k_TM_33 : Cond.constant R_TM 33 (nI 262144) ∈ lw_g := List.mem_filter.mpr ⟨List.mem_append_right _ (List.mem_of_getElem? (i := 182) (by decide +kernel)), rfl⟩
theorem k_TM_66 : Cond.constant R_TM 66 (-2147483648) ∈ lw_g := List.mem_filter.mpr ⟨List.mem_append_right _ (List.mem_of_getElem? (i := 261) (by decide +kernel)), rfl⟩
theorem k_TM_67 : Cond.constant R_TM 67 (nI 2147483647) ∈ lw_g := List.mem_filter.mpr ⟨List.mem_append_right _ (List.mem_of_getElem? (i := 262) (by decide +kernel)), rfl⟩
theorem k_TT_105 : Cond.constantLong R_TT 105 2147483647 ∈ lw_g := List.mem_filter.mpr ⟨List.mem_append_right _ (List.mem_of_getElem? (i := 120) (by decide +kernel)), rfl⟩
theorem k_TM_64 : Cond.constantLong R_TM 64 2147483647 ∈ lw_g := List.mem_filter.mpr ⟨List.mem_append_right _ (List.mem_of_getElem? (i := 267) (by decide +kernel)), rfl⟩
theorem fl_TT_18 : Cond.fieldLink R_TT 18 R_TT (F_TT 0).2.1 (F_TT 0).2.2.1 ∈ lw_g := List.mem_filter.mpr ⟨List.mem_append_right _ (List.mem_of_getElem? (i := 18) (by decide +kernel)), rfl⟩
theorem fl_TT_22 : Cond.fieldLink R_TT 22 R_TT (F_TT 1).2.1 (F_TT 1).2.2.1 ∈ lw_g := List.mem_filter.mpr ⟨List.mem_append_right _ (List.mem_of_getElem? (i := 19) (by decide +kernel)), rfl⟩
theorem fl_TT_26 : Cond.fieldLink R_TT 26 R_TT (F_TT 2).2.1 (F_TT 2).2.2.1 ∈ lw_g := List.mem_filter.mpr ⟨List.mem_append_right _ (List.mem_of_getElem? (i := 20) (by decide +kernel)), rfl⟩
theorem fl_TT_29 : Cond.fieldLink R_TT 29 R_TT (F_TT 3).2.1 (F_TT 3).2.2.1 ∈ lw_g := List.mem_filter.mpr ⟨List.mem_append_right _ (List.mem_of_getElem? (i := 21) (by decide +kernel)), rfl⟩
theorem fl_TT_32 : Cond.fieldLink R_TT 32 R_TT (F_TT 4).2.1 (F_TT 4).2.2.1 ∈ lw_g := List.mem_filter.mpr ⟨List.mem_append_right _ (List.mem_of_getElem? (i := 22) (by decide +kernel)), rfl⟩
theorem fl_TT_35 : Cond.fieldLink R_TT 35 R_TT (F_TT 5).2.1 (F_TT 5).2.2.1 ∈ lw_g := List.mem_filter.mpr ⟨List.mem_append_right _ (List.mem_of_getElem? (i := 23) (by decide +kernel)), rfl⟩
theorem fl_TT_53 : Cond.fieldLink R_TT 53 R_TT (F_TT 6).2.1 (F_TT 6).2.2.1 ∈ lw_g := List.mem_filter.mpr ⟨List.mem_append_right _ (List.mem_of_getElem? (i := 24) (by decide +kernel)), rfl⟩
theorem fl_TT_90 : Cond.fieldLink R_TT 90 R_TT (F_TT 7).2.1 (F_TT 7).2.2.1 ∈ lw_g := List.mem_filter.mpr ⟨List.mem_append_right _ (List.mem_of_getElem? (i := 25) (by decide +kernel)), rfl⟩
theorem fl_TT_75 : Cond.fieldLink R_TT 75 R_TT (F_TT 8).2.1 (F_TT 8).2.2.1 ∈ lw_g := List.mem_filter.mpr ⟨List.mem_append_right _ (List.mem_of_getElem? (i := 26) (by decide +kernel)), rfl⟩
theorem fl_TT_71 : Cond.fieldLink R_TT 71 R_TT (F_TT 9).2.1 (F_TT 9).2.2.1 ∈ lw_g := List.mem_filter.mpr ⟨List.mem_append_right _ (List.mem_of_getElem? (i := 27) (by decide +kernel)), rfl⟩
theorem fl_TT_38 : Cond.fieldLink R_TT 38 R_TT (F_TT 10).2.1 (F_TT 10).2.2.1 ∈ lw_g := List.mem_filter.mpr ⟨List.mem_append_right _ (List.mem_of_getElem? (i := 28) (by decide +kernel)), rfl⟩
theorem fl_TT_42 : Cond.fieldLink R_TT 42 R_TT (F_TT 11).2.1 (F_TT 11).2.2.1 ∈ lw_g := List.mem_filter.mpr ⟨List.mem_append_right _ (List.mem_of_getElem? (i := 29) (by decide +kernel)), rfl⟩
theorem fl_TT_78 : Cond.fieldLink R_TT 78 R_TT (F_TT 12).2.1 (F_TT 12).2.2.1 ∈ lw_g := List.mem_filter.mpr ⟨List.mem_append_right _ (List.mem_of_getElem? (i := 30) (by decide +kernel)), rfl⟩
theorem fl_TT_81 : Cond.fieldLink R_TT 81 R_TT (F_TT 13).2.1 (F_TT 13).2.2.1 ∈ lw_g := List.mem_filter.mpr ⟨List.mem_append_right _ (List.mem_of_getElem? (i := 31) (by decide +kernel)), rfl⟩
theorem fl_TM_41 : Cond.fieldLink R_TM 41 R_TM (F_TM 0).2.1 (F_TM 0).2.2.1 ∈ lw_g := List.mem_filter.mpr ⟨List.mem_append_right _ (List.mem_of_getElem? (i := 183) (by decide +kernel)), rfl⟩
theorem fl_TM_37 : Cond.fieldLink R_TM 37 R_TM (F_TM 1).2.1 (F_TM 1).2.2.1 ∈ lw_g := List.mem_filter.mpr ⟨List.mem_append_right _ (List.mem_of_getElem? (i := 184) (by decide +kernel)), rfl⟩
theorem fl_TM_50 : Cond.fieldLink R_TM 50 R_TM (F_TM 2).2.1 (F_TM 2).2.2.1 ∈ lw_g := List.mem_filter.mpr ⟨List.mem_append_right _ (List.mem_of_getElem? (i := 185) (by decide +kernel)), rfl⟩
theorem fl_TM_72 : Cond.fieldLink R_TM 72 R_TM (F_TM 3).2.1 (F_TM 3).2.2.1 ∈ lw_g := List.mem_filter.mpr ⟨List.mem_append_right _ (List.mem_of_getElem? (i := 186) (by decide +kernel)), rfl⟩
theorem fl_TM_53 : Cond.fieldLink R_TM 53 R_TM (F_TM 4).2.1 (F_TM 4).2.2.1 ∈ lw_g := List.mem_filter.mpr ⟨List.mem_append_right _ (List.mem_of_getElem? (i := 187) (by decide +kernel)), rfl⟩
theorem fl_TM_7 : Cond.fieldLink R_TM 7 R_TM (F_TM 5).2.1 (F_TM 5).2.2.1 ∈ lw_g := List.mem_filter.mpr ⟨List.mem_append_right _ (List.mem_of_getElem? (i := 188) (by decide +kernel)), rfl⟩
theorem fl_TM_47 : Cond.fieldLink R_TM 47 R_TM (F_TM 6).2.1 (F_TM 6).2.2.1 ∈ lw_g := List.mem_filter.mpr ⟨List.mem_append_right _ (List.mem_of_getElem? (i := 189) (by decide +kernel)), rfl⟩
theorem fl_TM_13 : Cond.fieldLink R_TM 13 R_TM (F_TM 7).2.1 (F_TM 7).2.2.1 ∈ lw_g := List.mem_filter.mpr ⟨List.mem_append_right _ (List.mem_of_getElem? (i := 190) (by decide +kernel)), rfl⟩
theorem fl_TM_80 : Cond.fieldLink R_TM 80 R_TM (F_TM 8).2.1 (F_TM 8).2.2.1 ∈ lw_g := List.mem_filter.mpr ⟨List.mem_append_right _ (List.mem_of_getElem? (i := 191) (by decide +kernel)), rfl⟩
theorem fl_TM_44 : Cond.fieldLink R_TM 44 R_TM (F_TM 9).2.1 (F_TM 9).2.2.1 ∈ lw_g := List.mem_filter.mpr ⟨List.mem_append_right _ (List.mem_of_getElem? (i := 192) (by decide +kernel)), rfl⟩
theorem fl_TM_16 : Cond.fieldLink R_TM 16 R_TM (F_TM 10).2.1 (F_TM 10).2.2.1 ∈ lw_g := List.mem_filter.mpr ⟨List.mem_append_right _ (List.mem_of_getElem? (i := 193) (by decide +kernel)), rfl⟩
theorem fl_TM_20 : Cond.fieldLink R_TM 20 R_TM (F_TM 11).2.1 (F_TM 11).2.2.1 ∈ lw_g := List.mem_filter.mpr ⟨List.mem_append_right _ (List.mem_of_getElem? (i := 194) (by decide +kernel)), rfl⟩
theorem fl_TM_23 : Cond.fieldLink R_TM 23 R_TM (F_TM 12).2.1 (F_TM 12).2.2.1 ∈ lw_g := List.mem_filter.mpr ⟨List.mem_append_right _ (List.mem_of_getElem? (i := 195) (by decide +kernel)), rfl⟩
theorem fl_TM_26 : Cond.fieldLink R_TM 26 R_TM (F_TM 13).2.1 (F_TM 13).2.2.1 ∈ lw_g := List.mem_filter.mpr ⟨List.mem_append_right _ (List.mem_of_getElem? (i := 196) (by decide +kernel)), rfl⟩
theorem fl_TM_29 : Cond.fieldLink R_TM 29 R_TM (F_TM 14).2.1 (F_TM 14).2.2.1 ∈ lw_g := List.mem_filter.mpr ⟨List.mem_append_right _ (List.mem_of_getElem? (i := 197) (by decide +kernel)), rfl⟩
theorem fl_TM_34 : Cond.fieldLink R_TM 34 R_TM (F_TM 15).2.1 (F_TM 15).2.2.1 ∈ lw_g := List.mem_filter.mpr ⟨List.mem_append_right _ (List.mem_of_getElem? (i := 198) (by decide +kernel)), rfl⟩
abbrev b_TT_init : ByteArray := prog_1_method_1_code
def y_TT_init : MethodName := ⟨R_TT, "<init>", "(I)V"⟩
theorem co_TT_init : Cond.code y_TT_init b_TT_init 4 none ∈ lw_g := List.mem_filter.mpr ⟨List.mem_append_right _ (List.mem_of_getElem? (i := 8) rfl), rfl⟩
def ws_TT_init : List Cond := Cond.code y_TT_init b_TT_init 4 none :: lw_g
abbrev b_TT_put : ByteArray := prog_1_method_2_code
def y_TT_put : MethodName := ⟨R_TT, "put", "(I)I"⟩
theorem co_TT_put : Cond.code y_TT_put b_TT_put 3 (some .int) ∈ lw_g := List.mem_filter.mpr ⟨List.mem_append_right _ (List.mem_of_getElem? (i := 66) rfl), rfl⟩
def ws_TT_put : List Cond := Cond.code y_TT_put b_TT_put 3 (some .int) :: lw_g
abbrev b_TT_insert : ByteArray := prog_1_method_3_code
def y_TT_insert : MethodName := ⟨R_TT, "insert", "(II)I"⟩
theorem co_TT_insert : Cond.code y_TT_insert b_TT_insert 4 (some .int) ∈ lw_g := List.mem_filter.mpr ⟨List.mem_append_right _ (List.mem_of_getElem? (i := 70) rfl), rfl⟩
def ws_TT_insert : List Cond := Cond.code y_TT_insert b_TT_insert 4 (some .int) :: lw_g
abbrev b_TT_whetherInserted : ByteArray := prog_1_method_17_code
def y_TT_whetherInserted : MethodName := ⟨R_TT, "whetherInserted", "(I)I"⟩
theorem co_TT_whetherInserted : Cond.code y_TT_whetherInserted b_TT_whetherInserted 2 (some .int) ∈ lw_g := List.mem_filter.mpr ⟨List.mem_append_right _ (List.mem_of_getElem? (i := 74) rfl), rfl⟩
def ws_TT_whetherInserted : List Cond := Cond.code y_TT_whetherInserted b_TT_whetherInserted 2 (some .int) :: lw_g
abbrev b_TT_addEntry : ByteArray := prog_1_method_18_code
def y_TT_addEntry : MethodName := ⟨R_TT, "addEntry", "(II)V"⟩
theorem co_TT_addEntry : Cond.code y_TT_addEntry b_TT_addEntry 4 none ∈ lw_g := List.mem_filter.mpr ⟨List.mem_append_right _ (List.mem_of_getElem? (i := 78) rfl), rfl⟩
def ws_TT_addEntry : List Cond := Cond.code y_TT_addEntry b_TT_addEntry 4 none :: lw_g
abbrev b_TT_settle : ByteArray := prog_1_method_23_code
def y_TT_settle : MethodName := ⟨R_TT, "settle", "(I)V"⟩
theorem co_TT_settle : Cond.code y_TT_settle b_TT_settle 3 none ∈ lw_g := List.mem_filter.mpr ⟨List.mem_append_right _ (List.mem_of_getElem? (i := 82) rfl), rfl⟩
def ws_TT_settle : List Cond := Cond.code y_TT_settle b_TT_settle 3 none :: lw_g
abbrev b_TT_isBefore : ByteArray := prog_1_method_24_code
def y_TT_isBefore : MethodName := ⟨R_TT, "isBefore", "(II)Z"⟩
theorem co_TT_isBefore : Cond.code y_TT_isBefore b_TT_isBefore 3 (some .boolean) ∈ lw_g := List.mem_filter.mpr ⟨List.mem_append_right _ (List.mem_of_getElem? (i := 86) rfl), rfl⟩
def ws_TT_isBefore : List Cond := Cond.code y_TT_isBefore b_TT_isBefore 3 (some .boolean) :: lw_g
abbrev b_TT_swap : ByteArray := prog_1_method_25_code
def y_TT_swap : MethodName := ⟨R_TT, "swap", "(II)V"⟩
theorem co_TT_swap : Cond.code y_TT_swap b_TT_swap 4 none ∈ lw_g := List.mem_filter.mpr ⟨List.mem_append_right _ (List.mem_of_getElem? (i := 90) rfl), rfl⟩
def ws_TT_swap : List Cond := Cond.code y_TT_swap b_TT_swap 4 none :: lw_g
abbrev b_TT_remove : ByteArray := prog_1_method_4_code
def y_TT_remove : MethodName := ⟨R_TT, "remove", "(I)I"⟩
theorem co_TT_remove : Cond.code y_TT_remove b_TT_remove 4 (some .int) ∈ lw_g := List.mem_filter.mpr ⟨List.mem_append_right _ (List.mem_of_getElem? (i := 94) rfl), rfl⟩
def ws_TT_remove : List Cond := Cond.code y_TT_remove b_TT_remove 4 (some .int) :: lw_g
abbrev b_TT_keepFirst : ByteArray := prog_1_method_26_code
def y_TT_keepFirst : MethodName := ⟨R_TT, "keepFirst", "(I)I"⟩
theorem co_TT_keepFirst : Cond.code y_TT_keepFirst b_TT_keepFirst 3 (some .int) ∈ lw_g := List.mem_filter.mpr ⟨List.mem_append_right _ (List.mem_of_getElem? (i := 98) rfl), rfl⟩
def ws_TT_keepFirst : List Cond := Cond.code y_TT_keepFirst b_TT_keepFirst 3 (some .int) :: lw_g
abbrev b_TT_removeSpan : ByteArray := prog_1_method_5_code
def y_TT_removeSpan : MethodName := ⟨R_TT, "removeSpan", "(II)I"⟩
theorem co_TT_removeSpan : Cond.code y_TT_removeSpan b_TT_removeSpan 5 (some .int) ∈ lw_g := List.mem_filter.mpr ⟨List.mem_append_right _ (List.mem_of_getElem? (i := 102) rfl), rfl⟩
def ws_TT_removeSpan : List Cond := Cond.code y_TT_removeSpan b_TT_removeSpan 5 (some .int) :: lw_g
abbrev b_TT_isInSpan : ByteArray := prog_1_method_21_code
def y_TT_isInSpan : MethodName := ⟨R_TT, "isInSpan", "(III)Z"⟩
theorem co_TT_isInSpan : Cond.code y_TT_isInSpan b_TT_isInSpan 4 (some .boolean) ∈ lw_g := List.mem_filter.mpr ⟨List.mem_append_right _ (List.mem_of_getElem? (i := 106) rfl), rfl⟩
def ws_TT_isInSpan : List Cond := Cond.code y_TT_isInSpan b_TT_isInSpan 4 (some .boolean) :: lw_g
abbrev b_TT_shift : ByteArray := prog_1_method_6_code
def y_TT_shift : MethodName := ⟨R_TT, "shift", "(I)I"⟩
theorem co_TT_shift : Cond.code y_TT_shift b_TT_shift 2 (some .int) ∈ lw_g := List.mem_filter.mpr ⟨List.mem_append_right _ (List.mem_of_getElem? (i := 110) rfl), rfl⟩
def ws_TT_shift : List Cond := Cond.code y_TT_shift b_TT_shift 2 (some .int) :: lw_g
abbrev b_TT_moveTimes : ByteArray := prog_1_method_19_code
def y_TT_moveTimes : MethodName := ⟨R_TT, "moveTimes", "(III)I"⟩
theorem co_TT_moveTimes : Cond.code y_TT_moveTimes b_TT_moveTimes 6 (some .int) ∈ lw_g := List.mem_filter.mpr ⟨List.mem_append_right _ (List.mem_of_getElem? (i := 115) rfl), rfl⟩
def ws_TT_moveTimes : List Cond := Cond.code y_TT_moveTimes b_TT_moveTimes 6 (some .int) :: lw_g
abbrev b_TT_canMove : ByteArray := prog_1_method_20_code
def y_TT_canMove : MethodName := ⟨R_TT, "canMove", "(II)Z"⟩
theorem co_TT_canMove : Cond.code y_TT_canMove b_TT_canMove 5 (some .boolean) ∈ lw_g := List.mem_filter.mpr ⟨List.mem_append_right _ (List.mem_of_getElem? (i := 119) rfl), rfl⟩
def ws_TT_canMove : List Cond := Cond.code y_TT_canMove b_TT_canMove 5 (some .boolean) :: lw_g
abbrev b_TT_shiftSpan : ByteArray := prog_1_method_7_code
def y_TT_shiftSpan : MethodName := ⟨R_TT, "shiftSpan", "(III)I"⟩
theorem co_TT_shiftSpan : Cond.code y_TT_shiftSpan b_TT_shiftSpan 4 (some .int) ∈ lw_g := List.mem_filter.mpr ⟨List.mem_append_right _ (List.mem_of_getElem? (i := 124) rfl), rfl⟩
def ws_TT_shiftSpan : List Cond := Cond.code y_TT_shiftSpan b_TT_shiftSpan 4 (some .int) :: lw_g
abbrev b_TT_enable : ByteArray := prog_1_method_8_code
def y_TT_enable : MethodName := ⟨R_TT, "enable", "(Z)V"⟩
theorem co_TT_enable : Cond.code y_TT_enable b_TT_enable 2 none ∈ lw_g := List.mem_filter.mpr ⟨List.mem_append_right _ (List.mem_of_getElem? (i := 128) rfl), rfl⟩
def ws_TT_enable : List Cond := Cond.code y_TT_enable b_TT_enable 2 none :: lw_g
abbrev b_TT_isOn : ByteArray := prog_1_method_9_code
def y_TT_isOn : MethodName := ⟨R_TT, "isOn", "()Z"⟩
theorem co_TT_isOn : Cond.code y_TT_isOn b_TT_isOn 1 (some .boolean) ∈ lw_g := List.mem_filter.mpr ⟨List.mem_append_right _ (List.mem_of_getElem? (i := 132) rfl), rfl⟩
def ws_TT_isOn : List Cond := Cond.code y_TT_isOn b_TT_isOn 1 (some .boolean) :: lw_g
abbrev b_TT_reset : ByteArray := prog_1_method_10_code
def y_TT_reset : MethodName := ⟨R_TT, "reset", "()V"⟩
theorem co_TT_reset : Cond.code y_TT_reset b_TT_reset 1 none ∈ lw_g := List.mem_filter.mpr ⟨List.mem_append_right _ (List.mem_of_getElem? (i := 136) rfl), rfl⟩
def ws_TT_reset : List Cond := Cond.code y_TT_reset b_TT_reset 1 none :: lw_g
abbrev b_TT_tick : ByteArray := prog_1_method_11_code
def y_TT_tick : MethodName := ⟨R_TT, "tick", "()I"⟩
theorem co_TT_tick : Cond.code y_TT_tick b_TT_tick 1 (some .int) ∈ lw_g := List.mem_filter.mpr ⟨List.mem_append_right _ (List.mem_of_getElem? (i := 140) rfl), rfl⟩
def ws_TT_tick : List Cond := Cond.code y_TT_tick b_TT_tick 1 (some .int) :: lw_g
abbrev b_TT_leave : ByteArray := prog_1_method_12_code
def y_TT_leave : MethodName := ⟨R_TT, "leave", "()I"⟩
theorem co_TT_leave : Cond.code y_TT_leave b_TT_leave 1 (some .int) ∈ lw_g := List.mem_filter.mpr ⟨List.mem_append_right _ (List.mem_of_getElem? (i := 144) rfl), rfl⟩
def ws_TT_leave : List Cond := Cond.code y_TT_leave b_TT_leave 1 (some .int) :: lw_g
abbrev b_TT_dropFirst : ByteArray := prog_1_method_27_code
def y_TT_dropFirst : MethodName := ⟨R_TT, "dropFirst", "()V"⟩
theorem co_TT_dropFirst : Cond.code y_TT_dropFirst b_TT_dropFirst 2 none ∈ lw_g := List.mem_filter.mpr ⟨List.mem_append_right _ (List.mem_of_getElem? (i := 148) rfl), rfl⟩
def ws_TT_dropFirst : List Cond := Cond.code y_TT_dropFirst b_TT_dropFirst 2 none :: lw_g
abbrev b_TT_left : ByteArray := prog_1_method_13_code
def y_TT_left : MethodName := ⟨R_TT, "left", "(I)I"⟩
theorem co_TT_left : Cond.code y_TT_left b_TT_left 2 (some .int) ∈ lw_g := List.mem_filter.mpr ⟨List.mem_append_right _ (List.mem_of_getElem? (i := 152) rfl), rfl⟩
def ws_TT_left : List Cond := Cond.code y_TT_left b_TT_left 2 (some .int) :: lw_g
abbrev b_TT_byteOf : ByteArray := prog_1_method_28_code
def y_TT_byteOf : MethodName := ⟨R_TT, "byteOf", "(III)I"⟩
theorem co_TT_byteOf : Cond.code y_TT_byteOf b_TT_byteOf 4 (some .int) ∈ lw_g := List.mem_filter.mpr ⟨List.mem_append_right _ (List.mem_of_getElem? (i := 156) rfl), rfl⟩
def ws_TT_byteOf : List Cond := Cond.code y_TT_byteOf b_TT_byteOf 4 (some .int) :: lw_g
abbrev b_TT_count : ByteArray := prog_1_method_14_code
def y_TT_count : MethodName := ⟨R_TT, "count", "(I)I"⟩
theorem co_TT_count : Cond.code y_TT_count b_TT_count 2 (some .int) ∈ lw_g := List.mem_filter.mpr ⟨List.mem_append_right _ (List.mem_of_getElem? (i := 160) rfl), rfl⟩
def ws_TT_count : List Cond := Cond.code y_TT_count b_TT_count 2 (some .int) :: lw_g
abbrev b_TT_about : ByteArray := prog_1_method_15_code
def y_TT_about : MethodName := ⟨R_TT, "about", "(II)I"⟩
theorem co_TT_about : Cond.code y_TT_about b_TT_about 3 (some .int) ∈ lw_g := List.mem_filter.mpr ⟨List.mem_append_right _ (List.mem_of_getElem? (i := 164) rfl), rfl⟩
def ws_TT_about : List Cond := Cond.code y_TT_about b_TT_about 3 (some .int) :: lw_g
abbrev b_TT_isWaiting : ByteArray := prog_1_method_22_code
def y_TT_isWaiting : MethodName := ⟨R_TT, "isWaiting", "(I)Z"⟩
theorem co_TT_isWaiting : Cond.code y_TT_isWaiting b_TT_isWaiting 2 (some .boolean) ∈ lw_g := List.mem_filter.mpr ⟨List.mem_append_right _ (List.mem_of_getElem? (i := 168) rfl), rfl⟩
def ws_TT_isWaiting : List Cond := Cond.code y_TT_isWaiting b_TT_isWaiting 2 (some .boolean) :: lw_g
abbrev b_TT_byteAt : ByteArray := prog_1_method_16_code
def y_TT_byteAt : MethodName := ⟨R_TT, "byteAt", "(II)I"⟩
theorem co_TT_byteAt : Cond.code y_TT_byteAt b_TT_byteAt 3 (some .int) ∈ lw_g := List.mem_filter.mpr ⟨List.mem_append_right _ (List.mem_of_getElem? (i := 172) rfl), rfl⟩
def ws_TT_byteAt : List Cond := Cond.code y_TT_byteAt b_TT_byteAt 3 (some .int) :: lw_g
abbrev b_law_cell : ByteArray := method_2_code
def y_law_cell : MethodName := ⟨R_law, "cell", "([II)I"⟩
theorem co_law_cell : Cond.code y_law_cell b_law_cell 2 (some .int) ∈ lw_g := List.mem_filter.mpr ⟨List.mem_append_right _ (List.mem_of_getElem? (i := 175) rfl), rfl⟩
def ws_law_cell : List Cond := Cond.code y_law_cell b_law_cell 2 (some .int) :: lw_g
abbrev b_TM_init : ByteArray := prog_3_method_1_code
def y_TM_init : MethodName := ⟨R_TM, "<init>", "(I)V"⟩
theorem co_TM_init : Cond.code y_TM_init b_TM_init 2 none ∈ lw_g := List.mem_filter.mpr ⟨List.mem_append_right _ (List.mem_of_getElem? (i := 180) rfl), rfl⟩
def ws_TM_init : List Cond := Cond.code y_TM_init b_TM_init 2 none :: lw_g
abbrev b_TM_put : ByteArray := prog_3_method_6_code
def y_TM_put : MethodName := ⟨R_TM, "put", "(I)I"⟩
theorem co_TM_put : Cond.code y_TM_put b_TM_put 2 (some .int) ∈ lw_g := List.mem_filter.mpr ⟨List.mem_append_right _ (List.mem_of_getElem? (i := 236) rfl), rfl⟩
def ws_TM_put : List Cond := Cond.code y_TM_put b_TM_put 2 (some .int) :: lw_g
abbrev b_TM_insert : ByteArray := prog_3_method_7_code
def y_TM_insert : MethodName := ⟨R_TM, "insert", "(II)I"⟩
theorem co_TM_insert : Cond.code y_TM_insert b_TM_insert 6 (some .int) ∈ lw_g := List.mem_filter.mpr ⟨List.mem_append_right _ (List.mem_of_getElem? (i := 240) rfl), rfl⟩
def ws_TM_insert : List Cond := Cond.code y_TM_insert b_TM_insert 6 (some .int) :: lw_g
abbrev b_TM_remove : ByteArray := prog_3_method_8_code
def y_TM_remove : MethodName := ⟨R_TM, "remove", "(I)I"⟩
theorem co_TM_remove : Cond.code y_TM_remove b_TM_remove 4 (some .int) ∈ lw_g := List.mem_filter.mpr ⟨List.mem_append_right _ (List.mem_of_getElem? (i := 244) rfl), rfl⟩
def ws_TM_remove : List Cond := Cond.code y_TM_remove b_TM_remove 4 (some .int) :: lw_g
abbrev b_TM_drop : ByteArray := prog_3_method_4_code
def y_TM_drop : MethodName := ⟨R_TM, "drop", "(I)V"⟩
theorem co_TM_drop : Cond.code y_TM_drop b_TM_drop 3 none ∈ lw_g := List.mem_filter.mpr ⟨List.mem_append_right _ (List.mem_of_getElem? (i := 248) rfl), rfl⟩
def ws_TM_drop : List Cond := Cond.code y_TM_drop b_TM_drop 3 none :: lw_g
abbrev b_TM_removeSpan : ByteArray := prog_3_method_9_code
def y_TM_removeSpan : MethodName := ⟨R_TM, "removeSpan", "(II)I"⟩
theorem co_TM_removeSpan : Cond.code y_TM_removeSpan b_TM_removeSpan 5 (some .int) ∈ lw_g := List.mem_filter.mpr ⟨List.mem_append_right _ (List.mem_of_getElem? (i := 252) rfl), rfl⟩
def ws_TM_removeSpan : List Cond := Cond.code y_TM_removeSpan b_TM_removeSpan 5 (some .int) :: lw_g
abbrev b_TM_in : ByteArray := prog_3_method_5_code
def y_TM_in : MethodName := ⟨R_TM, "in", "(III)Z"⟩
theorem co_TM_in : Cond.code y_TM_in b_TM_in 4 (some .boolean) ∈ lw_g := List.mem_filter.mpr ⟨List.mem_append_right _ (List.mem_of_getElem? (i := 256) rfl), rfl⟩
def ws_TM_in : List Cond := Cond.code y_TM_in b_TM_in 4 (some .boolean) :: lw_g
abbrev b_TM_shift : ByteArray := prog_3_method_11_code
def y_TM_shift : MethodName := ⟨R_TM, "shift", "(I)I"⟩
theorem co_TM_shift : Cond.code y_TM_shift b_TM_shift 2 (some .int) ∈ lw_g := List.mem_filter.mpr ⟨List.mem_append_right _ (List.mem_of_getElem? (i := 260) rfl), rfl⟩
def ws_TM_shift : List Cond := Cond.code y_TM_shift b_TM_shift 2 (some .int) :: lw_g
abbrev b_TM_move : ByteArray := prog_3_method_10_code
def y_TM_move : MethodName := ⟨R_TM, "move", "(III)I"⟩
theorem co_TM_move : Cond.code y_TM_move b_TM_move 8 (some .int) ∈ lw_g := List.mem_filter.mpr ⟨List.mem_append_right _ (List.mem_of_getElem? (i := 266) rfl), rfl⟩
def ws_TM_move : List Cond := Cond.code y_TM_move b_TM_move 8 (some .int) :: lw_g
abbrev b_TM_shiftSpan : ByteArray := prog_3_method_12_code
def y_TM_shiftSpan : MethodName := ⟨R_TM, "shiftSpan", "(III)I"⟩
theorem co_TM_shiftSpan : Cond.code y_TM_shiftSpan b_TM_shiftSpan 4 (some .int) ∈ lw_g := List.mem_filter.mpr ⟨List.mem_append_right _ (List.mem_of_getElem? (i := 271) rfl), rfl⟩
def ws_TM_shiftSpan : List Cond := Cond.code y_TM_shiftSpan b_TM_shiftSpan 4 (some .int) :: lw_g
abbrev b_TM_enable : ByteArray := prog_3_method_13_code
def y_TM_enable : MethodName := ⟨R_TM, "enable", "(Z)V"⟩
theorem co_TM_enable : Cond.code y_TM_enable b_TM_enable 2 none ∈ lw_g := List.mem_filter.mpr ⟨List.mem_append_right _ (List.mem_of_getElem? (i := 275) rfl), rfl⟩
def ws_TM_enable : List Cond := Cond.code y_TM_enable b_TM_enable 2 none :: lw_g
abbrev b_TM_isOn : ByteArray := prog_3_method_14_code
def y_TM_isOn : MethodName := ⟨R_TM, "isOn", "()Z"⟩
theorem co_TM_isOn : Cond.code y_TM_isOn b_TM_isOn 1 (some .boolean) ∈ lw_g := List.mem_filter.mpr ⟨List.mem_append_right _ (List.mem_of_getElem? (i := 279) rfl), rfl⟩
def ws_TM_isOn : List Cond := Cond.code y_TM_isOn b_TM_isOn 1 (some .boolean) :: lw_g
abbrev b_TM_reset : ByteArray := prog_3_method_15_code
def y_TM_reset : MethodName := ⟨R_TM, "reset", "()V"⟩
theorem co_TM_reset : Cond.code y_TM_reset b_TM_reset 1 none ∈ lw_g := List.mem_filter.mpr ⟨List.mem_append_right _ (List.mem_of_getElem? (i := 283) rfl), rfl⟩
def ws_TM_reset : List Cond := Cond.code y_TM_reset b_TM_reset 1 none :: lw_g
abbrev b_TM_tick : ByteArray := prog_3_method_16_code
def y_TM_tick : MethodName := ⟨R_TM, "tick", "()I"⟩
theorem co_TM_tick : Cond.code y_TM_tick b_TM_tick 1 (some .int) ∈ lw_g := List.mem_filter.mpr ⟨List.mem_append_right _ (List.mem_of_getElem? (i := 287) rfl), rfl⟩
def ws_TM_tick : List Cond := Cond.code y_TM_tick b_TM_tick 1 (some .int) :: lw_g
abbrev b_TM_leave : ByteArray := prog_3_method_17_code
def y_TM_leave : MethodName := ⟨R_TM, "leave", "()I"⟩
theorem co_TM_leave : Cond.code y_TM_leave b_TM_leave 3 (some .int) ∈ lw_g := List.mem_filter.mpr ⟨List.mem_append_right _ (List.mem_of_getElem? (i := 291) rfl), rfl⟩
def ws_TM_leave : List Cond := Cond.code y_TM_leave b_TM_leave 3 (some .int) :: lw_g
abbrev b_TM_place : ByteArray := prog_3_method_3_code
def y_TM_place : MethodName := ⟨R_TM, "place", "(I)I"⟩
theorem co_TM_place : Cond.code y_TM_place b_TM_place 6 (some .int) ∈ lw_g := List.mem_filter.mpr ⟨List.mem_append_right _ (List.mem_of_getElem? (i := 295) rfl), rfl⟩
def ws_TM_place : List Cond := Cond.code y_TM_place b_TM_place 6 (some .int) :: lw_g
abbrev b_TM_left : ByteArray := prog_3_method_18_code
def y_TM_left : MethodName := ⟨R_TM, "left", "(I)I"⟩
theorem co_TM_left : Cond.code y_TM_left b_TM_left 2 (some .int) ∈ lw_g := List.mem_filter.mpr ⟨List.mem_append_right _ (List.mem_of_getElem? (i := 299) rfl), rfl⟩
def ws_TM_left : List Cond := Cond.code y_TM_left b_TM_left 2 (some .int) :: lw_g
abbrev b_TM_count : ByteArray := prog_3_method_19_code
def y_TM_count : MethodName := ⟨R_TM, "count", "(I)I"⟩
theorem co_TM_count : Cond.code y_TM_count b_TM_count 2 (some .int) ∈ lw_g := List.mem_filter.mpr ⟨List.mem_append_right _ (List.mem_of_getElem? (i := 303) rfl), rfl⟩
def ws_TM_count : List Cond := Cond.code y_TM_count b_TM_count 2 (some .int) :: lw_g
abbrev b_TM_about : ByteArray := prog_3_method_20_code
def y_TM_about : MethodName := ⟨R_TM, "about", "(II)I"⟩
theorem co_TM_about : Cond.code y_TM_about b_TM_about 4 (some .int) ∈ lw_g := List.mem_filter.mpr ⟨List.mem_append_right _ (List.mem_of_getElem? (i := 307) rfl), rfl⟩
def ws_TM_about : List Cond := Cond.code y_TM_about b_TM_about 4 (some .int) :: lw_g
abbrev b_TM_byteAt : ByteArray := prog_3_method_21_code
def y_TM_byteAt : MethodName := ⟨R_TM, "byteAt", "(II)I"⟩
theorem co_TM_byteAt : Cond.code y_TM_byteAt b_TM_byteAt 4 (some .int) ∈ lw_g := List.mem_filter.mpr ⟨List.mem_append_right _ (List.mem_of_getElem? (i := 311) rfl), rfl⟩
def ws_TM_byteAt : List Cond := Cond.code y_TM_byteAt b_TM_byteAt 4 (some .int) :: lw_g
theorem im_TT_init : Cond.instanceMethod y_TT_init ∈ lw_g := List.mem_filter.mpr ⟨List.mem_append_right _ (List.mem_of_getElem? (i := 7) (by decide +kernel)), rfl⟩
theorem im_TT_put : Cond.instanceMethod y_TT_put ∈ lw_g := List.mem_filter.mpr ⟨List.mem_append_right _ (List.mem_of_getElem? (i := 64) (by decide +kernel)), rfl⟩
theorem im_TT_insert : Cond.instanceMethod y_TT_insert ∈ lw_g := List.mem_filter.mpr ⟨List.mem_append_right _ (List.mem_of_getElem? (i := 68) (by decide +kernel)), rfl⟩
theorem im_TT_whetherInserted : Cond.instanceMethod y_TT_whetherInserted ∈ lw_g := List.mem_filter.mpr ⟨List.mem_append_right _ (List.mem_of_getElem? (i := 73) (by decide +kernel)), rfl⟩
theorem im_TT_addEntry : Cond.instanceMethod y_TT_addEntry ∈ lw_g := List.mem_filter.mpr ⟨List.mem_append_right _ (List.mem_of_getElem? (i := 77) (by decide +kernel)), rfl⟩
theorem im_TT_settle : Cond.instanceMethod y_TT_settle ∈ lw_g := List.mem_filter.mpr ⟨List.mem_append_right _ (List.mem_of_getElem? (i := 81) (by decide +kernel)), rfl⟩
theorem im_TT_isBefore : Cond.instanceMethod y_TT_isBefore ∈ lw_g := List.mem_filter.mpr ⟨List.mem_append_right _ (List.mem_of_getElem? (i := 85) (by decide +kernel)), rfl⟩
theorem im_TT_swap : Cond.instanceMethod y_TT_swap ∈ lw_g := List.mem_filter.mpr ⟨List.mem_append_right _ (List.mem_of_getElem? (i := 89) (by decide +kernel)), rfl⟩
theorem im_TT_remove : Cond.instanceMethod y_TT_remove ∈ lw_g := List.mem_filter.mpr ⟨List.mem_append_right _ (List.mem_of_getElem? (i := 92) (by decide +kernel)), rfl⟩
theorem im_TT_keepFirst : Cond.instanceMethod y_TT_keepFirst ∈ lw_g := List.mem_filter.mpr ⟨List.mem_append_right _ (List.mem_of_getElem? (i := 97) (by decide +kernel)), rfl⟩
theorem im_TT_removeSpan : Cond.instanceMethod y_TT_removeSpan ∈ lw_g := List.mem_filter.mpr ⟨List.mem_append_right _ (List.mem_of_getElem? (i := 100) (by decide +kernel)), rfl⟩
theorem im_TT_isInSpan : Cond.instanceMethod y_TT_isInSpan ∈ lw_g := List.mem_filter.mpr ⟨List.mem_append_right _ (List.mem_of_getElem? (i := 105) (by decide +kernel)), rfl⟩
theorem im_TT_shift : Cond.instanceMethod y_TT_shift ∈ lw_g := List.mem_filter.mpr ⟨List.mem_append_right _ (List.mem_of_getElem? (i := 108) (by decide +kernel)), rfl⟩
theorem im_TT_moveTimes : Cond.instanceMethod y_TT_moveTimes ∈ lw_g := List.mem_filter.mpr ⟨List.mem_append_right _ (List.mem_of_getElem? (i := 114) (by decide +kernel)), rfl⟩
theorem im_TT_canMove : Cond.instanceMethod y_TT_canMove ∈ lw_g := List.mem_filter.mpr ⟨List.mem_append_right _ (List.mem_of_getElem? (i := 118) (by decide +kernel)), rfl⟩
theorem im_TT_shiftSpan : Cond.instanceMethod y_TT_shiftSpan ∈ lw_g := List.mem_filter.mpr ⟨List.mem_append_right _ (List.mem_of_getElem? (i := 122) (by decide +kernel)), rfl⟩
theorem im_TT_enable : Cond.instanceMethod y_TT_enable ∈ lw_g := List.mem_filter.mpr ⟨List.mem_append_right _ (List.mem_of_getElem? (i := 126) (by decide +kernel)), rfl⟩
theorem im_TT_isOn : Cond.instanceMethod y_TT_isOn ∈ lw_g := List.mem_filter.mpr ⟨List.mem_append_right _ (List.mem_of_getElem? (i := 130) (by decide +kernel)), rfl⟩
theorem im_TT_reset : Cond.instanceMethod y_TT_reset ∈ lw_g := List.mem_filter.mpr ⟨List.mem_append_right _ (List.mem_of_getElem? (i := 134) (by decide +kernel)), rfl⟩
theorem im_TT_tick : Cond.instanceMethod y_TT_tick ∈ lw_g := List.mem_filter.mpr ⟨List.mem_append_right _ (List.mem_of_getElem? (i := 138) (by decide +kernel)), rfl⟩
theorem im_TT_leave : Cond.instanceMethod y_TT_leave ∈ lw_g := List.mem_filter.mpr ⟨List.mem_append_right _ (List.mem_of_getElem? (i := 142) (by decide +kernel)), rfl⟩
theorem im_TT_dropFirst : Cond.instanceMethod y_TT_dropFirst ∈ lw_g := List.mem_filter.mpr ⟨List.mem_append_right _ (List.mem_of_getElem? (i := 147) (by decide +kernel)), rfl⟩
theorem im_TT_left : Cond.instanceMethod y_TT_left ∈ lw_g := List.mem_filter.mpr ⟨List.mem_append_right _ (List.mem_of_getElem? (i := 150) (by decide +kernel)), rfl⟩
theorem im_TT_byteOf : Cond.instanceMethod y_TT_byteOf ∈ lw_g := List.mem_filter.mpr ⟨List.mem_append_right _ (List.mem_of_getElem? (i := 155) (by decide +kernel)), rfl⟩
theorem im_TT_count : Cond.instanceMethod y_TT_count ∈ lw_g := List.mem_filter.mpr ⟨List.mem_append_right _ (List.mem_of_getElem? (i := 158) (by decide +kernel)), rfl⟩
theorem im_TT_about : Cond.instanceMethod y_TT_about ∈ lw_g := List.mem_filter.mpr ⟨List.mem_append_right _ (List.mem_of_getElem? (i := 162) (by decide +kernel)), rfl⟩
theorem im_TT_isWaiting : Cond.instanceMethod y_TT_isWaiting ∈ lw_g := List.mem_filter.mpr ⟨List.mem_append_right _ (List.mem_of_getElem? (i := 167) (by decide +kernel)), rfl⟩
theorem im_TT_byteAt : Cond.instanceMethod y_TT_byteAt ∈ lw_g := List.mem_filter.mpr ⟨List.mem_append_right _ (List.mem_of_getElem? (i := 170) (by decide +kernel)), rfl⟩
theorem im_TM_init : Cond.instanceMethod y_TM_init ∈ lw_g := List.mem_filter.mpr ⟨List.mem_append_right _ (List.mem_of_getElem? (i := 179) (by decide +kernel)), rfl⟩
theorem im_TM_put : Cond.instanceMethod y_TM_put ∈ lw_g := List.mem_filter.mpr ⟨List.mem_append_right _ (List.mem_of_getElem? (i := 234) (by decide +kernel)), rfl⟩
theorem im_TM_insert : Cond.instanceMethod y_TM_insert ∈ lw_g := List.mem_filter.mpr ⟨List.mem_append_right _ (List.mem_of_getElem? (i := 238) (by decide +kernel)), rfl⟩
theorem im_TM_remove : Cond.instanceMethod y_TM_remove ∈ lw_g := List.mem_filter.mpr ⟨List.mem_append_right _ (List.mem_of_getElem? (i := 242) (by decide +kernel)), rfl⟩
theorem im_TM_drop : Cond.instanceMethod y_TM_drop ∈ lw_g := List.mem_filter.mpr ⟨List.mem_append_right _ (List.mem_of_getElem? (i := 247) (by decide +kernel)), rfl⟩
theorem im_TM_removeSpan : Cond.instanceMethod y_TM_removeSpan ∈ lw_g := List.mem_filter.mpr ⟨List.mem_append_right _ (List.mem_of_getElem? (i := 250) (by decide +kernel)), rfl⟩
theorem im_TM_in : Cond.instanceMethod y_TM_in ∈ lw_g := List.mem_filter.mpr ⟨List.mem_append_right _ (List.mem_of_getElem? (i := 255) (by decide +kernel)), rfl⟩
theorem im_TM_shift : Cond.instanceMethod y_TM_shift ∈ lw_g := List.mem_filter.mpr ⟨List.mem_append_right _ (List.mem_of_getElem? (i := 258) (by decide +kernel)), rfl⟩
theorem im_TM_move : Cond.instanceMethod y_TM_move ∈ lw_g := List.mem_filter.mpr ⟨List.mem_append_right _ (List.mem_of_getElem? (i := 265) (by decide +kernel)), rfl⟩
theorem im_TM_shiftSpan : Cond.instanceMethod y_TM_shiftSpan ∈ lw_g := List.mem_filter.mpr ⟨List.mem_append_right _ (List.mem_of_getElem? (i := 269) (by decide +kernel)), rfl⟩
theorem im_TM_enable : Cond.instanceMethod y_TM_enable ∈ lw_g := List.mem_filter.mpr ⟨List.mem_append_right _ (List.mem_of_getElem? (i := 273) (by decide +kernel)), rfl⟩
theorem im_TM_isOn : Cond.instanceMethod y_TM_isOn ∈ lw_g := List.mem_filter.mpr ⟨List.mem_append_right _ (List.mem_of_getElem? (i := 277) (by decide +kernel)), rfl⟩
theorem im_TM_reset : Cond.instanceMethod y_TM_reset ∈ lw_g := List.mem_filter.mpr ⟨List.mem_append_right _ (List.mem_of_getElem? (i := 281) (by decide +kernel)), rfl⟩
theorem im_TM_tick : Cond.instanceMethod y_TM_tick ∈ lw_g := List.mem_filter.mpr ⟨List.mem_append_right _ (List.mem_of_getElem? (i := 285) (by decide +kernel)), rfl⟩
theorem im_TM_leave : Cond.instanceMethod y_TM_leave ∈ lw_g := List.mem_filter.mpr ⟨List.mem_append_right _ (List.mem_of_getElem? (i := 289) (by decide +kernel)), rfl⟩
theorem im_TM_place : Cond.instanceMethod y_TM_place ∈ lw_g := List.mem_filter.mpr ⟨List.mem_append_right _ (List.mem_of_getElem? (i := 294) (by decide +kernel)), rfl⟩
theorem im_TM_left : Cond.instanceMethod y_TM_left ∈ lw_g := List.mem_filter.mpr ⟨List.mem_append_right _ (List.mem_of_getElem? (i := 297) (by decide +kernel)), rfl⟩
theorem im_TM_count : Cond.instanceMethod y_TM_count ∈ lw_g := List.mem_filter.mpr ⟨List.mem_append_right _ (List.mem_of_getElem? (i := 301) (by decide +kernel)), rfl⟩
theorem im_TM_about : Cond.instanceMethod y_TM_about ∈ lw_g := List.mem_filter.mpr ⟨List.mem_append_right _ (List.mem_of_getElem? (i := 305) (by decide +kernel)), rfl⟩
theorem im_TM_byteAt : Cond.instanceMethod y_TM_byteAt ∈ lw_g := List.mem_filter.mpr ⟨List.mem_append_right _ (List.mem_of_getElem? (i := 309) (by decide +kernel)), rfl⟩
theorem st_law_cell : Cond.static y_law_cell ∈ lw_g := List.mem_filter.mpr ⟨List.mem_append_right _ (List.mem_of_getElem? (i := 174) (by decide +kernel)), rfl⟩
theorem se_TT_put : Cond.selects R_TT y_TT_put y_TT_put ∈ lw_g := List.mem_filter.mpr ⟨List.mem_append_right _ (List.mem_of_getElem? (i := 65) (by decide +kernel)), rfl⟩
theorem se_TT_insert : Cond.selects R_TT y_TT_insert y_TT_insert ∈ lw_g := List.mem_filter.mpr ⟨List.mem_append_right _ (List.mem_of_getElem? (i := 69) (by decide +kernel)), rfl⟩
theorem se_TT_remove : Cond.selects R_TT y_TT_remove y_TT_remove ∈ lw_g := List.mem_filter.mpr ⟨List.mem_append_right _ (List.mem_of_getElem? (i := 93) (by decide +kernel)), rfl⟩
theorem se_TT_removeSpan : Cond.selects R_TT y_TT_removeSpan y_TT_removeSpan ∈ lw_g := List.mem_filter.mpr ⟨List.mem_append_right _ (List.mem_of_getElem? (i := 101) (by decide +kernel)), rfl⟩
theorem se_TT_shift : Cond.selects R_TT y_TT_shift y_TT_shift ∈ lw_g := List.mem_filter.mpr ⟨List.mem_append_right _ (List.mem_of_getElem? (i := 109) (by decide +kernel)), rfl⟩
theorem se_TT_shiftSpan : Cond.selects R_TT y_TT_shiftSpan y_TT_shiftSpan ∈ lw_g := List.mem_filter.mpr ⟨List.mem_append_right _ (List.mem_of_getElem? (i := 123) (by decide +kernel)), rfl⟩
theorem se_TT_enable : Cond.selects R_TT y_TT_enable y_TT_enable ∈ lw_g := List.mem_filter.mpr ⟨List.mem_append_right _ (List.mem_of_getElem? (i := 127) (by decide +kernel)), rfl⟩
theorem se_TT_isOn : Cond.selects R_TT y_TT_isOn y_TT_isOn ∈ lw_g := List.mem_filter.mpr ⟨List.mem_append_right _ (List.mem_of_getElem? (i := 131) (by decide +kernel)), rfl⟩
theorem se_TT_reset : Cond.selects R_TT y_TT_reset y_TT_reset ∈ lw_g := List.mem_filter.mpr ⟨List.mem_append_right _ (List.mem_of_getElem? (i := 135) (by decide +kernel)), rfl⟩
theorem se_TT_tick : Cond.selects R_TT y_TT_tick y_TT_tick ∈ lw_g := List.mem_filter.mpr ⟨List.mem_append_right _ (List.mem_of_getElem? (i := 139) (by decide +kernel)), rfl⟩
theorem se_TT_leave : Cond.selects R_TT y_TT_leave y_TT_leave ∈ lw_g := List.mem_filter.mpr ⟨List.mem_append_right _ (List.mem_of_getElem? (i := 143) (by decide +kernel)), rfl⟩
theorem se_TT_left : Cond.selects R_TT y_TT_left y_TT_left ∈ lw_g := List.mem_filter.mpr ⟨List.mem_append_right _ (List.mem_of_getElem? (i := 151) (by decide +kernel)), rfl⟩
theorem se_TT_count : Cond.selects R_TT y_TT_count y_TT_count ∈ lw_g := List.mem_filter.mpr ⟨List.mem_append_right _ (List.mem_of_getElem? (i := 159) (by decide +kernel)), rfl⟩
theorem se_TT_about : Cond.selects R_TT y_TT_about y_TT_about ∈ lw_g := List.mem_filter.mpr ⟨List.mem_append_right _ (List.mem_of_getElem? (i := 163) (by decide +kernel)), rfl⟩
theorem se_TT_byteAt : Cond.selects R_TT y_TT_byteAt y_TT_byteAt ∈ lw_g := List.mem_filter.mpr ⟨List.mem_append_right _ (List.mem_of_getElem? (i := 171) (by decide +kernel)), rfl⟩
theorem se_TM_put : Cond.selects R_TM y_TM_put y_TM_put ∈ lw_g := List.mem_filter.mpr ⟨List.mem_append_right _ (List.mem_of_getElem? (i := 235) (by decide +kernel)), rfl⟩
theorem se_TM_insert : Cond.selects R_TM y_TM_insert y_TM_insert ∈ lw_g := List.mem_filter.mpr ⟨List.mem_append_right _ (List.mem_of_getElem? (i := 239) (by decide +kernel)), rfl⟩
theorem se_TM_remove : Cond.selects R_TM y_TM_remove y_TM_remove ∈ lw_g := List.mem_filter.mpr ⟨List.mem_append_right _ (List.mem_of_getElem? (i := 243) (by decide +kernel)), rfl⟩
theorem se_TM_removeSpan : Cond.selects R_TM y_TM_removeSpan y_TM_removeSpan ∈ lw_g := List.mem_filter.mpr ⟨List.mem_append_right _ (List.mem_of_getElem? (i := 251) (by decide +kernel)), rfl⟩
theorem se_TM_shift : Cond.selects R_TM y_TM_shift y_TM_shift ∈ lw_g := List.mem_filter.mpr ⟨List.mem_append_right _ (List.mem_of_getElem? (i := 259) (by decide +kernel)), rfl⟩
theorem se_TM_shiftSpan : Cond.selects R_TM y_TM_shiftSpan y_TM_shiftSpan ∈ lw_g := List.mem_filter.mpr ⟨List.mem_append_right _ (List.mem_of_getElem? (i := 270) (by decide +kernel)), rfl⟩
theorem se_TM_enable : Cond.selects R_TM y_TM_enable y_TM_enable ∈ lw_g := List.mem_filter.mpr ⟨List.mem_append_right _ (List.mem_of_getElem? (i := 274) (by decide +kernel)), rfl⟩
theorem se_TM_isOn : Cond.selects R_TM y_TM_isOn y_TM_isOn ∈ lw_g := List.mem_filter.mpr ⟨List.mem_append_right _ (List.mem_of_getElem? (i := 278) (by decide +kernel)), rfl⟩
theorem se_TM_reset : Cond.selects R_TM y_TM_reset y_TM_reset ∈ lw_g := List.mem_filter.mpr ⟨List.mem_append_right _ (List.mem_of_getElem? (i := 282) (by decide +kernel)), rfl⟩
theorem se_TM_tick : Cond.selects R_TM y_TM_tick y_TM_tick ∈ lw_g := List.mem_filter.mpr ⟨List.mem_append_right _ (List.mem_of_getElem? (i := 286) (by decide +kernel)), rfl⟩
theorem se_TM_leave : Cond.selects R_TM y_TM_leave y_TM_leave ∈ lw_g := List.mem_filter.mpr ⟨List.mem_append_right _ (List.mem_of_getElem? (i := 290) (by decide +kernel)), rfl⟩
theorem se_TM_left : Cond.selects R_TM y_TM_left y_TM_left ∈ lw_g := List.mem_filter.mpr ⟨List.mem_append_right _ (List.mem_of_getElem? (i := 298) (by decide +kernel)), rfl⟩
theorem se_TM_count : Cond.selects R_TM y_TM_count y_TM_count ∈ lw_g := List.mem_filter.mpr ⟨List.mem_append_right _ (List.mem_of_getElem? (i := 302) (by decide +kernel)), rfl⟩
theorem se_TM_about : Cond.selects R_TM y_TM_about y_TM_about ∈ lw_g := List.mem_filter.mpr ⟨List.mem_append_right _ (List.mem_of_getElem? (i := 306) (by decide +kernel)), rfl⟩
theorem se_TM_byteAt : Cond.selects R_TM y_TM_byteAt y_TM_byteAt ∈ lw_g := List.mem_filter.mpr ⟨List.mem_append_right _ (List.mem_of_getElem? (i := 310) (by decide +kernel)), rfl⟩
theorem se_TT_whetherInserted : Cond.selects R_TT y_TT_whetherInserted y_TT_whetherInserted ∈ lw_g := List.mem_filter.mpr ⟨List.mem_append_left _ (List.mem_of_getElem? (i := 0) (by decide +kernel)), rfl⟩
theorem se_TT_addEntry : Cond.selects R_TT y_TT_addEntry y_TT_addEntry ∈ lw_g := List.mem_filter.mpr ⟨List.mem_append_left _ (List.mem_of_getElem? (i := 1) (by decide +kernel)), rfl⟩
theorem se_TT_settle : Cond.selects R_TT y_TT_settle y_TT_settle ∈ lw_g := List.mem_filter.mpr ⟨List.mem_append_left _ (List.mem_of_getElem? (i := 2) (by decide +kernel)), rfl⟩
theorem se_TT_isBefore : Cond.selects R_TT y_TT_isBefore y_TT_isBefore ∈ lw_g := List.mem_filter.mpr ⟨List.mem_append_left _ (List.mem_of_getElem? (i := 3) (by decide +kernel)), rfl⟩
theorem se_TT_swap : Cond.selects R_TT y_TT_swap y_TT_swap ∈ lw_g := List.mem_filter.mpr ⟨List.mem_append_left _ (List.mem_of_getElem? (i := 4) (by decide +kernel)), rfl⟩
theorem se_TT_keepFirst : Cond.selects R_TT y_TT_keepFirst y_TT_keepFirst ∈ lw_g := List.mem_filter.mpr ⟨List.mem_append_left _ (List.mem_of_getElem? (i := 5) (by decide +kernel)), rfl⟩
theorem se_TT_isInSpan : Cond.selects R_TT y_TT_isInSpan y_TT_isInSpan ∈ lw_g := List.mem_filter.mpr ⟨List.mem_append_left _ (List.mem_of_getElem? (i := 6) (by decide +kernel)), rfl⟩
theorem se_TT_moveTimes : Cond.selects R_TT y_TT_moveTimes y_TT_moveTimes ∈ lw_g := List.mem_filter.mpr ⟨List.mem_append_left _ (List.mem_of_getElem? (i := 7) (by decide +kernel)), rfl⟩
theorem se_TT_canMove : Cond.selects R_TT y_TT_canMove y_TT_canMove ∈ lw_g := List.mem_filter.mpr ⟨List.mem_append_left _ (List.mem_of_getElem? (i := 8) (by decide +kernel)), rfl⟩
theorem se_TT_dropFirst : Cond.selects R_TT y_TT_dropFirst y_TT_dropFirst ∈ lw_g := List.mem_filter.mpr ⟨List.mem_append_left _ (List.mem_of_getElem? (i := 9) (by decide +kernel)), rfl⟩
theorem se_TT_byteOf : Cond.selects R_TT y_TT_byteOf y_TT_byteOf ∈ lw_g := List.mem_filter.mpr ⟨List.mem_append_left _ (List.mem_of_getElem? (i := 10) (by decide +kernel)), rfl⟩
theorem se_TT_isWaiting : Cond.selects R_TT y_TT_isWaiting y_TT_isWaiting ∈ lw_g := List.mem_filter.mpr ⟨List.mem_append_left _ (List.mem_of_getElem? (i := 11) (by decide +kernel)), rfl⟩
theorem se_TM_drop : Cond.selects R_TM y_TM_drop y_TM_drop ∈ lw_g := List.mem_filter.mpr ⟨List.mem_append_left _ (List.mem_of_getElem? (i := 12) (by decide +kernel)), rfl⟩
theorem se_TM_in : Cond.selects R_TM y_TM_in y_TM_in ∈ lw_g := List.mem_filter.mpr ⟨List.mem_append_left _ (List.mem_of_getElem? (i := 13) (by decide +kernel)), rfl⟩
theorem se_TM_move : Cond.selects R_TM y_TM_move y_TM_move ∈ lw_g := List.mem_filter.mpr ⟨List.mem_append_left _ (List.mem_of_getElem? (i := 14) (by decide +kernel)), rfl⟩
theorem se_TM_place : Cond.selects R_TM y_TM_place y_TM_place ∈ lw_g := List.mem_filter.mpr ⟨List.mem_append_left _ (List.mem_of_getElem? (i := 15) (by decide +kernel)), rfl⟩
theorem ml_law_15 : Cond.methodLink R_law 15 y_TT_init ∈ lw_g := List.mem_filter.mpr ⟨List.mem_append_right _ (List.mem_of_getElem? (i := 6) (by decide +kernel)), rfl⟩
theorem mo_TT : Cond.methodLink R_TT 1 Lib.objectInit ∈ lw_g := List.mem_filter.mpr ⟨List.mem_append_right _ (List.mem_of_getElem? (i := 9) (by decide +kernel)), rfl⟩
theorem mm_min : Cond.methodLink R_TT 9 Lib.Math.min.name ∈ lw_g := List.mem_filter.mpr ⟨List.mem_append_right _ (List.mem_of_getElem? (i := 12) (by decide +kernel)), rfl⟩
theorem mm_max : Cond.methodLink R_TT 15 Lib.Math.max.name ∈ lw_g := List.mem_filter.mpr ⟨List.mem_append_right _ (List.mem_of_getElem? (i := 15) (by decide +kernel)), rfl⟩
theorem ml_law_21 : Cond.methodLink R_law 21 y_TT_put ∈ lw_g := List.mem_filter.mpr ⟨List.mem_append_right _ (List.mem_of_getElem? (i := 63) (by decide +kernel)), rfl⟩
theorem g_law_21 : GoodIn lw_g (wsV R_law 21 R_TT y_TT_put ws_TT_put) := gd ml_law_21 im_TT_put se_TT_put in_TT co_TT_put
theorem ml_law_26 : Cond.methodLink R_law 26 y_TT_insert ∈ lw_g := List.mem_filter.mpr ⟨List.mem_append_right _ (List.mem_of_getElem? (i := 67) (by decide +kernel)), rfl⟩
theorem g_law_26 : GoodIn lw_g (wsV R_law 26 R_TT y_TT_insert ws_TT_insert) := gd ml_law_26 im_TT_insert se_TT_insert in_TT co_TT_insert
theorem ml_TT_45 : Cond.methodLink R_TT 45 y_TT_whetherInserted ∈ lw_g := List.mem_filter.mpr ⟨List.mem_append_right _ (List.mem_of_getElem? (i := 71) (by decide +kernel)), rfl⟩
theorem g_TT_45 : GoodIn lw_g (wsV R_TT 45 R_TT y_TT_whetherInserted ws_TT_whetherInserted) := gd ml_TT_45 im_TT_whetherInserted se_TT_whetherInserted in_TT co_TT_whetherInserted
theorem ml_TT_49 : Cond.methodLink R_TT 49 y_TT_addEntry ∈ lw_g := List.mem_filter.mpr ⟨List.mem_append_right _ (List.mem_of_getElem? (i := 75) (by decide +kernel)), rfl⟩
theorem g_TT_49 : GoodIn lw_g (wsV R_TT 49 R_TT y_TT_addEntry ws_TT_addEntry) := gd ml_TT_49 im_TT_addEntry se_TT_addEntry in_TT co_TT_addEntry
theorem ml_TT_97 : Cond.methodLink R_TT 97 y_TT_settle ∈ lw_g := List.mem_filter.mpr ⟨List.mem_append_right _ (List.mem_of_getElem? (i := 79) (by decide +kernel)), rfl⟩
theorem g_TT_97 : GoodIn lw_g (wsV R_TT 97 R_TT y_TT_settle ws_TT_settle) := gd ml_TT_97 im_TT_settle se_TT_settle in_TT co_TT_settle
theorem ml_TT_107 : Cond.methodLink R_TT 107 y_TT_isBefore ∈ lw_g := List.mem_filter.mpr ⟨List.mem_append_right _ (List.mem_of_getElem? (i := 83) (by decide +kernel)), rfl⟩
theorem g_TT_107 : GoodIn lw_g (wsV R_TT 107 R_TT y_TT_isBefore ws_TT_isBefore) := gd ml_TT_107 im_TT_isBefore se_TT_isBefore in_TT co_TT_isBefore
theorem ml_TT_56 : Cond.methodLink R_TT 56 y_TT_swap ∈ lw_g := List.mem_filter.mpr ⟨List.mem_append_right _ (List.mem_of_getElem? (i := 87) (by decide +kernel)), rfl⟩
theorem g_TT_56 : GoodIn lw_g (wsV R_TT 56 R_TT y_TT_swap ws_TT_swap) := gd ml_TT_56 im_TT_swap se_TT_swap in_TT co_TT_swap
theorem ml_law_31 : Cond.methodLink R_law 31 y_TT_remove ∈ lw_g := List.mem_filter.mpr ⟨List.mem_append_right _ (List.mem_of_getElem? (i := 91) (by decide +kernel)), rfl⟩
theorem g_law_31 : GoodIn lw_g (wsV R_law 31 R_TT y_TT_remove ws_TT_remove) := gd ml_law_31 im_TT_remove se_TT_remove in_TT co_TT_remove
theorem ml_TT_59 : Cond.methodLink R_TT 59 y_TT_keepFirst ∈ lw_g := List.mem_filter.mpr ⟨List.mem_append_right _ (List.mem_of_getElem? (i := 95) (by decide +kernel)), rfl⟩
theorem g_TT_59 : GoodIn lw_g (wsV R_TT 59 R_TT y_TT_keepFirst ws_TT_keepFirst) := gd ml_TT_59 im_TT_keepFirst se_TT_keepFirst in_TT co_TT_keepFirst
theorem ml_law_35 : Cond.methodLink R_law 35 y_TT_removeSpan ∈ lw_g := List.mem_filter.mpr ⟨List.mem_append_right _ (List.mem_of_getElem? (i := 99) (by decide +kernel)), rfl⟩
theorem g_law_35 : GoodIn lw_g (wsV R_law 35 R_TT y_TT_removeSpan ws_TT_removeSpan) := gd ml_law_35 im_TT_removeSpan se_TT_removeSpan in_TT co_TT_removeSpan
theorem ml_TT_62 : Cond.methodLink R_TT 62 y_TT_isInSpan ∈ lw_g := List.mem_filter.mpr ⟨List.mem_append_right _ (List.mem_of_getElem? (i := 103) (by decide +kernel)), rfl⟩
theorem g_TT_62 : GoodIn lw_g (wsV R_TT 62 R_TT y_TT_isInSpan ws_TT_isInSpan) := gd ml_TT_62 im_TT_isInSpan se_TT_isInSpan in_TT co_TT_isInSpan
theorem ml_law_39 : Cond.methodLink R_law 39 y_TT_shift ∈ lw_g := List.mem_filter.mpr ⟨List.mem_append_right _ (List.mem_of_getElem? (i := 107) (by decide +kernel)), rfl⟩
theorem g_law_39 : GoodIn lw_g (wsV R_law 39 R_TT y_TT_shift ws_TT_shift) := gd ml_law_39 im_TT_shift se_TT_shift in_TT co_TT_shift
theorem ml_TT_67 : Cond.methodLink R_TT 67 y_TT_moveTimes ∈ lw_g := List.mem_filter.mpr ⟨List.mem_append_right _ (List.mem_of_getElem? (i := 112) (by decide +kernel)), rfl⟩
theorem g_TT_67 : GoodIn lw_g (wsV R_TT 67 R_TT y_TT_moveTimes ws_TT_moveTimes) := gd ml_TT_67 im_TT_moveTimes se_TT_moveTimes in_TT co_TT_moveTimes
theorem ml_TT_101 : Cond.methodLink R_TT 101 y_TT_canMove ∈ lw_g := List.mem_filter.mpr ⟨List.mem_append_right _ (List.mem_of_getElem? (i := 116) (by decide +kernel)), rfl⟩
theorem g_TT_101 : GoodIn lw_g (wsV R_TT 101 R_TT y_TT_canMove ws_TT_canMove) := gd ml_TT_101 im_TT_canMove se_TT_canMove in_TT co_TT_canMove
theorem ml_law_43 : Cond.methodLink R_law 43 y_TT_shiftSpan ∈ lw_g := List.mem_filter.mpr ⟨List.mem_append_right _ (List.mem_of_getElem? (i := 121) (by decide +kernel)), rfl⟩
theorem g_law_43 : GoodIn lw_g (wsV R_law 43 R_TT y_TT_shiftSpan ws_TT_shiftSpan) := gd ml_law_43 im_TT_shiftSpan se_TT_shiftSpan in_TT co_TT_shiftSpan
theorem ml_law_48 : Cond.methodLink R_law 48 y_TT_enable ∈ lw_g := List.mem_filter.mpr ⟨List.mem_append_right _ (List.mem_of_getElem? (i := 125) (by decide +kernel)), rfl⟩
theorem g_law_48 : GoodIn lw_g (wsV R_law 48 R_TT y_TT_enable ws_TT_enable) := gd ml_law_48 im_TT_enable se_TT_enable in_TT co_TT_enable
theorem ml_law_53 : Cond.methodLink R_law 53 y_TT_isOn ∈ lw_g := List.mem_filter.mpr ⟨List.mem_append_right _ (List.mem_of_getElem? (i := 129) (by decide +kernel)), rfl⟩
theorem g_law_53 : GoodIn lw_g (wsV R_law 53 R_TT y_TT_isOn ws_TT_isOn) := gd ml_law_53 im_TT_isOn se_TT_isOn in_TT co_TT_isOn
theorem ml_law_58 : Cond.methodLink R_law 58 y_TT_reset ∈ lw_g := List.mem_filter.mpr ⟨List.mem_append_right _ (List.mem_of_getElem? (i := 133) (by decide +kernel)), rfl⟩
theorem g_law_58 : GoodIn lw_g (wsV R_law 58 R_TT y_TT_reset ws_TT_reset) := gd ml_law_58 im_TT_reset se_TT_reset in_TT co_TT_reset
theorem ml_law_62 : Cond.methodLink R_law 62 y_TT_tick ∈ lw_g := List.mem_filter.mpr ⟨List.mem_append_right _ (List.mem_of_getElem? (i := 137) (by decide +kernel)), rfl⟩
theorem g_law_62 : GoodIn lw_g (wsV R_law 62 R_TT y_TT_tick ws_TT_tick) := gd ml_law_62 im_TT_tick se_TT_tick in_TT co_TT_tick
theorem ml_law_67 : Cond.methodLink R_law 67 y_TT_leave ∈ lw_g := List.mem_filter.mpr ⟨List.mem_append_right _ (List.mem_of_getElem? (i := 141) (by decide +kernel)), rfl⟩
theorem g_law_67 : GoodIn lw_g (wsV R_law 67 R_TT y_TT_leave ws_TT_leave) := gd ml_law_67 im_TT_leave se_TT_leave in_TT co_TT_leave
theorem ml_TT_84 : Cond.methodLink R_TT 84 y_TT_dropFirst ∈ lw_g := List.mem_filter.mpr ⟨List.mem_append_right _ (List.mem_of_getElem? (i := 145) (by decide +kernel)), rfl⟩
theorem g_TT_84 : GoodIn lw_g (wsV R_TT 84 R_TT y_TT_dropFirst ws_TT_dropFirst) := gd ml_TT_84 im_TT_dropFirst se_TT_dropFirst in_TT co_TT_dropFirst
theorem ml_law_71 : Cond.methodLink R_law 71 y_TT_left ∈ lw_g := List.mem_filter.mpr ⟨List.mem_append_right _ (List.mem_of_getElem? (i := 149) (by decide +kernel)), rfl⟩
theorem g_law_71 : GoodIn lw_g (wsV R_law 71 R_TT y_TT_left ws_TT_left) := gd ml_law_71 im_TT_left se_TT_left in_TT co_TT_left
theorem ml_TT_87 : Cond.methodLink R_TT 87 y_TT_byteOf ∈ lw_g := List.mem_filter.mpr ⟨List.mem_append_right _ (List.mem_of_getElem? (i := 153) (by decide +kernel)), rfl⟩
theorem g_TT_87 : GoodIn lw_g (wsV R_TT 87 R_TT y_TT_byteOf ws_TT_byteOf) := gd ml_TT_87 im_TT_byteOf se_TT_byteOf in_TT co_TT_byteOf
theorem ml_law_75 : Cond.methodLink R_law 75 y_TT_count ∈ lw_g := List.mem_filter.mpr ⟨List.mem_append_right _ (List.mem_of_getElem? (i := 157) (by decide +kernel)), rfl⟩
theorem g_law_75 : GoodIn lw_g (wsV R_law 75 R_TT y_TT_count ws_TT_count) := gd ml_law_75 im_TT_count se_TT_count in_TT co_TT_count
theorem ml_law_79 : Cond.methodLink R_law 79 y_TT_about ∈ lw_g := List.mem_filter.mpr ⟨List.mem_append_right _ (List.mem_of_getElem? (i := 161) (by decide +kernel)), rfl⟩
theorem g_law_79 : GoodIn lw_g (wsV R_law 79 R_TT y_TT_about ws_TT_about) := gd ml_law_79 im_TT_about se_TT_about in_TT co_TT_about
theorem ml_TT_93 : Cond.methodLink R_TT 93 y_TT_isWaiting ∈ lw_g := List.mem_filter.mpr ⟨List.mem_append_right _ (List.mem_of_getElem? (i := 165) (by decide +kernel)), rfl⟩
theorem g_TT_93 : GoodIn lw_g (wsV R_TT 93 R_TT y_TT_isWaiting ws_TT_isWaiting) := gd ml_TT_93 im_TT_isWaiting se_TT_isWaiting in_TT co_TT_isWaiting
theorem ml_law_83 : Cond.methodLink R_law 83 y_TT_byteAt ∈ lw_g := List.mem_filter.mpr ⟨List.mem_append_right _ (List.mem_of_getElem? (i := 169) (by decide +kernel)), rfl⟩
theorem g_law_83 : GoodIn lw_g (wsV R_law 83 R_TT y_TT_byteAt ws_TT_byteAt) := gd ml_law_83 im_TT_byteAt se_TT_byteAt in_TT co_TT_byteAt
theorem ml_law_9 : Cond.methodLink R_law 9 y_law_cell ∈ lw_g := List.mem_filter.mpr ⟨List.mem_append_right _ (List.mem_of_getElem? (i := 173) (by decide +kernel)), rfl⟩
theorem g_law_9 : GoodIn lw_g (wsS R_law 9 y_law_cell ws_law_cell) := gdS ml_law_9 st_law_cell in_law co_law_cell
theorem ml_law_20 : Cond.methodLink R_law 20 y_TM_init ∈ lw_g := List.mem_filter.mpr ⟨List.mem_append_right _ (List.mem_of_getElem? (i := 178) (by decide +kernel)), rfl⟩
theorem mo_TM : Cond.methodLink R_TM 1 Lib.objectInit ∈ lw_g := List.mem_filter.mpr ⟨List.mem_append_right _ (List.mem_of_getElem? (i := 181) (by decide +kernel)), rfl⟩
theorem ml_law_25 : Cond.methodLink R_law 25 y_TM_put ∈ lw_g := List.mem_filter.mpr ⟨List.mem_append_right _ (List.mem_of_getElem? (i := 233) (by decide +kernel)), rfl⟩
theorem g_law_25 : GoodIn lw_g (wsV R_law 25 R_TM y_TM_put ws_TM_put) := gd ml_law_25 im_TM_put se_TM_put in_TM co_TM_put
theorem ml_law_30 : Cond.methodLink R_law 30 y_TM_insert ∈ lw_g := List.mem_filter.mpr ⟨List.mem_append_right _ (List.mem_of_getElem? (i := 237) (by decide +kernel)), rfl⟩
theorem g_law_30 : GoodIn lw_g (wsV R_law 30 R_TM y_TM_insert ws_TM_insert) := gd ml_law_30 im_TM_insert se_TM_insert in_TM co_TM_insert
theorem ml_law_34 : Cond.methodLink R_law 34 y_TM_remove ∈ lw_g := List.mem_filter.mpr ⟨List.mem_append_right _ (List.mem_of_getElem? (i := 241) (by decide +kernel)), rfl⟩
theorem g_law_34 : GoodIn lw_g (wsV R_law 34 R_TM y_TM_remove ws_TM_remove) := gd ml_law_34 im_TM_remove se_TM_remove in_TM co_TM_remove
theorem ml_TM_56 : Cond.methodLink R_TM 56 y_TM_drop ∈ lw_g := List.mem_filter.mpr ⟨List.mem_append_right _ (List.mem_of_getElem? (i := 245) (by decide +kernel)), rfl⟩
theorem g_TM_56 : GoodIn lw_g (wsV R_TM 56 R_TM y_TM_drop ws_TM_drop) := gd ml_TM_56 im_TM_drop se_TM_drop in_TM co_TM_drop
theorem ml_law_38 : Cond.methodLink R_law 38 y_TM_removeSpan ∈ lw_g := List.mem_filter.mpr ⟨List.mem_append_right _ (List.mem_of_getElem? (i := 249) (by decide +kernel)), rfl⟩
theorem g_law_38 : GoodIn lw_g (wsV R_law 38 R_TM y_TM_removeSpan ws_TM_removeSpan) := gd ml_law_38 im_TM_removeSpan se_TM_removeSpan in_TM co_TM_removeSpan
theorem ml_TM_60 : Cond.methodLink R_TM 60 y_TM_in ∈ lw_g := List.mem_filter.mpr ⟨List.mem_append_right _ (List.mem_of_getElem? (i := 253) (by decide +kernel)), rfl⟩
theorem g_TM_60 : GoodIn lw_g (wsV R_TM 60 R_TM y_TM_in ws_TM_in) := gd ml_TM_60 im_TM_in se_TM_in in_TM co_TM_in
theorem ml_law_42 : Cond.methodLink R_law 42 y_TM_shift ∈ lw_g := List.mem_filter.mpr ⟨List.mem_append_right _ (List.mem_of_getElem? (i := 257) (by decide +kernel)), rfl⟩
theorem g_law_42 : GoodIn lw_g (wsV R_law 42 R_TM y_TM_shift ws_TM_shift) := gd ml_law_42 im_TM_shift se_TM_shift in_TM co_TM_shift
theorem ml_TM_68 : Cond.methodLink R_TM 68 y_TM_move ∈ lw_g := List.mem_filter.mpr ⟨List.mem_append_right _ (List.mem_of_getElem? (i := 263) (by decide +kernel)), rfl⟩
theorem g_TM_68 : GoodIn lw_g (wsV R_TM 68 R_TM y_TM_move ws_TM_move) := gd ml_TM_68 im_TM_move se_TM_move in_TM co_TM_move
theorem ml_law_47 : Cond.methodLink R_law 47 y_TM_shiftSpan ∈ lw_g := List.mem_filter.mpr ⟨List.mem_append_right _ (List.mem_of_getElem? (i := 268) (by decide +kernel)), rfl⟩
theorem g_law_47 : GoodIn lw_g (wsV R_law 47 R_TM y_TM_shiftSpan ws_TM_shiftSpan) := gd ml_law_47 im_TM_shiftSpan se_TM_shiftSpan in_TM co_TM_shiftSpan
theorem ml_law_52 : Cond.methodLink R_law 52 y_TM_enable ∈ lw_g := List.mem_filter.mpr ⟨List.mem_append_right _ (List.mem_of_getElem? (i := 272) (by decide +kernel)), rfl⟩
theorem g_law_52 : GoodIn lw_g (wsV R_law 52 R_TM y_TM_enable ws_TM_enable) := gd ml_law_52 im_TM_enable se_TM_enable in_TM co_TM_enable
theorem ml_law_57 : Cond.methodLink R_law 57 y_TM_isOn ∈ lw_g := List.mem_filter.mpr ⟨List.mem_append_right _ (List.mem_of_getElem? (i := 276) (by decide +kernel)), rfl⟩
theorem g_law_57 : GoodIn lw_g (wsV R_law 57 R_TM y_TM_isOn ws_TM_isOn) := gd ml_law_57 im_TM_isOn se_TM_isOn in_TM co_TM_isOn
theorem ml_law_61 : Cond.methodLink R_law 61 y_TM_reset ∈ lw_g := List.mem_filter.mpr ⟨List.mem_append_right _ (List.mem_of_getElem? (i := 280) (by decide +kernel)), rfl⟩
theorem g_law_61 : GoodIn lw_g (wsV R_law 61 R_TM y_TM_reset ws_TM_reset) := gd ml_law_61 im_TM_reset se_TM_reset in_TM co_TM_reset
theorem ml_law_66 : Cond.methodLink R_law 66 y_TM_tick ∈ lw_g := List.mem_filter.mpr ⟨List.mem_append_right _ (List.mem_of_getElem? (i := 284) (by decide +kernel)), rfl⟩
theorem g_law_66 : GoodIn lw_g (wsV R_law 66 R_TM y_TM_tick ws_TM_tick) := gd ml_law_66 im_TM_tick se_TM_tick in_TM co_TM_tick
theorem ml_law_70 : Cond.methodLink R_law 70 y_TM_leave ∈ lw_g := List.mem_filter.mpr ⟨List.mem_append_right _ (List.mem_of_getElem? (i := 288) (by decide +kernel)), rfl⟩
theorem g_law_70 : GoodIn lw_g (wsV R_law 70 R_TM y_TM_leave ws_TM_leave) := gd ml_law_70 im_TM_leave se_TM_leave in_TM co_TM_leave
theorem ml_TM_76 : Cond.methodLink R_TM 76 y_TM_place ∈ lw_g := List.mem_filter.mpr ⟨List.mem_append_right _ (List.mem_of_getElem? (i := 292) (by decide +kernel)), rfl⟩
theorem g_TM_76 : GoodIn lw_g (wsV R_TM 76 R_TM y_TM_place ws_TM_place) := gd ml_TM_76 im_TM_place se_TM_place in_TM co_TM_place
theorem ml_law_74 : Cond.methodLink R_law 74 y_TM_left ∈ lw_g := List.mem_filter.mpr ⟨List.mem_append_right _ (List.mem_of_getElem? (i := 296) (by decide +kernel)), rfl⟩
theorem g_law_74 : GoodIn lw_g (wsV R_law 74 R_TM y_TM_left ws_TM_left) := gd ml_law_74 im_TM_left se_TM_left in_TM co_TM_left
theorem ml_law_78 : Cond.methodLink R_law 78 y_TM_count ∈ lw_g := List.mem_filter.mpr ⟨List.mem_append_right _ (List.mem_of_getElem? (i := 300) (by decide +kernel)), rfl⟩
theorem g_law_78 : GoodIn lw_g (wsV R_law 78 R_TM y_TM_count ws_TM_count) := gd ml_law_78 im_TM_count se_TM_count in_TM co_TM_count
theorem ml_law_82 : Cond.methodLink R_law 82 y_TM_about ∈ lw_g := List.mem_filter.mpr ⟨List.mem_append_right _ (List.mem_of_getElem? (i := 304) (by decide +kernel)), rfl⟩
theorem g_law_82 : GoodIn lw_g (wsV R_law 82 R_TM y_TM_about ws_TM_about) := gd ml_law_82 im_TM_about se_TM_about in_TM co_TM_about
theorem ml_law_86 : Cond.methodLink R_law 86 y_TM_byteAt ∈ lw_g := List.mem_filter.mpr ⟨List.mem_append_right _ (List.mem_of_getElem? (i := 308) (by decide +kernel)), rfl⟩
theorem g_law_86 : GoodIn lw_g (wsV R_law 86 R_TM y_TM_byteAt ws_TM_byteAt) := gd ml_law_86 im_TM_byteAt se_TM_byteAt in_TM co_TM_byteAt
theorem im_Obj : Cond.instanceMethod Lib.objectInit ∈ lw_g := List.mem_filter.mpr ⟨List.mem_append_right _ (List.mem_of_getElem? (i := 10) (by decide +kernel)), rfl⟩
theorem st_min : Cond.static Lib.Math.min.name ∈ lw_g := List.mem_filter.mpr ⟨List.mem_append_right _ (List.mem_of_getElem? (i := 13) (by decide +kernel)), rfl⟩
theorem st_max : Cond.static Lib.Math.max.name ∈ lw_g := List.mem_filter.mpr ⟨List.mem_append_right _ (List.mem_of_getElem? (i := 16) (by decide +kernel)), rfl⟩
theorem co_Obj : Cond.code Lib.objectInit ⟨#[0xb1]⟩ 1 none ∈ lw_g := List.mem_filter.mpr ⟨List.mem_append_right _ (List.mem_of_getElem? (i := 11) rfl), rfl⟩
theorem co_min : Cond.code Lib.Math.min.name Lib.Math.min.code 2 (some .int) ∈ lw_g := List.mem_filter.mpr ⟨List.mem_append_right _ (List.mem_of_getElem? (i := 14) rfl), rfl⟩
theorem co_max : Cond.code Lib.Math.max.name Lib.Math.max.code 2 (some .int) ∈ lw_g := List.mem_filter.mpr ⟨List.mem_append_right _ (List.mem_of_getElem? (i := 17) rfl), rfl⟩
