section
-- ===== PART A: goes FIRST, ahead of the names: the tables' words, and 'selects' of the private methods out of them =====
/-- a private method of a class that the tables say can be made, by its rows of tables_1 -/
def lw_okq (q : MethodName × Nat) : Prop := (q.1.cls ≠ "java/lang/invoke/MethodHandle" ∧ q.1.cls ≠ "java/lang/invoke/VarHandle") ∧ Cond.instantiable q.1.cls q.2 ∈ tables_1 ∧ Cond.privateMethod q.1 ∈ tables_1 ∧ Cond.instanceMethod q.1 ∈ tables_1
theorem lw_p0 : lw_okq (⟨"TimeTable", "whetherInserted", "(I)I"⟩, 14) := ⟨⟨by decide +kernel, by decide +kernel⟩, List.mem_of_getElem? (i := 5) (by decide +kernel), List.mem_of_getElem? (i := 72) (by decide +kernel), List.mem_of_getElem? (i := 73) (by decide +kernel)⟩
theorem lw_p1 : lw_okq (⟨"TimeTable", "addEntry", "(II)V"⟩, 14) := ⟨⟨by decide +kernel, by decide +kernel⟩, List.mem_of_getElem? (i := 5) (by decide +kernel), List.mem_of_getElem? (i := 76) (by decide +kernel), List.mem_of_getElem? (i := 77) (by decide +kernel)⟩
theorem lw_p2 : lw_okq (⟨"TimeTable", "settle", "(I)V"⟩, 14) := ⟨⟨by decide +kernel, by decide +kernel⟩, List.mem_of_getElem? (i := 5) (by decide +kernel), List.mem_of_getElem? (i := 80) (by decide +kernel), List.mem_of_getElem? (i := 81) (by decide +kernel)⟩
theorem lw_p3 : lw_okq (⟨"TimeTable", "isBefore", "(II)Z"⟩, 14) := ⟨⟨by decide +kernel, by decide +kernel⟩, List.mem_of_getElem? (i := 5) (by decide +kernel), List.mem_of_getElem? (i := 84) (by decide +kernel), List.mem_of_getElem? (i := 85) (by decide +kernel)⟩
theorem lw_p4 : lw_okq (⟨"TimeTable", "swap", "(II)V"⟩, 14) := ⟨⟨by decide +kernel, by decide +kernel⟩, List.mem_of_getElem? (i := 5) (by decide +kernel), List.mem_of_getElem? (i := 88) (by decide +kernel), List.mem_of_getElem? (i := 89) (by decide +kernel)⟩
theorem lw_p5 : lw_okq (⟨"TimeTable", "keepFirst", "(I)I"⟩, 14) := ⟨⟨by decide +kernel, by decide +kernel⟩, List.mem_of_getElem? (i := 5) (by decide +kernel), List.mem_of_getElem? (i := 96) (by decide +kernel), List.mem_of_getElem? (i := 97) (by decide +kernel)⟩
theorem lw_p6 : lw_okq (⟨"TimeTable", "isInSpan", "(III)Z"⟩, 14) := ⟨⟨by decide +kernel, by decide +kernel⟩, List.mem_of_getElem? (i := 5) (by decide +kernel), List.mem_of_getElem? (i := 104) (by decide +kernel), List.mem_of_getElem? (i := 105) (by decide +kernel)⟩
theorem lw_p7 : lw_okq (⟨"TimeTable", "moveTimes", "(III)I"⟩, 14) := ⟨⟨by decide +kernel, by decide +kernel⟩, List.mem_of_getElem? (i := 5) (by decide +kernel), List.mem_of_getElem? (i := 113) (by decide +kernel), List.mem_of_getElem? (i := 114) (by decide +kernel)⟩
theorem lw_p8 : lw_okq (⟨"TimeTable", "canMove", "(II)Z"⟩, 14) := ⟨⟨by decide +kernel, by decide +kernel⟩, List.mem_of_getElem? (i := 5) (by decide +kernel), List.mem_of_getElem? (i := 117) (by decide +kernel), List.mem_of_getElem? (i := 118) (by decide +kernel)⟩
theorem lw_p9 : lw_okq (⟨"TimeTable", "dropFirst", "()V"⟩, 14) := ⟨⟨by decide +kernel, by decide +kernel⟩, List.mem_of_getElem? (i := 5) (by decide +kernel), List.mem_of_getElem? (i := 146) (by decide +kernel), List.mem_of_getElem? (i := 147) (by decide +kernel)⟩
theorem lw_p10 : lw_okq (⟨"TimeTable", "byteOf", "(III)I"⟩, 14) := ⟨⟨by decide +kernel, by decide +kernel⟩, List.mem_of_getElem? (i := 5) (by decide +kernel), List.mem_of_getElem? (i := 154) (by decide +kernel), List.mem_of_getElem? (i := 155) (by decide +kernel)⟩
theorem lw_p11 : lw_okq (⟨"TimeTable", "isWaiting", "(I)Z"⟩, 14) := ⟨⟨by decide +kernel, by decide +kernel⟩, List.mem_of_getElem? (i := 5) (by decide +kernel), List.mem_of_getElem? (i := 166) (by decide +kernel), List.mem_of_getElem? (i := 167) (by decide +kernel)⟩
theorem lw_p12 : lw_okq (⟨"TimeTableModel", "drop", "(I)V"⟩, 16) := ⟨⟨by decide +kernel, by decide +kernel⟩, List.mem_of_getElem? (i := 177) (by decide +kernel), List.mem_of_getElem? (i := 246) (by decide +kernel), List.mem_of_getElem? (i := 247) (by decide +kernel)⟩
theorem lw_p13 : lw_okq (⟨"TimeTableModel", "in", "(III)Z"⟩, 16) := ⟨⟨by decide +kernel, by decide +kernel⟩, List.mem_of_getElem? (i := 177) (by decide +kernel), List.mem_of_getElem? (i := 254) (by decide +kernel), List.mem_of_getElem? (i := 255) (by decide +kernel)⟩
theorem lw_p14 : lw_okq (⟨"TimeTableModel", "move", "(III)I"⟩, 16) := ⟨⟨by decide +kernel, by decide +kernel⟩, List.mem_of_getElem? (i := 177) (by decide +kernel), List.mem_of_getElem? (i := 264) (by decide +kernel), List.mem_of_getElem? (i := 265) (by decide +kernel)⟩
theorem lw_p15 : lw_okq (⟨"TimeTableModel", "place", "(I)I"⟩, 16) := ⟨⟨by decide +kernel, by decide +kernel⟩, List.mem_of_getElem? (i := 177) (by decide +kernel), List.mem_of_getElem? (i := 293) (by decide +kernel), List.mem_of_getElem? (i := 294) (by decide +kernel)⟩
def lw_privs_1 : List (MethodName × Nat) := [(⟨"TimeTable", "whetherInserted", "(I)I"⟩, 14), (⟨"TimeTable", "addEntry", "(II)V"⟩, 14), (⟨"TimeTable", "settle", "(I)V"⟩, 14), (⟨"TimeTable", "isBefore", "(II)Z"⟩, 14), (⟨"TimeTable", "swap", "(II)V"⟩, 14), (⟨"TimeTable", "keepFirst", "(I)I"⟩, 14), (⟨"TimeTable", "isInSpan", "(III)Z"⟩, 14), (⟨"TimeTable", "moveTimes", "(III)I"⟩, 14), (⟨"TimeTable", "canMove", "(II)Z"⟩, 14), (⟨"TimeTable", "dropFirst", "()V"⟩, 14), (⟨"TimeTable", "byteOf", "(III)I"⟩, 14), (⟨"TimeTable", "isWaiting", "(I)Z"⟩, 14), (⟨"TimeTableModel", "drop", "(I)V"⟩, 16), (⟨"TimeTableModel", "in", "(III)Z"⟩, 16), (⟨"TimeTableModel", "move", "(III)I"⟩, 16), (⟨"TimeTableModel", "place", "(I)I"⟩, 16)]
theorem lw_r1 : ∀ q ∈ lw_privs_1, lw_okq q := List.forall_mem_cons.mpr ⟨lw_p0, List.forall_mem_cons.mpr ⟨lw_p1, List.forall_mem_cons.mpr ⟨lw_p2, List.forall_mem_cons.mpr ⟨lw_p3, List.forall_mem_cons.mpr ⟨lw_p4, List.forall_mem_cons.mpr ⟨lw_p5, List.forall_mem_cons.mpr ⟨lw_p6, List.forall_mem_cons.mpr ⟨lw_p7, List.forall_mem_cons.mpr ⟨lw_p8, List.forall_mem_cons.mpr ⟨lw_p9, List.forall_mem_cons.mpr ⟨lw_p10, List.forall_mem_cons.mpr ⟨lw_p11, List.forall_mem_cons.mpr ⟨lw_p12, List.forall_mem_cons.mpr ⟨lw_p13, List.forall_mem_cons.mpr ⟨lw_p14, List.forall_mem_cons.mpr ⟨lw_p15, fun _ h => absurd h List.not_mem_nil⟩⟩⟩⟩⟩⟩⟩⟩⟩⟩⟩⟩⟩⟩⟩⟩
def lw_privs : List (MethodName × Nat) := lw_privs_1
def lw_tbl : List Cond := k2_sels lw_privs ++ tables_1
theorem lw_privs_ok : ∀ q ∈ lw_privs, lw_okq q := lw_r1
end
section
/-! Names: the two kinds of objects, their fields, their methods, the words of the tables by their places. -/
def lw_g : List Cond := lw_tbl.filter goodWord
theorem lw_gt {args : Array Value} {s : State} (h : ∀ w ∈ lw_tbl, w.before args s = true) : ∀ w ∈ lw_g, w.before args s = true := fun w hw => h w (List.mem_filter.mp hw).1
def R_TT : String := "TimeTable"
def R_TM : String := "TimeTableModel"
def R_law : String := "TimeTableLaw"
def F_TT : u_T := fun k => match k with
  | 0 => ("TimeTable", "bytes", "[B", true)
  | 1 => ("TimeTable", "order", "[I", true)
  | 2 => ("TimeTable", "numbers", "[I", true)
  | 3 => ("TimeTable", "times", "[I", true)
  | 4 => ("TimeTable", "starts", "[I", true)
  | 5 => ("TimeTable", "lengths", "[I", true)
  | 6 => ("TimeTable", "waiting", "I", false)
  | 7 => ("TimeTable", "waitedInAll", "I", false)
  | 8 => ("TimeTable", "now", "I", false)
  | 9 => ("TimeTable", "on", "Z", false)
  | 10 => ("TimeTable", "textStart", "I", false)
  | 11 => ("TimeTable", "textLength", "I", false)
  | 12 => ("TimeTable", "leftStart", "I", false)
  | _ => ("TimeTable", "leftLength", "I", false)
def t_TT : Nat → FieldType := fun k => match k with
  | 0 => .array .byte
  | 1 => .array .int
  | 2 => .array .int
  | 3 => .array .int
  | 4 => .array .int
  | 5 => .array .int
  | 6 => .int
  | 7 => .int
  | 8 => .int
  | 9 => .boolean
  | 10 => .int
  | 11 => .int
  | 12 => .int
  | _ => .int
abbrev w_TT : List Cond := u_ws R_TT F_TT 14
theorem n_TT : ∀ a, a < 14 → ∀ b, b < 14 → a ≠ b → (F_TT a).2.1 ≠ (F_TT b).2.1 := by decide +kernel
theorem t_TT_ok : ∀ k, k < 14 → parseFieldDescriptor (F_TT k).2.2.1 = some (t_TT k) := by decide +kernel
theorem i_TT : ∀ w ∈ w_TT, w ∈ lw_g := by decide +kernel
def F_TM : u_T := fun k => match k with
  | 0 => ("TimeTableModel", "thrown", "I", false)
  | 1 => ("TimeTableModel", "most", "I", true)
  | 2 => ("TimeTableModel", "now", "I", false)
  | 3 => ("TimeTableModel", "on", "Z", false)
  | 4 => ("TimeTableModel", "all", "I", false)
  | 5 => ("TimeTableModel", "text", "[B", true)
  | 6 => ("TimeTableModel", "textSize", "I", false)
  | 7 => ("TimeTableModel", "left", "[B", true)
  | 8 => ("TimeTableModel", "leftSize", "I", false)
  | 9 => ("TimeTableModel", "many", "I", false)
  | 10 => ("TimeTableModel", "number", "[I", true)
  | 11 => ("TimeTableModel", "time", "[I", true)
  | 12 => ("TimeTableModel", "size", "[I", true)
  | 13 => ("TimeTableModel", "row", "[I", true)
  | 14 => ("TimeTableModel", "used", "[Z", true)
  | _ => ("TimeTableModel", "bytes", "[B", true)
def t_TM : Nat → FieldType := fun k => match k with
  | 0 => .int
  | 1 => .int
  | 2 => .int
  | 3 => .boolean
  | 4 => .int
  | 5 => .array .byte
  | 6 => .int
  | 7 => .array .byte
  | 8 => .int
  | 9 => .int
  | 10 => .array .int
  | 11 => .array .int
  | 12 => .array .int
  | 13 => .array .int
  | 14 => .array .boolean
  | _ => .array .byte
abbrev w_TM : List Cond := u_ws R_TM F_TM 16
theorem n_TM : ∀ a, a < 16 → ∀ b, b < 16 → a ≠ b → (F_TM a).2.1 ≠ (F_TM b).2.1 := by decide +kernel
theorem t_TM_ok : ∀ k, k < 16 → parseFieldDescriptor (F_TM k).2.2.1 = some (t_TM k) := by decide +kernel
theorem i_TM : ∀ w ∈ w_TM, w ∈ lw_g := by decide +kernel
abbrev classes : List vw_C := [(R_TT, F_TT, 14), (R_TM, F_TM, 16)]
theorem good_all : lw_g.all goodWord = true := List.all_eq_true.mpr (fun _ h => (List.mem_filter.mp h).2)
theorem gd {own : String} {idx : Nat} {C : String} {y : MethodName} {b : ByteArray} {n : Nat} {ret : Option FieldType} (h1 : Cond.methodLink own idx y ∈ lw_g) (h2 : Cond.instanceMethod y ∈ lw_g) (h3 : Cond.selects C y y ∈ lw_g) (h4 : Cond.initialized C ∈ lw_g) (h5 : Cond.code y b n ret ∈ lw_g) : GoodIn lw_g (wsV own idx C y (Cond.code y b n ret :: lw_g)) := by
  have g : ∀ w, w ∈ lw_g → w ∈ lw_g ∧ ((w.onTables && w.keeps) = true ∨ ∃ ty, w = .arrayClass ty) := fun w h => ⟨h, good_of_word (List.all_eq_true.mp good_all w h)⟩
  intro w hw
  refine g w ?_
  unfold wsV at hw
  rcases List.mem_append.mp hw with h | h
  · rcases List.mem_cons.mp h with h | h
    · rw [h]; exact h1
    · rcases List.mem_cons.mp h with h | h
      · rw [h]; exact h2
      · rcases List.mem_cons.mp h with h | h
        · rw [h]; exact h3
        · rw [List.mem_singleton.mp h]; exact h4
  · rcases List.mem_cons.mp h with h | h
    · rw [h]; exact h5
    · exact h
theorem gd0 {y : MethodName} {b : ByteArray} {n : Nat} {ret : Option FieldType} (h5 : Cond.code y b n ret ∈ lw_g) : GoodIn lw_g (Cond.code y b n ret :: lw_g) := by
  intro w hw
  have h : w ∈ lw_g := by
    rcases List.mem_cons.mp hw with h | h
    · rw [h]; exact h5
    · exact h
  exact ⟨h, good_of_word (List.all_eq_true.mp good_all w h)⟩
theorem gdS {own : String} {idx : Nat} {y : MethodName} {b : ByteArray} {n : Nat} {ret : Option FieldType} (h1 : Cond.methodLink own idx y ∈ lw_g) (h2 : Cond.static y ∈ lw_g) (h4 : Cond.initialized own ∈ lw_g) (h5 : Cond.code y b n ret ∈ lw_g) : GoodIn lw_g (wsS own idx y (Cond.code y b n ret :: lw_g)) := by
  have g : ∀ w, w ∈ lw_g → w ∈ lw_g ∧ ((w.onTables && w.keeps) = true ∨ ∃ ty, w = .arrayClass ty) := fun w h => ⟨h, good_of_word (List.all_eq_true.mp good_all w h)⟩
  intro w hw
  refine g w ?_
  unfold wsS at hw
  rcases List.mem_append.mp hw with h | h
  · rcases List.mem_cons.mp h with h | h
    · rw [h]; exact h1
    · rcases List.mem_cons.mp h with h | h
      · rw [h]; exact h2
      · rw [List.mem_singleton.mp h]; exact h4
  · rcases List.mem_cons.mp h with h | h
    · rw [h]; exact h5
    · exact h
theorem in_law : Cond.initialized "TimeTableLaw" ∈ lw_g := List.mem_filter.mpr ⟨List.mem_append_right _ (List.mem_of_getElem? (i := 0) (by decide +kernel)), rfl⟩
theorem in_TT : Cond.initialized "TimeTable" ∈ lw_g := List.mem_filter.mpr ⟨List.mem_append_right _ (List.mem_of_getElem? (i := 1) (by decide +kernel)), rfl⟩
theorem in_Math : Cond.initialized "java/lang/Math" ∈ lw_g := List.mem_filter.mpr ⟨List.mem_append_right _ (List.mem_of_getElem? (i := 2) (by decide +kernel)), rfl⟩
theorem in_TM : Cond.initialized "TimeTableModel" ∈ lw_g := List.mem_filter.mpr ⟨List.mem_append_right _ (List.mem_of_getElem? (i := 3) (by decide +kernel)), rfl⟩
theorem ac_byte : Cond.arrayClass .byte ∈ lw_g := List.mem_filter.mpr ⟨List.mem_append_right _ (List.mem_of_getElem? (i := 61) (by decide +kernel)), rfl⟩
theorem ac_int : Cond.arrayClass .int ∈ lw_g := List.mem_filter.mpr ⟨List.mem_append_right _ (List.mem_of_getElem? (i := 62) (by decide +kernel)), rfl⟩
theorem ac_boolean : Cond.arrayClass .boolean ∈ lw_g := List.mem_filter.mpr ⟨List.mem_append_right _ (List.mem_of_getElem? (i := 232) (by decide +kernel)), rfl⟩
theorem cl_TT : Cond.classLink R_law 7 R_TT ∈ lw_g := List.mem_filter.mpr ⟨List.mem_append_right _ (List.mem_of_getElem? (i := 4) (by decide +kernel)), rfl⟩
theorem cl_TM : Cond.classLink R_law 18 R_TM ∈ lw_g := List.mem_filter.mpr ⟨List.mem_append_right _ (List.mem_of_getElem? (i := 176) (by decide +kernel)), rfl⟩
theorem ns_TT : Cond.instantiable R_TT 14 ∈ lw_g := List.mem_filter.mpr ⟨List.mem_append_right _ (List.mem_of_getElem? (i := 5) (by decide +kernel)), rfl⟩
theorem ns_TM : Cond.instantiable R_TM 16 ∈ lw_g := List.mem_filter.mpr ⟨List.mem_append_right _ (List.mem_of_getElem? (i := 177) (by decide +kernel)), rfl⟩
theorem k_TT_66 : Cond.constant R_TT 66 (nI 2147483647) ∈ lw_g := List.mem_filter.mpr ⟨List.mem_append_right _ (List.mem_of_getElem? (i := 111) (by decide +kernel)), rfl⟩
theorem k_TM_33 : Cond.constant R_TM 33 (nI 262144) ∈ lw_g := List.mem_filter.mpr ⟨List.mem_append_right _ (List.mem_of_getElem? (i := 182) (by decide +kernel)), rfl⟩
theorem k_TM_66 : Cond.constant R_TM 66 (-2147483648) ∈ lw_g := List.mem_filter.mpr ⟨List.mem_append_right _ (List.mem_of_getElem? (i := 261) (by decide +kernel)), rfl⟩
theorem k_TM_67 : Cond.constant R_TM 67 (nI 2147483647) ∈ lw_g := List.mem_filter.mpr ⟨List.mem_append_right _ (List.mem_of_getElem? (i := 262) (by decide +kernel)), rfl⟩
theorem k_TT_105 : Cond.constantLong R_TT 105 2147483647 ∈ lw_g := List.mem_filter.mpr ⟨List.mem_append_right _ (List.mem_of_getElem? (i := 120) (by decide +kernel)), rfl⟩
theorem k_TM_64 : Cond.constantLong R_TM 64 2147483647 ∈ lw_g := List.mem_filter.mpr ⟨List.mem_append_right _ (List.mem_of_getElem? (i := 267) (by decide +kernel)), rfl⟩
theorem fl_TT_18 : Cond.fieldLink R_TT 18 R_TT (F_TT 0).2.1 (F_TT 0).2.2.1 ∈ lw_g := List.mem_filter.mpr ⟨List.mem_append_right _ (List.mem_of_getElem? (i := 18) (by decide +kernel)), rfl⟩
theorem fl_TT_22 : Cond.fieldLink R_TT 22 R_TT (F_TT 1).2.1 (F_TT 1).2.2.1 ∈ lw_g := List.mem_filter.mpr ⟨List.mem_append_right _ (List.mem_of_getElem? (i := 19) (by decide +kernel)), rfl⟩
theorem fl_TT_26 : Cond.fieldLink R_TT 26 R_TT (F_TT 2).2.1 (F_TT 2).2.2.1 ∈ lw_g := List.mem_filter.mpr ⟨List.mem_append_right _ (List.mem_of_getElem? (i := 20) (by decide +kernel)), rfl⟩
theorem fl_TT_29 : Cond.fieldLink R_TT 29 R_TT (F_TT 3).2.1 (F_TT 3).2.2.1 ∈ lw_g := List.mem_filter.mpr ⟨List.mem_append_right _ (List.mem_of_getElem? (i := 21) (by decide +kernel)), rfl⟩
theorem fl_TT_32 : Cond.fieldLink R_TT 32 R_TT (F_TT 4).2.1 (F_TT 4).2.2.1 ∈ lw_g := List.mem_filter.mpr ⟨List.mem_append_right _ (List.mem_of_getElem? (i := 22) (by decide +kernel)), rfl⟩
theorem fl_TT_35 : Cond.fieldLink R_TT 35 R_TT (F_TT 5).2.1 (F_TT 5).2.2.1 ∈ lw_g := List.mem_filter.mpr ⟨List.mem_append_right _ (List.mem_of_getElem? (i := 23) (by decide +kernel)), rfl⟩
theorem fl_TT_53 : Cond.fieldLink R_TT 53 R_TT (F_TT 6).2.1 (F_TT 6).2.2.1 ∈ lw_g := List.mem_filter.mpr ⟨List.mem_append_right _ (List.mem_of_getElem? (i := 24) (by decide +kernel)), rfl⟩
theorem fl_TT_90 : Cond.fieldLink R_TT 90 R_TT (F_TT 7).2.1 (F_TT 7).2.2.1 ∈ lw_g := List.mem_filter.mpr ⟨List.mem_append_right _ (List.mem_of_getElem? (i := 25) (by decide +kernel)), rfl⟩
theorem fl_TT_75 : Cond.fieldLink R_TT 75 R_TT (F_TT 8).2.1 (F_TT 8).2.2.1 ∈ lw_g := List.mem_filter.mpr ⟨List.mem_append_right _ (List.mem_of_getElem? (i := 26) (by decide +kernel)), rfl⟩
theorem fl_TT_71 : Cond.fieldLink R_TT 71 R_TT (F_TT 9).2.1 (F_TT 9).2.2.1 ∈ lw_g := List.mem_filter.mpr ⟨List.mem_append_right _ (List.mem_of_getElem? (i := 27) (by decide +kernel)), rfl⟩
theorem fl_TT_38 : Cond.fieldLink R_TT 38 R_TT (F_TT 10).2.1 (F_TT 10).2.2.1 ∈ lw_g := List.mem_filter.mpr ⟨List.mem_append_right _ (List.mem_of_getElem? (i := 28) (by decide +kernel)), rfl⟩
theorem fl_TT_42 : Cond.fieldLink R_TT 42 R_TT (F_TT 11).2.1 (F_TT 11).2.2.1 ∈ lw_g := List.mem_filter.mpr ⟨List.mem_append_right _ (List.mem_of_getElem? (i := 29) (by decide +kernel)), rfl⟩
theorem fl_TT_78 : Cond.fieldLink R_TT 78 R_TT (F_TT 12).2.1 (F_TT 12).2.2.1 ∈ lw_g := List.mem_filter.mpr ⟨List.mem_append_right _ (List.mem_of_getElem? (i := 30) (by decide +kernel)), rfl⟩
theorem fl_TT_81 : Cond.fieldLink R_TT 81 R_TT (F_TT 13).2.1 (F_TT 13).2.2.1 ∈ lw_g := List.mem_filter.mpr ⟨List.mem_append_right _ (List.mem_of_getElem? (i := 31) (by decide +kernel)), rfl⟩
theorem fl_TM_41 : Cond.fieldLink R_TM 41 R_TM (F_TM 0).2.1 (F_TM 0).2.2.1 ∈ lw_g := List.mem_filter.mpr ⟨List.mem_append_right _ (List.mem_of_getElem? (i := 183) (by decide +kernel)), rfl⟩
theorem fl_TM_37 : Cond.fieldLink R_TM 37 R_TM (F_TM 1).2.1 (F_TM 1).2.2.1 ∈ lw_g := List.mem_filter.mpr ⟨List.mem_append_right _ (List.mem_of_getElem? (i := 184) (by decide +kernel)), rfl⟩
theorem fl_TM_50 : Cond.fieldLink R_TM 50 R_TM (F_TM 2).2.1 (F_TM 2).2.2.1 ∈ lw_g := List.mem_filter.mpr ⟨List.mem_append_right _ (List.mem_of_getElem? (i := 185) (by decide +kernel)), rfl⟩
theorem fl_TM_72 : Cond.fieldLink R_TM 72 R_TM (F_TM 3).2.1 (F_TM 3).2.2.1 ∈ lw_g := List.mem_filter.mpr ⟨List.mem_append_right _ (List.mem_of_getElem? (i := 186) (by decide +kernel)), rfl⟩
theorem fl_TM_53 : Cond.fieldLink R_TM 53 R_TM (F_TM 4).2.1 (F_TM 4).2.2.1 ∈ lw_g := List.mem_filter.mpr ⟨List.mem_append_right _ (List.mem_of_getElem? (i := 187) (by decide +kernel)), rfl⟩
theorem fl_TM_7 : Cond.fieldLink R_TM 7 R_TM (F_TM 5).2.1 (F_TM 5).2.2.1 ∈ lw_g := List.mem_filter.mpr ⟨List.mem_append_right _ (List.mem_of_getElem? (i := 188) (by decide +kernel)), rfl⟩
theorem fl_TM_47 : Cond.fieldLink R_TM 47 R_TM (F_TM 6).2.1 (F_TM 6).2.2.1 ∈ lw_g := List.mem_filter.mpr ⟨List.mem_append_right _ (List.mem_of_getElem? (i := 189) (by decide +kernel)), rfl⟩
theorem fl_TM_13 : Cond.fieldLink R_TM 13 R_TM (F_TM 7).2.1 (F_TM 7).2.2.1 ∈ lw_g := List.mem_filter.mpr ⟨List.mem_append_right _ (List.mem_of_getElem? (i := 190) (by decide +kernel)), rfl⟩
theorem fl_TM_80 : Cond.fieldLink R_TM 80 R_TM (F_TM 8).2.1 (F_TM 8).2.2.1 ∈ lw_g := List.mem_filter.mpr ⟨List.mem_append_right _ (List.mem_of_getElem? (i := 191) (by decide +kernel)), rfl⟩
theorem fl_TM_44 : Cond.fieldLink R_TM 44 R_TM (F_TM 9).2.1 (F_TM 9).2.2.1 ∈ lw_g := List.mem_filter.mpr ⟨List.mem_append_right _ (List.mem_of_getElem? (i := 192) (by decide +kernel)), rfl⟩
theorem fl_TM_16 : Cond.fieldLink R_TM 16 R_TM (F_TM 10).2.1 (F_TM 10).2.2.1 ∈ lw_g := List.mem_filter.mpr ⟨List.mem_append_right _ (List.mem_of_getElem? (i := 193) (by decide +kernel)), rfl⟩
theorem fl_TM_20 : Cond.fieldLink R_TM 20 R_TM (F_TM 11).2.1 (F_TM 11).2.2.1 ∈ lw_g := List.mem_filter.mpr ⟨List.mem_append_right _ (List.mem_of_getElem? (i := 194) (by decide +kernel)), rfl⟩
theorem fl_TM_23 : Cond.fieldLink R_TM 23 R_TM (F_TM 12).2.1 (F_TM 12).2.2.1 ∈ lw_g := List.mem_filter.mpr ⟨List.mem_append_right _ (List.mem_of_getElem? (i := 195) (by decide +kernel)), rfl⟩
theorem fl_TM_26 : Cond.fieldLink R_TM 26 R_TM (F_TM 13).2.1 (F_TM 13).2.2.1 ∈ lw_g := List.mem_filter.mpr ⟨List.mem_append_right _ (List.mem_of_getElem? (i := 196) (by decide +kernel)), rfl⟩
theorem fl_TM_29 : Cond.fieldLink R_TM 29 R_TM (F_TM 14).2.1 (F_TM 14).2.2.1 ∈ lw_g := List.mem_filter.mpr ⟨List.mem_append_right _ (List.mem_of_getElem? (i := 197) (by decide +kernel)), rfl⟩
theorem fl_TM_34 : Cond.fieldLink R_TM 34 R_TM (F_TM 15).2.1 (F_TM 15).2.2.1 ∈ lw_g := List.mem_filter.mpr ⟨List.mem_append_right _ (List.mem_of_getElem? (i := 198) (by decide +kernel)), rfl⟩
abbrev b_TT_init : ByteArray := prog_1_method_1_code
def y_TT_init : MethodName := ⟨R_TT, "<init>", "(I)V"⟩
theorem co_TT_init : Cond.code y_TT_init b_TT_init 4 none ∈ lw_g := List.mem_filter.mpr ⟨List.mem_append_right _ (List.mem_of_getElem? (i := 8) rfl), rfl⟩
def ws_TT_init : List Cond := Cond.code y_TT_init b_TT_init 4 none :: lw_g
abbrev b_TT_put : ByteArray := prog_1_method_2_code
def y_TT_put : MethodName := ⟨R_TT, "put", "(I)I"⟩
theorem co_TT_put : Cond.code y_TT_put b_TT_put 3 (some .int) ∈ lw_g := List.mem_filter.mpr ⟨List.mem_append_right _ (List.mem_of_getElem? (i := 66) rfl), rfl⟩
def ws_TT_put : List Cond := Cond.code y_TT_put b_TT_put 3 (some .int) :: lw_g
abbrev b_TT_insert : ByteArray := prog_1_method_3_code
def y_TT_insert : MethodName := ⟨R_TT, "insert", "(II)I"⟩
theorem co_TT_insert : Cond.code y_TT_insert b_TT_insert 4 (some .int) ∈ lw_g := List.mem_filter.mpr ⟨List.mem_append_right _ (List.mem_of_getElem? (i := 70) rfl), rfl⟩
def ws_TT_insert : List Cond := Cond.code y_TT_insert b_TT_insert 4 (some .int) :: lw_g
abbrev b_TT_whetherInserted : ByteArray := prog_1_method_17_code
def y_TT_whetherInserted : MethodName := ⟨R_TT, "whetherInserted", "(I)I"⟩
theorem co_TT_whetherInserted : Cond.code y_TT_whetherInserted b_TT_whetherInserted 2 (some .int) ∈ lw_g := List.mem_filter.mpr ⟨List.mem_append_right _ (List.mem_of_getElem? (i := 74) rfl), rfl⟩
def ws_TT_whetherInserted : List Cond := Cond.code y_TT_whetherInserted b_TT_whetherInserted 2 (some .int) :: lw_g
abbrev b_TT_addEntry : ByteArray := prog_1_method_18_code
def y_TT_addEntry : MethodName := ⟨R_TT, "addEntry", "(II)V"⟩
theorem co_TT_addEntry : Cond.code y_TT_addEntry b_TT_addEntry 4 none ∈ lw_g := List.mem_filter.mpr ⟨List.mem_append_right _ (List.mem_of_getElem? (i := 78) rfl), rfl⟩
def ws_TT_addEntry : List Cond := Cond.code y_TT_addEntry b_TT_addEntry 4 none :: lw_g
abbrev b_TT_settle : ByteArray := prog_1_method_23_code
def y_TT_settle : MethodName := ⟨R_TT, "settle", "(I)V"⟩
theorem co_TT_settle : Cond.code y_TT_settle b_TT_settle 3 none ∈ lw_g := List.mem_filter.mpr ⟨List.mem_append_right _ (List.mem_of_getElem? (i := 82) rfl), rfl⟩
def ws_TT_settle : List Cond := Cond.code y_TT_settle b_TT_settle 3 none :: lw_g
abbrev b_TT_isBefore : ByteArray := prog_1_method_24_code
def y_TT_isBefore : MethodName := ⟨R_TT, "isBefore", "(II)Z"⟩
theorem co_TT_isBefore : Cond.code y_TT_isBefore b_TT_isBefore 3 (some .boolean) ∈ lw_g := List.mem_filter.mpr ⟨List.mem_append_right _ (List.mem_of_getElem? (i := 86) rfl), rfl⟩
def ws_TT_isBefore : List Cond := Cond.code y_TT_isBefore b_TT_isBefore 3 (some .boolean) :: lw_g
abbrev b_TT_swap : ByteArray := prog_1_method_25_code
def y_TT_swap : MethodName := ⟨R_TT, "swap", "(II)V"⟩
theorem co_TT_swap : Cond.code y_TT_swap b_TT_swap 4 none ∈ lw_g := List.mem_filter.mpr ⟨List.mem_append_right _ (List.mem_of_getElem? (i := 90) rfl), rfl⟩
def ws_TT_swap : List Cond := Cond.code y_TT_swap b_TT_swap 4 none :: lw_g
abbrev b_TT_remove : ByteArray := prog_1_method_4_code
def y_TT_remove : MethodName := ⟨R_TT, "remove", "(I)I"⟩
theorem co_TT_remove : Cond.code y_TT_remove b_TT_remove 4 (some .int) ∈ lw_g := List.mem_filter.mpr ⟨List.mem_append_right _ (List.mem_of_getElem? (i := 94) rfl), rfl⟩
def ws_TT_remove : List Cond := Cond.code y_TT_remove b_TT_remove 4 (some .int) :: lw_g
abbrev b_TT_keepFirst : ByteArray := prog_1_method_26_code
def y_TT_keepFirst : MethodName := ⟨R_TT, "keepFirst", "(I)I"⟩
theorem co_TT_keepFirst : Cond.code y_TT_keepFirst b_TT_keepFirst 3 (some .int) ∈ lw_g := List.mem_filter.mpr ⟨List.mem_append_right _ (List.mem_of_getElem? (i := 98) rfl), rfl⟩
def ws_TT_keepFirst : List Cond := Cond.code y_TT_keepFirst b_TT_keepFirst 3 (some .int) :: lw_g
abbrev b_TT_removeSpan : ByteArray := prog_1_method_5_code
def y_TT_removeSpan : MethodName := ⟨R_TT, "removeSpan", "(II)I"⟩
theorem co_TT_removeSpan : Cond.code y_TT_removeSpan b_TT_removeSpan 5 (some .int) ∈ lw_g := List.mem_filter.mpr ⟨List.mem_append_right _ (List.mem_of_getElem? (i := 102) rfl), rfl⟩
def ws_TT_removeSpan : List Cond := Cond.code y_TT_removeSpan b_TT_removeSpan 5 (some .int) :: lw_g
abbrev b_TT_isInSpan : ByteArray := prog_1_method_21_code
def y_TT_isInSpan : MethodName := ⟨R_TT, "isInSpan", "(III)Z"⟩
theorem co_TT_isInSpan : Cond.code y_TT_isInSpan b_TT_isInSpan 4 (some .boolean) ∈ lw_g := List.mem_filter.mpr ⟨List.mem_append_right _ (List.mem_of_getElem? (i := 106) rfl), rfl⟩
def ws_TT_isInSpan : List Cond := Cond.code y_TT_isInSpan b_TT_isInSpan 4 (some .boolean) :: lw_g
abbrev b_TT_shift : ByteArray := prog_1_method_6_code
def y_TT_shift : MethodName := ⟨R_TT, "shift", "(I)I"⟩
theorem co_TT_shift : Cond.code y_TT_shift b_TT_shift 2 (some .int) ∈ lw_g := List.mem_filter.mpr ⟨List.mem_append_right _ (List.mem_of_getElem? (i := 110) rfl), rfl⟩
def ws_TT_shift : List Cond := Cond.code y_TT_shift b_TT_shift 2 (some .int) :: lw_g
abbrev b_TT_moveTimes : ByteArray := prog_1_method_19_code
def y_TT_moveTimes : MethodName := ⟨R_TT, "moveTimes", "(III)I"⟩
theorem co_TT_moveTimes : Cond.code y_TT_moveTimes b_TT_moveTimes 6 (some .int) ∈ lw_g := List.mem_filter.mpr ⟨List.mem_append_right _ (List.mem_of_getElem? (i := 115) rfl), rfl⟩
def ws_TT_moveTimes : List Cond := Cond.code y_TT_moveTimes b_TT_moveTimes 6 (some .int) :: lw_g
abbrev b_TT_canMove : ByteArray := prog_1_method_20_code
def y_TT_canMove : MethodName := ⟨R_TT, "canMove", "(II)Z"⟩
theorem co_TT_canMove : Cond.code y_TT_canMove b_TT_canMove 5 (some .boolean) ∈ lw_g := List.mem_filter.mpr ⟨List.mem_append_right _ (List.mem_of_getElem? (i := 119) rfl), rfl⟩
def ws_TT_canMove : List Cond := Cond.code y_TT_canMove b_TT_canMove 5 (some .boolean) :: lw_g
abbrev b_TT_shiftSpan : ByteArray := prog_1_method_7_code
def y_TT_shiftSpan : MethodName := ⟨R_TT, "shiftSpan", "(III)I"⟩
theorem co_TT_shiftSpan : Cond.code y_TT_shiftSpan b_TT_shiftSpan 4 (some .int) ∈ lw_g := List.mem_filter.mpr ⟨List.mem_append_right _ (List.mem_of_getElem? (i := 124) rfl), rfl⟩
def ws_TT_shiftSpan : List Cond := Cond.code y_TT_shiftSpan b_TT_shiftSpan 4 (some .int) :: lw_g
abbrev b_TT_enable : ByteArray := prog_1_method_8_code
def y_TT_enable : MethodName := ⟨R_TT, "enable", "(Z)V"⟩
theorem co_TT_enable : Cond.code y_TT_enable b_TT_enable 2 none ∈ lw_g := List.mem_filter.mpr ⟨List.mem_append_right _ (List.mem_of_getElem? (i := 128) rfl), rfl⟩
def ws_TT_enable : List Cond := Cond.code y_TT_enable b_TT_enable 2 none :: lw_g
abbrev b_TT_isOn : ByteArray := prog_1_method_9_code
def y_TT_isOn : MethodName := ⟨R_TT, "isOn", "()Z"⟩
theorem co_TT_isOn : Cond.code y_TT_isOn b_TT_isOn 1 (some .boolean) ∈ lw_g := List.mem_filter.mpr ⟨List.mem_append_right _ (List.mem_of_getElem? (i := 132) rfl), rfl⟩
def ws_TT_isOn : List Cond := Cond.code y_TT_isOn b_TT_isOn 1 (some .boolean) :: lw_g
abbrev b_TT_reset : ByteArray := prog_1_method_10_code
def y_TT_reset : MethodName := ⟨R_TT, "reset", "()V"⟩
theorem co_TT_reset : Cond.code y_TT_reset b_TT_reset 1 none ∈ lw_g := List.mem_filter.mpr ⟨List.mem_append_right _ (List.mem_of_getElem? (i := 136) rfl), rfl⟩
def ws_TT_reset : List Cond := Cond.code y_TT_reset b_TT_reset 1 none :: lw_g
abbrev b_TT_tick : ByteArray := prog_1_method_11_code
def y_TT_tick : MethodName := ⟨R_TT, "tick", "()I"⟩
theorem co_TT_tick : Cond.code y_TT_tick b_TT_tick 1 (some .int) ∈ lw_g := List.mem_filter.mpr ⟨List.mem_append_right _ (List.mem_of_getElem? (i := 140) rfl), rfl⟩
def ws_TT_tick : List Cond := Cond.code y_TT_tick b_TT_tick 1 (some .int) :: lw_g
abbrev b_TT_leave : ByteArray := prog_1_method_12_code
def y_TT_leave : MethodName := ⟨R_TT, "leave", "()I"⟩
theorem co_TT_leave : Cond.code y_TT_leave b_TT_leave 1 (some .int) ∈ lw_g := List.mem_filter.mpr ⟨List.mem_append_right _ (List.mem_of_getElem? (i := 144) rfl), rfl⟩
def ws_TT_leave : List Cond := Cond.code y_TT_leave b_TT_leave 1 (some .int) :: lw_g
abbrev b_TT_dropFirst : ByteArray := prog_1_method_27_code
def y_TT_dropFirst : MethodName := ⟨R_TT, "dropFirst", "()V"⟩
theorem co_TT_dropFirst : Cond.code y_TT_dropFirst b_TT_dropFirst 2 none ∈ lw_g := List.mem_filter.mpr ⟨List.mem_append_right _ (List.mem_of_getElem? (i := 148) rfl), rfl⟩
def ws_TT_dropFirst : List Cond := Cond.code y_TT_dropFirst b_TT_dropFirst 2 none :: lw_g
abbrev b_TT_left : ByteArray := prog_1_method_13_code
def y_TT_left : MethodName := ⟨R_TT, "left", "(I)I"⟩
theorem co_TT_left : Cond.code y_TT_left b_TT_left 2 (some .int) ∈ lw_g := List.mem_filter.mpr ⟨List.mem_append_right _ (List.mem_of_getElem? (i := 152) rfl), rfl⟩
def ws_TT_left : List Cond := Cond.code y_TT_left b_TT_left 2 (some .int) :: lw_g
abbrev b_TT_byteOf : ByteArray := prog_1_method_28_code
def y_TT_byteOf : MethodName := ⟨R_TT, "byteOf", "(III)I"⟩
theorem co_TT_byteOf : Cond.code y_TT_byteOf b_TT_byteOf 4 (some .int) ∈ lw_g := List.mem_filter.mpr ⟨List.mem_append_right _ (List.mem_of_getElem? (i := 156) rfl), rfl⟩
def ws_TT_byteOf : List Cond := Cond.code y_TT_byteOf b_TT_byteOf 4 (some .int) :: lw_g
abbrev b_TT_count : ByteArray := prog_1_method_14_code
def y_TT_count : MethodName := ⟨R_TT, "count", "(I)I"⟩
theorem co_TT_count : Cond.code y_TT_count b_TT_count 2 (some .int) ∈ lw_g := List.mem_filter.mpr ⟨List.mem_append_right _ (List.mem_of_getElem? (i := 160) rfl), rfl⟩
def ws_TT_count : List Cond := Cond.code y_TT_count b_TT_count 2 (some .int) :: lw_g
abbrev b_TT_about : ByteArray := prog_1_method_15_code
def y_TT_about : MethodName := ⟨R_TT, "about", "(II)I"⟩
theorem co_TT_about : Cond.code y_TT_about b_TT_about 3 (some .int) ∈ lw_g := List.mem_filter.mpr ⟨List.mem_append_right _ (List.mem_of_getElem? (i := 164) rfl), rfl⟩
def ws_TT_about : List Cond := Cond.code y_TT_about b_TT_about 3 (some .int) :: lw_g
abbrev b_TT_isWaiting : ByteArray := prog_1_method_22_code
def y_TT_isWaiting : MethodName := ⟨R_TT, "isWaiting", "(I)Z"⟩
theorem co_TT_isWaiting : Cond.code y_TT_isWaiting b_TT_isWaiting 2 (some .boolean) ∈ lw_g := List.mem_filter.mpr ⟨List.mem_append_right _ (List.mem_of_getElem? (i := 168) rfl), rfl⟩
def ws_TT_isWaiting : List Cond := Cond.code y_TT_isWaiting b_TT_isWaiting 2 (some .boolean) :: lw_g
abbrev b_TT_byteAt : ByteArray := prog_1_method_16_code
def y_TT_byteAt : MethodName := ⟨R_TT, "byteAt", "(II)I"⟩
theorem co_TT_byteAt : Cond.code y_TT_byteAt b_TT_byteAt 3 (some .int) ∈ lw_g := List.mem_filter.mpr ⟨List.mem_append_right _ (List.mem_of_getElem? (i := 172) rfl), rfl⟩
def ws_TT_byteAt : List Cond := Cond.code y_TT_byteAt b_TT_byteAt 3 (some .int) :: lw_g
abbrev b_law_cell : ByteArray := method_2_code
def y_law_cell : MethodName := ⟨R_law, "cell", "([II)I"⟩
theorem co_law_cell : Cond.code y_law_cell b_law_cell 2 (some .int) ∈ lw_g := List.mem_filter.mpr ⟨List.mem_append_right _ (List.mem_of_getElem? (i := 175) rfl), rfl⟩
def ws_law_cell : List Cond := Cond.code y_law_cell b_law_cell 2 (some .int) :: lw_g
abbrev b_TM_init : ByteArray := prog_3_method_1_code
def y_TM_init : MethodName := ⟨R_TM, "<init>", "(I)V"⟩
theorem co_TM_init : Cond.code y_TM_init b_TM_init 2 none ∈ lw_g := List.mem_filter.mpr ⟨List.mem_append_right _ (List.mem_of_getElem? (i := 180) rfl), rfl⟩
def ws_TM_init : List Cond := Cond.code y_TM_init b_TM_init 2 none :: lw_g
abbrev b_TM_put : ByteArray := prog_3_method_6_code
def y_TM_put : MethodName := ⟨R_TM, "put", "(I)I"⟩
theorem co_TM_put : Cond.code y_TM_put b_TM_put 2 (some .int) ∈ lw_g := List.mem_filter.mpr ⟨List.mem_append_right _ (List.mem_of_getElem? (i := 236) rfl), rfl⟩
def ws_TM_put : List Cond := Cond.code y_TM_put b_TM_put 2 (some .int) :: lw_g
abbrev b_TM_insert : ByteArray := prog_3_method_7_code
def y_TM_insert : MethodName := ⟨R_TM, "insert", "(II)I"⟩
theorem co_TM_insert : Cond.code y_TM_insert b_TM_insert 6 (some .int) ∈ lw_g := List.mem_filter.mpr ⟨List.mem_append_right _ (List.mem_of_getElem? (i := 240) rfl), rfl⟩
def ws_TM_insert : List Cond := Cond.code y_TM_insert b_TM_insert 6 (some .int) :: lw_g
abbrev b_TM_remove : ByteArray := prog_3_method_8_code
def y_TM_remove : MethodName := ⟨R_TM, "remove", "(I)I"⟩
theorem co_TM_remove : Cond.code y_TM_remove b_TM_remove 4 (some .int) ∈ lw_g := List.mem_filter.mpr ⟨List.mem_append_right _ (List.mem_of_getElem? (i := 244) rfl), rfl⟩
def ws_TM_remove : List Cond := Cond.code y_TM_remove b_TM_remove 4 (some .int) :: lw_g
abbrev b_TM_drop : ByteArray := prog_3_method_4_code
def y_TM_drop : MethodName := ⟨R_TM, "drop", "(I)V"⟩
theorem co_TM_drop : Cond.code y_TM_drop b_TM_drop 3 none ∈ lw_g := List.mem_filter.mpr ⟨List.mem_append_right _ (List.mem_of_getElem? (i := 248) rfl), rfl⟩
def ws_TM_drop : List Cond := Cond.code y_TM_drop b_TM_drop 3 none :: lw_g
abbrev b_TM_removeSpan : ByteArray := prog_3_method_9_code
def y_TM_removeSpan : MethodName := ⟨R_TM, "removeSpan", "(II)I"⟩
theorem co_TM_removeSpan : Cond.code y_TM_removeSpan b_TM_removeSpan 5 (some .int) ∈ lw_g := List.mem_filter.mpr ⟨List.mem_append_right _ (List.mem_of_getElem? (i := 252) rfl), rfl⟩
def ws_TM_removeSpan : List Cond := Cond.code y_TM_removeSpan b_TM_removeSpan 5 (some .int) :: lw_g
abbrev b_TM_in : ByteArray := prog_3_method_5_code
def y_TM_in : MethodName := ⟨R_TM, "in", "(III)Z"⟩
theorem co_TM_in : Cond.code y_TM_in b_TM_in 4 (some .boolean) ∈ lw_g := List.mem_filter.mpr ⟨List.mem_append_right _ (List.mem_of_getElem? (i := 256) rfl), rfl⟩
def ws_TM_in : List Cond := Cond.code y_TM_in b_TM_in 4 (some .boolean) :: lw_g
abbrev b_TM_shift : ByteArray := prog_3_method_11_code
def y_TM_shift : MethodName := ⟨R_TM, "shift", "(I)I"⟩
theorem co_TM_shift : Cond.code y_TM_shift b_TM_shift 2 (some .int) ∈ lw_g := List.mem_filter.mpr ⟨List.mem_append_right _ (List.mem_of_getElem? (i := 260) rfl), rfl⟩
def ws_TM_shift : List Cond := Cond.code y_TM_shift b_TM_shift 2 (some .int) :: lw_g
abbrev b_TM_move : ByteArray := prog_3_method_10_code
def y_TM_move : MethodName := ⟨R_TM, "move", "(III)I"⟩
theorem co_TM_move : Cond.code y_TM_move b_TM_move 8 (some .int) ∈ lw_g := List.mem_filter.mpr ⟨List.mem_append_right _ (List.mem_of_getElem? (i := 266) rfl), rfl⟩
def ws_TM_move : List Cond := Cond.code y_TM_move b_TM_move 8 (some .int) :: lw_g
abbrev b_TM_shiftSpan : ByteArray := prog_3_method_12_code
def y_TM_shiftSpan : MethodName := ⟨R_TM, "shiftSpan", "(III)I"⟩
theorem co_TM_shiftSpan : Cond.code y_TM_shiftSpan b_TM_shiftSpan 4 (some .int) ∈ lw_g := List.mem_filter.mpr ⟨List.mem_append_right _ (List.mem_of_getElem? (i := 271) rfl), rfl⟩
def ws_TM_shiftSpan : List Cond := Cond.code y_TM_shiftSpan b_TM_shiftSpan 4 (some .int) :: lw_g
abbrev b_TM_enable : ByteArray := prog_3_method_13_code
def y_TM_enable : MethodName := ⟨R_TM, "enable", "(Z)V"⟩
theorem co_TM_enable : Cond.code y_TM_enable b_TM_enable 2 none ∈ lw_g := List.mem_filter.mpr ⟨List.mem_append_right _ (List.mem_of_getElem? (i := 275) rfl), rfl⟩
def ws_TM_enable : List Cond := Cond.code y_TM_enable b_TM_enable 2 none :: lw_g
abbrev b_TM_isOn : ByteArray := prog_3_method_14_code
def y_TM_isOn : MethodName := ⟨R_TM, "isOn", "()Z"⟩
theorem co_TM_isOn : Cond.code y_TM_isOn b_TM_isOn 1 (some .boolean) ∈ lw_g := List.mem_filter.mpr ⟨List.mem_append_right _ (List.mem_of_getElem? (i := 279) rfl), rfl⟩
def ws_TM_isOn : List Cond := Cond.code y_TM_isOn b_TM_isOn 1 (some .boolean) :: lw_g
abbrev b_TM_reset : ByteArray := prog_3_method_15_code
def y_TM_reset : MethodName := ⟨R_TM, "reset", "()V"⟩
theorem co_TM_reset : Cond.code y_TM_reset b_TM_reset 1 none ∈ lw_g := List.mem_filter.mpr ⟨List.mem_append_right _ (List.mem_of_getElem? (i := 283) rfl), rfl⟩
def ws_TM_reset : List Cond := Cond.code y_TM_reset b_TM_reset 1 none :: lw_g
abbrev b_TM_tick : ByteArray := prog_3_method_16_code
def y_TM_tick : MethodName := ⟨R_TM, "tick", "()I"⟩
theorem co_TM_tick : Cond.code y_TM_tick b_TM_tick 1 (some .int) ∈ lw_g := List.mem_filter.mpr ⟨List.mem_append_right _ (List.mem_of_getElem? (i := 287) rfl), rfl⟩
def ws_TM_tick : List Cond := Cond.code y_TM_tick b_TM_tick 1 (some .int) :: lw_g
abbrev b_TM_leave : ByteArray := prog_3_method_17_code
def y_TM_leave : MethodName := ⟨R_TM, "leave", "()I"⟩
theorem co_TM_leave : Cond.code y_TM_leave b_TM_leave 3 (some .int) ∈ lw_g := List.mem_filter.mpr ⟨List.mem_append_right _ (List.mem_of_getElem? (i := 291) rfl), rfl⟩
def ws_TM_leave : List Cond := Cond.code y_TM_leave b_TM_leave 3 (some .int) :: lw_g
abbrev b_TM_place : ByteArray := prog_3_method_3_code
def y_TM_place : MethodName := ⟨R_TM, "place", "(I)I"⟩
theorem co_TM_place : Cond.code y_TM_place b_TM_place 6 (some .int) ∈ lw_g := List.mem_filter.mpr ⟨List.mem_append_right _ (List.mem_of_getElem? (i := 295) rfl), rfl⟩
def ws_TM_place : List Cond := Cond.code y_TM_place b_TM_place 6 (some .int) :: lw_g
abbrev b_TM_left : ByteArray := prog_3_method_18_code
def y_TM_left : MethodName := ⟨R_TM, "left", "(I)I"⟩
theorem co_TM_left : Cond.code y_TM_left b_TM_left 2 (some .int) ∈ lw_g := List.mem_filter.mpr ⟨List.mem_append_right _ (List.mem_of_getElem? (i := 299) rfl), rfl⟩
def ws_TM_left : List Cond := Cond.code y_TM_left b_TM_left 2 (some .int) :: lw_g
abbrev b_TM_count : ByteArray := prog_3_method_19_code
def y_TM_count : MethodName := ⟨R_TM, "count", "(I)I"⟩
theorem co_TM_count : Cond.code y_TM_count b_TM_count 2 (some .int) ∈ lw_g := List.mem_filter.mpr ⟨List.mem_append_right _ (List.mem_of_getElem? (i := 303) rfl), rfl⟩
def ws_TM_count : List Cond := Cond.code y_TM_count b_TM_count 2 (some .int) :: lw_g
abbrev b_TM_about : ByteArray := prog_3_method_20_code
def y_TM_about : MethodName := ⟨R_TM, "about", "(II)I"⟩
theorem co_TM_about : Cond.code y_TM_about b_TM_about 4 (some .int) ∈ lw_g := List.mem_filter.mpr ⟨List.mem_append_right _ (List.mem_of_getElem? (i := 307) rfl), rfl⟩
def ws_TM_about : List Cond := Cond.code y_TM_about b_TM_about 4 (some .int) :: lw_g
abbrev b_TM_byteAt : ByteArray := prog_3_method_21_code
def y_TM_byteAt : MethodName := ⟨R_TM, "byteAt", "(II)I"⟩
theorem co_TM_byteAt : Cond.code y_TM_byteAt b_TM_byteAt 4 (some .int) ∈ lw_g := List.mem_filter.mpr ⟨List.mem_append_right _ (List.mem_of_getElem? (i := 311) rfl), rfl⟩
def ws_TM_byteAt : List Cond := Cond.code y_TM_byteAt b_TM_byteAt 4 (some .int) :: lw_g
theorem im_TT_init : Cond.instanceMethod y_TT_init ∈ lw_g := List.mem_filter.mpr ⟨List.mem_append_right _ (List.mem_of_getElem? (i := 7) (by decide +kernel)), rfl⟩
theorem im_TT_put : Cond.instanceMethod y_TT_put ∈ lw_g := List.mem_filter.mpr ⟨List.mem_append_right _ (List.mem_of_getElem? (i := 64) (by decide +kernel)), rfl⟩
theorem im_TT_insert : Cond.instanceMethod y_TT_insert ∈ lw_g := List.mem_filter.mpr ⟨List.mem_append_right _ (List.mem_of_getElem? (i := 68) (by decide +kernel)), rfl⟩
theorem im_TT_whetherInserted : Cond.instanceMethod y_TT_whetherInserted ∈ lw_g := List.mem_filter.mpr ⟨List.mem_append_right _ (List.mem_of_getElem? (i := 73) (by decide +kernel)), rfl⟩
theorem im_TT_addEntry : Cond.instanceMethod y_TT_addEntry ∈ lw_g := List.mem_filter.mpr ⟨List.mem_append_right _ (List.mem_of_getElem? (i := 77) (by decide +kernel)), rfl⟩
theorem im_TT_settle : Cond.instanceMethod y_TT_settle ∈ lw_g := List.mem_filter.mpr ⟨List.mem_append_right _ (List.mem_of_getElem? (i := 81) (by decide +kernel)), rfl⟩
theorem im_TT_isBefore : Cond.instanceMethod y_TT_isBefore ∈ lw_g := List.mem_filter.mpr ⟨List.mem_append_right _ (List.mem_of_getElem? (i := 85) (by decide +kernel)), rfl⟩
theorem im_TT_swap : Cond.instanceMethod y_TT_swap ∈ lw_g := List.mem_filter.mpr ⟨List.mem_append_right _ (List.mem_of_getElem? (i := 89) (by decide +kernel)), rfl⟩
theorem im_TT_remove : Cond.instanceMethod y_TT_remove ∈ lw_g := List.mem_filter.mpr ⟨List.mem_append_right _ (List.mem_of_getElem? (i := 92) (by decide +kernel)), rfl⟩
theorem im_TT_keepFirst : Cond.instanceMethod y_TT_keepFirst ∈ lw_g := List.mem_filter.mpr ⟨List.mem_append_right _ (List.mem_of_getElem? (i := 97) (by decide +kernel)), rfl⟩
theorem im_TT_removeSpan : Cond.instanceMethod y_TT_removeSpan ∈ lw_g := List.mem_filter.mpr ⟨List.mem_append_right _ (List.mem_of_getElem? (i := 100) (by decide +kernel)), rfl⟩
theorem im_TT_isInSpan : Cond.instanceMethod y_TT_isInSpan ∈ lw_g := List.mem_filter.mpr ⟨List.mem_append_right _ (List.mem_of_getElem? (i := 105) (by decide +kernel)), rfl⟩
theorem im_TT_shift : Cond.instanceMethod y_TT_shift ∈ lw_g := List.mem_filter.mpr ⟨List.mem_append_right _ (List.mem_of_getElem? (i := 108) (by decide +kernel)), rfl⟩
theorem im_TT_moveTimes : Cond.instanceMethod y_TT_moveTimes ∈ lw_g := List.mem_filter.mpr ⟨List.mem_append_right _ (List.mem_of_getElem? (i := 114) (by decide +kernel)), rfl⟩
theorem im_TT_canMove : Cond.instanceMethod y_TT_canMove ∈ lw_g := List.mem_filter.mpr ⟨List.mem_append_right _ (List.mem_of_getElem? (i := 118) (by decide +kernel)), rfl⟩
theorem im_TT_shiftSpan : Cond.instanceMethod y_TT_shiftSpan ∈ lw_g := List.mem_filter.mpr ⟨List.mem_append_right _ (List.mem_of_getElem? (i := 122) (by decide +kernel)), rfl⟩
theorem im_TT_enable : Cond.instanceMethod y_TT_enable ∈ lw_g := List.mem_filter.mpr ⟨List.mem_append_right _ (List.mem_of_getElem? (i := 126) (by decide +kernel)), rfl⟩
theorem im_TT_isOn : Cond.instanceMethod y_TT_isOn ∈ lw_g := List.mem_filter.mpr ⟨List.mem_append_right _ (List.mem_of_getElem? (i := 130) (by decide +kernel)), rfl⟩
theorem im_TT_reset : Cond.instanceMethod y_TT_reset ∈ lw_g := List.mem_filter.mpr ⟨List.mem_append_right _ (List.mem_of_getElem? (i := 134) (by decide +kernel)), rfl⟩
theorem im_TT_tick : Cond.instanceMethod y_TT_tick ∈ lw_g := List.mem_filter.mpr ⟨List.mem_append_right _ (List.mem_of_getElem? (i := 138) (by decide +kernel)), rfl⟩
theorem im_TT_leave : Cond.instanceMethod y_TT_leave ∈ lw_g := List.mem_filter.mpr ⟨List.mem_append_right _ (List.mem_of_getElem? (i := 142) (by decide +kernel)), rfl⟩
theorem im_TT_dropFirst : Cond.instanceMethod y_TT_dropFirst ∈ lw_g := List.mem_filter.mpr ⟨List.mem_append_right _ (List.mem_of_getElem? (i := 147) (by decide +kernel)), rfl⟩
theorem im_TT_left : Cond.instanceMethod y_TT_left ∈ lw_g := List.mem_filter.mpr ⟨List.mem_append_right _ (List.mem_of_getElem? (i := 150) (by decide +kernel)), rfl⟩
theorem im_TT_byteOf : Cond.instanceMethod y_TT_byteOf ∈ lw_g := List.mem_filter.mpr ⟨List.mem_append_right _ (List.mem_of_getElem? (i := 155) (by decide +kernel)), rfl⟩
theorem im_TT_count : Cond.instanceMethod y_TT_count ∈ lw_g := List.mem_filter.mpr ⟨List.mem_append_right _ (List.mem_of_getElem? (i := 158) (by decide +kernel)), rfl⟩
theorem im_TT_about : Cond.instanceMethod y_TT_about ∈ lw_g := List.mem_filter.mpr ⟨List.mem_append_right _ (List.mem_of_getElem? (i := 162) (by decide +kernel)), rfl⟩
theorem im_TT_isWaiting : Cond.instanceMethod y_TT_isWaiting ∈ lw_g := List.mem_filter.mpr ⟨List.mem_append_right _ (List.mem_of_getElem? (i := 167) (by decide +kernel)), rfl⟩
theorem im_TT_byteAt : Cond.instanceMethod y_TT_byteAt ∈ lw_g := List.mem_filter.mpr ⟨List.mem_append_right _ (List.mem_of_getElem? (i := 170) (by decide +kernel)), rfl⟩
theorem im_TM_init : Cond.instanceMethod y_TM_init ∈ lw_g := List.mem_filter.mpr ⟨List.mem_append_right _ (List.mem_of_getElem? (i := 179) (by decide +kernel)), rfl⟩
theorem im_TM_put : Cond.instanceMethod y_TM_put ∈ lw_g := List.mem_filter.mpr ⟨List.mem_append_right _ (List.mem_of_getElem? (i := 234) (by decide +kernel)), rfl⟩
theorem im_TM_insert : Cond.instanceMethod y_TM_insert ∈ lw_g := List.mem_filter.mpr ⟨List.mem_append_right _ (List.mem_of_getElem? (i := 238) (by decide +kernel)), rfl⟩
theorem im_TM_remove : Cond.instanceMethod y_TM_remove ∈ lw_g := List.mem_filter.mpr ⟨List.mem_append_right _ (List.mem_of_getElem? (i := 242) (by decide +kernel)), rfl⟩
theorem im_TM_drop : Cond.instanceMethod y_TM_drop ∈ lw_g := List.mem_filter.mpr ⟨List.mem_append_right _ (List.mem_of_getElem? (i := 247) (by decide +kernel)), rfl⟩
theorem im_TM_removeSpan : Cond.instanceMethod y_TM_removeSpan ∈ lw_g := List.mem_filter.mpr ⟨List.mem_append_right _ (List.mem_of_getElem? (i := 250) (by decide +kernel)), rfl⟩
theorem im_TM_in : Cond.instanceMethod y_TM_in ∈ lw_g := List.mem_filter.mpr ⟨List.mem_append_right _ (List.mem_of_getElem? (i := 255) (by decide +kernel)), rfl⟩
theorem im_TM_shift : Cond.instanceMethod y_TM_shift ∈ lw_g := List.mem_filter.mpr ⟨List.mem_append_right _ (List.mem_of_getElem? (i := 258) (by decide +kernel)), rfl⟩
theorem im_TM_move : Cond.instanceMethod y_TM_move ∈ lw_g := List.mem_filter.mpr ⟨List.mem_append_right _ (List.mem_of_getElem? (i := 265) (by decide +kernel)), rfl⟩
theorem im_TM_shiftSpan : Cond.instanceMethod y_TM_shiftSpan ∈ lw_g := List.mem_filter.mpr ⟨List.mem_append_right _ (List.mem_of_getElem? (i := 269) (by decide +kernel)), rfl⟩
theorem im_TM_enable : Cond.instanceMethod y_TM_enable ∈ lw_g := List.mem_filter.mpr ⟨List.mem_append_right _ (List.mem_of_getElem? (i := 273) (by decide +kernel)), rfl⟩
theorem im_TM_isOn : Cond.instanceMethod y_TM_isOn ∈ lw_g := List.mem_filter.mpr ⟨List.mem_append_right _ (List.mem_of_getElem? (i := 277) (by decide +kernel)), rfl⟩
theorem im_TM_reset : Cond.instanceMethod y_TM_reset ∈ lw_g := List.mem_filter.mpr ⟨List.mem_append_right _ (List.mem_of_getElem? (i := 281) (by decide +kernel)), rfl⟩
theorem im_TM_tick : Cond.instanceMethod y_TM_tick ∈ lw_g := List.mem_filter.mpr ⟨List.mem_append_right _ (List.mem_of_getElem? (i := 285) (by decide +kernel)), rfl⟩
theorem im_TM_leave : Cond.instanceMethod y_TM_leave ∈ lw_g := List.mem_filter.mpr ⟨List.mem_append_right _ (List.mem_of_getElem? (i := 289) (by decide +kernel)), rfl⟩
theorem im_TM_place : Cond.instanceMethod y_TM_place ∈ lw_g := List.mem_filter.mpr ⟨List.mem_append_right _ (List.mem_of_getElem? (i := 294) (by decide +kernel)), rfl⟩
theorem im_TM_left : Cond.instanceMethod y_TM_left ∈ lw_g := List.mem_filter.mpr ⟨List.mem_append_right _ (List.mem_of_getElem? (i := 297) (by decide +kernel)), rfl⟩
theorem im_TM_count : Cond.instanceMethod y_TM_count ∈ lw_g := List.mem_filter.mpr ⟨List.mem_append_right _ (List.mem_of_getElem? (i := 301) (by decide +kernel)), rfl⟩
theorem im_TM_about : Cond.instanceMethod y_TM_about ∈ lw_g := List.mem_filter.mpr ⟨List.mem_append_right _ (List.mem_of_getElem? (i := 305) (by decide +kernel)), rfl⟩
theorem im_TM_byteAt : Cond.instanceMethod y_TM_byteAt ∈ lw_g := List.mem_filter.mpr ⟨List.mem_append_right _ (List.mem_of_getElem? (i := 309) (by decide +kernel)), rfl⟩
theorem st_law_cell : Cond.static y_law_cell ∈ lw_g := List.mem_filter.mpr ⟨List.mem_append_right _ (List.mem_of_getElem? (i := 174) (by decide +kernel)), rfl⟩
theorem se_TT_put : Cond.selects R_TT y_TT_put y_TT_put ∈ lw_g := List.mem_filter.mpr ⟨List.mem_append_right _ (List.mem_of_getElem? (i := 65) (by decide +kernel)), rfl⟩
theorem se_TT_insert : Cond.selects R_TT y_TT_insert y_TT_insert ∈ lw_g := List.mem_filter.mpr ⟨List.mem_append_right _ (List.mem_of_getElem? (i := 69) (by decide +kernel)), rfl⟩
theorem se_TT_remove : Cond.selects R_TT y_TT_remove y_TT_remove ∈ lw_g := List.mem_filter.mpr ⟨List.mem_append_right _ (List.mem_of_getElem? (i := 93) (by decide +kernel)), rfl⟩
theorem se_TT_removeSpan : Cond.selects R_TT y_TT_removeSpan y_TT_removeSpan ∈ lw_g := List.mem_filter.mpr ⟨List.mem_append_right _ (List.mem_of_getElem? (i := 101) (by decide +kernel)), rfl⟩
theorem se_TT_shift : Cond.selects R_TT y_TT_shift y_TT_shift ∈ lw_g := List.mem_filter.mpr ⟨List.mem_append_right _ (List.mem_of_getElem? (i := 109) (by decide +kernel)), rfl⟩
theorem se_TT_shiftSpan : Cond.selects R_TT y_TT_shiftSpan y_TT_shiftSpan ∈ lw_g := List.mem_filter.mpr ⟨List.mem_append_right _ (List.mem_of_getElem? (i := 123) (by decide +kernel)), rfl⟩
theorem se_TT_enable : Cond.selects R_TT y_TT_enable y_TT_enable ∈ lw_g := List.mem_filter.mpr ⟨List.mem_append_right _ (List.mem_of_getElem? (i := 127) (by decide +kernel)), rfl⟩
theorem se_TT_isOn : Cond.selects R_TT y_TT_isOn y_TT_isOn ∈ lw_g := List.mem_filter.mpr ⟨List.mem_append_right _ (List.mem_of_getElem? (i := 131) (by decide +kernel)), rfl⟩
theorem se_TT_reset : Cond.selects R_TT y_TT_reset y_TT_reset ∈ lw_g := List.mem_filter.mpr ⟨List.mem_append_right _ (List.mem_of_getElem? (i := 135) (by decide +kernel)), rfl⟩
theorem se_TT_tick : Cond.selects R_TT y_TT_tick y_TT_tick ∈ lw_g := List.mem_filter.mpr ⟨List.mem_append_right _ (List.mem_of_getElem? (i := 139) (by decide +kernel)), rfl⟩
theorem se_TT_leave : Cond.selects R_TT y_TT_leave y_TT_leave ∈ lw_g := List.mem_filter.mpr ⟨List.mem_append_right _ (List.mem_of_getElem? (i := 143) (by decide +kernel)), rfl⟩
theorem se_TT_left : Cond.selects R_TT y_TT_left y_TT_left ∈ lw_g := List.mem_filter.mpr ⟨List.mem_append_right _ (List.mem_of_getElem? (i := 151) (by decide +kernel)), rfl⟩
theorem se_TT_count : Cond.selects R_TT y_TT_count y_TT_count ∈ lw_g := List.mem_filter.mpr ⟨List.mem_append_right _ (List.mem_of_getElem? (i := 159) (by decide +kernel)), rfl⟩
theorem se_TT_about : Cond.selects R_TT y_TT_about y_TT_about ∈ lw_g := List.mem_filter.mpr ⟨List.mem_append_right _ (List.mem_of_getElem? (i := 163) (by decide +kernel)), rfl⟩
theorem se_TT_byteAt : Cond.selects R_TT y_TT_byteAt y_TT_byteAt ∈ lw_g := List.mem_filter.mpr ⟨List.mem_append_right _ (List.mem_of_getElem? (i := 171) (by decide +kernel)), rfl⟩
theorem se_TM_put : Cond.selects R_TM y_TM_put y_TM_put ∈ lw_g := List.mem_filter.mpr ⟨List.mem_append_right _ (List.mem_of_getElem? (i := 235) (by decide +kernel)), rfl⟩
theorem se_TM_insert : Cond.selects R_TM y_TM_insert y_TM_insert ∈ lw_g := List.mem_filter.mpr ⟨List.mem_append_right _ (List.mem_of_getElem? (i := 239) (by decide +kernel)), rfl⟩
theorem se_TM_remove : Cond.selects R_TM y_TM_remove y_TM_remove ∈ lw_g := List.mem_filter.mpr ⟨List.mem_append_right _ (List.mem_of_getElem? (i := 243) (by decide +kernel)), rfl⟩
theorem se_TM_removeSpan : Cond.selects R_TM y_TM_removeSpan y_TM_removeSpan ∈ lw_g := List.mem_filter.mpr ⟨List.mem_append_right _ (List.mem_of_getElem? (i := 251) (by decide +kernel)), rfl⟩
theorem se_TM_shift : Cond.selects R_TM y_TM_shift y_TM_shift ∈ lw_g := List.mem_filter.mpr ⟨List.mem_append_right _ (List.mem_of_getElem? (i := 259) (by decide +kernel)), rfl⟩
theorem se_TM_shiftSpan : Cond.selects R_TM y_TM_shiftSpan y_TM_shiftSpan ∈ lw_g := List.mem_filter.mpr ⟨List.mem_append_right _ (List.mem_of_getElem? (i := 270) (by decide +kernel)), rfl⟩
theorem se_TM_enable : Cond.selects R_TM y_TM_enable y_TM_enable ∈ lw_g := List.mem_filter.mpr ⟨List.mem_append_right _ (List.mem_of_getElem? (i := 274) (by decide +kernel)), rfl⟩
theorem se_TM_isOn : Cond.selects R_TM y_TM_isOn y_TM_isOn ∈ lw_g := List.mem_filter.mpr ⟨List.mem_append_right _ (List.mem_of_getElem? (i := 278) (by decide +kernel)), rfl⟩
theorem se_TM_reset : Cond.selects R_TM y_TM_reset y_TM_reset ∈ lw_g := List.mem_filter.mpr ⟨List.mem_append_right _ (List.mem_of_getElem? (i := 282) (by decide +kernel)), rfl⟩
theorem se_TM_tick : Cond.selects R_TM y_TM_tick y_TM_tick ∈ lw_g := List.mem_filter.mpr ⟨List.mem_append_right _ (List.mem_of_getElem? (i := 286) (by decide +kernel)), rfl⟩
theorem se_TM_leave : Cond.selects R_TM y_TM_leave y_TM_leave ∈ lw_g := List.mem_filter.mpr ⟨List.mem_append_right _ (List.mem_of_getElem? (i := 290) (by decide +kernel)), rfl⟩
theorem se_TM_left : Cond.selects R_TM y_TM_left y_TM_left ∈ lw_g := List.mem_filter.mpr ⟨List.mem_append_right _ (List.mem_of_getElem? (i := 298) (by decide +kernel)), rfl⟩
theorem se_TM_count : Cond.selects R_TM y_TM_count y_TM_count ∈ lw_g := List.mem_filter.mpr ⟨List.mem_append_right _ (List.mem_of_getElem? (i := 302) (by decide +kernel)), rfl⟩
theorem se_TM_about : Cond.selects R_TM y_TM_about y_TM_about ∈ lw_g := List.mem_filter.mpr ⟨List.mem_append_right _ (List.mem_of_getElem? (i := 306) (by decide +kernel)), rfl⟩
theorem se_TM_byteAt : Cond.selects R_TM y_TM_byteAt y_TM_byteAt ∈ lw_g := List.mem_filter.mpr ⟨List.mem_append_right _ (List.mem_of_getElem? (i := 310) (by decide +kernel)), rfl⟩
theorem se_TT_whetherInserted : Cond.selects R_TT y_TT_whetherInserted y_TT_whetherInserted ∈ lw_g := List.mem_filter.mpr ⟨List.mem_append_left _ (List.mem_of_getElem? (i := 0) (by decide +kernel)), rfl⟩
theorem se_TT_addEntry : Cond.selects R_TT y_TT_addEntry y_TT_addEntry ∈ lw_g := List.mem_filter.mpr ⟨List.mem_append_left _ (List.mem_of_getElem? (i := 1) (by decide +kernel)), rfl⟩
theorem se_TT_settle : Cond.selects R_TT y_TT_settle y_TT_settle ∈ lw_g := List.mem_filter.mpr ⟨List.mem_append_left _ (List.mem_of_getElem? (i := 2) (by decide +kernel)), rfl⟩
theorem se_TT_isBefore : Cond.selects R_TT y_TT_isBefore y_TT_isBefore ∈ lw_g := List.mem_filter.mpr ⟨List.mem_append_left _ (List.mem_of_getElem? (i := 3) (by decide +kernel)), rfl⟩
theorem se_TT_swap : Cond.selects R_TT y_TT_swap y_TT_swap ∈ lw_g := List.mem_filter.mpr ⟨List.mem_append_left _ (List.mem_of_getElem? (i := 4) (by decide +kernel)), rfl⟩
theorem se_TT_keepFirst : Cond.selects R_TT y_TT_keepFirst y_TT_keepFirst ∈ lw_g := List.mem_filter.mpr ⟨List.mem_append_left _ (List.mem_of_getElem? (i := 5) (by decide +kernel)), rfl⟩
theorem se_TT_isInSpan : Cond.selects R_TT y_TT_isInSpan y_TT_isInSpan ∈ lw_g := List.mem_filter.mpr ⟨List.mem_append_left _ (List.mem_of_getElem? (i := 6) (by decide +kernel)), rfl⟩
theorem se_TT_moveTimes : Cond.selects R_TT y_TT_moveTimes y_TT_moveTimes ∈ lw_g := List.mem_filter.mpr ⟨List.mem_append_left _ (List.mem_of_getElem? (i := 7) (by decide +kernel)), rfl⟩
theorem se_TT_canMove : Cond.selects R_TT y_TT_canMove y_TT_canMove ∈ lw_g := List.mem_filter.mpr ⟨List.mem_append_left _ (List.mem_of_getElem? (i := 8) (by decide +kernel)), rfl⟩
theorem se_TT_dropFirst : Cond.selects R_TT y_TT_dropFirst y_TT_dropFirst ∈ lw_g := List.mem_filter.mpr ⟨List.mem_append_left _ (List.mem_of_getElem? (i := 9) (by decide +kernel)), rfl⟩
theorem se_TT_byteOf : Cond.selects R_TT y_TT_byteOf y_TT_byteOf ∈ lw_g := List.mem_filter.mpr ⟨List.mem_append_left _ (List.mem_of_getElem? (i := 10) (by decide +kernel)), rfl⟩
theorem se_TT_isWaiting : Cond.selects R_TT y_TT_isWaiting y_TT_isWaiting ∈ lw_g := List.mem_filter.mpr ⟨List.mem_append_left _ (List.mem_of_getElem? (i := 11) (by decide +kernel)), rfl⟩
theorem se_TM_drop : Cond.selects R_TM y_TM_drop y_TM_drop ∈ lw_g := List.mem_filter.mpr ⟨List.mem_append_left _ (List.mem_of_getElem? (i := 12) (by decide +kernel)), rfl⟩
theorem se_TM_in : Cond.selects R_TM y_TM_in y_TM_in ∈ lw_g := List.mem_filter.mpr ⟨List.mem_append_left _ (List.mem_of_getElem? (i := 13) (by decide +kernel)), rfl⟩
theorem se_TM_move : Cond.selects R_TM y_TM_move y_TM_move ∈ lw_g := List.mem_filter.mpr ⟨List.mem_append_left _ (List.mem_of_getElem? (i := 14) (by decide +kernel)), rfl⟩
theorem se_TM_place : Cond.selects R_TM y_TM_place y_TM_place ∈ lw_g := List.mem_filter.mpr ⟨List.mem_append_left _ (List.mem_of_getElem? (i := 15) (by decide +kernel)), rfl⟩
theorem ml_law_15 : Cond.methodLink R_law 15 y_TT_init ∈ lw_g := List.mem_filter.mpr ⟨List.mem_append_right _ (List.mem_of_getElem? (i := 6) (by decide +kernel)), rfl⟩
theorem mo_TT : Cond.methodLink R_TT 1 Lib.objectInit ∈ lw_g := List.mem_filter.mpr ⟨List.mem_append_right _ (List.mem_of_getElem? (i := 9) (by decide +kernel)), rfl⟩
theorem mm_min : Cond.methodLink R_TT 9 Lib.Math.min.name ∈ lw_g := List.mem_filter.mpr ⟨List.mem_append_right _ (List.mem_of_getElem? (i := 12) (by decide +kernel)), rfl⟩
theorem mm_max : Cond.methodLink R_TT 15 Lib.Math.max.name ∈ lw_g := List.mem_filter.mpr ⟨List.mem_append_right _ (List.mem_of_getElem? (i := 15) (by decide +kernel)), rfl⟩
theorem ml_law_21 : Cond.methodLink R_law 21 y_TT_put ∈ lw_g := List.mem_filter.mpr ⟨List.mem_append_right _ (List.mem_of_getElem? (i := 63) (by decide +kernel)), rfl⟩
theorem g_law_21 : GoodIn lw_g (wsV R_law 21 R_TT y_TT_put ws_TT_put) := gd ml_law_21 im_TT_put se_TT_put in_TT co_TT_put
theorem ml_law_26 : Cond.methodLink R_law 26 y_TT_insert ∈ lw_g := List.mem_filter.mpr ⟨List.mem_append_right _ (List.mem_of_getElem? (i := 67) (by decide +kernel)), rfl⟩
theorem g_law_26 : GoodIn lw_g (wsV R_law 26 R_TT y_TT_insert ws_TT_insert) := gd ml_law_26 im_TT_insert se_TT_insert in_TT co_TT_insert
theorem ml_TT_45 : Cond.methodLink R_TT 45 y_TT_whetherInserted ∈ lw_g := List.mem_filter.mpr ⟨List.mem_append_right _ (List.mem_of_getElem? (i := 71) (by decide +kernel)), rfl⟩
theorem g_TT_45 : GoodIn lw_g (wsV R_TT 45 R_TT y_TT_whetherInserted ws_TT_whetherInserted) := gd ml_TT_45 im_TT_whetherInserted se_TT_whetherInserted in_TT co_TT_whetherInserted
theorem ml_TT_49 : Cond.methodLink R_TT 49 y_TT_addEntry ∈ lw_g := List.mem_filter.mpr ⟨List.mem_append_right _ (List.mem_of_getElem? (i := 75) (by decide +kernel)), rfl⟩
theorem g_TT_49 : GoodIn lw_g (wsV R_TT 49 R_TT y_TT_addEntry ws_TT_addEntry) := gd ml_TT_49 im_TT_addEntry se_TT_addEntry in_TT co_TT_addEntry
theorem ml_TT_97 : Cond.methodLink R_TT 97 y_TT_settle ∈ lw_g := List.mem_filter.mpr ⟨List.mem_append_right _ (List.mem_of_getElem? (i := 79) (by decide +kernel)), rfl⟩
theorem g_TT_97 : GoodIn lw_g (wsV R_TT 97 R_TT y_TT_settle ws_TT_settle) := gd ml_TT_97 im_TT_settle se_TT_settle in_TT co_TT_settle
theorem ml_TT_107 : Cond.methodLink R_TT 107 y_TT_isBefore ∈ lw_g := List.mem_filter.mpr ⟨List.mem_append_right _ (List.mem_of_getElem? (i := 83) (by decide +kernel)), rfl⟩
theorem g_TT_107 : GoodIn lw_g (wsV R_TT 107 R_TT y_TT_isBefore ws_TT_isBefore) := gd ml_TT_107 im_TT_isBefore se_TT_isBefore in_TT co_TT_isBefore
theorem ml_TT_56 : Cond.methodLink R_TT 56 y_TT_swap ∈ lw_g := List.mem_filter.mpr ⟨List.mem_append_right _ (List.mem_of_getElem? (i := 87) (by decide +kernel)), rfl⟩
theorem g_TT_56 : GoodIn lw_g (wsV R_TT 56 R_TT y_TT_swap ws_TT_swap) := gd ml_TT_56 im_TT_swap se_TT_swap in_TT co_TT_swap
theorem ml_law_31 : Cond.methodLink R_law 31 y_TT_remove ∈ lw_g := List.mem_filter.mpr ⟨List.mem_append_right _ (List.mem_of_getElem? (i := 91) (by decide +kernel)), rfl⟩
theorem g_law_31 : GoodIn lw_g (wsV R_law 31 R_TT y_TT_remove ws_TT_remove) := gd ml_law_31 im_TT_remove se_TT_remove in_TT co_TT_remove
theorem ml_TT_59 : Cond.methodLink R_TT 59 y_TT_keepFirst ∈ lw_g := List.mem_filter.mpr ⟨List.mem_append_right _ (List.mem_of_getElem? (i := 95) (by decide +kernel)), rfl⟩
theorem g_TT_59 : GoodIn lw_g (wsV R_TT 59 R_TT y_TT_keepFirst ws_TT_keepFirst) := gd ml_TT_59 im_TT_keepFirst se_TT_keepFirst in_TT co_TT_keepFirst
theorem ml_law_35 : Cond.methodLink R_law 35 y_TT_removeSpan ∈ lw_g := List.mem_filter.mpr ⟨List.mem_append_right _ (List.mem_of_getElem? (i := 99) (by decide +kernel)), rfl⟩
theorem g_law_35 : GoodIn lw_g (wsV R_law 35 R_TT y_TT_removeSpan ws_TT_removeSpan) := gd ml_law_35 im_TT_removeSpan se_TT_removeSpan in_TT co_TT_removeSpan
theorem ml_TT_62 : Cond.methodLink R_TT 62 y_TT_isInSpan ∈ lw_g := List.mem_filter.mpr ⟨List.mem_append_right _ (List.mem_of_getElem? (i := 103) (by decide +kernel)), rfl⟩
theorem g_TT_62 : GoodIn lw_g (wsV R_TT 62 R_TT y_TT_isInSpan ws_TT_isInSpan) := gd ml_TT_62 im_TT_isInSpan se_TT_isInSpan in_TT co_TT_isInSpan
theorem ml_law_39 : Cond.methodLink R_law 39 y_TT_shift ∈ lw_g := List.mem_filter.mpr ⟨List.mem_append_right _ (List.mem_of_getElem? (i := 107) (by decide +kernel)), rfl⟩
theorem g_law_39 : GoodIn lw_g (wsV R_law 39 R_TT y_TT_shift ws_TT_shift) := gd ml_law_39 im_TT_shift se_TT_shift in_TT co_TT_shift
theorem ml_TT_67 : Cond.methodLink R_TT 67 y_TT_moveTimes ∈ lw_g := List.mem_filter.mpr ⟨List.mem_append_right _ (List.mem_of_getElem? (i := 112) (by decide +kernel)), rfl⟩
theorem g_TT_67 : GoodIn lw_g (wsV R_TT 67 R_TT y_TT_moveTimes ws_TT_moveTimes) := gd ml_TT_67 im_TT_moveTimes se_TT_moveTimes in_TT co_TT_moveTimes
theorem ml_TT_101 : Cond.methodLink R_TT 101 y_TT_canMove ∈ lw_g := List.mem_filter.mpr ⟨List.mem_append_right _ (List.mem_of_getElem? (i := 116) (by decide +kernel)), rfl⟩
theorem g_TT_101 : GoodIn lw_g (wsV R_TT 101 R_TT y_TT_canMove ws_TT_canMove) := gd ml_TT_101 im_TT_canMove se_TT_canMove in_TT co_TT_canMove
theorem ml_law_43 : Cond.methodLink R_law 43 y_TT_shiftSpan ∈ lw_g := List.mem_filter.mpr ⟨List.mem_append_right _ (List.mem_of_getElem? (i := 121) (by decide +kernel)), rfl⟩
theorem g_law_43 : GoodIn lw_g (wsV R_law 43 R_TT y_TT_shiftSpan ws_TT_shiftSpan) := gd ml_law_43 im_TT_shiftSpan se_TT_shiftSpan in_TT co_TT_shiftSpan
theorem ml_law_48 : Cond.methodLink R_law 48 y_TT_enable ∈ lw_g := List.mem_filter.mpr ⟨List.mem_append_right _ (List.mem_of_getElem? (i := 125) (by decide +kernel)), rfl⟩
theorem g_law_48 : GoodIn lw_g (wsV R_law 48 R_TT y_TT_enable ws_TT_enable) := gd ml_law_48 im_TT_enable se_TT_enable in_TT co_TT_enable
theorem ml_law_53 : Cond.methodLink R_law 53 y_TT_isOn ∈ lw_g := List.mem_filter.mpr ⟨List.mem_append_right _ (List.mem_of_getElem? (i := 129) (by decide +kernel)), rfl⟩
theorem g_law_53 : GoodIn lw_g (wsV R_law 53 R_TT y_TT_isOn ws_TT_isOn) := gd ml_law_53 im_TT_isOn se_TT_isOn in_TT co_TT_isOn
theorem ml_law_58 : Cond.methodLink R_law 58 y_TT_reset ∈ lw_g := List.mem_filter.mpr ⟨List.mem_append_right _ (List.mem_of_getElem? (i := 133) (by decide +kernel)), rfl⟩
theorem g_law_58 : GoodIn lw_g (wsV R_law 58 R_TT y_TT_reset ws_TT_reset) := gd ml_law_58 im_TT_reset se_TT_reset in_TT co_TT_reset
theorem ml_law_62 : Cond.methodLink R_law 62 y_TT_tick ∈ lw_g := List.mem_filter.mpr ⟨List.mem_append_right _ (List.mem_of_getElem? (i := 137) (by decide +kernel)), rfl⟩
theorem g_law_62 : GoodIn lw_g (wsV R_law 62 R_TT y_TT_tick ws_TT_tick) := gd ml_law_62 im_TT_tick se_TT_tick in_TT co_TT_tick
theorem ml_law_67 : Cond.methodLink R_law 67 y_TT_leave ∈ lw_g := List.mem_filter.mpr ⟨List.mem_append_right _ (List.mem_of_getElem? (i := 141) (by decide +kernel)), rfl⟩
theorem g_law_67 : GoodIn lw_g (wsV R_law 67 R_TT y_TT_leave ws_TT_leave) := gd ml_law_67 im_TT_leave se_TT_leave in_TT co_TT_leave
theorem ml_TT_84 : Cond.methodLink R_TT 84 y_TT_dropFirst ∈ lw_g := List.mem_filter.mpr ⟨List.mem_append_right _ (List.mem_of_getElem? (i := 145) (by decide +kernel)), rfl⟩
theorem g_TT_84 : GoodIn lw_g (wsV R_TT 84 R_TT y_TT_dropFirst ws_TT_dropFirst) := gd ml_TT_84 im_TT_dropFirst se_TT_dropFirst in_TT co_TT_dropFirst
theorem ml_law_71 : Cond.methodLink R_law 71 y_TT_left ∈ lw_g := List.mem_filter.mpr ⟨List.mem_append_right _ (List.mem_of_getElem? (i := 149) (by decide +kernel)), rfl⟩
theorem g_law_71 : GoodIn lw_g (wsV R_law 71 R_TT y_TT_left ws_TT_left) := gd ml_law_71 im_TT_left se_TT_left in_TT co_TT_left
theorem ml_TT_87 : Cond.methodLink R_TT 87 y_TT_byteOf ∈ lw_g := List.mem_filter.mpr ⟨List.mem_append_right _ (List.mem_of_getElem? (i := 153) (by decide +kernel)), rfl⟩
theorem g_TT_87 : GoodIn lw_g (wsV R_TT 87 R_TT y_TT_byteOf ws_TT_byteOf) := gd ml_TT_87 im_TT_byteOf se_TT_byteOf in_TT co_TT_byteOf
theorem ml_law_75 : Cond.methodLink R_law 75 y_TT_count ∈ lw_g := List.mem_filter.mpr ⟨List.mem_append_right _ (List.mem_of_getElem? (i := 157) (by decide +kernel)), rfl⟩
theorem g_law_75 : GoodIn lw_g (wsV R_law 75 R_TT y_TT_count ws_TT_count) := gd ml_law_75 im_TT_count se_TT_count in_TT co_TT_count
theorem ml_law_79 : Cond.methodLink R_law 79 y_TT_about ∈ lw_g := List.mem_filter.mpr ⟨List.mem_append_right _ (List.mem_of_getElem? (i := 161) (by decide +kernel)), rfl⟩
theorem g_law_79 : GoodIn lw_g (wsV R_law 79 R_TT y_TT_about ws_TT_about) := gd ml_law_79 im_TT_about se_TT_about in_TT co_TT_about
theorem ml_TT_93 : Cond.methodLink R_TT 93 y_TT_isWaiting ∈ lw_g := List.mem_filter.mpr ⟨List.mem_append_right _ (List.mem_of_getElem? (i := 165) (by decide +kernel)), rfl⟩
theorem g_TT_93 : GoodIn lw_g (wsV R_TT 93 R_TT y_TT_isWaiting ws_TT_isWaiting) := gd ml_TT_93 im_TT_isWaiting se_TT_isWaiting in_TT co_TT_isWaiting
theorem ml_law_83 : Cond.methodLink R_law 83 y_TT_byteAt ∈ lw_g := List.mem_filter.mpr ⟨List.mem_append_right _ (List.mem_of_getElem? (i := 169) (by decide +kernel)), rfl⟩
theorem g_law_83 : GoodIn lw_g (wsV R_law 83 R_TT y_TT_byteAt ws_TT_byteAt) := gd ml_law_83 im_TT_byteAt se_TT_byteAt in_TT co_TT_byteAt
theorem ml_law_9 : Cond.methodLink R_law 9 y_law_cell ∈ lw_g := List.mem_filter.mpr ⟨List.mem_append_right _ (List.mem_of_getElem? (i := 173) (by decide +kernel)), rfl⟩
theorem g_law_9 : GoodIn lw_g (wsS R_law 9 y_law_cell ws_law_cell) := gdS ml_law_9 st_law_cell in_law co_law_cell
theorem ml_law_20 : Cond.methodLink R_law 20 y_TM_init ∈ lw_g := List.mem_filter.mpr ⟨List.mem_append_right _ (List.mem_of_getElem? (i := 178) (by decide +kernel)), rfl⟩
theorem mo_TM : Cond.methodLink R_TM 1 Lib.objectInit ∈ lw_g := List.mem_filter.mpr ⟨List.mem_append_right _ (List.mem_of_getElem? (i := 181) (by decide +kernel)), rfl⟩
theorem ml_law_25 : Cond.methodLink R_law 25 y_TM_put ∈ lw_g := List.mem_filter.mpr ⟨List.mem_append_right _ (List.mem_of_getElem? (i := 233) (by decide +kernel)), rfl⟩
theorem g_law_25 : GoodIn lw_g (wsV R_law 25 R_TM y_TM_put ws_TM_put) := gd ml_law_25 im_TM_put se_TM_put in_TM co_TM_put
theorem ml_law_30 : Cond.methodLink R_law 30 y_TM_insert ∈ lw_g := List.mem_filter.mpr ⟨List.mem_append_right _ (List.mem_of_getElem? (i := 237) (by decide +kernel)), rfl⟩
theorem g_law_30 : GoodIn lw_g (wsV R_law 30 R_TM y_TM_insert ws_TM_insert) := gd ml_law_30 im_TM_insert se_TM_insert in_TM co_TM_insert
theorem ml_law_34 : Cond.methodLink R_law 34 y_TM_remove ∈ lw_g := List.mem_filter.mpr ⟨List.mem_append_right _ (List.mem_of_getElem? (i := 241) (by decide +kernel)), rfl⟩
theorem g_law_34 : GoodIn lw_g (wsV R_law 34 R_TM y_TM_remove ws_TM_remove) := gd ml_law_34 im_TM_remove se_TM_remove in_TM co_TM_remove
theorem ml_TM_56 : Cond.methodLink R_TM 56 y_TM_drop ∈ lw_g := List.mem_filter.mpr ⟨List.mem_append_right _ (List.mem_of_getElem? (i := 245) (by decide +kernel)), rfl⟩
theorem g_TM_56 : GoodIn lw_g (wsV R_TM 56 R_TM y_TM_drop ws_TM_drop) := gd ml_TM_56 im_TM_drop se_TM_drop in_TM co_TM_drop
theorem ml_law_38 : Cond.methodLink R_law 38 y_TM_removeSpan ∈ lw_g := List.mem_filter.mpr ⟨List.mem_append_right _ (List.mem_of_getElem? (i := 249) (by decide +kernel)), rfl⟩
theorem g_law_38 : GoodIn lw_g (wsV R_law 38 R_TM y_TM_removeSpan ws_TM_removeSpan) := gd ml_law_38 im_TM_removeSpan se_TM_removeSpan in_TM co_TM_removeSpan
theorem ml_TM_60 : Cond.methodLink R_TM 60 y_TM_in ∈ lw_g := List.mem_filter.mpr ⟨List.mem_append_right _ (List.mem_of_getElem? (i := 253) (by decide +kernel)), rfl⟩
theorem g_TM_60 : GoodIn lw_g (wsV R_TM 60 R_TM y_TM_in ws_TM_in) := gd ml_TM_60 im_TM_in se_TM_in in_TM co_TM_in
theorem ml_law_42 : Cond.methodLink R_law 42 y_TM_shift ∈ lw_g := List.mem_filter.mpr ⟨List.mem_append_right _ (List.mem_of_getElem? (i := 257) (by decide +kernel)), rfl⟩
theorem g_law_42 : GoodIn lw_g (wsV R_law 42 R_TM y_TM_shift ws_TM_shift) := gd ml_law_42 im_TM_shift se_TM_shift in_TM co_TM_shift
theorem ml_TM_68 : Cond.methodLink R_TM 68 y_TM_move ∈ lw_g := List.mem_filter.mpr ⟨List.mem_append_right _ (List.mem_of_getElem? (i := 263) (by decide +kernel)), rfl⟩
theorem g_TM_68 : GoodIn lw_g (wsV R_TM 68 R_TM y_TM_move ws_TM_move) := gd ml_TM_68 im_TM_move se_TM_move in_TM co_TM_move
theorem ml_law_47 : Cond.methodLink R_law 47 y_TM_shiftSpan ∈ lw_g := List.mem_filter.mpr ⟨List.mem_append_right _ (List.mem_of_getElem? (i := 268) (by decide +kernel)), rfl⟩
theorem g_law_47 : GoodIn lw_g (wsV R_law 47 R_TM y_TM_shiftSpan ws_TM_shiftSpan) := gd ml_law_47 im_TM_shiftSpan se_TM_shiftSpan in_TM co_TM_shiftSpan
theorem ml_law_52 : Cond.methodLink R_law 52 y_TM_enable ∈ lw_g := List.mem_filter.mpr ⟨List.mem_append_right _ (List.mem_of_getElem? (i := 272) (by decide +kernel)), rfl⟩
theorem g_law_52 : GoodIn lw_g (wsV R_law 52 R_TM y_TM_enable ws_TM_enable) := gd ml_law_52 im_TM_enable se_TM_enable in_TM co_TM_enable
theorem ml_law_57 : Cond.methodLink R_law 57 y_TM_isOn ∈ lw_g := List.mem_filter.mpr ⟨List.mem_append_right _ (List.mem_of_getElem? (i := 276) (by decide +kernel)), rfl⟩
theorem g_law_57 : GoodIn lw_g (wsV R_law 57 R_TM y_TM_isOn ws_TM_isOn) := gd ml_law_57 im_TM_isOn se_TM_isOn in_TM co_TM_isOn
theorem ml_law_61 : Cond.methodLink R_law 61 y_TM_reset ∈ lw_g := List.mem_filter.mpr ⟨List.mem_append_right _ (List.mem_of_getElem? (i := 280) (by decide +kernel)), rfl⟩
theorem g_law_61 : GoodIn lw_g (wsV R_law 61 R_TM y_TM_reset ws_TM_reset) := gd ml_law_61 im_TM_reset se_TM_reset in_TM co_TM_reset
theorem ml_law_66 : Cond.methodLink R_law 66 y_TM_tick ∈ lw_g := List.mem_filter.mpr ⟨List.mem_append_right _ (List.mem_of_getElem? (i := 284) (by decide +kernel)), rfl⟩
theorem g_law_66 : GoodIn lw_g (wsV R_law 66 R_TM y_TM_tick ws_TM_tick) := gd ml_law_66 im_TM_tick se_TM_tick in_TM co_TM_tick
theorem ml_law_70 : Cond.methodLink R_law 70 y_TM_leave ∈ lw_g := List.mem_filter.mpr ⟨List.mem_append_right _ (List.mem_of_getElem? (i := 288) (by decide +kernel)), rfl⟩
theorem g_law_70 : GoodIn lw_g (wsV R_law 70 R_TM y_TM_leave ws_TM_leave) := gd ml_law_70 im_TM_leave se_TM_leave in_TM co_TM_leave
theorem ml_TM_76 : Cond.methodLink R_TM 76 y_TM_place ∈ lw_g := List.mem_filter.mpr ⟨List.mem_append_right _ (List.mem_of_getElem? (i := 292) (by decide +kernel)), rfl⟩
theorem g_TM_76 : GoodIn lw_g (wsV R_TM 76 R_TM y_TM_place ws_TM_place) := gd ml_TM_76 im_TM_place se_TM_place in_TM co_TM_place
theorem ml_law_74 : Cond.methodLink R_law 74 y_TM_left ∈ lw_g := List.mem_filter.mpr ⟨List.mem_append_right _ (List.mem_of_getElem? (i := 296) (by decide +kernel)), rfl⟩
theorem g_law_74 : GoodIn lw_g (wsV R_law 74 R_TM y_TM_left ws_TM_left) := gd ml_law_74 im_TM_left se_TM_left in_TM co_TM_left
theorem ml_law_78 : Cond.methodLink R_law 78 y_TM_count ∈ lw_g := List.mem_filter.mpr ⟨List.mem_append_right _ (List.mem_of_getElem? (i := 300) (by decide +kernel)), rfl⟩
theorem g_law_78 : GoodIn lw_g (wsV R_law 78 R_TM y_TM_count ws_TM_count) := gd ml_law_78 im_TM_count se_TM_count in_TM co_TM_count
theorem ml_law_82 : Cond.methodLink R_law 82 y_TM_about ∈ lw_g := List.mem_filter.mpr ⟨List.mem_append_right _ (List.mem_of_getElem? (i := 304) (by decide +kernel)), rfl⟩
theorem g_law_82 : GoodIn lw_g (wsV R_law 82 R_TM y_TM_about ws_TM_about) := gd ml_law_82 im_TM_about se_TM_about in_TM co_TM_about
theorem ml_law_86 : Cond.methodLink R_law 86 y_TM_byteAt ∈ lw_g := List.mem_filter.mpr ⟨List.mem_append_right _ (List.mem_of_getElem? (i := 308) (by decide +kernel)), rfl⟩
theorem g_law_86 : GoodIn lw_g (wsV R_law 86 R_TM y_TM_byteAt ws_TM_byteAt) := gd ml_law_86 im_TM_byteAt se_TM_byteAt in_TM co_TM_byteAt
theorem im_Obj : Cond.instanceMethod Lib.objectInit ∈ lw_g := List.mem_filter.mpr ⟨List.mem_append_right _ (List.mem_of_getElem? (i := 10) (by decide +kernel)), rfl⟩
theorem st_min : Cond.static Lib.Math.min.name ∈ lw_g := List.mem_filter.mpr ⟨List.mem_append_right _ (List.mem_of_getElem? (i := 13) (by decide +kernel)), rfl⟩
theorem st_max : Cond.static Lib.Math.max.name ∈ lw_g := List.mem_filter.mpr ⟨List.mem_append_right _ (List.mem_of_getElem? (i := 16) (by decide +kernel)), rfl⟩
theorem co_Obj : Cond.code Lib.objectInit ⟨#[0xb1]⟩ 1 none ∈ lw_g := List.mem_filter.mpr ⟨List.mem_append_right _ (List.mem_of_getElem? (i := 11) rfl), rfl⟩
theorem co_min : Cond.code Lib.Math.min.name Lib.Math.min.code 2 (some .int) ∈ lw_g := List.mem_filter.mpr ⟨List.mem_append_right _ (List.mem_of_getElem? (i := 14) rfl), rfl⟩
theorem co_max : Cond.code Lib.Math.max.name Lib.Math.max.code 2 (some .int) ∈ lw_g := List.mem_filter.mpr ⟨List.mem_append_right _ (List.mem_of_getElem? (i := 17) rfl), rfl⟩
end
section
theorem d_TT_init_0 : decode b_TT_init 0 = .ok (.aload_n 0, 1) := by decide +kernel
theorem d_TT_init_1 : decode b_TT_init 1 = .ok (.invokespecial 1, 3) := by decide +kernel
theorem d_TT_init_4 : decode b_TT_init 4 = .ok (.iconst 1, 1) := by decide +kernel
theorem d_TT_init_5 : decode b_TT_init 5 = .ok (.iload_n 1, 1) := by decide +kernel
theorem d_TT_init_6 : decode b_TT_init 6 = .ok (.sipush 1024, 3) := by decide +kernel
theorem d_TT_init_9 : decode b_TT_init 9 = .ok (.invokestatic 9, 3) := by decide +kernel
theorem d_TT_init_12 : decode b_TT_init 12 = .ok (.invokestatic 15, 3) := by decide +kernel
theorem d_TT_init_15 : decode b_TT_init 15 = .ok (.istore_n 2, 1) := by decide +kernel
theorem d_TT_init_16 : decode b_TT_init 16 = .ok (.aload_n 0, 1) := by decide +kernel
theorem d_TT_init_17 : decode b_TT_init 17 = .ok (.sipush 512, 3) := by decide +kernel
theorem d_TT_init_20 : decode b_TT_init 20 = .ok (.newarray .byte, 2) := by decide +kernel
theorem d_TT_init_22 : decode b_TT_init 22 = .ok (.putfield 18, 3) := by decide +kernel
theorem d_TT_init_25 : decode b_TT_init 25 = .ok (.aload_n 0, 1) := by decide +kernel
theorem d_TT_init_26 : decode b_TT_init 26 = .ok (.iload_n 2, 1) := by decide +kernel
theorem d_TT_init_27 : decode b_TT_init 27 = .ok (.newarray .int, 2) := by decide +kernel
theorem d_TT_init_29 : decode b_TT_init 29 = .ok (.putfield 22, 3) := by decide +kernel
theorem d_TT_init_32 : decode b_TT_init 32 = .ok (.aload_n 0, 1) := by decide +kernel
theorem d_TT_init_33 : decode b_TT_init 33 = .ok (.iload_n 2, 1) := by decide +kernel
theorem d_TT_init_34 : decode b_TT_init 34 = .ok (.newarray .int, 2) := by decide +kernel
theorem d_TT_init_36 : decode b_TT_init 36 = .ok (.putfield 26, 3) := by decide +kernel
theorem d_TT_init_39 : decode b_TT_init 39 = .ok (.aload_n 0, 1) := by decide +kernel
theorem d_TT_init_40 : decode b_TT_init 40 = .ok (.iload_n 2, 1) := by decide +kernel
theorem d_TT_init_41 : decode b_TT_init 41 = .ok (.newarray .int, 2) := by decide +kernel
theorem d_TT_init_43 : decode b_TT_init 43 = .ok (.putfield 29, 3) := by decide +kernel
theorem d_TT_init_46 : decode b_TT_init 46 = .ok (.aload_n 0, 1) := by decide +kernel
theorem d_TT_init_47 : decode b_TT_init 47 = .ok (.iload_n 2, 1) := by decide +kernel
theorem d_TT_init_48 : decode b_TT_init 48 = .ok (.newarray .int, 2) := by decide +kernel
theorem d_TT_init_50 : decode b_TT_init 50 = .ok (.putfield 32, 3) := by decide +kernel
theorem d_TT_init_53 : decode b_TT_init 53 = .ok (.aload_n 0, 1) := by decide +kernel
theorem d_TT_init_54 : decode b_TT_init 54 = .ok (.iload_n 2, 1) := by decide +kernel
theorem d_TT_init_55 : decode b_TT_init 55 = .ok (.newarray .int, 2) := by decide +kernel
theorem d_TT_init_57 : decode b_TT_init 57 = .ok (.putfield 35, 3) := by decide +kernel
theorem d_TT_init_60 : decode b_TT_init 60 = .ok (.iconst 0, 1) := by decide +kernel
theorem d_TT_init_61 : decode b_TT_init 61 = .ok (.istore_n 3, 1) := by decide +kernel
theorem d_TT_init_62 : decode b_TT_init 62 = .ok (.iload_n 3, 1) := by decide +kernel
theorem d_TT_init_63 : decode b_TT_init 63 = .ok (.iload_n 2, 1) := by decide +kernel
theorem d_TT_init_64 : decode b_TT_init 64 = .ok (.if_icmp .ge 16, 3) := by decide +kernel
theorem d_TT_init_67 : decode b_TT_init 67 = .ok (.aload_n 0, 1) := by decide +kernel
theorem d_TT_init_68 : decode b_TT_init 68 = .ok (.getfield 22, 3) := by decide +kernel
theorem d_TT_init_71 : decode b_TT_init 71 = .ok (.iload_n 3, 1) := by decide +kernel
theorem d_TT_init_72 : decode b_TT_init 72 = .ok (.iload_n 3, 1) := by decide +kernel
theorem d_TT_init_73 : decode b_TT_init 73 = .ok (.iastore, 1) := by decide +kernel
theorem d_TT_init_74 : decode b_TT_init 74 = .ok (.iinc 3 1, 3) := by decide +kernel
theorem d_TT_init_77 : decode b_TT_init 77 = .ok (.goto (-15), 3) := by decide +kernel
theorem d_TT_init_80 : decode b_TT_init 80 = .ok (.return_, 1) := by decide +kernel
theorem d_TT_put_0 : decode b_TT_put 0 = .ok (.aload_n 0, 1) := by decide +kernel
theorem d_TT_put_1 : decode b_TT_put 1 = .ok (.getfield 38, 3) := by decide +kernel
theorem d_TT_put_4 : decode b_TT_put 4 = .ok (.aload_n 0, 1) := by decide +kernel
theorem d_TT_put_5 : decode b_TT_put 5 = .ok (.getfield 42, 3) := by decide +kernel
theorem d_TT_put_8 : decode b_TT_put 8 = .ok (.iadd, 1) := by decide +kernel
theorem d_TT_put_9 : decode b_TT_put 9 = .ok (.istore_n 2, 1) := by decide +kernel
theorem d_TT_put_10 : decode b_TT_put 10 = .ok (.aload_n 0, 1) := by decide +kernel
theorem d_TT_put_11 : decode b_TT_put 11 = .ok (.getfield 42, 3) := by decide +kernel
theorem d_TT_put_14 : decode b_TT_put 14 = .ok (.sipush 256, 3) := by decide +kernel
theorem d_TT_put_17 : decode b_TT_put 17 = .ok (.if_icmp .ge 12, 3) := by decide +kernel
theorem d_TT_put_20 : decode b_TT_put 20 = .ok (.iload_n 2, 1) := by decide +kernel
theorem d_TT_put_21 : decode b_TT_put 21 = .ok (.aload_n 0, 1) := by decide +kernel
theorem d_TT_put_22 : decode b_TT_put 22 = .ok (.getfield 18, 3) := by decide +kernel
theorem d_TT_put_25 : decode b_TT_put 25 = .ok (.arraylength, 1) := by decide +kernel
theorem d_TT_put_26 : decode b_TT_put 26 = .ok (.if_icmp .lt 5, 3) := by decide +kernel
theorem d_TT_put_29 : decode b_TT_put 29 = .ok (.iconst (-1), 1) := by decide +kernel
theorem d_TT_put_30 : decode b_TT_put 30 = .ok (.ireturn, 1) := by decide +kernel
theorem d_TT_put_31 : decode b_TT_put 31 = .ok (.aload_n 0, 1) := by decide +kernel
theorem d_TT_put_32 : decode b_TT_put 32 = .ok (.getfield 18, 3) := by decide +kernel
theorem d_TT_put_35 : decode b_TT_put 35 = .ok (.iload_n 2, 1) := by decide +kernel
theorem d_TT_put_36 : decode b_TT_put 36 = .ok (.iload_n 1, 1) := by decide +kernel
theorem d_TT_put_37 : decode b_TT_put 37 = .ok (.i2b, 1) := by decide +kernel
theorem d_TT_put_38 : decode b_TT_put 38 = .ok (.bastore, 1) := by decide +kernel
theorem d_TT_put_39 : decode b_TT_put 39 = .ok (.aload_n 0, 1) := by decide +kernel
theorem d_TT_put_40 : decode b_TT_put 40 = .ok (.dup, 1) := by decide +kernel
theorem d_TT_put_41 : decode b_TT_put 41 = .ok (.getfield 42, 3) := by decide +kernel
theorem d_TT_put_44 : decode b_TT_put 44 = .ok (.iconst 1, 1) := by decide +kernel
theorem d_TT_put_45 : decode b_TT_put 45 = .ok (.iadd, 1) := by decide +kernel
theorem d_TT_put_46 : decode b_TT_put 46 = .ok (.putfield 42, 3) := by decide +kernel
theorem d_TT_put_49 : decode b_TT_put 49 = .ok (.aload_n 0, 1) := by decide +kernel
theorem d_TT_put_50 : decode b_TT_put 50 = .ok (.getfield 42, 3) := by decide +kernel
theorem d_TT_put_53 : decode b_TT_put 53 = .ok (.ireturn, 1) := by decide +kernel
theorem d_TT_insert_0 : decode b_TT_insert 0 = .ok (.aload_n 0, 1) := by decide +kernel
theorem d_TT_insert_1 : decode b_TT_insert 1 = .ok (.iload_n 2, 1) := by decide +kernel
theorem d_TT_insert_2 : decode b_TT_insert 2 = .ok (.invokevirtual 45, 3) := by decide +kernel
theorem d_TT_insert_5 : decode b_TT_insert 5 = .ok (.istore_n 3, 1) := by decide +kernel
theorem d_TT_insert_6 : decode b_TT_insert 6 = .ok (.iload_n 3, 1) := by decide +kernel
theorem d_TT_insert_7 : decode b_TT_insert 7 = .ok (.ifCond .ne 9, 3) := by decide +kernel
theorem d_TT_insert_10 : decode b_TT_insert 10 = .ok (.aload_n 0, 1) := by decide +kernel
theorem d_TT_insert_11 : decode b_TT_insert 11 = .ok (.iload_n 1, 1) := by decide +kernel
theorem d_TT_insert_12 : decode b_TT_insert 12 = .ok (.iload_n 2, 1) := by decide +kernel
theorem d_TT_insert_13 : decode b_TT_insert 13 = .ok (.invokevirtual 49, 3) := by decide +kernel
theorem d_TT_insert_16 : decode b_TT_insert 16 = .ok (.aload_n 0, 1) := by decide +kernel
theorem d_TT_insert_17 : decode b_TT_insert 17 = .ok (.iconst 0, 1) := by decide +kernel
theorem d_TT_insert_18 : decode b_TT_insert 18 = .ok (.putfield 42, 3) := by decide +kernel
theorem d_TT_insert_21 : decode b_TT_insert 21 = .ok (.iload_n 3, 1) := by decide +kernel
theorem d_TT_insert_22 : decode b_TT_insert 22 = .ok (.ireturn, 1) := by decide +kernel
theorem d_TT_whetherInserted_0 : decode b_TT_whetherInserted 0 = .ok (.aload_n 0, 1) := by decide +kernel
theorem d_TT_whetherInserted_1 : decode b_TT_whetherInserted 1 = .ok (.getfield 42, 3) := by decide +kernel
theorem d_TT_whetherInserted_4 : decode b_TT_whetherInserted 4 = .ok (.ifCond .ne 5, 3) := by decide +kernel
theorem d_TT_whetherInserted_7 : decode b_TT_whetherInserted 7 = .ok (.iconst 1, 1) := by decide +kernel
theorem d_TT_whetherInserted_8 : decode b_TT_whetherInserted 8 = .ok (.ireturn, 1) := by decide +kernel
theorem d_TT_whetherInserted_9 : decode b_TT_whetherInserted 9 = .ok (.iload_n 1, 1) := by decide +kernel
theorem d_TT_whetherInserted_10 : decode b_TT_whetherInserted 10 = .ok (.aload_n 0, 1) := by decide +kernel
theorem d_TT_whetherInserted_11 : decode b_TT_whetherInserted 11 = .ok (.getfield 75, 3) := by decide +kernel
theorem d_TT_whetherInserted_14 : decode b_TT_whetherInserted 14 = .ok (.if_icmp .gt 5, 3) := by decide +kernel
theorem d_TT_whetherInserted_17 : decode b_TT_whetherInserted 17 = .ok (.iconst 2, 1) := by decide +kernel
theorem d_TT_whetherInserted_18 : decode b_TT_whetherInserted 18 = .ok (.ireturn, 1) := by decide +kernel
theorem d_TT_whetherInserted_19 : decode b_TT_whetherInserted 19 = .ok (.aload_n 0, 1) := by decide +kernel
theorem d_TT_whetherInserted_20 : decode b_TT_whetherInserted 20 = .ok (.getfield 53, 3) := by decide +kernel
theorem d_TT_whetherInserted_23 : decode b_TT_whetherInserted 23 = .ok (.aload_n 0, 1) := by decide +kernel
theorem d_TT_whetherInserted_24 : decode b_TT_whetherInserted 24 = .ok (.getfield 22, 3) := by decide +kernel
theorem d_TT_whetherInserted_27 : decode b_TT_whetherInserted 27 = .ok (.arraylength, 1) := by decide +kernel
theorem d_TT_whetherInserted_28 : decode b_TT_whetherInserted 28 = .ok (.if_icmp .lt 5, 3) := by decide +kernel
theorem d_TT_whetherInserted_31 : decode b_TT_whetherInserted 31 = .ok (.iconst 3, 1) := by decide +kernel
theorem d_TT_whetherInserted_32 : decode b_TT_whetherInserted 32 = .ok (.ireturn, 1) := by decide +kernel
theorem d_TT_whetherInserted_33 : decode b_TT_whetherInserted 33 = .ok (.iconst 0, 1) := by decide +kernel
theorem d_TT_whetherInserted_34 : decode b_TT_whetherInserted 34 = .ok (.ireturn, 1) := by decide +kernel
theorem d_TT_addEntry_0 : decode b_TT_addEntry 0 = .ok (.aload_n 0, 1) := by decide +kernel
theorem d_TT_addEntry_1 : decode b_TT_addEntry 1 = .ok (.getfield 22, 3) := by decide +kernel
theorem d_TT_addEntry_4 : decode b_TT_addEntry 4 = .ok (.aload_n 0, 1) := by decide +kernel
theorem d_TT_addEntry_5 : decode b_TT_addEntry 5 = .ok (.getfield 53, 3) := by decide +kernel
theorem d_TT_addEntry_8 : decode b_TT_addEntry 8 = .ok (.iaload, 1) := by decide +kernel
theorem d_TT_addEntry_9 : decode b_TT_addEntry 9 = .ok (.istore_n 3, 1) := by decide +kernel
theorem d_TT_addEntry_10 : decode b_TT_addEntry 10 = .ok (.aload_n 0, 1) := by decide +kernel
theorem d_TT_addEntry_11 : decode b_TT_addEntry 11 = .ok (.getfield 26, 3) := by decide +kernel
theorem d_TT_addEntry_14 : decode b_TT_addEntry 14 = .ok (.iload_n 3, 1) := by decide +kernel
theorem d_TT_addEntry_15 : decode b_TT_addEntry 15 = .ok (.iload_n 1, 1) := by decide +kernel
theorem d_TT_addEntry_16 : decode b_TT_addEntry 16 = .ok (.iastore, 1) := by decide +kernel
theorem d_TT_addEntry_17 : decode b_TT_addEntry 17 = .ok (.aload_n 0, 1) := by decide +kernel
theorem d_TT_addEntry_18 : decode b_TT_addEntry 18 = .ok (.getfield 29, 3) := by decide +kernel
theorem d_TT_addEntry_21 : decode b_TT_addEntry 21 = .ok (.iload_n 3, 1) := by decide +kernel
theorem d_TT_addEntry_22 : decode b_TT_addEntry 22 = .ok (.iload_n 2, 1) := by decide +kernel
theorem d_TT_addEntry_23 : decode b_TT_addEntry 23 = .ok (.iastore, 1) := by decide +kernel
theorem d_TT_addEntry_24 : decode b_TT_addEntry 24 = .ok (.aload_n 0, 1) := by decide +kernel
theorem d_TT_addEntry_25 : decode b_TT_addEntry 25 = .ok (.getfield 32, 3) := by decide +kernel
theorem d_TT_addEntry_28 : decode b_TT_addEntry 28 = .ok (.iload_n 3, 1) := by decide +kernel
theorem d_TT_addEntry_29 : decode b_TT_addEntry 29 = .ok (.aload_n 0, 1) := by decide +kernel
theorem d_TT_addEntry_30 : decode b_TT_addEntry 30 = .ok (.getfield 38, 3) := by decide +kernel
theorem d_TT_addEntry_33 : decode b_TT_addEntry 33 = .ok (.iastore, 1) := by decide +kernel
theorem d_TT_addEntry_34 : decode b_TT_addEntry 34 = .ok (.aload_n 0, 1) := by decide +kernel
theorem d_TT_addEntry_35 : decode b_TT_addEntry 35 = .ok (.getfield 35, 3) := by decide +kernel
theorem d_TT_addEntry_38 : decode b_TT_addEntry 38 = .ok (.iload_n 3, 1) := by decide +kernel
theorem d_TT_addEntry_39 : decode b_TT_addEntry 39 = .ok (.aload_n 0, 1) := by decide +kernel
theorem d_TT_addEntry_40 : decode b_TT_addEntry 40 = .ok (.getfield 42, 3) := by decide +kernel
theorem d_TT_addEntry_43 : decode b_TT_addEntry 43 = .ok (.iastore, 1) := by decide +kernel
theorem d_TT_addEntry_44 : decode b_TT_addEntry 44 = .ok (.aload_n 0, 1) := by decide +kernel
theorem d_TT_addEntry_45 : decode b_TT_addEntry 45 = .ok (.dup, 1) := by decide +kernel
theorem d_TT_addEntry_46 : decode b_TT_addEntry 46 = .ok (.getfield 38, 3) := by decide +kernel
theorem d_TT_addEntry_49 : decode b_TT_addEntry 49 = .ok (.aload_n 0, 1) := by decide +kernel
theorem d_TT_addEntry_50 : decode b_TT_addEntry 50 = .ok (.getfield 42, 3) := by decide +kernel
theorem d_TT_addEntry_53 : decode b_TT_addEntry 53 = .ok (.iadd, 1) := by decide +kernel
theorem d_TT_addEntry_54 : decode b_TT_addEntry 54 = .ok (.putfield 38, 3) := by decide +kernel
theorem d_TT_addEntry_57 : decode b_TT_addEntry 57 = .ok (.aload_n 0, 1) := by decide +kernel
theorem d_TT_addEntry_58 : decode b_TT_addEntry 58 = .ok (.dup, 1) := by decide +kernel
theorem d_TT_addEntry_59 : decode b_TT_addEntry 59 = .ok (.getfield 53, 3) := by decide +kernel
theorem d_TT_addEntry_62 : decode b_TT_addEntry 62 = .ok (.iconst 1, 1) := by decide +kernel
theorem d_TT_addEntry_63 : decode b_TT_addEntry 63 = .ok (.iadd, 1) := by decide +kernel
theorem d_TT_addEntry_64 : decode b_TT_addEntry 64 = .ok (.putfield 53, 3) := by decide +kernel
theorem d_TT_addEntry_67 : decode b_TT_addEntry 67 = .ok (.aload_n 0, 1) := by decide +kernel
theorem d_TT_addEntry_68 : decode b_TT_addEntry 68 = .ok (.dup, 1) := by decide +kernel
theorem d_TT_addEntry_69 : decode b_TT_addEntry 69 = .ok (.getfield 90, 3) := by decide +kernel
theorem d_TT_addEntry_72 : decode b_TT_addEntry 72 = .ok (.iconst 1, 1) := by decide +kernel
theorem d_TT_addEntry_73 : decode b_TT_addEntry 73 = .ok (.iadd, 1) := by decide +kernel
theorem d_TT_addEntry_74 : decode b_TT_addEntry 74 = .ok (.putfield 90, 3) := by decide +kernel
theorem d_TT_addEntry_77 : decode b_TT_addEntry 77 = .ok (.aload_n 0, 1) := by decide +kernel
theorem d_TT_addEntry_78 : decode b_TT_addEntry 78 = .ok (.aload_n 0, 1) := by decide +kernel
theorem d_TT_addEntry_79 : decode b_TT_addEntry 79 = .ok (.getfield 53, 3) := by decide +kernel
theorem d_TT_addEntry_82 : decode b_TT_addEntry 82 = .ok (.iconst 1, 1) := by decide +kernel
theorem d_TT_addEntry_83 : decode b_TT_addEntry 83 = .ok (.isub, 1) := by decide +kernel
theorem d_TT_addEntry_84 : decode b_TT_addEntry 84 = .ok (.invokevirtual 97, 3) := by decide +kernel
theorem d_TT_addEntry_87 : decode b_TT_addEntry 87 = .ok (.return_, 1) := by decide +kernel
theorem d_TT_settle_0 : decode b_TT_settle 0 = .ok (.iload_n 1, 1) := by decide +kernel
theorem d_TT_settle_1 : decode b_TT_settle 1 = .ok (.istore_n 2, 1) := by decide +kernel
theorem d_TT_settle_2 : decode b_TT_settle 2 = .ok (.iload_n 2, 1) := by decide +kernel
theorem d_TT_settle_3 : decode b_TT_settle 3 = .ok (.ifCond .le 38, 3) := by decide +kernel
theorem d_TT_settle_6 : decode b_TT_settle 6 = .ok (.aload_n 0, 1) := by decide +kernel
theorem d_TT_settle_7 : decode b_TT_settle 7 = .ok (.aload_n 0, 1) := by decide +kernel
theorem d_TT_settle_8 : decode b_TT_settle 8 = .ok (.getfield 22, 3) := by decide +kernel
theorem d_TT_settle_11 : decode b_TT_settle 11 = .ok (.iload_n 2, 1) := by decide +kernel
theorem d_TT_settle_12 : decode b_TT_settle 12 = .ok (.iaload, 1) := by decide +kernel
theorem d_TT_settle_13 : decode b_TT_settle 13 = .ok (.aload_n 0, 1) := by decide +kernel
theorem d_TT_settle_14 : decode b_TT_settle 14 = .ok (.getfield 22, 3) := by decide +kernel
theorem d_TT_settle_17 : decode b_TT_settle 17 = .ok (.iload_n 2, 1) := by decide +kernel
theorem d_TT_settle_18 : decode b_TT_settle 18 = .ok (.iconst 1, 1) := by decide +kernel
theorem d_TT_settle_19 : decode b_TT_settle 19 = .ok (.isub, 1) := by decide +kernel
theorem d_TT_settle_20 : decode b_TT_settle 20 = .ok (.iaload, 1) := by decide +kernel
theorem d_TT_settle_21 : decode b_TT_settle 21 = .ok (.invokevirtual 107, 3) := by decide +kernel
theorem d_TT_settle_24 : decode b_TT_settle 24 = .ok (.ifCond .eq 17, 3) := by decide +kernel
theorem d_TT_settle_27 : decode b_TT_settle 27 = .ok (.aload_n 0, 1) := by decide +kernel
theorem d_TT_settle_28 : decode b_TT_settle 28 = .ok (.iload_n 2, 1) := by decide +kernel
theorem d_TT_settle_29 : decode b_TT_settle 29 = .ok (.iload_n 2, 1) := by decide +kernel
theorem d_TT_settle_30 : decode b_TT_settle 30 = .ok (.iconst 1, 1) := by decide +kernel
theorem d_TT_settle_31 : decode b_TT_settle 31 = .ok (.isub, 1) := by decide +kernel
theorem d_TT_settle_32 : decode b_TT_settle 32 = .ok (.invokevirtual 56, 3) := by decide +kernel
theorem d_TT_settle_35 : decode b_TT_settle 35 = .ok (.iinc 2 (-1), 3) := by decide +kernel
theorem d_TT_settle_38 : decode b_TT_settle 38 = .ok (.goto (-36), 3) := by decide +kernel
theorem d_TT_settle_41 : decode b_TT_settle 41 = .ok (.return_, 1) := by decide +kernel
theorem d_TT_isBefore_0 : decode b_TT_isBefore 0 = .ok (.aload_n 0, 1) := by decide +kernel
theorem d_TT_isBefore_1 : decode b_TT_isBefore 1 = .ok (.getfield 29, 3) := by decide +kernel
theorem d_TT_isBefore_4 : decode b_TT_isBefore 4 = .ok (.iload_n 1, 1) := by decide +kernel
theorem d_TT_isBefore_5 : decode b_TT_isBefore 5 = .ok (.iaload, 1) := by decide +kernel
theorem d_TT_isBefore_6 : decode b_TT_isBefore 6 = .ok (.aload_n 0, 1) := by decide +kernel
theorem d_TT_isBefore_7 : decode b_TT_isBefore 7 = .ok (.getfield 29, 3) := by decide +kernel
theorem d_TT_isBefore_10 : decode b_TT_isBefore 10 = .ok (.iload_n 2, 1) := by decide +kernel
theorem d_TT_isBefore_11 : decode b_TT_isBefore 11 = .ok (.iaload, 1) := by decide +kernel
theorem d_TT_isBefore_12 : decode b_TT_isBefore 12 = .ok (.if_icmp .eq 24, 3) := by decide +kernel
theorem d_TT_isBefore_15 : decode b_TT_isBefore 15 = .ok (.aload_n 0, 1) := by decide +kernel
theorem d_TT_isBefore_16 : decode b_TT_isBefore 16 = .ok (.getfield 29, 3) := by decide +kernel
theorem d_TT_isBefore_19 : decode b_TT_isBefore 19 = .ok (.iload_n 1, 1) := by decide +kernel
theorem d_TT_isBefore_20 : decode b_TT_isBefore 20 = .ok (.iaload, 1) := by decide +kernel
theorem d_TT_isBefore_21 : decode b_TT_isBefore 21 = .ok (.aload_n 0, 1) := by decide +kernel
theorem d_TT_isBefore_22 : decode b_TT_isBefore 22 = .ok (.getfield 29, 3) := by decide +kernel
theorem d_TT_isBefore_25 : decode b_TT_isBefore 25 = .ok (.iload_n 2, 1) := by decide +kernel
theorem d_TT_isBefore_26 : decode b_TT_isBefore 26 = .ok (.iaload, 1) := by decide +kernel
theorem d_TT_isBefore_27 : decode b_TT_isBefore 27 = .ok (.if_icmp .ge 7, 3) := by decide +kernel
theorem d_TT_isBefore_30 : decode b_TT_isBefore 30 = .ok (.iconst 1, 1) := by decide +kernel
theorem d_TT_isBefore_31 : decode b_TT_isBefore 31 = .ok (.goto 4, 3) := by decide +kernel
theorem d_TT_isBefore_34 : decode b_TT_isBefore 34 = .ok (.iconst 0, 1) := by decide +kernel
theorem d_TT_isBefore_35 : decode b_TT_isBefore 35 = .ok (.ireturn, 1) := by decide +kernel
theorem d_TT_isBefore_36 : decode b_TT_isBefore 36 = .ok (.aload_n 0, 1) := by decide +kernel
theorem d_TT_isBefore_37 : decode b_TT_isBefore 37 = .ok (.getfield 32, 3) := by decide +kernel
theorem d_TT_isBefore_40 : decode b_TT_isBefore 40 = .ok (.iload_n 1, 1) := by decide +kernel
theorem d_TT_isBefore_41 : decode b_TT_isBefore 41 = .ok (.iaload, 1) := by decide +kernel
theorem d_TT_isBefore_42 : decode b_TT_isBefore 42 = .ok (.aload_n 0, 1) := by decide +kernel
theorem d_TT_isBefore_43 : decode b_TT_isBefore 43 = .ok (.getfield 32, 3) := by decide +kernel
theorem d_TT_isBefore_46 : decode b_TT_isBefore 46 = .ok (.iload_n 2, 1) := by decide +kernel
theorem d_TT_isBefore_47 : decode b_TT_isBefore 47 = .ok (.iaload, 1) := by decide +kernel
theorem d_TT_isBefore_48 : decode b_TT_isBefore 48 = .ok (.if_icmp .ge 7, 3) := by decide +kernel
theorem d_TT_isBefore_51 : decode b_TT_isBefore 51 = .ok (.iconst 1, 1) := by decide +kernel
theorem d_TT_isBefore_52 : decode b_TT_isBefore 52 = .ok (.goto 4, 3) := by decide +kernel
theorem d_TT_isBefore_55 : decode b_TT_isBefore 55 = .ok (.iconst 0, 1) := by decide +kernel
theorem d_TT_isBefore_56 : decode b_TT_isBefore 56 = .ok (.ireturn, 1) := by decide +kernel
theorem d_TT_swap_0 : decode b_TT_swap 0 = .ok (.aload_n 0, 1) := by decide +kernel
theorem d_TT_swap_1 : decode b_TT_swap 1 = .ok (.getfield 22, 3) := by decide +kernel
theorem d_TT_swap_4 : decode b_TT_swap 4 = .ok (.iload_n 1, 1) := by decide +kernel
theorem d_TT_swap_5 : decode b_TT_swap 5 = .ok (.iaload, 1) := by decide +kernel
theorem d_TT_swap_6 : decode b_TT_swap 6 = .ok (.istore_n 3, 1) := by decide +kernel
theorem d_TT_swap_7 : decode b_TT_swap 7 = .ok (.aload_n 0, 1) := by decide +kernel
theorem d_TT_swap_8 : decode b_TT_swap 8 = .ok (.getfield 22, 3) := by decide +kernel
theorem d_TT_swap_11 : decode b_TT_swap 11 = .ok (.iload_n 1, 1) := by decide +kernel
theorem d_TT_swap_12 : decode b_TT_swap 12 = .ok (.aload_n 0, 1) := by decide +kernel
theorem d_TT_swap_13 : decode b_TT_swap 13 = .ok (.getfield 22, 3) := by decide +kernel
theorem d_TT_swap_16 : decode b_TT_swap 16 = .ok (.iload_n 2, 1) := by decide +kernel
theorem d_TT_swap_17 : decode b_TT_swap 17 = .ok (.iaload, 1) := by decide +kernel
theorem d_TT_swap_18 : decode b_TT_swap 18 = .ok (.iastore, 1) := by decide +kernel
theorem d_TT_swap_19 : decode b_TT_swap 19 = .ok (.aload_n 0, 1) := by decide +kernel
theorem d_TT_swap_20 : decode b_TT_swap 20 = .ok (.getfield 22, 3) := by decide +kernel
theorem d_TT_swap_23 : decode b_TT_swap 23 = .ok (.iload_n 2, 1) := by decide +kernel
theorem d_TT_swap_24 : decode b_TT_swap 24 = .ok (.iload_n 3, 1) := by decide +kernel
theorem d_TT_swap_25 : decode b_TT_swap 25 = .ok (.iastore, 1) := by decide +kernel
theorem d_TT_swap_26 : decode b_TT_swap 26 = .ok (.return_, 1) := by decide +kernel
theorem d_TT_remove_0 : decode b_TT_remove 0 = .ok (.iconst 0, 1) := by decide +kernel
theorem d_TT_remove_1 : decode b_TT_remove 1 = .ok (.istore_n 2, 1) := by decide +kernel
theorem d_TT_remove_2 : decode b_TT_remove 2 = .ok (.iconst 0, 1) := by decide +kernel
theorem d_TT_remove_3 : decode b_TT_remove 3 = .ok (.istore_n 3, 1) := by decide +kernel
theorem d_TT_remove_4 : decode b_TT_remove 4 = .ok (.iload_n 3, 1) := by decide +kernel
theorem d_TT_remove_5 : decode b_TT_remove 5 = .ok (.aload_n 0, 1) := by decide +kernel
theorem d_TT_remove_6 : decode b_TT_remove 6 = .ok (.getfield 53, 3) := by decide +kernel
theorem d_TT_remove_9 : decode b_TT_remove 9 = .ok (.if_icmp .ge 33, 3) := by decide +kernel
theorem d_TT_remove_12 : decode b_TT_remove 12 = .ok (.aload_n 0, 1) := by decide +kernel
theorem d_TT_remove_13 : decode b_TT_remove 13 = .ok (.getfield 26, 3) := by decide +kernel
theorem d_TT_remove_16 : decode b_TT_remove 16 = .ok (.aload_n 0, 1) := by decide +kernel
theorem d_TT_remove_17 : decode b_TT_remove 17 = .ok (.getfield 22, 3) := by decide +kernel
theorem d_TT_remove_20 : decode b_TT_remove 20 = .ok (.iload_n 3, 1) := by decide +kernel
theorem d_TT_remove_21 : decode b_TT_remove 21 = .ok (.iaload, 1) := by decide +kernel
theorem d_TT_remove_22 : decode b_TT_remove 22 = .ok (.iaload, 1) := by decide +kernel
theorem d_TT_remove_23 : decode b_TT_remove 23 = .ok (.iload_n 1, 1) := by decide +kernel
theorem d_TT_remove_24 : decode b_TT_remove 24 = .ok (.if_icmp .eq 12, 3) := by decide +kernel
theorem d_TT_remove_27 : decode b_TT_remove 27 = .ok (.aload_n 0, 1) := by decide +kernel
theorem d_TT_remove_28 : decode b_TT_remove 28 = .ok (.iload_n 3, 1) := by decide +kernel
theorem d_TT_remove_29 : decode b_TT_remove 29 = .ok (.iload_n 2, 1) := by decide +kernel
theorem d_TT_remove_30 : decode b_TT_remove 30 = .ok (.invokevirtual 56, 3) := by decide +kernel
theorem d_TT_remove_33 : decode b_TT_remove 33 = .ok (.iinc 2 1, 3) := by decide +kernel
theorem d_TT_remove_36 : decode b_TT_remove 36 = .ok (.iinc 3 1, 3) := by decide +kernel
theorem d_TT_remove_39 : decode b_TT_remove 39 = .ok (.goto (-35), 3) := by decide +kernel
theorem d_TT_remove_42 : decode b_TT_remove 42 = .ok (.aload_n 0, 1) := by decide +kernel
theorem d_TT_remove_43 : decode b_TT_remove 43 = .ok (.iload_n 2, 1) := by decide +kernel
theorem d_TT_remove_44 : decode b_TT_remove 44 = .ok (.invokevirtual 59, 3) := by decide +kernel
theorem d_TT_remove_47 : decode b_TT_remove 47 = .ok (.ireturn, 1) := by decide +kernel
theorem d_TT_keepFirst_0 : decode b_TT_keepFirst 0 = .ok (.aload_n 0, 1) := by decide +kernel
theorem d_TT_keepFirst_1 : decode b_TT_keepFirst 1 = .ok (.getfield 53, 3) := by decide +kernel
theorem d_TT_keepFirst_4 : decode b_TT_keepFirst 4 = .ok (.iload_n 1, 1) := by decide +kernel
theorem d_TT_keepFirst_5 : decode b_TT_keepFirst 5 = .ok (.isub, 1) := by decide +kernel
theorem d_TT_keepFirst_6 : decode b_TT_keepFirst 6 = .ok (.istore_n 2, 1) := by decide +kernel
theorem d_TT_keepFirst_7 : decode b_TT_keepFirst 7 = .ok (.aload_n 0, 1) := by decide +kernel
theorem d_TT_keepFirst_8 : decode b_TT_keepFirst 8 = .ok (.iload_n 1, 1) := by decide +kernel
theorem d_TT_keepFirst_9 : decode b_TT_keepFirst 9 = .ok (.putfield 53, 3) := by decide +kernel
theorem d_TT_keepFirst_12 : decode b_TT_keepFirst 12 = .ok (.iload_n 2, 1) := by decide +kernel
theorem d_TT_keepFirst_13 : decode b_TT_keepFirst 13 = .ok (.ireturn, 1) := by decide +kernel
theorem d_TT_removeSpan_0 : decode b_TT_removeSpan 0 = .ok (.iconst 0, 1) := by decide +kernel
theorem d_TT_removeSpan_1 : decode b_TT_removeSpan 1 = .ok (.istore_n 3, 1) := by decide +kernel
theorem d_TT_removeSpan_2 : decode b_TT_removeSpan 2 = .ok (.iconst 0, 1) := by decide +kernel
theorem d_TT_removeSpan_3 : decode b_TT_removeSpan 3 = .ok (.istore 4, 2) := by decide +kernel
theorem d_TT_removeSpan_5 : decode b_TT_removeSpan 5 = .ok (.iload 4, 2) := by decide +kernel
theorem d_TT_removeSpan_7 : decode b_TT_removeSpan 7 = .ok (.aload_n 0, 1) := by decide +kernel
theorem d_TT_removeSpan_8 : decode b_TT_removeSpan 8 = .ok (.getfield 53, 3) := by decide +kernel
theorem d_TT_removeSpan_11 : decode b_TT_removeSpan 11 = .ok (.if_icmp .ge 35, 3) := by decide +kernel
theorem d_TT_removeSpan_14 : decode b_TT_removeSpan 14 = .ok (.aload_n 0, 1) := by decide +kernel
theorem d_TT_removeSpan_15 : decode b_TT_removeSpan 15 = .ok (.aload_n 0, 1) := by decide +kernel
theorem d_TT_removeSpan_16 : decode b_TT_removeSpan 16 = .ok (.getfield 22, 3) := by decide +kernel
theorem d_TT_removeSpan_19 : decode b_TT_removeSpan 19 = .ok (.iload 4, 2) := by decide +kernel
theorem d_TT_removeSpan_21 : decode b_TT_removeSpan 21 = .ok (.iaload, 1) := by decide +kernel
theorem d_TT_removeSpan_22 : decode b_TT_removeSpan 22 = .ok (.iload_n 1, 1) := by decide +kernel
theorem d_TT_removeSpan_23 : decode b_TT_removeSpan 23 = .ok (.iload_n 2, 1) := by decide +kernel
theorem d_TT_removeSpan_24 : decode b_TT_removeSpan 24 = .ok (.invokevirtual 62, 3) := by decide +kernel
theorem d_TT_removeSpan_27 : decode b_TT_removeSpan 27 = .ok (.ifCond .ne 13, 3) := by decide +kernel
theorem d_TT_removeSpan_30 : decode b_TT_removeSpan 30 = .ok (.aload_n 0, 1) := by decide +kernel
theorem d_TT_removeSpan_31 : decode b_TT_removeSpan 31 = .ok (.iload 4, 2) := by decide +kernel
theorem d_TT_removeSpan_33 : decode b_TT_removeSpan 33 = .ok (.iload_n 3, 1) := by decide +kernel
theorem d_TT_removeSpan_34 : decode b_TT_removeSpan 34 = .ok (.invokevirtual 56, 3) := by decide +kernel
theorem d_TT_removeSpan_37 : decode b_TT_removeSpan 37 = .ok (.iinc 3 1, 3) := by decide +kernel
theorem d_TT_removeSpan_40 : decode b_TT_removeSpan 40 = .ok (.iinc 4 1, 3) := by decide +kernel
theorem d_TT_removeSpan_43 : decode b_TT_removeSpan 43 = .ok (.goto (-38), 3) := by decide +kernel
theorem d_TT_removeSpan_46 : decode b_TT_removeSpan 46 = .ok (.aload_n 0, 1) := by decide +kernel
theorem d_TT_removeSpan_47 : decode b_TT_removeSpan 47 = .ok (.iload_n 3, 1) := by decide +kernel
theorem d_TT_removeSpan_48 : decode b_TT_removeSpan 48 = .ok (.invokevirtual 59, 3) := by decide +kernel
theorem d_TT_removeSpan_51 : decode b_TT_removeSpan 51 = .ok (.ireturn, 1) := by decide +kernel
theorem d_TT_isInSpan_0 : decode b_TT_isInSpan 0 = .ok (.aload_n 0, 1) := by decide +kernel
theorem d_TT_isInSpan_1 : decode b_TT_isInSpan 1 = .ok (.getfield 29, 3) := by decide +kernel
theorem d_TT_isInSpan_4 : decode b_TT_isInSpan 4 = .ok (.iload_n 1, 1) := by decide +kernel
theorem d_TT_isInSpan_5 : decode b_TT_isInSpan 5 = .ok (.iaload, 1) := by decide +kernel
theorem d_TT_isInSpan_6 : decode b_TT_isInSpan 6 = .ok (.iload_n 2, 1) := by decide +kernel
theorem d_TT_isInSpan_7 : decode b_TT_isInSpan 7 = .ok (.if_icmp .lt 17, 3) := by decide +kernel
theorem d_TT_isInSpan_10 : decode b_TT_isInSpan 10 = .ok (.aload_n 0, 1) := by decide +kernel
theorem d_TT_isInSpan_11 : decode b_TT_isInSpan 11 = .ok (.getfield 29, 3) := by decide +kernel
theorem d_TT_isInSpan_14 : decode b_TT_isInSpan 14 = .ok (.iload_n 1, 1) := by decide +kernel
theorem d_TT_isInSpan_15 : decode b_TT_isInSpan 15 = .ok (.iaload, 1) := by decide +kernel
theorem d_TT_isInSpan_16 : decode b_TT_isInSpan 16 = .ok (.iload_n 3, 1) := by decide +kernel
theorem d_TT_isInSpan_17 : decode b_TT_isInSpan 17 = .ok (.if_icmp .gt 7, 3) := by decide +kernel
theorem d_TT_isInSpan_20 : decode b_TT_isInSpan 20 = .ok (.iconst 1, 1) := by decide +kernel
theorem d_TT_isInSpan_21 : decode b_TT_isInSpan 21 = .ok (.goto 4, 3) := by decide +kernel
theorem d_TT_isInSpan_24 : decode b_TT_isInSpan 24 = .ok (.iconst 0, 1) := by decide +kernel
theorem d_TT_isInSpan_25 : decode b_TT_isInSpan 25 = .ok (.ireturn, 1) := by decide +kernel
theorem d_TT_shift_0 : decode b_TT_shift 0 = .ok (.aload_n 0, 1) := by decide +kernel
theorem d_TT_shift_1 : decode b_TT_shift 1 = .ok (.iconst 0, 1) := by decide +kernel
theorem d_TT_shift_2 : decode b_TT_shift 2 = .ok (.ldc 66, 2) := by decide +kernel
theorem d_TT_shift_4 : decode b_TT_shift 4 = .ok (.iload_n 1, 1) := by decide +kernel
theorem d_TT_shift_5 : decode b_TT_shift 5 = .ok (.invokevirtual 67, 3) := by decide +kernel
theorem d_TT_shift_8 : decode b_TT_shift 8 = .ok (.ireturn, 1) := by decide +kernel
theorem d_TT_moveTimes_0 : decode b_TT_moveTimes 0 = .ok (.iconst 0, 1) := by decide +kernel
theorem d_TT_moveTimes_1 : decode b_TT_moveTimes 1 = .ok (.istore 4, 2) := by decide +kernel
theorem d_TT_moveTimes_3 : decode b_TT_moveTimes 3 = .ok (.iconst 0, 1) := by decide +kernel
theorem d_TT_moveTimes_4 : decode b_TT_moveTimes 4 = .ok (.istore 5, 2) := by decide +kernel
theorem d_TT_moveTimes_6 : decode b_TT_moveTimes 6 = .ok (.iload 5, 2) := by decide +kernel
theorem d_TT_moveTimes_8 : decode b_TT_moveTimes 8 = .ok (.aload_n 0, 1) := by decide +kernel
theorem d_TT_moveTimes_9 : decode b_TT_moveTimes 9 = .ok (.getfield 53, 3) := by decide +kernel
theorem d_TT_moveTimes_12 : decode b_TT_moveTimes 12 = .ok (.if_icmp .ge 45, 3) := by decide +kernel
theorem d_TT_moveTimes_15 : decode b_TT_moveTimes 15 = .ok (.aload_n 0, 1) := by decide +kernel
theorem d_TT_moveTimes_16 : decode b_TT_moveTimes 16 = .ok (.aload_n 0, 1) := by decide +kernel
theorem d_TT_moveTimes_17 : decode b_TT_moveTimes 17 = .ok (.getfield 22, 3) := by decide +kernel
theorem d_TT_moveTimes_20 : decode b_TT_moveTimes 20 = .ok (.iload 5, 2) := by decide +kernel
theorem d_TT_moveTimes_22 : decode b_TT_moveTimes 22 = .ok (.iaload, 1) := by decide +kernel
theorem d_TT_moveTimes_23 : decode b_TT_moveTimes 23 = .ok (.iload_n 1, 1) := by decide +kernel
theorem d_TT_moveTimes_24 : decode b_TT_moveTimes 24 = .ok (.iload_n 2, 1) := by decide +kernel
theorem d_TT_moveTimes_25 : decode b_TT_moveTimes 25 = .ok (.invokevirtual 62, 3) := by decide +kernel
theorem d_TT_moveTimes_28 : decode b_TT_moveTimes 28 = .ok (.ifCond .eq 23, 3) := by decide +kernel
theorem d_TT_moveTimes_31 : decode b_TT_moveTimes 31 = .ok (.aload_n 0, 1) := by decide +kernel
theorem d_TT_moveTimes_32 : decode b_TT_moveTimes 32 = .ok (.aload_n 0, 1) := by decide +kernel
theorem d_TT_moveTimes_33 : decode b_TT_moveTimes 33 = .ok (.getfield 22, 3) := by decide +kernel
theorem d_TT_moveTimes_36 : decode b_TT_moveTimes 36 = .ok (.iload 5, 2) := by decide +kernel
theorem d_TT_moveTimes_38 : decode b_TT_moveTimes 38 = .ok (.iaload, 1) := by decide +kernel
theorem d_TT_moveTimes_39 : decode b_TT_moveTimes 39 = .ok (.iload_n 3, 1) := by decide +kernel
theorem d_TT_moveTimes_40 : decode b_TT_moveTimes 40 = .ok (.invokevirtual 101, 3) := by decide +kernel
theorem d_TT_moveTimes_43 : decode b_TT_moveTimes 43 = .ok (.ifCond .ne 5, 3) := by decide +kernel
theorem d_TT_moveTimes_46 : decode b_TT_moveTimes 46 = .ok (.iconst (-1), 1) := by decide +kernel
theorem d_TT_moveTimes_47 : decode b_TT_moveTimes 47 = .ok (.ireturn, 1) := by decide +kernel
theorem d_TT_moveTimes_48 : decode b_TT_moveTimes 48 = .ok (.iinc 4 1, 3) := by decide +kernel
theorem d_TT_moveTimes_51 : decode b_TT_moveTimes 51 = .ok (.iinc 5 1, 3) := by decide +kernel
theorem d_TT_moveTimes_54 : decode b_TT_moveTimes 54 = .ok (.goto (-48), 3) := by decide +kernel
theorem d_TT_moveTimes_57 : decode b_TT_moveTimes 57 = .ok (.iconst 0, 1) := by decide +kernel
theorem d_TT_moveTimes_58 : decode b_TT_moveTimes 58 = .ok (.istore 5, 2) := by decide +kernel
theorem d_TT_moveTimes_60 : decode b_TT_moveTimes 60 = .ok (.iload 5, 2) := by decide +kernel
theorem d_TT_moveTimes_62 : decode b_TT_moveTimes 62 = .ok (.aload_n 0, 1) := by decide +kernel
theorem d_TT_moveTimes_63 : decode b_TT_moveTimes 63 = .ok (.getfield 53, 3) := by decide +kernel
theorem d_TT_moveTimes_66 : decode b_TT_moveTimes 66 = .ok (.if_icmp .ge 41, 3) := by decide +kernel
theorem d_TT_moveTimes_69 : decode b_TT_moveTimes 69 = .ok (.aload_n 0, 1) := by decide +kernel
theorem d_TT_moveTimes_70 : decode b_TT_moveTimes 70 = .ok (.aload_n 0, 1) := by decide +kernel
theorem d_TT_moveTimes_71 : decode b_TT_moveTimes 71 = .ok (.getfield 22, 3) := by decide +kernel
theorem d_TT_moveTimes_74 : decode b_TT_moveTimes 74 = .ok (.iload 5, 2) := by decide +kernel
theorem d_TT_moveTimes_76 : decode b_TT_moveTimes 76 = .ok (.iaload, 1) := by decide +kernel
theorem d_TT_moveTimes_77 : decode b_TT_moveTimes 77 = .ok (.iload_n 1, 1) := by decide +kernel
theorem d_TT_moveTimes_78 : decode b_TT_moveTimes 78 = .ok (.iload_n 2, 1) := by decide +kernel
theorem d_TT_moveTimes_79 : decode b_TT_moveTimes 79 = .ok (.invokevirtual 62, 3) := by decide +kernel
theorem d_TT_moveTimes_82 : decode b_TT_moveTimes 82 = .ok (.ifCond .eq 19, 3) := by decide +kernel
theorem d_TT_moveTimes_85 : decode b_TT_moveTimes 85 = .ok (.aload_n 0, 1) := by decide +kernel
theorem d_TT_moveTimes_86 : decode b_TT_moveTimes 86 = .ok (.getfield 29, 3) := by decide +kernel
theorem d_TT_moveTimes_89 : decode b_TT_moveTimes 89 = .ok (.aload_n 0, 1) := by decide +kernel
theorem d_TT_moveTimes_90 : decode b_TT_moveTimes 90 = .ok (.getfield 22, 3) := by decide +kernel
theorem d_TT_moveTimes_93 : decode b_TT_moveTimes 93 = .ok (.iload 5, 2) := by decide +kernel
theorem d_TT_moveTimes_95 : decode b_TT_moveTimes 95 = .ok (.iaload, 1) := by decide +kernel
theorem d_TT_moveTimes_96 : decode b_TT_moveTimes 96 = .ok (.dup2, 1) := by decide +kernel
theorem d_TT_moveTimes_97 : decode b_TT_moveTimes 97 = .ok (.iaload, 1) := by decide +kernel
theorem d_TT_moveTimes_98 : decode b_TT_moveTimes 98 = .ok (.iload_n 3, 1) := by decide +kernel
theorem d_TT_moveTimes_99 : decode b_TT_moveTimes 99 = .ok (.iadd, 1) := by decide +kernel
theorem d_TT_moveTimes_100 : decode b_TT_moveTimes 100 = .ok (.iastore, 1) := by decide +kernel
theorem d_TT_moveTimes_101 : decode b_TT_moveTimes 101 = .ok (.iinc 5 1, 3) := by decide +kernel
theorem d_TT_moveTimes_104 : decode b_TT_moveTimes 104 = .ok (.goto (-44), 3) := by decide +kernel
theorem d_TT_moveTimes_107 : decode b_TT_moveTimes 107 = .ok (.iconst 1, 1) := by decide +kernel
theorem d_TT_moveTimes_108 : decode b_TT_moveTimes 108 = .ok (.istore 5, 2) := by decide +kernel
theorem d_TT_moveTimes_110 : decode b_TT_moveTimes 110 = .ok (.iload 5, 2) := by decide +kernel
theorem d_TT_moveTimes_112 : decode b_TT_moveTimes 112 = .ok (.aload_n 0, 1) := by decide +kernel
theorem d_TT_moveTimes_113 : decode b_TT_moveTimes 113 = .ok (.getfield 53, 3) := by decide +kernel
theorem d_TT_moveTimes_116 : decode b_TT_moveTimes 116 = .ok (.if_icmp .ge 15, 3) := by decide +kernel
theorem d_TT_moveTimes_119 : decode b_TT_moveTimes 119 = .ok (.aload_n 0, 1) := by decide +kernel
theorem d_TT_moveTimes_120 : decode b_TT_moveTimes 120 = .ok (.iload 5, 2) := by decide +kernel
theorem d_TT_moveTimes_122 : decode b_TT_moveTimes 122 = .ok (.invokevirtual 97, 3) := by decide +kernel
theorem d_TT_moveTimes_125 : decode b_TT_moveTimes 125 = .ok (.iinc 5 1, 3) := by decide +kernel
theorem d_TT_moveTimes_128 : decode b_TT_moveTimes 128 = .ok (.goto (-18), 3) := by decide +kernel
theorem d_TT_moveTimes_131 : decode b_TT_moveTimes 131 = .ok (.iload 4, 2) := by decide +kernel
theorem d_TT_moveTimes_133 : decode b_TT_moveTimes 133 = .ok (.ireturn, 1) := by decide +kernel
theorem d_TT_canMove_0 : decode b_TT_canMove 0 = .ok (.aload_n 0, 1) := by decide +kernel
theorem d_TT_canMove_1 : decode b_TT_canMove 1 = .ok (.getfield 29, 3) := by decide +kernel
theorem d_TT_canMove_4 : decode b_TT_canMove 4 = .ok (.iload_n 1, 1) := by decide +kernel
theorem d_TT_canMove_5 : decode b_TT_canMove 5 = .ok (.iaload, 1) := by decide +kernel
theorem d_TT_canMove_6 : decode b_TT_canMove 6 = .ok (.i2l, 1) := by decide +kernel
theorem d_TT_canMove_7 : decode b_TT_canMove 7 = .ok (.iload_n 2, 1) := by decide +kernel
theorem d_TT_canMove_8 : decode b_TT_canMove 8 = .ok (.i2l, 1) := by decide +kernel
theorem d_TT_canMove_9 : decode b_TT_canMove 9 = .ok (.ladd, 1) := by decide +kernel
theorem d_TT_canMove_10 : decode b_TT_canMove 10 = .ok (.lstore_n 3, 1) := by decide +kernel
theorem d_TT_canMove_11 : decode b_TT_canMove 11 = .ok (.lload_n 3, 1) := by decide +kernel
theorem d_TT_canMove_12 : decode b_TT_canMove 12 = .ok (.aload_n 0, 1) := by decide +kernel
theorem d_TT_canMove_13 : decode b_TT_canMove 13 = .ok (.getfield 75, 3) := by decide +kernel
theorem d_TT_canMove_16 : decode b_TT_canMove 16 = .ok (.i2l, 1) := by decide +kernel
theorem d_TT_canMove_17 : decode b_TT_canMove 17 = .ok (.lcmp, 1) := by decide +kernel
theorem d_TT_canMove_18 : decode b_TT_canMove 18 = .ok (.ifCond .le 15, 3) := by decide +kernel
theorem d_TT_canMove_21 : decode b_TT_canMove 21 = .ok (.lload_n 3, 1) := by decide +kernel
theorem d_TT_canMove_22 : decode b_TT_canMove 22 = .ok (.ldc2_w 105, 3) := by decide +kernel
theorem d_TT_canMove_25 : decode b_TT_canMove 25 = .ok (.lcmp, 1) := by decide +kernel
theorem d_TT_canMove_26 : decode b_TT_canMove 26 = .ok (.ifCond .gt 7, 3) := by decide +kernel
theorem d_TT_canMove_29 : decode b_TT_canMove 29 = .ok (.iconst 1, 1) := by decide +kernel
theorem d_TT_canMove_30 : decode b_TT_canMove 30 = .ok (.goto 4, 3) := by decide +kernel
theorem d_TT_canMove_33 : decode b_TT_canMove 33 = .ok (.iconst 0, 1) := by decide +kernel
theorem d_TT_canMove_34 : decode b_TT_canMove 34 = .ok (.ireturn, 1) := by decide +kernel
theorem d_TT_shiftSpan_0 : decode b_TT_shiftSpan 0 = .ok (.aload_n 0, 1) := by decide +kernel
theorem d_TT_shiftSpan_1 : decode b_TT_shiftSpan 1 = .ok (.iload_n 1, 1) := by decide +kernel
theorem d_TT_shiftSpan_2 : decode b_TT_shiftSpan 2 = .ok (.iload_n 2, 1) := by decide +kernel
theorem d_TT_shiftSpan_3 : decode b_TT_shiftSpan 3 = .ok (.iload_n 3, 1) := by decide +kernel
theorem d_TT_shiftSpan_4 : decode b_TT_shiftSpan 4 = .ok (.invokevirtual 67, 3) := by decide +kernel
theorem d_TT_shiftSpan_7 : decode b_TT_shiftSpan 7 = .ok (.ireturn, 1) := by decide +kernel
theorem d_TT_enable_0 : decode b_TT_enable 0 = .ok (.aload_n 0, 1) := by decide +kernel
theorem d_TT_enable_1 : decode b_TT_enable 1 = .ok (.iload_n 1, 1) := by decide +kernel
theorem d_TT_enable_2 : decode b_TT_enable 2 = .ok (.putfield 71, 3) := by decide +kernel
theorem d_TT_enable_5 : decode b_TT_enable 5 = .ok (.return_, 1) := by decide +kernel
theorem d_TT_isOn_0 : decode b_TT_isOn 0 = .ok (.aload_n 0, 1) := by decide +kernel
theorem d_TT_isOn_1 : decode b_TT_isOn 1 = .ok (.getfield 71, 3) := by decide +kernel
theorem d_TT_isOn_4 : decode b_TT_isOn 4 = .ok (.ireturn, 1) := by decide +kernel
theorem d_TT_reset_0 : decode b_TT_reset 0 = .ok (.aload_n 0, 1) := by decide +kernel
theorem d_TT_reset_1 : decode b_TT_reset 1 = .ok (.iconst 0, 1) := by decide +kernel
theorem d_TT_reset_2 : decode b_TT_reset 2 = .ok (.putfield 53, 3) := by decide +kernel
theorem d_TT_reset_5 : decode b_TT_reset 5 = .ok (.aload_n 0, 1) := by decide +kernel
theorem d_TT_reset_6 : decode b_TT_reset 6 = .ok (.iconst 0, 1) := by decide +kernel
theorem d_TT_reset_7 : decode b_TT_reset 7 = .ok (.putfield 71, 3) := by decide +kernel
theorem d_TT_reset_10 : decode b_TT_reset 10 = .ok (.return_, 1) := by decide +kernel
theorem d_TT_tick_0 : decode b_TT_tick 0 = .ok (.aload_n 0, 1) := by decide +kernel
theorem d_TT_tick_1 : decode b_TT_tick 1 = .ok (.getfield 75, 3) := by decide +kernel
theorem d_TT_tick_4 : decode b_TT_tick 4 = .ok (.ldc 66, 2) := by decide +kernel
theorem d_TT_tick_6 : decode b_TT_tick 6 = .ok (.if_icmp .ne 5, 3) := by decide +kernel
theorem d_TT_tick_9 : decode b_TT_tick 9 = .ok (.iconst (-1), 1) := by decide +kernel
theorem d_TT_tick_10 : decode b_TT_tick 10 = .ok (.ireturn, 1) := by decide +kernel
theorem d_TT_tick_11 : decode b_TT_tick 11 = .ok (.aload_n 0, 1) := by decide +kernel
theorem d_TT_tick_12 : decode b_TT_tick 12 = .ok (.dup, 1) := by decide +kernel
theorem d_TT_tick_13 : decode b_TT_tick 13 = .ok (.getfield 75, 3) := by decide +kernel
theorem d_TT_tick_16 : decode b_TT_tick 16 = .ok (.iconst 1, 1) := by decide +kernel
theorem d_TT_tick_17 : decode b_TT_tick 17 = .ok (.iadd, 1) := by decide +kernel
theorem d_TT_tick_18 : decode b_TT_tick 18 = .ok (.putfield 75, 3) := by decide +kernel
theorem d_TT_tick_21 : decode b_TT_tick 21 = .ok (.aload_n 0, 1) := by decide +kernel
theorem d_TT_tick_22 : decode b_TT_tick 22 = .ok (.getfield 75, 3) := by decide +kernel
theorem d_TT_tick_25 : decode b_TT_tick 25 = .ok (.ireturn, 1) := by decide +kernel
theorem d_TT_leave_0 : decode b_TT_leave 0 = .ok (.aload_n 0, 1) := by decide +kernel
theorem d_TT_leave_1 : decode b_TT_leave 1 = .ok (.getfield 53, 3) := by decide +kernel
theorem d_TT_leave_4 : decode b_TT_leave 4 = .ok (.ifCond .eq 21, 3) := by decide +kernel
theorem d_TT_leave_7 : decode b_TT_leave 7 = .ok (.aload_n 0, 1) := by decide +kernel
theorem d_TT_leave_8 : decode b_TT_leave 8 = .ok (.getfield 29, 3) := by decide +kernel
theorem d_TT_leave_11 : decode b_TT_leave 11 = .ok (.aload_n 0, 1) := by decide +kernel
theorem d_TT_leave_12 : decode b_TT_leave 12 = .ok (.getfield 22, 3) := by decide +kernel
theorem d_TT_leave_15 : decode b_TT_leave 15 = .ok (.iconst 0, 1) := by decide +kernel
theorem d_TT_leave_16 : decode b_TT_leave 16 = .ok (.iaload, 1) := by decide +kernel
theorem d_TT_leave_17 : decode b_TT_leave 17 = .ok (.iaload, 1) := by decide +kernel
theorem d_TT_leave_18 : decode b_TT_leave 18 = .ok (.aload_n 0, 1) := by decide +kernel
theorem d_TT_leave_19 : decode b_TT_leave 19 = .ok (.getfield 75, 3) := by decide +kernel
theorem d_TT_leave_22 : decode b_TT_leave 22 = .ok (.if_icmp .le 5, 3) := by decide +kernel
theorem d_TT_leave_25 : decode b_TT_leave 25 = .ok (.iconst (-1), 1) := by decide +kernel
theorem d_TT_leave_26 : decode b_TT_leave 26 = .ok (.ireturn, 1) := by decide +kernel
theorem d_TT_leave_27 : decode b_TT_leave 27 = .ok (.aload_n 0, 1) := by decide +kernel
theorem d_TT_leave_28 : decode b_TT_leave 28 = .ok (.aload_n 0, 1) := by decide +kernel
theorem d_TT_leave_29 : decode b_TT_leave 29 = .ok (.getfield 32, 3) := by decide +kernel
theorem d_TT_leave_32 : decode b_TT_leave 32 = .ok (.aload_n 0, 1) := by decide +kernel
theorem d_TT_leave_33 : decode b_TT_leave 33 = .ok (.getfield 22, 3) := by decide +kernel
theorem d_TT_leave_36 : decode b_TT_leave 36 = .ok (.iconst 0, 1) := by decide +kernel
theorem d_TT_leave_37 : decode b_TT_leave 37 = .ok (.iaload, 1) := by decide +kernel
theorem d_TT_leave_38 : decode b_TT_leave 38 = .ok (.iaload, 1) := by decide +kernel
theorem d_TT_leave_39 : decode b_TT_leave 39 = .ok (.putfield 78, 3) := by decide +kernel
theorem d_TT_leave_42 : decode b_TT_leave 42 = .ok (.aload_n 0, 1) := by decide +kernel
theorem d_TT_leave_43 : decode b_TT_leave 43 = .ok (.aload_n 0, 1) := by decide +kernel
theorem d_TT_leave_44 : decode b_TT_leave 44 = .ok (.getfield 35, 3) := by decide +kernel
theorem d_TT_leave_47 : decode b_TT_leave 47 = .ok (.aload_n 0, 1) := by decide +kernel
theorem d_TT_leave_48 : decode b_TT_leave 48 = .ok (.getfield 22, 3) := by decide +kernel
theorem d_TT_leave_51 : decode b_TT_leave 51 = .ok (.iconst 0, 1) := by decide +kernel
theorem d_TT_leave_52 : decode b_TT_leave 52 = .ok (.iaload, 1) := by decide +kernel
theorem d_TT_leave_53 : decode b_TT_leave 53 = .ok (.iaload, 1) := by decide +kernel
theorem d_TT_leave_54 : decode b_TT_leave 54 = .ok (.putfield 81, 3) := by decide +kernel
theorem d_TT_leave_57 : decode b_TT_leave 57 = .ok (.aload_n 0, 1) := by decide +kernel
theorem d_TT_leave_58 : decode b_TT_leave 58 = .ok (.invokevirtual 84, 3) := by decide +kernel
theorem d_TT_leave_61 : decode b_TT_leave 61 = .ok (.aload_n 0, 1) := by decide +kernel
theorem d_TT_leave_62 : decode b_TT_leave 62 = .ok (.getfield 81, 3) := by decide +kernel
theorem d_TT_leave_65 : decode b_TT_leave 65 = .ok (.ireturn, 1) := by decide +kernel
theorem d_TT_dropFirst_0 : decode b_TT_dropFirst 0 = .ok (.iconst 1, 1) := by decide +kernel
theorem d_TT_dropFirst_1 : decode b_TT_dropFirst 1 = .ok (.istore_n 1, 1) := by decide +kernel
theorem d_TT_dropFirst_2 : decode b_TT_dropFirst 2 = .ok (.iload_n 1, 1) := by decide +kernel
theorem d_TT_dropFirst_3 : decode b_TT_dropFirst 3 = .ok (.aload_n 0, 1) := by decide +kernel
theorem d_TT_dropFirst_4 : decode b_TT_dropFirst 4 = .ok (.getfield 53, 3) := by decide +kernel
theorem d_TT_dropFirst_7 : decode b_TT_dropFirst 7 = .ok (.if_icmp .ge 17, 3) := by decide +kernel
theorem d_TT_dropFirst_10 : decode b_TT_dropFirst 10 = .ok (.aload_n 0, 1) := by decide +kernel
theorem d_TT_dropFirst_11 : decode b_TT_dropFirst 11 = .ok (.iload_n 1, 1) := by decide +kernel
theorem d_TT_dropFirst_12 : decode b_TT_dropFirst 12 = .ok (.iload_n 1, 1) := by decide +kernel
theorem d_TT_dropFirst_13 : decode b_TT_dropFirst 13 = .ok (.iconst 1, 1) := by decide +kernel
theorem d_TT_dropFirst_14 : decode b_TT_dropFirst 14 = .ok (.isub, 1) := by decide +kernel
theorem d_TT_dropFirst_15 : decode b_TT_dropFirst 15 = .ok (.invokevirtual 56, 3) := by decide +kernel
theorem d_TT_dropFirst_18 : decode b_TT_dropFirst 18 = .ok (.iinc 1 1, 3) := by decide +kernel
theorem d_TT_dropFirst_21 : decode b_TT_dropFirst 21 = .ok (.goto (-19), 3) := by decide +kernel
theorem d_TT_dropFirst_24 : decode b_TT_dropFirst 24 = .ok (.aload_n 0, 1) := by decide +kernel
theorem d_TT_dropFirst_25 : decode b_TT_dropFirst 25 = .ok (.dup, 1) := by decide +kernel
theorem d_TT_dropFirst_26 : decode b_TT_dropFirst 26 = .ok (.getfield 53, 3) := by decide +kernel
theorem d_TT_dropFirst_29 : decode b_TT_dropFirst 29 = .ok (.iconst 1, 1) := by decide +kernel
theorem d_TT_dropFirst_30 : decode b_TT_dropFirst 30 = .ok (.isub, 1) := by decide +kernel
theorem d_TT_dropFirst_31 : decode b_TT_dropFirst 31 = .ok (.putfield 53, 3) := by decide +kernel
theorem d_TT_dropFirst_34 : decode b_TT_dropFirst 34 = .ok (.return_, 1) := by decide +kernel
theorem d_TT_left_0 : decode b_TT_left 0 = .ok (.aload_n 0, 1) := by decide +kernel
theorem d_TT_left_1 : decode b_TT_left 1 = .ok (.aload_n 0, 1) := by decide +kernel
theorem d_TT_left_2 : decode b_TT_left 2 = .ok (.getfield 78, 3) := by decide +kernel
theorem d_TT_left_5 : decode b_TT_left 5 = .ok (.aload_n 0, 1) := by decide +kernel
theorem d_TT_left_6 : decode b_TT_left 6 = .ok (.getfield 81, 3) := by decide +kernel
theorem d_TT_left_9 : decode b_TT_left 9 = .ok (.iload_n 1, 1) := by decide +kernel
theorem d_TT_left_10 : decode b_TT_left 10 = .ok (.invokevirtual 87, 3) := by decide +kernel
theorem d_TT_left_13 : decode b_TT_left 13 = .ok (.ireturn, 1) := by decide +kernel
theorem d_TT_byteOf_0 : decode b_TT_byteOf 0 = .ok (.iload_n 3, 1) := by decide +kernel
theorem d_TT_byteOf_1 : decode b_TT_byteOf 1 = .ok (.ifCond .lt 8, 3) := by decide +kernel
theorem d_TT_byteOf_4 : decode b_TT_byteOf 4 = .ok (.iload_n 3, 1) := by decide +kernel
theorem d_TT_byteOf_5 : decode b_TT_byteOf 5 = .ok (.iload_n 2, 1) := by decide +kernel
theorem d_TT_byteOf_6 : decode b_TT_byteOf 6 = .ok (.if_icmp .lt 5, 3) := by decide +kernel
theorem d_TT_byteOf_9 : decode b_TT_byteOf 9 = .ok (.iconst (-1), 1) := by decide +kernel
theorem d_TT_byteOf_10 : decode b_TT_byteOf 10 = .ok (.ireturn, 1) := by decide +kernel
theorem d_TT_byteOf_11 : decode b_TT_byteOf 11 = .ok (.aload_n 0, 1) := by decide +kernel
theorem d_TT_byteOf_12 : decode b_TT_byteOf 12 = .ok (.getfield 18, 3) := by decide +kernel
theorem d_TT_byteOf_15 : decode b_TT_byteOf 15 = .ok (.iload_n 1, 1) := by decide +kernel
theorem d_TT_byteOf_16 : decode b_TT_byteOf 16 = .ok (.iload_n 3, 1) := by decide +kernel
theorem d_TT_byteOf_17 : decode b_TT_byteOf 17 = .ok (.iadd, 1) := by decide +kernel
theorem d_TT_byteOf_18 : decode b_TT_byteOf 18 = .ok (.baload, 1) := by decide +kernel
theorem d_TT_byteOf_19 : decode b_TT_byteOf 19 = .ok (.sipush 255, 3) := by decide +kernel
theorem d_TT_byteOf_22 : decode b_TT_byteOf 22 = .ok (.iand, 1) := by decide +kernel
theorem d_TT_byteOf_23 : decode b_TT_byteOf 23 = .ok (.ireturn, 1) := by decide +kernel
theorem d_TT_count_0 : decode b_TT_count 0 = .ok (.iload_n 1, 1) := by decide +kernel
theorem d_TT_count_1 : decode b_TT_count 1 = .ok (.tableswitch 51 0 3 #[31, 36, 41, 46], 31) := by decide +kernel
theorem d_TT_count_32 : decode b_TT_count 32 = .ok (.aload_n 0, 1) := by decide +kernel
theorem d_TT_count_33 : decode b_TT_count 33 = .ok (.getfield 75, 3) := by decide +kernel
theorem d_TT_count_36 : decode b_TT_count 36 = .ok (.ireturn, 1) := by decide +kernel
theorem d_TT_count_37 : decode b_TT_count 37 = .ok (.aload_n 0, 1) := by decide +kernel
theorem d_TT_count_38 : decode b_TT_count 38 = .ok (.getfield 53, 3) := by decide +kernel
theorem d_TT_count_41 : decode b_TT_count 41 = .ok (.ireturn, 1) := by decide +kernel
theorem d_TT_count_42 : decode b_TT_count 42 = .ok (.aload_n 0, 1) := by decide +kernel
theorem d_TT_count_43 : decode b_TT_count 43 = .ok (.getfield 90, 3) := by decide +kernel
theorem d_TT_count_46 : decode b_TT_count 46 = .ok (.ireturn, 1) := by decide +kernel
theorem d_TT_count_47 : decode b_TT_count 47 = .ok (.aload_n 0, 1) := by decide +kernel
theorem d_TT_count_48 : decode b_TT_count 48 = .ok (.getfield 81, 3) := by decide +kernel
theorem d_TT_count_51 : decode b_TT_count 51 = .ok (.ireturn, 1) := by decide +kernel
theorem d_TT_count_52 : decode b_TT_count 52 = .ok (.iconst (-1), 1) := by decide +kernel
theorem d_TT_count_53 : decode b_TT_count 53 = .ok (.ireturn, 1) := by decide +kernel
theorem d_TT_about_0 : decode b_TT_about 0 = .ok (.aload_n 0, 1) := by decide +kernel
theorem d_TT_about_1 : decode b_TT_about 1 = .ok (.iload_n 1, 1) := by decide +kernel
theorem d_TT_about_2 : decode b_TT_about 2 = .ok (.invokevirtual 93, 3) := by decide +kernel
theorem d_TT_about_5 : decode b_TT_about 5 = .ok (.ifCond .ne 5, 3) := by decide +kernel
theorem d_TT_about_8 : decode b_TT_about 8 = .ok (.iconst (-1), 1) := by decide +kernel
theorem d_TT_about_9 : decode b_TT_about 9 = .ok (.ireturn, 1) := by decide +kernel
theorem d_TT_about_10 : decode b_TT_about 10 = .ok (.iload_n 2, 1) := by decide +kernel
theorem d_TT_about_11 : decode b_TT_about 11 = .ok (.tableswitch 61 0 2 #[25, 37, 49], 25) := by decide +kernel
theorem d_TT_about_36 : decode b_TT_about 36 = .ok (.aload_n 0, 1) := by decide +kernel
theorem d_TT_about_37 : decode b_TT_about 37 = .ok (.getfield 26, 3) := by decide +kernel
theorem d_TT_about_40 : decode b_TT_about 40 = .ok (.aload_n 0, 1) := by decide +kernel
theorem d_TT_about_41 : decode b_TT_about 41 = .ok (.getfield 22, 3) := by decide +kernel
theorem d_TT_about_44 : decode b_TT_about 44 = .ok (.iload_n 1, 1) := by decide +kernel
theorem d_TT_about_45 : decode b_TT_about 45 = .ok (.iaload, 1) := by decide +kernel
theorem d_TT_about_46 : decode b_TT_about 46 = .ok (.iaload, 1) := by decide +kernel
theorem d_TT_about_47 : decode b_TT_about 47 = .ok (.ireturn, 1) := by decide +kernel
theorem d_TT_about_48 : decode b_TT_about 48 = .ok (.aload_n 0, 1) := by decide +kernel
theorem d_TT_about_49 : decode b_TT_about 49 = .ok (.getfield 29, 3) := by decide +kernel
theorem d_TT_about_52 : decode b_TT_about 52 = .ok (.aload_n 0, 1) := by decide +kernel
theorem d_TT_about_53 : decode b_TT_about 53 = .ok (.getfield 22, 3) := by decide +kernel
theorem d_TT_about_56 : decode b_TT_about 56 = .ok (.iload_n 1, 1) := by decide +kernel
theorem d_TT_about_57 : decode b_TT_about 57 = .ok (.iaload, 1) := by decide +kernel
theorem d_TT_about_58 : decode b_TT_about 58 = .ok (.iaload, 1) := by decide +kernel
theorem d_TT_about_59 : decode b_TT_about 59 = .ok (.ireturn, 1) := by decide +kernel
theorem d_TT_about_60 : decode b_TT_about 60 = .ok (.aload_n 0, 1) := by decide +kernel
theorem d_TT_about_61 : decode b_TT_about 61 = .ok (.getfield 35, 3) := by decide +kernel
theorem d_TT_about_64 : decode b_TT_about 64 = .ok (.aload_n 0, 1) := by decide +kernel
theorem d_TT_about_65 : decode b_TT_about 65 = .ok (.getfield 22, 3) := by decide +kernel
theorem d_TT_about_68 : decode b_TT_about 68 = .ok (.iload_n 1, 1) := by decide +kernel
theorem d_TT_about_69 : decode b_TT_about 69 = .ok (.iaload, 1) := by decide +kernel
theorem d_TT_about_70 : decode b_TT_about 70 = .ok (.iaload, 1) := by decide +kernel
theorem d_TT_about_71 : decode b_TT_about 71 = .ok (.ireturn, 1) := by decide +kernel
theorem d_TT_about_72 : decode b_TT_about 72 = .ok (.iconst (-1), 1) := by decide +kernel
theorem d_TT_about_73 : decode b_TT_about 73 = .ok (.ireturn, 1) := by decide +kernel
theorem d_TT_isWaiting_0 : decode b_TT_isWaiting 0 = .ok (.iload_n 1, 1) := by decide +kernel
theorem d_TT_isWaiting_1 : decode b_TT_isWaiting 1 = .ok (.ifCond .lt 15, 3) := by decide +kernel
theorem d_TT_isWaiting_4 : decode b_TT_isWaiting 4 = .ok (.iload_n 1, 1) := by decide +kernel
theorem d_TT_isWaiting_5 : decode b_TT_isWaiting 5 = .ok (.aload_n 0, 1) := by decide +kernel
theorem d_TT_isWaiting_6 : decode b_TT_isWaiting 6 = .ok (.getfield 53, 3) := by decide +kernel
theorem d_TT_isWaiting_9 : decode b_TT_isWaiting 9 = .ok (.if_icmp .ge 7, 3) := by decide +kernel
theorem d_TT_isWaiting_12 : decode b_TT_isWaiting 12 = .ok (.iconst 1, 1) := by decide +kernel
theorem d_TT_isWaiting_13 : decode b_TT_isWaiting 13 = .ok (.goto 4, 3) := by decide +kernel
theorem d_TT_isWaiting_16 : decode b_TT_isWaiting 16 = .ok (.iconst 0, 1) := by decide +kernel
theorem d_TT_isWaiting_17 : decode b_TT_isWaiting 17 = .ok (.ireturn, 1) := by decide +kernel
theorem d_TT_byteAt_0 : decode b_TT_byteAt 0 = .ok (.aload_n 0, 1) := by decide +kernel
theorem d_TT_byteAt_1 : decode b_TT_byteAt 1 = .ok (.iload_n 1, 1) := by decide +kernel
theorem d_TT_byteAt_2 : decode b_TT_byteAt 2 = .ok (.invokevirtual 93, 3) := by decide +kernel
theorem d_TT_byteAt_5 : decode b_TT_byteAt 5 = .ok (.ifCond .ne 5, 3) := by decide +kernel
theorem d_TT_byteAt_8 : decode b_TT_byteAt 8 = .ok (.iconst (-1), 1) := by decide +kernel
theorem d_TT_byteAt_9 : decode b_TT_byteAt 9 = .ok (.ireturn, 1) := by decide +kernel
theorem d_TT_byteAt_10 : decode b_TT_byteAt 10 = .ok (.aload_n 0, 1) := by decide +kernel
theorem d_TT_byteAt_11 : decode b_TT_byteAt 11 = .ok (.aload_n 0, 1) := by decide +kernel
theorem d_TT_byteAt_12 : decode b_TT_byteAt 12 = .ok (.getfield 32, 3) := by decide +kernel
theorem d_TT_byteAt_15 : decode b_TT_byteAt 15 = .ok (.aload_n 0, 1) := by decide +kernel
theorem d_TT_byteAt_16 : decode b_TT_byteAt 16 = .ok (.getfield 22, 3) := by decide +kernel
theorem d_TT_byteAt_19 : decode b_TT_byteAt 19 = .ok (.iload_n 1, 1) := by decide +kernel
theorem d_TT_byteAt_20 : decode b_TT_byteAt 20 = .ok (.iaload, 1) := by decide +kernel
theorem d_TT_byteAt_21 : decode b_TT_byteAt 21 = .ok (.iaload, 1) := by decide +kernel
theorem d_TT_byteAt_22 : decode b_TT_byteAt 22 = .ok (.aload_n 0, 1) := by decide +kernel
theorem d_TT_byteAt_23 : decode b_TT_byteAt 23 = .ok (.getfield 35, 3) := by decide +kernel
theorem d_TT_byteAt_26 : decode b_TT_byteAt 26 = .ok (.aload_n 0, 1) := by decide +kernel
theorem d_TT_byteAt_27 : decode b_TT_byteAt 27 = .ok (.getfield 22, 3) := by decide +kernel
theorem d_TT_byteAt_30 : decode b_TT_byteAt 30 = .ok (.iload_n 1, 1) := by decide +kernel
theorem d_TT_byteAt_31 : decode b_TT_byteAt 31 = .ok (.iaload, 1) := by decide +kernel
theorem d_TT_byteAt_32 : decode b_TT_byteAt 32 = .ok (.iaload, 1) := by decide +kernel
theorem d_TT_byteAt_33 : decode b_TT_byteAt 33 = .ok (.iload_n 2, 1) := by decide +kernel
theorem d_TT_byteAt_34 : decode b_TT_byteAt 34 = .ok (.invokevirtual 87, 3) := by decide +kernel
theorem d_TT_byteAt_37 : decode b_TT_byteAt 37 = .ok (.ireturn, 1) := by decide +kernel
end
section
theorem d_TM_init_0 : decode b_TM_init 0 = .ok (.aload_n 0, 1) := by decide +kernel
theorem d_TM_init_1 : decode b_TM_init 1 = .ok (.invokespecial 1, 3) := by decide +kernel
theorem d_TM_init_4 : decode b_TM_init 4 = .ok (.aload_n 0, 1) := by decide +kernel
theorem d_TM_init_5 : decode b_TM_init 5 = .ok (.sipush 256, 3) := by decide +kernel
theorem d_TM_init_8 : decode b_TM_init 8 = .ok (.newarray .byte, 2) := by decide +kernel
theorem d_TM_init_10 : decode b_TM_init 10 = .ok (.putfield 7, 3) := by decide +kernel
theorem d_TM_init_13 : decode b_TM_init 13 = .ok (.aload_n 0, 1) := by decide +kernel
theorem d_TM_init_14 : decode b_TM_init 14 = .ok (.sipush 256, 3) := by decide +kernel
theorem d_TM_init_17 : decode b_TM_init 17 = .ok (.newarray .byte, 2) := by decide +kernel
theorem d_TM_init_19 : decode b_TM_init 19 = .ok (.putfield 13, 3) := by decide +kernel
theorem d_TM_init_22 : decode b_TM_init 22 = .ok (.aload_n 0, 1) := by decide +kernel
theorem d_TM_init_23 : decode b_TM_init 23 = .ok (.sipush 1024, 3) := by decide +kernel
theorem d_TM_init_26 : decode b_TM_init 26 = .ok (.newarray .int, 2) := by decide +kernel
theorem d_TM_init_28 : decode b_TM_init 28 = .ok (.putfield 16, 3) := by decide +kernel
theorem d_TM_init_31 : decode b_TM_init 31 = .ok (.aload_n 0, 1) := by decide +kernel
theorem d_TM_init_32 : decode b_TM_init 32 = .ok (.sipush 1024, 3) := by decide +kernel
theorem d_TM_init_35 : decode b_TM_init 35 = .ok (.newarray .int, 2) := by decide +kernel
theorem d_TM_init_37 : decode b_TM_init 37 = .ok (.putfield 20, 3) := by decide +kernel
theorem d_TM_init_40 : decode b_TM_init 40 = .ok (.aload_n 0, 1) := by decide +kernel
theorem d_TM_init_41 : decode b_TM_init 41 = .ok (.sipush 1024, 3) := by decide +kernel
theorem d_TM_init_44 : decode b_TM_init 44 = .ok (.newarray .int, 2) := by decide +kernel
theorem d_TM_init_46 : decode b_TM_init 46 = .ok (.putfield 23, 3) := by decide +kernel
theorem d_TM_init_49 : decode b_TM_init 49 = .ok (.aload_n 0, 1) := by decide +kernel
theorem d_TM_init_50 : decode b_TM_init 50 = .ok (.sipush 1024, 3) := by decide +kernel
theorem d_TM_init_53 : decode b_TM_init 53 = .ok (.newarray .int, 2) := by decide +kernel
theorem d_TM_init_55 : decode b_TM_init 55 = .ok (.putfield 26, 3) := by decide +kernel
theorem d_TM_init_58 : decode b_TM_init 58 = .ok (.aload_n 0, 1) := by decide +kernel
theorem d_TM_init_59 : decode b_TM_init 59 = .ok (.sipush 1024, 3) := by decide +kernel
theorem d_TM_init_62 : decode b_TM_init 62 = .ok (.newarray .boolean, 2) := by decide +kernel
theorem d_TM_init_64 : decode b_TM_init 64 = .ok (.putfield 29, 3) := by decide +kernel
theorem d_TM_init_67 : decode b_TM_init 67 = .ok (.aload_n 0, 1) := by decide +kernel
theorem d_TM_init_68 : decode b_TM_init 68 = .ok (.ldc 33, 2) := by decide +kernel
theorem d_TM_init_70 : decode b_TM_init 70 = .ok (.newarray .byte, 2) := by decide +kernel
theorem d_TM_init_72 : decode b_TM_init 72 = .ok (.putfield 34, 3) := by decide +kernel
theorem d_TM_init_75 : decode b_TM_init 75 = .ok (.aload_n 0, 1) := by decide +kernel
theorem d_TM_init_76 : decode b_TM_init 76 = .ok (.iload_n 1, 1) := by decide +kernel
theorem d_TM_init_77 : decode b_TM_init 77 = .ok (.iconst 1, 1) := by decide +kernel
theorem d_TM_init_78 : decode b_TM_init 78 = .ok (.if_icmp .ge 7, 3) := by decide +kernel
theorem d_TM_init_81 : decode b_TM_init 81 = .ok (.iconst 1, 1) := by decide +kernel
theorem d_TM_init_82 : decode b_TM_init 82 = .ok (.goto 17, 3) := by decide +kernel
theorem d_TM_init_85 : decode b_TM_init 85 = .ok (.iload_n 1, 1) := by decide +kernel
theorem d_TM_init_86 : decode b_TM_init 86 = .ok (.sipush 1024, 3) := by decide +kernel
theorem d_TM_init_89 : decode b_TM_init 89 = .ok (.if_icmp .le 9, 3) := by decide +kernel
theorem d_TM_init_92 : decode b_TM_init 92 = .ok (.sipush 1024, 3) := by decide +kernel
theorem d_TM_init_95 : decode b_TM_init 95 = .ok (.goto 4, 3) := by decide +kernel
theorem d_TM_init_98 : decode b_TM_init 98 = .ok (.iload_n 1, 1) := by decide +kernel
theorem d_TM_init_99 : decode b_TM_init 99 = .ok (.putfield 37, 3) := by decide +kernel
theorem d_TM_init_102 : decode b_TM_init 102 = .ok (.return_, 1) := by decide +kernel
theorem d_TM_put_0 : decode b_TM_put 0 = .ok (.aload_n 0, 1) := by decide +kernel
theorem d_TM_put_1 : decode b_TM_put 1 = .ok (.iconst 0, 1) := by decide +kernel
theorem d_TM_put_2 : decode b_TM_put 2 = .ok (.putfield 41, 3) := by decide +kernel
theorem d_TM_put_5 : decode b_TM_put 5 = .ok (.aload_n 0, 1) := by decide +kernel
theorem d_TM_put_6 : decode b_TM_put 6 = .ok (.getfield 47, 3) := by decide +kernel
theorem d_TM_put_9 : decode b_TM_put 9 = .ok (.sipush 256, 3) := by decide +kernel
theorem d_TM_put_12 : decode b_TM_put 12 = .ok (.if_icmp .ne 5, 3) := by decide +kernel
theorem d_TM_put_15 : decode b_TM_put 15 = .ok (.iconst (-1), 1) := by decide +kernel
theorem d_TM_put_16 : decode b_TM_put 16 = .ok (.ireturn, 1) := by decide +kernel
theorem d_TM_put_17 : decode b_TM_put 17 = .ok (.aload_n 0, 1) := by decide +kernel
theorem d_TM_put_18 : decode b_TM_put 18 = .ok (.getfield 7, 3) := by decide +kernel
theorem d_TM_put_21 : decode b_TM_put 21 = .ok (.aload_n 0, 1) := by decide +kernel
theorem d_TM_put_22 : decode b_TM_put 22 = .ok (.getfield 47, 3) := by decide +kernel
theorem d_TM_put_25 : decode b_TM_put 25 = .ok (.iload_n 1, 1) := by decide +kernel
theorem d_TM_put_26 : decode b_TM_put 26 = .ok (.i2b, 1) := by decide +kernel
theorem d_TM_put_27 : decode b_TM_put 27 = .ok (.bastore, 1) := by decide +kernel
theorem d_TM_put_28 : decode b_TM_put 28 = .ok (.aload_n 0, 1) := by decide +kernel
theorem d_TM_put_29 : decode b_TM_put 29 = .ok (.dup, 1) := by decide +kernel
theorem d_TM_put_30 : decode b_TM_put 30 = .ok (.getfield 47, 3) := by decide +kernel
theorem d_TM_put_33 : decode b_TM_put 33 = .ok (.iconst 1, 1) := by decide +kernel
theorem d_TM_put_34 : decode b_TM_put 34 = .ok (.iadd, 1) := by decide +kernel
theorem d_TM_put_35 : decode b_TM_put 35 = .ok (.putfield 47, 3) := by decide +kernel
theorem d_TM_put_38 : decode b_TM_put 38 = .ok (.aload_n 0, 1) := by decide +kernel
theorem d_TM_put_39 : decode b_TM_put 39 = .ok (.getfield 47, 3) := by decide +kernel
theorem d_TM_put_42 : decode b_TM_put 42 = .ok (.ireturn, 1) := by decide +kernel
theorem d_TM_insert_0 : decode b_TM_insert 0 = .ok (.aload_n 0, 1) := by decide +kernel
theorem d_TM_insert_1 : decode b_TM_insert 1 = .ok (.iconst 0, 1) := by decide +kernel
theorem d_TM_insert_2 : decode b_TM_insert 2 = .ok (.putfield 41, 3) := by decide +kernel
theorem d_TM_insert_5 : decode b_TM_insert 5 = .ok (.aload_n 0, 1) := by decide +kernel
theorem d_TM_insert_6 : decode b_TM_insert 6 = .ok (.getfield 47, 3) := by decide +kernel
theorem d_TM_insert_9 : decode b_TM_insert 9 = .ok (.istore_n 3, 1) := by decide +kernel
theorem d_TM_insert_10 : decode b_TM_insert 10 = .ok (.aload_n 0, 1) := by decide +kernel
theorem d_TM_insert_11 : decode b_TM_insert 11 = .ok (.iconst 0, 1) := by decide +kernel
theorem d_TM_insert_12 : decode b_TM_insert 12 = .ok (.putfield 47, 3) := by decide +kernel
theorem d_TM_insert_15 : decode b_TM_insert 15 = .ok (.iload_n 3, 1) := by decide +kernel
theorem d_TM_insert_16 : decode b_TM_insert 16 = .ok (.ifCond .ne 5, 3) := by decide +kernel
theorem d_TM_insert_19 : decode b_TM_insert 19 = .ok (.iconst 1, 1) := by decide +kernel
theorem d_TM_insert_20 : decode b_TM_insert 20 = .ok (.ireturn, 1) := by decide +kernel
theorem d_TM_insert_21 : decode b_TM_insert 21 = .ok (.iload_n 2, 1) := by decide +kernel
theorem d_TM_insert_22 : decode b_TM_insert 22 = .ok (.aload_n 0, 1) := by decide +kernel
theorem d_TM_insert_23 : decode b_TM_insert 23 = .ok (.getfield 50, 3) := by decide +kernel
theorem d_TM_insert_26 : decode b_TM_insert 26 = .ok (.if_icmp .gt 5, 3) := by decide +kernel
theorem d_TM_insert_29 : decode b_TM_insert 29 = .ok (.iconst 2, 1) := by decide +kernel
theorem d_TM_insert_30 : decode b_TM_insert 30 = .ok (.ireturn, 1) := by decide +kernel
theorem d_TM_insert_31 : decode b_TM_insert 31 = .ok (.aload_n 0, 1) := by decide +kernel
theorem d_TM_insert_32 : decode b_TM_insert 32 = .ok (.getfield 44, 3) := by decide +kernel
theorem d_TM_insert_35 : decode b_TM_insert 35 = .ok (.aload_n 0, 1) := by decide +kernel
theorem d_TM_insert_36 : decode b_TM_insert 36 = .ok (.getfield 37, 3) := by decide +kernel
theorem d_TM_insert_39 : decode b_TM_insert 39 = .ok (.if_icmp .ne 5, 3) := by decide +kernel
theorem d_TM_insert_42 : decode b_TM_insert 42 = .ok (.iconst 3, 1) := by decide +kernel
theorem d_TM_insert_43 : decode b_TM_insert 43 = .ok (.ireturn, 1) := by decide +kernel
theorem d_TM_insert_44 : decode b_TM_insert 44 = .ok (.iconst 0, 1) := by decide +kernel
theorem d_TM_insert_45 : decode b_TM_insert 45 = .ok (.istore 4, 2) := by decide +kernel
theorem d_TM_insert_47 : decode b_TM_insert 47 = .ok (.aload_n 0, 1) := by decide +kernel
theorem d_TM_insert_48 : decode b_TM_insert 48 = .ok (.getfield 29, 3) := by decide +kernel
theorem d_TM_insert_51 : decode b_TM_insert 51 = .ok (.iload 4, 2) := by decide +kernel
theorem d_TM_insert_53 : decode b_TM_insert 53 = .ok (.baload, 1) := by decide +kernel
theorem d_TM_insert_54 : decode b_TM_insert 54 = .ok (.ifCond .eq 9, 3) := by decide +kernel
theorem d_TM_insert_57 : decode b_TM_insert 57 = .ok (.iinc 4 1, 3) := by decide +kernel
theorem d_TM_insert_60 : decode b_TM_insert 60 = .ok (.goto (-13), 3) := by decide +kernel
theorem d_TM_insert_63 : decode b_TM_insert 63 = .ok (.aload_n 0, 1) := by decide +kernel
theorem d_TM_insert_64 : decode b_TM_insert 64 = .ok (.getfield 29, 3) := by decide +kernel
theorem d_TM_insert_67 : decode b_TM_insert 67 = .ok (.iload 4, 2) := by decide +kernel
theorem d_TM_insert_69 : decode b_TM_insert 69 = .ok (.iconst 1, 1) := by decide +kernel
theorem d_TM_insert_70 : decode b_TM_insert 70 = .ok (.bastore, 1) := by decide +kernel
theorem d_TM_insert_71 : decode b_TM_insert 71 = .ok (.iconst 0, 1) := by decide +kernel
theorem d_TM_insert_72 : decode b_TM_insert 72 = .ok (.istore 5, 2) := by decide +kernel
theorem d_TM_insert_74 : decode b_TM_insert 74 = .ok (.iload 5, 2) := by decide +kernel
theorem d_TM_insert_76 : decode b_TM_insert 76 = .ok (.iload_n 3, 1) := by decide +kernel
theorem d_TM_insert_77 : decode b_TM_insert 77 = .ok (.if_icmp .ge 30, 3) := by decide +kernel
theorem d_TM_insert_80 : decode b_TM_insert 80 = .ok (.aload_n 0, 1) := by decide +kernel
theorem d_TM_insert_81 : decode b_TM_insert 81 = .ok (.getfield 34, 3) := by decide +kernel
theorem d_TM_insert_84 : decode b_TM_insert 84 = .ok (.sipush 256, 3) := by decide +kernel
theorem d_TM_insert_87 : decode b_TM_insert 87 = .ok (.iload 4, 2) := by decide +kernel
theorem d_TM_insert_89 : decode b_TM_insert 89 = .ok (.imul, 1) := by decide +kernel
theorem d_TM_insert_90 : decode b_TM_insert 90 = .ok (.iload 5, 2) := by decide +kernel
theorem d_TM_insert_92 : decode b_TM_insert 92 = .ok (.iadd, 1) := by decide +kernel
theorem d_TM_insert_93 : decode b_TM_insert 93 = .ok (.aload_n 0, 1) := by decide +kernel
theorem d_TM_insert_94 : decode b_TM_insert 94 = .ok (.getfield 7, 3) := by decide +kernel
theorem d_TM_insert_97 : decode b_TM_insert 97 = .ok (.iload 5, 2) := by decide +kernel
theorem d_TM_insert_99 : decode b_TM_insert 99 = .ok (.baload, 1) := by decide +kernel
theorem d_TM_insert_100 : decode b_TM_insert 100 = .ok (.bastore, 1) := by decide +kernel
theorem d_TM_insert_101 : decode b_TM_insert 101 = .ok (.iinc 5 1, 3) := by decide +kernel
theorem d_TM_insert_104 : decode b_TM_insert 104 = .ok (.goto (-30), 3) := by decide +kernel
theorem d_TM_insert_107 : decode b_TM_insert 107 = .ok (.aload_n 0, 1) := by decide +kernel
theorem d_TM_insert_108 : decode b_TM_insert 108 = .ok (.getfield 16, 3) := by decide +kernel
theorem d_TM_insert_111 : decode b_TM_insert 111 = .ok (.aload_n 0, 1) := by decide +kernel
theorem d_TM_insert_112 : decode b_TM_insert 112 = .ok (.getfield 44, 3) := by decide +kernel
theorem d_TM_insert_115 : decode b_TM_insert 115 = .ok (.iload_n 1, 1) := by decide +kernel
theorem d_TM_insert_116 : decode b_TM_insert 116 = .ok (.iastore, 1) := by decide +kernel
theorem d_TM_insert_117 : decode b_TM_insert 117 = .ok (.aload_n 0, 1) := by decide +kernel
theorem d_TM_insert_118 : decode b_TM_insert 118 = .ok (.getfield 20, 3) := by decide +kernel
theorem d_TM_insert_121 : decode b_TM_insert 121 = .ok (.aload_n 0, 1) := by decide +kernel
theorem d_TM_insert_122 : decode b_TM_insert 122 = .ok (.getfield 44, 3) := by decide +kernel
theorem d_TM_insert_125 : decode b_TM_insert 125 = .ok (.iload_n 2, 1) := by decide +kernel
theorem d_TM_insert_126 : decode b_TM_insert 126 = .ok (.iastore, 1) := by decide +kernel
theorem d_TM_insert_127 : decode b_TM_insert 127 = .ok (.aload_n 0, 1) := by decide +kernel
theorem d_TM_insert_128 : decode b_TM_insert 128 = .ok (.getfield 23, 3) := by decide +kernel
theorem d_TM_insert_131 : decode b_TM_insert 131 = .ok (.aload_n 0, 1) := by decide +kernel
theorem d_TM_insert_132 : decode b_TM_insert 132 = .ok (.getfield 44, 3) := by decide +kernel
theorem d_TM_insert_135 : decode b_TM_insert 135 = .ok (.iload_n 3, 1) := by decide +kernel
theorem d_TM_insert_136 : decode b_TM_insert 136 = .ok (.iastore, 1) := by decide +kernel
theorem d_TM_insert_137 : decode b_TM_insert 137 = .ok (.aload_n 0, 1) := by decide +kernel
theorem d_TM_insert_138 : decode b_TM_insert 138 = .ok (.getfield 26, 3) := by decide +kernel
theorem d_TM_insert_141 : decode b_TM_insert 141 = .ok (.aload_n 0, 1) := by decide +kernel
theorem d_TM_insert_142 : decode b_TM_insert 142 = .ok (.getfield 44, 3) := by decide +kernel
theorem d_TM_insert_145 : decode b_TM_insert 145 = .ok (.iload 4, 2) := by decide +kernel
theorem d_TM_insert_147 : decode b_TM_insert 147 = .ok (.iastore, 1) := by decide +kernel
theorem d_TM_insert_148 : decode b_TM_insert 148 = .ok (.aload_n 0, 1) := by decide +kernel
theorem d_TM_insert_149 : decode b_TM_insert 149 = .ok (.dup, 1) := by decide +kernel
theorem d_TM_insert_150 : decode b_TM_insert 150 = .ok (.getfield 44, 3) := by decide +kernel
theorem d_TM_insert_153 : decode b_TM_insert 153 = .ok (.iconst 1, 1) := by decide +kernel
theorem d_TM_insert_154 : decode b_TM_insert 154 = .ok (.iadd, 1) := by decide +kernel
theorem d_TM_insert_155 : decode b_TM_insert 155 = .ok (.putfield 44, 3) := by decide +kernel
theorem d_TM_insert_158 : decode b_TM_insert 158 = .ok (.aload_n 0, 1) := by decide +kernel
theorem d_TM_insert_159 : decode b_TM_insert 159 = .ok (.dup, 1) := by decide +kernel
theorem d_TM_insert_160 : decode b_TM_insert 160 = .ok (.getfield 53, 3) := by decide +kernel
theorem d_TM_insert_163 : decode b_TM_insert 163 = .ok (.iconst 1, 1) := by decide +kernel
theorem d_TM_insert_164 : decode b_TM_insert 164 = .ok (.iadd, 1) := by decide +kernel
theorem d_TM_insert_165 : decode b_TM_insert 165 = .ok (.putfield 53, 3) := by decide +kernel
theorem d_TM_insert_168 : decode b_TM_insert 168 = .ok (.iconst 0, 1) := by decide +kernel
theorem d_TM_insert_169 : decode b_TM_insert 169 = .ok (.ireturn, 1) := by decide +kernel
theorem d_TM_remove_0 : decode b_TM_remove 0 = .ok (.aload_n 0, 1) := by decide +kernel
theorem d_TM_remove_1 : decode b_TM_remove 1 = .ok (.iconst 0, 1) := by decide +kernel
theorem d_TM_remove_2 : decode b_TM_remove 2 = .ok (.putfield 41, 3) := by decide +kernel
theorem d_TM_remove_5 : decode b_TM_remove 5 = .ok (.iconst 0, 1) := by decide +kernel
theorem d_TM_remove_6 : decode b_TM_remove 6 = .ok (.istore_n 2, 1) := by decide +kernel
theorem d_TM_remove_7 : decode b_TM_remove 7 = .ok (.aload_n 0, 1) := by decide +kernel
theorem d_TM_remove_8 : decode b_TM_remove 8 = .ok (.getfield 44, 3) := by decide +kernel
theorem d_TM_remove_11 : decode b_TM_remove 11 = .ok (.iconst 1, 1) := by decide +kernel
theorem d_TM_remove_12 : decode b_TM_remove 12 = .ok (.isub, 1) := by decide +kernel
theorem d_TM_remove_13 : decode b_TM_remove 13 = .ok (.istore_n 3, 1) := by decide +kernel
theorem d_TM_remove_14 : decode b_TM_remove 14 = .ok (.iload_n 3, 1) := by decide +kernel
theorem d_TM_remove_15 : decode b_TM_remove 15 = .ok (.ifCond .lt 27, 3) := by decide +kernel
theorem d_TM_remove_18 : decode b_TM_remove 18 = .ok (.aload_n 0, 1) := by decide +kernel
theorem d_TM_remove_19 : decode b_TM_remove 19 = .ok (.getfield 16, 3) := by decide +kernel
theorem d_TM_remove_22 : decode b_TM_remove 22 = .ok (.iload_n 3, 1) := by decide +kernel
theorem d_TM_remove_23 : decode b_TM_remove 23 = .ok (.iaload, 1) := by decide +kernel
theorem d_TM_remove_24 : decode b_TM_remove 24 = .ok (.iload_n 1, 1) := by decide +kernel
theorem d_TM_remove_25 : decode b_TM_remove 25 = .ok (.if_icmp .ne 11, 3) := by decide +kernel
theorem d_TM_remove_28 : decode b_TM_remove 28 = .ok (.aload_n 0, 1) := by decide +kernel
theorem d_TM_remove_29 : decode b_TM_remove 29 = .ok (.iload_n 3, 1) := by decide +kernel
theorem d_TM_remove_30 : decode b_TM_remove 30 = .ok (.invokevirtual 56, 3) := by decide +kernel
theorem d_TM_remove_33 : decode b_TM_remove 33 = .ok (.iinc 2 1, 3) := by decide +kernel
theorem d_TM_remove_36 : decode b_TM_remove 36 = .ok (.iinc 3 (-1), 3) := by decide +kernel
theorem d_TM_remove_39 : decode b_TM_remove 39 = .ok (.goto (-25), 3) := by decide +kernel
theorem d_TM_remove_42 : decode b_TM_remove 42 = .ok (.iload_n 2, 1) := by decide +kernel
theorem d_TM_remove_43 : decode b_TM_remove 43 = .ok (.ireturn, 1) := by decide +kernel
theorem d_TM_drop_0 : decode b_TM_drop 0 = .ok (.aload_n 0, 1) := by decide +kernel
theorem d_TM_drop_1 : decode b_TM_drop 1 = .ok (.getfield 29, 3) := by decide +kernel
theorem d_TM_drop_4 : decode b_TM_drop 4 = .ok (.aload_n 0, 1) := by decide +kernel
theorem d_TM_drop_5 : decode b_TM_drop 5 = .ok (.getfield 26, 3) := by decide +kernel
theorem d_TM_drop_8 : decode b_TM_drop 8 = .ok (.iload_n 1, 1) := by decide +kernel
theorem d_TM_drop_9 : decode b_TM_drop 9 = .ok (.iaload, 1) := by decide +kernel
theorem d_TM_drop_10 : decode b_TM_drop 10 = .ok (.iconst 0, 1) := by decide +kernel
theorem d_TM_drop_11 : decode b_TM_drop 11 = .ok (.bastore, 1) := by decide +kernel
theorem d_TM_drop_12 : decode b_TM_drop 12 = .ok (.aload_n 0, 1) := by decide +kernel
theorem d_TM_drop_13 : decode b_TM_drop 13 = .ok (.dup, 1) := by decide +kernel
theorem d_TM_drop_14 : decode b_TM_drop 14 = .ok (.getfield 44, 3) := by decide +kernel
theorem d_TM_drop_17 : decode b_TM_drop 17 = .ok (.iconst 1, 1) := by decide +kernel
theorem d_TM_drop_18 : decode b_TM_drop 18 = .ok (.isub, 1) := by decide +kernel
theorem d_TM_drop_19 : decode b_TM_drop 19 = .ok (.putfield 44, 3) := by decide +kernel
theorem d_TM_drop_22 : decode b_TM_drop 22 = .ok (.iload_n 1, 1) := by decide +kernel
theorem d_TM_drop_23 : decode b_TM_drop 23 = .ok (.istore_n 2, 1) := by decide +kernel
theorem d_TM_drop_24 : decode b_TM_drop 24 = .ok (.iload_n 2, 1) := by decide +kernel
theorem d_TM_drop_25 : decode b_TM_drop 25 = .ok (.aload_n 0, 1) := by decide +kernel
theorem d_TM_drop_26 : decode b_TM_drop 26 = .ok (.getfield 44, 3) := by decide +kernel
theorem d_TM_drop_29 : decode b_TM_drop 29 = .ok (.if_icmp .ge 65, 3) := by decide +kernel
theorem d_TM_drop_32 : decode b_TM_drop 32 = .ok (.aload_n 0, 1) := by decide +kernel
theorem d_TM_drop_33 : decode b_TM_drop 33 = .ok (.getfield 16, 3) := by decide +kernel
theorem d_TM_drop_36 : decode b_TM_drop 36 = .ok (.iload_n 2, 1) := by decide +kernel
theorem d_TM_drop_37 : decode b_TM_drop 37 = .ok (.aload_n 0, 1) := by decide +kernel
theorem d_TM_drop_38 : decode b_TM_drop 38 = .ok (.getfield 16, 3) := by decide +kernel
theorem d_TM_drop_41 : decode b_TM_drop 41 = .ok (.iload_n 2, 1) := by decide +kernel
theorem d_TM_drop_42 : decode b_TM_drop 42 = .ok (.iconst 1, 1) := by decide +kernel
theorem d_TM_drop_43 : decode b_TM_drop 43 = .ok (.iadd, 1) := by decide +kernel
theorem d_TM_drop_44 : decode b_TM_drop 44 = .ok (.iaload, 1) := by decide +kernel
theorem d_TM_drop_45 : decode b_TM_drop 45 = .ok (.iastore, 1) := by decide +kernel
theorem d_TM_drop_46 : decode b_TM_drop 46 = .ok (.aload_n 0, 1) := by decide +kernel
theorem d_TM_drop_47 : decode b_TM_drop 47 = .ok (.getfield 20, 3) := by decide +kernel
theorem d_TM_drop_50 : decode b_TM_drop 50 = .ok (.iload_n 2, 1) := by decide +kernel
theorem d_TM_drop_51 : decode b_TM_drop 51 = .ok (.aload_n 0, 1) := by decide +kernel
theorem d_TM_drop_52 : decode b_TM_drop 52 = .ok (.getfield 20, 3) := by decide +kernel
theorem d_TM_drop_55 : decode b_TM_drop 55 = .ok (.iload_n 2, 1) := by decide +kernel
theorem d_TM_drop_56 : decode b_TM_drop 56 = .ok (.iconst 1, 1) := by decide +kernel
theorem d_TM_drop_57 : decode b_TM_drop 57 = .ok (.iadd, 1) := by decide +kernel
theorem d_TM_drop_58 : decode b_TM_drop 58 = .ok (.iaload, 1) := by decide +kernel
theorem d_TM_drop_59 : decode b_TM_drop 59 = .ok (.iastore, 1) := by decide +kernel
theorem d_TM_drop_60 : decode b_TM_drop 60 = .ok (.aload_n 0, 1) := by decide +kernel
theorem d_TM_drop_61 : decode b_TM_drop 61 = .ok (.getfield 23, 3) := by decide +kernel
theorem d_TM_drop_64 : decode b_TM_drop 64 = .ok (.iload_n 2, 1) := by decide +kernel
theorem d_TM_drop_65 : decode b_TM_drop 65 = .ok (.aload_n 0, 1) := by decide +kernel
theorem d_TM_drop_66 : decode b_TM_drop 66 = .ok (.getfield 23, 3) := by decide +kernel
theorem d_TM_drop_69 : decode b_TM_drop 69 = .ok (.iload_n 2, 1) := by decide +kernel
theorem d_TM_drop_70 : decode b_TM_drop 70 = .ok (.iconst 1, 1) := by decide +kernel
theorem d_TM_drop_71 : decode b_TM_drop 71 = .ok (.iadd, 1) := by decide +kernel
theorem d_TM_drop_72 : decode b_TM_drop 72 = .ok (.iaload, 1) := by decide +kernel
theorem d_TM_drop_73 : decode b_TM_drop 73 = .ok (.iastore, 1) := by decide +kernel
theorem d_TM_drop_74 : decode b_TM_drop 74 = .ok (.aload_n 0, 1) := by decide +kernel
theorem d_TM_drop_75 : decode b_TM_drop 75 = .ok (.getfield 26, 3) := by decide +kernel
theorem d_TM_drop_78 : decode b_TM_drop 78 = .ok (.iload_n 2, 1) := by decide +kernel
theorem d_TM_drop_79 : decode b_TM_drop 79 = .ok (.aload_n 0, 1) := by decide +kernel
theorem d_TM_drop_80 : decode b_TM_drop 80 = .ok (.getfield 26, 3) := by decide +kernel
theorem d_TM_drop_83 : decode b_TM_drop 83 = .ok (.iload_n 2, 1) := by decide +kernel
theorem d_TM_drop_84 : decode b_TM_drop 84 = .ok (.iconst 1, 1) := by decide +kernel
theorem d_TM_drop_85 : decode b_TM_drop 85 = .ok (.iadd, 1) := by decide +kernel
theorem d_TM_drop_86 : decode b_TM_drop 86 = .ok (.iaload, 1) := by decide +kernel
theorem d_TM_drop_87 : decode b_TM_drop 87 = .ok (.iastore, 1) := by decide +kernel
theorem d_TM_drop_88 : decode b_TM_drop 88 = .ok (.iinc 2 1, 3) := by decide +kernel
theorem d_TM_drop_91 : decode b_TM_drop 91 = .ok (.goto (-67), 3) := by decide +kernel
theorem d_TM_drop_94 : decode b_TM_drop 94 = .ok (.return_, 1) := by decide +kernel
theorem d_TM_removeSpan_0 : decode b_TM_removeSpan 0 = .ok (.aload_n 0, 1) := by decide +kernel
theorem d_TM_removeSpan_1 : decode b_TM_removeSpan 1 = .ok (.iconst 0, 1) := by decide +kernel
theorem d_TM_removeSpan_2 : decode b_TM_removeSpan 2 = .ok (.putfield 41, 3) := by decide +kernel
theorem d_TM_removeSpan_5 : decode b_TM_removeSpan 5 = .ok (.iconst 0, 1) := by decide +kernel
theorem d_TM_removeSpan_6 : decode b_TM_removeSpan 6 = .ok (.istore_n 3, 1) := by decide +kernel
theorem d_TM_removeSpan_7 : decode b_TM_removeSpan 7 = .ok (.aload_n 0, 1) := by decide +kernel
theorem d_TM_removeSpan_8 : decode b_TM_removeSpan 8 = .ok (.getfield 44, 3) := by decide +kernel
theorem d_TM_removeSpan_11 : decode b_TM_removeSpan 11 = .ok (.iconst 1, 1) := by decide +kernel
theorem d_TM_removeSpan_12 : decode b_TM_removeSpan 12 = .ok (.isub, 1) := by decide +kernel
theorem d_TM_removeSpan_13 : decode b_TM_removeSpan 13 = .ok (.istore 4, 2) := by decide +kernel
theorem d_TM_removeSpan_15 : decode b_TM_removeSpan 15 = .ok (.iload 4, 2) := by decide +kernel
theorem d_TM_removeSpan_17 : decode b_TM_removeSpan 17 = .ok (.ifCond .lt 29, 3) := by decide +kernel
theorem d_TM_removeSpan_20 : decode b_TM_removeSpan 20 = .ok (.aload_n 0, 1) := by decide +kernel
theorem d_TM_removeSpan_21 : decode b_TM_removeSpan 21 = .ok (.iload 4, 2) := by decide +kernel
theorem d_TM_removeSpan_23 : decode b_TM_removeSpan 23 = .ok (.iload_n 1, 1) := by decide +kernel
theorem d_TM_removeSpan_24 : decode b_TM_removeSpan 24 = .ok (.iload_n 2, 1) := by decide +kernel
theorem d_TM_removeSpan_25 : decode b_TM_removeSpan 25 = .ok (.invokevirtual 60, 3) := by decide +kernel
theorem d_TM_removeSpan_28 : decode b_TM_removeSpan 28 = .ok (.ifCond .eq 12, 3) := by decide +kernel
theorem d_TM_removeSpan_31 : decode b_TM_removeSpan 31 = .ok (.aload_n 0, 1) := by decide +kernel
theorem d_TM_removeSpan_32 : decode b_TM_removeSpan 32 = .ok (.iload 4, 2) := by decide +kernel
theorem d_TM_removeSpan_34 : decode b_TM_removeSpan 34 = .ok (.invokevirtual 56, 3) := by decide +kernel
theorem d_TM_removeSpan_37 : decode b_TM_removeSpan 37 = .ok (.iinc 3 1, 3) := by decide +kernel
theorem d_TM_removeSpan_40 : decode b_TM_removeSpan 40 = .ok (.iinc 4 (-1), 3) := by decide +kernel
theorem d_TM_removeSpan_43 : decode b_TM_removeSpan 43 = .ok (.goto (-28), 3) := by decide +kernel
theorem d_TM_removeSpan_46 : decode b_TM_removeSpan 46 = .ok (.iload_n 3, 1) := by decide +kernel
theorem d_TM_removeSpan_47 : decode b_TM_removeSpan 47 = .ok (.ireturn, 1) := by decide +kernel
theorem d_TM_in_0 : decode b_TM_in 0 = .ok (.aload_n 0, 1) := by decide +kernel
theorem d_TM_in_1 : decode b_TM_in 1 = .ok (.getfield 20, 3) := by decide +kernel
theorem d_TM_in_4 : decode b_TM_in 4 = .ok (.iload_n 1, 1) := by decide +kernel
theorem d_TM_in_5 : decode b_TM_in 5 = .ok (.iaload, 1) := by decide +kernel
theorem d_TM_in_6 : decode b_TM_in 6 = .ok (.iload_n 2, 1) := by decide +kernel
theorem d_TM_in_7 : decode b_TM_in 7 = .ok (.if_icmp .lt 17, 3) := by decide +kernel
theorem d_TM_in_10 : decode b_TM_in 10 = .ok (.aload_n 0, 1) := by decide +kernel
theorem d_TM_in_11 : decode b_TM_in 11 = .ok (.getfield 20, 3) := by decide +kernel
theorem d_TM_in_14 : decode b_TM_in 14 = .ok (.iload_n 1, 1) := by decide +kernel
theorem d_TM_in_15 : decode b_TM_in 15 = .ok (.iaload, 1) := by decide +kernel
theorem d_TM_in_16 : decode b_TM_in 16 = .ok (.iload_n 3, 1) := by decide +kernel
theorem d_TM_in_17 : decode b_TM_in 17 = .ok (.if_icmp .gt 7, 3) := by decide +kernel
theorem d_TM_in_20 : decode b_TM_in 20 = .ok (.iconst 1, 1) := by decide +kernel
theorem d_TM_in_21 : decode b_TM_in 21 = .ok (.goto 4, 3) := by decide +kernel
theorem d_TM_in_24 : decode b_TM_in 24 = .ok (.iconst 0, 1) := by decide +kernel
theorem d_TM_in_25 : decode b_TM_in 25 = .ok (.ireturn, 1) := by decide +kernel
theorem d_TM_shift_0 : decode b_TM_shift 0 = .ok (.aload_n 0, 1) := by decide +kernel
theorem d_TM_shift_1 : decode b_TM_shift 1 = .ok (.iconst 0, 1) := by decide +kernel
theorem d_TM_shift_2 : decode b_TM_shift 2 = .ok (.putfield 41, 3) := by decide +kernel
theorem d_TM_shift_5 : decode b_TM_shift 5 = .ok (.aload_n 0, 1) := by decide +kernel
theorem d_TM_shift_6 : decode b_TM_shift 6 = .ok (.ldc 66, 2) := by decide +kernel
theorem d_TM_shift_8 : decode b_TM_shift 8 = .ok (.ldc 67, 2) := by decide +kernel
theorem d_TM_shift_10 : decode b_TM_shift 10 = .ok (.iload_n 1, 1) := by decide +kernel
theorem d_TM_shift_11 : decode b_TM_shift 11 = .ok (.invokevirtual 68, 3) := by decide +kernel
theorem d_TM_shift_14 : decode b_TM_shift 14 = .ok (.ireturn, 1) := by decide +kernel
theorem d_TM_move_0 : decode b_TM_move 0 = .ok (.iconst 0, 1) := by decide +kernel
theorem d_TM_move_1 : decode b_TM_move 1 = .ok (.istore 4, 2) := by decide +kernel
theorem d_TM_move_3 : decode b_TM_move 3 = .ok (.iconst 0, 1) := by decide +kernel
theorem d_TM_move_4 : decode b_TM_move 4 = .ok (.istore 5, 2) := by decide +kernel
theorem d_TM_move_6 : decode b_TM_move 6 = .ok (.iload 5, 2) := by decide +kernel
theorem d_TM_move_8 : decode b_TM_move 8 = .ok (.aload_n 0, 1) := by decide +kernel
theorem d_TM_move_9 : decode b_TM_move 9 = .ok (.getfield 44, 3) := by decide +kernel
theorem d_TM_move_12 : decode b_TM_move 12 = .ok (.if_icmp .ge 55, 3) := by decide +kernel
theorem d_TM_move_15 : decode b_TM_move 15 = .ok (.aload_n 0, 1) := by decide +kernel
theorem d_TM_move_16 : decode b_TM_move 16 = .ok (.getfield 20, 3) := by decide +kernel
theorem d_TM_move_19 : decode b_TM_move 19 = .ok (.iload 5, 2) := by decide +kernel
theorem d_TM_move_21 : decode b_TM_move 21 = .ok (.iaload, 1) := by decide +kernel
theorem d_TM_move_22 : decode b_TM_move 22 = .ok (.i2l, 1) := by decide +kernel
theorem d_TM_move_23 : decode b_TM_move 23 = .ok (.iload_n 3, 1) := by decide +kernel
theorem d_TM_move_24 : decode b_TM_move 24 = .ok (.i2l, 1) := by decide +kernel
theorem d_TM_move_25 : decode b_TM_move 25 = .ok (.ladd, 1) := by decide +kernel
theorem d_TM_move_26 : decode b_TM_move 26 = .ok (.lstore 6, 2) := by decide +kernel
theorem d_TM_move_28 : decode b_TM_move 28 = .ok (.aload_n 0, 1) := by decide +kernel
theorem d_TM_move_29 : decode b_TM_move 29 = .ok (.iload 5, 2) := by decide +kernel
theorem d_TM_move_31 : decode b_TM_move 31 = .ok (.iload_n 1, 1) := by decide +kernel
theorem d_TM_move_32 : decode b_TM_move 32 = .ok (.iload_n 2, 1) := by decide +kernel
theorem d_TM_move_33 : decode b_TM_move 33 = .ok (.invokevirtual 60, 3) := by decide +kernel
theorem d_TM_move_36 : decode b_TM_move 36 = .ok (.ifCond .eq 25, 3) := by decide +kernel
theorem d_TM_move_39 : decode b_TM_move 39 = .ok (.lload 6, 2) := by decide +kernel
theorem d_TM_move_41 : decode b_TM_move 41 = .ok (.aload_n 0, 1) := by decide +kernel
theorem d_TM_move_42 : decode b_TM_move 42 = .ok (.getfield 50, 3) := by decide +kernel
theorem d_TM_move_45 : decode b_TM_move 45 = .ok (.i2l, 1) := by decide +kernel
theorem d_TM_move_46 : decode b_TM_move 46 = .ok (.lcmp, 1) := by decide +kernel
theorem d_TM_move_47 : decode b_TM_move 47 = .ok (.ifCond .le 12, 3) := by decide +kernel
theorem d_TM_move_50 : decode b_TM_move 50 = .ok (.lload 6, 2) := by decide +kernel
theorem d_TM_move_52 : decode b_TM_move 52 = .ok (.ldc2_w 64, 3) := by decide +kernel
theorem d_TM_move_55 : decode b_TM_move 55 = .ok (.lcmp, 1) := by decide +kernel
theorem d_TM_move_56 : decode b_TM_move 56 = .ok (.ifCond .le 5, 3) := by decide +kernel
theorem d_TM_move_59 : decode b_TM_move 59 = .ok (.iconst (-1), 1) := by decide +kernel
theorem d_TM_move_60 : decode b_TM_move 60 = .ok (.ireturn, 1) := by decide +kernel
theorem d_TM_move_61 : decode b_TM_move 61 = .ok (.iinc 5 1, 3) := by decide +kernel
theorem d_TM_move_64 : decode b_TM_move 64 = .ok (.goto (-58), 3) := by decide +kernel
theorem d_TM_move_67 : decode b_TM_move 67 = .ok (.iconst 0, 1) := by decide +kernel
theorem d_TM_move_68 : decode b_TM_move 68 = .ok (.istore 5, 2) := by decide +kernel
theorem d_TM_move_70 : decode b_TM_move 70 = .ok (.iload 5, 2) := by decide +kernel
theorem d_TM_move_72 : decode b_TM_move 72 = .ok (.aload_n 0, 1) := by decide +kernel
theorem d_TM_move_73 : decode b_TM_move 73 = .ok (.getfield 44, 3) := by decide +kernel
theorem d_TM_move_76 : decode b_TM_move 76 = .ok (.if_icmp .ge 34, 3) := by decide +kernel
theorem d_TM_move_79 : decode b_TM_move 79 = .ok (.aload_n 0, 1) := by decide +kernel
theorem d_TM_move_80 : decode b_TM_move 80 = .ok (.iload 5, 2) := by decide +kernel
theorem d_TM_move_82 : decode b_TM_move 82 = .ok (.iload_n 1, 1) := by decide +kernel
theorem d_TM_move_83 : decode b_TM_move 83 = .ok (.iload_n 2, 1) := by decide +kernel
theorem d_TM_move_84 : decode b_TM_move 84 = .ok (.invokevirtual 60, 3) := by decide +kernel
theorem d_TM_move_87 : decode b_TM_move 87 = .ok (.ifCond .eq 17, 3) := by decide +kernel
theorem d_TM_move_90 : decode b_TM_move 90 = .ok (.aload_n 0, 1) := by decide +kernel
theorem d_TM_move_91 : decode b_TM_move 91 = .ok (.getfield 20, 3) := by decide +kernel
theorem d_TM_move_94 : decode b_TM_move 94 = .ok (.iload 5, 2) := by decide +kernel
theorem d_TM_move_96 : decode b_TM_move 96 = .ok (.dup2, 1) := by decide +kernel
theorem d_TM_move_97 : decode b_TM_move 97 = .ok (.iaload, 1) := by decide +kernel
theorem d_TM_move_98 : decode b_TM_move 98 = .ok (.iload_n 3, 1) := by decide +kernel
theorem d_TM_move_99 : decode b_TM_move 99 = .ok (.iadd, 1) := by decide +kernel
theorem d_TM_move_100 : decode b_TM_move 100 = .ok (.iastore, 1) := by decide +kernel
theorem d_TM_move_101 : decode b_TM_move 101 = .ok (.iinc 4 1, 3) := by decide +kernel
theorem d_TM_move_104 : decode b_TM_move 104 = .ok (.iinc 5 1, 3) := by decide +kernel
theorem d_TM_move_107 : decode b_TM_move 107 = .ok (.goto (-37), 3) := by decide +kernel
theorem d_TM_move_110 : decode b_TM_move 110 = .ok (.iload 4, 2) := by decide +kernel
theorem d_TM_move_112 : decode b_TM_move 112 = .ok (.ireturn, 1) := by decide +kernel
theorem d_TM_shiftSpan_0 : decode b_TM_shiftSpan 0 = .ok (.aload_n 0, 1) := by decide +kernel
theorem d_TM_shiftSpan_1 : decode b_TM_shiftSpan 1 = .ok (.iconst 0, 1) := by decide +kernel
theorem d_TM_shiftSpan_2 : decode b_TM_shiftSpan 2 = .ok (.putfield 41, 3) := by decide +kernel
theorem d_TM_shiftSpan_5 : decode b_TM_shiftSpan 5 = .ok (.aload_n 0, 1) := by decide +kernel
theorem d_TM_shiftSpan_6 : decode b_TM_shiftSpan 6 = .ok (.iload_n 1, 1) := by decide +kernel
theorem d_TM_shiftSpan_7 : decode b_TM_shiftSpan 7 = .ok (.iload_n 2, 1) := by decide +kernel
theorem d_TM_shiftSpan_8 : decode b_TM_shiftSpan 8 = .ok (.iload_n 3, 1) := by decide +kernel
theorem d_TM_shiftSpan_9 : decode b_TM_shiftSpan 9 = .ok (.invokevirtual 68, 3) := by decide +kernel
theorem d_TM_shiftSpan_12 : decode b_TM_shiftSpan 12 = .ok (.ireturn, 1) := by decide +kernel
theorem d_TM_enable_0 : decode b_TM_enable 0 = .ok (.aload_n 0, 1) := by decide +kernel
theorem d_TM_enable_1 : decode b_TM_enable 1 = .ok (.iconst 0, 1) := by decide +kernel
theorem d_TM_enable_2 : decode b_TM_enable 2 = .ok (.putfield 41, 3) := by decide +kernel
theorem d_TM_enable_5 : decode b_TM_enable 5 = .ok (.aload_n 0, 1) := by decide +kernel
theorem d_TM_enable_6 : decode b_TM_enable 6 = .ok (.iload_n 1, 1) := by decide +kernel
theorem d_TM_enable_7 : decode b_TM_enable 7 = .ok (.putfield 72, 3) := by decide +kernel
theorem d_TM_enable_10 : decode b_TM_enable 10 = .ok (.return_, 1) := by decide +kernel
theorem d_TM_isOn_0 : decode b_TM_isOn 0 = .ok (.aload_n 0, 1) := by decide +kernel
theorem d_TM_isOn_1 : decode b_TM_isOn 1 = .ok (.iconst 0, 1) := by decide +kernel
theorem d_TM_isOn_2 : decode b_TM_isOn 2 = .ok (.putfield 41, 3) := by decide +kernel
theorem d_TM_isOn_5 : decode b_TM_isOn 5 = .ok (.aload_n 0, 1) := by decide +kernel
theorem d_TM_isOn_6 : decode b_TM_isOn 6 = .ok (.getfield 72, 3) := by decide +kernel
theorem d_TM_isOn_9 : decode b_TM_isOn 9 = .ok (.ireturn, 1) := by decide +kernel
theorem d_TM_reset_0 : decode b_TM_reset 0 = .ok (.aload_n 0, 1) := by decide +kernel
theorem d_TM_reset_1 : decode b_TM_reset 1 = .ok (.iconst 0, 1) := by decide +kernel
theorem d_TM_reset_2 : decode b_TM_reset 2 = .ok (.putfield 41, 3) := by decide +kernel
theorem d_TM_reset_5 : decode b_TM_reset 5 = .ok (.aload_n 0, 1) := by decide +kernel
theorem d_TM_reset_6 : decode b_TM_reset 6 = .ok (.iconst 0, 1) := by decide +kernel
theorem d_TM_reset_7 : decode b_TM_reset 7 = .ok (.putfield 72, 3) := by decide +kernel
theorem d_TM_reset_10 : decode b_TM_reset 10 = .ok (.aload_n 0, 1) := by decide +kernel
theorem d_TM_reset_11 : decode b_TM_reset 11 = .ok (.getfield 44, 3) := by decide +kernel
theorem d_TM_reset_14 : decode b_TM_reset 14 = .ok (.ifCond .le 16, 3) := by decide +kernel
theorem d_TM_reset_17 : decode b_TM_reset 17 = .ok (.aload_n 0, 1) := by decide +kernel
theorem d_TM_reset_18 : decode b_TM_reset 18 = .ok (.aload_n 0, 1) := by decide +kernel
theorem d_TM_reset_19 : decode b_TM_reset 19 = .ok (.getfield 44, 3) := by decide +kernel
theorem d_TM_reset_22 : decode b_TM_reset 22 = .ok (.iconst 1, 1) := by decide +kernel
theorem d_TM_reset_23 : decode b_TM_reset 23 = .ok (.isub, 1) := by decide +kernel
theorem d_TM_reset_24 : decode b_TM_reset 24 = .ok (.invokevirtual 56, 3) := by decide +kernel
theorem d_TM_reset_27 : decode b_TM_reset 27 = .ok (.goto (-17), 3) := by decide +kernel
theorem d_TM_reset_30 : decode b_TM_reset 30 = .ok (.return_, 1) := by decide +kernel
theorem d_TM_tick_0 : decode b_TM_tick 0 = .ok (.aload_n 0, 1) := by decide +kernel
theorem d_TM_tick_1 : decode b_TM_tick 1 = .ok (.iconst 0, 1) := by decide +kernel
theorem d_TM_tick_2 : decode b_TM_tick 2 = .ok (.putfield 41, 3) := by decide +kernel
theorem d_TM_tick_5 : decode b_TM_tick 5 = .ok (.aload_n 0, 1) := by decide +kernel
theorem d_TM_tick_6 : decode b_TM_tick 6 = .ok (.getfield 50, 3) := by decide +kernel
theorem d_TM_tick_9 : decode b_TM_tick 9 = .ok (.ldc 67, 2) := by decide +kernel
theorem d_TM_tick_11 : decode b_TM_tick 11 = .ok (.if_icmp .ne 5, 3) := by decide +kernel
theorem d_TM_tick_14 : decode b_TM_tick 14 = .ok (.iconst (-1), 1) := by decide +kernel
theorem d_TM_tick_15 : decode b_TM_tick 15 = .ok (.ireturn, 1) := by decide +kernel
theorem d_TM_tick_16 : decode b_TM_tick 16 = .ok (.aload_n 0, 1) := by decide +kernel
theorem d_TM_tick_17 : decode b_TM_tick 17 = .ok (.dup, 1) := by decide +kernel
theorem d_TM_tick_18 : decode b_TM_tick 18 = .ok (.getfield 50, 3) := by decide +kernel
theorem d_TM_tick_21 : decode b_TM_tick 21 = .ok (.iconst 1, 1) := by decide +kernel
theorem d_TM_tick_22 : decode b_TM_tick 22 = .ok (.iadd, 1) := by decide +kernel
theorem d_TM_tick_23 : decode b_TM_tick 23 = .ok (.putfield 50, 3) := by decide +kernel
theorem d_TM_tick_26 : decode b_TM_tick 26 = .ok (.aload_n 0, 1) := by decide +kernel
theorem d_TM_tick_27 : decode b_TM_tick 27 = .ok (.getfield 50, 3) := by decide +kernel
theorem d_TM_tick_30 : decode b_TM_tick 30 = .ok (.ireturn, 1) := by decide +kernel
theorem d_TM_leave_0 : decode b_TM_leave 0 = .ok (.aload_n 0, 1) := by decide +kernel
theorem d_TM_leave_1 : decode b_TM_leave 1 = .ok (.iconst 0, 1) := by decide +kernel
theorem d_TM_leave_2 : decode b_TM_leave 2 = .ok (.putfield 41, 3) := by decide +kernel
theorem d_TM_leave_5 : decode b_TM_leave 5 = .ok (.aload_n 0, 1) := by decide +kernel
theorem d_TM_leave_6 : decode b_TM_leave 6 = .ok (.iconst 0, 1) := by decide +kernel
theorem d_TM_leave_7 : decode b_TM_leave 7 = .ok (.invokevirtual 76, 3) := by decide +kernel
theorem d_TM_leave_10 : decode b_TM_leave 10 = .ok (.istore_n 1, 1) := by decide +kernel
theorem d_TM_leave_11 : decode b_TM_leave 11 = .ok (.iload_n 1, 1) := by decide +kernel
theorem d_TM_leave_12 : decode b_TM_leave 12 = .ok (.ifCond .lt 16, 3) := by decide +kernel
theorem d_TM_leave_15 : decode b_TM_leave 15 = .ok (.aload_n 0, 1) := by decide +kernel
theorem d_TM_leave_16 : decode b_TM_leave 16 = .ok (.getfield 20, 3) := by decide +kernel
theorem d_TM_leave_19 : decode b_TM_leave 19 = .ok (.iload_n 1, 1) := by decide +kernel
theorem d_TM_leave_20 : decode b_TM_leave 20 = .ok (.iaload, 1) := by decide +kernel
theorem d_TM_leave_21 : decode b_TM_leave 21 = .ok (.aload_n 0, 1) := by decide +kernel
theorem d_TM_leave_22 : decode b_TM_leave 22 = .ok (.getfield 50, 3) := by decide +kernel
theorem d_TM_leave_25 : decode b_TM_leave 25 = .ok (.if_icmp .le 5, 3) := by decide +kernel
theorem d_TM_leave_28 : decode b_TM_leave 28 = .ok (.iconst (-1), 1) := by decide +kernel
theorem d_TM_leave_29 : decode b_TM_leave 29 = .ok (.ireturn, 1) := by decide +kernel
theorem d_TM_leave_30 : decode b_TM_leave 30 = .ok (.aload_n 0, 1) := by decide +kernel
theorem d_TM_leave_31 : decode b_TM_leave 31 = .ok (.aload_n 0, 1) := by decide +kernel
theorem d_TM_leave_32 : decode b_TM_leave 32 = .ok (.getfield 23, 3) := by decide +kernel
theorem d_TM_leave_35 : decode b_TM_leave 35 = .ok (.iload_n 1, 1) := by decide +kernel
theorem d_TM_leave_36 : decode b_TM_leave 36 = .ok (.iaload, 1) := by decide +kernel
theorem d_TM_leave_37 : decode b_TM_leave 37 = .ok (.putfield 80, 3) := by decide +kernel
theorem d_TM_leave_40 : decode b_TM_leave 40 = .ok (.iconst 0, 1) := by decide +kernel
theorem d_TM_leave_41 : decode b_TM_leave 41 = .ok (.istore_n 2, 1) := by decide +kernel
theorem d_TM_leave_42 : decode b_TM_leave 42 = .ok (.iload_n 2, 1) := by decide +kernel
theorem d_TM_leave_43 : decode b_TM_leave 43 = .ok (.aload_n 0, 1) := by decide +kernel
theorem d_TM_leave_44 : decode b_TM_leave 44 = .ok (.getfield 80, 3) := by decide +kernel
theorem d_TM_leave_47 : decode b_TM_leave 47 = .ok (.if_icmp .ge 32, 3) := by decide +kernel
theorem d_TM_leave_50 : decode b_TM_leave 50 = .ok (.aload_n 0, 1) := by decide +kernel
theorem d_TM_leave_51 : decode b_TM_leave 51 = .ok (.getfield 13, 3) := by decide +kernel
theorem d_TM_leave_54 : decode b_TM_leave 54 = .ok (.iload_n 2, 1) := by decide +kernel
theorem d_TM_leave_55 : decode b_TM_leave 55 = .ok (.aload_n 0, 1) := by decide +kernel
theorem d_TM_leave_56 : decode b_TM_leave 56 = .ok (.getfield 34, 3) := by decide +kernel
theorem d_TM_leave_59 : decode b_TM_leave 59 = .ok (.sipush 256, 3) := by decide +kernel
theorem d_TM_leave_62 : decode b_TM_leave 62 = .ok (.aload_n 0, 1) := by decide +kernel
theorem d_TM_leave_63 : decode b_TM_leave 63 = .ok (.getfield 26, 3) := by decide +kernel
theorem d_TM_leave_66 : decode b_TM_leave 66 = .ok (.iload_n 1, 1) := by decide +kernel
theorem d_TM_leave_67 : decode b_TM_leave 67 = .ok (.iaload, 1) := by decide +kernel
theorem d_TM_leave_68 : decode b_TM_leave 68 = .ok (.imul, 1) := by decide +kernel
theorem d_TM_leave_69 : decode b_TM_leave 69 = .ok (.iload_n 2, 1) := by decide +kernel
theorem d_TM_leave_70 : decode b_TM_leave 70 = .ok (.iadd, 1) := by decide +kernel
theorem d_TM_leave_71 : decode b_TM_leave 71 = .ok (.baload, 1) := by decide +kernel
theorem d_TM_leave_72 : decode b_TM_leave 72 = .ok (.bastore, 1) := by decide +kernel
theorem d_TM_leave_73 : decode b_TM_leave 73 = .ok (.iinc 2 1, 3) := by decide +kernel
theorem d_TM_leave_76 : decode b_TM_leave 76 = .ok (.goto (-34), 3) := by decide +kernel
theorem d_TM_leave_79 : decode b_TM_leave 79 = .ok (.aload_n 0, 1) := by decide +kernel
theorem d_TM_leave_80 : decode b_TM_leave 80 = .ok (.iload_n 1, 1) := by decide +kernel
theorem d_TM_leave_81 : decode b_TM_leave 81 = .ok (.invokevirtual 56, 3) := by decide +kernel
theorem d_TM_leave_84 : decode b_TM_leave 84 = .ok (.aload_n 0, 1) := by decide +kernel
theorem d_TM_leave_85 : decode b_TM_leave 85 = .ok (.getfield 80, 3) := by decide +kernel
theorem d_TM_leave_88 : decode b_TM_leave 88 = .ok (.ireturn, 1) := by decide +kernel
theorem d_TM_place_0 : decode b_TM_place 0 = .ok (.iconst (-1), 1) := by decide +kernel
theorem d_TM_place_1 : decode b_TM_place 1 = .ok (.istore_n 2, 1) := by decide +kernel
theorem d_TM_place_2 : decode b_TM_place 2 = .ok (.iconst 0, 1) := by decide +kernel
theorem d_TM_place_3 : decode b_TM_place 3 = .ok (.istore_n 3, 1) := by decide +kernel
theorem d_TM_place_4 : decode b_TM_place 4 = .ok (.iload_n 3, 1) := by decide +kernel
theorem d_TM_place_5 : decode b_TM_place 5 = .ok (.aload_n 0, 1) := by decide +kernel
theorem d_TM_place_6 : decode b_TM_place 6 = .ok (.getfield 44, 3) := by decide +kernel
theorem d_TM_place_9 : decode b_TM_place 9 = .ok (.if_icmp .ge 90, 3) := by decide +kernel
theorem d_TM_place_12 : decode b_TM_place 12 = .ok (.iconst 0, 1) := by decide +kernel
theorem d_TM_place_13 : decode b_TM_place 13 = .ok (.istore 4, 2) := by decide +kernel
theorem d_TM_place_15 : decode b_TM_place 15 = .ok (.iconst 0, 1) := by decide +kernel
theorem d_TM_place_16 : decode b_TM_place 16 = .ok (.istore 5, 2) := by decide +kernel
theorem d_TM_place_18 : decode b_TM_place 18 = .ok (.iload 5, 2) := by decide +kernel
theorem d_TM_place_20 : decode b_TM_place 20 = .ok (.aload_n 0, 1) := by decide +kernel
theorem d_TM_place_21 : decode b_TM_place 21 = .ok (.getfield 44, 3) := by decide +kernel
theorem d_TM_place_24 : decode b_TM_place 24 = .ok (.if_icmp .ge 57, 3) := by decide +kernel
theorem d_TM_place_27 : decode b_TM_place 27 = .ok (.iload 4, 2) := by decide +kernel
theorem d_TM_place_29 : decode b_TM_place 29 = .ok (.aload_n 0, 1) := by decide +kernel
theorem d_TM_place_30 : decode b_TM_place 30 = .ok (.getfield 20, 3) := by decide +kernel
theorem d_TM_place_33 : decode b_TM_place 33 = .ok (.iload 5, 2) := by decide +kernel
theorem d_TM_place_35 : decode b_TM_place 35 = .ok (.iaload, 1) := by decide +kernel
theorem d_TM_place_36 : decode b_TM_place 36 = .ok (.aload_n 0, 1) := by decide +kernel
theorem d_TM_place_37 : decode b_TM_place 37 = .ok (.getfield 20, 3) := by decide +kernel
theorem d_TM_place_40 : decode b_TM_place 40 = .ok (.iload_n 3, 1) := by decide +kernel
theorem d_TM_place_41 : decode b_TM_place 41 = .ok (.iaload, 1) := by decide +kernel
theorem d_TM_place_42 : decode b_TM_place 42 = .ok (.if_icmp .lt 25, 3) := by decide +kernel
theorem d_TM_place_45 : decode b_TM_place 45 = .ok (.aload_n 0, 1) := by decide +kernel
theorem d_TM_place_46 : decode b_TM_place 46 = .ok (.getfield 20, 3) := by decide +kernel
theorem d_TM_place_49 : decode b_TM_place 49 = .ok (.iload 5, 2) := by decide +kernel
theorem d_TM_place_51 : decode b_TM_place 51 = .ok (.iaload, 1) := by decide +kernel
theorem d_TM_place_52 : decode b_TM_place 52 = .ok (.aload_n 0, 1) := by decide +kernel
theorem d_TM_place_53 : decode b_TM_place 53 = .ok (.getfield 20, 3) := by decide +kernel
theorem d_TM_place_56 : decode b_TM_place 56 = .ok (.iload_n 3, 1) := by decide +kernel
theorem d_TM_place_57 : decode b_TM_place 57 = .ok (.iaload, 1) := by decide +kernel
theorem d_TM_place_58 : decode b_TM_place 58 = .ok (.if_icmp .ne 13, 3) := by decide +kernel
theorem d_TM_place_61 : decode b_TM_place 61 = .ok (.iload 5, 2) := by decide +kernel
theorem d_TM_place_63 : decode b_TM_place 63 = .ok (.iload_n 3, 1) := by decide +kernel
theorem d_TM_place_64 : decode b_TM_place 64 = .ok (.if_icmp .ge 7, 3) := by decide +kernel
theorem d_TM_place_67 : decode b_TM_place 67 = .ok (.iconst 1, 1) := by decide +kernel
theorem d_TM_place_68 : decode b_TM_place 68 = .ok (.goto 4, 3) := by decide +kernel
theorem d_TM_place_71 : decode b_TM_place 71 = .ok (.iconst 0, 1) := by decide +kernel
theorem d_TM_place_72 : decode b_TM_place 72 = .ok (.iadd, 1) := by decide +kernel
theorem d_TM_place_73 : decode b_TM_place 73 = .ok (.istore 4, 2) := by decide +kernel
theorem d_TM_place_75 : decode b_TM_place 75 = .ok (.iinc 5 1, 3) := by decide +kernel
theorem d_TM_place_78 : decode b_TM_place 78 = .ok (.goto (-60), 3) := by decide +kernel
theorem d_TM_place_81 : decode b_TM_place 81 = .ok (.iload 4, 2) := by decide +kernel
theorem d_TM_place_83 : decode b_TM_place 83 = .ok (.iload_n 1, 1) := by decide +kernel
theorem d_TM_place_84 : decode b_TM_place 84 = .ok (.if_icmp .ne 7, 3) := by decide +kernel
theorem d_TM_place_87 : decode b_TM_place 87 = .ok (.iload_n 3, 1) := by decide +kernel
theorem d_TM_place_88 : decode b_TM_place 88 = .ok (.goto 4, 3) := by decide +kernel
theorem d_TM_place_91 : decode b_TM_place 91 = .ok (.iload_n 2, 1) := by decide +kernel
theorem d_TM_place_92 : decode b_TM_place 92 = .ok (.istore_n 2, 1) := by decide +kernel
theorem d_TM_place_93 : decode b_TM_place 93 = .ok (.iinc 3 1, 3) := by decide +kernel
theorem d_TM_place_96 : decode b_TM_place 96 = .ok (.goto (-92), 3) := by decide +kernel
theorem d_TM_place_99 : decode b_TM_place 99 = .ok (.iload_n 2, 1) := by decide +kernel
theorem d_TM_place_100 : decode b_TM_place 100 = .ok (.ireturn, 1) := by decide +kernel
theorem d_TM_left_0 : decode b_TM_left 0 = .ok (.aload_n 0, 1) := by decide +kernel
theorem d_TM_left_1 : decode b_TM_left 1 = .ok (.iconst 0, 1) := by decide +kernel
theorem d_TM_left_2 : decode b_TM_left 2 = .ok (.putfield 41, 3) := by decide +kernel
theorem d_TM_left_5 : decode b_TM_left 5 = .ok (.iload_n 1, 1) := by decide +kernel
theorem d_TM_left_6 : decode b_TM_left 6 = .ok (.ifCond .lt 11, 3) := by decide +kernel
theorem d_TM_left_9 : decode b_TM_left 9 = .ok (.iload_n 1, 1) := by decide +kernel
theorem d_TM_left_10 : decode b_TM_left 10 = .ok (.aload_n 0, 1) := by decide +kernel
theorem d_TM_left_11 : decode b_TM_left 11 = .ok (.getfield 80, 3) := by decide +kernel
theorem d_TM_left_14 : decode b_TM_left 14 = .ok (.if_icmp .lt 7, 3) := by decide +kernel
theorem d_TM_left_17 : decode b_TM_left 17 = .ok (.iconst (-1), 1) := by decide +kernel
theorem d_TM_left_18 : decode b_TM_left 18 = .ok (.goto 13, 3) := by decide +kernel
theorem d_TM_left_21 : decode b_TM_left 21 = .ok (.aload_n 0, 1) := by decide +kernel
theorem d_TM_left_22 : decode b_TM_left 22 = .ok (.getfield 13, 3) := by decide +kernel
theorem d_TM_left_25 : decode b_TM_left 25 = .ok (.iload_n 1, 1) := by decide +kernel
theorem d_TM_left_26 : decode b_TM_left 26 = .ok (.baload, 1) := by decide +kernel
theorem d_TM_left_27 : decode b_TM_left 27 = .ok (.sipush 255, 3) := by decide +kernel
theorem d_TM_left_30 : decode b_TM_left 30 = .ok (.iand, 1) := by decide +kernel
theorem d_TM_left_31 : decode b_TM_left 31 = .ok (.ireturn, 1) := by decide +kernel
theorem d_TM_count_0 : decode b_TM_count 0 = .ok (.aload_n 0, 1) := by decide +kernel
theorem d_TM_count_1 : decode b_TM_count 1 = .ok (.iconst 0, 1) := by decide +kernel
theorem d_TM_count_2 : decode b_TM_count 2 = .ok (.putfield 41, 3) := by decide +kernel
theorem d_TM_count_5 : decode b_TM_count 5 = .ok (.iload_n 1, 1) := by decide +kernel
theorem d_TM_count_6 : decode b_TM_count 6 = .ok (.ifCond .ne 10, 3) := by decide +kernel
theorem d_TM_count_9 : decode b_TM_count 9 = .ok (.aload_n 0, 1) := by decide +kernel
theorem d_TM_count_10 : decode b_TM_count 10 = .ok (.getfield 50, 3) := by decide +kernel
theorem d_TM_count_13 : decode b_TM_count 13 = .ok (.goto 40, 3) := by decide +kernel
theorem d_TM_count_16 : decode b_TM_count 16 = .ok (.iload_n 1, 1) := by decide +kernel
theorem d_TM_count_17 : decode b_TM_count 17 = .ok (.iconst 1, 1) := by decide +kernel
theorem d_TM_count_18 : decode b_TM_count 18 = .ok (.if_icmp .ne 10, 3) := by decide +kernel
theorem d_TM_count_21 : decode b_TM_count 21 = .ok (.aload_n 0, 1) := by decide +kernel
theorem d_TM_count_22 : decode b_TM_count 22 = .ok (.getfield 44, 3) := by decide +kernel
theorem d_TM_count_25 : decode b_TM_count 25 = .ok (.goto 28, 3) := by decide +kernel
theorem d_TM_count_28 : decode b_TM_count 28 = .ok (.iload_n 1, 1) := by decide +kernel
theorem d_TM_count_29 : decode b_TM_count 29 = .ok (.iconst 2, 1) := by decide +kernel
theorem d_TM_count_30 : decode b_TM_count 30 = .ok (.if_icmp .ne 10, 3) := by decide +kernel
theorem d_TM_count_33 : decode b_TM_count 33 = .ok (.aload_n 0, 1) := by decide +kernel
theorem d_TM_count_34 : decode b_TM_count 34 = .ok (.getfield 53, 3) := by decide +kernel
theorem d_TM_count_37 : decode b_TM_count 37 = .ok (.goto 16, 3) := by decide +kernel
theorem d_TM_count_40 : decode b_TM_count 40 = .ok (.iload_n 1, 1) := by decide +kernel
theorem d_TM_count_41 : decode b_TM_count 41 = .ok (.iconst 3, 1) := by decide +kernel
theorem d_TM_count_42 : decode b_TM_count 42 = .ok (.if_icmp .ne 10, 3) := by decide +kernel
theorem d_TM_count_45 : decode b_TM_count 45 = .ok (.aload_n 0, 1) := by decide +kernel
theorem d_TM_count_46 : decode b_TM_count 46 = .ok (.getfield 80, 3) := by decide +kernel
theorem d_TM_count_49 : decode b_TM_count 49 = .ok (.goto 4, 3) := by decide +kernel
theorem d_TM_count_52 : decode b_TM_count 52 = .ok (.iconst (-1), 1) := by decide +kernel
theorem d_TM_count_53 : decode b_TM_count 53 = .ok (.ireturn, 1) := by decide +kernel
theorem d_TM_about_0 : decode b_TM_about 0 = .ok (.aload_n 0, 1) := by decide +kernel
theorem d_TM_about_1 : decode b_TM_about 1 = .ok (.iconst 0, 1) := by decide +kernel
theorem d_TM_about_2 : decode b_TM_about 2 = .ok (.putfield 41, 3) := by decide +kernel
theorem d_TM_about_5 : decode b_TM_about 5 = .ok (.iload_n 1, 1) := by decide +kernel
theorem d_TM_about_6 : decode b_TM_about 6 = .ok (.ifCond .lt 11, 3) := by decide +kernel
theorem d_TM_about_9 : decode b_TM_about 9 = .ok (.iload_n 1, 1) := by decide +kernel
theorem d_TM_about_10 : decode b_TM_about 10 = .ok (.aload_n 0, 1) := by decide +kernel
theorem d_TM_about_11 : decode b_TM_about 11 = .ok (.getfield 44, 3) := by decide +kernel
theorem d_TM_about_14 : decode b_TM_about 14 = .ok (.if_icmp .lt 7, 3) := by decide +kernel
theorem d_TM_about_17 : decode b_TM_about 17 = .ok (.iconst (-1), 1) := by decide +kernel
theorem d_TM_about_18 : decode b_TM_about 18 = .ok (.goto 8, 3) := by decide +kernel
theorem d_TM_about_21 : decode b_TM_about 21 = .ok (.aload_n 0, 1) := by decide +kernel
theorem d_TM_about_22 : decode b_TM_about 22 = .ok (.iload_n 1, 1) := by decide +kernel
theorem d_TM_about_23 : decode b_TM_about 23 = .ok (.invokevirtual 76, 3) := by decide +kernel
theorem d_TM_about_26 : decode b_TM_about 26 = .ok (.istore_n 3, 1) := by decide +kernel
theorem d_TM_about_27 : decode b_TM_about 27 = .ok (.iload_n 3, 1) := by decide +kernel
theorem d_TM_about_28 : decode b_TM_about 28 = .ok (.ifCond .ge 5, 3) := by decide +kernel
theorem d_TM_about_31 : decode b_TM_about 31 = .ok (.iconst (-1), 1) := by decide +kernel
theorem d_TM_about_32 : decode b_TM_about 32 = .ok (.ireturn, 1) := by decide +kernel
theorem d_TM_about_33 : decode b_TM_about 33 = .ok (.iload_n 2, 1) := by decide +kernel
theorem d_TM_about_34 : decode b_TM_about 34 = .ok (.ifCond .ne 12, 3) := by decide +kernel
theorem d_TM_about_37 : decode b_TM_about 37 = .ok (.aload_n 0, 1) := by decide +kernel
theorem d_TM_about_38 : decode b_TM_about 38 = .ok (.getfield 16, 3) := by decide +kernel
theorem d_TM_about_41 : decode b_TM_about 41 = .ok (.iload_n 3, 1) := by decide +kernel
theorem d_TM_about_42 : decode b_TM_about 42 = .ok (.iaload, 1) := by decide +kernel
theorem d_TM_about_43 : decode b_TM_about 43 = .ok (.goto 32, 3) := by decide +kernel
theorem d_TM_about_46 : decode b_TM_about 46 = .ok (.iload_n 2, 1) := by decide +kernel
theorem d_TM_about_47 : decode b_TM_about 47 = .ok (.iconst 1, 1) := by decide +kernel
theorem d_TM_about_48 : decode b_TM_about 48 = .ok (.if_icmp .ne 12, 3) := by decide +kernel
theorem d_TM_about_51 : decode b_TM_about 51 = .ok (.aload_n 0, 1) := by decide +kernel
theorem d_TM_about_52 : decode b_TM_about 52 = .ok (.getfield 20, 3) := by decide +kernel
theorem d_TM_about_55 : decode b_TM_about 55 = .ok (.iload_n 3, 1) := by decide +kernel
theorem d_TM_about_56 : decode b_TM_about 56 = .ok (.iaload, 1) := by decide +kernel
theorem d_TM_about_57 : decode b_TM_about 57 = .ok (.goto 18, 3) := by decide +kernel
theorem d_TM_about_60 : decode b_TM_about 60 = .ok (.iload_n 2, 1) := by decide +kernel
theorem d_TM_about_61 : decode b_TM_about 61 = .ok (.iconst 2, 1) := by decide +kernel
theorem d_TM_about_62 : decode b_TM_about 62 = .ok (.if_icmp .ne 12, 3) := by decide +kernel
theorem d_TM_about_65 : decode b_TM_about 65 = .ok (.aload_n 0, 1) := by decide +kernel
theorem d_TM_about_66 : decode b_TM_about 66 = .ok (.getfield 23, 3) := by decide +kernel
theorem d_TM_about_69 : decode b_TM_about 69 = .ok (.iload_n 3, 1) := by decide +kernel
theorem d_TM_about_70 : decode b_TM_about 70 = .ok (.iaload, 1) := by decide +kernel
theorem d_TM_about_71 : decode b_TM_about 71 = .ok (.goto 4, 3) := by decide +kernel
theorem d_TM_about_74 : decode b_TM_about 74 = .ok (.iconst (-1), 1) := by decide +kernel
theorem d_TM_about_75 : decode b_TM_about 75 = .ok (.ireturn, 1) := by decide +kernel
theorem d_TM_byteAt_0 : decode b_TM_byteAt 0 = .ok (.aload_n 0, 1) := by decide +kernel
theorem d_TM_byteAt_1 : decode b_TM_byteAt 1 = .ok (.iconst 0, 1) := by decide +kernel
theorem d_TM_byteAt_2 : decode b_TM_byteAt 2 = .ok (.putfield 41, 3) := by decide +kernel
theorem d_TM_byteAt_5 : decode b_TM_byteAt 5 = .ok (.iload_n 1, 1) := by decide +kernel
theorem d_TM_byteAt_6 : decode b_TM_byteAt 6 = .ok (.ifCond .lt 11, 3) := by decide +kernel
theorem d_TM_byteAt_9 : decode b_TM_byteAt 9 = .ok (.iload_n 1, 1) := by decide +kernel
theorem d_TM_byteAt_10 : decode b_TM_byteAt 10 = .ok (.aload_n 0, 1) := by decide +kernel
theorem d_TM_byteAt_11 : decode b_TM_byteAt 11 = .ok (.getfield 44, 3) := by decide +kernel
theorem d_TM_byteAt_14 : decode b_TM_byteAt 14 = .ok (.if_icmp .lt 7, 3) := by decide +kernel
theorem d_TM_byteAt_17 : decode b_TM_byteAt 17 = .ok (.iconst (-1), 1) := by decide +kernel
theorem d_TM_byteAt_18 : decode b_TM_byteAt 18 = .ok (.goto 8, 3) := by decide +kernel
theorem d_TM_byteAt_21 : decode b_TM_byteAt 21 = .ok (.aload_n 0, 1) := by decide +kernel
theorem d_TM_byteAt_22 : decode b_TM_byteAt 22 = .ok (.iload_n 1, 1) := by decide +kernel
theorem d_TM_byteAt_23 : decode b_TM_byteAt 23 = .ok (.invokevirtual 76, 3) := by decide +kernel
theorem d_TM_byteAt_26 : decode b_TM_byteAt 26 = .ok (.istore_n 3, 1) := by decide +kernel
theorem d_TM_byteAt_27 : decode b_TM_byteAt 27 = .ok (.iload_n 3, 1) := by decide +kernel
theorem d_TM_byteAt_28 : decode b_TM_byteAt 28 = .ok (.ifCond .lt 17, 3) := by decide +kernel
theorem d_TM_byteAt_31 : decode b_TM_byteAt 31 = .ok (.iload_n 2, 1) := by decide +kernel
theorem d_TM_byteAt_32 : decode b_TM_byteAt 32 = .ok (.ifCond .lt 13, 3) := by decide +kernel
theorem d_TM_byteAt_35 : decode b_TM_byteAt 35 = .ok (.iload_n 2, 1) := by decide +kernel
theorem d_TM_byteAt_36 : decode b_TM_byteAt 36 = .ok (.aload_n 0, 1) := by decide +kernel
theorem d_TM_byteAt_37 : decode b_TM_byteAt 37 = .ok (.getfield 23, 3) := by decide +kernel
theorem d_TM_byteAt_40 : decode b_TM_byteAt 40 = .ok (.iload_n 3, 1) := by decide +kernel
theorem d_TM_byteAt_41 : decode b_TM_byteAt 41 = .ok (.iaload, 1) := by decide +kernel
theorem d_TM_byteAt_42 : decode b_TM_byteAt 42 = .ok (.if_icmp .lt 7, 3) := by decide +kernel
theorem d_TM_byteAt_45 : decode b_TM_byteAt 45 = .ok (.iconst (-1), 1) := by decide +kernel
theorem d_TM_byteAt_46 : decode b_TM_byteAt 46 = .ok (.goto 24, 3) := by decide +kernel
theorem d_TM_byteAt_49 : decode b_TM_byteAt 49 = .ok (.aload_n 0, 1) := by decide +kernel
theorem d_TM_byteAt_50 : decode b_TM_byteAt 50 = .ok (.getfield 34, 3) := by decide +kernel
theorem d_TM_byteAt_53 : decode b_TM_byteAt 53 = .ok (.sipush 256, 3) := by decide +kernel
theorem d_TM_byteAt_56 : decode b_TM_byteAt 56 = .ok (.aload_n 0, 1) := by decide +kernel
theorem d_TM_byteAt_57 : decode b_TM_byteAt 57 = .ok (.getfield 26, 3) := by decide +kernel
theorem d_TM_byteAt_60 : decode b_TM_byteAt 60 = .ok (.iload_n 3, 1) := by decide +kernel
theorem d_TM_byteAt_61 : decode b_TM_byteAt 61 = .ok (.iaload, 1) := by decide +kernel
theorem d_TM_byteAt_62 : decode b_TM_byteAt 62 = .ok (.imul, 1) := by decide +kernel
theorem d_TM_byteAt_63 : decode b_TM_byteAt 63 = .ok (.iload_n 2, 1) := by decide +kernel
theorem d_TM_byteAt_64 : decode b_TM_byteAt 64 = .ok (.iadd, 1) := by decide +kernel
theorem d_TM_byteAt_65 : decode b_TM_byteAt 65 = .ok (.baload, 1) := by decide +kernel
theorem d_TM_byteAt_66 : decode b_TM_byteAt 66 = .ok (.sipush 255, 3) := by decide +kernel
theorem d_TM_byteAt_69 : decode b_TM_byteAt 69 = .ok (.iand, 1) := by decide +kernel
theorem d_TM_byteAt_70 : decode b_TM_byteAt 70 = .ok (.ireturn, 1) := by decide +kernel
end
section
theorem d_law_cell_0 : decode b_law_cell 0 = .ok (.iload_n 1, 1) := by decide +kernel
theorem d_law_cell_1 : decode b_law_cell 1 = .ok (.aload_n 0, 1) := by decide +kernel
theorem d_law_cell_2 : decode b_law_cell 2 = .ok (.arraylength, 1) := by decide +kernel
theorem d_law_cell_3 : decode b_law_cell 3 = .ok (.if_icmp .ge 9, 3) := by decide +kernel
theorem d_law_cell_6 : decode b_law_cell 6 = .ok (.aload_n 0, 1) := by decide +kernel
theorem d_law_cell_7 : decode b_law_cell 7 = .ok (.iload_n 1, 1) := by decide +kernel
theorem d_law_cell_8 : decode b_law_cell 8 = .ok (.iaload, 1) := by decide +kernel
theorem d_law_cell_9 : decode b_law_cell 9 = .ok (.goto 4, 3) := by decide +kernel
theorem d_law_cell_12 : decode b_law_cell 12 = .ok (.iconst 0, 1) := by decide +kernel
theorem d_law_cell_13 : decode b_law_cell 13 = .ok (.ireturn, 1) := by decide +kernel
theorem d_law_0 : decode code 0 = .ok (.new 7, 3) := by decide +kernel
theorem d_law_3 : decode code 3 = .ok (.dup, 1) := by decide +kernel
theorem d_law_4 : decode code 4 = .ok (.aload_n 0, 1) := by decide +kernel
theorem d_law_5 : decode code 5 = .ok (.iconst 0, 1) := by decide +kernel
theorem d_law_6 : decode code 6 = .ok (.invokestatic 9, 3) := by decide +kernel
theorem d_law_9 : decode code 9 = .ok (.invokespecial 15, 3) := by decide +kernel
theorem d_law_12 : decode code 12 = .ok (.astore_n 1, 1) := by decide +kernel
theorem d_law_13 : decode code 13 = .ok (.new 18, 3) := by decide +kernel
theorem d_law_16 : decode code 16 = .ok (.dup, 1) := by decide +kernel
theorem d_law_17 : decode code 17 = .ok (.aload_n 0, 1) := by decide +kernel
theorem d_law_18 : decode code 18 = .ok (.iconst 0, 1) := by decide +kernel
theorem d_law_19 : decode code 19 = .ok (.invokestatic 9, 3) := by decide +kernel
theorem d_law_22 : decode code 22 = .ok (.invokespecial 20, 3) := by decide +kernel
theorem d_law_25 : decode code 25 = .ok (.astore_n 2, 1) := by decide +kernel
theorem d_law_26 : decode code 26 = .ok (.iconst 1, 1) := by decide +kernel
theorem d_law_27 : decode code 27 = .ok (.istore_n 3, 1) := by decide +kernel
theorem d_law_28 : decode code 28 = .ok (.iload_n 3, 1) := by decide +kernel
theorem d_law_29 : decode code 29 = .ok (.aload_n 0, 1) := by decide +kernel
theorem d_law_30 : decode code 30 = .ok (.arraylength, 1) := by decide +kernel
theorem d_law_31 : decode code 31 = .ok (.iconst 4, 1) := by decide +kernel
theorem d_law_32 : decode code 32 = .ok (.isub, 1) := by decide +kernel
theorem d_law_33 : decode code 33 = .ok (.if_icmp .gt 466, 3) := by decide +kernel
theorem d_law_36 : decode code 36 = .ok (.aload_n 0, 1) := by decide +kernel
theorem d_law_37 : decode code 37 = .ok (.iload_n 3, 1) := by decide +kernel
theorem d_law_38 : decode code 38 = .ok (.iaload, 1) := by decide +kernel
theorem d_law_39 : decode code 39 = .ok (.bipush 15, 2) := by decide +kernel
theorem d_law_41 : decode code 41 = .ok (.iand, 1) := by decide +kernel
theorem d_law_42 : decode code 42 = .ok (.tableswitch 451 0 14 #[74, 97, 130, 153, 186, 209, 252, 289, 302, 313, 326, 339, 362, 385, 418], 74) := by decide +kernel
theorem d_law_116 : decode code 116 = .ok (.aload_n 1, 1) := by decide +kernel
theorem d_law_117 : decode code 117 = .ok (.aload_n 0, 1) := by decide +kernel
theorem d_law_118 : decode code 118 = .ok (.iload_n 3, 1) := by decide +kernel
theorem d_law_119 : decode code 119 = .ok (.iconst 1, 1) := by decide +kernel
theorem d_law_120 : decode code 120 = .ok (.iadd, 1) := by decide +kernel
theorem d_law_121 : decode code 121 = .ok (.iaload, 1) := by decide +kernel
theorem d_law_122 : decode code 122 = .ok (.invokevirtual 21, 3) := by decide +kernel
theorem d_law_125 : decode code 125 = .ok (.aload_n 2, 1) := by decide +kernel
theorem d_law_126 : decode code 126 = .ok (.aload_n 0, 1) := by decide +kernel
theorem d_law_127 : decode code 127 = .ok (.iload_n 3, 1) := by decide +kernel
theorem d_law_128 : decode code 128 = .ok (.iconst 1, 1) := by decide +kernel
theorem d_law_129 : decode code 129 = .ok (.iadd, 1) := by decide +kernel
theorem d_law_130 : decode code 130 = .ok (.iaload, 1) := by decide +kernel
theorem d_law_131 : decode code 131 = .ok (.invokevirtual 25, 3) := by decide +kernel
theorem d_law_134 : decode code 134 = .ok (.if_icmp .eq 359, 3) := by decide +kernel
theorem d_law_137 : decode code 137 = .ok (.iconst 0, 1) := by decide +kernel
theorem d_law_138 : decode code 138 = .ok (.ireturn, 1) := by decide +kernel
theorem d_law_139 : decode code 139 = .ok (.aload_n 1, 1) := by decide +kernel
theorem d_law_140 : decode code 140 = .ok (.aload_n 0, 1) := by decide +kernel
theorem d_law_141 : decode code 141 = .ok (.iload_n 3, 1) := by decide +kernel
theorem d_law_142 : decode code 142 = .ok (.iconst 1, 1) := by decide +kernel
theorem d_law_143 : decode code 143 = .ok (.iadd, 1) := by decide +kernel
theorem d_law_144 : decode code 144 = .ok (.iaload, 1) := by decide +kernel
theorem d_law_145 : decode code 145 = .ok (.aload_n 0, 1) := by decide +kernel
theorem d_law_146 : decode code 146 = .ok (.iload_n 3, 1) := by decide +kernel
theorem d_law_147 : decode code 147 = .ok (.iconst 2, 1) := by decide +kernel
theorem d_law_148 : decode code 148 = .ok (.iadd, 1) := by decide +kernel
theorem d_law_149 : decode code 149 = .ok (.iaload, 1) := by decide +kernel
theorem d_law_150 : decode code 150 = .ok (.invokevirtual 26, 3) := by decide +kernel
theorem d_law_153 : decode code 153 = .ok (.aload_n 2, 1) := by decide +kernel
theorem d_law_154 : decode code 154 = .ok (.aload_n 0, 1) := by decide +kernel
theorem d_law_155 : decode code 155 = .ok (.iload_n 3, 1) := by decide +kernel
theorem d_law_156 : decode code 156 = .ok (.iconst 1, 1) := by decide +kernel
theorem d_law_157 : decode code 157 = .ok (.iadd, 1) := by decide +kernel
theorem d_law_158 : decode code 158 = .ok (.iaload, 1) := by decide +kernel
theorem d_law_159 : decode code 159 = .ok (.aload_n 0, 1) := by decide +kernel
theorem d_law_160 : decode code 160 = .ok (.iload_n 3, 1) := by decide +kernel
theorem d_law_161 : decode code 161 = .ok (.iconst 2, 1) := by decide +kernel
theorem d_law_162 : decode code 162 = .ok (.iadd, 1) := by decide +kernel
theorem d_law_163 : decode code 163 = .ok (.iaload, 1) := by decide +kernel
theorem d_law_164 : decode code 164 = .ok (.invokevirtual 30, 3) := by decide +kernel
theorem d_law_167 : decode code 167 = .ok (.if_icmp .eq 326, 3) := by decide +kernel
theorem d_law_170 : decode code 170 = .ok (.iconst 0, 1) := by decide +kernel
theorem d_law_171 : decode code 171 = .ok (.ireturn, 1) := by decide +kernel
theorem d_law_172 : decode code 172 = .ok (.aload_n 1, 1) := by decide +kernel
theorem d_law_173 : decode code 173 = .ok (.aload_n 0, 1) := by decide +kernel
theorem d_law_174 : decode code 174 = .ok (.iload_n 3, 1) := by decide +kernel
theorem d_law_175 : decode code 175 = .ok (.iconst 1, 1) := by decide +kernel
theorem d_law_176 : decode code 176 = .ok (.iadd, 1) := by decide +kernel
theorem d_law_177 : decode code 177 = .ok (.iaload, 1) := by decide +kernel
theorem d_law_178 : decode code 178 = .ok (.invokevirtual 31, 3) := by decide +kernel
theorem d_law_181 : decode code 181 = .ok (.aload_n 2, 1) := by decide +kernel
theorem d_law_182 : decode code 182 = .ok (.aload_n 0, 1) := by decide +kernel
theorem d_law_183 : decode code 183 = .ok (.iload_n 3, 1) := by decide +kernel
theorem d_law_184 : decode code 184 = .ok (.iconst 1, 1) := by decide +kernel
theorem d_law_185 : decode code 185 = .ok (.iadd, 1) := by decide +kernel
theorem d_law_186 : decode code 186 = .ok (.iaload, 1) := by decide +kernel
theorem d_law_187 : decode code 187 = .ok (.invokevirtual 34, 3) := by decide +kernel
theorem d_law_190 : decode code 190 = .ok (.if_icmp .eq 303, 3) := by decide +kernel
theorem d_law_193 : decode code 193 = .ok (.iconst 0, 1) := by decide +kernel
theorem d_law_194 : decode code 194 = .ok (.ireturn, 1) := by decide +kernel
theorem d_law_195 : decode code 195 = .ok (.aload_n 1, 1) := by decide +kernel
theorem d_law_196 : decode code 196 = .ok (.aload_n 0, 1) := by decide +kernel
theorem d_law_197 : decode code 197 = .ok (.iload_n 3, 1) := by decide +kernel
theorem d_law_198 : decode code 198 = .ok (.iconst 1, 1) := by decide +kernel
theorem d_law_199 : decode code 199 = .ok (.iadd, 1) := by decide +kernel
theorem d_law_200 : decode code 200 = .ok (.iaload, 1) := by decide +kernel
theorem d_law_201 : decode code 201 = .ok (.aload_n 0, 1) := by decide +kernel
theorem d_law_202 : decode code 202 = .ok (.iload_n 3, 1) := by decide +kernel
theorem d_law_203 : decode code 203 = .ok (.iconst 2, 1) := by decide +kernel
theorem d_law_204 : decode code 204 = .ok (.iadd, 1) := by decide +kernel
theorem d_law_205 : decode code 205 = .ok (.iaload, 1) := by decide +kernel
theorem d_law_206 : decode code 206 = .ok (.invokevirtual 35, 3) := by decide +kernel
theorem d_law_209 : decode code 209 = .ok (.aload_n 2, 1) := by decide +kernel
theorem d_law_210 : decode code 210 = .ok (.aload_n 0, 1) := by decide +kernel
theorem d_law_211 : decode code 211 = .ok (.iload_n 3, 1) := by decide +kernel
theorem d_law_212 : decode code 212 = .ok (.iconst 1, 1) := by decide +kernel
theorem d_law_213 : decode code 213 = .ok (.iadd, 1) := by decide +kernel
theorem d_law_214 : decode code 214 = .ok (.iaload, 1) := by decide +kernel
theorem d_law_215 : decode code 215 = .ok (.aload_n 0, 1) := by decide +kernel
theorem d_law_216 : decode code 216 = .ok (.iload_n 3, 1) := by decide +kernel
theorem d_law_217 : decode code 217 = .ok (.iconst 2, 1) := by decide +kernel
theorem d_law_218 : decode code 218 = .ok (.iadd, 1) := by decide +kernel
theorem d_law_219 : decode code 219 = .ok (.iaload, 1) := by decide +kernel
theorem d_law_220 : decode code 220 = .ok (.invokevirtual 38, 3) := by decide +kernel
theorem d_law_223 : decode code 223 = .ok (.if_icmp .eq 270, 3) := by decide +kernel
theorem d_law_226 : decode code 226 = .ok (.iconst 0, 1) := by decide +kernel
theorem d_law_227 : decode code 227 = .ok (.ireturn, 1) := by decide +kernel
theorem d_law_228 : decode code 228 = .ok (.aload_n 1, 1) := by decide +kernel
theorem d_law_229 : decode code 229 = .ok (.aload_n 0, 1) := by decide +kernel
theorem d_law_230 : decode code 230 = .ok (.iload_n 3, 1) := by decide +kernel
theorem d_law_231 : decode code 231 = .ok (.iconst 1, 1) := by decide +kernel
theorem d_law_232 : decode code 232 = .ok (.iadd, 1) := by decide +kernel
theorem d_law_233 : decode code 233 = .ok (.iaload, 1) := by decide +kernel
theorem d_law_234 : decode code 234 = .ok (.invokevirtual 39, 3) := by decide +kernel
theorem d_law_237 : decode code 237 = .ok (.aload_n 2, 1) := by decide +kernel
theorem d_law_238 : decode code 238 = .ok (.aload_n 0, 1) := by decide +kernel
theorem d_law_239 : decode code 239 = .ok (.iload_n 3, 1) := by decide +kernel
theorem d_law_240 : decode code 240 = .ok (.iconst 1, 1) := by decide +kernel
theorem d_law_241 : decode code 241 = .ok (.iadd, 1) := by decide +kernel
theorem d_law_242 : decode code 242 = .ok (.iaload, 1) := by decide +kernel
theorem d_law_243 : decode code 243 = .ok (.invokevirtual 42, 3) := by decide +kernel
theorem d_law_246 : decode code 246 = .ok (.if_icmp .eq 247, 3) := by decide +kernel
theorem d_law_249 : decode code 249 = .ok (.iconst 0, 1) := by decide +kernel
theorem d_law_250 : decode code 250 = .ok (.ireturn, 1) := by decide +kernel
theorem d_law_251 : decode code 251 = .ok (.aload_n 1, 1) := by decide +kernel
theorem d_law_252 : decode code 252 = .ok (.aload_n 0, 1) := by decide +kernel
theorem d_law_253 : decode code 253 = .ok (.iload_n 3, 1) := by decide +kernel
theorem d_law_254 : decode code 254 = .ok (.iconst 1, 1) := by decide +kernel
theorem d_law_255 : decode code 255 = .ok (.iadd, 1) := by decide +kernel
theorem d_law_256 : decode code 256 = .ok (.iaload, 1) := by decide +kernel
theorem d_law_257 : decode code 257 = .ok (.aload_n 0, 1) := by decide +kernel
theorem d_law_258 : decode code 258 = .ok (.iload_n 3, 1) := by decide +kernel
theorem d_law_259 : decode code 259 = .ok (.iconst 2, 1) := by decide +kernel
theorem d_law_260 : decode code 260 = .ok (.iadd, 1) := by decide +kernel
theorem d_law_261 : decode code 261 = .ok (.iaload, 1) := by decide +kernel
theorem d_law_262 : decode code 262 = .ok (.aload_n 0, 1) := by decide +kernel
theorem d_law_263 : decode code 263 = .ok (.iload_n 3, 1) := by decide +kernel
theorem d_law_264 : decode code 264 = .ok (.iconst 3, 1) := by decide +kernel
theorem d_law_265 : decode code 265 = .ok (.iadd, 1) := by decide +kernel
theorem d_law_266 : decode code 266 = .ok (.iaload, 1) := by decide +kernel
theorem d_law_267 : decode code 267 = .ok (.invokevirtual 43, 3) := by decide +kernel
theorem d_law_270 : decode code 270 = .ok (.aload_n 2, 1) := by decide +kernel
theorem d_law_271 : decode code 271 = .ok (.aload_n 0, 1) := by decide +kernel
theorem d_law_272 : decode code 272 = .ok (.iload_n 3, 1) := by decide +kernel
theorem d_law_273 : decode code 273 = .ok (.iconst 1, 1) := by decide +kernel
theorem d_law_274 : decode code 274 = .ok (.iadd, 1) := by decide +kernel
theorem d_law_275 : decode code 275 = .ok (.iaload, 1) := by decide +kernel
theorem d_law_276 : decode code 276 = .ok (.aload_n 0, 1) := by decide +kernel
theorem d_law_277 : decode code 277 = .ok (.iload_n 3, 1) := by decide +kernel
theorem d_law_278 : decode code 278 = .ok (.iconst 2, 1) := by decide +kernel
theorem d_law_279 : decode code 279 = .ok (.iadd, 1) := by decide +kernel
theorem d_law_280 : decode code 280 = .ok (.iaload, 1) := by decide +kernel
theorem d_law_281 : decode code 281 = .ok (.aload_n 0, 1) := by decide +kernel
theorem d_law_282 : decode code 282 = .ok (.iload_n 3, 1) := by decide +kernel
theorem d_law_283 : decode code 283 = .ok (.iconst 3, 1) := by decide +kernel
theorem d_law_284 : decode code 284 = .ok (.iadd, 1) := by decide +kernel
theorem d_law_285 : decode code 285 = .ok (.iaload, 1) := by decide +kernel
theorem d_law_286 : decode code 286 = .ok (.invokevirtual 47, 3) := by decide +kernel
theorem d_law_289 : decode code 289 = .ok (.if_icmp .eq 204, 3) := by decide +kernel
theorem d_law_292 : decode code 292 = .ok (.iconst 0, 1) := by decide +kernel
theorem d_law_293 : decode code 293 = .ok (.ireturn, 1) := by decide +kernel
theorem d_law_294 : decode code 294 = .ok (.aload_n 1, 1) := by decide +kernel
theorem d_law_295 : decode code 295 = .ok (.aload_n 0, 1) := by decide +kernel
theorem d_law_296 : decode code 296 = .ok (.iload_n 3, 1) := by decide +kernel
theorem d_law_297 : decode code 297 = .ok (.iconst 1, 1) := by decide +kernel
theorem d_law_298 : decode code 298 = .ok (.iadd, 1) := by decide +kernel
theorem d_law_299 : decode code 299 = .ok (.iaload, 1) := by decide +kernel
theorem d_law_300 : decode code 300 = .ok (.ifCond .eq 7, 3) := by decide +kernel
theorem d_law_303 : decode code 303 = .ok (.iconst 1, 1) := by decide +kernel
theorem d_law_304 : decode code 304 = .ok (.goto 4, 3) := by decide +kernel
theorem d_law_307 : decode code 307 = .ok (.iconst 0, 1) := by decide +kernel
theorem d_law_308 : decode code 308 = .ok (.invokevirtual 48, 3) := by decide +kernel
theorem d_law_311 : decode code 311 = .ok (.aload_n 2, 1) := by decide +kernel
theorem d_law_312 : decode code 312 = .ok (.aload_n 0, 1) := by decide +kernel
theorem d_law_313 : decode code 313 = .ok (.iload_n 3, 1) := by decide +kernel
theorem d_law_314 : decode code 314 = .ok (.iconst 1, 1) := by decide +kernel
theorem d_law_315 : decode code 315 = .ok (.iadd, 1) := by decide +kernel
theorem d_law_316 : decode code 316 = .ok (.iaload, 1) := by decide +kernel
theorem d_law_317 : decode code 317 = .ok (.ifCond .eq 7, 3) := by decide +kernel
theorem d_law_320 : decode code 320 = .ok (.iconst 1, 1) := by decide +kernel
theorem d_law_321 : decode code 321 = .ok (.goto 4, 3) := by decide +kernel
theorem d_law_324 : decode code 324 = .ok (.iconst 0, 1) := by decide +kernel
theorem d_law_325 : decode code 325 = .ok (.invokevirtual 52, 3) := by decide +kernel
theorem d_law_328 : decode code 328 = .ok (.goto 165, 3) := by decide +kernel
theorem d_law_331 : decode code 331 = .ok (.aload_n 1, 1) := by decide +kernel
theorem d_law_332 : decode code 332 = .ok (.invokevirtual 53, 3) := by decide +kernel
theorem d_law_335 : decode code 335 = .ok (.aload_n 2, 1) := by decide +kernel
theorem d_law_336 : decode code 336 = .ok (.invokevirtual 57, 3) := by decide +kernel
theorem d_law_339 : decode code 339 = .ok (.if_icmp .eq 154, 3) := by decide +kernel
theorem d_law_342 : decode code 342 = .ok (.iconst 0, 1) := by decide +kernel
theorem d_law_343 : decode code 343 = .ok (.ireturn, 1) := by decide +kernel
theorem d_law_344 : decode code 344 = .ok (.aload_n 1, 1) := by decide +kernel
theorem d_law_345 : decode code 345 = .ok (.invokevirtual 58, 3) := by decide +kernel
theorem d_law_348 : decode code 348 = .ok (.aload_n 2, 1) := by decide +kernel
theorem d_law_349 : decode code 349 = .ok (.invokevirtual 61, 3) := by decide +kernel
theorem d_law_352 : decode code 352 = .ok (.goto 141, 3) := by decide +kernel
theorem d_law_355 : decode code 355 = .ok (.aload_n 1, 1) := by decide +kernel
theorem d_law_356 : decode code 356 = .ok (.invokevirtual 62, 3) := by decide +kernel
theorem d_law_359 : decode code 359 = .ok (.aload_n 2, 1) := by decide +kernel
theorem d_law_360 : decode code 360 = .ok (.invokevirtual 66, 3) := by decide +kernel
theorem d_law_363 : decode code 363 = .ok (.if_icmp .eq 130, 3) := by decide +kernel
theorem d_law_366 : decode code 366 = .ok (.iconst 0, 1) := by decide +kernel
theorem d_law_367 : decode code 367 = .ok (.ireturn, 1) := by decide +kernel
theorem d_law_368 : decode code 368 = .ok (.aload_n 1, 1) := by decide +kernel
theorem d_law_369 : decode code 369 = .ok (.invokevirtual 67, 3) := by decide +kernel
theorem d_law_372 : decode code 372 = .ok (.aload_n 2, 1) := by decide +kernel
theorem d_law_373 : decode code 373 = .ok (.invokevirtual 70, 3) := by decide +kernel
theorem d_law_376 : decode code 376 = .ok (.if_icmp .eq 117, 3) := by decide +kernel
theorem d_law_379 : decode code 379 = .ok (.iconst 0, 1) := by decide +kernel
theorem d_law_380 : decode code 380 = .ok (.ireturn, 1) := by decide +kernel
theorem d_law_381 : decode code 381 = .ok (.aload_n 1, 1) := by decide +kernel
theorem d_law_382 : decode code 382 = .ok (.aload_n 0, 1) := by decide +kernel
theorem d_law_383 : decode code 383 = .ok (.iload_n 3, 1) := by decide +kernel
theorem d_law_384 : decode code 384 = .ok (.iconst 1, 1) := by decide +kernel
theorem d_law_385 : decode code 385 = .ok (.iadd, 1) := by decide +kernel
theorem d_law_386 : decode code 386 = .ok (.iaload, 1) := by decide +kernel
theorem d_law_387 : decode code 387 = .ok (.invokevirtual 71, 3) := by decide +kernel
theorem d_law_390 : decode code 390 = .ok (.aload_n 2, 1) := by decide +kernel
theorem d_law_391 : decode code 391 = .ok (.aload_n 0, 1) := by decide +kernel
theorem d_law_392 : decode code 392 = .ok (.iload_n 3, 1) := by decide +kernel
theorem d_law_393 : decode code 393 = .ok (.iconst 1, 1) := by decide +kernel
theorem d_law_394 : decode code 394 = .ok (.iadd, 1) := by decide +kernel
theorem d_law_395 : decode code 395 = .ok (.iaload, 1) := by decide +kernel
theorem d_law_396 : decode code 396 = .ok (.invokevirtual 74, 3) := by decide +kernel
theorem d_law_399 : decode code 399 = .ok (.if_icmp .eq 94, 3) := by decide +kernel
theorem d_law_402 : decode code 402 = .ok (.iconst 0, 1) := by decide +kernel
theorem d_law_403 : decode code 403 = .ok (.ireturn, 1) := by decide +kernel
theorem d_law_404 : decode code 404 = .ok (.aload_n 1, 1) := by decide +kernel
theorem d_law_405 : decode code 405 = .ok (.aload_n 0, 1) := by decide +kernel
theorem d_law_406 : decode code 406 = .ok (.iload_n 3, 1) := by decide +kernel
theorem d_law_407 : decode code 407 = .ok (.iconst 1, 1) := by decide +kernel
theorem d_law_408 : decode code 408 = .ok (.iadd, 1) := by decide +kernel
theorem d_law_409 : decode code 409 = .ok (.iaload, 1) := by decide +kernel
theorem d_law_410 : decode code 410 = .ok (.invokevirtual 75, 3) := by decide +kernel
theorem d_law_413 : decode code 413 = .ok (.aload_n 2, 1) := by decide +kernel
theorem d_law_414 : decode code 414 = .ok (.aload_n 0, 1) := by decide +kernel
theorem d_law_415 : decode code 415 = .ok (.iload_n 3, 1) := by decide +kernel
theorem d_law_416 : decode code 416 = .ok (.iconst 1, 1) := by decide +kernel
theorem d_law_417 : decode code 417 = .ok (.iadd, 1) := by decide +kernel
theorem d_law_418 : decode code 418 = .ok (.iaload, 1) := by decide +kernel
theorem d_law_419 : decode code 419 = .ok (.invokevirtual 78, 3) := by decide +kernel
theorem d_law_422 : decode code 422 = .ok (.if_icmp .eq 71, 3) := by decide +kernel
theorem d_law_425 : decode code 425 = .ok (.iconst 0, 1) := by decide +kernel
theorem d_law_426 : decode code 426 = .ok (.ireturn, 1) := by decide +kernel
theorem d_law_427 : decode code 427 = .ok (.aload_n 1, 1) := by decide +kernel
theorem d_law_428 : decode code 428 = .ok (.aload_n 0, 1) := by decide +kernel
theorem d_law_429 : decode code 429 = .ok (.iload_n 3, 1) := by decide +kernel
theorem d_law_430 : decode code 430 = .ok (.iconst 1, 1) := by decide +kernel
theorem d_law_431 : decode code 431 = .ok (.iadd, 1) := by decide +kernel
theorem d_law_432 : decode code 432 = .ok (.iaload, 1) := by decide +kernel
theorem d_law_433 : decode code 433 = .ok (.aload_n 0, 1) := by decide +kernel
theorem d_law_434 : decode code 434 = .ok (.iload_n 3, 1) := by decide +kernel
theorem d_law_435 : decode code 435 = .ok (.iconst 2, 1) := by decide +kernel
theorem d_law_436 : decode code 436 = .ok (.iadd, 1) := by decide +kernel
theorem d_law_437 : decode code 437 = .ok (.iaload, 1) := by decide +kernel
theorem d_law_438 : decode code 438 = .ok (.invokevirtual 79, 3) := by decide +kernel
theorem d_law_441 : decode code 441 = .ok (.aload_n 2, 1) := by decide +kernel
theorem d_law_442 : decode code 442 = .ok (.aload_n 0, 1) := by decide +kernel
theorem d_law_443 : decode code 443 = .ok (.iload_n 3, 1) := by decide +kernel
theorem d_law_444 : decode code 444 = .ok (.iconst 1, 1) := by decide +kernel
theorem d_law_445 : decode code 445 = .ok (.iadd, 1) := by decide +kernel
theorem d_law_446 : decode code 446 = .ok (.iaload, 1) := by decide +kernel
theorem d_law_447 : decode code 447 = .ok (.aload_n 0, 1) := by decide +kernel
theorem d_law_448 : decode code 448 = .ok (.iload_n 3, 1) := by decide +kernel
theorem d_law_449 : decode code 449 = .ok (.iconst 2, 1) := by decide +kernel
theorem d_law_450 : decode code 450 = .ok (.iadd, 1) := by decide +kernel
theorem d_law_451 : decode code 451 = .ok (.iaload, 1) := by decide +kernel
theorem d_law_452 : decode code 452 = .ok (.invokevirtual 82, 3) := by decide +kernel
theorem d_law_455 : decode code 455 = .ok (.if_icmp .eq 38, 3) := by decide +kernel
theorem d_law_458 : decode code 458 = .ok (.iconst 0, 1) := by decide +kernel
theorem d_law_459 : decode code 459 = .ok (.ireturn, 1) := by decide +kernel
theorem d_law_460 : decode code 460 = .ok (.aload_n 1, 1) := by decide +kernel
theorem d_law_461 : decode code 461 = .ok (.aload_n 0, 1) := by decide +kernel
theorem d_law_462 : decode code 462 = .ok (.iload_n 3, 1) := by decide +kernel
theorem d_law_463 : decode code 463 = .ok (.iconst 1, 1) := by decide +kernel
theorem d_law_464 : decode code 464 = .ok (.iadd, 1) := by decide +kernel
theorem d_law_465 : decode code 465 = .ok (.iaload, 1) := by decide +kernel
theorem d_law_466 : decode code 466 = .ok (.aload_n 0, 1) := by decide +kernel
theorem d_law_467 : decode code 467 = .ok (.iload_n 3, 1) := by decide +kernel
theorem d_law_468 : decode code 468 = .ok (.iconst 2, 1) := by decide +kernel
theorem d_law_469 : decode code 469 = .ok (.iadd, 1) := by decide +kernel
theorem d_law_470 : decode code 470 = .ok (.iaload, 1) := by decide +kernel
theorem d_law_471 : decode code 471 = .ok (.invokevirtual 83, 3) := by decide +kernel
theorem d_law_474 : decode code 474 = .ok (.aload_n 2, 1) := by decide +kernel
theorem d_law_475 : decode code 475 = .ok (.aload_n 0, 1) := by decide +kernel
theorem d_law_476 : decode code 476 = .ok (.iload_n 3, 1) := by decide +kernel
theorem d_law_477 : decode code 477 = .ok (.iconst 1, 1) := by decide +kernel
theorem d_law_478 : decode code 478 = .ok (.iadd, 1) := by decide +kernel
theorem d_law_479 : decode code 479 = .ok (.iaload, 1) := by decide +kernel
theorem d_law_480 : decode code 480 = .ok (.aload_n 0, 1) := by decide +kernel
theorem d_law_481 : decode code 481 = .ok (.iload_n 3, 1) := by decide +kernel
theorem d_law_482 : decode code 482 = .ok (.iconst 2, 1) := by decide +kernel
theorem d_law_483 : decode code 483 = .ok (.iadd, 1) := by decide +kernel
theorem d_law_484 : decode code 484 = .ok (.iaload, 1) := by decide +kernel
theorem d_law_485 : decode code 485 = .ok (.invokevirtual 86, 3) := by decide +kernel
theorem d_law_488 : decode code 488 = .ok (.if_icmp .eq 5, 3) := by decide +kernel
theorem d_law_491 : decode code 491 = .ok (.iconst 0, 1) := by decide +kernel
theorem d_law_492 : decode code 492 = .ok (.ireturn, 1) := by decide +kernel
theorem d_law_493 : decode code 493 = .ok (.iinc 3 4, 3) := by decide +kernel
theorem d_law_496 : decode code 496 = .ok (.goto (-468), 3) := by decide +kernel
theorem d_law_499 : decode code 499 = .ok (.iconst 1, 1) := by decide +kernel
theorem d_law_500 : decode code 500 = .ok (.ireturn, 1) := by decide +kernel
end
section
/-! Helpers: a method's start, its end, its calls, its fields and arrays, over any world. -/
section TB
variable {p : Program} {l : Launch} {e : Env} {R : Room} {s : State} {m : MethodId} {args : Array Value} {below : List Frame} {meth : Method} {c : Code} {H : Heap} {locs : List Loc} {cells slots : Nat} {Q : State → Prop}
variable {cc : ByteArray} {pc : Nat} {ls : Array Slot} {rest : List Value} {D : va_G} {cl : List vw_C} {A : Nat → Prop} {tys : List (ClassId × FieldType)} {w0 : va_W}
theorem tp_i {x : Int32} (y : Int32) (h : x = y) (k : W p l e R s m args below meth c H locs cells slots Q (F0 m pc ls (.int y :: rest))) : W p l e R s m args below meth c H locs cells slots Q (F0 m pc ls (.int x :: rest)) := by
  subst h; exact k
theorem tb_iald (hx : p.tables.exec = Jvm.exec) (hb : c.code = cc) (hK : va_K D cl tys s) (hP : va_P D cl w0 H) (q0 t0 : Nat) {a : Nat} {cA : ClassId} {n : Nat} {f : Nat → Int32} (ha : w0[q0]? = some (a, .inl (cA, n, .inl f))) (ht : tys[t0]? = some (cA, .int)) {i : Nat} (hi : i < n) (hn : n < 2 ^ 31) (hd : decode cc pc = .ok (.iaload, 1))
    (kk : W p l e R s m args below meth c H locs cells slots Q (F0 m (pc + 1) ls (.int (f i) :: rest))) : W p l e R s m args below meth c H locs cells slots Q (F0 m pc ls (.int (nI i) :: .ref a :: rest)) := by
  refine va_iald hx hb hK hP q0 t0 ha ht (vp_in_nI hi hn) hd ?_
  rw [nI_clamp (Nat.lt_trans hi hn)]
  exact kk
theorem tb_bald (hx : p.tables.exec = Jvm.exec) (hb : c.code = cc) (hK : va_K D cl tys s) (hP : va_P D cl w0 H) (q0 t0 : Nat) {a : Nat} {cA : ClassId} {n : Nat} {f : Nat → Int32} (ha : w0[q0]? = some (a, .inl (cA, n, .inl f))) (ht : tys[t0]? = some (cA, .byte)) {i : Nat} (hi : i < n) (hn : n < 2 ^ 31) (hd : decode cc pc = .ok (.baload, 1))
    (kk : W p l e R s m args below meth c H locs cells slots Q (F0 m (pc + 1) ls (.int (f i) :: rest))) : W p l e R s m args below meth c H locs cells slots Q (F0 m pc ls (.int (nI i) :: .ref a :: rest)) := by
  refine va_bald hx hb hK hP q0 t0 ha ht (vp_in_nI hi hn) hd ?_
  rw [nI_clamp (Nat.lt_trans hi hn)]
  exact kk
theorem tb_iast {H0 : Heap} (hx : p.tables.exec = Jvm.exec) (hb : c.code = cc) (hK : va_K D cl tys s) (hP : va_P D cl w0 H) (hD : va_D A w0) (hS : va_S A H0 H locs) (q0 t0 : Nat) {a : Nat} {cA : ClassId} {n : Nat} {f : Nat → Int32} (ha : w0[q0]? = some (a, .inl (cA, n, .inl f))) (ht : tys[t0]? = some (cA, .int)) {i : Nat} {x : Int32} (hi : i < n) (hn : n < 2 ^ 31) (w1 : va_W) (hw : w0.set q0 (a, .inl (cA, n, .inl (upd f i x))) = w1) (hd : decode cc pc = .ok (.iastore, 1))
    (kk : ∀ (H1 : Heap) (locs1 : List Loc), va_P D cl w1 H1 → va_D A w1 → va_S A H0 H1 locs1 → W p l e R s m args below meth c H1 locs1 cells slots Q (F0 m (pc + 1) ls rest)) : W p l e R s m args below meth c H locs cells slots Q (F0 m pc ls (.int x :: .int (nI i) :: .ref a :: rest)) := by
  refine va_iast hx hb hK hP hD hS q0 t0 ha ht (vp_in_nI hi hn) hd ?_
  rw [nI_clamp (Nat.lt_trans hi hn), hw]
  exact kk
theorem tb_bast {H0 : Heap} (hx : p.tables.exec = Jvm.exec) (hb : c.code = cc) (hK : va_K D cl tys s) (hP : va_P D cl w0 H) (hD : va_D A w0) (hS : va_S A H0 H locs) (q0 t0 : Nat) {a : Nat} {cA : ClassId} {n : Nat} {f : Nat → Int32} (ha : w0[q0]? = some (a, .inl (cA, n, .inl f))) (ht : tys[t0]? = some (cA, .byte)) {i : Nat} {x : Int32} (hi : i < n) (hn : n < 2 ^ 31) (w1 : va_W) (hw : w0.set q0 (a, .inl (cA, n, .inl (upd f i (vp_nar .byte x)))) = w1) (hd : decode cc pc = .ok (.bastore, 1))
    (kk : ∀ (H1 : Heap) (locs1 : List Loc), va_P D cl w1 H1 → va_D A w1 → va_S A H0 H1 locs1 → W p l e R s m args below meth c H1 locs1 cells slots Q (F0 m (pc + 1) ls rest)) : W p l e R s m args below meth c H locs cells slots Q (F0 m pc ls (.int x :: .int (nI i) :: .ref a :: rest)) := by
  refine va_bast hx hb hK hP hD hS q0 t0 ha ht (vp_in_nI hi hn) hd ?_
  rw [nI_clamp (Nat.lt_trans hi hn), hw]
  exact kk
theorem upd_nI (g : Nat → Nat) (k v : Nat) : upd (fun j => nI (g j)) k (nI v) = fun j => nI (va_up g k v j) := by
  funext j
  unfold upd va_up
  split <;> rfl
/-- an array of numbers that are Nats -/
theorem tb_iastN {H0 : Heap} (hx : p.tables.exec = Jvm.exec) (hb : c.code = cc) (hK : va_K D cl tys s) (hP : va_P D cl w0 H) (hD : va_D A w0) (hS : va_S A H0 H locs) (q0 t0 : Nat) {a : Nat} {cA : ClassId} {n : Nat} {g : Nat → Nat} (ha : w0[q0]? = some (a, .inl (cA, n, .inl (fun j => nI (g j))))) (ht : tys[t0]? = some (cA, .int)) {i x : Nat} (hi : i < n) (hn : n < 2 ^ 31) (w1 : va_W) (hw : w0.set q0 (a, .inl (cA, n, .inl (fun j => nI (va_up g i x j)))) = w1) (hd : decode cc pc = .ok (.iastore, 1))
    (kk : ∀ (H1 : Heap) (locs1 : List Loc), va_P D cl w1 H1 → va_D A w1 → va_S A H0 H1 locs1 → W p l e R s m args below meth c H1 locs1 cells slots Q (F0 m (pc + 1) ls rest)) : W p l e R s m args below meth c H locs cells slots Q (F0 m pc ls (.int (nI x) :: .int (nI i) :: .ref a :: rest)) := by
  refine tb_iast hx hb hK hP hD hS q0 t0 ha ht hi hn w1 ?_ hd kk
  rw [upd_nI, hw]
/-- a method's start -/
theorem tb_met {y : MethodName} {ws ws' : List Cond} {rm : Room} {maxL mc ms : Nat} {ret : Option FieldType} {sz : Nat} {av : List Value} {Qc : (Nat → Prop) → Array Value → State → Outcome → State → Prop} {own : String}
    (hy : plainName y.cls = true) (ho : y.cls = own) (hw : ws = Cond.code y cc maxL ret :: ws') (hav : (lg_sl av).length ≤ maxL) (lv : List (Nat × Value)) (hlv : lv_args 0 av = lv)
    (body : ∀ (p : Program) (e : Env) (s : State) (m : MethodId) (below : List Frame) (meth : Method) (c : Code) (A : Nat → Prop) (ls : Array Slot), p.tables.exec = Jvm.exec → c.code = cc → meth.sig.returnType = ret → c.maxLocals = maxL → (∀ w ∈ ws', w.before av.toArray s = true) → s.vm.findClass own = some m.cls → meth.locks = false → meth.name = y.name → (∀ q : Nat, s.heap.size ≤ q → A q) → va_K D cl tys s → va_P D cl w0 s.heap → va_D A w0 → va_S A s.heap s.heap [] → lv_has ls maxL lv → W p l e rm s m av.toArray below meth c s.heap [] 0 0 (MQ below (Qc A) av.toArray s mc ms A) (F0 m 0 ls [])) :
    Met l y ws rm (va_Pc av (fun U => U.heap.size = sz ∧ va_P D cl w0 U.heap ∧ va_K D cl tys U ∧ va_D (fun _ => True) w0)) (Qc (va_A w0 sz)) mc ms (va_A w0 sz) := by
  refine Met.ofW (cc := cc) (maxL := maxL) (ret := ret) hy hw ?_
  intro p e s m args below meth c s₁ B hml hv
  obtain ⟨rfl, hsz, hP, hK, hD0⟩ := hv
  subst hsz
  have hts := atoms_spec (ws := ws) B.pre
  have hown : s.vm.findClass own = some m.cls := by rw [← ho]; exact findClass_of_methodNamed B.named
  have hl := lv_entry av (n := maxL) hav
  rw [lg_entry_eq]
  rw [hlv] at hl
  exact body p e s m below meth c (va_A w0 s.heap.size) _ B.exec B.bytes B.returns hml (fun w h => hts w (by rw [hw]; exact List.mem_cons_of_mem _ h)) hown B.notSynchronized (name_of_methodNamed B.named B.method).1 (fun q h => Or.inr h) hK hP (hD0.self (sz := s.heap.size)) va_S.rf hl
theorem tb_reti {S : Type} {post : Int32 → S → Prop} {w1 : S → va_W} (hx : p.tables.exec = Jvm.exec) (hb : c.code = cc) (hr : meth.sig.returnType = some .int) (hlocks : meth.locks = false) (hK : va_K D cl tys s) (u : S) (hP : va_P D cl (w1 u) H) (hD : va_D A (w1 u)) (hS : va_S A s.heap H locs) {v : Int32} (hv : post v u) (hd : decode cc pc = .ok (.ireturn, 1)) :
    W p l e R s m args below meth c H locs cells slots (MQ below (va_Qi post (fun u t => va_P D cl (w1 u) t.heap ∧ va_K D cl tys t ∧ va_D A (w1 u)) A) args s cells slots A) (F0 m pc ls [.int v]) :=
  W.iret (v := v) hx hb hr (fun t ht hW => ⟨⟨v, u, rfl, hv, by rw [ht]; exact hP, va_K.moved hW.alike hK, hD⟩, hS.F ht⟩) hS.2.2 hd hlocks
theorem tb_retz {S : Type} {post : Int32 → S → Prop} {w1 : S → va_W} (hx : p.tables.exec = Jvm.exec) (hb : c.code = cc) (hr : meth.sig.returnType = some .boolean) (hlocks : meth.locks = false) (hK : va_K D cl tys s) (u : S) (hP : va_P D cl (w1 u) H) (hD : va_D A (w1 u)) (hS : va_S A s.heap H locs) {v : Int32} (hn : narrow .boolean (.int v) = .int v) (hv : post v u) (hd : decode cc pc = .ok (.ireturn, 1)) :
    W p l e R s m args below meth c H locs cells slots (MQ below (va_Qi post (fun u t => va_P D cl (w1 u) t.heap ∧ va_K D cl tys t ∧ va_D A (w1 u)) A) args s cells slots A) (F0 m pc ls [.int v]) :=
  W.zret (v := v) hx hb hr hn (fun t ht hW => ⟨⟨v, u, rfl, hv, by rw [ht]; exact hP, va_K.moved hW.alike hK, hD⟩, hS.F ht⟩) hS.2.2 hd hlocks
theorem tb_retv {S : Type} {post : S → Prop} {w1 : S → va_W} (hx : p.tables.exec = Jvm.exec) (hb : c.code = cc) (hr : meth.sig.returnType = none) (hlocks : meth.locks = false) (hK : va_K D cl tys s) (u : S) (hP : va_P D cl (w1 u) H) (hD : va_D A (w1 u)) (hS : va_S A s.heap H locs) (hv : post u) (hd : decode cc pc = .ok (.return_, 1)) :
    W p l e R s m args below meth c H locs cells slots (MQ below (va_Qv post (fun u t => va_P D cl (w1 u) t.heap ∧ va_K D cl tys t ∧ va_D A (w1 u)) A) args s cells slots A) (F0 m pc ls []) :=
  W.vret hx hb hr (fun t ht hW => ⟨⟨u, rfl, hv, by rw [ht]; exact hP, va_K.moved hW.alike hK, hD⟩, hS.F ht⟩) hS.2.2 hd hlocks
theorem tb_own (hD : va_D A w0) (hS : va_S A s.heap H locs) (hA : ∀ q, s.heap.size ≤ q → A q) : ∀ q, va_A w0 H.size q → A q := by
  intro q h
  rcases h with ⟨k, e, h⟩ | h
  · exact hD.2 k (q, e) h
  · exact hA q (Nat.le_trans hS.1 h)
section TBC
variable {y : MethodName} {ws ws' : List Cond} {bytes : ByteArray} {maxL nL n index mc ms : Nat} {ret : Option FieldType} {rm : Room} {Ts : List Cond} {own C : String} {b : Addr} {As st0 : List Value} {S : Type}
/-- a call that gets the whole world -/
theorem tb_calli {post : Int32 → S → Prop} {w1 : S → va_W} (hM : Met l y ws rm (va_Pc (.ref b :: As) (fun U => U.heap.size = H.size ∧ va_P D cl w0 U.heap ∧ va_K D cl tys U ∧ va_D (fun _ => True) w0)) (va_Qi post (fun u t => va_P D cl (w1 u) t.heap ∧ va_K D cl tys t ∧ va_D (va_A w0 H.size) (w1 u)) (va_A w0 H.size)) mc ms (va_A w0 H.size))
    (S0 : CallFix p m c cc nL s args Ts own) (cw : CallW R s args own C index y bytes maxL ret ws rm mc ms n) (hK : va_K D cl tys s) (hP : va_P D cl w0 H) (hD : va_D A w0) (hS : va_S A s.heap H locs) (hA : ∀ q, s.heap.size ≤ q → A q)
    (ci : Nat) {T : u_T} {N : Nat} {fs : List Value} (hc : cl[ci]? = some (C, T, N)) (q0 : Nat) (he : w0[q0]? = some (b, .inr (ci, fs))) (hn : As.length = n) (hsize : ls.size = nL) (hstack : st0 = As.reverse ++ .ref b :: rest) (hW : (rest.map fun v => v.category).sum ≤ 8) (hdg : decode cc pc = .ok (.invokevirtual index, 3)) (hf : cells + mc ≤ R.cells ∧ slots + ms ≤ R.slots)
    (kk : ∀ (r : Int32) (u : S) (H1 : Heap) (locs1 : List Loc), post r u → va_P D cl (w1 u) H1 → va_D A (w1 u) → va_S A s.heap H1 locs1 → W p l e R s m args below meth c H1 locs1 (cells + mc) (slots + ms) Q (F0 m (pc + 3) ls (.int r :: rest))) : W p l e R s m args below meth c H locs cells slots Q (F0 m pc ls st0) := by
  have hFc := tb_own hD hS hA
  refine va_calli (va_runV (As := As) (rest := rest) S0 hM cw ⟨fun a U g mk q => by obtain ⟨q0, q1, qP, qK, qD⟩ := q; exact ⟨q0, q1, qP, va_K.moved (u := U) (U := U.calling g mk a) (Vm.Alike.refl U.vm) qK, qD⟩, va_recv hK hP (ci := ci) (q0 := q0) hc he, fun U hU hW => ⟨rfl, by rw [hU], by rw [hU]; exact hP, va_K.moved hW.alike hK, hD.weaken (fun _ _ _ _ => trivial)⟩⟩ rfl hn hsize hstack (lv_room hW) hdg hf) hS (fun q _ h => hFc q h) hFc (fun r u t H1 locs1 ht hvm hw hB hz1 hk1 hS1 => ?_)
  obtain ⟨hP1, hK1, hD1⟩ := hB
  exact kk r u H1 locs1 hw (by rw [← ht]; exact hP1) (hD1.weaken (fun _ _ _ h => hFc _ h)) hS1
theorem tb_callv {post : S → Prop} {w1 : S → va_W} (hM : Met l y ws rm (va_Pc (.ref b :: As) (fun U => U.heap.size = H.size ∧ va_P D cl w0 U.heap ∧ va_K D cl tys U ∧ va_D (fun _ => True) w0)) (va_Qv post (fun u t => va_P D cl (w1 u) t.heap ∧ va_K D cl tys t ∧ va_D (va_A w0 H.size) (w1 u)) (va_A w0 H.size)) mc ms (va_A w0 H.size))
    (S0 : CallFix p m c cc nL s args Ts own) (cw : CallW R s args own C index y bytes maxL ret ws rm mc ms n) (hK : va_K D cl tys s) (hP : va_P D cl w0 H) (hD : va_D A w0) (hS : va_S A s.heap H locs) (hA : ∀ q, s.heap.size ≤ q → A q)
    (ci : Nat) {T : u_T} {N : Nat} {fs : List Value} (hc : cl[ci]? = some (C, T, N)) (q0 : Nat) (he : w0[q0]? = some (b, .inr (ci, fs))) (hn : As.length = n) (hsize : ls.size = nL) (hstack : st0 = As.reverse ++ .ref b :: rest) (hW : (rest.map fun v => v.category).sum ≤ 8) (hdg : decode cc pc = .ok (.invokevirtual index, 3)) (hf : cells + mc ≤ R.cells ∧ slots + ms ≤ R.slots)
    (kk : ∀ (u : S) (H1 : Heap) (locs1 : List Loc), post u → va_P D cl (w1 u) H1 → va_D A (w1 u) → va_S A s.heap H1 locs1 → W p l e R s m args below meth c H1 locs1 (cells + mc) (slots + ms) Q (F0 m (pc + 3) ls rest)) : W p l e R s m args below meth c H locs cells slots Q (F0 m pc ls st0) := by
  have hFc := tb_own hD hS hA
  refine va_callv (va_runV (As := As) (rest := rest) S0 hM cw ⟨fun a U g mk q => by obtain ⟨q0, q1, qP, qK, qD⟩ := q; exact ⟨q0, q1, qP, va_K.moved (u := U) (U := U.calling g mk a) (Vm.Alike.refl U.vm) qK, qD⟩, va_recv hK hP (ci := ci) (q0 := q0) hc he, fun U hU hW => ⟨rfl, by rw [hU], by rw [hU]; exact hP, va_K.moved hW.alike hK, hD.weaken (fun _ _ _ _ => trivial)⟩⟩ rfl hn hsize hstack (lv_room hW) hdg hf) hS (fun q _ h => hFc q h) hFc (fun u t H1 locs1 ht hvm hw hB hz1 hk1 hS1 => ?_)
  obtain ⟨hP1, hK1, hD1⟩ := hB
  exact kk u H1 locs1 hw (by rw [← ht]; exact hP1) (hD1.weaken (fun _ _ _ h => hFc _ h)) hS1
end TBC
end TB
/-! The form of a contract. -/
abbrev ctI (l : Launch) (y : MethodName) (ws : List Cond) (rm : Room) (D : va_G) (cl : List vw_C) (tys : List (ClassId × FieldType)) (w0 : va_W) (sz : Nat) (av : List Value) {S : Type} (post : Int32 → S → Prop) (w1 : S → va_W) (mc ms : Nat) : Prop :=
  Met l y ws rm (va_Pc av (fun U => U.heap.size = sz ∧ va_P D cl w0 U.heap ∧ va_K D cl tys U ∧ va_D (fun _ => True) w0)) (va_Qi post (fun u t => va_P D cl (w1 u) t.heap ∧ va_K D cl tys t ∧ va_D (va_A w0 sz) (w1 u)) (va_A w0 sz)) mc ms (va_A w0 sz)
abbrev ctV (l : Launch) (y : MethodName) (ws : List Cond) (rm : Room) (D : va_G) (cl : List vw_C) (tys : List (ClassId × FieldType)) (w0 : va_W) (sz : Nat) (av : List Value) {S : Type} (post : S → Prop) (w1 : S → va_W) (mc ms : Nat) : Prop :=
  Met l y ws rm (va_Pc av (fun U => U.heap.size = sz ∧ va_P D cl w0 U.heap ∧ va_K D cl tys U ∧ va_D (fun _ => True) w0)) (va_Qv post (fun u t => va_P D cl (w1 u) t.heap ∧ va_K D cl tys t ∧ va_D (va_A w0 sz) (w1 u)) (va_A w0 sz)) mc ms (va_A w0 sz)
section TM
variable {l : Launch} {cc : ByteArray} {D : va_G} {cl : List vw_C} {tys : List (ClassId × FieldType)} {w0 : va_W} {y : MethodName} {ws ws' : List Cond} {rm : Room} {maxL mc ms : Nat} {ret : Option FieldType} {sz : Nat} {av : List Value} {own : String} {S : Type}
theorem tb_metI {post : Int32 → S → Prop} {w1 : S → va_W} (hy : plainName y.cls = true) (ho : y.cls = own) (hw : ws = Cond.code y cc maxL ret :: ws') (hav : (lg_sl av).length ≤ maxL) (lv : List (Nat × Value)) (hlv : lv_args 0 av = lv)
    (body : ∀ (p : Program) (e : Env) (s : State) (m : MethodId) (below : List Frame) (meth : Method) (c : Code) (A : Nat → Prop) (ls : Array Slot), p.tables.exec = Jvm.exec → c.code = cc → meth.sig.returnType = ret → c.maxLocals = maxL → (∀ w ∈ ws', w.before av.toArray s = true) → s.vm.findClass own = some m.cls → meth.locks = false → meth.name = y.name → (∀ q : Nat, s.heap.size ≤ q → A q) → va_K D cl tys s → va_P D cl w0 s.heap → va_D A w0 → va_S A s.heap s.heap [] → lv_has ls maxL lv → W p l e rm s m av.toArray below meth c s.heap [] 0 0 (MQ below (va_Qi post (fun u t => va_P D cl (w1 u) t.heap ∧ va_K D cl tys t ∧ va_D A (w1 u)) A) av.toArray s mc ms A) (F0 m 0 ls [])) :
    ctI l y ws rm D cl tys w0 sz av post w1 mc ms :=
  tb_met (Qc := fun A => va_Qi post (fun u t => va_P D cl (w1 u) t.heap ∧ va_K D cl tys t ∧ va_D A (w1 u)) A) hy ho hw hav lv hlv body
theorem tb_metV {post : S → Prop} {w1 : S → va_W} (hy : plainName y.cls = true) (ho : y.cls = own) (hw : ws = Cond.code y cc maxL ret :: ws') (hav : (lg_sl av).length ≤ maxL) (lv : List (Nat × Value)) (hlv : lv_args 0 av = lv)
    (body : ∀ (p : Program) (e : Env) (s : State) (m : MethodId) (below : List Frame) (meth : Method) (c : Code) (A : Nat → Prop) (ls : Array Slot), p.tables.exec = Jvm.exec → c.code = cc → meth.sig.returnType = ret → c.maxLocals = maxL → (∀ w ∈ ws', w.before av.toArray s = true) → s.vm.findClass own = some m.cls → meth.locks = false → meth.name = y.name → (∀ q : Nat, s.heap.size ≤ q → A q) → va_K D cl tys s → va_P D cl w0 s.heap → va_D A w0 → va_S A s.heap s.heap [] → lv_has ls maxL lv → W p l e rm s m av.toArray below meth c s.heap [] 0 0 (MQ below (va_Qv post (fun u t => va_P D cl (w1 u) t.heap ∧ va_K D cl tys t ∧ va_D A (w1 u)) A) av.toArray s mc ms A) (F0 m 0 ls [])) :
    ctV l y ws rm D cl tys w0 sz av post w1 mc ms :=
  tb_met (Qc := fun A => va_Qv post (fun u t => va_P D cl (w1 u) t.heap ∧ va_K D cl tys t ∧ va_D A (w1 u)) A) hy ho hw hav lv hlv body
end TM
end
section
/-! Two worlds side by side, and calls that get one of them. -/
section TF
variable {D : va_G} {cl : List vw_C} {A : Nat → Prop} {wa wb w1 : va_W} {H H1 : Heap}
theorem fr_gr {α : Type} {a b : List α} {k : Nat} {q : α} (h : b[k]? = some q) : (a ++ b)[a.length + k]? = some q := by
  rw [List.getElem?_append_right (by omega)]
  rw [show a.length + k - a.length = k by omega]
  exact h
theorem fr_gl {α : Type} {a b : List α} {k : Nat} {q : α} (h : a[k]? = some q) : (a ++ b)[k]? = some q := by
  have hk := (List.getElem?_eq_some_iff.mp h).1
  rw [List.getElem?_append_left hk]
  exact h
theorem fr_Pr (hP : va_P D cl (wa ++ wb) H) : va_P D cl wb H := fun _ q h => hP _ q (fr_gr h)
theorem fr_Pl (hP : va_P D cl (wa ++ wb) H) : va_P D cl wa H := fun _ q h => hP _ q (fr_gl h)
theorem fr_Dr (hD : va_D A (wa ++ wb)) : va_D A wb := ⟨fun i j x y hi hj e => by
  have := hD.1 _ _ x y (fr_gr hi) (fr_gr hj) e
  omega, fun _ q h => hD.2 _ q (fr_gr h)⟩
theorem fr_Dl (hD : va_D A (wa ++ wb)) : va_D A wa := ⟨fun i j x y hi hj e => hD.1 _ _ x y (fr_gl hi) (fr_gl hj) e, fun _ q h => hD.2 _ q (fr_gl h)⟩
theorem fr_ne (hD : va_D A (wa ++ wb)) {i j : Nat} {x y : Nat × va_E} (hi : wa[i]? = some x) (hj : wb[j]? = some y) : x.1 ≠ y.1 := fun e => by
  have h1 := hD.1 _ _ x y (fr_gl hi) (fr_gr hj) e
  have h2 := (List.getElem?_eq_some_iff.mp hi).1
  omega
theorem fr_sw (hP : va_P D cl (wa ++ wb) H) : va_P D cl (wb ++ wa) H := (fr_Pr hP).app (fr_Pl hP)
theorem fr_swD (hD : va_D A (wa ++ wb)) : va_D A (wb ++ wa) := (fr_Dr hD).app (fr_Dl hD) (fun _ _ _ _ h1 h2 e => fr_ne hD h2 h1 e.symm)
/-- behind a call that got the left world -/
theorem fr_l (hP : va_P D cl (wa ++ wb) H) (hD : va_D A (wa ++ wb)) (hk : ∀ q : Nat, q < H.size → ¬ va_A wa H.size q → H1[q]? = H[q]?) (hF : ∀ q, va_A wa H.size q → A q) (hP1 : va_P D cl w1 H1) (hD1 : va_D (va_A wa H.size) w1) : va_P D cl (w1 ++ wb) H1 ∧ va_D A (w1 ++ wb) := by
  have apart : ∀ (k : Nat) (q : Nat × va_E), wb[k]? = some q → q.1 < H.size ∧ ¬ va_A wa H.size q.1 := by
    intro k q h
    have hl := (fr_Pr hP k q h).lt
    refine ⟨hl, fun h2 => ?_⟩
    rcases h2 with ⟨k2, e, h2⟩ | h2
    · exact fr_ne hD h2 h rfl
    · omega
  refine ⟨hP1.app ((fr_Pr hP).kept (fun k q h => hk q.1 (apart k q h).1 (apart k q h).2)), va_D.app (hD1.weaken (fun _ _ _ h => hF _ h)) (fr_Dr hD) (fun i j x y hx hy hxy => (apart j y hy).2 ?_)⟩
  rw [← hxy]
  exact hD1.2 i x hx
theorem fr_Kl {ta tb : List (ClassId × FieldType)} {U : State} (h : va_K D cl (ta ++ tb) U) : va_K D cl ta U := ⟨h.1, fun _ q hk => h.2 _ q (fr_gl hk)⟩
theorem fr_Kr {ta tb : List (ClassId × FieldType)} {U : State} (h : va_K D cl (ta ++ tb) U) : va_K D cl tb U := ⟨h.1, fun _ q hk => h.2 _ q (fr_gr hk)⟩
end TF
section TG
variable {p : Program} {l : Launch} {e : Env} {R : Room} {s : State} {m : MethodId} {args : Array Value} {below : List Frame} {meth : Method} {c : Code} {H : Heap} {locs : List Loc} {cells slots : Nat} {Q : State → Prop}
variable {cc : ByteArray} {pc : Nat} {ls : Array Slot} {rest : List Value} {D : va_G} {cl : List vw_C} {A : Nat → Prop} {tys : List (ClassId × FieldType)} {wa wb : va_W}
variable {y : MethodName} {ws ws' : List Cond} {bytes : ByteArray} {maxL nL n index mc ms : Nat} {ret : Option FieldType} {rm : Room} {Ts : List Cond} {own C : String} {b : Addr} {As st0 : List Value} {S : Type}
/-- a call that gets the left one of two worlds -/
theorem tl_calli {post : Int32 → S → Prop} {w1 : S → va_W} (hM : Met l y ws rm (va_Pc (.ref b :: As) (fun U => U.heap.size = H.size ∧ va_P D cl wa U.heap ∧ va_K D cl tys U ∧ va_D (fun _ => True) wa)) (va_Qi post (fun u t => va_P D cl (w1 u) t.heap ∧ va_K D cl tys t ∧ va_D (va_A wa H.size) (w1 u)) (va_A wa H.size)) mc ms (va_A wa H.size))
    (S0 : CallFix p m c cc nL s args Ts own) (cw : CallW R s args own C index y bytes maxL ret ws rm mc ms n) (hK : va_K D cl tys s) (hP : va_P D cl (wa ++ wb) H) (hD : va_D A (wa ++ wb)) (hS : va_S A s.heap H locs) (hA : ∀ q, s.heap.size ≤ q → A q)
    (ci : Nat) {T : u_T} {N : Nat} {fs : List Value} (hc : cl[ci]? = some (C, T, N)) (q0 : Nat) (he : wa[q0]? = some (b, .inr (ci, fs))) (hn : As.length = n) (hsize : ls.size = nL) (hstack : st0 = As.reverse ++ .ref b :: rest) (hW : (rest.map fun v => v.category).sum ≤ 8) (hdg : decode cc pc = .ok (.invokevirtual index, 3)) (hf : cells + mc ≤ R.cells ∧ slots + ms ≤ R.slots)
    (kk : ∀ (r : Int32) (u : S) (H1 : Heap) (locs1 : List Loc), post r u → va_P D cl (w1 u ++ wb) H1 → va_D A (w1 u ++ wb) → va_S A s.heap H1 locs1 → W p l e R s m args below meth c H1 locs1 (cells + mc) (slots + ms) Q (F0 m (pc + 3) ls (.int r :: rest))) : W p l e R s m args below meth c H locs cells slots Q (F0 m pc ls st0) := by
  have hFc := tb_own (fr_Dl hD) hS hA
  refine va_calli (va_runV (As := As) (rest := rest) S0 hM cw ⟨fun a U g mk q => by obtain ⟨q0, q1, qP, qK, qD⟩ := q; exact ⟨q0, q1, qP, va_K.moved (u := U) (U := U.calling g mk a) (Vm.Alike.refl U.vm) qK, qD⟩, va_recv hK (fr_Pl hP) (ci := ci) (q0 := q0) hc he, fun U hU hW => ⟨rfl, by rw [hU], by rw [hU]; exact fr_Pl hP, va_K.moved hW.alike hK, (fr_Dl hD).weaken (fun _ _ _ _ => trivial)⟩⟩ rfl hn hsize hstack (lv_room hW) hdg hf) hS (fun q _ h => hFc q h) hFc (fun r u t H1 locs1 ht hvm hw hB hz1 hk1 hS1 => ?_)
  obtain ⟨hP1, hK1, hD1⟩ := hB
  obtain ⟨hP2, hD2⟩ := fr_l hP hD hk1 hFc (by rw [← ht]; exact hP1) hD1
  exact kk r u H1 locs1 hw hP2 hD2 hS1
theorem tl_callv {post : S → Prop} {w1 : S → va_W} (hM : Met l y ws rm (va_Pc (.ref b :: As) (fun U => U.heap.size = H.size ∧ va_P D cl wa U.heap ∧ va_K D cl tys U ∧ va_D (fun _ => True) wa)) (va_Qv post (fun u t => va_P D cl (w1 u) t.heap ∧ va_K D cl tys t ∧ va_D (va_A wa H.size) (w1 u)) (va_A wa H.size)) mc ms (va_A wa H.size))
    (S0 : CallFix p m c cc nL s args Ts own) (cw : CallW R s args own C index y bytes maxL ret ws rm mc ms n) (hK : va_K D cl tys s) (hP : va_P D cl (wa ++ wb) H) (hD : va_D A (wa ++ wb)) (hS : va_S A s.heap H locs) (hA : ∀ q, s.heap.size ≤ q → A q)
    (ci : Nat) {T : u_T} {N : Nat} {fs : List Value} (hc : cl[ci]? = some (C, T, N)) (q0 : Nat) (he : wa[q0]? = some (b, .inr (ci, fs))) (hn : As.length = n) (hsize : ls.size = nL) (hstack : st0 = As.reverse ++ .ref b :: rest) (hW : (rest.map fun v => v.category).sum ≤ 8) (hdg : decode cc pc = .ok (.invokevirtual index, 3)) (hf : cells + mc ≤ R.cells ∧ slots + ms ≤ R.slots)
    (kk : ∀ (u : S) (H1 : Heap) (locs1 : List Loc), post u → va_P D cl (w1 u ++ wb) H1 → va_D A (w1 u ++ wb) → va_S A s.heap H1 locs1 → W p l e R s m args below meth c H1 locs1 (cells + mc) (slots + ms) Q (F0 m (pc + 3) ls rest)) : W p l e R s m args below meth c H locs cells slots Q (F0 m pc ls st0) := by
  have hFc := tb_own (fr_Dl hD) hS hA
  refine va_callv (va_runV (As := As) (rest := rest) S0 hM cw ⟨fun a U g mk q => by obtain ⟨q0, q1, qP, qK, qD⟩ := q; exact ⟨q0, q1, qP, va_K.moved (u := U) (U := U.calling g mk a) (Vm.Alike.refl U.vm) qK, qD⟩, va_recv hK (fr_Pl hP) (ci := ci) (q0 := q0) hc he, fun U hU hW => ⟨rfl, by rw [hU], by rw [hU]; exact fr_Pl hP, va_K.moved hW.alike hK, (fr_Dl hD).weaken (fun _ _ _ _ => trivial)⟩⟩ rfl hn hsize hstack (lv_room hW) hdg hf) hS (fun q _ h => hFc q h) hFc (fun u t H1 locs1 ht hvm hw hB hz1 hk1 hS1 => ?_)
  obtain ⟨hP1, hK1, hD1⟩ := hB
  obtain ⟨hP2, hD2⟩ := fr_l hP hD hk1 hFc (by rw [← ht]; exact hP1) hD1
  exact kk u H1 locs1 hw hP2 hD2 hS1
end TG
end
section
/-! Pure: rows of places, and what the loops do to them. -/
def sl (w : Nat) (g : Nat → Nat) : List Nat := (List.range w).map g
theorem sl_0 (g : Nat → Nat) : sl 0 g = [] := rfl
theorem sl_succ (w : Nat) (g : Nat → Nat) : sl (w + 1) g = sl w g ++ [g w] := by
  simp [sl, List.range_succ]
theorem sl_congr {w : Nat} {g g2 : Nat → Nat} (h : ∀ j, j < w → g j = g2 j) : sl w g = sl w g2 := by
  unfold sl
  exact List.map_congr_left (fun j hj => h j (List.mem_range.mp hj))
theorem sl_len (w : Nat) (g : Nat → Nat) : (sl w g).length = w := by simp [sl]
theorem sl_mem {w : Nat} {g : Nat → Nat} {x : Nat} : x ∈ sl w g ↔ ∃ j, j < w ∧ g j = x := by
  simp [sl]
theorem sl_get {w j : Nat} (g : Nat → Nat) (h : j < w) : (sl w g)[j]? = some (g j) := by
  simp [sl, h]
def wfP (N : Nat) (g : Nat → Nat) : Prop := (∀ j, j < N → g j < N) ∧ ∀ i j, i < N → j < N → g i = g j → i = j
def sw_N (g : Nat → Nat) (a b : Nat) : Nat → Nat := va_up (va_up g a (g b)) b (g a)
theorem sw_at (g : Nat → Nat) (a b j : Nat) : sw_N g a b j = if j = b then g a else if j = a then g b else g j := rfl
theorem sw_b (g : Nat → Nat) (a b : Nat) : sw_N g a b b = g a := by rw [sw_at, if_pos rfl]
theorem sw_a (g : Nat → Nat) (a b : Nat) : sw_N g a b a = g b := by
  rw [sw_at]
  by_cases h : a = b
  · subst h; simp
  · rw [if_neg h, if_pos rfl]
theorem sw_o (g : Nat → Nat) {a b j : Nat} (h1 : j ≠ a) (h2 : j ≠ b) : sw_N g a b j = g j := by rw [sw_at, if_neg h2, if_neg h1]
theorem wf_sw {N : Nat} {g : Nat → Nat} {a b : Nat} (h : wfP N g) (ha : a < N) (hb : b < N) : wfP N (sw_N g a b) := by
  have key : ∀ i, i < N → ∃ k, k < N ∧ sw_N g a b i = g k ∧ ((i = b ∧ k = a) ∨ (i ≠ b ∧ i = a ∧ k = b) ∨ (i ≠ b ∧ i ≠ a ∧ k = i)) := by
    intro i hi
    rw [sw_at]
    by_cases h1 : i = b
    · exact ⟨a, ha, by rw [if_pos h1], Or.inl ⟨h1, rfl⟩⟩
    · by_cases h2 : i = a
      · exact ⟨b, hb, by rw [if_neg h1, if_pos h2], Or.inr (Or.inl ⟨h1, h2, rfl⟩)⟩
      · exact ⟨i, hi, by rw [if_neg h1, if_neg h2], Or.inr (Or.inr ⟨h1, h2, rfl⟩)⟩
  refine ⟨fun j hj => ?_, fun i j hi hj e => ?_⟩
  · obtain ⟨k, hk, e, -⟩ := key j hj
    rw [e]
    exact h.1 k hk
  · obtain ⟨k1, hk1, e1, o1⟩ := key i hi
    obtain ⟨k2, hk2, e2, o2⟩ := key j hj
    have := h.2 k1 k2 hk1 hk2 (by rw [← e1, ← e2]; exact e)
    omega
/-- remove's loop -/
def rm_l (kp : Nat → Bool) : Nat → Nat → Nat → (Nat → Nat) → Nat × (Nat → Nat)
  | 0, _, q, g => (q, g)
  | n + 1, k, q, g => if kp (g k) then rm_l kp n (k + 1) (q + 1) (sw_N g k q) else rm_l kp n (k + 1) q g
theorem rm_spec (kp : Nat → Bool) (N : Nat) : ∀ (n k q : Nat) (g : Nat → Nat), q ≤ k → k + n ≤ N → wfP N g →
    (rm_l kp n k q g).1 ≤ k + n ∧ wfP N (rm_l kp n k q g).2 ∧ sl (rm_l kp n k q g).1 (rm_l kp n k q g).2 = sl q g ++ ((List.range' k n).map g).filter kp := by
  intro n
  induction n with
  | zero =>
    intro k q g h1 h2 h3
    exact ⟨h1, h3, by simp [rm_l]⟩
  | succ n ih =>
    intro k q g h1 h2 h3
    rw [List.range'_succ]
    by_cases hk : kp (g k) = true
    · obtain ⟨a1, a2, a3⟩ := ih (k + 1) (q + 1) (sw_N g k q) (by omega) (by omega) (wf_sw h3 (by omega) (by omega))
      have e : rm_l kp (n + 1) k q g = rm_l kp n (k + 1) (q + 1) (sw_N g k q) := by rw [rm_l, if_pos hk]
      rw [e]
      refine ⟨by omega, a2, ?_⟩
      rw [a3, sl_succ, sw_b]
      have e1 : sl q (sw_N g k q) = sl q g := sl_congr (fun j hj => sw_o g (by omega) (by omega))
      have e2 : (List.range' (k + 1) n).map (sw_N g k q) = (List.range' (k + 1) n).map g := List.map_congr_left (fun j hj => by
        have := List.mem_range'_1.mp hj
        exact sw_o g (by omega) (by omega))
      rw [e1, e2, List.map_cons, List.filter_cons, if_pos hk, List.append_assoc]
      rfl
    · obtain ⟨a1, a2, a3⟩ := ih (k + 1) q g (by omega) (by omega) h3
      have e : rm_l kp (n + 1) k q g = rm_l kp n (k + 1) q g := by rw [rm_l, if_neg hk]
      rw [e]
      refine ⟨by omega, a2, ?_⟩
      rw [a3, List.map_cons, List.filter_cons, if_neg hk]
theorem rm_all (kp : Nat → Bool) {N w : Nat} {g : Nat → Nat} (hw : w ≤ N) (h : wfP N g) : (rm_l kp w 0 0 g).1 ≤ w ∧ wfP N (rm_l kp w 0 0 g).2 ∧ sl (rm_l kp w 0 0 g).1 (rm_l kp w 0 0 g).2 = (sl w g).filter kp := by
  obtain ⟨a1, a2, a3⟩ := rm_spec kp N w 0 0 g (Nat.le_refl 0) (by omega) h
  refine ⟨by omega, a2, ?_⟩
  rw [a3, sl_0, List.nil_append, sl, List.range_eq_range']
/-- settle's loop -/
def st_l (bf : Nat → Nat → Bool) : Nat → (Nat → Nat) → (Nat → Nat)
  | 0, g => g
  | k + 1, g => if bf (g (k + 1)) (g k) then st_l bf k (sw_N g (k + 1) k) else g
def bf_ok (bf : Nat → Nat → Bool) : Prop := (∀ a b, bf a b = true → bf b a = false) ∧ ∀ a b c, bf b a = false → bf c b = false → bf c a = false
abbrev srt (bf : Nat → Nat → Bool) (L : List Nat) : Prop := L.Pairwise (fun a b => bf b a = false)
theorem srt_snoc {bf : Nat → Nat → Bool} {L : List Nat} {x : Nat} : srt bf (L ++ [x]) ↔ srt bf L ∧ ∀ a ∈ L, bf x a = false := by
  unfold srt
  rw [List.pairwise_append]
  constructor
  · intro h
    exact ⟨h.1, fun a ha => h.2.2 a ha x (List.mem_singleton.mpr rfl)⟩
  · intro h
    refine ⟨h.1, List.pairwise_singleton _ _, fun a ha b hb => ?_⟩
    rw [List.mem_singleton.mp hb]
    exact h.2 a ha
theorem st_wf {bf : Nat → Nat → Bool} {N : Nat} : ∀ (k : Nat) (g : Nat → Nat), k < N → wfP N g → wfP N (st_l bf k g) := by
  intro k
  induction k with
  | zero => intro g _ h; exact h
  | succ k ih =>
    intro g hk h
    rw [st_l]
    split
    · exact ih _ (by omega) (wf_sw h (by omega) (by omega))
    · exact h
theorem st_hi {bf : Nat → Nat → Bool} : ∀ (k : Nat) (g : Nat → Nat) (j : Nat), k < j → st_l bf k g j = g j := by
  intro k
  induction k with
  | zero => intro g j _; rfl
  | succ k ih =>
    intro g j hj
    rw [st_l]
    split
    · rw [ih _ j (by omega), sw_o g (by omega) (by omega)]
    · rfl
theorem st_sw_perm (g : Nat → Nat) (k : Nat) : (sl (k + 2) (sw_N g (k + 1) k)).Perm (sl (k + 2) g) := by
  rw [sl_succ, sl_succ, sl_succ (k + 1) g, sl_succ k g, sw_a, sw_b]
  have e1 : sl k (sw_N g (k + 1) k) = sl k g := sl_congr (fun j hj => sw_o g (by omega) (by omega))
  rw [e1, List.append_assoc, List.append_assoc]
  exact List.Perm.append_left _ (List.Perm.swap _ _ _)
theorem st_perm {bf : Nat → Nat → Bool} : ∀ (k : Nat) (g : Nat → Nat), (sl (k + 1) (st_l bf k g)).Perm (sl (k + 1) g) := by
  intro k
  induction k with
  | zero => intro g; exact List.Perm.refl _
  | succ k ih =>
    intro g
    rw [st_l]
    split
    · refine List.Perm.trans ?_ (st_sw_perm g k)
      rw [sl_succ (k + 1), sl_succ (k + 1), st_hi k _ (k + 1) (by omega)]
      exact List.Perm.append_right _ (ih _)
    · exact List.Perm.refl _
theorem st_srt {bf : Nat → Nat → Bool} (hb : bf_ok bf) : ∀ (k : Nat) (g : Nat → Nat), srt bf (sl k g) → srt bf (sl (k + 1) (st_l bf k g)) := by
  intro k
  induction k with
  | zero => intro g _; rw [sl_succ, sl_0]; exact List.pairwise_singleton _ _
  | succ k ih =>
    intro g h
    have h0 := h
    rw [sl_succ] at h0
    obtain ⟨h1, h2⟩ := srt_snoc.mp h0
    rw [st_l]
    split
    · rename_i hc
      have e1 : sl k (sw_N g (k + 1) k) = sl k g := sl_congr (fun j hj => sw_o g (by omega) (by omega))
      have a1 := ih (sw_N g (k + 1) k) (by rw [e1]; exact h1)
      rw [sl_succ (k + 1), st_hi k _ (k + 1) (by omega), sw_a]
      refine srt_snoc.mpr ⟨a1, fun a ha => ?_⟩
      have hm := (st_perm (bf := bf) k (sw_N g (k + 1) k)).mem_iff.mp ha
      rw [sl_succ, e1, sw_b] at hm
      rcases List.mem_append.mp hm with hm | hm
      · exact h2 a hm
      · rw [List.mem_singleton.mp hm]
        exact hb.1 _ _ hc
    · rename_i hc
      have hc : bf (g (k + 1)) (g k) = false := by simpa using hc
      rw [sl_succ (k + 1)]
      refine srt_snoc.mpr ⟨h, fun a ha => ?_⟩
      rw [sl_succ] at ha
      rcases List.mem_append.mp ha with ha | ha
      · exact hb.2 _ _ _ (h2 a ha) hc
      · rw [List.mem_singleton.mp ha]
        exact hc
/-- settle, one place behind the other -/
def mv_s (bf : Nat → Nat → Bool) : Nat → Nat → (Nat → Nat) → (Nat → Nat)
  | 0, _, g => g
  | n + 1, k, g => mv_s bf n (k + 1) (st_l bf k g)
theorem mv_s_spec {bf : Nat → Nat → Bool} (hb : bf_ok bf) {N : Nat} : ∀ (n k : Nat) (g : Nat → Nat), k + n ≤ N → wfP N g → srt bf (sl k g) → wfP N (mv_s bf n k g) ∧ (sl (k + n) (mv_s bf n k g)).Perm (sl (k + n) g) ∧ srt bf (sl (k + n) (mv_s bf n k g)) := by
  intro n
  induction n with
  | zero => intro k g _ h1 h2; exact ⟨h1, List.Perm.refl _, h2⟩
  | succ n ih =>
    intro k g h0 h1 h2
    obtain ⟨a1, a2, a3⟩ := ih (k + 1) (st_l bf k g) (by omega) (st_wf k g (by omega) h1) (st_srt hb k g h2)
    rw [show k + (n + 1) = k + 1 + n by omega]
    rw [mv_s]
    refine ⟨a1, a2.trans ?_, a3⟩
    have hp := st_perm (bf := bf) k g
    have e : ∀ (x : Nat → Nat), sl (k + 1 + n) x = sl (k + 1) x ++ (List.range' (k + 1) n).map x := by
      intro x
      rw [sl, List.range_eq_range', show k + 1 + n = (k + 1) + n from rfl, ← List.range'_append_1, List.map_append, sl, List.range_eq_range']
      simp
    rw [e, e]
    have e2 : (List.range' (k + 1) n).map (st_l bf k g) = (List.range' (k + 1) n).map g := List.map_congr_left (fun j hj => by
      have := List.mem_range'_1.mp hj
      exact st_hi k g j (by omega))
    rw [e2]
    exact List.Perm.append_right _ hp
/-- dropFirst's loop -/
def dr_l : Nat → Nat → (Nat → Nat) → (Nat → Nat)
  | 0, _, g => g
  | n + 1, k, g => dr_l n (k + 1) (sw_N g k (k - 1))
theorem dr_spec {N : Nat} : ∀ (n k : Nat) (g : Nat → Nat), 0 < k → k + n ≤ N → wfP N g → wfP N (dr_l n k g) ∧ (∀ j, j + 1 < k → dr_l n k g j = g j) ∧ (∀ j, k ≤ j + 1 → j + 1 < k + n → dr_l n k g j = g (j + 1)) := by
  intro n
  induction n with
  | zero => intro k g h0 h1 h2; exact ⟨h2, fun _ _ => rfl, fun j _ _ => by omega⟩
  | succ n ih =>
    intro k g h0 h1 h2
    obtain ⟨a1, a2, a3⟩ := ih (k + 1) (sw_N g k (k - 1)) (by omega) (by omega) (wf_sw h2 (by omega) (by omega))
    rw [dr_l]
    refine ⟨a1, fun j hj => ?_, fun j hj hj2 => ?_⟩
    · rw [a2 j (by omega), sw_o g (by omega) (by omega)]
    · by_cases h : j + 1 = k
      · rw [a2 j (by omega), show j = k - 1 by omega, sw_b]
        rw [show k - 1 + 1 = k by omega]
      · rw [a3 j (by omega) (by omega), sw_o g (by omega) (by omega)]
theorem dr_all {N w : Nat} {g : Nat → Nat} (h0 : 0 < w) (hw : w ≤ N) (h : wfP N g) : wfP N (dr_l (w - 1) 1 g) ∧ sl (w - 1) (dr_l (w - 1) 1 g) = (sl w g).tail := by
  obtain ⟨a1, -, a3⟩ := dr_spec (N := N) (w - 1) 1 g (by omega) (by omega) h
  refine ⟨a1, ?_⟩
  apply List.ext_getElem?
  intro j
  rw [List.getElem?_tail]
  by_cases hj : j < w - 1
  · rw [sl_get _ hj, sl_get _ (show j + 1 < w by omega), a3 j (by omega) (by omega)]
  · rw [List.getElem?_eq_none (by rw [sl_len]; omega), List.getElem?_eq_none (by rw [sl_len]; omega)]
end
section
/-! Pure: what the small methods answer. -/
def bI (b : Bool) : Int32 := bif b then 1 else 0
theorem bI_n (b : Bool) : narrow .boolean (.int (bI b)) = .int (bI b) := by cases b <;> rfl
theorem bI_f (b : Bool) : fits .boolean (.int (bI b)) = true := by cases b <;> rfl
theorem bI_0 {b : Bool} (h : bI b = 0) : b = false := by cases b <;> first | rfl | (exact absurd h (by decide))
theorem bI_1 {b : Bool} (h : ¬ bI b = 0) : b = true := by cases b <;> first | rfl | (exact absurd rfl h)
def in_S (ft : Nat → Int32) (f t : Int32) (i : Nat) : Bool := decide (f ≤ ft i) && decide (ft i ≤ t)
theorem in_S_f1 {ft : Nat → Int32} {f t : Int32} {i : Nat} (h : ft i < f) : in_S ft f t i = false := by
  have : ¬ f ≤ ft i := Int32.not_le.mpr h
  simp [in_S, this]
theorem in_S_f2 {ft : Nat → Int32} {f t : Int32} {i : Nat} (h : t < ft i) : in_S ft f t i = false := by
  have : ¬ ft i ≤ t := Int32.not_le.mpr h
  simp [in_S, this]
theorem in_S_t {ft : Nat → Int32} {f t : Int32} {i : Nat} (h : ¬ ft i < f) (h2 : ¬ t < ft i) : in_S ft f t i = true := by
  have h3 : f ≤ ft i := Int32.not_lt.mp h
  have h4 : ft i ≤ t := Int32.not_lt.mp h2
  simp [in_S, h3, h4]
def be_F (ft : Nat → Int32) (fs : Nat → Nat) (i j : Nat) : Bool := if ft i = ft j then decide (fs i < fs j) else decide (ft i < ft j)
theorem be_1 {ft : Nat → Int32} {fs : Nat → Nat} {i j : Nat} (h : ¬ ft i = ft j) (h2 : ft i < ft j) : be_F ft fs i j = true := by rw [be_F, if_neg h]; simp [h2]
theorem be_0 {ft : Nat → Int32} {fs : Nat → Nat} {i j : Nat} (h : ¬ ft i = ft j) (h2 : ft j ≤ ft i) : be_F ft fs i j = false := by
  rw [be_F, if_neg h]
  have : ¬ ft i < ft j := Int32.not_lt.mpr h2
  simp [this]
theorem be_2 {ft : Nat → Int32} {fs : Nat → Nat} {i j : Nat} (h : ft i = ft j) (h2 : fs j ≤ fs i) : be_F ft fs i j = false := by
  rw [be_F, if_pos h]
  have : ¬ fs i < fs j := by omega
  simp [this]
theorem be_3 {ft : Nat → Int32} {fs : Nat → Nat} {i j : Nat} (h : ft i = ft j) (h2 : fs i < fs j) : be_F ft fs i j = true := by rw [be_F, if_pos h]; simp [h2]
theorem be_ok (ft : Nat → Int32) (fs : Nat → Nat) : bf_ok (be_F ft fs) := by
  have hf : ∀ a b, be_F ft fs b a = false ↔ ((ft a).toInt < (ft b).toInt ∨ ((ft a).toInt = (ft b).toInt ∧ fs a ≤ fs b)) := by
    intro a b
    by_cases h : ft b = ft a
    · rw [be_F, if_pos h, h]
      simp
    · rw [be_F, if_neg h]
      have h1 : ¬ (ft b).toInt = (ft a).toInt := fun q => h (Int32.toInt_inj.mp q)
      simp only [decide_eq_false_iff_not, Int32.lt_iff_toInt_lt]
      omega
  have ht : ∀ a b, be_F ft fs a b = true → ¬ ((ft b).toInt < (ft a).toInt ∨ ((ft b).toInt = (ft a).toInt ∧ fs b ≤ fs a)) := by
    intro a b h q
    rw [(hf b a).mpr q] at h
    exact absurd h (by decide)
  refine ⟨fun a b h => (hf a b).mpr ?_, fun a b c h1 h2 => (hf a c).mpr ?_⟩
  · have := ht a b h
    omega
  · have h1 := (hf a b).mp h1
    have h2 := (hf b c).mp h2
    omega
theorem lg_le {x y : Int64} : lg_cmp x y ≤ 0 ↔ ¬ y < x := by
  unfold lg_cmp
  by_cases h : y < x
  · simp [h]
  · by_cases h2 : x = y <;> simp [h, h2]
theorem lg_gt {x y : Int64} : 0 < lg_cmp x y ↔ y < x := by
  unfold lg_cmp
  by_cases h : y < x
  · simp [h]
  · by_cases h2 : x = y <;> simp [h, h2]
def cm_F (ft : Nat → Int32) (now : Nat) (b : Int32) (i : Nat) : Bool := decide ((nI now).toInt64 < (ft i).toInt64 + b.toInt64) && decide (¬ 2147483647 < (ft i).toInt64 + b.toInt64)
theorem cm_0 {ft : Nat → Int32} {now : Nat} {b : Int32} {i : Nat} (h : lg_cmp ((ft i).toInt64 + b.toInt64) (nI now).toInt64 ≤ 0) : cm_F ft now b i = false := by
  have := lg_le.mp h
  simp [cm_F, this]
theorem cm_2 {ft : Nat → Int32} {now : Nat} {b : Int32} {i : Nat} (h : 0 < lg_cmp ((ft i).toInt64 + b.toInt64) 2147483647) : cm_F ft now b i = false := by
  have := lg_gt.mp h
  simp [cm_F, this]
theorem cm_1 {ft : Nat → Int32} {now : Nat} {b : Int32} {i : Nat} (h : ¬ lg_cmp ((ft i).toInt64 + b.toInt64) (nI now).toInt64 ≤ 0) (h2 : ¬ 0 < lg_cmp ((ft i).toInt64 + b.toInt64) 2147483647) : cm_F ft now b i = true := by
  have h3 : (nI now).toInt64 < (ft i).toInt64 + b.toInt64 := Classical.not_not.mp (fun q => h (lg_le.mpr q))
  have h4 : ¬ 2147483647 < (ft i).toInt64 + b.toInt64 := fun q => h2 (lg_gt.mpr q)
  unfold cm_F
  rw [decide_eq_true h3, decide_eq_true h4]
  rfl
def iw_F (w : Nat) (k : Int32) : Bool := decide (0 ≤ k) && decide (k < nI w)
theorem iw_0 {w : Nat} {k : Int32} (h : k < 0) : iw_F w k = false := by
  have : ¬ 0 ≤ k := Int32.not_le.mpr h
  unfold iw_F
  rw [decide_eq_false this]
  rfl
theorem iw_2 {w : Nat} {k : Int32} (h : nI w ≤ k) : iw_F w k = false := by
  have : ¬ k < nI w := Int32.not_lt.mpr h
  unfold iw_F
  rw [decide_eq_false this, Bool.and_false]
theorem iw_1 {w : Nat} {k : Int32} (h : ¬ k < 0) (h2 : ¬ nI w ≤ k) : iw_F w k = true := by
  unfold iw_F
  rw [decide_eq_true (Int32.not_lt.mp h), decide_eq_true (Int32.not_le.mp h2)]
  rfl
theorem iw_ge {w : Nat} {k : Int32} (h : iw_F w k = true) : ¬ k < 0 := fun q => by rw [iw_0 q] at h; exact absurd h (by decide)
theorem cl_nI {j : Int32} (h : ¬ j < 0) : j = nI j.toNatClampNeg := by
  obtain ⟨q, hq, rfl⟩ := nI_of h
  rw [nI_clamp hq]
theorem cl_lt {j : Int32} {b : Nat} (h : ¬ j < 0) (h2 : j < nI b) (hb : b < 2 ^ 31) : j.toNatClampNeg < b := by
  obtain ⟨q, hq, rfl⟩ := nI_of h
  rw [nI_clamp hq]
  exact (nI_ltI hq hb).mp h2
theorem iw_lt {w : Nat} {k : Int32} (h : iw_F w k = true) (hw : w < 2 ^ 31) : k.toNatClampNeg < w := by
  refine cl_lt (iw_ge h) ?_ hw
  exact Classical.not_not.mp (fun q => by rw [iw_2 (Int32.not_lt.mp q)] at h; exact absurd h (by decide))
def bo_F (fb : Nat → Int32) (a b : Nat) (j : Int32) : Int32 := if j < 0 then -1 else if nI b ≤ j then -1 else fb (a + j.toNatClampNeg) &&& nI 255
theorem bo_0 {fb : Nat → Int32} {a b : Nat} {j : Int32} (h : j < 0) : bo_F fb a b j = -1 := by rw [bo_F, if_pos h]
theorem bo_1 {fb : Nat → Int32} {a b : Nat} {j : Int32} (h2 : nI b ≤ j) : bo_F fb a b j = -1 := by
  by_cases h : j < 0
  · exact bo_0 h
  · rw [bo_F, if_neg h, if_pos h2]
theorem bo_2 {fb : Nat → Int32} {a b : Nat} {j : Int32} (h : ¬ j < 0) (h2 : ¬ nI b ≤ j) : bo_F fb a b j = fb (a + j.toNatClampNeg) &&& nI 255 := by rw [bo_F, if_neg h, if_neg h2]
def wh_F (tl now : Nat) (t : Int32) (w N : Nat) : Nat := if tl = 0 then 1 else if t ≤ nI now then 2 else if N ≤ w then 3 else 0
theorem wh_le (tl now : Nat) (t : Int32) (w N : Nat) : wh_F tl now t w N ≤ 3 := by
  unfold wh_F
  split
  · omega
  · split
    · omega
    · split <;> omega
theorem wh_w {tl now : Nat} {t : Int32} {w N : Nat} (h : wh_F tl now t w N = 0) : w < N := by
  unfold wh_F at h
  split at h
  · omega
  · split at h
    · omega
    · split at h
      · omega
      · omega
theorem fs_up {N k v : Nat} {fs : Nat → Nat} (hf : ∀ j, j < N → fs j ≤ 512) (hv : v ≤ 512) : ∀ j, j < N → va_up fs k v j ≤ 512 := by
  intro j hj
  unfold va_up
  split
  · exact hv
  · exact hf j hj
/-- moveTimes: whether all can, and how many -/
def mv_c (is cm : Nat → Bool) : Nat → Nat → (Nat → Nat) → Nat → Option Nat
  | 0, _, _, q => some q
  | n + 1, k, g, q => if is (g k) then (if cm (g k) then mv_c is cm n (k + 1) g (q + 1) else none) else mv_c is cm n (k + 1) g q
def mv_t (f t b : Int32) : Nat → Nat → (Nat → Nat) → (Nat → Int32) → (Nat → Int32)
  | 0, _, _, ft => ft
  | n + 1, k, g, ft => if in_S ft f t (g k) then mv_t f t b n (k + 1) g (upd ft (g k) (ft (g k) + b)) else mv_t f t b n (k + 1) g ft
def mv_A (o : Option Nat) : Int32 := match o with
  | none => -1
  | some q => nI q
def mv_F {α : Type} (o : Option Nat) (x y : α) : α := match o with
  | none => x
  | some _ => y
def pu_R (fb : Nat → Int32) (ts tl : Nat) (b : Int32) : Int32 × (Nat → Int32) × Nat := if tl < 256 then (nI (tl + 1), upd fb (ts + tl) (vp_nar .byte b.toInt8.toInt32), tl + 1) else (-1, fb, tl)
def co_F (now w wi ll : Nat) (k : Int32) : Int32 := if k = 0 then nI now else if k = 1 then nI w else if k = 2 then nI wi else if k = 3 then nI ll else -1
def lv_F (ft : Nat → Int32) (now w : Nat) (g : Nat → Nat) : Bool := decide (¬ w = 0) && decide (ft (g 0) ≤ nI now)
def lv_R (ft : Nat → Int32) (fs fl : Nat → Nat) (now w : Nat) (g : Nat → Nat) (lf ll : Nat) : Int32 × (Nat → Nat) × Nat × Nat × Nat := if lv_F ft now w g = true then (nI (fl (g 0)), dr_l (w - 1) 1 g, w - 1, fs (g 0), fl (g 0)) else (-1, g, w, lf, ll)
def ab_F (fn ft : Nat → Int32) (fl : Nat → Nat) (w : Nat) (g : Nat → Nat) (k j : Int32) : Int32 := if iw_F w k = true then (if j = 0 then fn (g k.toNatClampNeg) else if j = 1 then ft (g k.toNatClampNeg) else if j = 2 then nI (fl (g k.toNatClampNeg)) else -1) else -1
def ba_F (fb : Nat → Int32) (fs fl : Nat → Nat) (w : Nat) (g : Nat → Nat) (k j : Int32) : Int32 := if iw_F w k = true then bo_F fb (fs (g k.toNatClampNeg)) (fl (g k.toNatClampNeg)) j else -1
def ir_R (N : Nat) (g : Nat → Nat) (fn ft : Nat → Int32) (fs fl : Nat → Nat) (w wi now ts tl : Nat) (nu t : Int32) : (Nat → Nat) × (Nat → Int32) × (Nat → Int32) × (Nat → Nat) × (Nat → Nat) × Nat × Nat × Nat :=
  if wh_F tl now t w N = 0 then (st_l (be_F (upd ft (g w) t) (va_up fs (g w) ts)) w g, upd fn (g w) nu, upd ft (g w) t, va_up fs (g w) ts, va_up fl (g w) tl, w + 1, wi + 1, ts + tl) else (g, fn, ft, fs, fl, w, wi, ts)
end
section
/-! The program's object and its rows. -/
abbrev rmD (d : Nat) : Room := { frames := d, cells := 0, slots := 0, locals := 40 * d }
abbrev tys_T (C : Nat → ClassId) : List (ClassId × FieldType) := [(C 0, .byte), (C 1, .int), (C 2, .int), (C 3, .int), (C 4, .int), (C 5, .int)]
abbrev tt (P : Nat → Nat) (C : Nat → ClassId) (N : Nat) (fb : Nat → Int32) (g : Nat → Nat) (fn ft : Nat → Int32) (fs fl : Nat → Nat) (w wi now : Nat) (on : Bool) (ts tl lf ll : Nat) : va_W :=
  [(P 0, .inr (0, [.ref (P 1), .ref (P 2), .ref (P 3), .ref (P 4), .ref (P 5), .ref (P 6), .int (nI w), .int (nI wi), .int (nI now), .int (bI on), .int (nI ts), .int (nI tl), .int (nI lf), .int (nI ll)])),
   (P 1, .inl (C 0, 512, .inl fb)), (P 2, .inl (C 1, N, .inl (fun j => nI (g j)))), (P 3, .inl (C 2, N, .inl fn)), (P 4, .inl (C 3, N, .inl ft)), (P 5, .inl (C 4, N, .inl (fun j => nI (fs j)))), (P 6, .inl (C 5, N, .inl (fun j => nI (fl j))))]
section XGP
variable {p : Program} {l : Launch} {e : Env} {R : Room} {s : State} {m : MethodId} {args : Array Value} {below : List Frame} {meth : Method} {c : Code} {H : Heap} {locs : List Loc} {cells slots : Nat} {Q : State → Prop}
variable {cc : ByteArray} {pc : Nat} {ls : Array Slot} {rest : List Value} {D : va_G} {A : Nat → Prop} {tys : List (ClassId × FieldType)} {w0 : va_W} {H0 : Heap} {a idx : Nat} {fv : List Value} {v : Value}
theorem xg (hx : p.tables.exec = Jvm.exec) (hb : c.code = cc) (hts : ∀ w ∈ lw_g, w.before args s = true) (hown : s.vm.findClass R_TT = some m.cls) (hK : va_K D classes tys s) (hP : va_P D classes w0 H) (he : w0[0]? = some (a, .inr (0, fv))) (k : Nat) (hk : k < 14) (hr : (F_TT k).1 = R_TT) (hl : Cond.fieldLink R_TT idx R_TT (F_TT k).2.1 (F_TT k).2.2.1 ∈ lw_g) (hv : fv[k]? = some v) (hd : decode cc pc = .ok (.getfield idx, 3))
    (kk : W p l e R s m args below meth c H locs cells slots Q (F0 m (pc + 3) ls (v :: rest))) : W p l e R s m args below meth c H locs cells slots Q (F0 m pc ls (.ref a :: rest)) :=
  va_get (D := D) (ci := 0) (C := R_TT) (T := F_TT) (N := 14) hx hb hts i_TT hown hK hP 0 he rfl k hk (hts _ hl) (fun _ h => by rw [hr] at h; exact h) hv hd kk
theorem xp (hx : p.tables.exec = Jvm.exec) (hb : c.code = cc) (hts : ∀ w ∈ lw_g, w.before args s = true) (hown : s.vm.findClass R_TT = some m.cls) (hK : va_K D classes tys s) (hP : va_P D classes w0 H) (hD : va_D A w0) (hS : va_S A H0 H locs) (he : w0[0]? = some (a, .inr (0, fv))) (k : Nat) (hk : k < 14) (hr : (F_TT k).1 = R_TT) (hl : Cond.fieldLink R_TT idx R_TT (F_TT k).2.1 (F_TT k).2.2.1 ∈ lw_g) (hfin : (F_TT k).2.2.2 = false) {ty : FieldType} (hty : parseFieldDescriptor (F_TT k).2.2.1 = some ty) (hn : narrow ty v = v) (hf : fits ty v = true) (hlen : k < fv.length) (w1 : va_W) (hw : w0.set 0 (a, .inr (0, fv.set k v)) = w1) (hd : decode cc pc = .ok (.putfield idx, 3))
    (kk : ∀ (H1 : Heap) (locs1 : List Loc), va_P D classes w1 H1 → va_D A w1 → va_S A H0 H1 locs1 → W p l e R s m args below meth c H1 locs1 cells slots Q (F0 m (pc + 3) ls rest)) : W p l e R s m args below meth c H locs cells slots Q (F0 m pc ls (v :: .ref a :: rest)) := by
  subst hw
  exact va_put (D := D) (ci := 0) (C := R_TT) (T := F_TT) (N := 14) hx hb hts i_TT t_TT t_TT_ok n_TT hown hK hP hD hS 0 he rfl k hk (hts _ hl) (fun _ h => by rw [hr] at h; exact h) hfin hty hn hf hlen hd kk
end XGP
end
section
set_option maxHeartbeats 4000000 in
set_option maxRecDepth 100000 in
/-- swap: two places -/
theorem c_swap (l : Launch) (dC : Nat → ClassId) (dI : Nat → Nat → Nat) (P : Nat → Nat) (C : Nat → ClassId) (N sz : Nat) (fb : Nat → Int32) (g : Nat → Nat) (fn ft : Nat → Int32) (fs fl : Nat → Nat) (w wi now : Nat) (on : Bool) (ts tl lf ll : Nat) (a b : Nat) (hN : N < 2 ^ 31) (ha : a < N) (hb2 : b < N) : ctV l y_TT_swap ws_TT_swap (rmD 0) (dC, dI) classes (tys_T C) (tt P C N fb g fn ft fs fl w wi now on ts tl lf ll) sz [.ref (P 0), .int (nI a), .int (nI b)] (fun (_ : Unit) => True) (fun _ => (tt P C N fb (sw_N g a b) fn ft fs fl w wi now on ts tl lf ll)) 0 0 := by
  refine tb_metV (own := R_TT) (by decide) rfl rfl (Nat.le_of_ble_eq_true rfl) [(0, .ref (P 0)), (1, .int (nI a)), (2, .int (nI b))] rfl ?_
  intro p e s m below meth c A ls hx hb hr hml hts hown hlk hnm hA hK hP hD hS hl
  refine lv_aload_n hx hb d_TT_swap_0 rfl (lv_at hl 0 rfl) ?_
  refine xg hx hb hts hown hK hP rfl 1 (by decide) rfl fl_TT_22 rfl d_TT_swap_1 ?_
  refine lv_iload_n hx hb d_TT_swap_4 rfl (lv_at hl 1 rfl) ?_
  refine tb_iald hx hb hK hP 2 1 rfl rfl (by omega) hN d_TT_swap_5 ?_
  refine lv_istore_n (lv' := [(3, .int (nI (g a))), (0, .ref (P 0)), (1, .int (nI a)), (2, .int (nI b))]) hx hb d_TT_swap_6 rfl hl (by decide) rfl (fun ls hl => ?_)
  refine lv_aload_n hx hb d_TT_swap_7 rfl (lv_at hl 1 rfl) ?_
  refine xg hx hb hts hown hK hP rfl 1 (by decide) rfl fl_TT_22 rfl d_TT_swap_8 ?_
  refine lv_iload_n hx hb d_TT_swap_11 rfl (lv_at hl 2 rfl) ?_
  refine lv_aload_n hx hb d_TT_swap_12 rfl (lv_at hl 1 rfl) ?_
  refine xg hx hb hts hown hK hP rfl 1 (by decide) rfl fl_TT_22 rfl d_TT_swap_13 ?_
  refine lv_iload_n hx hb d_TT_swap_16 rfl (lv_at hl 3 rfl) ?_
  refine tb_iald hx hb hK hP 2 1 rfl rfl (by omega) hN d_TT_swap_17 ?_
  refine tb_iastN hx hb hK hP hD hS 2 1 rfl rfl (by omega) hN (tt P C N fb (va_up g a (g b)) fn ft fs fl w wi now on ts tl lf ll) rfl d_TT_swap_18 (fun H locs hP hD hS => ?_)
  refine lv_aload_n hx hb d_TT_swap_19 rfl (lv_at hl 1 rfl) ?_
  refine xg hx hb hts hown hK hP rfl 1 (by decide) rfl fl_TT_22 rfl d_TT_swap_20 ?_
  refine lv_iload_n hx hb d_TT_swap_23 rfl (lv_at hl 3 rfl) ?_
  refine lv_iload_n hx hb d_TT_swap_24 rfl (lv_at hl 0 rfl) ?_
  refine tb_iastN hx hb hK hP hD hS 2 1 rfl rfl (by omega) hN (tt P C N fb (va_up (va_up g a (g b)) b (g a)) fn ft fs fl w wi now on ts tl lf ll) rfl d_TT_swap_25 (fun H locs hP hD hS => ?_)
  exact tb_retv hx hb hr hlk hK () hP hD hS trivial d_TT_swap_26


set_option maxHeartbeats 4000000 in
set_option maxRecDepth 100000 in
/-- isInSpan -/
theorem c_isInSpan (l : Launch) (dC : Nat → ClassId) (dI : Nat → Nat → Nat) (P : Nat → Nat) (C : Nat → ClassId) (N sz : Nat) (fb : Nat → Int32) (g : Nat → Nat) (fn ft : Nat → Int32) (fs fl : Nat → Nat) (w wi now : Nat) (on : Bool) (ts tl lf ll : Nat) (i : Nat) (f t : Int32) (hN : N < 2 ^ 31) (hi : i < N) : ctI l y_TT_isInSpan ws_TT_isInSpan (rmD 0) (dC, dI) classes (tys_T C) (tt P C N fb g fn ft fs fl w wi now on ts tl lf ll) sz [.ref (P 0), .int (nI i), .int f, .int t] (fun (r : Int32) (_ : Unit) => r = bI (in_S ft f t i)) (fun _ => (tt P C N fb g fn ft fs fl w wi now on ts tl lf ll)) 0 0 := by
  refine tb_metI (own := R_TT) (by decide) rfl rfl (Nat.le_of_ble_eq_true rfl) [(0, .ref (P 0)), (1, .int (nI i)), (2, .int f), (3, .int t)] rfl ?_
  intro p e s m below meth c A ls hx hb hr hml hts hown hlk hnm hA hK hP hD hS hl
  refine lv_aload_n hx hb d_TT_isInSpan_0 rfl (lv_at hl 0 rfl) ?_
  refine xg hx hb hts hown hK hP rfl 3 (by decide) rfl fl_TT_29 rfl d_TT_isInSpan_1 ?_
  refine lv_iload_n hx hb d_TT_isInSpan_4 rfl (lv_at hl 1 rfl) ?_
  refine tb_iald hx hb hK hP 4 3 rfl rfl (by omega) hN d_TT_isInSpan_5 ?_
  refine lv_iload_n hx hb d_TT_isInSpan_6 rfl (lv_at hl 2 rfl) ?_
  refine lv_icmp_lt (tgt := 24) hx hb d_TT_isInSpan_7 (by decide) (fun c_7 => ?_) (fun c_7 => ?_)
  · refine lv_iconst (v := nI 0) hx hb d_TT_isInSpan_24 (by decide) ?_
    exact tb_retz hx hb hr hlk hK () hP hD hS (by first | rfl | decide) (by first | (rw [in_S_f1 c_7]; rfl) | (rw [in_S_f2 c_17]; rfl) | (rw [in_S_t c_7 c_17]; rfl)) d_TT_isInSpan_25
  · refine lv_aload_n hx hb d_TT_isInSpan_10 rfl (lv_at hl 0 rfl) ?_
    refine xg hx hb hts hown hK hP rfl 3 (by decide) rfl fl_TT_29 rfl d_TT_isInSpan_11 ?_
    refine lv_iload_n hx hb d_TT_isInSpan_14 rfl (lv_at hl 1 rfl) ?_
    refine tb_iald hx hb hK hP 4 3 rfl rfl (by omega) hN d_TT_isInSpan_15 ?_
    refine lv_iload_n hx hb d_TT_isInSpan_16 rfl (lv_at hl 3 rfl) ?_
    refine lv_icmp_gt (tgt := 24) hx hb d_TT_isInSpan_17 (by decide) (fun c_17 => ?_) (fun c_17 => ?_)
    · refine lv_iconst (v := nI 0) hx hb d_TT_isInSpan_24 (by decide) ?_
      exact tb_retz hx hb hr hlk hK () hP hD hS (by first | rfl | decide) (by first | (rw [in_S_f1 c_7]; rfl) | (rw [in_S_f2 c_17]; rfl) | (rw [in_S_t c_7 c_17]; rfl)) d_TT_isInSpan_25
    · refine lv_iconst (v := nI 1) hx hb d_TT_isInSpan_20 (by decide) ?_
      refine lv_goto (tgt := 25) hx hb d_TT_isInSpan_21 (by decide) ?_
      exact tb_retz hx hb hr hlk hK () hP hD hS (by first | rfl | decide) (by first | (rw [in_S_f1 c_7]; rfl) | (rw [in_S_f2 c_17]; rfl) | (rw [in_S_t c_7 c_17]; rfl)) d_TT_isInSpan_25


set_option maxHeartbeats 4000000 in
set_option maxRecDepth 100000 in
/-- isBefore -/
theorem c_isBefore (l : Launch) (dC : Nat → ClassId) (dI : Nat → Nat → Nat) (P : Nat → Nat) (C : Nat → ClassId) (N sz : Nat) (fb : Nat → Int32) (g : Nat → Nat) (fn ft : Nat → Int32) (fs fl : Nat → Nat) (w wi now : Nat) (on : Bool) (ts tl lf ll : Nat) (i j : Nat) (hN : N < 2 ^ 31) (hi : i < N) (hj : j < N) (hf : ∀ j, j < N → fs j ≤ 512) : ctI l y_TT_isBefore ws_TT_isBefore (rmD 0) (dC, dI) classes (tys_T C) (tt P C N fb g fn ft fs fl w wi now on ts tl lf ll) sz [.ref (P 0), .int (nI i), .int (nI j)] (fun (r : Int32) (_ : Unit) => r = bI (be_F ft fs i j)) (fun _ => (tt P C N fb g fn ft fs fl w wi now on ts tl lf ll)) 0 0 := by
  refine tb_metI (own := R_TT) (by decide) rfl rfl (Nat.le_of_ble_eq_true rfl) [(0, .ref (P 0)), (1, .int (nI i)), (2, .int (nI j))] rfl ?_
  intro p e s m below meth c A ls hx hb hr hml hts hown hlk hnm hA hK hP hD hS hl
  refine lv_aload_n hx hb d_TT_isBefore_0 rfl (lv_at hl 0 rfl) ?_
  refine xg hx hb hts hown hK hP rfl 3 (by decide) rfl fl_TT_29 rfl d_TT_isBefore_1 ?_
  refine lv_iload_n hx hb d_TT_isBefore_4 rfl (lv_at hl 1 rfl) ?_
  refine tb_iald hx hb hK hP 4 3 rfl rfl (by omega) hN d_TT_isBefore_5 ?_
  refine lv_aload_n hx hb d_TT_isBefore_6 rfl (lv_at hl 0 rfl) ?_
  refine xg hx hb hts hown hK hP rfl 3 (by decide) rfl fl_TT_29 rfl d_TT_isBefore_7 ?_
  refine lv_iload_n hx hb d_TT_isBefore_10 rfl (lv_at hl 2 rfl) ?_
  refine tb_iald hx hb hK hP 4 3 rfl rfl (by omega) hN d_TT_isBefore_11 ?_
  refine lv_icmp_eq (tgt := 36) hx hb d_TT_isBefore_12 (by decide) (fun c_12 => ?_) (fun c_12 => ?_)
  · have b1 := hf i hi
    have b2 := hf j hj
    refine lv_aload_n hx hb d_TT_isBefore_36 rfl (lv_at hl 0 rfl) ?_
    refine xg hx hb hts hown hK hP rfl 4 (by decide) rfl fl_TT_32 rfl d_TT_isBefore_37 ?_
    refine lv_iload_n hx hb d_TT_isBefore_40 rfl (lv_at hl 1 rfl) ?_
    refine tb_iald hx hb hK hP 5 4 rfl rfl (by omega) hN d_TT_isBefore_41 ?_
    refine lv_aload_n hx hb d_TT_isBefore_42 rfl (lv_at hl 0 rfl) ?_
    refine xg hx hb hts hown hK hP rfl 4 (by decide) rfl fl_TT_32 rfl d_TT_isBefore_43 ?_
    refine lv_iload_n hx hb d_TT_isBefore_46 rfl (lv_at hl 2 rfl) ?_
    refine tb_iald hx hb hK hP 5 4 rfl rfl (by omega) hN d_TT_isBefore_47 ?_
    refine lv_icmp_ge (tgt := 55) hx hb d_TT_isBefore_48 (by decide) (fun c_48 => ?_) (fun c_48 => ?_)
    · have c_48 : fs j ≤ fs i := (nI_leI (by omega) (by omega)).mp c_48
      refine lv_iconst (v := nI 0) hx hb d_TT_isBefore_55 (by decide) ?_
      exact tb_retz hx hb hr hlk hK () hP hD hS (by first | rfl | decide) (by first | (rw [be_3 c_12 (by omega)]; rfl) | (rw [be_2 c_12 c_48]; rfl)) d_TT_isBefore_56
    · have c_48 : ¬ fs j ≤ fs i := fun q => c_48 ((nI_leI (by omega) (by omega)).mpr q)
      refine lv_iconst (v := nI 1) hx hb d_TT_isBefore_51 (by decide) ?_
      refine lv_goto (tgt := 56) hx hb d_TT_isBefore_52 (by decide) ?_
      exact tb_retz hx hb hr hlk hK () hP hD hS (by first | rfl | decide) (by first | (rw [be_3 c_12 (by omega)]; rfl) | (rw [be_2 c_12 c_48]; rfl)) d_TT_isBefore_56
  · refine lv_aload_n hx hb d_TT_isBefore_15 rfl (lv_at hl 0 rfl) ?_
    refine xg hx hb hts hown hK hP rfl 3 (by decide) rfl fl_TT_29 rfl d_TT_isBefore_16 ?_
    refine lv_iload_n hx hb d_TT_isBefore_19 rfl (lv_at hl 1 rfl) ?_
    refine tb_iald hx hb hK hP 4 3 rfl rfl (by omega) hN d_TT_isBefore_20 ?_
    refine lv_aload_n hx hb d_TT_isBefore_21 rfl (lv_at hl 0 rfl) ?_
    refine xg hx hb hts hown hK hP rfl 3 (by decide) rfl fl_TT_29 rfl d_TT_isBefore_22 ?_
    refine lv_iload_n hx hb d_TT_isBefore_25 rfl (lv_at hl 2 rfl) ?_
    refine tb_iald hx hb hK hP 4 3 rfl rfl (by omega) hN d_TT_isBefore_26 ?_
    refine lv_icmp_ge (tgt := 34) hx hb d_TT_isBefore_27 (by decide) (fun c_27 => ?_) (fun c_27 => ?_)
    · refine lv_iconst (v := nI 0) hx hb d_TT_isBefore_34 (by decide) ?_
      exact tb_retz hx hb hr hlk hK () hP hD hS (by first | rfl | decide) (by first | (rw [be_1 c_12 (Int32.not_le.mp c_27)]; rfl) | (rw [be_0 c_12 c_27]; rfl)) d_TT_isBefore_35
    · refine lv_iconst (v := nI 1) hx hb d_TT_isBefore_30 (by decide) ?_
      refine lv_goto (tgt := 35) hx hb d_TT_isBefore_31 (by decide) ?_
      exact tb_retz hx hb hr hlk hK () hP hD hS (by first | rfl | decide) (by first | (rw [be_1 c_12 (Int32.not_le.mp c_27)]; rfl) | (rw [be_0 c_12 c_27]; rfl)) d_TT_isBefore_35


set_option maxHeartbeats 4000000 in
set_option maxRecDepth 100000 in
/-- canMove -/
theorem c_canMove (l : Launch) (dC : Nat → ClassId) (dI : Nat → Nat → Nat) (P : Nat → Nat) (C : Nat → ClassId) (N sz : Nat) (fb : Nat → Int32) (g : Nat → Nat) (fn ft : Nat → Int32) (fs fl : Nat → Nat) (w wi now : Nat) (on : Bool) (ts tl lf ll : Nat) (i : Nat) (b : Int32) (hN : N < 2 ^ 31) (hi : i < N) : ctI l y_TT_canMove ws_TT_canMove (rmD 0) (dC, dI) classes (tys_T C) (tt P C N fb g fn ft fs fl w wi now on ts tl lf ll) sz [.ref (P 0), .int (nI i), .int b] (fun (r : Int32) (_ : Unit) => r = bI (cm_F ft now b i)) (fun _ => (tt P C N fb g fn ft fs fl w wi now on ts tl lf ll)) 0 0 := by
  refine tb_metI (own := R_TT) (by decide) rfl rfl (Nat.le_of_ble_eq_true rfl) [(0, .ref (P 0)), (1, .int (nI i)), (2, .int b)] rfl ?_
  intro p e s m below meth c A ls hx hb hr hml hts hown hlk hnm hA hK hP hD hS hl
  refine lv_aload_n hx hb d_TT_canMove_0 rfl (lv_at hl 0 rfl) ?_
  refine xg hx hb hts hown hK hP rfl 3 (by decide) rfl fl_TT_29 rfl d_TT_canMove_1 ?_
  refine lv_iload_n hx hb d_TT_canMove_4 rfl (lv_at hl 1 rfl) ?_
  refine tb_iald hx hb hK hP 4 3 rfl rfl (by omega) hN d_TT_canMove_5 ?_
  refine lv_i2l (v := (ft i).toInt64) hx hb d_TT_canMove_6 rfl ?_
  refine lv_iload_n hx hb d_TT_canMove_7 rfl (lv_at hl 2 rfl) ?_
  refine lv_i2l (v := b.toInt64) hx hb d_TT_canMove_8 rfl ?_
  refine lv_ladd hx hb d_TT_canMove_9 ?_
  refine lv_lstore_n (lv' := [(3, .long (((ft i).toInt64) + b.toInt64)), (0, .ref (P 0)), (1, .int (nI i)), (2, .int b)]) hx hb d_TT_canMove_10 rfl hl (by decide) rfl (fun ls hl => ?_)
  refine lv_lload_n hx hb d_TT_canMove_11 rfl (lv_at hl 0 rfl) ?_
  refine lv_aload_n hx hb d_TT_canMove_12 rfl (lv_at hl 1 rfl) ?_
  refine xg hx hb hts hown hK hP rfl 8 (by decide) rfl fl_TT_75 rfl d_TT_canMove_13 ?_
  refine lv_i2l (v := (nI now).toInt64) hx hb d_TT_canMove_16 rfl ?_
  refine W.lcmp hx hb d_TT_canMove_17 ?_
  refine lv_if_le (tgt := 33) hx hb d_TT_canMove_18 (by decide) (fun c_18 => ?_) (fun c_18 => ?_)
  · refine lv_iconst (v := nI 0) hx hb d_TT_canMove_33 (by decide) ?_
    exact tb_retz hx hb hr hlk hK () hP hD hS (by first | rfl | decide) (by first | (rw [cm_0 c_18]; rfl) | (rw [cm_2 c_26]; rfl) | (rw [cm_1 c_18 c_26]; rfl)) d_TT_canMove_34
  · refine lv_lload_n hx hb d_TT_canMove_21 rfl (lv_at hl 0 rfl) ?_
    refine lv_ldc2 (v := 2147483647) hx hb hown (hts _ k_TT_105) d_TT_canMove_22 ?_
    refine W.lcmp hx hb d_TT_canMove_25 ?_
    refine lv_if_gt (tgt := 33) hx hb d_TT_canMove_26 (by decide) (fun c_26 => ?_) (fun c_26 => ?_)
    · refine lv_iconst (v := nI 0) hx hb d_TT_canMove_33 (by decide) ?_
      exact tb_retz hx hb hr hlk hK () hP hD hS (by first | rfl | decide) (by first | (rw [cm_0 c_18]; rfl) | (rw [cm_2 c_26]; rfl) | (rw [cm_1 c_18 c_26]; rfl)) d_TT_canMove_34
    · refine lv_iconst (v := nI 1) hx hb d_TT_canMove_29 (by decide) ?_
      refine lv_goto (tgt := 34) hx hb d_TT_canMove_30 (by decide) ?_
      exact tb_retz hx hb hr hlk hK () hP hD hS (by first | rfl | decide) (by first | (rw [cm_0 c_18]; rfl) | (rw [cm_2 c_26]; rfl) | (rw [cm_1 c_18 c_26]; rfl)) d_TT_canMove_34


set_option maxHeartbeats 4000000 in
set_option maxRecDepth 100000 in
/-- isWaiting -/
theorem c_isWaiting (l : Launch) (dC : Nat → ClassId) (dI : Nat → Nat → Nat) (P : Nat → Nat) (C : Nat → ClassId) (N sz : Nat) (fb : Nat → Int32) (g : Nat → Nat) (fn ft : Nat → Int32) (fs fl : Nat → Nat) (w wi now : Nat) (on : Bool) (ts tl lf ll : Nat) (k : Int32) : ctI l y_TT_isWaiting ws_TT_isWaiting (rmD 0) (dC, dI) classes (tys_T C) (tt P C N fb g fn ft fs fl w wi now on ts tl lf ll) sz [.ref (P 0), .int k] (fun (r : Int32) (_ : Unit) => r = bI (iw_F w k)) (fun _ => (tt P C N fb g fn ft fs fl w wi now on ts tl lf ll)) 0 0 := by
  refine tb_metI (own := R_TT) (by decide) rfl rfl (Nat.le_of_ble_eq_true rfl) [(0, .ref (P 0)), (1, .int k)] rfl ?_
  intro p e s m below meth c A ls hx hb hr hml hts hown hlk hnm hA hK hP hD hS hl
  refine lv_iload_n hx hb d_TT_isWaiting_0 rfl (lv_at hl 1 rfl) ?_
  refine lv_if_lt (tgt := 16) hx hb d_TT_isWaiting_1 (by decide) (fun c_1 => ?_) (fun c_1 => ?_)
  · refine lv_iconst (v := nI 0) hx hb d_TT_isWaiting_16 (by decide) ?_
    exact tb_retz hx hb hr hlk hK () hP hD hS (by first | rfl | decide) (by first | (rw [iw_0 c_1]; rfl) | (rw [iw_2 c_9]; rfl) | (rw [iw_1 c_1 c_9]; rfl)) d_TT_isWaiting_17
  · refine lv_iload_n hx hb d_TT_isWaiting_4 rfl (lv_at hl 1 rfl) ?_
    refine lv_aload_n hx hb d_TT_isWaiting_5 rfl (lv_at hl 0 rfl) ?_
    refine xg hx hb hts hown hK hP rfl 6 (by decide) rfl fl_TT_53 rfl d_TT_isWaiting_6 ?_
    refine lv_icmp_ge (tgt := 16) hx hb d_TT_isWaiting_9 (by decide) (fun c_9 => ?_) (fun c_9 => ?_)
    · refine lv_iconst (v := nI 0) hx hb d_TT_isWaiting_16 (by decide) ?_
      exact tb_retz hx hb hr hlk hK () hP hD hS (by first | rfl | decide) (by first | (rw [iw_0 c_1]; rfl) | (rw [iw_2 c_9]; rfl) | (rw [iw_1 c_1 c_9]; rfl)) d_TT_isWaiting_17
    · refine lv_iconst (v := nI 1) hx hb d_TT_isWaiting_12 (by decide) ?_
      refine lv_goto (tgt := 17) hx hb d_TT_isWaiting_13 (by decide) ?_
      exact tb_retz hx hb hr hlk hK () hP hD hS (by first | rfl | decide) (by first | (rw [iw_0 c_1]; rfl) | (rw [iw_2 c_9]; rfl) | (rw [iw_1 c_1 c_9]; rfl)) d_TT_isWaiting_17


set_option maxHeartbeats 4000000 in
set_option maxRecDepth 100000 in
/-- keepFirst -/
theorem c_keepFirst (l : Launch) (dC : Nat → ClassId) (dI : Nat → Nat → Nat) (P : Nat → Nat) (C : Nat → ClassId) (N sz : Nat) (fb : Nat → Int32) (g : Nat → Nat) (fn ft : Nat → Int32) (fs fl : Nat → Nat) (w wi now : Nat) (on : Bool) (ts tl lf ll : Nat) (q : Nat) (hq : q ≤ w) : ctI l y_TT_keepFirst ws_TT_keepFirst (rmD 0) (dC, dI) classes (tys_T C) (tt P C N fb g fn ft fs fl w wi now on ts tl lf ll) sz [.ref (P 0), .int (nI q)] (fun (r : Int32) (_ : Unit) => r = nI (w - q)) (fun _ => (tt P C N fb g fn ft fs fl q wi now on ts tl lf ll)) 0 0 := by
  refine tb_metI (own := R_TT) (by decide) rfl rfl (Nat.le_of_ble_eq_true rfl) [(0, .ref (P 0)), (1, .int (nI q))] rfl ?_
  intro p e s m below meth c A ls hx hb hr hml hts hown hlk hnm hA hK hP hD hS hl
  refine lv_aload_n hx hb d_TT_keepFirst_0 rfl (lv_at hl 0 rfl) ?_
  refine xg hx hb hts hown hK hP rfl 6 (by decide) rfl fl_TT_53 rfl d_TT_keepFirst_1 ?_
  refine lv_iload_n hx hb d_TT_keepFirst_4 rfl (lv_at hl 1 rfl) ?_
  refine lv_isub hx hb d_TT_keepFirst_5 ?_
  refine tp_i (nI (w - q)) (pk_sub (by omega)) ?_
  refine lv_istore_n (lv' := [(2, .int (nI (w - q))), (0, .ref (P 0)), (1, .int (nI q))]) hx hb d_TT_keepFirst_6 rfl hl (by decide) rfl (fun ls hl => ?_)
  refine lv_aload_n hx hb d_TT_keepFirst_7 rfl (lv_at hl 1 rfl) ?_
  refine lv_iload_n hx hb d_TT_keepFirst_8 rfl (lv_at hl 2 rfl) ?_
  refine xp (ty := .int) hx hb hts hown hK hP hD hS rfl 6 (by decide) rfl fl_TT_53 rfl (by decide +kernel) (rfl) (rfl) (Nat.le_of_ble_eq_true rfl) (tt P C N fb g fn ft fs fl q wi now on ts tl lf ll) rfl d_TT_keepFirst_9 (fun H locs hP hD hS => ?_)
  refine lv_iload_n hx hb d_TT_keepFirst_12 rfl (lv_at hl 0 rfl) ?_
  exact tb_reti hx hb hr hlk hK () hP hD hS rfl d_TT_keepFirst_13


set_option maxHeartbeats 4000000 in
set_option maxRecDepth 100000 in
/-- byteOf -/
theorem c_byteOf (l : Launch) (dC : Nat → ClassId) (dI : Nat → Nat → Nat) (P : Nat → Nat) (C : Nat → ClassId) (N sz : Nat) (fb : Nat → Int32) (g : Nat → Nat) (fn ft : Nat → Int32) (fs fl : Nat → Nat) (w wi now : Nat) (on : Bool) (ts tl lf ll : Nat) (a b : Nat) (j : Int32) (hab : a + b ≤ 512) : ctI l y_TT_byteOf ws_TT_byteOf (rmD 0) (dC, dI) classes (tys_T C) (tt P C N fb g fn ft fs fl w wi now on ts tl lf ll) sz [.ref (P 0), .int (nI a), .int (nI b), .int j] (fun (r : Int32) (_ : Unit) => r = bo_F fb a b j) (fun _ => (tt P C N fb g fn ft fs fl w wi now on ts tl lf ll)) 0 0 := by
  refine tb_metI (own := R_TT) (by decide) rfl rfl (Nat.le_of_ble_eq_true rfl) [(0, .ref (P 0)), (1, .int (nI a)), (2, .int (nI b)), (3, .int j)] rfl ?_
  intro p e s m below meth c A ls hx hb hr hml hts hown hlk hnm hA hK hP hD hS hl
  refine lv_iload_n hx hb d_TT_byteOf_0 rfl (lv_at hl 3 rfl) ?_
  refine lv_if_lt (tgt := 9) hx hb d_TT_byteOf_1 (by decide) (fun c_1 => ?_) (fun c_1 => ?_)
  · refine lv_iconst (v := (-1)) hx hb d_TT_byteOf_9 (by decide) ?_
    exact tb_reti hx hb hr hlk hK () hP hD hS (by first | rw [bo_0 c_1] | rw [bo_1 (Int32.not_lt.mp c_6)]) d_TT_byteOf_10
  · refine lv_iload_n hx hb d_TT_byteOf_4 rfl (lv_at hl 3 rfl) ?_
    refine lv_iload_n hx hb d_TT_byteOf_5 rfl (lv_at hl 2 rfl) ?_
    refine lv_icmp_lt (tgt := 11) hx hb d_TT_byteOf_6 (by decide) (fun c_6 => ?_) (fun c_6 => ?_)
    · have hj := cl_nI c_1
      have hjb : j.toNatClampNeg < b := cl_lt c_1 c_6 (by omega)
      refine lv_aload_n hx hb d_TT_byteOf_11 rfl (lv_at hl 0 rfl) ?_
      refine xg hx hb hts hown hK hP rfl 0 (by decide) rfl fl_TT_18 rfl d_TT_byteOf_12 ?_
      refine lv_iload_n hx hb d_TT_byteOf_15 rfl (lv_at hl 1 rfl) ?_
      refine lv_iload_n hx hb d_TT_byteOf_16 rfl (lv_at hl 3 rfl) ?_
      refine lv_iadd hx hb d_TT_byteOf_17 ?_
      refine tp_i (nI (a + j.toNatClampNeg)) (by rw [← nI_add, ← hj]) ?_
      refine tb_bald hx hb hK hP 1 0 rfl rfl (by omega) (by decide) d_TT_byteOf_18 ?_
      refine lv_sipush (v := nI 255) hx hb d_TT_byteOf_19 (by decide) ?_
      refine lv_iand hx hb d_TT_byteOf_22 ?_
      exact tb_reti hx hb hr hlk hK () hP hD hS (by rw [bo_2 c_1 (Int32.not_le.mpr c_6)]) d_TT_byteOf_23
    · refine lv_iconst (v := (-1)) hx hb d_TT_byteOf_9 (by decide) ?_
      exact tb_reti hx hb hr hlk hK () hP hD hS (by first | rw [bo_0 c_1] | rw [bo_1 (Int32.not_lt.mp c_6)]) d_TT_byteOf_10


set_option maxHeartbeats 4000000 in
set_option maxRecDepth 100000 in
/-- whetherInserted -/
theorem c_whetherInserted (l : Launch) (dC : Nat → ClassId) (dI : Nat → Nat → Nat) (P : Nat → Nat) (C : Nat → ClassId) (N sz : Nat) (fb : Nat → Int32) (g : Nat → Nat) (fn ft : Nat → Int32) (fs fl : Nat → Nat) (w wi now : Nat) (on : Bool) (ts tl lf ll : Nat) (t : Int32) (hN : N < 2 ^ 31) (htl : tl < 2 ^ 31) (hw : w < 2 ^ 31) : ctI l y_TT_whetherInserted ws_TT_whetherInserted (rmD 0) (dC, dI) classes (tys_T C) (tt P C N fb g fn ft fs fl w wi now on ts tl lf ll) sz [.ref (P 0), .int t] (fun (r : Int32) (_ : Unit) => r = nI (wh_F tl now t w N)) (fun _ => (tt P C N fb g fn ft fs fl w wi now on ts tl lf ll)) 0 0 := by
  refine tb_metI (own := R_TT) (by decide) rfl rfl (Nat.le_of_ble_eq_true rfl) [(0, .ref (P 0)), (1, .int t)] rfl ?_
  intro p e s m below meth c A ls hx hb hr hml hts hown hlk hnm hA hK hP hD hS hl
  refine lv_aload_n hx hb d_TT_whetherInserted_0 rfl (lv_at hl 0 rfl) ?_
  refine xg hx hb hts hown hK hP rfl 11 (by decide) rfl fl_TT_42 rfl d_TT_whetherInserted_1 ?_
  refine lv_if_ne (tgt := 9) hx hb d_TT_whetherInserted_4 (by decide) (fun c_4 => ?_) (fun c_4 => ?_)
  · have c_4 : ¬ tl = 0 := fun q => c_4 (show nI (tl) = nI 0 by rw [q])
    refine lv_iload_n hx hb d_TT_whetherInserted_9 rfl (lv_at hl 1 rfl) ?_
    refine lv_aload_n hx hb d_TT_whetherInserted_10 rfl (lv_at hl 0 rfl) ?_
    refine xg hx hb hts hown hK hP rfl 8 (by decide) rfl fl_TT_75 rfl d_TT_whetherInserted_11 ?_
    refine lv_icmp_gt (tgt := 19) hx hb d_TT_whetherInserted_14 (by decide) (fun c_14 => ?_) (fun c_14 => ?_)
    · refine lv_aload_n hx hb d_TT_whetherInserted_19 rfl (lv_at hl 0 rfl) ?_
      refine xg hx hb hts hown hK hP rfl 6 (by decide) rfl fl_TT_53 rfl d_TT_whetherInserted_20 ?_
      refine lv_aload_n hx hb d_TT_whetherInserted_23 rfl (lv_at hl 0 rfl) ?_
      refine xg hx hb hts hown hK hP rfl 1 (by decide) rfl fl_TT_22 rfl d_TT_whetherInserted_24 ?_
      refine va_alen (v := nI N) hx hb hK hP 2 1 rfl rfl rfl d_TT_whetherInserted_27 ?_
      refine lv_icmp_lt (tgt := 33) hx hb d_TT_whetherInserted_28 (by decide) (fun c_28 => ?_) (fun c_28 => ?_)
      · have c_28 : w < N := (nI_ltI (by omega) (by omega)).mp c_28
        refine lv_iconst (v := nI 0) hx hb d_TT_whetherInserted_33 (by decide) ?_
        exact tb_reti hx hb hr hlk hK () hP hD hS (by rw [wh_F, if_neg c_4, if_neg (Int32.not_le.mpr c_14), if_neg (by omega)]) d_TT_whetherInserted_34
      · have c_28 : ¬ w < N := fun q => c_28 ((nI_ltI (by omega) (by omega)).mpr q)
        refine lv_iconst (v := nI 3) hx hb d_TT_whetherInserted_31 (by decide) ?_
        exact tb_reti hx hb hr hlk hK () hP hD hS (by rw [wh_F, if_neg c_4, if_neg (Int32.not_le.mpr c_14), if_pos (by omega)]) d_TT_whetherInserted_32
    · refine lv_iconst (v := nI 2) hx hb d_TT_whetherInserted_17 (by decide) ?_
      exact tb_reti hx hb hr hlk hK () hP hD hS (by rw [wh_F, if_neg c_4, if_pos (Int32.not_lt.mp c_14)]) d_TT_whetherInserted_18
  · have c_4 : tl = 0 := (nI_eq (by omega) (by omega)).mp (show nI (tl) = nI 0 from c_4)
    refine lv_iconst (v := nI 1) hx hb d_TT_whetherInserted_7 (by decide) ?_
    exact tb_reti hx hb hr hlk hK () hP hD hS (by rw [wh_F, if_pos c_4]) d_TT_whetherInserted_8
end
section
set_option maxHeartbeats 4000000 in
set_option maxRecDepth 100000 in
/-- settle -/
theorem c_settle (l : Launch) (dC : Nat → ClassId) (dI : Nat → Nat → Nat) (P : Nat → Nat) (C : Nat → ClassId) (N sz : Nat) (fb : Nat → Int32) (g : Nat → Nat) (fn ft : Nat → Int32) (fs fl : Nat → Nat) (w wi now : Nat) (on : Bool) (ts tl lf ll : Nat) (k : Nat) (hN : N < 2 ^ 31) (hk : k < N) (hg : wfP N g) (hf : ∀ j, j < N → fs j ≤ 512) : ctV l y_TT_settle ws_TT_settle (rmD 1) (dC, dI) classes (tys_T C) (tt P C N fb g fn ft fs fl w wi now on ts tl lf ll) sz [.ref (P 0), .int (nI k)] (fun (_ : Unit) => True) (fun _ => (tt P C N fb (st_l (be_F ft fs) k g) fn ft fs fl w wi now on ts tl lf ll)) 0 0 := by
  refine tb_metV (own := R_TT) (by decide) rfl rfl (Nat.le_of_ble_eq_true rfl) [(0, .ref (P 0)), (1, .int (nI k))] rfl ?_
  intro p e s m below meth c A ls hx hb hr hml hts hown hlk hnm hA hK hP hD hS hl
  have loop : ∀ (n : Nat) (g' : Nat → Nat) (H : Heap) (locs : List Loc) (ls : Array Slot), n < N → wfP N g' → st_l (be_F ft fs) n g' = st_l (be_F ft fs) k g → va_P (dC, dI) classes (tt P C N fb g' fn ft fs fl w wi now on ts tl lf ll) H → va_D A (tt P C N fb g' fn ft fs fl w wi now on ts tl lf ll) → va_S A s.heap H locs → lv_has ls 3 [(2, .int (nI n)), (0, .ref (P 0)), (1, .int (nI k))] → W p l e (rmD 1) s m [Value.ref (P 0), .int (nI k)].toArray below meth c H locs 0 0 (MQ below (va_Qv (fun (_ : Unit) => True) (fun u tS => va_P (dC, dI) classes ((fun _ => (tt P C N fb (st_l (be_F ft fs) k g) fn ft fs fl w wi now on ts tl lf ll)) u) tS.heap ∧ va_K (dC, dI) classes (tys_T C) tS ∧ va_D A ((fun _ => (tt P C N fb (st_l (be_F ft fs) k g) fn ft fs fl w wi now on ts tl lf ll)) u)) A) [Value.ref (P 0), .int (nI k)].toArray s 0 0 A) (F0 m 2 ls []) := by
    clear hP hD hS hl hg
    intro n
    induction n with
    | zero =>
      intro g' H locs ls hn hg' hr0 hP hD hS hl
      refine lv_iload_n hx hb d_TT_settle_2 rfl (lv_at hl 0 rfl) ?_
      refine lv_if_le (tgt := 41) hx hb d_TT_settle_3 (by decide) (fun c_3 => ?_) (fun c_3 => ?_)
      · have hq : g' = st_l (be_F ft fs) k g := hr0
        subst hq
        exact tb_retv hx hb hr hlk hK () hP hD hS trivial d_TT_settle_41
      · exact absurd (show nI 0 ≤ 0 from Int32.le_refl _) c_3
    | succ n ih =>
      intro g' H locs ls hn hg' hr0 hP hD hS hl
      refine lv_iload_n hx hb d_TT_settle_2 rfl (lv_at hl 0 rfl) ?_
      refine lv_if_le (tgt := 41) hx hb d_TT_settle_3 (by decide) (fun c_3 => ?_) (fun c_3 => ?_)
      · exact absurd ((nI_leI (by omega) (by omega)).mp (show nI (n + 1) ≤ nI 0 from c_3)) (by omega)
      · refine lv_aload_n hx hb d_TT_settle_6 rfl (lv_at hl 1 rfl) ?_
        refine lv_aload_n hx hb d_TT_settle_7 rfl (lv_at hl 1 rfl) ?_
        refine xg hx hb hts hown hK hP rfl 1 (by decide) rfl fl_TT_22 rfl d_TT_settle_8 ?_
        refine lv_iload_n hx hb d_TT_settle_11 rfl (lv_at hl 0 rfl) ?_
        refine tb_iald hx hb hK hP 2 1 rfl rfl (by omega) hN d_TT_settle_12 ?_
        refine lv_aload_n hx hb d_TT_settle_13 rfl (lv_at hl 1 rfl) ?_
        refine xg hx hb hts hown hK hP rfl 1 (by decide) rfl fl_TT_22 rfl d_TT_settle_14 ?_
        refine lv_iload_n hx hb d_TT_settle_17 rfl (lv_at hl 0 rfl) ?_
        refine lv_iconst (v := nI 1) hx hb d_TT_settle_18 (by decide) ?_
        refine lv_isub hx hb d_TT_settle_19 ?_
        refine tp_i (nI n) (nI_pred n) ?_
        refine tb_iald hx hb hK hP 2 1 rfl rfl (by omega) hN d_TT_settle_20 ?_
        refine tb_calli (c_isBefore l dC dI P C N H.size fb g' fn ft fs fl w wi now on ts tl lf ll (g' (n + 1)) (g' n) hN (hg'.1 _ (by omega)) (hg'.1 _ (by omega)) hf) ⟨hx, hb, hml, hown, hts⟩ (cwV 2 hts g_TT_107 rfl rfl rfl (by decide +kernel) ⟨Nat.le_of_ble_eq_true rfl, Nat.le_of_ble_eq_true rfl⟩) hK hP hD hS hA 0 rfl 0 rfl rfl hl.1 rfl (Nat.le_of_ble_eq_true rfl) d_TT_settle_21 ⟨Nat.le_refl _, Nat.le_refl _⟩ (fun r u H locs hwc hP hD hS => ?_)
        subst hwc
        refine lv_if_eq (tgt := 41) hx hb d_TT_settle_24 (by decide) (fun c_24 => ?_) (fun c_24 => ?_)
        · have c_24 := bI_0 c_24
          have hq : g' = st_l (be_F ft fs) k g := by rw [← hr0, st_l, if_neg (by rw [c_24]; decide)]
          subst hq
          exact tb_retv hx hb hr hlk hK () hP hD hS trivial d_TT_settle_41
        · have c_24 := bI_1 c_24
          refine lv_aload_n hx hb d_TT_settle_27 rfl (lv_at hl 1 rfl) ?_
          refine lv_iload_n hx hb d_TT_settle_28 rfl (lv_at hl 0 rfl) ?_
          refine lv_iload_n hx hb d_TT_settle_29 rfl (lv_at hl 0 rfl) ?_
          refine lv_iconst (v := nI 1) hx hb d_TT_settle_30 (by decide) ?_
          refine lv_isub hx hb d_TT_settle_31 ?_
          refine tp_i (nI n) (nI_pred n) ?_
          refine tb_callv (c_swap l dC dI P C N H.size fb g' fn ft fs fl w wi now on ts tl lf ll (n + 1) n hN (by omega) (by omega)) ⟨hx, hb, hml, hown, hts⟩ (cwV 2 hts g_TT_56 rfl rfl rfl (by decide +kernel) ⟨Nat.le_of_ble_eq_true rfl, Nat.le_of_ble_eq_true rfl⟩) hK hP hD hS hA 0 rfl 0 rfl rfl hl.1 rfl (Nat.le_of_ble_eq_true rfl) d_TT_settle_32 ⟨Nat.le_refl _, Nat.le_refl _⟩ (fun u H locs hwc hP hD hS => ?_)
          refine lv_iinc (v := nI n) (lv' := [(2, .int (nI n)), (0, .ref (P 0)), (1, .int (nI k))]) hx hb d_TT_settle_35 hl (k := 0) rfl (pk_m1 n) (by decide) rfl (fun ls hl => ?_)
          refine lv_goto (tgt := 2) hx hb d_TT_settle_38 (by decide) ?_
          exact ih _ _ _ _ (by omega) (wf_sw hg' (by omega) (by omega)) (by rw [← hr0, st_l, if_pos c_24]) hP hD hS (lv_sub hl [0, 1, 2] rfl)
  refine lv_iload_n hx hb d_TT_settle_0 rfl (lv_at hl 1 rfl) ?_
  refine lv_istore_n (lv' := [(2, .int (nI k)), (0, .ref (P 0)), (1, .int (nI k))]) hx hb d_TT_settle_1 rfl hl (by decide) rfl (fun ls hl => ?_)
  exact loop k g _ _ _ hk hg rfl hP hD hS hl


set_option maxHeartbeats 4000000 in
set_option maxRecDepth 100000 in
/-- dropFirst -/
theorem c_dropFirst (l : Launch) (dC : Nat → ClassId) (dI : Nat → Nat → Nat) (P : Nat → Nat) (C : Nat → ClassId) (N sz : Nat) (fb : Nat → Int32) (g : Nat → Nat) (fn ft : Nat → Int32) (fs fl : Nat → Nat) (w wi now : Nat) (on : Bool) (ts tl lf ll : Nat) (hN : N < 2 ^ 31) (h0 : 0 < w) (hw : w ≤ N) (hg : wfP N g) : ctV l y_TT_dropFirst ws_TT_dropFirst (rmD 1) (dC, dI) classes (tys_T C) (tt P C N fb g fn ft fs fl w wi now on ts tl lf ll) sz [.ref (P 0)] (fun (_ : Unit) => True) (fun _ => (tt P C N fb (dr_l (w - 1) 1 g) fn ft fs fl (w - 1) wi now on ts tl lf ll)) 0 0 := by
  refine tb_metV (own := R_TT) (by decide) rfl rfl (Nat.le_of_ble_eq_true rfl) [(0, .ref (P 0))] rfl ?_
  intro p e s m below meth c A ls hx hb hr hml hts hown hlk hnm hA hK hP hD hS hl
  have loop : ∀ (n k : Nat) (g' : Nat → Nat) (H : Heap) (locs : List Loc) (ls : Array Slot), 0 < k → k + n = w → wfP N g' → dr_l n k g' = dr_l (w - 1) 1 g → va_P (dC, dI) classes (tt P C N fb g' fn ft fs fl w wi now on ts tl lf ll) H → va_D A (tt P C N fb g' fn ft fs fl w wi now on ts tl lf ll) → va_S A s.heap H locs → lv_has ls 2 [(1, .int (nI k)), (0, .ref (P 0))] → W p l e (rmD 1) s m [Value.ref (P 0)].toArray below meth c H locs 0 0 (MQ below (va_Qv (fun (_ : Unit) => True) (fun u tS => va_P (dC, dI) classes ((fun _ => (tt P C N fb (dr_l (w - 1) 1 g) fn ft fs fl (w - 1) wi now on ts tl lf ll)) u) tS.heap ∧ va_K (dC, dI) classes (tys_T C) tS ∧ va_D A ((fun _ => (tt P C N fb (dr_l (w - 1) 1 g) fn ft fs fl (w - 1) wi now on ts tl lf ll)) u)) A) [Value.ref (P 0)].toArray s 0 0 A) (F0 m 2 ls []) := by
    clear hP hD hS hl hg
    intro n
    induction n with
    | zero =>
      intro k g' H locs ls hk hn hg' hr0 hP hD hS hl
      refine lv_iload_n hx hb d_TT_dropFirst_2 rfl (lv_at hl 0 rfl) ?_
      refine lv_aload_n hx hb d_TT_dropFirst_3 rfl (lv_at hl 1 rfl) ?_
      refine xg hx hb hts hown hK hP rfl 6 (by decide) rfl fl_TT_53 rfl d_TT_dropFirst_4 ?_
      refine lv_icmp_ge (tgt := 24) hx hb d_TT_dropFirst_7 (by decide) (fun c_7 => ?_) (fun c_7 => ?_)
      · refine lv_aload_n hx hb d_TT_dropFirst_24 rfl (lv_at hl 1 rfl) ?_
        refine lv_dup hx hb d_TT_dropFirst_25 rfl ?_
        refine xg hx hb hts hown hK hP rfl 6 (by decide) rfl fl_TT_53 rfl d_TT_dropFirst_26 ?_
        refine lv_iconst (v := nI 1) hx hb d_TT_dropFirst_29 (by decide) ?_
        refine lv_isub hx hb d_TT_dropFirst_30 ?_
        refine tp_i (nI (w - 1)) (pk_sub (by omega)) ?_
        refine xp (ty := .int) hx hb hts hown hK hP hD hS rfl 6 (by decide) rfl fl_TT_53 rfl (by decide +kernel) (rfl) (rfl) (Nat.le_of_ble_eq_true rfl) (tt P C N fb g' fn ft fs fl (w - 1) wi now on ts tl lf ll) rfl d_TT_dropFirst_31 (fun H locs hP hD hS => ?_)
        have hq : g' = dr_l (w - 1) 1 g := hr0
        subst hq
        exact tb_retv hx hb hr hlk hK () hP hD hS trivial d_TT_dropFirst_34
      · exact absurd (nI_le (by omega) (by omega)) c_7
    | succ n ih =>
      intro k g' H locs ls hk hn hg' hr0 hP hD hS hl
      refine lv_iload_n hx hb d_TT_dropFirst_2 rfl (lv_at hl 0 rfl) ?_
      refine lv_aload_n hx hb d_TT_dropFirst_3 rfl (lv_at hl 1 rfl) ?_
      refine xg hx hb hts hown hK hP rfl 6 (by decide) rfl fl_TT_53 rfl d_TT_dropFirst_4 ?_
      refine lv_icmp_ge (tgt := 24) hx hb d_TT_dropFirst_7 (by decide) (fun c_7 => ?_) (fun c_7 => ?_)
      · exact absurd ((nI_leI (by omega) (by omega)).mp c_7) (by omega)
      · refine lv_aload_n hx hb d_TT_dropFirst_10 rfl (lv_at hl 1 rfl) ?_
        refine lv_iload_n hx hb d_TT_dropFirst_11 rfl (lv_at hl 0 rfl) ?_
        refine lv_iload_n hx hb d_TT_dropFirst_12 rfl (lv_at hl 0 rfl) ?_
        refine lv_iconst (v := nI 1) hx hb d_TT_dropFirst_13 (by decide) ?_
        refine lv_isub hx hb d_TT_dropFirst_14 ?_
        refine tp_i (nI (k - 1)) (pk_sub (by omega)) ?_
        refine tb_callv (c_swap l dC dI P C N H.size fb g' fn ft fs fl w wi now on ts tl lf ll k (k - 1) hN (by omega) (by omega)) ⟨hx, hb, hml, hown, hts⟩ (cwV 2 hts g_TT_56 rfl rfl rfl (by decide +kernel) ⟨Nat.le_of_ble_eq_true rfl, Nat.le_of_ble_eq_true rfl⟩) hK hP hD hS hA 0 rfl 0 rfl rfl hl.1 rfl (Nat.le_of_ble_eq_true rfl) d_TT_dropFirst_15 ⟨Nat.le_refl _, Nat.le_refl _⟩ (fun u H locs hwc hP hD hS => ?_)
        refine lv_iinc (v := nI (k + 1)) (lv' := [(1, .int (nI (k + 1))), (0, .ref (P 0))]) hx hb d_TT_dropFirst_18 hl (k := 0) rfl (nI_1 _) (by decide) rfl (fun ls hl => ?_)
        refine lv_goto (tgt := 2) hx hb d_TT_dropFirst_21 (by decide) ?_
        exact ih _ _ _ _ _ (by omega) (by omega) (wf_sw hg' (by omega) (by omega)) (by rw [← hr0, dr_l]) hP hD hS (lv_sub hl [0, 1] rfl)
  refine lv_iconst (v := nI 1) hx hb d_TT_dropFirst_0 (by decide) ?_
  refine lv_istore_n (lv' := [(1, .int (nI 1)), (0, .ref (P 0))]) hx hb d_TT_dropFirst_1 rfl hl (by decide) rfl (fun ls hl => ?_)
  exact loop (w - 1) 1 g _ _ _ (by omega) (by omega) hg rfl hP hD hS hl


set_option maxHeartbeats 4000000 in
set_option maxRecDepth 100000 in
/-- remove -/
theorem c_remove (l : Launch) (dC : Nat → ClassId) (dI : Nat → Nat → Nat) (P : Nat → Nat) (C : Nat → ClassId) (N sz : Nat) (fb : Nat → Int32) (g : Nat → Nat) (fn ft : Nat → Int32) (fs fl : Nat → Nat) (w wi now : Nat) (on : Bool) (ts tl lf ll : Nat) (nu : Int32) (hN : N < 2 ^ 31) (hw : w ≤ N) (hg : wfP N g) : ctI l y_TT_remove ws_TT_remove (rmD 1) (dC, dI) classes (tys_T C) (tt P C N fb g fn ft fs fl w wi now on ts tl lf ll) sz [.ref (P 0), .int nu] (fun (r : Int32) (_ : Unit) => r = nI (w - (rm_l (fun i => decide (¬ fn i = nu)) w 0 0 g).1)) (fun _ => (tt P C N fb ((rm_l (fun i => decide (¬ fn i = nu)) w 0 0 g).2) fn ft fs fl ((rm_l (fun i => decide (¬ fn i = nu)) w 0 0 g).1) wi now on ts tl lf ll)) 0 0 := by
  refine tb_metI (own := R_TT) (by decide) rfl rfl (Nat.le_of_ble_eq_true rfl) [(0, .ref (P 0)), (1, .int nu)] rfl ?_
  intro p e s m below meth c A ls hx hb hr hml hts hown hlk hnm hA hK hP hD hS hl
  have loop : ∀ (n k q : Nat) (g' : Nat → Nat) (H : Heap) (locs : List Loc) (ls : Array Slot), q ≤ k → k + n = w → wfP N g' → rm_l (fun i => decide (¬ fn i = nu)) n k q g' = rm_l (fun i => decide (¬ fn i = nu)) w 0 0 g → va_P (dC, dI) classes (tt P C N fb g' fn ft fs fl w wi now on ts tl lf ll) H → va_D A (tt P C N fb g' fn ft fs fl w wi now on ts tl lf ll) → va_S A s.heap H locs → lv_has ls 4 [(3, .int (nI k)), (2, .int (nI q)), (0, .ref (P 0)), (1, .int nu)] → W p l e (rmD 1) s m [Value.ref (P 0), .int nu].toArray below meth c H locs 0 0 (MQ below (va_Qi (fun (r : Int32) (_ : Unit) => r = nI (w - (rm_l (fun i => decide (¬ fn i = nu)) w 0 0 g).1)) (fun u tS => va_P (dC, dI) classes ((fun _ => (tt P C N fb ((rm_l (fun i => decide (¬ fn i = nu)) w 0 0 g).2) fn ft fs fl ((rm_l (fun i => decide (¬ fn i = nu)) w 0 0 g).1) wi now on ts tl lf ll)) u) tS.heap ∧ va_K (dC, dI) classes (tys_T C) tS ∧ va_D A ((fun _ => (tt P C N fb ((rm_l (fun i => decide (¬ fn i = nu)) w 0 0 g).2) fn ft fs fl ((rm_l (fun i => decide (¬ fn i = nu)) w 0 0 g).1) wi now on ts tl lf ll)) u)) A) [Value.ref (P 0), .int nu].toArray s 0 0 A) (F0 m 4 ls []) := by
    clear hP hD hS hl hg
    intro n
    induction n with
    | zero =>
      intro k q g' H locs ls hqk hn hg' hr0 hP hD hS hl
      refine lv_iload_n hx hb d_TT_remove_4 rfl (lv_at hl 0 rfl) ?_
      refine lv_aload_n hx hb d_TT_remove_5 rfl (lv_at hl 2 rfl) ?_
      refine xg hx hb hts hown hK hP rfl 6 (by decide) rfl fl_TT_53 rfl d_TT_remove_6 ?_
      refine lv_icmp_ge (tgt := 42) hx hb d_TT_remove_9 (by decide) (fun c_9 => ?_) (fun c_9 => ?_)
      · have hq : (q, g') = rm_l (fun i => decide (¬ fn i = nu)) w 0 0 g := hr0
        have h1 : q = (rm_l (fun i => decide (¬ fn i = nu)) w 0 0 g).1 := congrArg Prod.fst hq
        have h2 : g' = (rm_l (fun i => decide (¬ fn i = nu)) w 0 0 g).2 := congrArg Prod.snd hq
        refine lv_aload_n hx hb d_TT_remove_42 rfl (lv_at hl 2 rfl) ?_
        refine lv_iload_n hx hb d_TT_remove_43 rfl (lv_at hl 1 rfl) ?_
        refine tb_calli (c_keepFirst l dC dI P C N H.size fb g' fn ft fs fl w wi now on ts tl lf ll q (by omega)) ⟨hx, hb, hml, hown, hts⟩ (cwV 1 hts g_TT_59 rfl rfl rfl (by decide +kernel) ⟨Nat.le_of_ble_eq_true rfl, Nat.le_of_ble_eq_true rfl⟩) hK hP hD hS hA 0 rfl 0 rfl rfl hl.1 rfl (Nat.le_of_ble_eq_true rfl) d_TT_remove_44 ⟨Nat.le_refl _, Nat.le_refl _⟩ (fun r u H locs hwc hP hD hS => ?_)
        subst hwc
        subst h1
        subst h2
        exact tb_reti hx hb hr hlk hK () hP hD hS rfl d_TT_remove_47
      · exact absurd (nI_le (by omega) (by omega)) c_9
    | succ n ih =>
      intro k q g' H locs ls hqk hn hg' hr0 hP hD hS hl
      refine lv_iload_n hx hb d_TT_remove_4 rfl (lv_at hl 0 rfl) ?_
      refine lv_aload_n hx hb d_TT_remove_5 rfl (lv_at hl 2 rfl) ?_
      refine xg hx hb hts hown hK hP rfl 6 (by decide) rfl fl_TT_53 rfl d_TT_remove_6 ?_
      refine lv_icmp_ge (tgt := 42) hx hb d_TT_remove_9 (by decide) (fun c_9 => ?_) (fun c_9 => ?_)
      · exact absurd ((nI_leI (by omega) (by omega)).mp c_9) (by omega)
      · refine lv_aload_n hx hb d_TT_remove_12 rfl (lv_at hl 2 rfl) ?_
        refine xg hx hb hts hown hK hP rfl 2 (by decide) rfl fl_TT_26 rfl d_TT_remove_13 ?_
        refine lv_aload_n hx hb d_TT_remove_16 rfl (lv_at hl 2 rfl) ?_
        refine xg hx hb hts hown hK hP rfl 1 (by decide) rfl fl_TT_22 rfl d_TT_remove_17 ?_
        refine lv_iload_n hx hb d_TT_remove_20 rfl (lv_at hl 0 rfl) ?_
        refine tb_iald hx hb hK hP 2 1 rfl rfl (by omega) hN d_TT_remove_21 ?_
        refine tb_iald hx hb hK hP 3 2 rfl rfl (hg'.1 _ (by omega)) hN d_TT_remove_22 ?_
        refine lv_iload_n hx hb d_TT_remove_23 rfl (lv_at hl 3 rfl) ?_
        refine lv_icmp_eq (tgt := 36) hx hb d_TT_remove_24 (by decide) (fun c_24 => ?_) (fun c_24 => ?_)
        · have c_kp : ¬ decide (¬ fn (g' k) = nu) = true := by simp [c_24]
          refine lv_iinc (v := nI (k + 1)) (lv' := [(3, .int (nI (k + 1))), (2, .int (nI q)), (0, .ref (P 0)), (1, .int nu)]) hx hb d_TT_remove_36 hl (k := 0) rfl (nI_1 _) (by decide) rfl (fun ls hl => ?_)
          refine lv_goto (tgt := 4) hx hb d_TT_remove_39 (by decide) ?_
          exact ih _ _ _ _ _ _ (by omega) (by omega) hg' (by rw [← hr0, rm_l, if_neg c_kp]) hP hD hS (lv_sub hl [0, 1, 2, 3] rfl)
        · have c_kp : decide (¬ fn (g' k) = nu) = true := by simp [c_24]
          refine lv_aload_n hx hb d_TT_remove_27 rfl (lv_at hl 2 rfl) ?_
          refine lv_iload_n hx hb d_TT_remove_28 rfl (lv_at hl 0 rfl) ?_
          refine lv_iload_n hx hb d_TT_remove_29 rfl (lv_at hl 1 rfl) ?_
          refine tb_callv (c_swap l dC dI P C N H.size fb g' fn ft fs fl w wi now on ts tl lf ll k q hN (by omega) (by omega)) ⟨hx, hb, hml, hown, hts⟩ (cwV 2 hts g_TT_56 rfl rfl rfl (by decide +kernel) ⟨Nat.le_of_ble_eq_true rfl, Nat.le_of_ble_eq_true rfl⟩) hK hP hD hS hA 0 rfl 0 rfl rfl hl.1 rfl (Nat.le_of_ble_eq_true rfl) d_TT_remove_30 ⟨Nat.le_refl _, Nat.le_refl _⟩ (fun u H locs hwc hP hD hS => ?_)
          refine lv_iinc (v := nI (q + 1)) (lv' := [(2, .int (nI (q + 1))), (3, .int (nI k)), (0, .ref (P 0)), (1, .int nu)]) hx hb d_TT_remove_33 hl (k := 1) rfl (nI_1 _) (by decide) rfl (fun ls hl => ?_)
          refine lv_iinc (v := nI (k + 1)) (lv' := [(3, .int (nI (k + 1))), (2, .int (nI (q + 1))), (0, .ref (P 0)), (1, .int nu)]) hx hb d_TT_remove_36 hl (k := 1) rfl (nI_1 _) (by decide) rfl (fun ls hl => ?_)
          refine lv_goto (tgt := 4) hx hb d_TT_remove_39 (by decide) ?_
          exact ih _ _ _ _ _ _ (by omega) (by omega) (wf_sw hg' (by omega) (by omega)) (by rw [← hr0, rm_l, if_pos c_kp]) hP hD hS (lv_sub hl [0, 1, 2, 3] rfl)
  refine lv_iconst (v := nI 0) hx hb d_TT_remove_0 (by decide) ?_
  refine lv_istore_n (lv' := [(2, .int (nI 0)), (0, .ref (P 0)), (1, .int nu)]) hx hb d_TT_remove_1 rfl hl (by decide) rfl (fun ls hl => ?_)
  refine lv_iconst (v := nI 0) hx hb d_TT_remove_2 (by decide) ?_
  refine lv_istore_n (lv' := [(3, .int (nI 0)), (2, .int (nI 0)), (0, .ref (P 0)), (1, .int nu)]) hx hb d_TT_remove_3 rfl hl (by decide) rfl (fun ls hl => ?_)
  exact loop w 0 0 g _ _ _ (Nat.le_refl 0) (by omega) hg rfl hP hD hS (lv_sub hl [0, 1, 2, 3] rfl)


set_option maxHeartbeats 4000000 in
set_option maxRecDepth 100000 in
/-- removeSpan -/
theorem c_removeSpan (l : Launch) (dC : Nat → ClassId) (dI : Nat → Nat → Nat) (P : Nat → Nat) (C : Nat → ClassId) (N sz : Nat) (fb : Nat → Int32) (g : Nat → Nat) (fn ft : Nat → Int32) (fs fl : Nat → Nat) (w wi now : Nat) (on : Bool) (ts tl lf ll : Nat) (f t : Int32) (hN : N < 2 ^ 31) (hw : w ≤ N) (hg : wfP N g) : ctI l y_TT_removeSpan ws_TT_removeSpan (rmD 1) (dC, dI) classes (tys_T C) (tt P C N fb g fn ft fs fl w wi now on ts tl lf ll) sz [.ref (P 0), .int f, .int t] (fun (r : Int32) (_ : Unit) => r = nI (w - (rm_l (fun i => !(in_S ft f t i)) w 0 0 g).1)) (fun _ => (tt P C N fb ((rm_l (fun i => !(in_S ft f t i)) w 0 0 g).2) fn ft fs fl ((rm_l (fun i => !(in_S ft f t i)) w 0 0 g).1) wi now on ts tl lf ll)) 0 0 := by
  refine tb_metI (own := R_TT) (by decide) rfl rfl (Nat.le_of_ble_eq_true rfl) [(0, .ref (P 0)), (1, .int f), (2, .int t)] rfl ?_
  intro p e s m below meth c A ls hx hb hr hml hts hown hlk hnm hA hK hP hD hS hl
  have loop : ∀ (n k q : Nat) (g' : Nat → Nat) (H : Heap) (locs : List Loc) (ls : Array Slot), q ≤ k → k + n = w → wfP N g' → rm_l (fun i => !(in_S ft f t i)) n k q g' = rm_l (fun i => !(in_S ft f t i)) w 0 0 g → va_P (dC, dI) classes (tt P C N fb g' fn ft fs fl w wi now on ts tl lf ll) H → va_D A (tt P C N fb g' fn ft fs fl w wi now on ts tl lf ll) → va_S A s.heap H locs → lv_has ls 5 [(4, .int (nI k)), (3, .int (nI q)), (0, .ref (P 0)), (1, .int f), (2, .int t)] → W p l e (rmD 1) s m [Value.ref (P 0), .int f, .int t].toArray below meth c H locs 0 0 (MQ below (va_Qi (fun (r : Int32) (_ : Unit) => r = nI (w - (rm_l (fun i => !(in_S ft f t i)) w 0 0 g).1)) (fun u tS => va_P (dC, dI) classes ((fun _ => (tt P C N fb ((rm_l (fun i => !(in_S ft f t i)) w 0 0 g).2) fn ft fs fl ((rm_l (fun i => !(in_S ft f t i)) w 0 0 g).1) wi now on ts tl lf ll)) u) tS.heap ∧ va_K (dC, dI) classes (tys_T C) tS ∧ va_D A ((fun _ => (tt P C N fb ((rm_l (fun i => !(in_S ft f t i)) w 0 0 g).2) fn ft fs fl ((rm_l (fun i => !(in_S ft f t i)) w 0 0 g).1) wi now on ts tl lf ll)) u)) A) [Value.ref (P 0), .int f, .int t].toArray s 0 0 A) (F0 m 5 ls []) := by
    clear hP hD hS hl hg
    intro n
    induction n with
    | zero =>
      intro k q g' H locs ls hqk hn hg' hr0 hP hD hS hl
      refine lv_iload hx hb d_TT_removeSpan_5 (lv_at hl 0 rfl) ?_
      refine lv_aload_n hx hb d_TT_removeSpan_7 rfl (lv_at hl 2 rfl) ?_
      refine xg hx hb hts hown hK hP rfl 6 (by decide) rfl fl_TT_53 rfl d_TT_removeSpan_8 ?_
      refine lv_icmp_ge (tgt := 46) hx hb d_TT_removeSpan_11 (by decide) (fun c_11 => ?_) (fun c_11 => ?_)
      · have hq : (q, g') = rm_l (fun i => !(in_S ft f t i)) w 0 0 g := hr0
        have h1 : q = (rm_l (fun i => !(in_S ft f t i)) w 0 0 g).1 := congrArg Prod.fst hq
        have h2 : g' = (rm_l (fun i => !(in_S ft f t i)) w 0 0 g).2 := congrArg Prod.snd hq
        refine lv_aload_n hx hb d_TT_removeSpan_46 rfl (lv_at hl 2 rfl) ?_
        refine lv_iload_n hx hb d_TT_removeSpan_47 rfl (lv_at hl 1 rfl) ?_
        refine tb_calli (c_keepFirst l dC dI P C N H.size fb g' fn ft fs fl w wi now on ts tl lf ll q (by omega)) ⟨hx, hb, hml, hown, hts⟩ (cwV 1 hts g_TT_59 rfl rfl rfl (by decide +kernel) ⟨Nat.le_of_ble_eq_true rfl, Nat.le_of_ble_eq_true rfl⟩) hK hP hD hS hA 0 rfl 0 rfl rfl hl.1 rfl (Nat.le_of_ble_eq_true rfl) d_TT_removeSpan_48 ⟨Nat.le_refl _, Nat.le_refl _⟩ (fun r u H locs hwc hP hD hS => ?_)
        subst hwc
        subst h1
        subst h2
        exact tb_reti hx hb hr hlk hK () hP hD hS rfl d_TT_removeSpan_51
      · exact absurd (nI_le (by omega) (by omega)) c_11
    | succ n ih =>
      intro k q g' H locs ls hqk hn hg' hr0 hP hD hS hl
      refine lv_iload hx hb d_TT_removeSpan_5 (lv_at hl 0 rfl) ?_
      refine lv_aload_n hx hb d_TT_removeSpan_7 rfl (lv_at hl 2 rfl) ?_
      refine xg hx hb hts hown hK hP rfl 6 (by decide) rfl fl_TT_53 rfl d_TT_removeSpan_8 ?_
      refine lv_icmp_ge (tgt := 46) hx hb d_TT_removeSpan_11 (by decide) (fun c_11 => ?_) (fun c_11 => ?_)
      · exact absurd ((nI_leI (by omega) (by omega)).mp c_11) (by omega)
      · refine lv_aload_n hx hb d_TT_removeSpan_14 rfl (lv_at hl 2 rfl) ?_
        refine lv_aload_n hx hb d_TT_removeSpan_15 rfl (lv_at hl 2 rfl) ?_
        refine xg hx hb hts hown hK hP rfl 1 (by decide) rfl fl_TT_22 rfl d_TT_removeSpan_16 ?_
        refine lv_iload hx hb d_TT_removeSpan_19 (lv_at hl 0 rfl) ?_
        refine tb_iald hx hb hK hP 2 1 rfl rfl (by omega) hN d_TT_removeSpan_21 ?_
        refine lv_iload_n hx hb d_TT_removeSpan_22 rfl (lv_at hl 3 rfl) ?_
        refine lv_iload_n hx hb d_TT_removeSpan_23 rfl (lv_at hl 4 rfl) ?_
        refine tb_calli (c_isInSpan l dC dI P C N H.size fb g' fn ft fs fl w wi now on ts tl lf ll (g' k) f t hN (hg'.1 _ (by omega))) ⟨hx, hb, hml, hown, hts⟩ (cwV 3 hts g_TT_62 rfl rfl rfl (by decide +kernel) ⟨Nat.le_of_ble_eq_true rfl, Nat.le_of_ble_eq_true rfl⟩) hK hP hD hS hA 0 rfl 0 rfl rfl hl.1 rfl (Nat.le_of_ble_eq_true rfl) d_TT_removeSpan_24 ⟨Nat.le_refl _, Nat.le_refl _⟩ (fun r u H locs hwc hP hD hS => ?_)
        subst hwc
        refine lv_if_ne (tgt := 40) hx hb d_TT_removeSpan_27 (by decide) (fun c_27 => ?_) (fun c_27 => ?_)
        · have c_kp : ¬ (!(in_S ft f t (g' k))) = true := by simp [bI_1 c_27]
          refine lv_iinc (v := nI (k + 1)) (lv' := [(4, .int (nI (k + 1))), (3, .int (nI q)), (0, .ref (P 0)), (1, .int f), (2, .int t)]) hx hb d_TT_removeSpan_40 hl (k := 0) rfl (nI_1 _) (by decide) rfl (fun ls hl => ?_)
          refine lv_goto (tgt := 5) hx hb d_TT_removeSpan_43 (by decide) ?_
          exact ih _ _ _ _ _ _ (by omega) (by omega) hg' (by rw [← hr0, rm_l, if_neg c_kp]) hP hD hS (lv_sub hl [0, 1, 2, 3, 4] rfl)
        · have c_kp : (!(in_S ft f t (g' k))) = true := by simp [bI_0 c_27]
          refine lv_aload_n hx hb d_TT_removeSpan_30 rfl (lv_at hl 2 rfl) ?_
          refine lv_iload hx hb d_TT_removeSpan_31 (lv_at hl 0 rfl) ?_
          refine lv_iload_n hx hb d_TT_removeSpan_33 rfl (lv_at hl 1 rfl) ?_
          refine tb_callv (c_swap l dC dI P C N H.size fb g' fn ft fs fl w wi now on ts tl lf ll k q hN (by omega) (by omega)) ⟨hx, hb, hml, hown, hts⟩ (cwV 2 hts g_TT_56 rfl rfl rfl (by decide +kernel) ⟨Nat.le_of_ble_eq_true rfl, Nat.le_of_ble_eq_true rfl⟩) hK hP hD hS hA 0 rfl 0 rfl rfl hl.1 rfl (Nat.le_of_ble_eq_true rfl) d_TT_removeSpan_34 ⟨Nat.le_refl _, Nat.le_refl _⟩ (fun u H locs hwc hP hD hS => ?_)
          refine lv_iinc (v := nI (q + 1)) (lv' := [(3, .int (nI (q + 1))), (4, .int (nI k)), (0, .ref (P 0)), (1, .int f), (2, .int t)]) hx hb d_TT_removeSpan_37 hl (k := 1) rfl (nI_1 _) (by decide) rfl (fun ls hl => ?_)
          refine lv_iinc (v := nI (k + 1)) (lv' := [(4, .int (nI (k + 1))), (3, .int (nI (q + 1))), (0, .ref (P 0)), (1, .int f), (2, .int t)]) hx hb d_TT_removeSpan_40 hl (k := 1) rfl (nI_1 _) (by decide) rfl (fun ls hl => ?_)
          refine lv_goto (tgt := 5) hx hb d_TT_removeSpan_43 (by decide) ?_
          exact ih _ _ _ _ _ _ (by omega) (by omega) (wf_sw hg' (by omega) (by omega)) (by rw [← hr0, rm_l, if_pos c_kp]) hP hD hS (lv_sub hl [0, 1, 2, 3, 4] rfl)
  refine lv_iconst (v := nI 0) hx hb d_TT_removeSpan_0 (by decide) ?_
  refine lv_istore_n (lv' := [(3, .int (nI 0)), (0, .ref (P 0)), (1, .int f), (2, .int t)]) hx hb d_TT_removeSpan_1 rfl hl (by decide) rfl (fun ls hl => ?_)
  refine lv_iconst (v := nI 0) hx hb d_TT_removeSpan_2 (by decide) ?_
  refine lv_istore (lv' := [(4, .int (nI 0)), (3, .int (nI 0)), (0, .ref (P 0)), (1, .int f), (2, .int t)]) hx hb d_TT_removeSpan_3 hl (by decide) rfl (fun ls hl => ?_)
  exact loop w 0 0 g _ _ _ (Nat.le_refl 0) (by omega) hg rfl hP hD hS (lv_sub hl [0, 1, 2, 3, 4] rfl)


set_option maxHeartbeats 4000000 in
set_option maxRecDepth 100000 in
/-- addEntry -/
theorem c_addEntry (l : Launch) (dC : Nat → ClassId) (dI : Nat → Nat → Nat) (P : Nat → Nat) (C : Nat → ClassId) (N sz : Nat) (fb : Nat → Int32) (g : Nat → Nat) (fn ft : Nat → Int32) (fs fl : Nat → Nat) (w wi now : Nat) (on : Bool) (ts tl lf ll : Nat) (nu t : Int32) (hN : N < 2 ^ 31) (hw : w < N) (hg : wfP N g) (hf : ∀ j, j < N → fs j ≤ 512) (hts2 : ts ≤ 512) : ctV l y_TT_addEntry ws_TT_addEntry (rmD 2) (dC, dI) classes (tys_T C) (tt P C N fb g fn ft fs fl w wi now on ts tl lf ll) sz [.ref (P 0), .int nu, .int t] (fun (_ : Unit) => True) (fun _ => (tt P C N fb (st_l (be_F (upd ft (g w) t) (va_up fs (g w) ts)) w g) (upd fn (g w) nu) (upd ft (g w) t) (va_up fs (g w) ts) (va_up fl (g w) tl) (w + 1) (wi + 1) now on (ts + tl) tl lf ll)) 0 0 := by
  refine tb_metV (own := R_TT) (by decide) rfl rfl (Nat.le_of_ble_eq_true rfl) [(0, .ref (P 0)), (1, .int nu), (2, .int t)] rfl ?_
  intro p e s m below meth c A ls hx hb hr hml hts hown hlk hnm hA hK hP hD hS hl
  refine lv_aload_n hx hb d_TT_addEntry_0 rfl (lv_at hl 0 rfl) ?_
  refine xg hx hb hts hown hK hP rfl 1 (by decide) rfl fl_TT_22 rfl d_TT_addEntry_1 ?_
  refine lv_aload_n hx hb d_TT_addEntry_4 rfl (lv_at hl 0 rfl) ?_
  refine xg hx hb hts hown hK hP rfl 6 (by decide) rfl fl_TT_53 rfl d_TT_addEntry_5 ?_
  refine tb_iald hx hb hK hP 2 1 rfl rfl (by omega) hN d_TT_addEntry_8 ?_
  refine lv_istore_n (lv' := [(3, .int (nI (g w))), (0, .ref (P 0)), (1, .int nu), (2, .int t)]) hx hb d_TT_addEntry_9 rfl hl (by decide) rfl (fun ls hl => ?_)
  refine lv_aload_n hx hb d_TT_addEntry_10 rfl (lv_at hl 1 rfl) ?_
  refine xg hx hb hts hown hK hP rfl 2 (by decide) rfl fl_TT_26 rfl d_TT_addEntry_11 ?_
  refine lv_iload_n hx hb d_TT_addEntry_14 rfl (lv_at hl 0 rfl) ?_
  refine lv_iload_n hx hb d_TT_addEntry_15 rfl (lv_at hl 2 rfl) ?_
  refine tb_iast hx hb hK hP hD hS 3 2 rfl rfl (hg.1 _ (by omega)) hN (tt P C N fb g (upd fn (g w) nu) ft fs fl w wi now on ts tl lf ll) rfl d_TT_addEntry_16 (fun H locs hP hD hS => ?_)
  refine lv_aload_n hx hb d_TT_addEntry_17 rfl (lv_at hl 1 rfl) ?_
  refine xg hx hb hts hown hK hP rfl 3 (by decide) rfl fl_TT_29 rfl d_TT_addEntry_18 ?_
  refine lv_iload_n hx hb d_TT_addEntry_21 rfl (lv_at hl 0 rfl) ?_
  refine lv_iload_n hx hb d_TT_addEntry_22 rfl (lv_at hl 3 rfl) ?_
  refine tb_iast hx hb hK hP hD hS 4 3 rfl rfl (hg.1 _ (by omega)) hN (tt P C N fb g (upd fn (g w) nu) (upd ft (g w) t) fs fl w wi now on ts tl lf ll) rfl d_TT_addEntry_23 (fun H locs hP hD hS => ?_)
  refine lv_aload_n hx hb d_TT_addEntry_24 rfl (lv_at hl 1 rfl) ?_
  refine xg hx hb hts hown hK hP rfl 4 (by decide) rfl fl_TT_32 rfl d_TT_addEntry_25 ?_
  refine lv_iload_n hx hb d_TT_addEntry_28 rfl (lv_at hl 0 rfl) ?_
  refine lv_aload_n hx hb d_TT_addEntry_29 rfl (lv_at hl 1 rfl) ?_
  refine xg hx hb hts hown hK hP rfl 10 (by decide) rfl fl_TT_38 rfl d_TT_addEntry_30 ?_
  refine tb_iastN hx hb hK hP hD hS 5 4 rfl rfl (hg.1 _ (by omega)) hN (tt P C N fb g (upd fn (g w) nu) (upd ft (g w) t) (va_up fs (g w) ts) fl w wi now on ts tl lf ll) rfl d_TT_addEntry_33 (fun H locs hP hD hS => ?_)
  refine lv_aload_n hx hb d_TT_addEntry_34 rfl (lv_at hl 1 rfl) ?_
  refine xg hx hb hts hown hK hP rfl 5 (by decide) rfl fl_TT_35 rfl d_TT_addEntry_35 ?_
  refine lv_iload_n hx hb d_TT_addEntry_38 rfl (lv_at hl 0 rfl) ?_
  refine lv_aload_n hx hb d_TT_addEntry_39 rfl (lv_at hl 1 rfl) ?_
  refine xg hx hb hts hown hK hP rfl 11 (by decide) rfl fl_TT_42 rfl d_TT_addEntry_40 ?_
  refine tb_iastN hx hb hK hP hD hS 6 5 rfl rfl (hg.1 _ (by omega)) hN (tt P C N fb g (upd fn (g w) nu) (upd ft (g w) t) (va_up fs (g w) ts) (va_up fl (g w) tl) w wi now on ts tl lf ll) rfl d_TT_addEntry_43 (fun H locs hP hD hS => ?_)
  refine lv_aload_n hx hb d_TT_addEntry_44 rfl (lv_at hl 1 rfl) ?_
  refine lv_dup hx hb d_TT_addEntry_45 rfl ?_
  refine xg hx hb hts hown hK hP rfl 10 (by decide) rfl fl_TT_38 rfl d_TT_addEntry_46 ?_
  refine lv_aload_n hx hb d_TT_addEntry_49 rfl (lv_at hl 1 rfl) ?_
  refine xg hx hb hts hown hK hP rfl 11 (by decide) rfl fl_TT_42 rfl d_TT_addEntry_50 ?_
  refine lv_iadd hx hb d_TT_addEntry_53 ?_
  refine tp_i (nI (ts + tl)) (nI_add _ _) ?_
  refine xp (ty := .int) hx hb hts hown hK hP hD hS rfl 10 (by decide) rfl fl_TT_38 rfl (by decide +kernel) (rfl) (rfl) (Nat.le_of_ble_eq_true rfl) (tt P C N fb g (upd fn (g w) nu) (upd ft (g w) t) (va_up fs (g w) ts) (va_up fl (g w) tl) w wi now on (ts + tl) tl lf ll) rfl d_TT_addEntry_54 (fun H locs hP hD hS => ?_)
  refine lv_aload_n hx hb d_TT_addEntry_57 rfl (lv_at hl 1 rfl) ?_
  refine lv_dup hx hb d_TT_addEntry_58 rfl ?_
  refine xg hx hb hts hown hK hP rfl 6 (by decide) rfl fl_TT_53 rfl d_TT_addEntry_59 ?_
  refine lv_iconst (v := nI 1) hx hb d_TT_addEntry_62 (by decide) ?_
  refine lv_iadd hx hb d_TT_addEntry_63 ?_
  refine tp_i (nI (w + 1)) (nI_add _ _) ?_
  refine xp (ty := .int) hx hb hts hown hK hP hD hS rfl 6 (by decide) rfl fl_TT_53 rfl (by decide +kernel) (rfl) (rfl) (Nat.le_of_ble_eq_true rfl) (tt P C N fb g (upd fn (g w) nu) (upd ft (g w) t) (va_up fs (g w) ts) (va_up fl (g w) tl) (w + 1) wi now on (ts + tl) tl lf ll) rfl d_TT_addEntry_64 (fun H locs hP hD hS => ?_)
  refine lv_aload_n hx hb d_TT_addEntry_67 rfl (lv_at hl 1 rfl) ?_
  refine lv_dup hx hb d_TT_addEntry_68 rfl ?_
  refine xg hx hb hts hown hK hP rfl 7 (by decide) rfl fl_TT_90 rfl d_TT_addEntry_69 ?_
  refine lv_iconst (v := nI 1) hx hb d_TT_addEntry_72 (by decide) ?_
  refine lv_iadd hx hb d_TT_addEntry_73 ?_
  refine tp_i (nI (wi + 1)) (nI_add _ _) ?_
  refine xp (ty := .int) hx hb hts hown hK hP hD hS rfl 7 (by decide) rfl fl_TT_90 rfl (by decide +kernel) (rfl) (rfl) (Nat.le_of_ble_eq_true rfl) (tt P C N fb g (upd fn (g w) nu) (upd ft (g w) t) (va_up fs (g w) ts) (va_up fl (g w) tl) (w + 1) (wi + 1) now on (ts + tl) tl lf ll) rfl d_TT_addEntry_74 (fun H locs hP hD hS => ?_)
  refine lv_aload_n hx hb d_TT_addEntry_77 rfl (lv_at hl 1 rfl) ?_
  refine lv_aload_n hx hb d_TT_addEntry_78 rfl (lv_at hl 1 rfl) ?_
  refine xg hx hb hts hown hK hP rfl 6 (by decide) rfl fl_TT_53 rfl d_TT_addEntry_79 ?_
  refine lv_iconst (v := nI 1) hx hb d_TT_addEntry_82 (by decide) ?_
  refine lv_isub hx hb d_TT_addEntry_83 ?_
  refine tp_i (nI w) (nI_pred w) ?_
  refine tb_callv (c_settle l dC dI P C N H.size fb g (upd fn (g w) nu) (upd ft (g w) t) (va_up fs (g w) ts) (va_up fl (g w) tl) (w + 1) (wi + 1) now on (ts + tl) tl lf ll w hN hw hg (fs_up hf hts2)) ⟨hx, hb, hml, hown, hts⟩ (cwV 1 hts g_TT_97 rfl rfl rfl (by decide +kernel) ⟨Nat.le_of_ble_eq_true rfl, Nat.le_of_ble_eq_true rfl⟩) hK hP hD hS hA 0 rfl 0 rfl rfl hl.1 rfl (Nat.le_of_ble_eq_true rfl) d_TT_addEntry_84 ⟨Nat.le_refl _, Nat.le_refl _⟩ (fun u H locs hwc hP hD hS => ?_)
  exact tb_retv hx hb hr hlk hK () hP hD hS trivial d_TT_addEntry_87
end
section
set_option maxHeartbeats 4000000 in
set_option maxRecDepth 100000 in
/-- moveTimes -/
theorem c_moveTimes (l : Launch) (dC : Nat → ClassId) (dI : Nat → Nat → Nat) (P : Nat → Nat) (C : Nat → ClassId) (N sz : Nat) (fb : Nat → Int32) (g : Nat → Nat) (fn ft : Nat → Int32) (fs fl : Nat → Nat) (w wi now : Nat) (on : Bool) (ts tl lf ll : Nat) (f t b : Int32) (hN : N < 2 ^ 31) (hw : w ≤ N) (hg : wfP N g) (hf : ∀ j, j < N → fs j ≤ 512) : ctI l y_TT_moveTimes ws_TT_moveTimes (rmD 2) (dC, dI) classes (tys_T C) (tt P C N fb g fn ft fs fl w wi now on ts tl lf ll) sz [.ref (P 0), .int f, .int t, .int b] (fun (r : Int32) (_ : Unit) => r = mv_A (mv_c (in_S ft f t) (cm_F ft now b) w 0 g 0)) (fun _ => (tt P C N fb (mv_F (mv_c (in_S ft f t) (cm_F ft now b) w 0 g 0) g (mv_s (be_F (mv_t f t b w 0 g ft) fs) (w - 1) 1 g)) fn (mv_F (mv_c (in_S ft f t) (cm_F ft now b) w 0 g 0) ft (mv_t f t b w 0 g ft)) fs fl w wi now on ts tl lf ll)) 0 0 := by
  refine tb_metI (own := R_TT) (by decide) rfl rfl (Nat.le_of_ble_eq_true rfl) [(0, .ref (P 0)), (1, .int f), (2, .int t), (3, .int b)] rfl ?_
  intro p e s m below meth c A ls hx hb hr hml hts hown hlk hnm hA hK hP hD hS hl
  have loop3 : ∀ (n k q : Nat) (g' : Nat → Nat) (H : Heap) (locs : List Loc) (ls : Array Slot), 0 < k → (k ≤ w ∨ k = 1) → n = w - k → wfP N g' → (mv_c (in_S ft f t) (cm_F ft now b) w 0 g 0) = some q → mv_s (be_F (mv_t f t b w 0 g ft) fs) n k g' = (mv_s (be_F (mv_t f t b w 0 g ft) fs) (w - 1) 1 g) → va_P (dC, dI) classes (tt P C N fb g' fn (mv_t f t b w 0 g ft) fs fl w wi now on ts tl lf ll) H → va_D A (tt P C N fb g' fn (mv_t f t b w 0 g ft) fs fl w wi now on ts tl lf ll) → va_S A s.heap H locs → lv_has ls 6 [(5, .int (nI k)), (4, .int (nI q)), (0, .ref (P 0)), (1, .int f), (2, .int t), (3, .int b)] → W p l e (rmD 2) s m [Value.ref (P 0), .int f, .int t, .int b].toArray below meth c H locs 0 0 (MQ below (va_Qi (fun (r : Int32) (_ : Unit) => r = mv_A (mv_c (in_S ft f t) (cm_F ft now b) w 0 g 0)) (fun u tS => va_P (dC, dI) classes ((fun _ => (tt P C N fb (mv_F (mv_c (in_S ft f t) (cm_F ft now b) w 0 g 0) g (mv_s (be_F (mv_t f t b w 0 g ft) fs) (w - 1) 1 g)) fn (mv_F (mv_c (in_S ft f t) (cm_F ft now b) w 0 g 0) ft (mv_t f t b w 0 g ft)) fs fl w wi now on ts tl lf ll)) u) tS.heap ∧ va_K (dC, dI) classes (tys_T C) tS ∧ va_D A ((fun _ => (tt P C N fb (mv_F (mv_c (in_S ft f t) (cm_F ft now b) w 0 g 0) g (mv_s (be_F (mv_t f t b w 0 g ft) fs) (w - 1) 1 g)) fn (mv_F (mv_c (in_S ft f t) (cm_F ft now b) w 0 g 0) ft (mv_t f t b w 0 g ft)) fs fl w wi now on ts tl lf ll)) u)) A) [Value.ref (P 0), .int f, .int t, .int b].toArray s 0 0 A) (F0 m 110 ls []) := by
    clear hP hD hS hl
    intro n
    induction n with
    | zero =>
      intro k q g' H locs ls hk hk2 hn hg' ho hr0 hP hD hS hl
      refine lv_iload hx hb d_TT_moveTimes_110 (lv_at hl 0 rfl) ?_
      refine lv_aload_n hx hb d_TT_moveTimes_112 rfl (lv_at hl 2 rfl) ?_
      refine xg hx hb hts hown hK hP rfl 6 (by decide) rfl fl_TT_53 rfl d_TT_moveTimes_113 ?_
      refine lv_icmp_ge (tgt := 131) hx hb d_TT_moveTimes_116 (by decide) (fun c_116 => ?_) (fun c_116 => ?_)
      · refine lv_iload hx hb d_TT_moveTimes_131 (lv_at hl 1 rfl) ?_
        have hq : g' = (mv_s (be_F (mv_t f t b w 0 g ft) fs) (w - 1) 1 g) := hr0
        subst hq
        have hP : va_P (dC, dI) classes (tt P C N fb (mv_F (mv_c (in_S ft f t) (cm_F ft now b) w 0 g 0) g (mv_s (be_F (mv_t f t b w 0 g ft) fs) (w - 1) 1 g)) fn (mv_F (mv_c (in_S ft f t) (cm_F ft now b) w 0 g 0) ft (mv_t f t b w 0 g ft)) fs fl w wi now on ts tl lf ll) H := by rw [ho]; exact hP
        have hD : va_D A (tt P C N fb (mv_F (mv_c (in_S ft f t) (cm_F ft now b) w 0 g 0) g (mv_s (be_F (mv_t f t b w 0 g ft) fs) (w - 1) 1 g)) fn (mv_F (mv_c (in_S ft f t) (cm_F ft now b) w 0 g 0) ft (mv_t f t b w 0 g ft)) fs fl w wi now on ts tl lf ll) := by rw [ho]; exact hD
        exact tb_reti hx hb hr hlk hK () hP hD hS (by rw [ho]; rfl) d_TT_moveTimes_133
      · exact absurd (nI_le (by omega) (by omega)) c_116
    | succ n ih =>
      intro k q g' H locs ls hk hk2 hn hg' ho hr0 hP hD hS hl
      refine lv_iload hx hb d_TT_moveTimes_110 (lv_at hl 0 rfl) ?_
      refine lv_aload_n hx hb d_TT_moveTimes_112 rfl (lv_at hl 2 rfl) ?_
      refine xg hx hb hts hown hK hP rfl 6 (by decide) rfl fl_TT_53 rfl d_TT_moveTimes_113 ?_
      refine lv_icmp_ge (tgt := 131) hx hb d_TT_moveTimes_116 (by decide) (fun c_116 => ?_) (fun c_116 => ?_)
      · exact absurd ((nI_leI (by omega) (by omega)).mp c_116) (by omega)
      · refine lv_aload_n hx hb d_TT_moveTimes_119 rfl (lv_at hl 2 rfl) ?_
        refine lv_iload hx hb d_TT_moveTimes_120 (lv_at hl 0 rfl) ?_
        refine tb_callv (c_settle l dC dI P C N H.size fb g' fn (mv_t f t b w 0 g ft) fs fl w wi now on ts tl lf ll k hN (by omega) hg' hf) ⟨hx, hb, hml, hown, hts⟩ (cwV 1 hts g_TT_97 rfl rfl rfl (by decide +kernel) ⟨Nat.le_of_ble_eq_true rfl, Nat.le_of_ble_eq_true rfl⟩) hK hP hD hS hA 0 rfl 0 rfl rfl hl.1 rfl (Nat.le_of_ble_eq_true rfl) d_TT_moveTimes_122 ⟨Nat.le_refl _, Nat.le_refl _⟩ (fun u H locs hwc hP hD hS => ?_)
        refine lv_iinc (v := nI (k + 1)) (lv' := [(5, .int (nI (k + 1))), (4, .int (nI q)), (0, .ref (P 0)), (1, .int f), (2, .int t), (3, .int b)]) hx hb d_TT_moveTimes_125 hl (k := 0) rfl (nI_1 _) (by decide) rfl (fun ls hl => ?_)
        refine lv_goto (tgt := 110) hx hb d_TT_moveTimes_128 (by decide) ?_
        exact ih _ _ _ _ _ _ (by omega) (by omega) (by omega) (st_wf _ _ (by omega) hg') ho (by rw [← hr0, mv_s]) hP hD hS (lv_sub hl [0, 1, 2, 3, 4, 5] rfl)
  have loop2 : ∀ (n k q : Nat) (ft' : Nat → Int32) (H : Heap) (locs : List Loc) (ls : Array Slot), k + n = w → (mv_c (in_S ft f t) (cm_F ft now b) w 0 g 0) = some q → mv_t f t b n k g ft' = (mv_t f t b w 0 g ft) → va_P (dC, dI) classes (tt P C N fb g fn ft' fs fl w wi now on ts tl lf ll) H → va_D A (tt P C N fb g fn ft' fs fl w wi now on ts tl lf ll) → va_S A s.heap H locs → lv_has ls 6 [(5, .int (nI k)), (4, .int (nI q)), (0, .ref (P 0)), (1, .int f), (2, .int t), (3, .int b)] → W p l e (rmD 2) s m [Value.ref (P 0), .int f, .int t, .int b].toArray below meth c H locs 0 0 (MQ below (va_Qi (fun (r : Int32) (_ : Unit) => r = mv_A (mv_c (in_S ft f t) (cm_F ft now b) w 0 g 0)) (fun u tS => va_P (dC, dI) classes ((fun _ => (tt P C N fb (mv_F (mv_c (in_S ft f t) (cm_F ft now b) w 0 g 0) g (mv_s (be_F (mv_t f t b w 0 g ft) fs) (w - 1) 1 g)) fn (mv_F (mv_c (in_S ft f t) (cm_F ft now b) w 0 g 0) ft (mv_t f t b w 0 g ft)) fs fl w wi now on ts tl lf ll)) u) tS.heap ∧ va_K (dC, dI) classes (tys_T C) tS ∧ va_D A ((fun _ => (tt P C N fb (mv_F (mv_c (in_S ft f t) (cm_F ft now b) w 0 g 0) g (mv_s (be_F (mv_t f t b w 0 g ft) fs) (w - 1) 1 g)) fn (mv_F (mv_c (in_S ft f t) (cm_F ft now b) w 0 g 0) ft (mv_t f t b w 0 g ft)) fs fl w wi now on ts tl lf ll)) u)) A) [Value.ref (P 0), .int f, .int t, .int b].toArray s 0 0 A) (F0 m 60 ls []) := by
    clear hP hD hS hl
    intro n
    induction n with
    | zero =>
      intro k q ft' H locs ls hn ho hr0 hP hD hS hl
      refine lv_iload hx hb d_TT_moveTimes_60 (lv_at hl 0 rfl) ?_
      refine lv_aload_n hx hb d_TT_moveTimes_62 rfl (lv_at hl 2 rfl) ?_
      refine xg hx hb hts hown hK hP rfl 6 (by decide) rfl fl_TT_53 rfl d_TT_moveTimes_63 ?_
      refine lv_icmp_ge (tgt := 107) hx hb d_TT_moveTimes_66 (by decide) (fun c_66 => ?_) (fun c_66 => ?_)
      · have hq : ft' = (mv_t f t b w 0 g ft) := hr0
        subst hq
        refine lv_iconst (v := nI 1) hx hb d_TT_moveTimes_107 (by decide) ?_
        refine lv_istore (lv' := [(5, .int (nI 1)), (4, .int (nI q)), (0, .ref (P 0)), (1, .int f), (2, .int t), (3, .int b)]) hx hb d_TT_moveTimes_108 hl (by decide) rfl (fun ls hl => ?_)
        exact loop3 (w - 1) 1 q g _ _ _ (by omega) (by omega) (by omega) hg ho rfl hP hD hS (lv_sub hl [0, 1, 2, 3, 4, 5] rfl)
      · exact absurd (nI_le (by omega) (by omega)) c_66
    | succ n ih =>
      intro k q ft' H locs ls hn ho hr0 hP hD hS hl
      refine lv_iload hx hb d_TT_moveTimes_60 (lv_at hl 0 rfl) ?_
      refine lv_aload_n hx hb d_TT_moveTimes_62 rfl (lv_at hl 2 rfl) ?_
      refine xg hx hb hts hown hK hP rfl 6 (by decide) rfl fl_TT_53 rfl d_TT_moveTimes_63 ?_
      refine lv_icmp_ge (tgt := 107) hx hb d_TT_moveTimes_66 (by decide) (fun c_66 => ?_) (fun c_66 => ?_)
      · exact absurd ((nI_leI (by omega) (by omega)).mp c_66) (by omega)
      · refine lv_aload_n hx hb d_TT_moveTimes_69 rfl (lv_at hl 2 rfl) ?_
        refine lv_aload_n hx hb d_TT_moveTimes_70 rfl (lv_at hl 2 rfl) ?_
        refine xg hx hb hts hown hK hP rfl 1 (by decide) rfl fl_TT_22 rfl d_TT_moveTimes_71 ?_
        refine lv_iload hx hb d_TT_moveTimes_74 (lv_at hl 0 rfl) ?_
        refine tb_iald hx hb hK hP 2 1 rfl rfl (by omega) hN d_TT_moveTimes_76 ?_
        refine lv_iload_n hx hb d_TT_moveTimes_77 rfl (lv_at hl 3 rfl) ?_
        refine lv_iload_n hx hb d_TT_moveTimes_78 rfl (lv_at hl 4 rfl) ?_
        refine tb_calli (c_isInSpan l dC dI P C N H.size fb g fn ft' fs fl w wi now on ts tl lf ll (g k) f t hN (hg.1 _ (by omega))) ⟨hx, hb, hml, hown, hts⟩ (cwV 3 hts g_TT_62 rfl rfl rfl (by decide +kernel) ⟨Nat.le_of_ble_eq_true rfl, Nat.le_of_ble_eq_true rfl⟩) hK hP hD hS hA 0 rfl 0 rfl rfl hl.1 rfl (Nat.le_of_ble_eq_true rfl) d_TT_moveTimes_79 ⟨Nat.le_refl _, Nat.le_refl _⟩ (fun r u H locs hwc hP hD hS => ?_)
        subst hwc
        refine lv_if_eq (tgt := 101) hx hb d_TT_moveTimes_82 (by decide) (fun c_82 => ?_) (fun c_82 => ?_)
        · have c_82 := bI_0 c_82
          refine lv_iinc (v := nI (k + 1)) (lv' := [(5, .int (nI (k + 1))), (4, .int (nI q)), (0, .ref (P 0)), (1, .int f), (2, .int t), (3, .int b)]) hx hb d_TT_moveTimes_101 hl (k := 0) rfl (nI_1 _) (by decide) rfl (fun ls hl => ?_)
          refine lv_goto (tgt := 60) hx hb d_TT_moveTimes_104 (by decide) ?_
          exact ih _ _ _ _ _ _ (by omega) ho (by rw [← hr0, mv_t, if_neg (by rw [c_82]; decide)]) hP hD hS (lv_sub hl [0, 1, 2, 3, 4, 5] rfl)
        · have c_82 := bI_1 c_82
          refine lv_aload_n hx hb d_TT_moveTimes_85 rfl (lv_at hl 2 rfl) ?_
          refine xg hx hb hts hown hK hP rfl 3 (by decide) rfl fl_TT_29 rfl d_TT_moveTimes_86 ?_
          refine lv_aload_n hx hb d_TT_moveTimes_89 rfl (lv_at hl 2 rfl) ?_
          refine xg hx hb hts hown hK hP rfl 1 (by decide) rfl fl_TT_22 rfl d_TT_moveTimes_90 ?_
          refine lv_iload hx hb d_TT_moveTimes_93 (lv_at hl 0 rfl) ?_
          refine tb_iald hx hb hK hP 2 1 rfl rfl (by omega) hN d_TT_moveTimes_95 ?_
          refine lv_dup2_11 hx hb d_TT_moveTimes_96 rfl rfl ?_
          refine tb_iald hx hb hK hP 4 3 rfl rfl (hg.1 _ (by omega)) hN d_TT_moveTimes_97 ?_
          refine lv_iload_n hx hb d_TT_moveTimes_98 rfl (lv_at hl 5 rfl) ?_
          refine lv_iadd hx hb d_TT_moveTimes_99 ?_
          refine tb_iast hx hb hK hP hD hS 4 3 rfl rfl (hg.1 _ (by omega)) hN (tt P C N fb g fn (upd ft' (g k) ((ft' (g k)) + b)) fs fl w wi now on ts tl lf ll) rfl d_TT_moveTimes_100 (fun H locs hP hD hS => ?_)
          refine lv_iinc (v := nI (k + 1)) (lv' := [(5, .int (nI (k + 1))), (4, .int (nI q)), (0, .ref (P 0)), (1, .int f), (2, .int t), (3, .int b)]) hx hb d_TT_moveTimes_101 hl (k := 0) rfl (nI_1 _) (by decide) rfl (fun ls hl => ?_)
          refine lv_goto (tgt := 60) hx hb d_TT_moveTimes_104 (by decide) ?_
          exact ih _ _ _ _ _ _ (by omega) ho (by rw [← hr0, mv_t, if_pos c_82]) hP hD hS (lv_sub hl [0, 1, 2, 3, 4, 5] rfl)
  have loop1 : ∀ (n k q : Nat) (H : Heap) (locs : List Loc) (ls : Array Slot), k + n = w → mv_c (in_S ft f t) (cm_F ft now b) n k g q = (mv_c (in_S ft f t) (cm_F ft now b) w 0 g 0) → va_P (dC, dI) classes (tt P C N fb g fn ft fs fl w wi now on ts tl lf ll) H → va_D A (tt P C N fb g fn ft fs fl w wi now on ts tl lf ll) → va_S A s.heap H locs → lv_has ls 6 [(5, .int (nI k)), (4, .int (nI q)), (0, .ref (P 0)), (1, .int f), (2, .int t), (3, .int b)] → W p l e (rmD 2) s m [Value.ref (P 0), .int f, .int t, .int b].toArray below meth c H locs 0 0 (MQ below (va_Qi (fun (r : Int32) (_ : Unit) => r = mv_A (mv_c (in_S ft f t) (cm_F ft now b) w 0 g 0)) (fun u tS => va_P (dC, dI) classes ((fun _ => (tt P C N fb (mv_F (mv_c (in_S ft f t) (cm_F ft now b) w 0 g 0) g (mv_s (be_F (mv_t f t b w 0 g ft) fs) (w - 1) 1 g)) fn (mv_F (mv_c (in_S ft f t) (cm_F ft now b) w 0 g 0) ft (mv_t f t b w 0 g ft)) fs fl w wi now on ts tl lf ll)) u) tS.heap ∧ va_K (dC, dI) classes (tys_T C) tS ∧ va_D A ((fun _ => (tt P C N fb (mv_F (mv_c (in_S ft f t) (cm_F ft now b) w 0 g 0) g (mv_s (be_F (mv_t f t b w 0 g ft) fs) (w - 1) 1 g)) fn (mv_F (mv_c (in_S ft f t) (cm_F ft now b) w 0 g 0) ft (mv_t f t b w 0 g ft)) fs fl w wi now on ts tl lf ll)) u)) A) [Value.ref (P 0), .int f, .int t, .int b].toArray s 0 0 A) (F0 m 6 ls []) := by
    clear hP hD hS hl
    intro n
    induction n with
    | zero =>
      intro k q H locs ls hn hr0 hP hD hS hl
      refine lv_iload hx hb d_TT_moveTimes_6 (lv_at hl 0 rfl) ?_
      refine lv_aload_n hx hb d_TT_moveTimes_8 rfl (lv_at hl 2 rfl) ?_
      refine xg hx hb hts hown hK hP rfl 6 (by decide) rfl fl_TT_53 rfl d_TT_moveTimes_9 ?_
      refine lv_icmp_ge (tgt := 57) hx hb d_TT_moveTimes_12 (by decide) (fun c_12 => ?_) (fun c_12 => ?_)
      · refine lv_iconst (v := nI 0) hx hb d_TT_moveTimes_57 (by decide) ?_
        refine lv_istore (lv' := [(5, .int (nI 0)), (4, .int (nI q)), (0, .ref (P 0)), (1, .int f), (2, .int t), (3, .int b)]) hx hb d_TT_moveTimes_58 hl (by decide) rfl (fun ls hl => ?_)
        exact loop2 w 0 q ft _ _ _ (by omega) hr0.symm rfl hP hD hS (lv_sub hl [0, 1, 2, 3, 4, 5] rfl)
      · exact absurd (nI_le (by omega) (by omega)) c_12
    | succ n ih =>
      intro k q H locs ls hn hr0 hP hD hS hl
      refine lv_iload hx hb d_TT_moveTimes_6 (lv_at hl 0 rfl) ?_
      refine lv_aload_n hx hb d_TT_moveTimes_8 rfl (lv_at hl 2 rfl) ?_
      refine xg hx hb hts hown hK hP rfl 6 (by decide) rfl fl_TT_53 rfl d_TT_moveTimes_9 ?_
      refine lv_icmp_ge (tgt := 57) hx hb d_TT_moveTimes_12 (by decide) (fun c_12 => ?_) (fun c_12 => ?_)
      · exact absurd ((nI_leI (by omega) (by omega)).mp c_12) (by omega)
      · refine lv_aload_n hx hb d_TT_moveTimes_15 rfl (lv_at hl 2 rfl) ?_
        refine lv_aload_n hx hb d_TT_moveTimes_16 rfl (lv_at hl 2 rfl) ?_
        refine xg hx hb hts hown hK hP rfl 1 (by decide) rfl fl_TT_22 rfl d_TT_moveTimes_17 ?_
        refine lv_iload hx hb d_TT_moveTimes_20 (lv_at hl 0 rfl) ?_
        refine tb_iald hx hb hK hP 2 1 rfl rfl (by omega) hN d_TT_moveTimes_22 ?_
        refine lv_iload_n hx hb d_TT_moveTimes_23 rfl (lv_at hl 3 rfl) ?_
        refine lv_iload_n hx hb d_TT_moveTimes_24 rfl (lv_at hl 4 rfl) ?_
        refine tb_calli (c_isInSpan l dC dI P C N H.size fb g fn ft fs fl w wi now on ts tl lf ll (g k) f t hN (hg.1 _ (by omega))) ⟨hx, hb, hml, hown, hts⟩ (cwV 3 hts g_TT_62 rfl rfl rfl (by decide +kernel) ⟨Nat.le_of_ble_eq_true rfl, Nat.le_of_ble_eq_true rfl⟩) hK hP hD hS hA 0 rfl 0 rfl rfl hl.1 rfl (Nat.le_of_ble_eq_true rfl) d_TT_moveTimes_25 ⟨Nat.le_refl _, Nat.le_refl _⟩ (fun r u H locs hwc hP hD hS => ?_)
        subst hwc
        refine lv_if_eq (tgt := 51) hx hb d_TT_moveTimes_28 (by decide) (fun c_28 => ?_) (fun c_28 => ?_)
        · have c_28 := bI_0 c_28
          refine lv_iinc (v := nI (k + 1)) (lv' := [(5, .int (nI (k + 1))), (4, .int (nI q)), (0, .ref (P 0)), (1, .int f), (2, .int t), (3, .int b)]) hx hb d_TT_moveTimes_51 hl (k := 0) rfl (nI_1 _) (by decide) rfl (fun ls hl => ?_)
          refine lv_goto (tgt := 6) hx hb d_TT_moveTimes_54 (by decide) ?_
          exact ih _ _ _ _ _ (by omega) (by rw [← hr0, mv_c, if_neg (by rw [c_28]; decide)]) hP hD hS (lv_sub hl [0, 1, 2, 3, 4, 5] rfl)
        · have c_28 := bI_1 c_28
          refine lv_aload_n hx hb d_TT_moveTimes_31 rfl (lv_at hl 2 rfl) ?_
          refine lv_aload_n hx hb d_TT_moveTimes_32 rfl (lv_at hl 2 rfl) ?_
          refine xg hx hb hts hown hK hP rfl 1 (by decide) rfl fl_TT_22 rfl d_TT_moveTimes_33 ?_
          refine lv_iload hx hb d_TT_moveTimes_36 (lv_at hl 0 rfl) ?_
          refine tb_iald hx hb hK hP 2 1 rfl rfl (by omega) hN d_TT_moveTimes_38 ?_
          refine lv_iload_n hx hb d_TT_moveTimes_39 rfl (lv_at hl 5 rfl) ?_
          refine tb_calli (c_canMove l dC dI P C N H.size fb g fn ft fs fl w wi now on ts tl lf ll (g k) b hN (hg.1 _ (by omega))) ⟨hx, hb, hml, hown, hts⟩ (cwV 2 hts g_TT_101 rfl rfl rfl (by decide +kernel) ⟨Nat.le_of_ble_eq_true rfl, Nat.le_of_ble_eq_true rfl⟩) hK hP hD hS hA 0 rfl 0 rfl rfl hl.1 rfl (Nat.le_of_ble_eq_true rfl) d_TT_moveTimes_40 ⟨Nat.le_refl _, Nat.le_refl _⟩ (fun r u H locs hwc hP hD hS => ?_)
          subst hwc
          refine lv_if_ne (tgt := 48) hx hb d_TT_moveTimes_43 (by decide) (fun c_43 => ?_) (fun c_43 => ?_)
          · have c_43 := bI_1 c_43
            refine lv_iinc (v := nI (q + 1)) (lv' := [(4, .int (nI (q + 1))), (5, .int (nI k)), (0, .ref (P 0)), (1, .int f), (2, .int t), (3, .int b)]) hx hb d_TT_moveTimes_48 hl (k := 1) rfl (nI_1 _) (by decide) rfl (fun ls hl => ?_)
            refine lv_iinc (v := nI (k + 1)) (lv' := [(5, .int (nI (k + 1))), (4, .int (nI (q + 1))), (0, .ref (P 0)), (1, .int f), (2, .int t), (3, .int b)]) hx hb d_TT_moveTimes_51 hl (k := 1) rfl (nI_1 _) (by decide) rfl (fun ls hl => ?_)
            refine lv_goto (tgt := 6) hx hb d_TT_moveTimes_54 (by decide) ?_
            exact ih _ _ _ _ _ (by omega) (by rw [← hr0, mv_c, if_pos c_28, if_pos c_43]) hP hD hS (lv_sub hl [0, 1, 2, 3, 4, 5] rfl)
          · have c_43 := bI_0 c_43
            have ho : (mv_c (in_S ft f t) (cm_F ft now b) w 0 g 0) = none := by rw [← hr0, mv_c, if_pos c_28, if_neg (by rw [c_43]; decide)]
            have hP : va_P (dC, dI) classes (tt P C N fb (mv_F (mv_c (in_S ft f t) (cm_F ft now b) w 0 g 0) g (mv_s (be_F (mv_t f t b w 0 g ft) fs) (w - 1) 1 g)) fn (mv_F (mv_c (in_S ft f t) (cm_F ft now b) w 0 g 0) ft (mv_t f t b w 0 g ft)) fs fl w wi now on ts tl lf ll) H := by rw [ho]; exact hP
            have hD : va_D A (tt P C N fb (mv_F (mv_c (in_S ft f t) (cm_F ft now b) w 0 g 0) g (mv_s (be_F (mv_t f t b w 0 g ft) fs) (w - 1) 1 g)) fn (mv_F (mv_c (in_S ft f t) (cm_F ft now b) w 0 g 0) ft (mv_t f t b w 0 g ft)) fs fl w wi now on ts tl lf ll) := by rw [ho]; exact hD
            refine lv_iconst (v := (-1)) hx hb d_TT_moveTimes_46 (by decide) ?_
            exact tb_reti hx hb hr hlk hK () hP hD hS (by rw [ho]; rfl) d_TT_moveTimes_47
  refine lv_iconst (v := nI 0) hx hb d_TT_moveTimes_0 (by decide) ?_
  refine lv_istore (lv' := [(4, .int (nI 0)), (0, .ref (P 0)), (1, .int f), (2, .int t), (3, .int b)]) hx hb d_TT_moveTimes_1 hl (by decide) rfl (fun ls hl => ?_)
  refine lv_iconst (v := nI 0) hx hb d_TT_moveTimes_3 (by decide) ?_
  refine lv_istore (lv' := [(5, .int (nI 0)), (4, .int (nI 0)), (0, .ref (P 0)), (1, .int f), (2, .int t), (3, .int b)]) hx hb d_TT_moveTimes_4 hl (by decide) rfl (fun ls hl => ?_)
  exact loop1 w 0 0 _ _ _ (by omega) rfl hP hD hS (lv_sub hl [0, 1, 2, 3, 4, 5] rfl)
end
section
set_option maxHeartbeats 4000000 in
set_option maxRecDepth 100000 in
/-- put -/
theorem c_put (l : Launch) (dC : Nat → ClassId) (dI : Nat → Nat → Nat) (P : Nat → Nat) (C : Nat → ClassId) (N sz : Nat) (fb : Nat → Int32) (g : Nat → Nat) (fn ft : Nat → Int32) (fs fl : Nat → Nat) (w wi now : Nat) (on : Bool) (ts tl lf ll : Nat) (b : Int32) (hts2 : ts + tl ≤ 512) (htl : tl ≤ 256) (h : tl < 256 → ts + tl < 512) : ctI l y_TT_put ws_TT_put (rmD 0) (dC, dI) classes (tys_T C) (tt P C N fb g fn ft fs fl w wi now on ts tl lf ll) sz [.ref (P 0), .int b] (fun (r : Int32) (u : (Nat → Int32) × Nat) => (r, u) = pu_R fb ts tl b) (fun u => (tt P C N u.1 g fn ft fs fl w wi now on ts u.2 lf ll)) 0 0 := by
  refine tb_metI (own := R_TT) (by decide) rfl rfl (Nat.le_of_ble_eq_true rfl) [(0, .ref (P 0)), (1, .int b)] rfl ?_
  intro p e s m below meth c A ls hx hb hr hml hts hown hlk hnm hA hK hP hD hS hl
  refine lv_aload_n hx hb d_TT_put_0 rfl (lv_at hl 0 rfl) ?_
  refine xg hx hb hts hown hK hP rfl 10 (by decide) rfl fl_TT_38 rfl d_TT_put_1 ?_
  refine lv_aload_n hx hb d_TT_put_4 rfl (lv_at hl 0 rfl) ?_
  refine xg hx hb hts hown hK hP rfl 11 (by decide) rfl fl_TT_42 rfl d_TT_put_5 ?_
  refine lv_iadd hx hb d_TT_put_8 ?_
  refine tp_i (nI (ts + tl)) (nI_add _ _) ?_
  refine lv_istore_n (lv' := [(2, .int (nI (ts + tl))), (0, .ref (P 0)), (1, .int b)]) hx hb d_TT_put_9 rfl hl (by decide) rfl (fun ls hl => ?_)
  refine lv_aload_n hx hb d_TT_put_10 rfl (lv_at hl 1 rfl) ?_
  refine xg hx hb hts hown hK hP rfl 11 (by decide) rfl fl_TT_42 rfl d_TT_put_11 ?_
  refine lv_sipush (v := nI 256) hx hb d_TT_put_14 (by decide) ?_
  refine lv_icmp_ge (tgt := 29) hx hb d_TT_put_17 (by decide) (fun c_17 => ?_) (fun c_17 => ?_)
  · have c_17 : 256 ≤ tl := (nI_leI (by omega) (by omega)).mp c_17
    have hq : ¬ tl < 256 := fun q => by have := h q; omega
    refine lv_iconst (v := (-1)) hx hb d_TT_put_29 (by decide) ?_
    exact tb_reti hx hb hr hlk hK (fb, tl) hP hD hS (by rw [pu_R, if_neg hq]) d_TT_put_30
  · have c_17 : ¬ 256 ≤ tl := fun q => c_17 ((nI_leI (by omega) (by omega)).mpr q)
    refine lv_iload_n hx hb d_TT_put_20 rfl (lv_at hl 0 rfl) ?_
    refine lv_aload_n hx hb d_TT_put_21 rfl (lv_at hl 1 rfl) ?_
    refine xg hx hb hts hown hK hP rfl 0 (by decide) rfl fl_TT_18 rfl d_TT_put_22 ?_
    refine va_alen (v := nI 512) hx hb hK hP 1 0 rfl rfl rfl d_TT_put_25 ?_
    refine lv_icmp_lt (tgt := 31) hx hb d_TT_put_26 (by decide) (fun c_26 => ?_) (fun c_26 => ?_)
    · have c_26 : ts + tl < 512 := (nI_ltI (by omega) (by omega)).mp c_26
      have hq : tl < 256 := by omega
      refine lv_aload_n hx hb d_TT_put_31 rfl (lv_at hl 1 rfl) ?_
      refine xg hx hb hts hown hK hP rfl 0 (by decide) rfl fl_TT_18 rfl d_TT_put_32 ?_
      refine lv_iload_n hx hb d_TT_put_35 rfl (lv_at hl 0 rfl) ?_
      refine lv_iload_n hx hb d_TT_put_36 rfl (lv_at hl 2 rfl) ?_
      refine lv_i2b (v := b.toInt8.toInt32) hx hb d_TT_put_37 rfl ?_
      refine tb_bast hx hb hK hP hD hS 1 0 rfl rfl (by omega) (by decide) (tt P C N (upd fb (ts + tl) (vp_nar .byte b.toInt8.toInt32)) g fn ft fs fl w wi now on ts tl lf ll) rfl d_TT_put_38 (fun H locs hP hD hS => ?_)
      refine lv_aload_n hx hb d_TT_put_39 rfl (lv_at hl 1 rfl) ?_
      refine lv_dup hx hb d_TT_put_40 rfl ?_
      refine xg hx hb hts hown hK hP rfl 11 (by decide) rfl fl_TT_42 rfl d_TT_put_41 ?_
      refine lv_iconst (v := nI 1) hx hb d_TT_put_44 (by decide) ?_
      refine lv_iadd hx hb d_TT_put_45 ?_
      refine tp_i (nI (tl + 1)) (nI_add _ _) ?_
      refine xp (ty := .int) hx hb hts hown hK hP hD hS rfl 11 (by decide) rfl fl_TT_42 rfl (by decide +kernel) (rfl) (rfl) (Nat.le_of_ble_eq_true rfl) (tt P C N (upd fb (ts + tl) (vp_nar .byte b.toInt8.toInt32)) g fn ft fs fl w wi now on ts (tl + 1) lf ll) rfl d_TT_put_46 (fun H locs hP hD hS => ?_)
      refine lv_aload_n hx hb d_TT_put_49 rfl (lv_at hl 1 rfl) ?_
      refine xg hx hb hts hown hK hP rfl 11 (by decide) rfl fl_TT_42 rfl d_TT_put_50 ?_
      exact tb_reti hx hb hr hlk hK (upd fb (ts + tl) (vp_nar .byte b.toInt8.toInt32), tl + 1) hP hD hS (by rw [pu_R, if_pos hq]) d_TT_put_53
    · have c_26 : ¬ ts + tl < 512 := fun q => c_26 ((nI_ltI (by omega) (by omega)).mpr q)
      have hq : ¬ tl < 256 := fun q => by have := h q; omega
      refine lv_iconst (v := (-1)) hx hb d_TT_put_29 (by decide) ?_
      exact tb_reti hx hb hr hlk hK (fb, tl) hP hD hS (by rw [pu_R, if_neg hq]) d_TT_put_30


set_option maxHeartbeats 4000000 in
set_option maxRecDepth 100000 in
/-- enable -/
theorem c_enable (l : Launch) (dC : Nat → ClassId) (dI : Nat → Nat → Nat) (P : Nat → Nat) (C : Nat → ClassId) (N sz : Nat) (fb : Nat → Int32) (g : Nat → Nat) (fn ft : Nat → Int32) (fs fl : Nat → Nat) (w wi now : Nat) (on : Bool) (ts tl lf ll : Nat) (b : Bool) : ctV l y_TT_enable ws_TT_enable (rmD 0) (dC, dI) classes (tys_T C) (tt P C N fb g fn ft fs fl w wi now on ts tl lf ll) sz [.ref (P 0), .int (bI b)] (fun (_ : Unit) => True) (fun _ => (tt P C N fb g fn ft fs fl w wi now b ts tl lf ll)) 0 0 := by
  refine tb_metV (own := R_TT) (by decide) rfl rfl (Nat.le_of_ble_eq_true rfl) [(0, .ref (P 0)), (1, .int (bI b))] rfl ?_
  intro p e s m below meth c A ls hx hb hr hml hts hown hlk hnm hA hK hP hD hS hl
  refine lv_aload_n hx hb d_TT_enable_0 rfl (lv_at hl 0 rfl) ?_
  refine lv_iload_n hx hb d_TT_enable_1 rfl (lv_at hl 1 rfl) ?_
  refine xp (ty := .boolean) hx hb hts hown hK hP hD hS rfl 9 (by decide) rfl fl_TT_71 rfl (by decide +kernel) (bI_n _) (bI_f _) (Nat.le_of_ble_eq_true rfl) (tt P C N fb g fn ft fs fl w wi now b ts tl lf ll) rfl d_TT_enable_2 (fun H locs hP hD hS => ?_)
  exact tb_retv hx hb hr hlk hK () hP hD hS trivial d_TT_enable_5


set_option maxHeartbeats 4000000 in
set_option maxRecDepth 100000 in
/-- isOn -/
theorem c_isOn (l : Launch) (dC : Nat → ClassId) (dI : Nat → Nat → Nat) (P : Nat → Nat) (C : Nat → ClassId) (N sz : Nat) (fb : Nat → Int32) (g : Nat → Nat) (fn ft : Nat → Int32) (fs fl : Nat → Nat) (w wi now : Nat) (on : Bool) (ts tl lf ll : Nat)  : ctI l y_TT_isOn ws_TT_isOn (rmD 0) (dC, dI) classes (tys_T C) (tt P C N fb g fn ft fs fl w wi now on ts tl lf ll) sz [.ref (P 0)] (fun (r : Int32) (_ : Unit) => r = bI on) (fun _ => (tt P C N fb g fn ft fs fl w wi now on ts tl lf ll)) 0 0 := by
  refine tb_metI (own := R_TT) (by decide) rfl rfl (Nat.le_of_ble_eq_true rfl) [(0, .ref (P 0))] rfl ?_
  intro p e s m below meth c A ls hx hb hr hml hts hown hlk hnm hA hK hP hD hS hl
  refine lv_aload_n hx hb d_TT_isOn_0 rfl (lv_at hl 0 rfl) ?_
  refine xg hx hb hts hown hK hP rfl 9 (by decide) rfl fl_TT_71 rfl d_TT_isOn_1 ?_
  exact tb_retz hx hb hr hlk hK () hP hD hS (bI_n _) rfl d_TT_isOn_4


set_option maxHeartbeats 4000000 in
set_option maxRecDepth 100000 in
/-- reset -/
theorem c_reset (l : Launch) (dC : Nat → ClassId) (dI : Nat → Nat → Nat) (P : Nat → Nat) (C : Nat → ClassId) (N sz : Nat) (fb : Nat → Int32) (g : Nat → Nat) (fn ft : Nat → Int32) (fs fl : Nat → Nat) (w wi now : Nat) (on : Bool) (ts tl lf ll : Nat)  : ctV l y_TT_reset ws_TT_reset (rmD 0) (dC, dI) classes (tys_T C) (tt P C N fb g fn ft fs fl w wi now on ts tl lf ll) sz [.ref (P 0)] (fun (_ : Unit) => True) (fun _ => (tt P C N fb g fn ft fs fl 0 wi now false ts tl lf ll)) 0 0 := by
  refine tb_metV (own := R_TT) (by decide) rfl rfl (Nat.le_of_ble_eq_true rfl) [(0, .ref (P 0))] rfl ?_
  intro p e s m below meth c A ls hx hb hr hml hts hown hlk hnm hA hK hP hD hS hl
  refine lv_aload_n hx hb d_TT_reset_0 rfl (lv_at hl 0 rfl) ?_
  refine lv_iconst (v := nI 0) hx hb d_TT_reset_1 (by decide) ?_
  refine xp (ty := .int) hx hb hts hown hK hP hD hS rfl 6 (by decide) rfl fl_TT_53 rfl (by decide +kernel) (rfl) (rfl) (Nat.le_of_ble_eq_true rfl) (tt P C N fb g fn ft fs fl 0 wi now on ts tl lf ll) rfl d_TT_reset_2 (fun H locs hP hD hS => ?_)
  refine lv_aload_n hx hb d_TT_reset_5 rfl (lv_at hl 0 rfl) ?_
  refine lv_iconst (v := nI 0) hx hb d_TT_reset_6 (by decide) ?_
  refine tp_i (bI false) rfl ?_
  refine xp (ty := .boolean) hx hb hts hown hK hP hD hS rfl 9 (by decide) rfl fl_TT_71 rfl (by decide +kernel) (bI_n _) (bI_f _) (Nat.le_of_ble_eq_true rfl) (tt P C N fb g fn ft fs fl 0 wi now false ts tl lf ll) rfl d_TT_reset_7 (fun H locs hP hD hS => ?_)
  exact tb_retv hx hb hr hlk hK () hP hD hS trivial d_TT_reset_10


set_option maxHeartbeats 4000000 in
set_option maxRecDepth 100000 in
/-- tick -/
theorem c_tick (l : Launch) (dC : Nat → ClassId) (dI : Nat → Nat → Nat) (P : Nat → Nat) (C : Nat → ClassId) (N sz : Nat) (fb : Nat → Int32) (g : Nat → Nat) (fn ft : Nat → Int32) (fs fl : Nat → Nat) (w wi now : Nat) (on : Bool) (ts tl lf ll : Nat) (hnow : now < 2147483647) : ctI l y_TT_tick ws_TT_tick (rmD 0) (dC, dI) classes (tys_T C) (tt P C N fb g fn ft fs fl w wi now on ts tl lf ll) sz [.ref (P 0)] (fun (r : Int32) (_ : Unit) => r = nI (now + 1)) (fun _ => (tt P C N fb g fn ft fs fl w wi (now + 1) on ts tl lf ll)) 0 0 := by
  refine tb_metI (own := R_TT) (by decide) rfl rfl (Nat.le_of_ble_eq_true rfl) [(0, .ref (P 0))] rfl ?_
  intro p e s m below meth c A ls hx hb hr hml hts hown hlk hnm hA hK hP hD hS hl
  refine lv_aload_n hx hb d_TT_tick_0 rfl (lv_at hl 0 rfl) ?_
  refine xg hx hb hts hown hK hP rfl 8 (by decide) rfl fl_TT_75 rfl d_TT_tick_1 ?_
  refine lv_ldc (v := nI 2147483647) hx hb hown (hts _ k_TT_66) d_TT_tick_4 ?_
  refine lv_icmp_ne (tgt := 11) hx hb d_TT_tick_6 (by decide) (fun c_6 => ?_) (fun c_6 => ?_)
  · have c_6 : ¬ now = 2147483647 := fun q => c_6 ((nI_eq (by omega) (by omega)).mpr q)
    refine lv_aload_n hx hb d_TT_tick_11 rfl (lv_at hl 0 rfl) ?_
    refine lv_dup hx hb d_TT_tick_12 rfl ?_
    refine xg hx hb hts hown hK hP rfl 8 (by decide) rfl fl_TT_75 rfl d_TT_tick_13 ?_
    refine lv_iconst (v := nI 1) hx hb d_TT_tick_16 (by decide) ?_
    refine lv_iadd hx hb d_TT_tick_17 ?_
    refine tp_i (nI (now + 1)) (nI_add _ _) ?_
    refine xp (ty := .int) hx hb hts hown hK hP hD hS rfl 8 (by decide) rfl fl_TT_75 rfl (by decide +kernel) (rfl) (rfl) (Nat.le_of_ble_eq_true rfl) (tt P C N fb g fn ft fs fl w wi (now + 1) on ts tl lf ll) rfl d_TT_tick_18 (fun H locs hP hD hS => ?_)
    refine lv_aload_n hx hb d_TT_tick_21 rfl (lv_at hl 0 rfl) ?_
    refine xg hx hb hts hown hK hP rfl 8 (by decide) rfl fl_TT_75 rfl d_TT_tick_22 ?_
    exact tb_reti hx hb hr hlk hK () hP hD hS rfl d_TT_tick_25
  · exact absurd ((nI_eq (by omega) (by omega)).mp c_6) (by omega)


set_option maxHeartbeats 4000000 in
set_option maxRecDepth 100000 in
/-- count -/
theorem c_count (l : Launch) (dC : Nat → ClassId) (dI : Nat → Nat → Nat) (P : Nat → Nat) (C : Nat → ClassId) (N sz : Nat) (fb : Nat → Int32) (g : Nat → Nat) (fn ft : Nat → Int32) (fs fl : Nat → Nat) (w wi now : Nat) (on : Bool) (ts tl lf ll : Nat) (k : Int32) : ctI l y_TT_count ws_TT_count (rmD 0) (dC, dI) classes (tys_T C) (tt P C N fb g fn ft fs fl w wi now on ts tl lf ll) sz [.ref (P 0), .int k] (fun (r : Int32) (_ : Unit) => r = co_F now w wi ll k) (fun _ => (tt P C N fb g fn ft fs fl w wi now on ts tl lf ll)) 0 0 := by
  refine tb_metI (own := R_TT) (by decide) rfl rfl (Nat.le_of_ble_eq_true rfl) [(0, .ref (P 0)), (1, .int k)] rfl ?_
  intro p e s m below meth c A ls hx hb hr hml hts hown hlk hnm hA hK hP hD hS hl
  refine lv_iload_n hx hb d_TT_count_0 rfl (lv_at hl 1 rfl) ?_
  by_cases e0 : k = 0
  · subst e0
    refine lv_tableIn (tgt := 32) hx hb d_TT_count_1 (by decide) (by decide) rfl (by decide) ?_
    refine lv_aload_n hx hb d_TT_count_32 rfl (lv_at hl 0 rfl) ?_
    refine xg hx hb hts hown hK hP rfl 8 (by decide) rfl fl_TT_75 rfl d_TT_count_33 ?_
    exact tb_reti hx hb hr hlk hK () hP hD hS (by rw [co_F, if_pos rfl]) d_TT_count_36
  by_cases e1 : k = 1
  · subst e1
    refine lv_tableIn (tgt := 37) hx hb d_TT_count_1 (by decide) (by decide) rfl (by decide) ?_
    refine lv_aload_n hx hb d_TT_count_37 rfl (lv_at hl 0 rfl) ?_
    refine xg hx hb hts hown hK hP rfl 6 (by decide) rfl fl_TT_53 rfl d_TT_count_38 ?_
    exact tb_reti hx hb hr hlk hK () hP hD hS (by rw [co_F, if_neg (by decide), if_pos rfl]) d_TT_count_41
  by_cases e2 : k = 2
  · subst e2
    refine lv_tableIn (tgt := 42) hx hb d_TT_count_1 (by decide) (by decide) rfl (by decide) ?_
    refine lv_aload_n hx hb d_TT_count_42 rfl (lv_at hl 0 rfl) ?_
    refine xg hx hb hts hown hK hP rfl 7 (by decide) rfl fl_TT_90 rfl d_TT_count_43 ?_
    exact tb_reti hx hb hr hlk hK () hP hD hS (by rw [co_F, if_neg (by decide), if_neg (by decide), if_pos rfl]) d_TT_count_46
  by_cases e3 : k = 3
  · subst e3
    refine lv_tableIn (tgt := 47) hx hb d_TT_count_1 (by decide) (by decide) rfl (by decide) ?_
    refine lv_aload_n hx hb d_TT_count_47 rfl (lv_at hl 0 rfl) ?_
    refine xg hx hb hts hown hK hP rfl 13 (by decide) rfl fl_TT_81 rfl d_TT_count_48 ?_
    exact tb_reti hx hb hr hlk hK () hP hD hS (by rw [co_F, if_neg (by decide), if_neg (by decide), if_neg (by decide), if_pos rfl]) d_TT_count_51
  refine lv_tableOut (tgt := 52) hx hb d_TT_count_1 (by have q0 := lv_neT e0 (a := 0) rfl; have q1 := lv_neT e1 (a := 1) rfl; have q2 := lv_neT e2 (a := 2) rfl; have q3 := lv_neT e3 (a := 3) rfl; omega) (by decide) ?_
  refine lv_iconst (v := (-1)) hx hb d_TT_count_52 (by decide) ?_
  exact tb_reti hx hb hr hlk hK () hP hD hS (by rw [co_F, if_neg e0, if_neg e1, if_neg e2, if_neg e3]) d_TT_count_53


set_option maxHeartbeats 4000000 in
set_option maxRecDepth 100000 in
/-- left -/
theorem c_left (l : Launch) (dC : Nat → ClassId) (dI : Nat → Nat → Nat) (P : Nat → Nat) (C : Nat → ClassId) (N sz : Nat) (fb : Nat → Int32) (g : Nat → Nat) (fn ft : Nat → Int32) (fs fl : Nat → Nat) (w wi now : Nat) (on : Bool) (ts tl lf ll : Nat) (j : Int32) (hl2 : lf + ll ≤ 512) : ctI l y_TT_left ws_TT_left (rmD 1) (dC, dI) classes (tys_T C) (tt P C N fb g fn ft fs fl w wi now on ts tl lf ll) sz [.ref (P 0), .int j] (fun (r : Int32) (_ : Unit) => r = bo_F fb lf ll j) (fun _ => (tt P C N fb g fn ft fs fl w wi now on ts tl lf ll)) 0 0 := by
  refine tb_metI (own := R_TT) (by decide) rfl rfl (Nat.le_of_ble_eq_true rfl) [(0, .ref (P 0)), (1, .int j)] rfl ?_
  intro p e s m below meth c A ls hx hb hr hml hts hown hlk hnm hA hK hP hD hS hl
  refine lv_aload_n hx hb d_TT_left_0 rfl (lv_at hl 0 rfl) ?_
  refine lv_aload_n hx hb d_TT_left_1 rfl (lv_at hl 0 rfl) ?_
  refine xg hx hb hts hown hK hP rfl 12 (by decide) rfl fl_TT_78 rfl d_TT_left_2 ?_
  refine lv_aload_n hx hb d_TT_left_5 rfl (lv_at hl 0 rfl) ?_
  refine xg hx hb hts hown hK hP rfl 13 (by decide) rfl fl_TT_81 rfl d_TT_left_6 ?_
  refine lv_iload_n hx hb d_TT_left_9 rfl (lv_at hl 1 rfl) ?_
  refine tb_calli (c_byteOf l dC dI P C N s.heap.size fb g fn ft fs fl w wi now on ts tl lf ll lf ll j hl2) ⟨hx, hb, hml, hown, hts⟩ (cwV 3 hts g_TT_87 rfl rfl rfl (by decide +kernel) ⟨Nat.le_of_ble_eq_true rfl, Nat.le_of_ble_eq_true rfl⟩) hK hP hD hS hA 0 rfl 0 rfl rfl hl.1 rfl (Nat.le_of_ble_eq_true rfl) d_TT_left_10 ⟨Nat.le_refl _, Nat.le_refl _⟩ (fun r u H locs hwc hP hD hS => ?_)
  subst hwc
  exact tb_reti hx hb hr hlk hK () hP hD hS rfl d_TT_left_13


set_option maxHeartbeats 4000000 in
set_option maxRecDepth 100000 in
/-- shift -/
theorem c_shift (l : Launch) (dC : Nat → ClassId) (dI : Nat → Nat → Nat) (P : Nat → Nat) (C : Nat → ClassId) (N sz : Nat) (fb : Nat → Int32) (g : Nat → Nat) (fn ft : Nat → Int32) (fs fl : Nat → Nat) (w wi now : Nat) (on : Bool) (ts tl lf ll : Nat) (b : Int32) (hN : N < 2 ^ 31) (hw : w ≤ N) (hg : wfP N g) (hf : ∀ j, j < N → fs j ≤ 512) : ctI l y_TT_shift ws_TT_shift (rmD 3) (dC, dI) classes (tys_T C) (tt P C N fb g fn ft fs fl w wi now on ts tl lf ll) sz [.ref (P 0), .int b] (fun (r : Int32) (_ : Unit) => r = mv_A (mv_c (in_S ft (nI 0) (nI 2147483647)) (cm_F ft now b) w 0 g 0)) (fun _ => (tt P C N fb (mv_F (mv_c (in_S ft (nI 0) (nI 2147483647)) (cm_F ft now b) w 0 g 0) g (mv_s (be_F (mv_t (nI 0) (nI 2147483647) b w 0 g ft) fs) (w - 1) 1 g)) fn (mv_F (mv_c (in_S ft (nI 0) (nI 2147483647)) (cm_F ft now b) w 0 g 0) ft (mv_t (nI 0) (nI 2147483647) b w 0 g ft)) fs fl w wi now on ts tl lf ll)) 0 0 := by
  refine tb_metI (own := R_TT) (by decide) rfl rfl (Nat.le_of_ble_eq_true rfl) [(0, .ref (P 0)), (1, .int b)] rfl ?_
  intro p e s m below meth c A ls hx hb hr hml hts hown hlk hnm hA hK hP hD hS hl
  refine lv_aload_n hx hb d_TT_shift_0 rfl (lv_at hl 0 rfl) ?_
  refine lv_iconst (v := nI 0) hx hb d_TT_shift_1 (by decide) ?_
  refine lv_ldc (v := nI 2147483647) hx hb hown (hts _ k_TT_66) d_TT_shift_2 ?_
  refine lv_iload_n hx hb d_TT_shift_4 rfl (lv_at hl 1 rfl) ?_
  refine tb_calli (c_moveTimes l dC dI P C N s.heap.size fb g fn ft fs fl w wi now on ts tl lf ll (nI 0) (nI 2147483647) b hN hw hg hf) ⟨hx, hb, hml, hown, hts⟩ (cwV 3 hts g_TT_67 rfl rfl rfl (by decide +kernel) ⟨Nat.le_of_ble_eq_true rfl, Nat.le_of_ble_eq_true rfl⟩) hK hP hD hS hA 0 rfl 0 rfl rfl hl.1 rfl (Nat.le_of_ble_eq_true rfl) d_TT_shift_5 ⟨Nat.le_refl _, Nat.le_refl _⟩ (fun r u H locs hwc hP hD hS => ?_)
  subst hwc
  exact tb_reti hx hb hr hlk hK () hP hD hS rfl d_TT_shift_8


set_option maxHeartbeats 4000000 in
set_option maxRecDepth 100000 in
/-- shiftSpan -/
theorem c_shiftSpan (l : Launch) (dC : Nat → ClassId) (dI : Nat → Nat → Nat) (P : Nat → Nat) (C : Nat → ClassId) (N sz : Nat) (fb : Nat → Int32) (g : Nat → Nat) (fn ft : Nat → Int32) (fs fl : Nat → Nat) (w wi now : Nat) (on : Bool) (ts tl lf ll : Nat) (f t b : Int32) (hN : N < 2 ^ 31) (hw : w ≤ N) (hg : wfP N g) (hf : ∀ j, j < N → fs j ≤ 512) : ctI l y_TT_shiftSpan ws_TT_shiftSpan (rmD 3) (dC, dI) classes (tys_T C) (tt P C N fb g fn ft fs fl w wi now on ts tl lf ll) sz [.ref (P 0), .int f, .int t, .int b] (fun (r : Int32) (_ : Unit) => r = mv_A (mv_c (in_S ft f t) (cm_F ft now b) w 0 g 0)) (fun _ => (tt P C N fb (mv_F (mv_c (in_S ft f t) (cm_F ft now b) w 0 g 0) g (mv_s (be_F (mv_t f t b w 0 g ft) fs) (w - 1) 1 g)) fn (mv_F (mv_c (in_S ft f t) (cm_F ft now b) w 0 g 0) ft (mv_t f t b w 0 g ft)) fs fl w wi now on ts tl lf ll)) 0 0 := by
  refine tb_metI (own := R_TT) (by decide) rfl rfl (Nat.le_of_ble_eq_true rfl) [(0, .ref (P 0)), (1, .int f), (2, .int t), (3, .int b)] rfl ?_
  intro p e s m below meth c A ls hx hb hr hml hts hown hlk hnm hA hK hP hD hS hl
  refine lv_aload_n hx hb d_TT_shiftSpan_0 rfl (lv_at hl 0 rfl) ?_
  refine lv_iload_n hx hb d_TT_shiftSpan_1 rfl (lv_at hl 1 rfl) ?_
  refine lv_iload_n hx hb d_TT_shiftSpan_2 rfl (lv_at hl 2 rfl) ?_
  refine lv_iload_n hx hb d_TT_shiftSpan_3 rfl (lv_at hl 3 rfl) ?_
  refine tb_calli (c_moveTimes l dC dI P C N s.heap.size fb g fn ft fs fl w wi now on ts tl lf ll f t b hN hw hg hf) ⟨hx, hb, hml, hown, hts⟩ (cwV 3 hts g_TT_67 rfl rfl rfl (by decide +kernel) ⟨Nat.le_of_ble_eq_true rfl, Nat.le_of_ble_eq_true rfl⟩) hK hP hD hS hA 0 rfl 0 rfl rfl hl.1 rfl (Nat.le_of_ble_eq_true rfl) d_TT_shiftSpan_4 ⟨Nat.le_refl _, Nat.le_refl _⟩ (fun r u H locs hwc hP hD hS => ?_)
  subst hwc
  exact tb_reti hx hb hr hlk hK () hP hD hS rfl d_TT_shiftSpan_7


set_option maxHeartbeats 4000000 in
set_option maxRecDepth 100000 in
/-- leave -/
theorem c_leave (l : Launch) (dC : Nat → ClassId) (dI : Nat → Nat → Nat) (P : Nat → Nat) (C : Nat → ClassId) (N sz : Nat) (fb : Nat → Int32) (g : Nat → Nat) (fn ft : Nat → Int32) (fs fl : Nat → Nat) (w wi now : Nat) (on : Bool) (ts tl lf ll : Nat) (hN : N < 2 ^ 31) (hw : w ≤ N) (hg : wfP N g) : ctI l y_TT_leave ws_TT_leave (rmD 2) (dC, dI) classes (tys_T C) (tt P C N fb g fn ft fs fl w wi now on ts tl lf ll) sz [.ref (P 0)] (fun (r : Int32) (u : (Nat → Nat) × Nat × Nat × Nat) => (r, u) = lv_R ft fs fl now w g lf ll) (fun u => (tt P C N fb u.1 fn ft fs fl u.2.1 wi now on ts tl u.2.2.1 u.2.2.2)) 0 0 := by
  refine tb_metI (own := R_TT) (by decide) rfl rfl (Nat.le_of_ble_eq_true rfl) [(0, .ref (P 0))] rfl ?_
  intro p e s m below meth c A ls hx hb hr hml hts hown hlk hnm hA hK hP hD hS hl
  refine lv_aload_n hx hb d_TT_leave_0 rfl (lv_at hl 0 rfl) ?_
  refine xg hx hb hts hown hK hP rfl 6 (by decide) rfl fl_TT_53 rfl d_TT_leave_1 ?_
  refine lv_if_eq (tgt := 25) hx hb d_TT_leave_4 (by decide) (fun c_4 => ?_) (fun c_4 => ?_)
  · have c_4 : w = 0 := (nI_eq (by omega) (by omega)).mp (show nI w = nI 0 from c_4)
    have hq : ¬ lv_F ft now w g = true := by simp [lv_F, c_4]
    refine lv_iconst (v := (-1)) hx hb d_TT_leave_25 (by decide) ?_
    exact tb_reti hx hb hr hlk hK (g, w, lf, ll) hP hD hS (by rw [lv_R, if_neg hq]) d_TT_leave_26
  · have c_4 : ¬ w = 0 := fun q => c_4 (show nI w = nI 0 by rw [q])
    refine lv_aload_n hx hb d_TT_leave_7 rfl (lv_at hl 0 rfl) ?_
    refine xg hx hb hts hown hK hP rfl 3 (by decide) rfl fl_TT_29 rfl d_TT_leave_8 ?_
    refine lv_aload_n hx hb d_TT_leave_11 rfl (lv_at hl 0 rfl) ?_
    refine xg hx hb hts hown hK hP rfl 1 (by decide) rfl fl_TT_22 rfl d_TT_leave_12 ?_
    refine lv_iconst (v := nI 0) hx hb d_TT_leave_15 (by decide) ?_
    refine tb_iald hx hb hK hP 2 1 rfl rfl (by omega) hN d_TT_leave_16 ?_
    refine tb_iald hx hb hK hP 4 3 rfl rfl (hg.1 _ (by omega)) hN d_TT_leave_17 ?_
    refine lv_aload_n hx hb d_TT_leave_18 rfl (lv_at hl 0 rfl) ?_
    refine xg hx hb hts hown hK hP rfl 8 (by decide) rfl fl_TT_75 rfl d_TT_leave_19 ?_
    refine lv_icmp_le (tgt := 27) hx hb d_TT_leave_22 (by decide) (fun c_22 => ?_) (fun c_22 => ?_)
    · have hq : lv_F ft now w g = true := by simp [lv_F, c_4, c_22]
      refine lv_aload_n hx hb d_TT_leave_27 rfl (lv_at hl 0 rfl) ?_
      refine lv_aload_n hx hb d_TT_leave_28 rfl (lv_at hl 0 rfl) ?_
      refine xg hx hb hts hown hK hP rfl 4 (by decide) rfl fl_TT_32 rfl d_TT_leave_29 ?_
      refine lv_aload_n hx hb d_TT_leave_32 rfl (lv_at hl 0 rfl) ?_
      refine xg hx hb hts hown hK hP rfl 1 (by decide) rfl fl_TT_22 rfl d_TT_leave_33 ?_
      refine lv_iconst (v := nI 0) hx hb d_TT_leave_36 (by decide) ?_
      refine tb_iald hx hb hK hP 2 1 rfl rfl (by omega) hN d_TT_leave_37 ?_
      refine tb_iald hx hb hK hP 5 4 rfl rfl (hg.1 _ (by omega)) hN d_TT_leave_38 ?_
      refine xp (ty := .int) hx hb hts hown hK hP hD hS rfl 12 (by decide) rfl fl_TT_78 rfl (by decide +kernel) (rfl) (rfl) (Nat.le_of_ble_eq_true rfl) (tt P C N fb g fn ft fs fl w wi now on ts tl (fs (g 0)) ll) rfl d_TT_leave_39 (fun H locs hP hD hS => ?_)
      refine lv_aload_n hx hb d_TT_leave_42 rfl (lv_at hl 0 rfl) ?_
      refine lv_aload_n hx hb d_TT_leave_43 rfl (lv_at hl 0 rfl) ?_
      refine xg hx hb hts hown hK hP rfl 5 (by decide) rfl fl_TT_35 rfl d_TT_leave_44 ?_
      refine lv_aload_n hx hb d_TT_leave_47 rfl (lv_at hl 0 rfl) ?_
      refine xg hx hb hts hown hK hP rfl 1 (by decide) rfl fl_TT_22 rfl d_TT_leave_48 ?_
      refine lv_iconst (v := nI 0) hx hb d_TT_leave_51 (by decide) ?_
      refine tb_iald hx hb hK hP 2 1 rfl rfl (by omega) hN d_TT_leave_52 ?_
      refine tb_iald hx hb hK hP 6 5 rfl rfl (hg.1 _ (by omega)) hN d_TT_leave_53 ?_
      refine xp (ty := .int) hx hb hts hown hK hP hD hS rfl 13 (by decide) rfl fl_TT_81 rfl (by decide +kernel) (rfl) (rfl) (Nat.le_of_ble_eq_true rfl) (tt P C N fb g fn ft fs fl w wi now on ts tl (fs (g 0)) (fl (g 0))) rfl d_TT_leave_54 (fun H locs hP hD hS => ?_)
      refine lv_aload_n hx hb d_TT_leave_57 rfl (lv_at hl 0 rfl) ?_
      refine tb_callv (c_dropFirst l dC dI P C N H.size fb g fn ft fs fl w wi now on ts tl (fs (g 0)) (fl (g 0)) hN (by omega) (by omega) hg) ⟨hx, hb, hml, hown, hts⟩ (cwV 0 hts g_TT_84 rfl rfl rfl (by decide +kernel) ⟨Nat.le_of_ble_eq_true rfl, Nat.le_of_ble_eq_true rfl⟩) hK hP hD hS hA 0 rfl 0 rfl rfl hl.1 rfl (Nat.le_of_ble_eq_true rfl) d_TT_leave_58 ⟨Nat.le_refl _, Nat.le_refl _⟩ (fun u H locs hwc hP hD hS => ?_)
      refine lv_aload_n hx hb d_TT_leave_61 rfl (lv_at hl 0 rfl) ?_
      refine xg hx hb hts hown hK hP rfl 13 (by decide) rfl fl_TT_81 rfl d_TT_leave_62 ?_
      exact tb_reti hx hb hr hlk hK (dr_l (w - 1) 1 g, w - 1, fs (g 0), fl (g 0)) hP hD hS (by rw [lv_R, if_pos hq]) d_TT_leave_65
    · have hq : ¬ lv_F ft now w g = true := by simp [lv_F, c_22]
      refine lv_iconst (v := (-1)) hx hb d_TT_leave_25 (by decide) ?_
      exact tb_reti hx hb hr hlk hK (g, w, lf, ll) hP hD hS (by rw [lv_R, if_neg hq]) d_TT_leave_26


set_option maxHeartbeats 4000000 in
set_option maxRecDepth 100000 in
/-- about -/
theorem c_about (l : Launch) (dC : Nat → ClassId) (dI : Nat → Nat → Nat) (P : Nat → Nat) (C : Nat → ClassId) (N sz : Nat) (fb : Nat → Int32) (g : Nat → Nat) (fn ft : Nat → Int32) (fs fl : Nat → Nat) (w wi now : Nat) (on : Bool) (ts tl lf ll : Nat) (k j : Int32) (hN : N < 2 ^ 31) (hw : w ≤ N) (hg : wfP N g) : ctI l y_TT_about ws_TT_about (rmD 1) (dC, dI) classes (tys_T C) (tt P C N fb g fn ft fs fl w wi now on ts tl lf ll) sz [.ref (P 0), .int k, .int j] (fun (r : Int32) (_ : Unit) => r = ab_F fn ft fl w g k j) (fun _ => (tt P C N fb g fn ft fs fl w wi now on ts tl lf ll)) 0 0 := by
  refine tb_metI (own := R_TT) (by decide) rfl rfl (Nat.le_of_ble_eq_true rfl) [(0, .ref (P 0)), (1, .int k), (2, .int j)] rfl ?_
  intro p e s m below meth c A ls hx hb hr hml hts hown hlk hnm hA hK hP hD hS hl
  refine lv_aload_n hx hb d_TT_about_0 rfl (lv_at hl 0 rfl) ?_
  refine lv_iload_n hx hb d_TT_about_1 rfl (lv_at hl 1 rfl) ?_
  refine tb_calli (c_isWaiting l dC dI P C N s.heap.size fb g fn ft fs fl w wi now on ts tl lf ll k) ⟨hx, hb, hml, hown, hts⟩ (cwV 1 hts g_TT_93 rfl rfl rfl (by decide +kernel) ⟨Nat.le_of_ble_eq_true rfl, Nat.le_of_ble_eq_true rfl⟩) hK hP hD hS hA 0 rfl 0 rfl rfl hl.1 rfl (Nat.le_of_ble_eq_true rfl) d_TT_about_2 ⟨Nat.le_refl _, Nat.le_refl _⟩ (fun r u H locs hwc hP hD hS => ?_)
  subst hwc
  refine lv_if_ne (tgt := 10) hx hb d_TT_about_5 (by decide) (fun c_5 => ?_) (fun c_5 => ?_)
  · have c_5 := bI_1 c_5
    have hkn := cl_nI (iw_ge c_5)
    have hkw : k.toNatClampNeg < w := iw_lt c_5 (by omega)
    refine lv_iload_n hx hb d_TT_about_10 rfl (lv_at hl 2 rfl) ?_
    by_cases e0 : j = 0
    · subst e0
      refine lv_tableIn (tgt := 36) hx hb d_TT_about_11 (by decide) (by decide) rfl (by decide) ?_
      refine lv_aload_n hx hb d_TT_about_36 rfl (lv_at hl 0 rfl) ?_
      refine xg hx hb hts hown hK hP rfl 2 (by decide) rfl fl_TT_26 rfl d_TT_about_37 ?_
      refine lv_aload_n hx hb d_TT_about_40 rfl (lv_at hl 0 rfl) ?_
      refine xg hx hb hts hown hK hP rfl 1 (by decide) rfl fl_TT_22 rfl d_TT_about_41 ?_
      refine lv_iload_n hx hb d_TT_about_44 rfl (lv_at hl 1 rfl) ?_
      refine tp_i (nI k.toNatClampNeg) (hkn) ?_
      refine tb_iald hx hb hK hP 2 1 rfl rfl (by omega) hN d_TT_about_45 ?_
      refine tb_iald hx hb hK hP 3 2 rfl rfl (hg.1 _ (by omega)) hN d_TT_about_46 ?_
      exact tb_reti hx hb hr hlk hK () hP hD hS (by rw [ab_F, if_pos c_5, if_pos rfl]) d_TT_about_47
    by_cases e1 : j = 1
    · subst e1
      refine lv_tableIn (tgt := 48) hx hb d_TT_about_11 (by decide) (by decide) rfl (by decide) ?_
      refine lv_aload_n hx hb d_TT_about_48 rfl (lv_at hl 0 rfl) ?_
      refine xg hx hb hts hown hK hP rfl 3 (by decide) rfl fl_TT_29 rfl d_TT_about_49 ?_
      refine lv_aload_n hx hb d_TT_about_52 rfl (lv_at hl 0 rfl) ?_
      refine xg hx hb hts hown hK hP rfl 1 (by decide) rfl fl_TT_22 rfl d_TT_about_53 ?_
      refine lv_iload_n hx hb d_TT_about_56 rfl (lv_at hl 1 rfl) ?_
      refine tp_i (nI k.toNatClampNeg) (hkn) ?_
      refine tb_iald hx hb hK hP 2 1 rfl rfl (by omega) hN d_TT_about_57 ?_
      refine tb_iald hx hb hK hP 4 3 rfl rfl (hg.1 _ (by omega)) hN d_TT_about_58 ?_
      exact tb_reti hx hb hr hlk hK () hP hD hS (by rw [ab_F, if_pos c_5, if_neg (by decide), if_pos rfl]) d_TT_about_59
    by_cases e2 : j = 2
    · subst e2
      refine lv_tableIn (tgt := 60) hx hb d_TT_about_11 (by decide) (by decide) rfl (by decide) ?_
      refine lv_aload_n hx hb d_TT_about_60 rfl (lv_at hl 0 rfl) ?_
      refine xg hx hb hts hown hK hP rfl 5 (by decide) rfl fl_TT_35 rfl d_TT_about_61 ?_
      refine lv_aload_n hx hb d_TT_about_64 rfl (lv_at hl 0 rfl) ?_
      refine xg hx hb hts hown hK hP rfl 1 (by decide) rfl fl_TT_22 rfl d_TT_about_65 ?_
      refine lv_iload_n hx hb d_TT_about_68 rfl (lv_at hl 1 rfl) ?_
      refine tp_i (nI k.toNatClampNeg) (hkn) ?_
      refine tb_iald hx hb hK hP 2 1 rfl rfl (by omega) hN d_TT_about_69 ?_
      refine tb_iald hx hb hK hP 6 5 rfl rfl (hg.1 _ (by omega)) hN d_TT_about_70 ?_
      exact tb_reti hx hb hr hlk hK () hP hD hS (by rw [ab_F, if_pos c_5, if_neg (by decide), if_neg (by decide), if_pos rfl]) d_TT_about_71
    refine lv_tableOut (tgt := 72) hx hb d_TT_about_11 (by have q0 := lv_neT e0 (a := 0) rfl; have q1 := lv_neT e1 (a := 1) rfl; have q2 := lv_neT e2 (a := 2) rfl; omega) (by decide) ?_
    refine lv_iconst (v := (-1)) hx hb d_TT_about_72 (by decide) ?_
    exact tb_reti hx hb hr hlk hK () hP hD hS (by rw [ab_F, if_pos c_5, if_neg e0, if_neg e1, if_neg e2]) d_TT_about_73
  · have c_5 := bI_0 c_5
    refine lv_iconst (v := (-1)) hx hb d_TT_about_8 (by decide) ?_
    exact tb_reti hx hb hr hlk hK () hP hD hS (by rw [ab_F, if_neg (by rw [c_5]; decide)]) d_TT_about_9


set_option maxHeartbeats 4000000 in
set_option maxRecDepth 100000 in
/-- byteAt -/
theorem c_byteAt (l : Launch) (dC : Nat → ClassId) (dI : Nat → Nat → Nat) (P : Nat → Nat) (C : Nat → ClassId) (N sz : Nat) (fb : Nat → Int32) (g : Nat → Nat) (fn ft : Nat → Int32) (fs fl : Nat → Nat) (w wi now : Nat) (on : Bool) (ts tl lf ll : Nat) (k j : Int32) (hN : N < 2 ^ 31) (hw : w ≤ N) (hg : wfP N g) (hb3 : ∀ i, i < N → fs i + fl i ≤ 512) : ctI l y_TT_byteAt ws_TT_byteAt (rmD 1) (dC, dI) classes (tys_T C) (tt P C N fb g fn ft fs fl w wi now on ts tl lf ll) sz [.ref (P 0), .int k, .int j] (fun (r : Int32) (_ : Unit) => r = ba_F fb fs fl w g k j) (fun _ => (tt P C N fb g fn ft fs fl w wi now on ts tl lf ll)) 0 0 := by
  refine tb_metI (own := R_TT) (by decide) rfl rfl (Nat.le_of_ble_eq_true rfl) [(0, .ref (P 0)), (1, .int k), (2, .int j)] rfl ?_
  intro p e s m below meth c A ls hx hb hr hml hts hown hlk hnm hA hK hP hD hS hl
  refine lv_aload_n hx hb d_TT_byteAt_0 rfl (lv_at hl 0 rfl) ?_
  refine lv_iload_n hx hb d_TT_byteAt_1 rfl (lv_at hl 1 rfl) ?_
  refine tb_calli (c_isWaiting l dC dI P C N s.heap.size fb g fn ft fs fl w wi now on ts tl lf ll k) ⟨hx, hb, hml, hown, hts⟩ (cwV 1 hts g_TT_93 rfl rfl rfl (by decide +kernel) ⟨Nat.le_of_ble_eq_true rfl, Nat.le_of_ble_eq_true rfl⟩) hK hP hD hS hA 0 rfl 0 rfl rfl hl.1 rfl (Nat.le_of_ble_eq_true rfl) d_TT_byteAt_2 ⟨Nat.le_refl _, Nat.le_refl _⟩ (fun r u H locs hwc hP hD hS => ?_)
  subst hwc
  refine lv_if_ne (tgt := 10) hx hb d_TT_byteAt_5 (by decide) (fun c_5 => ?_) (fun c_5 => ?_)
  · have c_5 := bI_1 c_5
    have hkn := cl_nI (iw_ge c_5)
    have hkw : k.toNatClampNeg < w := iw_lt c_5 (by omega)
    refine lv_aload_n hx hb d_TT_byteAt_10 rfl (lv_at hl 0 rfl) ?_
    refine lv_aload_n hx hb d_TT_byteAt_11 rfl (lv_at hl 0 rfl) ?_
    refine xg hx hb hts hown hK hP rfl 4 (by decide) rfl fl_TT_32 rfl d_TT_byteAt_12 ?_
    refine lv_aload_n hx hb d_TT_byteAt_15 rfl (lv_at hl 0 rfl) ?_
    refine xg hx hb hts hown hK hP rfl 1 (by decide) rfl fl_TT_22 rfl d_TT_byteAt_16 ?_
    refine lv_iload_n hx hb d_TT_byteAt_19 rfl (lv_at hl 1 rfl) ?_
    refine tp_i (nI k.toNatClampNeg) (hkn) ?_
    refine tb_iald hx hb hK hP 2 1 rfl rfl (by omega) hN d_TT_byteAt_20 ?_
    refine tb_iald hx hb hK hP 5 4 rfl rfl (hg.1 _ (by omega)) hN d_TT_byteAt_21 ?_
    refine lv_aload_n hx hb d_TT_byteAt_22 rfl (lv_at hl 0 rfl) ?_
    refine xg hx hb hts hown hK hP rfl 5 (by decide) rfl fl_TT_35 rfl d_TT_byteAt_23 ?_
    refine lv_aload_n hx hb d_TT_byteAt_26 rfl (lv_at hl 0 rfl) ?_
    refine xg hx hb hts hown hK hP rfl 1 (by decide) rfl fl_TT_22 rfl d_TT_byteAt_27 ?_
    refine lv_iload_n hx hb d_TT_byteAt_30 rfl (lv_at hl 1 rfl) ?_
    refine tp_i (nI k.toNatClampNeg) (hkn) ?_
    refine tb_iald hx hb hK hP 2 1 rfl rfl (by omega) hN d_TT_byteAt_31 ?_
    refine tb_iald hx hb hK hP 6 5 rfl rfl (hg.1 _ (by omega)) hN d_TT_byteAt_32 ?_
    refine lv_iload_n hx hb d_TT_byteAt_33 rfl (lv_at hl 2 rfl) ?_
    refine tb_calli (c_byteOf l dC dI P C N H.size fb g fn ft fs fl w wi now on ts tl lf ll (fs (g k.toNatClampNeg)) (fl (g k.toNatClampNeg)) j (hb3 _ (hg.1 _ (by omega)))) ⟨hx, hb, hml, hown, hts⟩ (cwV 3 hts g_TT_87 rfl rfl rfl (by decide +kernel) ⟨Nat.le_of_ble_eq_true rfl, Nat.le_of_ble_eq_true rfl⟩) hK hP hD hS hA 0 rfl 0 rfl rfl hl.1 rfl (Nat.le_of_ble_eq_true rfl) d_TT_byteAt_34 ⟨Nat.le_refl _, Nat.le_refl _⟩ (fun r u H locs hwc hP hD hS => ?_)
    subst hwc
    exact tb_reti hx hb hr hlk hK () hP hD hS (by rw [ba_F, if_pos c_5]) d_TT_byteAt_37
  · have c_5 := bI_0 c_5
    refine lv_iconst (v := (-1)) hx hb d_TT_byteAt_8 (by decide) ?_
    exact tb_reti hx hb hr hlk hK () hP hD hS (by rw [ba_F, if_neg (by rw [c_5]; decide)]) d_TT_byteAt_9


set_option maxHeartbeats 4000000 in
set_option maxRecDepth 100000 in
/-- insert -/
theorem c_insert (l : Launch) (dC : Nat → ClassId) (dI : Nat → Nat → Nat) (P : Nat → Nat) (C : Nat → ClassId) (N sz : Nat) (fb : Nat → Int32) (g : Nat → Nat) (fn ft : Nat → Int32) (fs fl : Nat → Nat) (w wi now : Nat) (on : Bool) (ts tl lf ll : Nat) (nu t : Int32) (hN : N < 2 ^ 31) (hw : w ≤ N) (htl : tl ≤ 256) (hg : wfP N g) (hf : ∀ j, j < N → fs j ≤ 512) (hts2 : ts ≤ 512) : ctI l y_TT_insert ws_TT_insert (rmD 3) (dC, dI) classes (tys_T C) (tt P C N fb g fn ft fs fl w wi now on ts tl lf ll) sz [.ref (P 0), .int nu, .int t] (fun (r : Int32) (u : (Nat → Nat) × (Nat → Int32) × (Nat → Int32) × (Nat → Nat) × (Nat → Nat) × Nat × Nat × Nat) => r = nI (wh_F tl now t w N) ∧ u = ir_R N g fn ft fs fl w wi now ts tl nu t) (fun u => (tt P C N fb u.1 u.2.1 u.2.2.1 u.2.2.2.1 u.2.2.2.2.1 u.2.2.2.2.2.1 u.2.2.2.2.2.2.1 now on u.2.2.2.2.2.2.2 0 lf ll)) 0 0 := by
  refine tb_metI (own := R_TT) (by decide) rfl rfl (Nat.le_of_ble_eq_true rfl) [(0, .ref (P 0)), (1, .int nu), (2, .int t)] rfl ?_
  intro p e s m below meth c A ls hx hb hr hml hts hown hlk hnm hA hK hP hD hS hl
  refine lv_aload_n hx hb d_TT_insert_0 rfl (lv_at hl 0 rfl) ?_
  refine lv_iload_n hx hb d_TT_insert_1 rfl (lv_at hl 2 rfl) ?_
  refine tb_calli (c_whetherInserted l dC dI P C N s.heap.size fb g fn ft fs fl w wi now on ts tl lf ll t hN (by omega) (by omega)) ⟨hx, hb, hml, hown, hts⟩ (cwV 1 hts g_TT_45 rfl rfl rfl (by decide +kernel) ⟨Nat.le_of_ble_eq_true rfl, Nat.le_of_ble_eq_true rfl⟩) hK hP hD hS hA 0 rfl 0 rfl rfl hl.1 rfl (Nat.le_of_ble_eq_true rfl) d_TT_insert_2 ⟨Nat.le_refl _, Nat.le_refl _⟩ (fun r u H locs hwc hP hD hS => ?_)
  subst hwc
  refine lv_istore_n (lv' := [(3, .int (nI (wh_F tl now t w N))), (0, .ref (P 0)), (1, .int nu), (2, .int t)]) hx hb d_TT_insert_5 rfl hl (by decide) rfl (fun ls hl => ?_)
  refine lv_iload_n hx hb d_TT_insert_6 rfl (lv_at hl 0 rfl) ?_
  refine lv_if_ne (tgt := 16) hx hb d_TT_insert_7 (by decide) (fun c_7 => ?_) (fun c_7 => ?_)
  · have c_7 : ¬ wh_F tl now t w N = 0 := fun q => c_7 (show nI (wh_F tl now t w N) = nI 0 by rw [q])
    refine lv_aload_n hx hb d_TT_insert_16 rfl (lv_at hl 1 rfl) ?_
    refine lv_iconst (v := nI 0) hx hb d_TT_insert_17 (by decide) ?_
    refine xp (ty := .int) hx hb hts hown hK hP hD hS rfl 11 (by decide) rfl fl_TT_42 rfl (by decide +kernel) (rfl) (rfl) (Nat.le_of_ble_eq_true rfl) (tt P C N fb g fn ft fs fl w wi now on ts 0 lf ll) rfl d_TT_insert_18 (fun H locs hP hD hS => ?_)
    refine lv_iload_n hx hb d_TT_insert_21 rfl (lv_at hl 0 rfl) ?_
    exact tb_reti hx hb hr hlk hK (g, fn, ft, fs, fl, w, wi, ts) hP hD hS ⟨rfl, by rw [ir_R, if_neg c_7]⟩ d_TT_insert_22
  · have c_7 : wh_F tl now t w N = 0 := (nI_eq (by have := wh_le tl now t w N; omega) (by omega)).mp (show nI (wh_F tl now t w N) = nI 0 from c_7)
    have hwN : w < N := wh_w c_7
    refine lv_aload_n hx hb d_TT_insert_10 rfl (lv_at hl 1 rfl) ?_
    refine lv_iload_n hx hb d_TT_insert_11 rfl (lv_at hl 2 rfl) ?_
    refine lv_iload_n hx hb d_TT_insert_12 rfl (lv_at hl 3 rfl) ?_
    refine tb_callv (c_addEntry l dC dI P C N H.size fb g fn ft fs fl w wi now on ts tl lf ll nu t hN (by omega) hg hf (by omega)) ⟨hx, hb, hml, hown, hts⟩ (cwV 2 hts g_TT_49 rfl rfl rfl (by decide +kernel) ⟨Nat.le_of_ble_eq_true rfl, Nat.le_of_ble_eq_true rfl⟩) hK hP hD hS hA 0 rfl 0 rfl rfl hl.1 rfl (Nat.le_of_ble_eq_true rfl) d_TT_insert_13 ⟨Nat.le_refl _, Nat.le_refl _⟩ (fun u H locs hwc hP hD hS => ?_)
    refine lv_aload_n hx hb d_TT_insert_16 rfl (lv_at hl 1 rfl) ?_
    refine lv_iconst (v := nI 0) hx hb d_TT_insert_17 (by decide) ?_
    refine xp (ty := .int) hx hb hts hown hK hP hD hS rfl 11 (by decide) rfl fl_TT_42 rfl (by decide +kernel) (rfl) (rfl) (Nat.le_of_ble_eq_true rfl) (tt P C N fb (st_l (be_F (upd ft (g w) t) (va_up fs (g w) ts)) w g) (upd fn (g w) nu) (upd ft (g w) t) (va_up fs (g w) ts) (va_up fl (g w) tl) (w + 1) (wi + 1) now on (ts + tl) 0 lf ll) rfl d_TT_insert_18 (fun H locs hP hD hS => ?_)
    refine lv_iload_n hx hb d_TT_insert_21 rfl (lv_at hl 0 rfl) ?_
    exact tb_reti hx hb hr hlk hK (st_l (be_F (upd ft (g w) t) (va_up fs (g w) ts)) w g, upd fn (g w) nu, upd ft (g w) t, va_up fs (g w) ts, va_up fl (g w) tl, w + 1, wi + 1, ts + tl) hP hD hS ⟨rfl, by rw [ir_R, if_pos c_7]⟩ d_TT_insert_22
end
section
def cap_F (most : Int32) : Int32 := if nI 1 < (if nI 1024 < most then nI 1024 else most) then (if nI 1024 < most then nI 1024 else most) else nI 1
theorem cap_N (most : Int32) : ∃ N : Nat, 1 ≤ N ∧ N ≤ 1024 ∧ cap_F most = nI N := by
  unfold cap_F
  by_cases h : nI 1024 < most
  · rw [if_pos h, if_pos (by decide)]
    exact ⟨1024, by omega, by omega, rfl⟩
  · rw [if_neg h]
    by_cases h2 : nI 1 < most
    · rw [if_pos h2]
      have h0 : ¬ most < 0 := fun q => by
        have q1 := Int32.lt_iff_toInt_lt.mp q
        have q2 := Int32.lt_iff_toInt_lt.mp h2
        have e1 : (nI 1).toInt = 1 := rfl
        have e0 : (0 : Int32).toInt = 0 := rfl
        omega
      obtain ⟨j, hj, rfl⟩ := nI_of h0
      have a1 := (nI_ltI (by omega) hj).mp h2
      have a2 : ¬ 1024 < j := fun q => h ((nI_ltI (by omega) hj).mpr q)
      exact ⟨j, by omega, by omega, rfl⟩
    · rw [if_neg h2]
      exact ⟨1, by omega, by omega, rfl⟩
def g_id (N : Nat) : Nat → Nat := fun j => if j < N then j else 0
theorem g_id_up (k : Nat) : va_up (g_id k) k k = g_id (k + 1) := by
  funext j
  unfold va_up g_id
  by_cases h : j = k
  · subst h
    rw [if_pos rfl, if_pos (by omega)]
  · rw [if_neg h]
    by_cases h2 : j < k
    · rw [if_pos h2, if_pos (by omega)]
    · rw [if_neg h2, if_neg (by omega)]
theorem g_id_0 : g_id 0 = fun _ => 0 := by
  funext j
  unfold g_id
  rw [if_neg (by omega)]
theorem g_id_wf (N : Nat) : wfP N (g_id N) := by
  refine ⟨fun j hj => ?_, fun i j hi hj e => ?_⟩
  · unfold g_id; rw [if_pos hj]; exact hj
  · unfold g_id at e; rw [if_pos hi, if_pos hj] at e; exact e
abbrev rmI : Room := { frames := 1, cells := 6, slots := 5632, locals := 40 }
set_option maxHeartbeats 4000000 in
set_option maxRecDepth 100000 in
/-- the constructor: six new rows -/
theorem c_init (l : Launch) (dC : Nat → ClassId) (dI : Nat → Nat → Nat) (h0 sz : Nat) (most : Int32) (N : Nat) (hN1 : 1 ≤ N) (hN2 : N ≤ 1024) (hcap : cap_F most = nI N) : Met l y_TT_init ws_TT_init rmI (va_Pc [.ref h0, .int most] (fun U => U.heap.size = sz ∧ va_P (dC, dI) classes [(h0, .inr (0, [.null, .null, .null, .null, .null, .null, .int (nI 0), .int (nI 0), .int (nI 0), .int (bI false), .int (nI 0), .int (nI 0), .int (nI 0), .int (nI 0)]))] U.heap ∧ va_K (dC, dI) classes [] U ∧ va_D (fun _ => True) [(h0, .inr (0, [.null, .null, .null, .null, .null, .null, .int (nI 0), .int (nI 0), .int (nI 0), .int (bI false), .int (nI 0), .int (nI 0), .int (nI 0), .int (nI 0)]))])) ((fun A => va_Qv (fun (u : (Nat → Nat) × (Nat → ClassId)) => u.1 0 = h0) (fun u t => va_P (dC, dI) classes (tt u.1 u.2 N (fun _ => 0) (g_id N) (fun _ => 0) (fun _ => 0) (fun _ => 0) (fun _ => 0) 0 0 0 false 0 0 0 0) t.heap ∧ va_K (dC, dI) classes (tys_T u.2) t ∧ va_D A (tt u.1 u.2 N (fun _ => 0) (g_id N) (fun _ => 0) (fun _ => 0) (fun _ => 0) (fun _ => 0) 0 0 0 false 0 0 0 0)) A) (va_A [(h0, .inr (0, [.null, .null, .null, .null, .null, .null, .int (nI 0), .int (nI 0), .int (nI 0), .int (bI false), .int (nI 0), .int (nI 0), .int (nI 0), .int (nI 0)]))] sz)) 6 5632 (va_A [(h0, .inr (0, [.null, .null, .null, .null, .null, .null, .int (nI 0), .int (nI 0), .int (nI 0), .int (bI false), .int (nI 0), .int (nI 0), .int (nI 0), .int (nI 0)]))] sz) := by
  refine tb_met (own := R_TT) (Qc := (fun A => va_Qv (fun (u : (Nat → Nat) × (Nat → ClassId)) => u.1 0 = h0) (fun u t => va_P (dC, dI) classes (tt u.1 u.2 N (fun _ => 0) (g_id N) (fun _ => 0) (fun _ => 0) (fun _ => 0) (fun _ => 0) 0 0 0 false 0 0 0 0) t.heap ∧ va_K (dC, dI) classes (tys_T u.2) t ∧ va_D A (tt u.1 u.2 N (fun _ => 0) (g_id N) (fun _ => 0) (fun _ => 0) (fun _ => 0) (fun _ => 0) 0 0 0 false 0 0 0 0)) A)) (by decide) rfl rfl (Nat.le_of_ble_eq_true rfl) [(0, .ref h0), (1, .int most)] rfl ?_
  intro p e s m below meth c A ls hx hb hr hml hts hown hlk hnm hA hK hP hD hS hl
  have hin : meth.name = "<init>" := hnm
  refine lv_aload_n hx hb d_TT_init_0 rfl (lv_at hl 0 rfl) ?_
  refine W.objInit hx hb hown (hts _ mo_TT) (hts _ im_Obj) (hts _ co_Obj) rfl (by rw [hml]; exact hl.1) rfl d_TT_init_1 (Nat.le_of_ble_eq_true rfl) (Nat.le_of_ble_eq_true rfl) ?_
  refine W.eq (g2 := F0 m 4 ls []) rfl ?_
  refine lv_iconst (v := nI 1) hx hb d_TT_init_4 (by decide) ?_
  refine lv_iload_n hx hb d_TT_init_5 rfl (lv_at hl 1 rfl) ?_
  refine lv_sipush (v := nI 1024) hx hb d_TT_init_6 (by decide) ?_
  refine va_mmin hx hb (hml.trans hl.1.symm) hown (hts _ mm_min) (hts _ st_min) (hts _ in_Math) (hts _ co_min) (Nat.le_of_ble_eq_true rfl) (Nat.le_of_ble_eq_true rfl) (Nat.zero_le _) (Nat.zero_le _) d_TT_init_9 ?_
  refine va_mmax hx hb (hml.trans hl.1.symm) hown (hts _ mm_max) (hts _ st_max) (hts _ in_Math) (hts _ co_max) (Nat.le_of_ble_eq_true rfl) (Nat.le_of_ble_eq_true rfl) (Nat.zero_le _) (Nat.zero_le _) d_TT_init_12 ?_
  refine tp_i (nI N) hcap ?_
  refine lv_istore_n (lv' := [(2, .int (nI N)), (0, .ref h0), (1, .int most)]) hx hb d_TT_init_15 rfl hl (by decide) rfl (fun ls hl => ?_)
  refine lv_aload_n hx hb d_TT_init_16 rfl (lv_at hl 1 rfl) ?_
  refine lv_sipush (v := nI 512) hx hb d_TT_init_17 (by decide) ?_
  refine va_newa (D := (dC, dI)) (atype := .byte) (ty := .byte) (N' := 512) (a0 := (512, .inl (fun _ => 0))) hx hb (hts _ ac_byte) rfl hK hP hD hS hA (fun _ => rfl) (by decide) (nI_clamp (by omega)) (by simp [componentBytes]; try omega) (Nat.le_of_ble_eq_true rfl) (by show 0 + 512 ≤ 5632; omega) d_TT_init_20 (fun q1 c1 H hK hP hD hS => ?_)
  have hK : va_K (dC, dI) classes [(c1, .byte)] s := hK
  have hP : va_P (dC, dI) classes [(h0, .inr (0, [.null, .null, .null, .null, .null, .null, .int (nI 0), .int (nI 0), .int (nI 0), .int (bI false), .int (nI 0), .int (nI 0), .int (nI 0), .int (nI 0)])), (q1, .inl (c1, 512, .inl (fun _ => 0)))] H := hP
  have hD : va_D A [(h0, .inr (0, [.null, .null, .null, .null, .null, .null, .int (nI 0), .int (nI 0), .int (nI 0), .int (bI false), .int (nI 0), .int (nI 0), .int (nI 0), .int (nI 0)])), (q1, .inl (c1, 512, .inl (fun _ => 0)))] := hD
  refine va_putF (D := (dC, dI)) (ci := 0) (v := .ref q1) (ty := .array .byte) (C := R_TT) (T := F_TT) (N := 14) hx hb hts i_TT t_TT t_TT_ok n_TT hown hK hP hD hS 0 rfl rfl 0 (by decide) (hts _ fl_TT_18) (fun _ h9 => h9) rfl hin rfl (by decide +kernel) rfl rfl (Nat.le_of_ble_eq_true rfl) d_TT_init_22 (fun H locs hP hD hS => ?_)
  have hP : va_P (dC, dI) classes [(h0, .inr (0, [.ref q1, .null, .null, .null, .null, .null, .int (nI 0), .int (nI 0), .int (nI 0), .int (bI false), .int (nI 0), .int (nI 0), .int (nI 0), .int (nI 0)])), (q1, .inl (c1, 512, .inl (fun _ => 0)))] H := hP
  have hD : va_D A [(h0, .inr (0, [.ref q1, .null, .null, .null, .null, .null, .int (nI 0), .int (nI 0), .int (nI 0), .int (bI false), .int (nI 0), .int (nI 0), .int (nI 0), .int (nI 0)])), (q1, .inl (c1, 512, .inl (fun _ => 0)))] := hD
  refine lv_aload_n hx hb d_TT_init_25 rfl (lv_at hl 1 rfl) ?_
  refine lv_iload_n hx hb d_TT_init_26 rfl (lv_at hl 0 rfl) ?_
  refine va_newa (D := (dC, dI)) (atype := .int) (ty := .int) (N' := N) (a0 := (N, .inl (fun i => nI ((fun _ => 0) i)))) hx hb (hts _ ac_int) rfl hK hP hD hS hA (fun _ => rfl) (nI_pos (by omega)) (nI_clamp (by omega)) (by simp [componentBytes]; try omega) (Nat.le_of_ble_eq_true rfl) (by show 0 + 512 + N ≤ 5632; omega) d_TT_init_27 (fun q2 c2 H hK hP hD hS => ?_)
  have hK : va_K (dC, dI) classes [(c1, .byte), (c2, .int)] s := hK
  have hP : va_P (dC, dI) classes [(h0, .inr (0, [.ref q1, .null, .null, .null, .null, .null, .int (nI 0), .int (nI 0), .int (nI 0), .int (bI false), .int (nI 0), .int (nI 0), .int (nI 0), .int (nI 0)])), (q1, .inl (c1, 512, .inl (fun _ => 0))), (q2, .inl (c2, N, .inl (fun i => nI ((fun _ => 0) i))))] H := hP
  have hD : va_D A [(h0, .inr (0, [.ref q1, .null, .null, .null, .null, .null, .int (nI 0), .int (nI 0), .int (nI 0), .int (bI false), .int (nI 0), .int (nI 0), .int (nI 0), .int (nI 0)])), (q1, .inl (c1, 512, .inl (fun _ => 0))), (q2, .inl (c2, N, .inl (fun i => nI ((fun _ => 0) i))))] := hD
  refine va_putF (D := (dC, dI)) (ci := 0) (v := .ref q2) (ty := .array .int) (C := R_TT) (T := F_TT) (N := 14) hx hb hts i_TT t_TT t_TT_ok n_TT hown hK hP hD hS 0 rfl rfl 1 (by decide) (hts _ fl_TT_22) (fun _ h9 => h9) rfl hin rfl (by decide +kernel) rfl rfl (Nat.le_of_ble_eq_true rfl) d_TT_init_29 (fun H locs hP hD hS => ?_)
  have hP : va_P (dC, dI) classes [(h0, .inr (0, [.ref q1, .ref q2, .null, .null, .null, .null, .int (nI 0), .int (nI 0), .int (nI 0), .int (bI false), .int (nI 0), .int (nI 0), .int (nI 0), .int (nI 0)])), (q1, .inl (c1, 512, .inl (fun _ => 0))), (q2, .inl (c2, N, .inl (fun i => nI ((fun _ => 0) i))))] H := hP
  have hD : va_D A [(h0, .inr (0, [.ref q1, .ref q2, .null, .null, .null, .null, .int (nI 0), .int (nI 0), .int (nI 0), .int (bI false), .int (nI 0), .int (nI 0), .int (nI 0), .int (nI 0)])), (q1, .inl (c1, 512, .inl (fun _ => 0))), (q2, .inl (c2, N, .inl (fun i => nI ((fun _ => 0) i))))] := hD
  refine lv_aload_n hx hb d_TT_init_32 rfl (lv_at hl 1 rfl) ?_
  refine lv_iload_n hx hb d_TT_init_33 rfl (lv_at hl 0 rfl) ?_
  refine va_newa (D := (dC, dI)) (atype := .int) (ty := .int) (N' := N) (a0 := (N, .inl (fun _ => 0))) hx hb (hts _ ac_int) rfl hK hP hD hS hA (fun _ => rfl) (nI_pos (by omega)) (nI_clamp (by omega)) (by simp [componentBytes]; try omega) (Nat.le_of_ble_eq_true rfl) (by show 0 + 512 + N + N ≤ 5632; omega) d_TT_init_34 (fun q3 c3 H hK hP hD hS => ?_)
  have hK : va_K (dC, dI) classes [(c1, .byte), (c2, .int), (c3, .int)] s := hK
  have hP : va_P (dC, dI) classes [(h0, .inr (0, [.ref q1, .ref q2, .null, .null, .null, .null, .int (nI 0), .int (nI 0), .int (nI 0), .int (bI false), .int (nI 0), .int (nI 0), .int (nI 0), .int (nI 0)])), (q1, .inl (c1, 512, .inl (fun _ => 0))), (q2, .inl (c2, N, .inl (fun i => nI ((fun _ => 0) i)))), (q3, .inl (c3, N, .inl (fun _ => 0)))] H := hP
  have hD : va_D A [(h0, .inr (0, [.ref q1, .ref q2, .null, .null, .null, .null, .int (nI 0), .int (nI 0), .int (nI 0), .int (bI false), .int (nI 0), .int (nI 0), .int (nI 0), .int (nI 0)])), (q1, .inl (c1, 512, .inl (fun _ => 0))), (q2, .inl (c2, N, .inl (fun i => nI ((fun _ => 0) i)))), (q3, .inl (c3, N, .inl (fun _ => 0)))] := hD
  refine va_putF (D := (dC, dI)) (ci := 0) (v := .ref q3) (ty := .array .int) (C := R_TT) (T := F_TT) (N := 14) hx hb hts i_TT t_TT t_TT_ok n_TT hown hK hP hD hS 0 rfl rfl 2 (by decide) (hts _ fl_TT_26) (fun _ h9 => h9) rfl hin rfl (by decide +kernel) rfl rfl (Nat.le_of_ble_eq_true rfl) d_TT_init_36 (fun H locs hP hD hS => ?_)
  have hP : va_P (dC, dI) classes [(h0, .inr (0, [.ref q1, .ref q2, .ref q3, .null, .null, .null, .int (nI 0), .int (nI 0), .int (nI 0), .int (bI false), .int (nI 0), .int (nI 0), .int (nI 0), .int (nI 0)])), (q1, .inl (c1, 512, .inl (fun _ => 0))), (q2, .inl (c2, N, .inl (fun i => nI ((fun _ => 0) i)))), (q3, .inl (c3, N, .inl (fun _ => 0)))] H := hP
  have hD : va_D A [(h0, .inr (0, [.ref q1, .ref q2, .ref q3, .null, .null, .null, .int (nI 0), .int (nI 0), .int (nI 0), .int (bI false), .int (nI 0), .int (nI 0), .int (nI 0), .int (nI 0)])), (q1, .inl (c1, 512, .inl (fun _ => 0))), (q2, .inl (c2, N, .inl (fun i => nI ((fun _ => 0) i)))), (q3, .inl (c3, N, .inl (fun _ => 0)))] := hD
  refine lv_aload_n hx hb d_TT_init_39 rfl (lv_at hl 1 rfl) ?_
  refine lv_iload_n hx hb d_TT_init_40 rfl (lv_at hl 0 rfl) ?_
  refine va_newa (D := (dC, dI)) (atype := .int) (ty := .int) (N' := N) (a0 := (N, .inl (fun _ => 0))) hx hb (hts _ ac_int) rfl hK hP hD hS hA (fun _ => rfl) (nI_pos (by omega)) (nI_clamp (by omega)) (by simp [componentBytes]; try omega) (Nat.le_of_ble_eq_true rfl) (by show 0 + 512 + N + N + N ≤ 5632; omega) d_TT_init_41 (fun q4 c4 H hK hP hD hS => ?_)
  have hK : va_K (dC, dI) classes [(c1, .byte), (c2, .int), (c3, .int), (c4, .int)] s := hK
  have hP : va_P (dC, dI) classes [(h0, .inr (0, [.ref q1, .ref q2, .ref q3, .null, .null, .null, .int (nI 0), .int (nI 0), .int (nI 0), .int (bI false), .int (nI 0), .int (nI 0), .int (nI 0), .int (nI 0)])), (q1, .inl (c1, 512, .inl (fun _ => 0))), (q2, .inl (c2, N, .inl (fun i => nI ((fun _ => 0) i)))), (q3, .inl (c3, N, .inl (fun _ => 0))), (q4, .inl (c4, N, .inl (fun _ => 0)))] H := hP
  have hD : va_D A [(h0, .inr (0, [.ref q1, .ref q2, .ref q3, .null, .null, .null, .int (nI 0), .int (nI 0), .int (nI 0), .int (bI false), .int (nI 0), .int (nI 0), .int (nI 0), .int (nI 0)])), (q1, .inl (c1, 512, .inl (fun _ => 0))), (q2, .inl (c2, N, .inl (fun i => nI ((fun _ => 0) i)))), (q3, .inl (c3, N, .inl (fun _ => 0))), (q4, .inl (c4, N, .inl (fun _ => 0)))] := hD
  refine va_putF (D := (dC, dI)) (ci := 0) (v := .ref q4) (ty := .array .int) (C := R_TT) (T := F_TT) (N := 14) hx hb hts i_TT t_TT t_TT_ok n_TT hown hK hP hD hS 0 rfl rfl 3 (by decide) (hts _ fl_TT_29) (fun _ h9 => h9) rfl hin rfl (by decide +kernel) rfl rfl (Nat.le_of_ble_eq_true rfl) d_TT_init_43 (fun H locs hP hD hS => ?_)
  have hP : va_P (dC, dI) classes [(h0, .inr (0, [.ref q1, .ref q2, .ref q3, .ref q4, .null, .null, .int (nI 0), .int (nI 0), .int (nI 0), .int (bI false), .int (nI 0), .int (nI 0), .int (nI 0), .int (nI 0)])), (q1, .inl (c1, 512, .inl (fun _ => 0))), (q2, .inl (c2, N, .inl (fun i => nI ((fun _ => 0) i)))), (q3, .inl (c3, N, .inl (fun _ => 0))), (q4, .inl (c4, N, .inl (fun _ => 0)))] H := hP
  have hD : va_D A [(h0, .inr (0, [.ref q1, .ref q2, .ref q3, .ref q4, .null, .null, .int (nI 0), .int (nI 0), .int (nI 0), .int (bI false), .int (nI 0), .int (nI 0), .int (nI 0), .int (nI 0)])), (q1, .inl (c1, 512, .inl (fun _ => 0))), (q2, .inl (c2, N, .inl (fun i => nI ((fun _ => 0) i)))), (q3, .inl (c3, N, .inl (fun _ => 0))), (q4, .inl (c4, N, .inl (fun _ => 0)))] := hD
  refine lv_aload_n hx hb d_TT_init_46 rfl (lv_at hl 1 rfl) ?_
  refine lv_iload_n hx hb d_TT_init_47 rfl (lv_at hl 0 rfl) ?_
  refine va_newa (D := (dC, dI)) (atype := .int) (ty := .int) (N' := N) (a0 := (N, .inl (fun i => nI ((fun _ => 0) i)))) hx hb (hts _ ac_int) rfl hK hP hD hS hA (fun _ => rfl) (nI_pos (by omega)) (nI_clamp (by omega)) (by simp [componentBytes]; try omega) (Nat.le_of_ble_eq_true rfl) (by show 0 + 512 + N + N + N + N ≤ 5632; omega) d_TT_init_48 (fun q5 c5 H hK hP hD hS => ?_)
  have hK : va_K (dC, dI) classes [(c1, .byte), (c2, .int), (c3, .int), (c4, .int), (c5, .int)] s := hK
  have hP : va_P (dC, dI) classes [(h0, .inr (0, [.ref q1, .ref q2, .ref q3, .ref q4, .null, .null, .int (nI 0), .int (nI 0), .int (nI 0), .int (bI false), .int (nI 0), .int (nI 0), .int (nI 0), .int (nI 0)])), (q1, .inl (c1, 512, .inl (fun _ => 0))), (q2, .inl (c2, N, .inl (fun i => nI ((fun _ => 0) i)))), (q3, .inl (c3, N, .inl (fun _ => 0))), (q4, .inl (c4, N, .inl (fun _ => 0))), (q5, .inl (c5, N, .inl (fun i => nI ((fun _ => 0) i))))] H := hP
  have hD : va_D A [(h0, .inr (0, [.ref q1, .ref q2, .ref q3, .ref q4, .null, .null, .int (nI 0), .int (nI 0), .int (nI 0), .int (bI false), .int (nI 0), .int (nI 0), .int (nI 0), .int (nI 0)])), (q1, .inl (c1, 512, .inl (fun _ => 0))), (q2, .inl (c2, N, .inl (fun i => nI ((fun _ => 0) i)))), (q3, .inl (c3, N, .inl (fun _ => 0))), (q4, .inl (c4, N, .inl (fun _ => 0))), (q5, .inl (c5, N, .inl (fun i => nI ((fun _ => 0) i))))] := hD
  refine va_putF (D := (dC, dI)) (ci := 0) (v := .ref q5) (ty := .array .int) (C := R_TT) (T := F_TT) (N := 14) hx hb hts i_TT t_TT t_TT_ok n_TT hown hK hP hD hS 0 rfl rfl 4 (by decide) (hts _ fl_TT_32) (fun _ h9 => h9) rfl hin rfl (by decide +kernel) rfl rfl (Nat.le_of_ble_eq_true rfl) d_TT_init_50 (fun H locs hP hD hS => ?_)
  have hP : va_P (dC, dI) classes [(h0, .inr (0, [.ref q1, .ref q2, .ref q3, .ref q4, .ref q5, .null, .int (nI 0), .int (nI 0), .int (nI 0), .int (bI false), .int (nI 0), .int (nI 0), .int (nI 0), .int (nI 0)])), (q1, .inl (c1, 512, .inl (fun _ => 0))), (q2, .inl (c2, N, .inl (fun i => nI ((fun _ => 0) i)))), (q3, .inl (c3, N, .inl (fun _ => 0))), (q4, .inl (c4, N, .inl (fun _ => 0))), (q5, .inl (c5, N, .inl (fun i => nI ((fun _ => 0) i))))] H := hP
  have hD : va_D A [(h0, .inr (0, [.ref q1, .ref q2, .ref q3, .ref q4, .ref q5, .null, .int (nI 0), .int (nI 0), .int (nI 0), .int (bI false), .int (nI 0), .int (nI 0), .int (nI 0), .int (nI 0)])), (q1, .inl (c1, 512, .inl (fun _ => 0))), (q2, .inl (c2, N, .inl (fun i => nI ((fun _ => 0) i)))), (q3, .inl (c3, N, .inl (fun _ => 0))), (q4, .inl (c4, N, .inl (fun _ => 0))), (q5, .inl (c5, N, .inl (fun i => nI ((fun _ => 0) i))))] := hD
  refine lv_aload_n hx hb d_TT_init_53 rfl (lv_at hl 1 rfl) ?_
  refine lv_iload_n hx hb d_TT_init_54 rfl (lv_at hl 0 rfl) ?_
  refine va_newa (D := (dC, dI)) (atype := .int) (ty := .int) (N' := N) (a0 := (N, .inl (fun i => nI ((fun _ => 0) i)))) hx hb (hts _ ac_int) rfl hK hP hD hS hA (fun _ => rfl) (nI_pos (by omega)) (nI_clamp (by omega)) (by simp [componentBytes]; try omega) (Nat.le_of_ble_eq_true rfl) (by show 0 + 512 + N + N + N + N + N ≤ 5632; omega) d_TT_init_55 (fun q6 c6 H hK hP hD hS => ?_)
  have hK : va_K (dC, dI) classes [(c1, .byte), (c2, .int), (c3, .int), (c4, .int), (c5, .int), (c6, .int)] s := hK
  have hP : va_P (dC, dI) classes [(h0, .inr (0, [.ref q1, .ref q2, .ref q3, .ref q4, .ref q5, .null, .int (nI 0), .int (nI 0), .int (nI 0), .int (bI false), .int (nI 0), .int (nI 0), .int (nI 0), .int (nI 0)])), (q1, .inl (c1, 512, .inl (fun _ => 0))), (q2, .inl (c2, N, .inl (fun i => nI ((fun _ => 0) i)))), (q3, .inl (c3, N, .inl (fun _ => 0))), (q4, .inl (c4, N, .inl (fun _ => 0))), (q5, .inl (c5, N, .inl (fun i => nI ((fun _ => 0) i)))), (q6, .inl (c6, N, .inl (fun i => nI ((fun _ => 0) i))))] H := hP
  have hD : va_D A [(h0, .inr (0, [.ref q1, .ref q2, .ref q3, .ref q4, .ref q5, .null, .int (nI 0), .int (nI 0), .int (nI 0), .int (bI false), .int (nI 0), .int (nI 0), .int (nI 0), .int (nI 0)])), (q1, .inl (c1, 512, .inl (fun _ => 0))), (q2, .inl (c2, N, .inl (fun i => nI ((fun _ => 0) i)))), (q3, .inl (c3, N, .inl (fun _ => 0))), (q4, .inl (c4, N, .inl (fun _ => 0))), (q5, .inl (c5, N, .inl (fun i => nI ((fun _ => 0) i)))), (q6, .inl (c6, N, .inl (fun i => nI ((fun _ => 0) i))))] := hD
  refine va_putF (D := (dC, dI)) (ci := 0) (v := .ref q6) (ty := .array .int) (C := R_TT) (T := F_TT) (N := 14) hx hb hts i_TT t_TT t_TT_ok n_TT hown hK hP hD hS 0 rfl rfl 5 (by decide) (hts _ fl_TT_35) (fun _ h9 => h9) rfl hin rfl (by decide +kernel) rfl rfl (Nat.le_of_ble_eq_true rfl) d_TT_init_57 (fun H locs hP hD hS => ?_)
  have hP : va_P (dC, dI) classes [(h0, .inr (0, [.ref q1, .ref q2, .ref q3, .ref q4, .ref q5, .ref q6, .int (nI 0), .int (nI 0), .int (nI 0), .int (bI false), .int (nI 0), .int (nI 0), .int (nI 0), .int (nI 0)])), (q1, .inl (c1, 512, .inl (fun _ => 0))), (q2, .inl (c2, N, .inl (fun i => nI ((fun _ => 0) i)))), (q3, .inl (c3, N, .inl (fun _ => 0))), (q4, .inl (c4, N, .inl (fun _ => 0))), (q5, .inl (c5, N, .inl (fun i => nI ((fun _ => 0) i)))), (q6, .inl (c6, N, .inl (fun i => nI ((fun _ => 0) i))))] H := hP
  have hD : va_D A [(h0, .inr (0, [.ref q1, .ref q2, .ref q3, .ref q4, .ref q5, .ref q6, .int (nI 0), .int (nI 0), .int (nI 0), .int (bI false), .int (nI 0), .int (nI 0), .int (nI 0), .int (nI 0)])), (q1, .inl (c1, 512, .inl (fun _ => 0))), (q2, .inl (c2, N, .inl (fun i => nI ((fun _ => 0) i)))), (q3, .inl (c3, N, .inl (fun _ => 0))), (q4, .inl (c4, N, .inl (fun _ => 0))), (q5, .inl (c5, N, .inl (fun i => nI ((fun _ => 0) i)))), (q6, .inl (c6, N, .inl (fun i => nI ((fun _ => 0) i))))] := hD
  obtain ⟨P, hPe⟩ : ∃ P : Nat → Nat, P = fun k => match k with | 0 => h0 | 1 => q1 | 2 => q2 | 3 => q3 | 4 => q4 | 5 => q5 | _ => q6 := ⟨_, rfl⟩
  obtain ⟨C, hCe⟩ : ∃ C : Nat → ClassId, C = fun k => match k with | 0 => c1 | 1 => c2 | 2 => c3 | 3 => c4 | 4 => c5 | _ => c6 := ⟨_, rfl⟩
  have hP : va_P (dC, dI) classes (tt P C N (fun _ => 0) (g_id 0) (fun _ => 0) (fun _ => 0) (fun _ => 0) (fun _ => 0) 0 0 0 false 0 0 0 0) H := by rw [hPe, hCe, g_id_0]; exact hP
  have hD : va_D A (tt P C N (fun _ => 0) (g_id 0) (fun _ => 0) (fun _ => 0) (fun _ => 0) (fun _ => 0) 0 0 0 false 0 0 0 0) := by rw [hPe, hCe, g_id_0]; exact hD
  have hK : va_K (dC, dI) classes (tys_T C) s := by rw [hCe]; exact hK
  have hP0 : P 0 = h0 := by rw [hPe]; rfl
  have hl : lv_has ls 4 [(2, .int (nI N)), (0, .ref (P 0)), (1, .int most)] := by rw [hP0]; exact hl
  clear hPe hCe
  refine lv_iconst (v := nI 0) hx hb d_TT_init_60 (by decide) ?_
  refine lv_istore_n (lv' := [(3, .int (nI 0)), (2, .int (nI N)), (0, .ref (P 0)), (1, .int most)]) hx hb d_TT_init_61 rfl hl (by decide) rfl (fun ls hl => ?_)
  refine W.widen (k := 6) (n := 5632) (by omega) (by omega) ?_
  have loop : ∀ (n k : Nat) (H : Heap) (locs : List Loc) (ls : Array Slot), k + n = N → va_P (dC, dI) classes (tt P C N (fun _ => 0) (g_id k) (fun _ => 0) (fun _ => 0) (fun _ => 0) (fun _ => 0) 0 0 0 false 0 0 0 0) H → va_D A (tt P C N (fun _ => 0) (g_id k) (fun _ => 0) (fun _ => 0) (fun _ => 0) (fun _ => 0) 0 0 0 false 0 0 0 0) → va_S A s.heap H locs → lv_has ls 4 [(3, .int (nI k)), (2, .int (nI N)), (0, .ref (P 0)), (1, .int most)] → W p l e rmI s m [Value.ref h0, .int most].toArray below meth c H locs 6 5632 (MQ below ((fun A => va_Qv (fun (u : (Nat → Nat) × (Nat → ClassId)) => u.1 0 = h0) (fun u t => va_P (dC, dI) classes (tt u.1 u.2 N (fun _ => 0) (g_id N) (fun _ => 0) (fun _ => 0) (fun _ => 0) (fun _ => 0) 0 0 0 false 0 0 0 0) t.heap ∧ va_K (dC, dI) classes (tys_T u.2) t ∧ va_D A (tt u.1 u.2 N (fun _ => 0) (g_id N) (fun _ => 0) (fun _ => 0) (fun _ => 0) (fun _ => 0) 0 0 0 false 0 0 0 0)) A) A) [Value.ref h0, .int most].toArray s 6 5632 A) (F0 m 62 ls []) := by
    clear hP hD hS hl
    intro n
    induction n with
    | zero =>
      intro k H locs ls hn hP hD hS hl
      refine lv_iload_n hx hb d_TT_init_62 rfl (lv_at hl 0 rfl) ?_
      refine lv_iload_n hx hb d_TT_init_63 rfl (lv_at hl 1 rfl) ?_
      refine lv_icmp_ge (tgt := 80) hx hb d_TT_init_64 (by decide) (fun c_64 => ?_) (fun c_64 => ?_)
      · have hk : k = N := by omega
        subst hk
        exact W.vret hx hb hr (fun t ht hW => ⟨⟨(P, C), rfl, hP0, by rw [ht]; exact hP, va_K.moved hW.alike hK, hD⟩, hS.F ht⟩) hS.2.2 d_TT_init_80 hlk
      · exact absurd (nI_le (by omega) (by omega)) c_64
    | succ n ih =>
      intro k H locs ls hn hP hD hS hl
      refine lv_iload_n hx hb d_TT_init_62 rfl (lv_at hl 0 rfl) ?_
      refine lv_iload_n hx hb d_TT_init_63 rfl (lv_at hl 1 rfl) ?_
      refine lv_icmp_ge (tgt := 80) hx hb d_TT_init_64 (by decide) (fun c_64 => ?_) (fun c_64 => ?_)
      · exact absurd ((nI_leI (by omega) (by omega)).mp c_64) (by omega)
      · refine lv_aload_n hx hb d_TT_init_67 rfl (lv_at hl 2 rfl) ?_
        refine xg hx hb hts hown hK hP rfl 1 (by decide) rfl fl_TT_22 rfl d_TT_init_68 ?_
        refine lv_iload_n hx hb d_TT_init_71 rfl (lv_at hl 0 rfl) ?_
        refine lv_iload_n hx hb d_TT_init_72 rfl (lv_at hl 0 rfl) ?_
        refine tb_iastN hx hb hK hP hD hS 2 1 rfl rfl (by omega) (by omega) (tt P C N (fun _ => 0) (va_up (g_id k) k k) (fun _ => 0) (fun _ => 0) (fun _ => 0) (fun _ => 0) 0 0 0 false 0 0 0 0) rfl d_TT_init_73 (fun H locs hP hD hS => ?_)
        rw [g_id_up] at hP hD
        refine lv_iinc (v := nI (k + 1)) (lv' := [(3, .int (nI (k + 1))), (2, .int (nI N)), (0, .ref (P 0)), (1, .int most)]) hx hb d_TT_init_74 hl (k := 0) rfl (nI_1 _) (by decide) rfl (fun ls hl => ?_)
        refine lv_goto (tgt := 62) hx hb d_TT_init_77 (by decide) ?_
        exact ih _ _ _ _ (by omega) hP hD hS (lv_sub hl [0, 1, 2, 3] rfl)
  exact loop N 0 _ _ _ (by omega) hP hD hS (lv_sub hl [0, 1, 2, 3] rfl)
end
section
/-! The timetable as the document has it: entries in order, by time and by when they came. -/
abbrev Ent : Type := Int32 × Int32 × List Int32 × Nat
def e_lt (a b : Ent) : Bool := decide (a.2.1 < b.2.1) || (decide (a.2.1 = b.2.1) && decide (a.2.2.2 < b.2.2.2))
theorem e_lt_iff (a b : Ent) : e_lt a b = true ↔ (a.2.1.toInt < b.2.1.toInt ∨ (a.2.1.toInt = b.2.1.toInt ∧ a.2.2.2 < b.2.2.2)) := by
  unfold e_lt
  rw [Bool.or_eq_true, Bool.and_eq_true, decide_eq_true_eq, decide_eq_true_eq, decide_eq_true_eq, Int32.lt_iff_toInt_lt, Int32.toInt_inj]
theorem e_ge_iff (a b : Ent) : e_lt b a = false ↔ (a.2.1.toInt < b.2.1.toInt ∨ (a.2.1.toInt = b.2.1.toInt ∧ a.2.2.2 ≤ b.2.2.2)) := by
  rw [← Bool.not_eq_true, e_lt_iff]
  omega
abbrev e_srt (L : List Ent) : Prop := L.Pairwise (fun a b => e_lt b a = false)
def a_in (e : Ent) : List Ent → List Ent
  | [] => [e]
  | x :: r => if e_lt e x then e :: x :: r else x :: a_in e r
def a_so : List Ent → List Ent
  | [] => []
  | x :: r => a_in x (a_so r)
theorem a_in_perm (e : Ent) : ∀ L : List Ent, (a_in e L).Perm (e :: L) := by
  intro L
  induction L with
  | nil => exact List.Perm.refl _
  | cons x r ih =>
    rw [a_in]
    split
    · exact List.Perm.refl _
    · exact (List.Perm.cons x ih).trans (List.Perm.swap _ _ _)
theorem a_so_perm : ∀ L : List Ent, (a_so L).Perm L := by
  intro L
  induction L with
  | nil => exact List.Perm.refl _
  | cons x r ih => exact (a_in_perm x (a_so r)).trans (List.Perm.cons x ih)
theorem a_in_srt (e : Ent) : ∀ L : List Ent, e_srt L → e_srt (a_in e L) := by
  intro L
  induction L with
  | nil => intro _; exact List.pairwise_singleton _ _
  | cons x r ih =>
    intro h
    obtain ⟨h1, h2⟩ := List.pairwise_cons.mp h
    rw [a_in]
    split
    · rename_i hc
      refine List.pairwise_cons.mpr ⟨fun y hy => ?_, h⟩
      have hx := (e_lt_iff e x).mp hc
      rcases List.mem_cons.mp hy with rfl | hy
      · rw [e_ge_iff]; omega
      · have := (e_ge_iff x y).mp (h1 y hy)
        rw [e_ge_iff]; omega
    · rename_i hc
      have hx : e_lt e x = false := by simpa using hc
      refine List.pairwise_cons.mpr ⟨fun y hy => ?_, ih h2⟩
      rcases List.mem_cons.mp ((a_in_perm e r).mem_iff.mp hy) with rfl | hy
      · exact hx
      · exact h1 y hy
theorem a_so_srt : ∀ L : List Ent, e_srt (a_so L) := by
  intro L
  induction L with
  | nil => exact List.Pairwise.nil
  | cons x r ih => exact a_in_srt x _ ih
/-- no two came together -/
abbrev e_nd (L : List Ent) : Prop := L.Pairwise (fun a b => a.2.2.2 ≠ b.2.2.2)
theorem e_nd_inj {L : List Ent} (h : e_nd L) {a b : Ent} (ha : a ∈ L) (hb : b ∈ L) (e : a.2.2.2 = b.2.2.2) : a = b := by
  induction L with
  | nil => cases ha
  | cons x r ih =>
    obtain ⟨h1, h2⟩ := List.pairwise_cons.mp h
    rcases List.mem_cons.mp ha with h3 | h3 <;> rcases List.mem_cons.mp hb with h4 | h4
    · rw [h3, h4]
    · subst h3; exact absurd e (h1 b h4)
    · subst h4; exact absurd e.symm (h1 a h3)
    · exact ih h2 h3 h4
theorem a_so_eq {L M : List Ent} (hp : M.Perm L) (hs : e_srt M) (hn : e_nd L) : M = a_so L := by
  refine List.Perm.eq_of_pairwise (le := fun a b => e_lt b a = false) (fun a b ha hb h1 h2 => ?_) hs (a_so_srt L) (hp.trans (a_so_perm L).symm)
  have h1 := (e_ge_iff a b).mp h1
  have h2 := (e_ge_iff b a).mp h2
  exact e_nd_inj hn (hp.mem_iff.mp ha) ((a_so_perm L).mem_iff.mp hb) (by omega)
/-- bytes of a row -/
def by_L (fb : Nat → Int32) (a n : Nat) : List Int32 := (List.range n).map (fun j => fb (a + j) &&& nI 255)
theorem by_len (fb : Nat → Int32) (a n : Nat) : (by_L fb a n).length = n := by simp [by_L]
theorem by_get {fb : Nat → Int32} {a n j : Nat} (h : j < n) : (by_L fb a n)[j]? = some (fb (a + j) &&& nI 255) := by simp [by_L, h]
theorem by_congr {fb fb2 : Nat → Int32} {a n : Nat} (h : ∀ j, a ≤ j → j < a + n → fb j = fb2 j) : by_L fb a n = by_L fb2 a n := by
  unfold by_L
  refine List.map_congr_left (fun j hj => ?_)
  have := List.mem_range.mp hj
  rw [h (a + j) (by omega) (by omega)]
theorem by_succ (fb : Nat → Int32) (a n : Nat) : by_L fb a (n + 1) = by_L fb a n ++ [fb (a + n) &&& nI 255] := by simp [by_L, List.range_succ]
def a_at (L : List Int32) (j : Int32) : Int32 := if j < 0 then -1 else match L[j.toNatClampNeg]? with
  | some b => b
  | none => -1
theorem bo_at (fb : Nat → Int32) {a n : Nat} (hn : n < 2 ^ 31) (j : Int32) : bo_F fb a n j = a_at (by_L fb a n) j := by
  unfold a_at
  by_cases h : j < 0
  · rw [bo_0 h, if_pos h]
  · rw [if_neg h]
    by_cases h2 : nI n ≤ j
    · have hj := cl_nI h
      have h3 : n ≤ j.toNatClampNeg := by
        obtain ⟨q, hq, rfl⟩ := nI_of h
        rw [nI_clamp hq]
        exact (nI_leI hn hq).mp h2
      rw [bo_1 h2, List.getElem?_eq_none (by rw [by_len]; exact h3)]
    · rw [bo_2 h h2, by_get (cl_lt h (Int32.not_le.mp h2) hn)]
def en (fb fn ft : Nat → Int32) (fs fl sq : Nat → Nat) (i : Nat) : Ent := (fn i, ft i, by_L fb (fs i) (fl i), sq i)
end
section
/-! The program's rows hold the timetable (E entries, T text, L what left) behind c calls. -/
theorem bp_b (x : Int32) : x.toInt8.toInt32 &&& 255 = x &&& 255 := by
  apply Int32.toBitVec_inj.mp
  rw [Int32.toBitVec_and, Int32.toBitVec_and, Int8.toBitVec_toInt32, Int32.toBitVec_toInt8]
  apply BitVec.eq_of_getLsbD_eq
  intro i hi
  rw [BitVec.getLsbD_and, BitVec.getLsbD_and]
  have hm : ∀ i < 32, 8 ≤ i → (255 : Int32).toBitVec.getLsbD i = false := by decide
  rcases Nat.lt_or_ge i 8 with z | z
  · rw [BitVec.getLsbD_signExtend, BitVec.getLsbD_signExtend, if_pos z, if_pos hi]
    simp only [z, hi, decide_true, Bool.true_and]
  · rw [hm i hi z]; simp
theorem by_put (b : Int32) : vp_nar .byte b.toInt8.toInt32 &&& nI 255 = b &&& nI 255 := by
  rw [pk_vb]
  exact bp_b b
theorem be_ff (ft : Nat → Int32) (fs : Nat → Nat) (a b : Nat) : be_F ft fs b a = false ↔ ((ft a).toInt < (ft b).toInt ∨ ((ft a).toInt = (ft b).toInt ∧ fs a ≤ fs b)) := by
  by_cases h : ft b = ft a
  · rw [be_F, if_pos h, h]
    simp
  · rw [be_F, if_neg h]
    have h1 : ¬ (ft b).toInt = (ft a).toInt := fun q => h (Int32.toInt_inj.mp q)
    simp only [decide_eq_false_iff_not, Int32.lt_iff_toInt_lt]
    omega
theorem sl_nd {N w : Nat} {g : Nat → Nat} (h : wfP N g) (hw : w ≤ N) : (sl w g).Pairwise (fun a b => a ≠ b) := by
  unfold sl
  refine List.pairwise_map.mpr (List.Pairwise.imp_of_mem (fun {a b} ha hb hab e => ?_) List.pairwise_lt_range)
  have := h.2 a b (by have := List.mem_range.mp ha; omega) (by have := List.mem_range.mp hb; omega) e
  omega
theorem sl_lt {N w : Nat} {g : Nat → Nat} (h : wfP N g) (hw : w ≤ N) {i : Nat} (hi : i ∈ sl w g) : i < N := by
  obtain ⟨j, hj, rfl⟩ := sl_mem.mp hi
  exact h.1 j (by omega)
theorem en_srt {fb fn ft : Nat → Int32} {fs fl sq : Nat → Nat} {S : List Nat} (hs : srt (be_F ft fs) S) (hb : ∀ i j, i ∈ S → j ∈ S → (fs i < fs j ↔ sq i < sq j)) : e_srt (S.map (en fb fn ft fs fl sq)) := by
  refine List.pairwise_map.mpr (List.Pairwise.imp_of_mem (fun {a b} ha hb2 hab => ?_) hs)
  have h1 := (be_ff ft fs a b).mp hab
  have h2 := hb b a hb2 ha
  have h3 : (en fb fn ft fs fl sq a).2.1 = ft a := rfl
  have h4 : (en fb fn ft fs fl sq b).2.1 = ft b := rfl
  have h5 : (en fb fn ft fs fl sq a).2.2.2 = sq a := rfl
  have h6 : (en fb fn ft fs fl sq b).2.2.2 = sq b := rfl
  rw [e_ge_iff, h3, h4, h5, h6]
  omega
theorem en_nd {fb fn ft : Nat → Int32} {fs fl sq : Nat → Nat} {S : List Nat} (hs : S.Pairwise (fun a b => a ≠ b)) (hb : ∀ i j, i ∈ S → j ∈ S → sq i = sq j → i = j) : e_nd (S.map (en fb fn ft fs fl sq)) := by
  refine List.pairwise_map.mpr (List.Pairwise.imp_of_mem (fun {a b} ha hb2 hab e => hab (hb a b ha hb2 e)) hs)
def RX (c N : Nat) (fb : Nat → Int32) (g : Nat → Nat) (fn ft : Nat → Int32) (fs fl : Nat → Nat) (w wi now ts tl lf ll : Nat) (E : List Ent) (T L : List Int32) : Prop :=
  (1 ≤ N ∧ N ≤ 1024 ∧ w ≤ N ∧ wfP N g) ∧ (∀ i, i < N → fs i + fl i ≤ ts) ∧ (ts + tl ≤ c ∧ c ≤ 512 ∧ tl ≤ 256 ∧ lf + ll ≤ ts ∧ now ≤ c ∧ wi ≤ c) ∧ srt (be_F ft fs) (sl w g) ∧ T = by_L fb ts tl ∧ L = by_L fb lf ll ∧
  ∃ sq : Nat → Nat, (∀ i, i ∈ sl w g → 1 ≤ fl i ∧ sq i < wi ∧ 0 < (ft i).toInt) ∧ (∀ i j, i ∈ sl w g → j ∈ sl w g → (fs i < fs j ↔ sq i < sq j)) ∧ (∀ i j, i ∈ sl w g → j ∈ sl w g → sq i = sq j → i = j) ∧ E = (sl w g).map (en fb fn ft fs fl sq)
section RXS
variable {c N : Nat} {fb : Nat → Int32} {g : Nat → Nat} {fn ft : Nat → Int32} {fs fl : Nat → Nat} {w wi now ts tl lf ll : Nat} {E : List Ent} {T L : List Int32}
theorem rx_len (h : RX c N fb g fn ft fs fl w wi now ts tl lf ll E T L) : E.length = w ∧ T.length = tl ∧ L.length = ll := by
  obtain ⟨-, -, -, -, rfl, rfl, sq, -, -, -, rfl⟩ := h
  exact ⟨by rw [List.length_map, sl_len], by_len _ _ _, by_len _ _ _⟩
theorem rx_E (h : RX c N fb g fn ft fs fl w wi now ts tl lf ll E T L) : e_srt E ∧ e_nd E := by
  obtain ⟨⟨-, -, h3, h4⟩, -, -, h7, rfl, rfl, sq, -, b2, b3, rfl⟩ := h
  exact ⟨en_srt h7 b2, en_nd (sl_nd h4 h3) b3⟩
/-- one call more -/
theorem rx_c (h : RX c N fb g fn ft fs fl w wi now ts tl lf ll E T L) (hc : c < 512) : RX (c + 1) N fb g fn ft fs fl w wi now ts tl lf ll E T L := by
  obtain ⟨h1, h2, ⟨a1, a2, a3, a4, a5, a6⟩, h⟩ := h
  exact ⟨h1, h2, ⟨by omega, by omega, a3, a4, by omega, by omega⟩, h⟩
theorem rx_tick (h : RX c N fb g fn ft fs fl w wi now ts tl lf ll E T L) (hc : c < 512) : RX (c + 1) N fb g fn ft fs fl w wi (now + 1) ts tl lf ll E T L := by
  obtain ⟨h1, h2, ⟨a1, a2, a3, a4, a5, a6⟩, h⟩ := h
  exact ⟨h1, h2, ⟨by omega, by omega, a3, a4, by omega, by omega⟩, h⟩
theorem rx_reset (h : RX c N fb g fn ft fs fl w wi now ts tl lf ll E T L) (hc : c < 512) : RX (c + 1) N fb g fn ft fs fl 0 wi now ts tl lf ll [] T L := by
  obtain ⟨⟨h1, h2, h3, h4⟩, h5, ⟨a1, a2, a3, a4, a5, a6⟩, h7, h8, h9, sq, -⟩ := h
  refine ⟨⟨h1, h2, by omega, h4⟩, h5, ⟨by omega, by omega, a3, a4, by omega, by omega⟩, List.Pairwise.nil, h8, h9, sq, ?_, ?_, ?_, rfl⟩
  · intro i hi; cases hi
  · intro i j hi; cases hi
  · intro i j hi; cases hi
theorem rx_put (h : RX c N fb g fn ft fs fl w wi now ts tl lf ll E T L) (hc : c < 512) (b : Int32) {r : Int32} {u : (Nat → Int32) × Nat} (e : (r, u) = pu_R fb ts tl b) : r = (if T.length < 256 then nI (T.length + 1) else -1) ∧ RX (c + 1) N u.1 g fn ft fs fl w wi now ts u.2 lf ll E (if T.length < 256 then T ++ [b &&& nI 255] else T) L := by
  have hl := rx_len h
  rw [hl.2.1]
  by_cases q : tl < 256
  · rw [pu_R, if_pos q] at e
    rw [if_pos q, if_pos q]
    obtain ⟨⟨h1, h2, h3, h4⟩, h5, ⟨a1, a2, a3, a4, a5, a6⟩, h7, rfl, rfl, sq, b1, b2, b3, rfl⟩ := h
    cases e
    have hk : ∀ j, j < ts + tl → upd fb (ts + tl) (vp_nar .byte b.toInt8.toInt32) j = fb j := fun j hj => pk_un (by omega)
    refine ⟨rfl, ⟨h1, h2, h3, h4⟩, h5, ⟨by show ts + (tl + 1) ≤ c + 1; omega, by omega, by show tl + 1 ≤ 256; omega, a4, by omega, by omega⟩, h7, ?_, ?_, sq, b1, b2, b3, ?_⟩
    · show _ = by_L (upd fb (ts + tl) (vp_nar .byte b.toInt8.toInt32)) ts (tl + 1)
      rw [by_succ, pk_us, by_put, by_congr (fb := upd fb (ts + tl) (vp_nar .byte b.toInt8.toInt32)) (fb2 := fb) (fun j _ hj => hk j hj)]
    · exact (by_congr (fun j _ hj => hk j (by omega))).symm
    · refine List.map_congr_left (fun i hi => ?_)
      have := h5 i (sl_lt h4 h3 hi)
      unfold en
      rw [by_congr (fb := upd fb (ts + tl) (vp_nar .byte b.toInt8.toInt32)) (fb2 := fb) (fun j _ hj => hk j (by omega))]
  · rw [pu_R, if_neg q] at e
    rw [if_neg q, if_neg q]
    cases e
    exact ⟨rfl, rx_c h hc⟩
theorem rx_rm (h : RX c N fb g fn ft fs fl w wi now ts tl lf ll E T L) (hc : c < 512) {kp : Nat → Bool} {pe : Ent → Bool} (hk : ∀ sq i, kp i = pe (en fb fn ft fs fl sq i)) : RX (c + 1) N fb (rm_l kp w 0 0 g).2 fn ft fs fl (rm_l kp w 0 0 g).1 wi now ts tl lf ll (E.filter pe) T L := by
  obtain ⟨⟨h1, h2, h3, h4⟩, h5, ⟨a1, a2, a3, a4, a5, a6⟩, h7, h8, h9, sq, b1, b2, b3, rfl⟩ := h
  obtain ⟨r1, r2, r3⟩ := rm_all kp h3 h4
  have hm : ∀ i, i ∈ sl (rm_l kp w 0 0 g).1 (rm_l kp w 0 0 g).2 → i ∈ sl w g := fun i hi => by rw [r3] at hi; exact (List.mem_filter.mp hi).1
  refine ⟨⟨h1, h2, by omega, r2⟩, h5, ⟨by omega, by omega, a3, a4, by omega, by omega⟩, ?_, h8, h9, sq, fun i hi => b1 i (hm i hi), fun i j hi hj => b2 i j (hm i hi) (hm j hj), fun i j hi hj => b3 i j (hm i hi) (hm j hj), ?_⟩
  · rw [r3]; exact List.Pairwise.filter _ h7
  · rw [r3, List.filter_map]
    congr 1
    exact List.filter_congr (fun i _ => (hk sq i).symm)
theorem rx_leave (h : RX c N fb g fn ft fs fl w wi now ts tl lf ll E T L) (hc : c < 512) {r : Int32} {u : (Nat → Nat) × Nat × Nat × Nat} (e : (r, u) = lv_R ft fs fl now w g lf ll) :
    (∀ x R, E = x :: R → x.2.1 ≤ nI now → r = nI x.2.2.1.length ∧ RX (c + 1) N fb u.1 fn ft fs fl u.2.1 wi now ts tl u.2.2.1 u.2.2.2 R T x.2.2.1) ∧ ((∀ x R, E = x :: R → ¬ x.2.1 ≤ nI now) → r = -1 ∧ RX (c + 1) N fb u.1 fn ft fs fl u.2.1 wi now ts tl u.2.2.1 u.2.2.2 E T L) := by
  have h0 := h
  obtain ⟨⟨h1, h2, h3, h4⟩, h5, ⟨a1, a2, a3, a4, a5, a6⟩, h7, h8, h9, sq, b1, b2, b3, rfl⟩ := h
  have hcons : 0 < w → sl w g = g 0 :: (sl w g).tail := by
    intro hw
    have : (sl w g)[0]? = some (g 0) := sl_get g hw
    cases hs : sl w g with
    | nil => rw [hs] at this; simp at this
    | cons x R => rw [hs] at this; simp at this; rw [this]; rfl
  refine ⟨fun x R hx hle => ?_, fun hno => ?_⟩
  · have hw : 0 < w := by
      rcases Nat.eq_zero_or_pos w with q | q
      · subst q; cases hx
      · exact q
    rw [hcons hw, List.map_cons] at hx
    obtain ⟨hx1, hx2⟩ := List.cons.inj hx
    subst hx1
    have hq : lv_F ft now w g = true := by
      have : ft (g 0) ≤ nI now := hle
      simp [lv_F, this]; omega
    rw [lv_R, if_pos hq] at e
    cases e
    obtain ⟨d1, d2⟩ := dr_all hw h3 h4
    have hm : ∀ i, i ∈ sl (w - 1) (dr_l (w - 1) 1 g) → i ∈ sl w g := fun i hi => by rw [d2] at hi; exact List.mem_of_mem_tail hi
    have h00 : g 0 < N := h4.1 0 (by omega)
    refine ⟨by show _ = nI (by_L fb (fs (g 0)) (fl (g 0))).length; rw [by_len], ⟨h1, h2, by show w - 1 ≤ N; omega, d1⟩, h5, ⟨by omega, by omega, a3, h5 _ h00, by omega, by omega⟩, ?_, h8, rfl, sq, fun i hi => b1 i (hm i hi), fun i j hi hj => b2 i j (hm i hi) (hm j hj), fun i j hi hj => b3 i j (hm i hi) (hm j hj), ?_⟩
    · show srt _ (sl (w - 1) (dr_l (w - 1) 1 g))
      rw [d2]
      exact List.Pairwise.sublist (List.tail_sublist _) h7
    · show R = (sl (w - 1) (dr_l (w - 1) 1 g)).map _
      rw [d2, ← hx2]
  · have hq : ¬ lv_F ft now w g = true := by
      intro q
      simp only [lv_F, Bool.and_eq_true, decide_eq_true_eq] at q
      exact hno (en fb fn ft fs fl sq (g 0)) ((sl w g).tail.map (en fb fn ft fs fl sq)) (by rw [← List.map_cons, ← hcons (by omega)]) q.2
    rw [lv_R, if_neg hq] at e
    cases e
    exact ⟨rfl, rx_c h0 hc⟩
theorem rx_ins0 (h : RX c N fb g fn ft fs fl w wi now ts tl lf ll E T L) (hc : c < 512) : RX (c + 1) N fb g fn ft fs fl w wi now ts 0 lf ll E [] L := by
  obtain ⟨h1, h2, ⟨a1, a2, a3, a4, a5, a6⟩, h7, h8, h⟩ := h
  exact ⟨h1, h2, ⟨by omega, by omega, by omega, a4, by omega, by omega⟩, h7, rfl, h⟩
theorem rx_ins1 (h : RX c N fb g fn ft fs fl w wi now ts tl lf ll E T L) (hc : c < 512) (nu t : Int32) (hq : wh_F tl now t w N = 0) : RX (c + 1) N fb (st_l (be_F (upd ft (g w) t) (va_up fs (g w) ts)) w g) (upd fn (g w) nu) (upd ft (g w) t) (va_up fs (g w) ts) (va_up fl (g w) tl) (w + 1) (wi + 1) now (ts + tl) 0 lf ll (a_so (E ++ [(nu, t, T, wi)])) [] L := by
  obtain ⟨⟨h1, h2, h3, h4⟩, h5, ⟨a1, a2, a3, a4, a5, a6⟩, h7, rfl, h9, sq, b1, b2, b3, rfl⟩ := h
  have hw : w < N := wh_w hq
  have htl : tl ≠ 0 := by
    intro q
    rw [wh_F, if_pos q] at hq
    omega
  have ht : 0 < t.toInt := by
    have q : ¬ t ≤ nI now := by
      intro q
      rw [wh_F, if_neg htl, if_pos q] at hq
      omega
    have q2 := Int32.lt_iff_toInt_lt.mp (Int32.not_le.mp q)
    rw [nI_toInt (by omega)] at q2
    omega
  have hne : ∀ i, i ∈ sl w g → i ≠ g w := by
    intro i hi e
    obtain ⟨j, hj, rfl⟩ := sl_mem.mp hi
    have := h4.2 j w (by omega) hw e
    omega
  have u1 : ∀ i, i ≠ g w → upd ft (g w) t i = ft i := fun i hi => pk_un hi
  have u2 : ∀ i, i ≠ g w → upd fn (g w) nu i = fn i := fun i hi => pk_un hi
  have u3 : ∀ (f : Nat → Nat) (v i : Nat), i ≠ g w → va_up f (g w) v i = f i := fun f v i hi => by unfold va_up; rw [if_neg hi]
  have u4 : ∀ (f : Nat → Nat) (v : Nat), va_up f (g w) v (g w) = v := fun f v => by unfold va_up; rw [if_pos rfl]
  have hperm := st_perm (bf := be_F (upd ft (g w) t) (va_up fs (g w) ts)) w g
  have hmem : ∀ i, i ∈ sl (w + 1) (st_l (be_F (upd ft (g w) t) (va_up fs (g w) ts)) w g) → i ∈ sl w g ∨ i = g w := by
    intro i hi
    have := hperm.mem_iff.mp hi
    rw [sl_succ] at this
    rcases List.mem_append.mp this with q | q
    · exact Or.inl q
    · exact Or.inr (List.mem_singleton.mp q)
  have hst : srt (be_F (upd ft (g w) t) (va_up fs (g w) ts)) (sl w g) := by
    refine List.Pairwise.imp_of_mem (fun {a b} ha hb hab => ?_) h7
    have e1 := u1 a (hne a ha)
    have e2 := u1 b (hne b hb)
    have e3 := u3 fs ts a (hne a ha)
    have e4 := u3 fs ts b (hne b hb)
    unfold be_F at hab ⊢
    rw [e1, e2, e3, e4]
    exact hab
  have hfs : ∀ i, i ∈ sl w g → fs i < ts := fun i hi => by
    have := h5 i (sl_lt h4 h3 hi)
    have := (b1 i hi).1
    omega
  have c2 : ∀ i j, (i ∈ sl w g ∨ i = g w) → (j ∈ sl w g ∨ j = g w) → (va_up fs (g w) ts i < va_up fs (g w) ts j ↔ va_up sq (g w) wi i < va_up sq (g w) wi j) := by
    intro i j hi hj
    rcases hi with hi | hi <;> rcases hj with hj | hj
    · rw [u3 _ _ i (hne i hi), u3 _ _ j (hne j hj), u3 _ _ i (hne i hi), u3 _ _ j (hne j hj)]
      exact b2 i j hi hj
    · subst hj
      rw [u3 _ _ i (hne i hi), u4, u3 _ _ i (hne i hi), u4]
      have := hfs i hi
      have := (b1 i hi).2.1
      omega
    · subst hi
      rw [u3 _ _ j (hne j hj), u4, u3 _ _ j (hne j hj), u4]
      have := hfs j hj
      have := (b1 j hj).2.1
      omega
    · subst hi; subst hj
      omega
  have c3 : ∀ i j, (i ∈ sl w g ∨ i = g w) → (j ∈ sl w g ∨ j = g w) → va_up sq (g w) wi i = va_up sq (g w) wi j → i = j := by
    intro i j hi hj
    rcases hi with hi | hi <;> rcases hj with hj | hj
    · rw [u3 _ _ i (hne i hi), u3 _ _ j (hne j hj)]
      exact b3 i j hi hj
    · subst hj
      rw [u3 _ _ i (hne i hi), u4]
      have := (b1 i hi).2.1
      omega
    · subst hi
      rw [u3 _ _ j (hne j hj), u4]
      have := (b1 j hj).2.1
      omega
    · intro _; rw [hi, hj]
  have hnew : (sl (w + 1) g).map (en fb (upd fn (g w) nu) (upd ft (g w) t) (va_up fs (g w) ts) (va_up fl (g w) tl) (va_up sq (g w) wi)) = (sl w g).map (en fb fn ft fs fl sq) ++ [(nu, t, by_L fb ts tl, wi)] := by
    rw [sl_succ, List.map_append]
    congr 1
    · refine List.map_congr_left (fun i hi => ?_)
      have q := hne i hi
      unfold en
      rw [u1 i q, u2 i q, u3 _ _ i q, u3 _ _ i q, u3 _ _ i q]
    · show [_] = [_]
      unfold en
      rw [u4, u4, u4, pk_us, pk_us]
  have m1 : ∀ i, i ∈ sl (w + 1) g → i ∈ sl w g ∨ i = g w := fun i hi => hmem i (hperm.mem_iff.mpr hi)
  refine ⟨⟨h1, h2, by omega, st_wf w g hw h4⟩, fun i hi => ?_, ⟨by omega, by omega, by omega, by omega, by omega, by omega⟩, st_srt (be_ok _ _) w g hst, rfl, h9, va_up sq (g w) wi, fun i hi => ?_, fun i j hi hj => c2 i j (hmem i hi) (hmem j hj), fun i j hi hj => c3 i j (hmem i hi) (hmem j hj), ?_⟩
  · by_cases q : i = g w
    · subst q; rw [u4, u4]; omega
    · rw [u3 _ _ i q, u3 _ _ i q]
      have := h5 i hi
      omega
  · rcases hmem i hi with q | q
    · have q2 := hne i q
      rw [u3 _ _ i q2, u3 _ _ i q2, u1 i q2]
      obtain ⟨z1, z2, z3⟩ := b1 i q
      exact ⟨z1, by omega, z3⟩
    · subst q
      rw [u4, u4, pk_us]
      exact ⟨by omega, by omega, ht⟩
  · refine (a_so_eq ?_ ?_ ?_).symm
    · rw [← hnew]
      exact hperm.map _
    · exact en_srt (st_srt (be_ok _ _) w g hst) (fun i j hi hj => c2 i j (hmem i hi) (hmem j hj))
    · rw [← hnew]
      exact en_nd (sl_nd h4 (by omega)) (fun i j hi hj => c3 i j (m1 i hi) (m1 j hj))
end RXS
end
section
/-! Moving times. -/
theorem mv_c_spec (is cm : Nat → Bool) : ∀ (n k : Nat) (g : Nat → Nat) (q : Nat), mv_c is cm n k g q = if ((List.range' k n).map g).all (fun i => !(is i) || cm i) = true then some (q + ((List.range' k n).map g).countP is) else none := by
  intro n
  induction n with
  | zero => intro k g q; simp [mv_c]
  | succ n ih =>
    intro k g q
    rw [List.range'_succ, List.map_cons, List.all_cons, List.countP_cons, mv_c]
    by_cases h1 : is (g k) = true
    · rw [if_pos h1, h1]
      by_cases h2 : cm (g k) = true
      · rw [if_pos h2, ih, h2]
        simp only [Bool.not_true, Bool.false_or, Bool.true_and, if_true]
        congr 2
        omega
      · have h2 : cm (g k) = false := by simpa using h2
        rw [h2]
        simp
    · have h1 : is (g k) = false := by simpa using h1
      rw [h1, if_neg (by decide), ih, Bool.not_false, Bool.true_or, Bool.true_and]
      rfl
theorem mv_t_spec (f t b : Int32) : ∀ (n k : Nat) (g : Nat → Nat) (ft : Nat → Int32), ((List.range' k n).map g).Pairwise (fun a b => a ≠ b) → ∀ i, mv_t f t b n k g ft i = if i ∈ (List.range' k n).map g ∧ in_S ft f t i = true then ft i + b else ft i := by
  intro n
  induction n with
  | zero => intro k g ft _ i; simp [mv_t]
  | succ n ih =>
    intro k g ft hn i
    rw [List.range'_succ, List.map_cons] at hn ⊢
    obtain ⟨n1, n2⟩ := List.pairwise_cons.mp hn
    rw [mv_t]
    by_cases h1 : in_S ft f t (g k) = true
    · rw [if_pos h1, ih _ _ _ n2]
      by_cases hi : i = g k
      · subst hi
        rw [if_neg (fun q => n1 _ q.1 rfl), pk_us, if_pos ⟨List.mem_cons_self, h1⟩]
      · have e : upd ft (g k) (ft (g k) + b) i = ft i := pk_un hi
        have e2 : in_S (upd ft (g k) (ft (g k) + b)) f t i = in_S ft f t i := by unfold in_S; rw [e]
        rw [e, e2]
        by_cases q : i ∈ (List.range' (k + 1) n).map g ∧ in_S ft f t i = true
        · rw [if_pos q, if_pos ⟨List.mem_cons_of_mem _ q.1, q.2⟩]
        · rw [if_neg q, if_neg (fun z => q ⟨(List.mem_cons.mp z.1).resolve_left hi, z.2⟩)]
    · rw [if_neg h1, ih _ _ _ n2]
      by_cases q : i ∈ (List.range' (k + 1) n).map g ∧ in_S ft f t i = true
      · rw [if_pos q, if_pos ⟨List.mem_cons_of_mem _ q.1, q.2⟩]
      · rw [if_neg q, if_neg (fun z => q ⟨(List.mem_cons.mp z.1).resolve_left (fun y => h1 (by rw [← y]; exact z.2)), z.2⟩)]
def e_in (f t : Int32) (e : Ent) : Bool := decide (f ≤ e.2.1) && decide (e.2.1 ≤ t)
def e_can (now : Nat) (b : Int32) (e : Ent) : Bool := decide ((nI now).toInt64 < e.2.1.toInt64 + b.toInt64) && decide (¬ 2147483647 < e.2.1.toInt64 + b.toInt64)
def e_mv (f t b : Int32) (e : Ent) : Ent := if e_in f t e = true then (e.1, e.2.1 + b, e.2.2) else e
def a_mv (now : Nat) (f t b : Int32) (E : List Ent) : Option Nat := if E.all (fun e => !(e_in f t e) || e_can now b e) = true then some (E.countP (e_in f t)) else none
theorem l_add (x b : Int32) : (x.toInt64 + b.toInt64).toInt = x.toInt + b.toInt := by
  rw [Int64.toInt_add, Int32.toInt_toInt64, Int32.toInt_toInt64]
  have h1 := x.toInt_lt
  have h2 := x.le_toInt
  have h3 := b.toInt_lt
  have h4 := b.le_toInt
  exact Int.bmod_eq_of_le_mul_two (by omega) (by omega)
theorem can_iff (now : Nat) (hn : now < 2 ^ 31) (b : Int32) (e : Ent) : e_can now b e = true ↔ (now : Int) < e.2.1.toInt + b.toInt ∧ e.2.1.toInt + b.toInt ≤ 2147483647 := by
  unfold e_can
  rw [Bool.and_eq_true, decide_eq_true_eq, decide_eq_true_eq, Int64.lt_iff_toInt_lt, Int64.lt_iff_toInt_lt, l_add, Int32.toInt_toInt64, nI_toInt hn]
  have : (2147483647 : Int64).toInt = 2147483647 := by decide
  rw [this]
  omega
theorem can_add {now : Nat} (hn : now < 2 ^ 31) {b : Int32} {e : Ent} (h : e_can now b e = true) : (e.2.1 + b).toInt = e.2.1.toInt + b.toInt := by
  have h1 := (can_iff now hn b e).mp h
  rw [Int32.toInt_add]
  exact Int.bmod_eq_of_le_mul_two (by omega) (by omega)
section RXM
variable {c N : Nat} {fb : Nat → Int32} {g : Nat → Nat} {fn ft : Nat → Int32} {fs fl : Nat → Nat} {w wi now ts tl lf ll : Nat} {E : List Ent} {T L : List Int32}
theorem sl_r (w : Nat) (g : Nat → Nat) : (List.range' 0 w).map g = sl w g := by rw [sl, List.range_eq_range']
theorem rx_mo (h : RX c N fb g fn ft fs fl w wi now ts tl lf ll E T L) (f t b : Int32) : mv_c (in_S ft f t) (cm_F ft now b) w 0 g 0 = a_mv now f t b E := by
  obtain ⟨-, -, -, -, -, -, sq, -, -, -, rfl⟩ := h
  rw [mv_c_spec, sl_r, a_mv, List.all_map, List.countP_map, Nat.zero_add]
  rfl
theorem rx_mv (h : RX c N fb g fn ft fs fl w wi now ts tl lf ll E T L) (hc : c < 512) (f t b : Int32) : RX (c + 1) N fb (mv_F (a_mv now f t b E) g (mv_s (be_F (mv_t f t b w 0 g ft) fs) (w - 1) 1 g)) fn (mv_F (a_mv now f t b E) ft (mv_t f t b w 0 g ft)) fs fl w wi now ts tl lf ll (mv_F (a_mv now f t b E) E (a_so (E.map (e_mv f t b)))) T L := by
  by_cases ho : E.all (fun e => !(e_in f t e) || e_can now b e) = true
  · have e1 : a_mv now f t b E = some (E.countP (e_in f t)) := by rw [a_mv, if_pos ho]
    rw [e1]
    show RX (c + 1) N fb (mv_s (be_F (mv_t f t b w 0 g ft) fs) (w - 1) 1 g) fn (mv_t f t b w 0 g ft) fs fl w wi now ts tl lf ll (a_so (E.map (e_mv f t b))) T L
    obtain ⟨⟨h1, h2, h3, h4⟩, h5, ⟨a1, a2, a3, a4, a5, a6⟩, h7, h8, h9, sq, b1, b2, b3, rfl⟩ := h
    have hnd := sl_nd h4 h3
    have hft : ∀ i, i ∈ sl w g → mv_t f t b w 0 g ft i = if in_S ft f t i = true then ft i + b else ft i := by
      intro i hi
      rw [mv_t_spec f t b w 0 g ft (by rw [sl_r]; exact hnd) i, sl_r]
      by_cases q : in_S ft f t i = true
      · rw [if_pos ⟨hi, q⟩, if_pos q]
      · rw [if_neg (fun z => q z.2), if_neg q]
    have hg : wfP N (mv_s (be_F (mv_t f t b w 0 g ft) fs) (w - 1) 1 g) ∧ (sl w (mv_s (be_F (mv_t f t b w 0 g ft) fs) (w - 1) 1 g)).Perm (sl w g) ∧ srt (be_F (mv_t f t b w 0 g ft) fs) (sl w (mv_s (be_F (mv_t f t b w 0 g ft) fs) (w - 1) 1 g)) := by
      rcases Nat.eq_zero_or_pos w with q | q
      · subst q
        exact ⟨h4, List.Perm.refl _, List.Pairwise.nil⟩
      · have := mv_s_spec (be_ok (mv_t f t b w 0 g ft) fs) (N := N) (w - 1) 1 g (by omega) h4 (by rw [sl_succ, sl_0]; exact List.pairwise_singleton _ _)
        rw [show 1 + (w - 1) = w by omega] at this
        exact this
    obtain ⟨g1, g2, g3⟩ := hg
    have hm : ∀ i, i ∈ sl w (mv_s (be_F (mv_t f t b w 0 g ft) fs) (w - 1) 1 g) → i ∈ sl w g := fun i hi => g2.mem_iff.mp hi
    have hmap : (sl w g).map (en fb fn (mv_t f t b w 0 g ft) fs fl sq) = ((sl w g).map (en fb fn ft fs fl sq)).map (e_mv f t b) := by
      rw [List.map_map]
      refine List.map_congr_left (fun i hi => ?_)
      show en fb fn (mv_t f t b w 0 g ft) fs fl sq i = e_mv f t b (en fb fn ft fs fl sq i)
      unfold e_mv en
      rw [hft i hi]
      by_cases q : in_S ft f t i = true
      · rw [if_pos q, if_pos (show e_in f t (fn i, ft i, by_L fb (fs i) (fl i), sq i) = true from q)]
      · rw [if_neg q, if_neg (show ¬ e_in f t (fn i, ft i, by_L fb (fs i) (fl i), sq i) = true from q)]
    refine ⟨⟨h1, h2, h3, g1⟩, h5, ⟨by omega, by omega, a3, a4, by omega, by omega⟩, g3, h8, h9, sq, fun i hi => ?_, fun i j hi hj => b2 i j (hm i hi) (hm j hj), fun i j hi hj => b3 i j (hm i hi) (hm j hj), ?_⟩
    · obtain ⟨z1, z2, z3⟩ := b1 i (hm i hi)
      refine ⟨z1, z2, ?_⟩
      rw [hft i (hm i hi)]
      by_cases q : in_S ft f t i = true
      · rw [if_pos q]
        have q1 := List.all_eq_true.mp ho _ (List.mem_map_of_mem (hm i hi))
        have q2 : e_in f t (en fb fn ft fs fl sq i) = true := q
        rw [q2] at q1
        have q3 : e_can now b (en fb fn ft fs fl sq i) = true := by simpa using q1
        have q4 := can_add (by omega) q3
        have q5 := (can_iff now (by omega) b _).mp q3
        have q6 : (en fb fn ft fs fl sq i).2.1 = ft i := rfl
        rw [q6] at q4 q5
        omega
      · rw [if_neg q]; exact z3
    · refine (a_so_eq ?_ ?_ ?_).symm
      · rw [← hmap]
        exact g2.map _
      · exact en_srt g3 (fun i j hi hj => b2 i j (hm i hi) (hm j hj))
      · rw [← hmap]
        exact en_nd hnd b3
  · have e1 : a_mv now f t b E = none := by rw [a_mv, if_neg ho]
    rw [e1]
    exact rx_c h hc
/-- all times are of the span 0 .. 2147483647 -/
theorem rx_all (h : RX c N fb g fn ft fs fl w wi now ts tl lf ll E T L) : ∀ e ∈ E, 0 < e.2.1.toInt := by
  obtain ⟨-, -, -, -, -, -, sq, b1, -, -, rfl⟩ := h
  intro e he
  obtain ⟨i, hi, rfl⟩ := List.mem_map.mp he
  exact (b1 i hi).2.2
theorem rx_new (N : Nat) (h1 : 1 ≤ N) (h2 : N ≤ 1024) : RX 0 N (fun _ => 0) (g_id N) (fun _ => 0) (fun _ => 0) (fun _ => 0) (fun _ => 0) 0 0 0 0 0 0 0 [] [] [] := by
  refine ⟨⟨h1, h2, by omega, g_id_wf N⟩, fun _ _ => Nat.le_refl 0, ⟨by omega, by omega, by omega, by omega, by omega, by omega⟩, List.Pairwise.nil, rfl, rfl, fun _ => 0, ?_, ?_, ?_, rfl⟩
  · intro i hi; cases hi
  · intro i j hi; cases hi
  · intro i j hi; cases hi
theorem rx_ab (h : RX c N fb g fn ft fs fl w wi now ts tl lf ll E T L) {k : Int32} (hk : iw_F w k = true) : ∃ x, E[k.toNatClampNeg]? = some x ∧ x.1 = fn (g k.toNatClampNeg) ∧ x.2.1 = ft (g k.toNatClampNeg) ∧ x.2.2.1 = by_L fb (fs (g k.toNatClampNeg)) (fl (g k.toNatClampNeg)) := by
  obtain ⟨⟨-, h2, h3, h4⟩, -, -, -, -, -, sq, -, -, -, rfl⟩ := h
  have hw := iw_lt hk (by omega)
  refine ⟨en fb fn ft fs fl sq (g k.toNatClampNeg), ?_, rfl, rfl, rfl⟩
  rw [List.getElem?_map, sl_get g hw]
  rfl
end RXM
end
section
/-! Pure: what the reference's methods do. -/
theorem upd_bI (g : Nat → Bool) (k : Nat) (v : Bool) : upd (fun j => bI (g j)) k (vp_nar .boolean (bI v)) = fun j => bI (va_up g k v j) := by
  funext j
  have e : vp_nar .boolean (bI v) = bI v := by cases v <;> rfl
  unfold upd va_up
  rw [e]
  split <;> rfl
def oI (o : Option Nat) : Int32 := match o with
  | none => -1
  | some i => nI i
def bf_M (ti : Nat → Int32) (j i : Nat) : Bool := decide (ti j < ti i) || (decide (ti j = ti i) && decide (j < i))
theorem bf_M1 {ti : Nat → Int32} {j i : Nat} (h : ti j < ti i) : bf_M ti j i = true := by simp [bf_M, h]
theorem bf_M2 {ti : Nat → Int32} {j i : Nat} (h : ¬ ti j < ti i) (h2 : ¬ ti j = ti i) : bf_M ti j i = false := by
  unfold bf_M
  rw [decide_eq_false h, decide_eq_false h2]
  rfl
theorem bf_M3 {ti : Nat → Int32} {j i : Nat} (h2 : ti j = ti i) (h3 : ¬ i ≤ j) : bf_M ti j i = true := by
  unfold bf_M
  rw [decide_eq_true h2, decide_eq_true (show j < i by omega)]
  simp
theorem bf_M4 {ti : Nat → Int32} {j i : Nat} (h : ¬ ti j < ti i) (h3 : i ≤ j) : bf_M ti j i = false := by
  unfold bf_M
  rw [decide_eq_false h, decide_eq_false (show ¬ j < i by omega)]
  simp
def pl_i (ti : Nat → Int32) (i : Nat) : Nat → Nat → Nat → Nat
  | 0, _, q => q
  | n + 1, j, q => if bf_M ti j i = true then pl_i ti i n (j + 1) (q + 1) else pl_i ti i n (j + 1) q
def pl_o (ti : Nat → Int32) (kk w : Nat) : Nat → Nat → Option Nat → Option Nat
  | 0, _, o => o
  | n + 1, i, o => if pl_i ti i w 0 0 = kk then pl_o ti kk w n (i + 1) (some i) else pl_o ti kk w n (i + 1) o
def dp {α : Type} (f : Nat → α) (i k : Nat) : Nat → α := fun j => if i ≤ j ∧ j < k then f (j + 1) else f j
theorem dp_0 {α : Type} (f : Nat → α) (i : Nat) : dp f i i = f := by
  funext j
  unfold dp
  rw [if_neg (by omega)]
theorem dp_k {α : Type} (f : Nat → α) {i k : Nat} : dp f i k (k + 1) = f (k + 1) := by
  unfold dp
  rw [if_neg (by omega)]
theorem dp_u (f : Nat → Int32) {i k : Nat} (h : i ≤ k) : upd (dp f i k) k (dp f i k (k + 1)) = dp f i (k + 1) := by
  rw [dp_k]
  funext j
  unfold upd dp
  by_cases q : j = k
  · subst q
    rw [if_pos rfl, if_pos (by omega)]
  · rw [if_neg q]
    by_cases z : i ≤ j ∧ j < k
    · rw [if_pos z, if_pos (by omega)]
    · rw [if_neg z, if_neg (by omega)]
theorem dp_v (f : Nat → Nat) {i k : Nat} (h : i ≤ k) : va_up (dp f i k) k (dp f i k (k + 1)) = dp f i (k + 1) := by
  rw [dp_k]
  funext j
  unfold va_up dp
  by_cases q : j = k
  · subst q
    rw [if_pos rfl, if_pos (by omega)]
  · rw [if_neg q]
    by_cases z : i ≤ j ∧ j < k
    · rw [if_pos z, if_pos (by omega)]
    · rw [if_neg z, if_neg (by omega)]
/-- k bytes from a on -/
def cp (f h : Nat → Int32) (a k : Nat) : Nat → Int32 := fun j => if a ≤ j ∧ j < a + k then vp_nar .byte (h (j - a)) else f j
theorem cp_0 (f h : Nat → Int32) (a : Nat) : cp f h a 0 = f := by
  funext j
  unfold cp
  rw [if_neg (by omega)]
theorem cp_s (f h : Nat → Int32) (a k : Nat) : upd (cp f h a k) (a + k) (vp_nar .byte (h k)) = cp f h a (k + 1) := by
  funext j
  unfold upd cp
  by_cases q : j = a + k
  · subst q
    rw [if_pos rfl, if_pos (by omega), show a + k - a = k by omega]
  · rw [if_neg q]
    by_cases z : a ≤ j ∧ j < a + k
    · rw [if_pos z, if_pos (by omega)]
    · rw [if_neg z, if_neg (by omega)]
def im (n : Nat) : Int32 := nI n - 1
theorem im_s (n : Nat) : im (n + 1) = nI n := nI_pred n
theorem im_0 : im 0 < 0 := by decide
theorem im_d (n : Nat) : nI n + (-1) = im n := by
  cases n with
  | zero => decide
  | succ n => rw [im_s, pk_m1]
abbrev MS : Type := (Nat → Int32) × (Nat → Int32) × (Nat → Nat) × (Nat → Nat) × (Nat → Bool) × Nat
def m_dp (u : MS) (i : Nat) : MS := (dp u.1 i (u.2.2.2.2.2 - 1), dp u.2.1 i (u.2.2.2.2.2 - 1), dp u.2.2.1 i (u.2.2.2.2.2 - 1), dp u.2.2.2.1 i (u.2.2.2.2.2 - 1), va_up u.2.2.2.2.1 (u.2.2.2.1 i) false, u.2.2.2.2.2 - 1)
def m_rm (pr : Int32 → Int32 → Bool) : Nat → MS → Nat → MS × Nat
  | 0, u, q => (u, q)
  | n + 1, u, q => if pr (u.1 n) (u.2.1 n) = true then m_rm pr n (m_dp u n) (q + 1) else m_rm pr n u q
def m_rs : Nat → MS → MS
  | 0, u => u
  | n + 1, u => m_rs n (m_dp u n)
theorem dp_lt {f : Nat → Nat} {i w B : Nat} (h : ∀ j, j < w → f j < B) : ∀ j, j < w - 1 → dp f i (w - 1) j < B := by
  intro j hj
  unfold dp
  split
  · exact h (j + 1) (by omega)
  · exact h j (by omega)
def mm_q (f t b : Int32) : Nat → Nat → (Nat → Int32) → Nat → Nat
  | 0, _, _, q => q
  | n + 1, k, ti, q => if in_S ti f t k = true then mm_q f t b n (k + 1) (upd ti k (ti k + b)) (q + 1) else mm_q f t b n (k + 1) ti q
def mp_R (tx : Nat → Int32) (tl : Nat) (b : Int32) : Int32 × (Nat → Int32) × Nat := if tl = 256 then (-1, tx, tl) else (nI (tl + 1), upd tx tl (vp_nar .byte b.toInt8.toInt32), tl + 1)
def mi_R (r0 N : Nat) (tx nu ti : Nat → Int32) (si ro : Nat → Nat) (us : Nat → Bool) (bt : Nat → Int32) (w al now tl : Nat) (n t : Int32) : (Nat → Int32) × (Nat → Int32) × (Nat → Nat) × (Nat → Nat) × (Nat → Bool) × (Nat → Int32) × Nat × Nat :=
  if wh_F tl now t w N = 0 then (upd nu w n, upd ti w t, va_up si w tl, va_up ro w r0, va_up us r0 true, cp bt tx (256 * r0) tl, w + 1, al + 1) else (nu, ti, si, ro, us, bt, w, al)
def ml_R (lx nu ti : Nat → Int32) (si ro : Nat → Nat) (us : Nat → Bool) (bt : Nat → Int32) (w now ll : Nat) : Int32 × (Nat → Int32) × Nat × MS := match pl_o ti 0 w w 0 none with
  | none => (-1, lx, ll, nu, ti, si, ro, us, w)
  | some i => if ti i ≤ nI now then (nI (si i), cp lx (fun k => bt (256 * ro i + k)) 0 (si i), si i, m_dp (nu, ti, si, ro, us, w) i) else (-1, lx, ll, nu, ti, si, ro, us, w)
theorem pl_lt (ti : Nat → Int32) (kk w : Nat) : ∀ (n i : Nat) (o : Option Nat), i + n = w → (∀ j, o = some j → j < w) → ∀ j, pl_o ti kk w n i o = some j → j < w := by
  intro n
  induction n with
  | zero => intro i o _ h j e; exact h j e
  | succ n ih =>
    intro i o hi h j e
    rw [pl_o] at e
    split at e
    · exact ih (i + 1) (some i) (by omega) (fun j e => by cases e; omega) j e
    · exact ih (i + 1) o (by omega) h j e
/-- the place of the k-th, if there is one -/
def pl_F (ti : Nat → Int32) (w : Nat) (k : Int32) : Option Nat := if iw_F w k = true then pl_o ti k.toNatClampNeg w w 0 none else none
def ma_F (nu ti : Nat → Int32) (si : Nat → Nat) (w : Nat) (k j : Int32) : Int32 := match pl_F ti w k with
  | none => -1
  | some i => if j = 0 then nu i else if j = 1 then ti i else if j = 2 then nI (si i) else -1
def mb_F (bt ti : Nat → Int32) (si ro : Nat → Nat) (w : Nat) (k j : Int32) : Int32 := match pl_F ti w k with
  | none => -1
  | some i => bo_F bt (256 * ro i) (si i) j
end
section
/-! The reference's object and its rows. -/
abbrev tys_M (C : Nat → ClassId) : List (ClassId × FieldType) := [(C 0, .byte), (C 1, .byte), (C 2, .int), (C 3, .int), (C 4, .int), (C 5, .int), (C 6, .boolean), (C 7, .byte)]
abbrev mm (P : Nat → Nat) (C : Nat → ClassId) (N : Nat) (tx lx nu ti : Nat → Int32) (si ro : Nat → Nat) (us : Nat → Bool) (bt : Nat → Int32) (w al now : Nat) (on : Bool) (tl ll : Nat) : va_W :=
  [(P 0, .inr (1, [.int (nI 0), .int (nI N), .int (nI now), .int (bI on), .int (nI al), .ref (P 1), .int (nI tl), .ref (P 2), .int (nI ll), .int (nI w), .ref (P 3), .ref (P 4), .ref (P 5), .ref (P 6), .ref (P 7), .ref (P 8)])),
   (P 1, .inl (C 0, 256, .inl tx)), (P 2, .inl (C 1, 256, .inl lx)), (P 3, .inl (C 2, 1024, .inl nu)), (P 4, .inl (C 3, 1024, .inl ti)), (P 5, .inl (C 4, 1024, .inl (fun j => nI (si j)))), (P 6, .inl (C 5, 1024, .inl (fun j => nI (ro j)))), (P 7, .inl (C 6, 1024, .inl (fun j => bI (us j)))), (P 8, .inl (C 7, 262144, .inl bt))]
section MGP
variable {p : Program} {l : Launch} {e : Env} {R : Room} {s : State} {m : MethodId} {args : Array Value} {below : List Frame} {meth : Method} {c : Code} {H : Heap} {locs : List Loc} {cells slots : Nat} {Q : State → Prop}
variable {cc : ByteArray} {pc : Nat} {ls : Array Slot} {rest : List Value} {D : va_G} {A : Nat → Prop} {tys : List (ClassId × FieldType)} {w0 : va_W} {H0 : Heap} {a idx : Nat} {fv : List Value} {v : Value} {cl : List vw_C}
theorem mg (hx : p.tables.exec = Jvm.exec) (hb : c.code = cc) (hts : ∀ w ∈ lw_g, w.before args s = true) (hown : s.vm.findClass R_TM = some m.cls) (hK : va_K D classes tys s) (hP : va_P D classes w0 H) (he : w0[0]? = some (a, .inr (1, fv))) (k : Nat) (hk : k < 16) (hr : (F_TM k).1 = R_TM) (hl : Cond.fieldLink R_TM idx R_TM (F_TM k).2.1 (F_TM k).2.2.1 ∈ lw_g) (hv : fv[k]? = some v) (hd : decode cc pc = .ok (.getfield idx, 3))
    (kk : W p l e R s m args below meth c H locs cells slots Q (F0 m (pc + 3) ls (v :: rest))) : W p l e R s m args below meth c H locs cells slots Q (F0 m pc ls (.ref a :: rest)) :=
  va_get (D := D) (ci := 1) (C := R_TM) (T := F_TM) (N := 16) hx hb hts i_TM hown hK hP 0 he rfl k hk (hts _ hl) (fun _ h => by rw [hr] at h; exact h) hv hd kk
theorem mp (hx : p.tables.exec = Jvm.exec) (hb : c.code = cc) (hts : ∀ w ∈ lw_g, w.before args s = true) (hown : s.vm.findClass R_TM = some m.cls) (hK : va_K D classes tys s) (hP : va_P D classes w0 H) (hD : va_D A w0) (hS : va_S A H0 H locs) (he : w0[0]? = some (a, .inr (1, fv))) (k : Nat) (hk : k < 16) (hr : (F_TM k).1 = R_TM) (hl : Cond.fieldLink R_TM idx R_TM (F_TM k).2.1 (F_TM k).2.2.1 ∈ lw_g) (hfin : (F_TM k).2.2.2 = false) {ty : FieldType} (hty : parseFieldDescriptor (F_TM k).2.2.1 = some ty) (hn : narrow ty v = v) (hf : fits ty v = true) (hlen : k < fv.length) (w1 : va_W) (hw : w0.set 0 (a, .inr (1, fv.set k v)) = w1) (hd : decode cc pc = .ok (.putfield idx, 3))
    (kk : ∀ (H1 : Heap) (locs1 : List Loc), va_P D classes w1 H1 → va_D A w1 → va_S A H0 H1 locs1 → W p l e R s m args below meth c H1 locs1 cells slots Q (F0 m (pc + 3) ls rest)) : W p l e R s m args below meth c H locs cells slots Q (F0 m pc ls (v :: .ref a :: rest)) := by
  subst hw
  exact va_put (D := D) (ci := 1) (C := R_TM) (T := F_TM) (N := 16) hx hb hts i_TM t_TM t_TM_ok n_TM hown hK hP hD hS 0 he rfl k hk (hts _ hl) (fun _ h => by rw [hr] at h; exact h) hfin hty hn hf hlen hd kk
theorem tb_zald (hx : p.tables.exec = Jvm.exec) (hb : c.code = cc) (hK : va_K D cl tys s) (hP : va_P D cl w0 H) (q0 t0 : Nat) {cA : ClassId} {n : Nat} {f : Nat → Int32} (ha : w0[q0]? = some (a, .inl (cA, n, .inl f))) (ht : tys[t0]? = some (cA, .boolean)) {i : Nat} (hi : i < n) (hn : n < 2 ^ 31) (hd : decode cc pc = .ok (.baload, 1))
    (kk : W p l e R s m args below meth c H locs cells slots Q (F0 m (pc + 1) ls (.int (f i) :: rest))) : W p l e R s m args below meth c H locs cells slots Q (F0 m pc ls (.int (nI i) :: .ref a :: rest)) := by
  refine va_zald hx hb hK hP q0 t0 ha ht (vp_in_nI hi hn) hd ?_
  rw [nI_clamp (Nat.lt_trans hi hn)]
  exact kk
theorem tb_zastB (hx : p.tables.exec = Jvm.exec) (hb : c.code = cc) (hK : va_K D cl tys s) (hP : va_P D cl w0 H) (hD : va_D A w0) (hS : va_S A H0 H locs) (q0 t0 : Nat) {cA : ClassId} {n : Nat} {g : Nat → Bool} (ha : w0[q0]? = some (a, .inl (cA, n, .inl (fun j => bI (g j))))) (ht : tys[t0]? = some (cA, .boolean)) {i : Nat} {x : Bool} (hi : i < n) (hn : n < 2 ^ 31) (w1 : va_W) (hw : w0.set q0 (a, .inl (cA, n, .inl (fun j => bI (va_up g i x j)))) = w1) (hd : decode cc pc = .ok (.bastore, 1))
    (kk : ∀ (H1 : Heap) (locs1 : List Loc), va_P D cl w1 H1 → va_D A w1 → va_S A H0 H1 locs1 → W p l e R s m args below meth c H1 locs1 cells slots Q (F0 m (pc + 1) ls rest)) : W p l e R s m args below meth c H locs cells slots Q (F0 m pc ls (.int (bI x) :: .int (nI i) :: .ref a :: rest)) := by
  refine va_zast hx hb hK hP hD hS q0 t0 ha ht (vp_in_nI hi hn) hd ?_
  rw [nI_clamp (Nat.lt_trans hi hn), upd_bI, hw]
  exact kk
end MGP
end
section
set_option maxHeartbeats 4000000 in
set_option maxRecDepth 100000 in
/-- the reference: in -/
theorem mc_in (l : Launch) (dC : Nat → ClassId) (dI : Nat → Nat → Nat) (P : Nat → Nat) (C : Nat → ClassId) (N sz : Nat) (tx lx nu ti : Nat → Int32) (si ro : Nat → Nat) (us : Nat → Bool) (bt : Nat → Int32) (w al now : Nat) (on : Bool) (tl ll : Nat) (i : Nat) (f t : Int32) (hi : i < 1024) : ctI l y_TM_in ws_TM_in (rmD 0) (dC, dI) classes (tys_M C) (mm P C N tx lx nu ti si ro us bt w al now on tl ll) sz [.ref (P 0), .int (nI i), .int f, .int t] (fun (r : Int32) (_ : Unit) => r = bI (in_S ti f t i)) (fun _ => (mm P C N tx lx nu ti si ro us bt w al now on tl ll)) 0 0 := by
  refine tb_metI (own := R_TM) (by decide) rfl rfl (Nat.le_of_ble_eq_true rfl) [(0, .ref (P 0)), (1, .int (nI i)), (2, .int f), (3, .int t)] rfl ?_
  intro p e s m below meth c A ls hx hb hr hml hts hown hlk hnm hA hK hP hD hS hl
  refine lv_aload_n hx hb d_TM_in_0 rfl (lv_at hl 0 rfl) ?_
  refine mg hx hb hts hown hK hP rfl 11 (by decide) rfl fl_TM_20 rfl d_TM_in_1 ?_
  refine lv_iload_n hx hb d_TM_in_4 rfl (lv_at hl 1 rfl) ?_
  refine tb_iald hx hb hK hP 4 3 rfl rfl (by omega) (by decide) d_TM_in_5 ?_
  refine lv_iload_n hx hb d_TM_in_6 rfl (lv_at hl 2 rfl) ?_
  refine lv_icmp_lt (tgt := 24) hx hb d_TM_in_7 (by decide) (fun c_7 => ?_) (fun c_7 => ?_)
  · refine lv_iconst (v := nI 0) hx hb d_TM_in_24 (by decide) ?_
    exact tb_retz hx hb hr hlk hK () hP hD hS (by first | rfl | decide) (by first | (rw [in_S_f1 c_7]; rfl) | (rw [in_S_f2 c_17]; rfl) | (rw [in_S_t c_7 c_17]; rfl)) d_TM_in_25
  · refine lv_aload_n hx hb d_TM_in_10 rfl (lv_at hl 0 rfl) ?_
    refine mg hx hb hts hown hK hP rfl 11 (by decide) rfl fl_TM_20 rfl d_TM_in_11 ?_
    refine lv_iload_n hx hb d_TM_in_14 rfl (lv_at hl 1 rfl) ?_
    refine tb_iald hx hb hK hP 4 3 rfl rfl (by omega) (by decide) d_TM_in_15 ?_
    refine lv_iload_n hx hb d_TM_in_16 rfl (lv_at hl 3 rfl) ?_
    refine lv_icmp_gt (tgt := 24) hx hb d_TM_in_17 (by decide) (fun c_17 => ?_) (fun c_17 => ?_)
    · refine lv_iconst (v := nI 0) hx hb d_TM_in_24 (by decide) ?_
      exact tb_retz hx hb hr hlk hK () hP hD hS (by first | rfl | decide) (by first | (rw [in_S_f1 c_7]; rfl) | (rw [in_S_f2 c_17]; rfl) | (rw [in_S_t c_7 c_17]; rfl)) d_TM_in_25
    · refine lv_iconst (v := nI 1) hx hb d_TM_in_20 (by decide) ?_
      refine lv_goto (tgt := 25) hx hb d_TM_in_21 (by decide) ?_
      exact tb_retz hx hb hr hlk hK () hP hD hS (by first | rfl | decide) (by first | (rw [in_S_f1 c_7]; rfl) | (rw [in_S_f2 c_17]; rfl) | (rw [in_S_t c_7 c_17]; rfl)) d_TM_in_25

set_option maxHeartbeats 4000000 in
set_option maxRecDepth 100000 in
/-- the reference: place -/
theorem mc_place (l : Launch) (dC : Nat → ClassId) (dI : Nat → Nat → Nat) (P : Nat → Nat) (C : Nat → ClassId) (N sz : Nat) (tx lx nu ti : Nat → Int32) (si ro : Nat → Nat) (us : Nat → Bool) (bt : Nat → Int32) (w al now : Nat) (on : Bool) (tl ll : Nat) (kk : Nat) (hw : w ≤ 1024) (hk : kk < 2 ^ 31) : ctI l y_TM_place ws_TM_place (rmD 0) (dC, dI) classes (tys_M C) (mm P C N tx lx nu ti si ro us bt w al now on tl ll) sz [.ref (P 0), .int (nI kk)] (fun (r : Int32) (_ : Unit) => r = oI (pl_o ti kk w w 0 none)) (fun _ => (mm P C N tx lx nu ti si ro us bt w al now on tl ll)) 0 0 := by
  refine tb_metI (own := R_TM) (by decide) rfl rfl (Nat.le_of_ble_eq_true rfl) [(0, .ref (P 0)), (1, .int (nI kk))] rfl ?_
  intro p e s m below meth c A ls hx hb hr hml hts hown hlk hnm hA hK hP hD hS hl
  have loop : ∀ (n i : Nat) (o : Option Nat) (H : Heap) (locs : List Loc) (ls : Array Slot), i + n = w → pl_o ti kk w n i o = pl_o ti kk w w 0 none → va_P (dC, dI) classes (mm P C N tx lx nu ti si ro us bt w al now on tl ll) H → va_D A (mm P C N tx lx nu ti si ro us bt w al now on tl ll) → va_S A s.heap H locs → lv_has ls 6 [(3, .int (nI i)), (2, .int (oI o)), (0, .ref (P 0)), (1, .int (nI kk))] → W p l e (rmD 0) s m [Value.ref (P 0), .int (nI kk)].toArray below meth c H locs 0 0 (MQ below (va_Qi (fun (r : Int32) (_ : Unit) => r = oI (pl_o ti kk w w 0 none)) (fun u tS => va_P (dC, dI) classes ((fun _ => (mm P C N tx lx nu ti si ro us bt w al now on tl ll)) u) tS.heap ∧ va_K (dC, dI) classes (tys_M C) tS ∧ va_D A ((fun _ => (mm P C N tx lx nu ti si ro us bt w al now on tl ll)) u)) A) [Value.ref (P 0), .int (nI kk)].toArray s 0 0 A) (F0 m 4 ls []) := by
    clear hP hD hS hl
    intro n
    induction n with
    | zero =>
      intro i o H locs ls hi hr0 hP hD hS hl
      refine lv_iload_n hx hb d_TM_place_4 rfl (lv_at hl 0 rfl) ?_
      refine lv_aload_n hx hb d_TM_place_5 rfl (lv_at hl 2 rfl) ?_
      refine mg hx hb hts hown hK hP rfl 9 (by decide) rfl fl_TM_44 rfl d_TM_place_6 ?_
      refine lv_icmp_ge (tgt := 99) hx hb d_TM_place_9 (by decide) (fun c_9 => ?_) (fun c_9 => ?_)
      · refine lv_iload_n hx hb d_TM_place_99 rfl (lv_at hl 1 rfl) ?_
        exact tb_reti hx hb hr hlk hK () hP hD hS (by rw [← hr0]; rfl) d_TM_place_100
      · exact absurd (nI_le (by omega) (by omega)) c_9
    | succ n ih =>
      intro i o H locs ls hi hr0 hP hD hS hl
      refine lv_iload_n hx hb d_TM_place_4 rfl (lv_at hl 0 rfl) ?_
      refine lv_aload_n hx hb d_TM_place_5 rfl (lv_at hl 2 rfl) ?_
      refine mg hx hb hts hown hK hP rfl 9 (by decide) rfl fl_TM_44 rfl d_TM_place_6 ?_
      refine lv_icmp_ge (tgt := 99) hx hb d_TM_place_9 (by decide) (fun c_9 => ?_) (fun c_9 => ?_)
      · exact absurd ((nI_leI (by omega) (by omega)).mp c_9) (by omega)
      · refine lv_iconst (v := nI 0) hx hb d_TM_place_12 (by decide) ?_
        refine lv_istore (lv' := [(4, .int (nI 0)), (3, .int (nI i)), (2, .int (oI o)), (0, .ref (P 0)), (1, .int (nI kk))]) hx hb d_TM_place_13 hl (by decide) rfl (fun ls hl => ?_)
        refine lv_iconst (v := nI 0) hx hb d_TM_place_15 (by decide) ?_
        refine lv_istore (lv' := [(5, .int (nI 0)), (4, .int (nI 0)), (3, .int (nI i)), (2, .int (oI o)), (0, .ref (P 0)), (1, .int (nI kk))]) hx hb d_TM_place_16 hl (by decide) rfl (fun ls hl => ?_)
        have inner : ∀ (n2 j q : Nat) (H : Heap) (locs : List Loc) (ls : Array Slot), j + n2 = w → q ≤ j → pl_i ti i n2 j q = pl_i ti i w 0 0 → va_P (dC, dI) classes (mm P C N tx lx nu ti si ro us bt w al now on tl ll) H → va_D A (mm P C N tx lx nu ti si ro us bt w al now on tl ll) → va_S A s.heap H locs → lv_has ls 6 [(5, .int (nI j)), (4, .int (nI q)), (3, .int (nI i)), (2, .int (oI o)), (0, .ref (P 0)), (1, .int (nI kk))] → W p l e (rmD 0) s m [Value.ref (P 0), .int (nI kk)].toArray below meth c H locs 0 0 (MQ below (va_Qi (fun (r : Int32) (_ : Unit) => r = oI (pl_o ti kk w w 0 none)) (fun u tS => va_P (dC, dI) classes ((fun _ => (mm P C N tx lx nu ti si ro us bt w al now on tl ll)) u) tS.heap ∧ va_K (dC, dI) classes (tys_M C) tS ∧ va_D A ((fun _ => (mm P C N tx lx nu ti si ro us bt w al now on tl ll)) u)) A) [Value.ref (P 0), .int (nI kk)].toArray s 0 0 A) (F0 m 18 ls []) := by
          clear hP hD hS hl
          intro n2
          induction n2 with
          | zero =>
            intro j q H locs ls hj hqj hri hP hD hS hl
            refine lv_iload hx hb d_TM_place_18 (lv_at hl 0 rfl) ?_
            refine lv_aload_n hx hb d_TM_place_20 rfl (lv_at hl 4 rfl) ?_
            refine mg hx hb hts hown hK hP rfl 9 (by decide) rfl fl_TM_44 rfl d_TM_place_21 ?_
            refine lv_icmp_ge (tgt := 81) hx hb d_TM_place_24 (by decide) (fun c_24 => ?_) (fun c_24 => ?_)
            · have hri : q = pl_i ti i w 0 0 := hri
              refine lv_iload hx hb d_TM_place_81 (lv_at hl 1 rfl) ?_
              refine lv_iload_n hx hb d_TM_place_83 rfl (lv_at hl 5 rfl) ?_
              refine lv_icmp_ne (tgt := 91) hx hb d_TM_place_84 (by decide) (fun c_84 => ?_) (fun c_84 => ?_)
              · have c_84 : ¬ q = kk := fun q => c_84 ((nI_eq (by omega) (by omega)).mpr q)
                refine lv_iload_n hx hb d_TM_place_91 rfl (lv_at hl 3 rfl) ?_
                refine lv_istore_n (lv' := [(2, .int (oI o)), (5, .int (nI j)), (4, .int (nI q)), (3, .int (nI i)), (0, .ref (P 0)), (1, .int (nI kk))]) hx hb d_TM_place_92 rfl hl (by decide) rfl (fun ls hl => ?_)
                refine lv_iinc (v := nI (i + 1)) (lv' := [(3, .int (nI (i + 1))), (2, .int (oI o)), (5, .int (nI j)), (4, .int (nI q)), (0, .ref (P 0)), (1, .int (nI kk))]) hx hb d_TM_place_93 hl (k := 3) rfl (nI_1 _) (by decide) rfl (fun ls hl => ?_)
                refine lv_goto (tgt := 4) hx hb d_TM_place_96 (by decide) ?_
                exact ih (i + 1) o _ _ _ (by omega) (by rw [← hr0, pl_o, if_neg (by rw [← hri]; exact c_84)]) hP hD hS (lv_sub hl [0, 1, 4, 5] rfl)
              · have c_84 : q = kk := (nI_eq (by omega) (by omega)).mp c_84
                refine lv_iload_n hx hb d_TM_place_87 rfl (lv_at hl 2 rfl) ?_
                refine lv_goto (tgt := 92) hx hb d_TM_place_88 (by decide) ?_
                refine lv_istore_n (lv' := [(2, .int (nI i)), (5, .int (nI j)), (4, .int (nI q)), (3, .int (nI i)), (0, .ref (P 0)), (1, .int (nI kk))]) hx hb d_TM_place_92 rfl hl (by decide) rfl (fun ls hl => ?_)
                refine lv_iinc (v := nI (i + 1)) (lv' := [(3, .int (nI (i + 1))), (2, .int (nI i)), (5, .int (nI j)), (4, .int (nI q)), (0, .ref (P 0)), (1, .int (nI kk))]) hx hb d_TM_place_93 hl (k := 3) rfl (nI_1 _) (by decide) rfl (fun ls hl => ?_)
                refine lv_goto (tgt := 4) hx hb d_TM_place_96 (by decide) ?_
                exact ih (i + 1) (some i) _ _ _ (by omega) (by rw [← hr0, pl_o, if_pos (by rw [← hri]; exact c_84)]) hP hD hS (lv_sub hl [0, 1, 4, 5] rfl)
            · exact absurd (nI_le (by omega) (by omega)) c_24
          | succ n2 ih2 =>
            intro j q H locs ls hj hqj hri hP hD hS hl
            refine lv_iload hx hb d_TM_place_18 (lv_at hl 0 rfl) ?_
            refine lv_aload_n hx hb d_TM_place_20 rfl (lv_at hl 4 rfl) ?_
            refine mg hx hb hts hown hK hP rfl 9 (by decide) rfl fl_TM_44 rfl d_TM_place_21 ?_
            refine lv_icmp_ge (tgt := 81) hx hb d_TM_place_24 (by decide) (fun c_24 => ?_) (fun c_24 => ?_)
            · exact absurd ((nI_leI (by omega) (by omega)).mp c_24) (by omega)
            · refine lv_iload hx hb d_TM_place_27 (lv_at hl 1 rfl) ?_
              refine lv_aload_n hx hb d_TM_place_29 rfl (lv_at hl 4 rfl) ?_
              refine mg hx hb hts hown hK hP rfl 11 (by decide) rfl fl_TM_20 rfl d_TM_place_30 ?_
              refine lv_iload hx hb d_TM_place_33 (lv_at hl 0 rfl) ?_
              refine tb_iald hx hb hK hP 4 3 rfl rfl (by omega) (by decide) d_TM_place_35 ?_
              refine lv_aload_n hx hb d_TM_place_36 rfl (lv_at hl 4 rfl) ?_
              refine mg hx hb hts hown hK hP rfl 11 (by decide) rfl fl_TM_20 rfl d_TM_place_37 ?_
              refine lv_iload_n hx hb d_TM_place_40 rfl (lv_at hl 2 rfl) ?_
              refine tb_iald hx hb hK hP 4 3 rfl rfl (by omega) (by decide) d_TM_place_41 ?_
              refine lv_icmp_lt (tgt := 67) hx hb d_TM_place_42 (by decide) (fun c_42 => ?_) (fun c_42 => ?_)
              · refine lv_iconst (v := nI 1) hx hb d_TM_place_67 (by decide) ?_
                refine lv_goto (tgt := 72) hx hb d_TM_place_68 (by decide) ?_
                refine lv_iadd hx hb d_TM_place_72 ?_
                refine tp_i (nI (q + 1)) (nI_add _ _) ?_
                refine lv_istore (lv' := [(4, .int (nI (q + 1))), (5, .int (nI j)), (3, .int (nI i)), (2, .int (oI o)), (0, .ref (P 0)), (1, .int (nI kk))]) hx hb d_TM_place_73 hl (by decide) rfl (fun ls hl => ?_)
                refine lv_iinc (v := nI (j + 1)) (lv' := [(5, .int (nI (j + 1))), (4, .int (nI (q + 1))), (3, .int (nI i)), (2, .int (oI o)), (0, .ref (P 0)), (1, .int (nI kk))]) hx hb d_TM_place_75 hl (k := 1) rfl (nI_1 _) (by decide) rfl (fun ls hl => ?_)
                refine lv_goto (tgt := 18) hx hb d_TM_place_78 (by decide) ?_
                exact ih2 _ _ _ _ _ (by omega) (by omega) (by rw [← hri, pl_i, if_pos (by first | exact bf_M1 c_42 | exact bf_M3 c_58 c_64)]) hP hD hS (lv_sub hl [0, 1, 2, 3, 4, 5] rfl)
              · refine lv_aload_n hx hb d_TM_place_45 rfl (lv_at hl 4 rfl) ?_
                refine mg hx hb hts hown hK hP rfl 11 (by decide) rfl fl_TM_20 rfl d_TM_place_46 ?_
                refine lv_iload hx hb d_TM_place_49 (lv_at hl 0 rfl) ?_
                refine tb_iald hx hb hK hP 4 3 rfl rfl (by omega) (by decide) d_TM_place_51 ?_
                refine lv_aload_n hx hb d_TM_place_52 rfl (lv_at hl 4 rfl) ?_
                refine mg hx hb hts hown hK hP rfl 11 (by decide) rfl fl_TM_20 rfl d_TM_place_53 ?_
                refine lv_iload_n hx hb d_TM_place_56 rfl (lv_at hl 2 rfl) ?_
                refine tb_iald hx hb hK hP 4 3 rfl rfl (by omega) (by decide) d_TM_place_57 ?_
                refine lv_icmp_ne (tgt := 71) hx hb d_TM_place_58 (by decide) (fun c_58 => ?_) (fun c_58 => ?_)
                · refine lv_iconst (v := nI 0) hx hb d_TM_place_71 (by decide) ?_
                  refine lv_iadd hx hb d_TM_place_72 ?_
                  refine tp_i (nI (q + 0)) (nI_add _ _) ?_
                  refine lv_istore (lv' := [(4, .int (nI (q + 0))), (5, .int (nI j)), (3, .int (nI i)), (2, .int (oI o)), (0, .ref (P 0)), (1, .int (nI kk))]) hx hb d_TM_place_73 hl (by decide) rfl (fun ls hl => ?_)
                  refine lv_iinc (v := nI (j + 1)) (lv' := [(5, .int (nI (j + 1))), (4, .int (nI (q + 0))), (3, .int (nI i)), (2, .int (oI o)), (0, .ref (P 0)), (1, .int (nI kk))]) hx hb d_TM_place_75 hl (k := 1) rfl (nI_1 _) (by decide) rfl (fun ls hl => ?_)
                  refine lv_goto (tgt := 18) hx hb d_TM_place_78 (by decide) ?_
                  exact ih2 _ (q + 0) _ _ _ (by omega) (by omega) (by rw [← hri, pl_i, if_neg (by first | (rw [bf_M2 c_42 c_58]; decide) | (rw [bf_M4 c_42 c_64]; decide))]; rfl) hP hD hS (lv_sub hl [0, 1, 2, 3, 4, 5] rfl)
                · refine lv_iload hx hb d_TM_place_61 (lv_at hl 0 rfl) ?_
                  refine lv_iload_n hx hb d_TM_place_63 rfl (lv_at hl 2 rfl) ?_
                  refine lv_icmp_ge (tgt := 71) hx hb d_TM_place_64 (by decide) (fun c_64 => ?_) (fun c_64 => ?_)
                  · have c_64 : i ≤ j := (nI_leI (by omega) (by omega)).mp c_64
                    refine lv_iconst (v := nI 0) hx hb d_TM_place_71 (by decide) ?_
                    refine lv_iadd hx hb d_TM_place_72 ?_
                    refine tp_i (nI (q + 0)) (nI_add _ _) ?_
                    refine lv_istore (lv' := [(4, .int (nI (q + 0))), (5, .int (nI j)), (3, .int (nI i)), (2, .int (oI o)), (0, .ref (P 0)), (1, .int (nI kk))]) hx hb d_TM_place_73 hl (by decide) rfl (fun ls hl => ?_)
                    refine lv_iinc (v := nI (j + 1)) (lv' := [(5, .int (nI (j + 1))), (4, .int (nI (q + 0))), (3, .int (nI i)), (2, .int (oI o)), (0, .ref (P 0)), (1, .int (nI kk))]) hx hb d_TM_place_75 hl (k := 1) rfl (nI_1 _) (by decide) rfl (fun ls hl => ?_)
                    refine lv_goto (tgt := 18) hx hb d_TM_place_78 (by decide) ?_
                    exact ih2 _ (q + 0) _ _ _ (by omega) (by omega) (by rw [← hri, pl_i, if_neg (by first | (rw [bf_M2 c_42 c_58]; decide) | (rw [bf_M4 c_42 c_64]; decide))]; rfl) hP hD hS (lv_sub hl [0, 1, 2, 3, 4, 5] rfl)
                  · have c_64 : ¬ i ≤ j := fun q => c_64 ((nI_leI (by omega) (by omega)).mpr q)
                    refine lv_iconst (v := nI 1) hx hb d_TM_place_67 (by decide) ?_
                    refine lv_goto (tgt := 72) hx hb d_TM_place_68 (by decide) ?_
                    refine lv_iadd hx hb d_TM_place_72 ?_
                    refine tp_i (nI (q + 1)) (nI_add _ _) ?_
                    refine lv_istore (lv' := [(4, .int (nI (q + 1))), (5, .int (nI j)), (3, .int (nI i)), (2, .int (oI o)), (0, .ref (P 0)), (1, .int (nI kk))]) hx hb d_TM_place_73 hl (by decide) rfl (fun ls hl => ?_)
                    refine lv_iinc (v := nI (j + 1)) (lv' := [(5, .int (nI (j + 1))), (4, .int (nI (q + 1))), (3, .int (nI i)), (2, .int (oI o)), (0, .ref (P 0)), (1, .int (nI kk))]) hx hb d_TM_place_75 hl (k := 1) rfl (nI_1 _) (by decide) rfl (fun ls hl => ?_)
                    refine lv_goto (tgt := 18) hx hb d_TM_place_78 (by decide) ?_
                    exact ih2 _ _ _ _ _ (by omega) (by omega) (by rw [← hri, pl_i, if_pos (by first | exact bf_M1 c_42 | exact bf_M3 c_58 c_64)]) hP hD hS (lv_sub hl [0, 1, 2, 3, 4, 5] rfl)
        exact inner w 0 0 _ _ _ (by omega) (by omega) rfl hP hD hS (lv_sub hl [0, 1, 2, 3, 4, 5] rfl)
  refine lv_iconst (v := (-1)) hx hb d_TM_place_0 (by decide) ?_
  refine lv_istore_n (lv' := [(2, .int (-1)), (0, .ref (P 0)), (1, .int (nI kk))]) hx hb d_TM_place_1 rfl hl (by decide) rfl (fun ls hl => ?_)
  refine lv_iconst (v := nI 0) hx hb d_TM_place_2 (by decide) ?_
  refine lv_istore_n (lv' := [(3, .int (nI 0)), (2, .int (-1)), (0, .ref (P 0)), (1, .int (nI kk))]) hx hb d_TM_place_3 rfl hl (by decide) rfl (fun ls hl => ?_)
  exact loop w 0 none _ _ _ (by omega) rfl hP hD hS (lv_sub hl [0, 1, 2, 3] rfl)

set_option maxHeartbeats 4000000 in
set_option maxRecDepth 100000 in
/-- the reference: drop -/
theorem mc_drop (l : Launch) (dC : Nat → ClassId) (dI : Nat → Nat → Nat) (P : Nat → Nat) (C : Nat → ClassId) (N sz : Nat) (tx lx nu ti : Nat → Int32) (si ro : Nat → Nat) (us : Nat → Bool) (bt : Nat → Int32) (w al now : Nat) (on : Bool) (tl ll : Nat) (i : Nat) (hi : i < w) (hw : w ≤ 1024) (hro : ∀ j, j < w → ro j < 1024) : ctV l y_TM_drop ws_TM_drop (rmD 0) (dC, dI) classes (tys_M C) (mm P C N tx lx nu ti si ro us bt w al now on tl ll) sz [.ref (P 0), .int (nI i)] (fun (_ : Unit) => True) (fun _ => (mm P C N tx lx (dp nu i (w - 1)) (dp ti i (w - 1)) (dp si i (w - 1)) (dp ro i (w - 1)) (va_up us (ro i) false) bt (w - 1) al now on tl ll)) 0 0 := by
  refine tb_metV (own := R_TM) (by decide) rfl rfl (Nat.le_of_ble_eq_true rfl) [(0, .ref (P 0)), (1, .int (nI i))] rfl ?_
  intro p e s m below meth c A ls hx hb hr hml hts hown hlk hnm hA hK hP hD hS hl
  have loop : ∀ (n k : Nat) (H : Heap) (locs : List Loc) (ls : Array Slot), i ≤ k → k + n = w - 1 → va_P (dC, dI) classes (mm P C N tx lx (dp nu i k) (dp ti i k) (dp si i k) (dp ro i k) (va_up us (ro i) false) bt (w - 1) al now on tl ll) H → va_D A (mm P C N tx lx (dp nu i k) (dp ti i k) (dp si i k) (dp ro i k) (va_up us (ro i) false) bt (w - 1) al now on tl ll) → va_S A s.heap H locs → lv_has ls 3 [(2, .int (nI k)), (0, .ref (P 0)), (1, .int (nI i))] → W p l e (rmD 0) s m [Value.ref (P 0), .int (nI i)].toArray below meth c H locs 0 0 (MQ below (va_Qv (fun (_ : Unit) => True) (fun u tS => va_P (dC, dI) classes ((fun _ => (mm P C N tx lx (dp nu i (w - 1)) (dp ti i (w - 1)) (dp si i (w - 1)) (dp ro i (w - 1)) (va_up us (ro i) false) bt (w - 1) al now on tl ll)) u) tS.heap ∧ va_K (dC, dI) classes (tys_M C) tS ∧ va_D A ((fun _ => (mm P C N tx lx (dp nu i (w - 1)) (dp ti i (w - 1)) (dp si i (w - 1)) (dp ro i (w - 1)) (va_up us (ro i) false) bt (w - 1) al now on tl ll)) u)) A) [Value.ref (P 0), .int (nI i)].toArray s 0 0 A) (F0 m 24 ls []) := by
    clear hP hD hS hl
    intro n
    induction n with
    | zero =>
      intro k H locs ls hk hn hP hD hS hl
      refine lv_iload_n hx hb d_TM_drop_24 rfl (lv_at hl 0 rfl) ?_
      refine lv_aload_n hx hb d_TM_drop_25 rfl (lv_at hl 1 rfl) ?_
      refine mg hx hb hts hown hK hP rfl 9 (by decide) rfl fl_TM_44 rfl d_TM_drop_26 ?_
      refine lv_icmp_ge (tgt := 94) hx hb d_TM_drop_29 (by decide) (fun c_29 => ?_) (fun c_29 => ?_)
      · have hk : k = w - 1 := by omega
        subst hk
        exact tb_retv hx hb hr hlk hK () hP hD hS trivial d_TM_drop_94
      · exact absurd (nI_le (by omega) (by omega)) c_29
    | succ n ih =>
      intro k H locs ls hk hn hP hD hS hl
      refine lv_iload_n hx hb d_TM_drop_24 rfl (lv_at hl 0 rfl) ?_
      refine lv_aload_n hx hb d_TM_drop_25 rfl (lv_at hl 1 rfl) ?_
      refine mg hx hb hts hown hK hP rfl 9 (by decide) rfl fl_TM_44 rfl d_TM_drop_26 ?_
      refine lv_icmp_ge (tgt := 94) hx hb d_TM_drop_29 (by decide) (fun c_29 => ?_) (fun c_29 => ?_)
      · exact absurd ((nI_leI (by omega) (by omega)).mp c_29) (by omega)
      · refine lv_aload_n hx hb d_TM_drop_32 rfl (lv_at hl 1 rfl) ?_
        refine mg hx hb hts hown hK hP rfl 10 (by decide) rfl fl_TM_16 rfl d_TM_drop_33 ?_
        refine lv_iload_n hx hb d_TM_drop_36 rfl (lv_at hl 0 rfl) ?_
        refine lv_aload_n hx hb d_TM_drop_37 rfl (lv_at hl 1 rfl) ?_
        refine mg hx hb hts hown hK hP rfl 10 (by decide) rfl fl_TM_16 rfl d_TM_drop_38 ?_
        refine lv_iload_n hx hb d_TM_drop_41 rfl (lv_at hl 0 rfl) ?_
        refine lv_iconst (v := nI 1) hx hb d_TM_drop_42 (by decide) ?_
        refine lv_iadd hx hb d_TM_drop_43 ?_
        refine tp_i (nI (k + 1)) (nI_add _ _) ?_
        refine tb_iald hx hb hK hP 3 2 rfl rfl (by omega) (by decide) d_TM_drop_44 ?_
        refine tb_iast hx hb hK hP hD hS 3 2 rfl rfl (by omega) (by decide) (mm P C N tx lx (upd (dp nu i k) k ((dp nu i k) (k + 1))) (dp ti i k) (dp si i k) (dp ro i k) (va_up us (ro i) false) bt (w - 1) al now on tl ll) rfl d_TM_drop_45 (fun H locs hP hD hS => ?_)
        refine lv_aload_n hx hb d_TM_drop_46 rfl (lv_at hl 1 rfl) ?_
        refine mg hx hb hts hown hK hP rfl 11 (by decide) rfl fl_TM_20 rfl d_TM_drop_47 ?_
        refine lv_iload_n hx hb d_TM_drop_50 rfl (lv_at hl 0 rfl) ?_
        refine lv_aload_n hx hb d_TM_drop_51 rfl (lv_at hl 1 rfl) ?_
        refine mg hx hb hts hown hK hP rfl 11 (by decide) rfl fl_TM_20 rfl d_TM_drop_52 ?_
        refine lv_iload_n hx hb d_TM_drop_55 rfl (lv_at hl 0 rfl) ?_
        refine lv_iconst (v := nI 1) hx hb d_TM_drop_56 (by decide) ?_
        refine lv_iadd hx hb d_TM_drop_57 ?_
        refine tp_i (nI (k + 1)) (nI_add _ _) ?_
        refine tb_iald hx hb hK hP 4 3 rfl rfl (by omega) (by decide) d_TM_drop_58 ?_
        refine tb_iast hx hb hK hP hD hS 4 3 rfl rfl (by omega) (by decide) (mm P C N tx lx (upd (dp nu i k) k ((dp nu i k) (k + 1))) (upd (dp ti i k) k ((dp ti i k) (k + 1))) (dp si i k) (dp ro i k) (va_up us (ro i) false) bt (w - 1) al now on tl ll) rfl d_TM_drop_59 (fun H locs hP hD hS => ?_)
        refine lv_aload_n hx hb d_TM_drop_60 rfl (lv_at hl 1 rfl) ?_
        refine mg hx hb hts hown hK hP rfl 12 (by decide) rfl fl_TM_23 rfl d_TM_drop_61 ?_
        refine lv_iload_n hx hb d_TM_drop_64 rfl (lv_at hl 0 rfl) ?_
        refine lv_aload_n hx hb d_TM_drop_65 rfl (lv_at hl 1 rfl) ?_
        refine mg hx hb hts hown hK hP rfl 12 (by decide) rfl fl_TM_23 rfl d_TM_drop_66 ?_
        refine lv_iload_n hx hb d_TM_drop_69 rfl (lv_at hl 0 rfl) ?_
        refine lv_iconst (v := nI 1) hx hb d_TM_drop_70 (by decide) ?_
        refine lv_iadd hx hb d_TM_drop_71 ?_
        refine tp_i (nI (k + 1)) (nI_add _ _) ?_
        refine tb_iald hx hb hK hP 5 4 rfl rfl (by omega) (by decide) d_TM_drop_72 ?_
        refine tb_iastN hx hb hK hP hD hS 5 4 rfl rfl (by omega) (by decide) (mm P C N tx lx (upd (dp nu i k) k ((dp nu i k) (k + 1))) (upd (dp ti i k) k ((dp ti i k) (k + 1))) (va_up (dp si i k) k ((dp si i k) (k + 1))) (dp ro i k) (va_up us (ro i) false) bt (w - 1) al now on tl ll) rfl d_TM_drop_73 (fun H locs hP hD hS => ?_)
        refine lv_aload_n hx hb d_TM_drop_74 rfl (lv_at hl 1 rfl) ?_
        refine mg hx hb hts hown hK hP rfl 13 (by decide) rfl fl_TM_26 rfl d_TM_drop_75 ?_
        refine lv_iload_n hx hb d_TM_drop_78 rfl (lv_at hl 0 rfl) ?_
        refine lv_aload_n hx hb d_TM_drop_79 rfl (lv_at hl 1 rfl) ?_
        refine mg hx hb hts hown hK hP rfl 13 (by decide) rfl fl_TM_26 rfl d_TM_drop_80 ?_
        refine lv_iload_n hx hb d_TM_drop_83 rfl (lv_at hl 0 rfl) ?_
        refine lv_iconst (v := nI 1) hx hb d_TM_drop_84 (by decide) ?_
        refine lv_iadd hx hb d_TM_drop_85 ?_
        refine tp_i (nI (k + 1)) (nI_add _ _) ?_
        refine tb_iald hx hb hK hP 6 5 rfl rfl (by omega) (by decide) d_TM_drop_86 ?_
        refine tb_iastN hx hb hK hP hD hS 6 5 rfl rfl (by omega) (by decide) (mm P C N tx lx (upd (dp nu i k) k ((dp nu i k) (k + 1))) (upd (dp ti i k) k ((dp ti i k) (k + 1))) (va_up (dp si i k) k ((dp si i k) (k + 1))) (va_up (dp ro i k) k ((dp ro i k) (k + 1))) (va_up us (ro i) false) bt (w - 1) al now on tl ll) rfl d_TM_drop_87 (fun H locs hP hD hS => ?_)
        refine lv_iinc (v := nI (k + 1)) (lv' := [(2, .int (nI (k + 1))), (0, .ref (P 0)), (1, .int (nI i))]) hx hb d_TM_drop_88 hl (k := 0) rfl (nI_1 _) (by decide) rfl (fun ls hl => ?_)
        refine lv_goto (tgt := 24) hx hb d_TM_drop_91 (by decide) ?_
        rw [dp_u nu (by omega), dp_u ti (by omega), dp_v si (by omega), dp_v ro (by omega)] at hP hD
        exact ih _ _ _ _ (by omega) (by omega) hP hD hS (lv_sub hl [0, 1, 2] rfl)
  refine lv_aload_n hx hb d_TM_drop_0 rfl (lv_at hl 0 rfl) ?_
  refine mg hx hb hts hown hK hP rfl 14 (by decide) rfl fl_TM_29 rfl d_TM_drop_1 ?_
  refine lv_aload_n hx hb d_TM_drop_4 rfl (lv_at hl 0 rfl) ?_
  refine mg hx hb hts hown hK hP rfl 13 (by decide) rfl fl_TM_26 rfl d_TM_drop_5 ?_
  refine lv_iload_n hx hb d_TM_drop_8 rfl (lv_at hl 1 rfl) ?_
  refine tb_iald hx hb hK hP 6 5 rfl rfl (by omega) (by decide) d_TM_drop_9 ?_
  refine lv_iconst (v := nI 0) hx hb d_TM_drop_10 (by decide) ?_
  refine tp_i (bI false) rfl ?_
  refine tb_zastB hx hb hK hP hD hS 7 6 rfl rfl (hro _ (by omega)) (by decide) (mm P C N tx lx nu ti si ro (va_up us (ro i) false) bt w al now on tl ll) rfl d_TM_drop_11 (fun H locs hP hD hS => ?_)
  refine lv_aload_n hx hb d_TM_drop_12 rfl (lv_at hl 0 rfl) ?_
  refine lv_dup hx hb d_TM_drop_13 rfl ?_
  refine mg hx hb hts hown hK hP rfl 9 (by decide) rfl fl_TM_44 rfl d_TM_drop_14 ?_
  refine lv_iconst (v := nI 1) hx hb d_TM_drop_17 (by decide) ?_
  refine lv_isub hx hb d_TM_drop_18 ?_
  refine tp_i (nI (w - 1)) (pk_sub (by omega)) ?_
  refine mp (ty := .int) hx hb hts hown hK hP hD hS rfl 9 (by decide) rfl fl_TM_44 rfl (by decide +kernel) (rfl) (rfl) (Nat.le_of_ble_eq_true rfl) (mm P C N tx lx nu ti si ro (va_up us (ro i) false) bt (w - 1) al now on tl ll) rfl d_TM_drop_19 (fun H locs hP hD hS => ?_)
  refine lv_iload_n hx hb d_TM_drop_22 rfl (lv_at hl 1 rfl) ?_
  refine lv_istore_n (lv' := [(2, .int (nI i)), (0, .ref (P 0)), (1, .int (nI i))]) hx hb d_TM_drop_23 rfl hl (by decide) rfl (fun ls hl => ?_)
  exact loop (w - 1 - i) i _ _ _ (Nat.le_refl i) (by omega) (by rw [dp_0, dp_0, dp_0, dp_0]; exact hP) (by rw [dp_0, dp_0, dp_0, dp_0]; exact hD) hS (lv_sub hl [0, 1, 2] rfl)

set_option maxHeartbeats 4000000 in
set_option maxRecDepth 100000 in
/-- the reference: put -/
theorem mc_put (l : Launch) (dC : Nat → ClassId) (dI : Nat → Nat → Nat) (P : Nat → Nat) (C : Nat → ClassId) (N sz : Nat) (tx lx nu ti : Nat → Int32) (si ro : Nat → Nat) (us : Nat → Bool) (bt : Nat → Int32) (w al now : Nat) (on : Bool) (tl ll : Nat) (b : Int32) (htl : tl ≤ 256) : ctI l y_TM_put ws_TM_put (rmD 0) (dC, dI) classes (tys_M C) (mm P C N tx lx nu ti si ro us bt w al now on tl ll) sz [.ref (P 0), .int b] (fun (r : Int32) (u : (Nat → Int32) × Nat) => (r, u) = mp_R tx tl b) (fun u => (mm P C N u.1 lx nu ti si ro us bt w al now on u.2 ll)) 0 0 := by
  refine tb_metI (own := R_TM) (by decide) rfl rfl (Nat.le_of_ble_eq_true rfl) [(0, .ref (P 0)), (1, .int b)] rfl ?_
  intro p e s m below meth c A ls hx hb hr hml hts hown hlk hnm hA hK hP hD hS hl
  refine lv_aload_n hx hb d_TM_put_0 rfl (lv_at hl 0 rfl) ?_
  refine lv_iconst (v := nI 0) hx hb d_TM_put_1 (by decide) ?_
  refine mp (ty := .int) hx hb hts hown hK hP hD hS rfl 0 (by decide) rfl fl_TM_41 rfl (by decide +kernel) (rfl) (rfl) (Nat.le_of_ble_eq_true rfl) (mm P C N tx lx nu ti si ro us bt w al now on tl ll) rfl d_TM_put_2 (fun H locs hP hD hS => ?_)
  refine lv_aload_n hx hb d_TM_put_5 rfl (lv_at hl 0 rfl) ?_
  refine mg hx hb hts hown hK hP rfl 6 (by decide) rfl fl_TM_47 rfl d_TM_put_6 ?_
  refine lv_sipush (v := nI 256) hx hb d_TM_put_9 (by decide) ?_
  refine lv_icmp_ne (tgt := 17) hx hb d_TM_put_12 (by decide) (fun c_12 => ?_) (fun c_12 => ?_)
  · have c_12 : ¬ tl = 256 := fun q => c_12 ((nI_eq (by omega) (by omega)).mpr q)
    refine lv_aload_n hx hb d_TM_put_17 rfl (lv_at hl 0 rfl) ?_
    refine mg hx hb hts hown hK hP rfl 5 (by decide) rfl fl_TM_7 rfl d_TM_put_18 ?_
    refine lv_aload_n hx hb d_TM_put_21 rfl (lv_at hl 0 rfl) ?_
    refine mg hx hb hts hown hK hP rfl 6 (by decide) rfl fl_TM_47 rfl d_TM_put_22 ?_
    refine lv_iload_n hx hb d_TM_put_25 rfl (lv_at hl 1 rfl) ?_
    refine lv_i2b (v := b.toInt8.toInt32) hx hb d_TM_put_26 rfl ?_
    refine tb_bast hx hb hK hP hD hS 1 0 rfl rfl (by omega) (by decide) (mm P C N (upd tx tl (vp_nar .byte b.toInt8.toInt32)) lx nu ti si ro us bt w al now on tl ll) rfl d_TM_put_27 (fun H locs hP hD hS => ?_)
    refine lv_aload_n hx hb d_TM_put_28 rfl (lv_at hl 0 rfl) ?_
    refine lv_dup hx hb d_TM_put_29 rfl ?_
    refine mg hx hb hts hown hK hP rfl 6 (by decide) rfl fl_TM_47 rfl d_TM_put_30 ?_
    refine lv_iconst (v := nI 1) hx hb d_TM_put_33 (by decide) ?_
    refine lv_iadd hx hb d_TM_put_34 ?_
    refine tp_i (nI (tl + 1)) (nI_add _ _) ?_
    refine mp (ty := .int) hx hb hts hown hK hP hD hS rfl 6 (by decide) rfl fl_TM_47 rfl (by decide +kernel) (rfl) (rfl) (Nat.le_of_ble_eq_true rfl) (mm P C N (upd tx tl (vp_nar .byte b.toInt8.toInt32)) lx nu ti si ro us bt w al now on (tl + 1) ll) rfl d_TM_put_35 (fun H locs hP hD hS => ?_)
    refine lv_aload_n hx hb d_TM_put_38 rfl (lv_at hl 0 rfl) ?_
    refine mg hx hb hts hown hK hP rfl 6 (by decide) rfl fl_TM_47 rfl d_TM_put_39 ?_
    exact tb_reti hx hb hr hlk hK (upd tx tl (vp_nar .byte b.toInt8.toInt32), tl + 1) hP hD hS (by rw [mp_R, if_neg c_12]) d_TM_put_42
  · have c_12 : tl = 256 := (nI_eq (by omega) (by omega)).mp c_12
    refine lv_iconst (v := (-1)) hx hb d_TM_put_15 (by decide) ?_
    exact tb_reti hx hb hr hlk hK (tx, tl) hP hD hS (by rw [mp_R, if_pos c_12]) d_TM_put_16

set_option maxHeartbeats 4000000 in
set_option maxRecDepth 100000 in
/-- the reference: enable -/
theorem mc_enable (l : Launch) (dC : Nat → ClassId) (dI : Nat → Nat → Nat) (P : Nat → Nat) (C : Nat → ClassId) (N sz : Nat) (tx lx nu ti : Nat → Int32) (si ro : Nat → Nat) (us : Nat → Bool) (bt : Nat → Int32) (w al now : Nat) (on : Bool) (tl ll : Nat) (b : Bool) : ctV l y_TM_enable ws_TM_enable (rmD 0) (dC, dI) classes (tys_M C) (mm P C N tx lx nu ti si ro us bt w al now on tl ll) sz [.ref (P 0), .int (bI b)] (fun (_ : Unit) => True) (fun _ => (mm P C N tx lx nu ti si ro us bt w al now b tl ll)) 0 0 := by
  refine tb_metV (own := R_TM) (by decide) rfl rfl (Nat.le_of_ble_eq_true rfl) [(0, .ref (P 0)), (1, .int (bI b))] rfl ?_
  intro p e s m below meth c A ls hx hb hr hml hts hown hlk hnm hA hK hP hD hS hl
  refine lv_aload_n hx hb d_TM_enable_0 rfl (lv_at hl 0 rfl) ?_
  refine lv_iconst (v := nI 0) hx hb d_TM_enable_1 (by decide) ?_
  refine mp (ty := .int) hx hb hts hown hK hP hD hS rfl 0 (by decide) rfl fl_TM_41 rfl (by decide +kernel) (rfl) (rfl) (Nat.le_of_ble_eq_true rfl) (mm P C N tx lx nu ti si ro us bt w al now on tl ll) rfl d_TM_enable_2 (fun H locs hP hD hS => ?_)
  refine lv_aload_n hx hb d_TM_enable_5 rfl (lv_at hl 0 rfl) ?_
  refine lv_iload_n hx hb d_TM_enable_6 rfl (lv_at hl 1 rfl) ?_
  refine mp (ty := .boolean) hx hb hts hown hK hP hD hS rfl 3 (by decide) rfl fl_TM_72 rfl (by decide +kernel) (bI_n _) (bI_f _) (Nat.le_of_ble_eq_true rfl) (mm P C N tx lx nu ti si ro us bt w al now b tl ll) rfl d_TM_enable_7 (fun H locs hP hD hS => ?_)
  exact tb_retv hx hb hr hlk hK () hP hD hS trivial d_TM_enable_10

set_option maxHeartbeats 4000000 in
set_option maxRecDepth 100000 in
/-- the reference: isOn -/
theorem mc_isOn (l : Launch) (dC : Nat → ClassId) (dI : Nat → Nat → Nat) (P : Nat → Nat) (C : Nat → ClassId) (N sz : Nat) (tx lx nu ti : Nat → Int32) (si ro : Nat → Nat) (us : Nat → Bool) (bt : Nat → Int32) (w al now : Nat) (on : Bool) (tl ll : Nat)  : ctI l y_TM_isOn ws_TM_isOn (rmD 0) (dC, dI) classes (tys_M C) (mm P C N tx lx nu ti si ro us bt w al now on tl ll) sz [.ref (P 0)] (fun (r : Int32) (_ : Unit) => r = bI on) (fun _ => (mm P C N tx lx nu ti si ro us bt w al now on tl ll)) 0 0 := by
  refine tb_metI (own := R_TM) (by decide) rfl rfl (Nat.le_of_ble_eq_true rfl) [(0, .ref (P 0))] rfl ?_
  intro p e s m below meth c A ls hx hb hr hml hts hown hlk hnm hA hK hP hD hS hl
  refine lv_aload_n hx hb d_TM_isOn_0 rfl (lv_at hl 0 rfl) ?_
  refine lv_iconst (v := nI 0) hx hb d_TM_isOn_1 (by decide) ?_
  refine mp (ty := .int) hx hb hts hown hK hP hD hS rfl 0 (by decide) rfl fl_TM_41 rfl (by decide +kernel) (rfl) (rfl) (Nat.le_of_ble_eq_true rfl) (mm P C N tx lx nu ti si ro us bt w al now on tl ll) rfl d_TM_isOn_2 (fun H locs hP hD hS => ?_)
  refine lv_aload_n hx hb d_TM_isOn_5 rfl (lv_at hl 0 rfl) ?_
  refine mg hx hb hts hown hK hP rfl 3 (by decide) rfl fl_TM_72 rfl d_TM_isOn_6 ?_
  exact tb_retz hx hb hr hlk hK () hP hD hS (bI_n _) rfl d_TM_isOn_9

set_option maxHeartbeats 4000000 in
set_option maxRecDepth 100000 in
/-- the reference: tick -/
theorem mc_tick (l : Launch) (dC : Nat → ClassId) (dI : Nat → Nat → Nat) (P : Nat → Nat) (C : Nat → ClassId) (N sz : Nat) (tx lx nu ti : Nat → Int32) (si ro : Nat → Nat) (us : Nat → Bool) (bt : Nat → Int32) (w al now : Nat) (on : Bool) (tl ll : Nat) (hnow : now < 2147483647) : ctI l y_TM_tick ws_TM_tick (rmD 0) (dC, dI) classes (tys_M C) (mm P C N tx lx nu ti si ro us bt w al now on tl ll) sz [.ref (P 0)] (fun (r : Int32) (_ : Unit) => r = nI (now + 1)) (fun _ => (mm P C N tx lx nu ti si ro us bt w al (now + 1) on tl ll)) 0 0 := by
  refine tb_metI (own := R_TM) (by decide) rfl rfl (Nat.le_of_ble_eq_true rfl) [(0, .ref (P 0))] rfl ?_
  intro p e s m below meth c A ls hx hb hr hml hts hown hlk hnm hA hK hP hD hS hl
  refine lv_aload_n hx hb d_TM_tick_0 rfl (lv_at hl 0 rfl) ?_
  refine lv_iconst (v := nI 0) hx hb d_TM_tick_1 (by decide) ?_
  refine mp (ty := .int) hx hb hts hown hK hP hD hS rfl 0 (by decide) rfl fl_TM_41 rfl (by decide +kernel) (rfl) (rfl) (Nat.le_of_ble_eq_true rfl) (mm P C N tx lx nu ti si ro us bt w al now on tl ll) rfl d_TM_tick_2 (fun H locs hP hD hS => ?_)
  refine lv_aload_n hx hb d_TM_tick_5 rfl (lv_at hl 0 rfl) ?_
  refine mg hx hb hts hown hK hP rfl 2 (by decide) rfl fl_TM_50 rfl d_TM_tick_6 ?_
  refine lv_ldc (v := nI 2147483647) hx hb hown (hts _ k_TM_67) d_TM_tick_9 ?_
  refine lv_icmp_ne (tgt := 16) hx hb d_TM_tick_11 (by decide) (fun c_11 => ?_) (fun c_11 => ?_)
  · have c_11 : ¬ now = 2147483647 := fun q => c_11 ((nI_eq (by omega) (by omega)).mpr q)
    refine lv_aload_n hx hb d_TM_tick_16 rfl (lv_at hl 0 rfl) ?_
    refine lv_dup hx hb d_TM_tick_17 rfl ?_
    refine mg hx hb hts hown hK hP rfl 2 (by decide) rfl fl_TM_50 rfl d_TM_tick_18 ?_
    refine lv_iconst (v := nI 1) hx hb d_TM_tick_21 (by decide) ?_
    refine lv_iadd hx hb d_TM_tick_22 ?_
    refine tp_i (nI (now + 1)) (nI_add _ _) ?_
    refine mp (ty := .int) hx hb hts hown hK hP hD hS rfl 2 (by decide) rfl fl_TM_50 rfl (by decide +kernel) (rfl) (rfl) (Nat.le_of_ble_eq_true rfl) (mm P C N tx lx nu ti si ro us bt w al (now + 1) on tl ll) rfl d_TM_tick_23 (fun H locs hP hD hS => ?_)
    refine lv_aload_n hx hb d_TM_tick_26 rfl (lv_at hl 0 rfl) ?_
    refine mg hx hb hts hown hK hP rfl 2 (by decide) rfl fl_TM_50 rfl d_TM_tick_27 ?_
    exact tb_reti hx hb hr hlk hK () hP hD hS rfl d_TM_tick_30
  · exact absurd ((nI_eq (by omega) (by omega)).mp c_11) (by omega)

set_option maxHeartbeats 4000000 in
set_option maxRecDepth 100000 in
/-- the reference: left -/
theorem mc_left (l : Launch) (dC : Nat → ClassId) (dI : Nat → Nat → Nat) (P : Nat → Nat) (C : Nat → ClassId) (N sz : Nat) (tx lx nu ti : Nat → Int32) (si ro : Nat → Nat) (us : Nat → Bool) (bt : Nat → Int32) (w al now : Nat) (on : Bool) (tl ll : Nat) (j : Int32) (hll : ll ≤ 256) : ctI l y_TM_left ws_TM_left (rmD 0) (dC, dI) classes (tys_M C) (mm P C N tx lx nu ti si ro us bt w al now on tl ll) sz [.ref (P 0), .int j] (fun (r : Int32) (_ : Unit) => r = bo_F lx 0 ll j) (fun _ => (mm P C N tx lx nu ti si ro us bt w al now on tl ll)) 0 0 := by
  refine tb_metI (own := R_TM) (by decide) rfl rfl (Nat.le_of_ble_eq_true rfl) [(0, .ref (P 0)), (1, .int j)] rfl ?_
  intro p e s m below meth c A ls hx hb hr hml hts hown hlk hnm hA hK hP hD hS hl
  refine lv_aload_n hx hb d_TM_left_0 rfl (lv_at hl 0 rfl) ?_
  refine lv_iconst (v := nI 0) hx hb d_TM_left_1 (by decide) ?_
  refine mp (ty := .int) hx hb hts hown hK hP hD hS rfl 0 (by decide) rfl fl_TM_41 rfl (by decide +kernel) (rfl) (rfl) (Nat.le_of_ble_eq_true rfl) (mm P C N tx lx nu ti si ro us bt w al now on tl ll) rfl d_TM_left_2 (fun H locs hP hD hS => ?_)
  refine lv_iload_n hx hb d_TM_left_5 rfl (lv_at hl 1 rfl) ?_
  refine lv_if_lt (tgt := 17) hx hb d_TM_left_6 (by decide) (fun c_6 => ?_) (fun c_6 => ?_)
  · refine lv_iconst (v := (-1)) hx hb d_TM_left_17 (by decide) ?_
    refine lv_goto (tgt := 31) hx hb d_TM_left_18 (by decide) ?_
    exact tb_reti hx hb hr hlk hK () hP hD hS (by first | rw [bo_0 c_6] | rw [bo_1 (Int32.not_lt.mp c_14)] | rw [bo_2 c_6 (Int32.not_le.mpr c_14), Nat.zero_add]) d_TM_left_31
  · refine lv_iload_n hx hb d_TM_left_9 rfl (lv_at hl 1 rfl) ?_
    refine lv_aload_n hx hb d_TM_left_10 rfl (lv_at hl 0 rfl) ?_
    refine mg hx hb hts hown hK hP rfl 8 (by decide) rfl fl_TM_80 rfl d_TM_left_11 ?_
    refine lv_icmp_lt (tgt := 21) hx hb d_TM_left_14 (by decide) (fun c_14 => ?_) (fun c_14 => ?_)
    · have hj := cl_nI c_6
      have hjb : j.toNatClampNeg < ll := cl_lt c_6 c_14 (by omega)
      refine lv_aload_n hx hb d_TM_left_21 rfl (lv_at hl 0 rfl) ?_
      refine mg hx hb hts hown hK hP rfl 7 (by decide) rfl fl_TM_13 rfl d_TM_left_22 ?_
      refine lv_iload_n hx hb d_TM_left_25 rfl (lv_at hl 1 rfl) ?_
      refine tp_i (nI j.toNatClampNeg) (hj) ?_
      refine tb_bald hx hb hK hP 2 1 rfl rfl (by omega) (by decide) d_TM_left_26 ?_
      refine lv_sipush (v := nI 255) hx hb d_TM_left_27 (by decide) ?_
      refine lv_iand hx hb d_TM_left_30 ?_
      exact tb_reti hx hb hr hlk hK () hP hD hS (by first | rw [bo_0 c_6] | rw [bo_1 (Int32.not_lt.mp c_14)] | rw [bo_2 c_6 (Int32.not_le.mpr c_14), Nat.zero_add]) d_TM_left_31
    · refine lv_iconst (v := (-1)) hx hb d_TM_left_17 (by decide) ?_
      refine lv_goto (tgt := 31) hx hb d_TM_left_18 (by decide) ?_
      exact tb_reti hx hb hr hlk hK () hP hD hS (by first | rw [bo_0 c_6] | rw [bo_1 (Int32.not_lt.mp c_14)] | rw [bo_2 c_6 (Int32.not_le.mpr c_14), Nat.zero_add]) d_TM_left_31

set_option maxHeartbeats 4000000 in
set_option maxRecDepth 100000 in
/-- the reference: count -/
theorem mc_count (l : Launch) (dC : Nat → ClassId) (dI : Nat → Nat → Nat) (P : Nat → Nat) (C : Nat → ClassId) (N sz : Nat) (tx lx nu ti : Nat → Int32) (si ro : Nat → Nat) (us : Nat → Bool) (bt : Nat → Int32) (w al now : Nat) (on : Bool) (tl ll : Nat) (k : Int32) : ctI l y_TM_count ws_TM_count (rmD 0) (dC, dI) classes (tys_M C) (mm P C N tx lx nu ti si ro us bt w al now on tl ll) sz [.ref (P 0), .int k] (fun (r : Int32) (_ : Unit) => r = co_F now w al ll k) (fun _ => (mm P C N tx lx nu ti si ro us bt w al now on tl ll)) 0 0 := by
  refine tb_metI (own := R_TM) (by decide) rfl rfl (Nat.le_of_ble_eq_true rfl) [(0, .ref (P 0)), (1, .int k)] rfl ?_
  intro p e s m below meth c A ls hx hb hr hml hts hown hlk hnm hA hK hP hD hS hl
  refine lv_aload_n hx hb d_TM_count_0 rfl (lv_at hl 0 rfl) ?_
  refine lv_iconst (v := nI 0) hx hb d_TM_count_1 (by decide) ?_
  refine mp (ty := .int) hx hb hts hown hK hP hD hS rfl 0 (by decide) rfl fl_TM_41 rfl (by decide +kernel) (rfl) (rfl) (Nat.le_of_ble_eq_true rfl) (mm P C N tx lx nu ti si ro us bt w al now on tl ll) rfl d_TM_count_2 (fun H locs hP hD hS => ?_)
  refine lv_iload_n hx hb d_TM_count_5 rfl (lv_at hl 1 rfl) ?_
  refine lv_if_ne (tgt := 16) hx hb d_TM_count_6 (by decide) (fun c_6 => ?_) (fun c_6 => ?_)
  · refine lv_iload_n hx hb d_TM_count_16 rfl (lv_at hl 1 rfl) ?_
    refine lv_iconst (v := nI 1) hx hb d_TM_count_17 (by decide) ?_
    refine lv_icmp_ne (tgt := 28) hx hb d_TM_count_18 (by decide) (fun c_18 => ?_) (fun c_18 => ?_)
    · refine lv_iload_n hx hb d_TM_count_28 rfl (lv_at hl 1 rfl) ?_
      refine lv_iconst (v := nI 2) hx hb d_TM_count_29 (by decide) ?_
      refine lv_icmp_ne (tgt := 40) hx hb d_TM_count_30 (by decide) (fun c_30 => ?_) (fun c_30 => ?_)
      · refine lv_iload_n hx hb d_TM_count_40 rfl (lv_at hl 1 rfl) ?_
        refine lv_iconst (v := nI 3) hx hb d_TM_count_41 (by decide) ?_
        refine lv_icmp_ne (tgt := 52) hx hb d_TM_count_42 (by decide) (fun c_42 => ?_) (fun c_42 => ?_)
        · refine lv_iconst (v := (-1)) hx hb d_TM_count_52 (by decide) ?_
          exact tb_reti hx hb hr hlk hK () hP hD hS (by first | rw [co_F, if_pos c_6] | rw [co_F, if_neg c_6, if_pos (show k = 1 from c_18)] | rw [co_F, if_neg c_6, if_neg (show ¬ k = 1 from c_18), if_pos (show k = 2 from c_30)] | rw [co_F, if_neg c_6, if_neg (show ¬ k = 1 from c_18), if_neg (show ¬ k = 2 from c_30), if_pos (show k = 3 from c_42)] | rw [co_F, if_neg c_6, if_neg (show ¬ k = 1 from c_18), if_neg (show ¬ k = 2 from c_30), if_neg (show ¬ k = 3 from c_42)]) d_TM_count_53
        · refine lv_aload_n hx hb d_TM_count_45 rfl (lv_at hl 0 rfl) ?_
          refine mg hx hb hts hown hK hP rfl 8 (by decide) rfl fl_TM_80 rfl d_TM_count_46 ?_
          refine lv_goto (tgt := 53) hx hb d_TM_count_49 (by decide) ?_
          exact tb_reti hx hb hr hlk hK () hP hD hS (by first | rw [co_F, if_pos c_6] | rw [co_F, if_neg c_6, if_pos (show k = 1 from c_18)] | rw [co_F, if_neg c_6, if_neg (show ¬ k = 1 from c_18), if_pos (show k = 2 from c_30)] | rw [co_F, if_neg c_6, if_neg (show ¬ k = 1 from c_18), if_neg (show ¬ k = 2 from c_30), if_pos (show k = 3 from c_42)] | rw [co_F, if_neg c_6, if_neg (show ¬ k = 1 from c_18), if_neg (show ¬ k = 2 from c_30), if_neg (show ¬ k = 3 from c_42)]) d_TM_count_53
      · refine lv_aload_n hx hb d_TM_count_33 rfl (lv_at hl 0 rfl) ?_
        refine mg hx hb hts hown hK hP rfl 4 (by decide) rfl fl_TM_53 rfl d_TM_count_34 ?_
        refine lv_goto (tgt := 53) hx hb d_TM_count_37 (by decide) ?_
        exact tb_reti hx hb hr hlk hK () hP hD hS (by first | rw [co_F, if_pos c_6] | rw [co_F, if_neg c_6, if_pos (show k = 1 from c_18)] | rw [co_F, if_neg c_6, if_neg (show ¬ k = 1 from c_18), if_pos (show k = 2 from c_30)] | rw [co_F, if_neg c_6, if_neg (show ¬ k = 1 from c_18), if_neg (show ¬ k = 2 from c_30), if_pos (show k = 3 from c_42)] | rw [co_F, if_neg c_6, if_neg (show ¬ k = 1 from c_18), if_neg (show ¬ k = 2 from c_30), if_neg (show ¬ k = 3 from c_42)]) d_TM_count_53
    · refine lv_aload_n hx hb d_TM_count_21 rfl (lv_at hl 0 rfl) ?_
      refine mg hx hb hts hown hK hP rfl 9 (by decide) rfl fl_TM_44 rfl d_TM_count_22 ?_
      refine lv_goto (tgt := 53) hx hb d_TM_count_25 (by decide) ?_
      exact tb_reti hx hb hr hlk hK () hP hD hS (by first | rw [co_F, if_pos c_6] | rw [co_F, if_neg c_6, if_pos (show k = 1 from c_18)] | rw [co_F, if_neg c_6, if_neg (show ¬ k = 1 from c_18), if_pos (show k = 2 from c_30)] | rw [co_F, if_neg c_6, if_neg (show ¬ k = 1 from c_18), if_neg (show ¬ k = 2 from c_30), if_pos (show k = 3 from c_42)] | rw [co_F, if_neg c_6, if_neg (show ¬ k = 1 from c_18), if_neg (show ¬ k = 2 from c_30), if_neg (show ¬ k = 3 from c_42)]) d_TM_count_53
  · refine lv_aload_n hx hb d_TM_count_9 rfl (lv_at hl 0 rfl) ?_
    refine mg hx hb hts hown hK hP rfl 2 (by decide) rfl fl_TM_50 rfl d_TM_count_10 ?_
    refine lv_goto (tgt := 53) hx hb d_TM_count_13 (by decide) ?_
    exact tb_reti hx hb hr hlk hK () hP hD hS (by first | rw [co_F, if_pos c_6] | rw [co_F, if_neg c_6, if_pos (show k = 1 from c_18)] | rw [co_F, if_neg c_6, if_neg (show ¬ k = 1 from c_18), if_pos (show k = 2 from c_30)] | rw [co_F, if_neg c_6, if_neg (show ¬ k = 1 from c_18), if_neg (show ¬ k = 2 from c_30), if_pos (show k = 3 from c_42)] | rw [co_F, if_neg c_6, if_neg (show ¬ k = 1 from c_18), if_neg (show ¬ k = 2 from c_30), if_neg (show ¬ k = 3 from c_42)]) d_TM_count_53
end
section
set_option maxHeartbeats 4000000 in
set_option maxRecDepth 100000 in
/-- the reference: remove -/
theorem mc_remove (l : Launch) (dC : Nat → ClassId) (dI : Nat → Nat → Nat) (P : Nat → Nat) (C : Nat → ClassId) (N sz : Nat) (tx lx nu ti : Nat → Int32) (si ro : Nat → Nat) (us : Nat → Bool) (bt : Nat → Int32) (w al now : Nat) (on : Bool) (tl ll : Nat) (x : Int32) (hw : w ≤ 1024) (hro : ∀ j, j < w → ro j < 1024) : ctI l y_TM_remove ws_TM_remove (rmD 1) (dC, dI) classes (tys_M C) (mm P C N tx lx nu ti si ro us bt w al now on tl ll) sz [.ref (P 0), .int x] (fun (r : Int32) (u : MS) => r = nI (m_rm (fun a _ => decide (a = x)) w (nu, ti, si, ro, us, w) 0).2 ∧ u = (m_rm (fun a _ => decide (a = x)) w (nu, ti, si, ro, us, w) 0).1) (fun u => (mm P C N tx lx u.1 u.2.1 u.2.2.1 u.2.2.2.1 u.2.2.2.2.1 bt u.2.2.2.2.2 al now on tl ll)) 0 0 := by
  refine tb_metI (own := R_TM) (by decide) rfl rfl (Nat.le_of_ble_eq_true rfl) [(0, .ref (P 0)), (1, .int x)] rfl ?_
  intro p e s m below meth c A ls hx hb hr hml hts hown hlk hnm hA hK hP hD hS hl
  have loop : ∀ (n : Nat) (v : MS) (q : Nat) (H : Heap) (locs : List Loc) (ls : Array Slot), n ≤ v.2.2.2.2.2 → v.2.2.2.2.2 ≤ 1024 → (∀ j, j < v.2.2.2.2.2 → v.2.2.2.1 j < 1024) → q ≤ 1024 → q + n ≤ w → m_rm (fun a _ => decide (a = x)) n v q = m_rm (fun a _ => decide (a = x)) w (nu, ti, si, ro, us, w) 0 → va_P (dC, dI) classes (mm P C N tx lx v.1 v.2.1 v.2.2.1 v.2.2.2.1 v.2.2.2.2.1 bt v.2.2.2.2.2 al now on tl ll) H → va_D A (mm P C N tx lx v.1 v.2.1 v.2.2.1 v.2.2.2.1 v.2.2.2.2.1 bt v.2.2.2.2.2 al now on tl ll) → va_S A s.heap H locs → lv_has ls 4 [(3, .int (im n)), (2, .int (nI q)), (0, .ref (P 0)), (1, .int x)] → W p l e (rmD 1) s m [Value.ref (P 0), .int x].toArray below meth c H locs 0 0 (MQ below (va_Qi (fun (r : Int32) (u : MS) => r = nI (m_rm (fun a _ => decide (a = x)) w (nu, ti, si, ro, us, w) 0).2 ∧ u = (m_rm (fun a _ => decide (a = x)) w (nu, ti, si, ro, us, w) 0).1) (fun u tS => va_P (dC, dI) classes ((fun u => (mm P C N tx lx u.1 u.2.1 u.2.2.1 u.2.2.2.1 u.2.2.2.2.1 bt u.2.2.2.2.2 al now on tl ll)) u) tS.heap ∧ va_K (dC, dI) classes (tys_M C) tS ∧ va_D A ((fun u => (mm P C N tx lx u.1 u.2.1 u.2.2.1 u.2.2.2.1 u.2.2.2.2.1 bt u.2.2.2.2.2 al now on tl ll)) u)) A) [Value.ref (P 0), .int x].toArray s 0 0 A) (F0 m 14 ls []) := by
    clear hP hD hS hl
    intro n
    induction n with
    | zero =>
      intro v q H locs ls hv0 hv1 hv2 hq hqn hr0 hP hD hS hl
      refine lv_iload_n hx hb d_TM_remove_14 rfl (lv_at hl 0 rfl) ?_
      refine lv_if_lt (tgt := 42) hx hb d_TM_remove_15 (by decide) (fun c_15 => ?_) (fun c_15 => ?_)
      · refine lv_iload_n hx hb d_TM_remove_42 rfl (lv_at hl 1 rfl) ?_
        exact tb_reti hx hb hr hlk hK v hP hD hS ⟨by rw [← hr0]; rfl, by rw [← hr0]; rfl⟩ d_TM_remove_43
      · exact absurd im_0 c_15
    | succ n ih =>
      intro v q H locs ls hv0 hv1 hv2 hq hqn hr0 hP hD hS hl
      rw [im_s] at hl
      refine lv_iload_n hx hb d_TM_remove_14 rfl (lv_at hl 0 rfl) ?_
      refine lv_if_lt (tgt := 42) hx hb d_TM_remove_15 (by decide) (fun c_15 => ?_) (fun c_15 => ?_)
      · exact absurd c_15 (nI_pos (by omega))
      · refine lv_aload_n hx hb d_TM_remove_18 rfl (lv_at hl 2 rfl) ?_
        refine mg hx hb hts hown hK hP rfl 10 (by decide) rfl fl_TM_16 rfl d_TM_remove_19 ?_
        refine lv_iload_n hx hb d_TM_remove_22 rfl (lv_at hl 0 rfl) ?_
        refine tb_iald hx hb hK hP 3 2 rfl rfl (by omega) (by decide) d_TM_remove_23 ?_
        refine lv_iload_n hx hb d_TM_remove_24 rfl (lv_at hl 3 rfl) ?_
        refine lv_icmp_ne (tgt := 36) hx hb d_TM_remove_25 (by decide) (fun c_25 => ?_) (fun c_25 => ?_)
        · have c_kp : ¬ decide (v.1 n = x) = true := by simp [c_25]
          refine lv_iinc (v := im n) (lv' := [(3, .int (im n)), (2, .int (nI q)), (0, .ref (P 0)), (1, .int x)]) hx hb d_TM_remove_36 hl (k := 0) rfl (im_d n) (by decide) rfl (fun ls hl => ?_)
          refine lv_goto (tgt := 14) hx hb d_TM_remove_39 (by decide) ?_
          exact ih v q _ _ _ (by omega) hv1 hv2 hq (by omega) (by rw [← hr0, m_rm, if_neg c_kp]) hP hD hS (lv_sub hl [0, 1, 2, 3] rfl)
        · have c_kp : decide (v.1 n = x) = true := by simp [c_25]
          refine lv_aload_n hx hb d_TM_remove_28 rfl (lv_at hl 2 rfl) ?_
          refine lv_iload_n hx hb d_TM_remove_29 rfl (lv_at hl 0 rfl) ?_
          refine tb_callv (mc_drop l dC dI P C N H.size tx lx v.1 v.2.1 v.2.2.1 v.2.2.2.1 v.2.2.2.2.1 bt v.2.2.2.2.2 al now on tl ll n (by omega) hv1 hv2) ⟨hx, hb, hml, hown, hts⟩ (cwV 1 hts g_TM_56 rfl rfl rfl (by decide +kernel) ⟨Nat.le_of_ble_eq_true rfl, Nat.le_of_ble_eq_true rfl⟩) hK hP hD hS hA 1 rfl 0 rfl rfl hl.1 rfl (Nat.le_of_ble_eq_true rfl) d_TM_remove_30 ⟨Nat.le_refl _, Nat.le_refl _⟩ (fun u H locs hwc hP hD hS => ?_)
          refine lv_iinc (v := nI (q + 1)) (lv' := [(2, .int (nI (q + 1))), (3, .int (nI n)), (0, .ref (P 0)), (1, .int x)]) hx hb d_TM_remove_33 hl (k := 1) rfl (nI_1 _) (by decide) rfl (fun ls hl => ?_)
          refine lv_iinc (v := im n) (lv' := [(3, .int (im n)), (2, .int (nI (q + 1))), (0, .ref (P 0)), (1, .int x)]) hx hb d_TM_remove_36 hl (k := 1) rfl (im_d n) (by decide) rfl (fun ls hl => ?_)
          refine lv_goto (tgt := 14) hx hb d_TM_remove_39 (by decide) ?_
          exact ih (m_dp v n) (q + 1) _ _ _ (by show n ≤ v.2.2.2.2.2 - 1; omega) (by show v.2.2.2.2.2 - 1 ≤ 1024; omega) (dp_lt hv2) (by omega) (by omega) (by rw [← hr0, m_rm, if_pos c_kp]) hP hD hS (lv_sub hl [0, 1, 2, 3] rfl)
  refine lv_aload_n hx hb d_TM_remove_0 rfl (lv_at hl 0 rfl) ?_
  refine lv_iconst (v := nI 0) hx hb d_TM_remove_1 (by decide) ?_
  refine mp (ty := .int) hx hb hts hown hK hP hD hS rfl 0 (by decide) rfl fl_TM_41 rfl (by decide +kernel) (rfl) (rfl) (Nat.le_of_ble_eq_true rfl) (mm P C N tx lx nu ti si ro us bt w al now on tl ll) rfl d_TM_remove_2 (fun H locs hP hD hS => ?_)
  refine lv_iconst (v := nI 0) hx hb d_TM_remove_5 (by decide) ?_
  refine lv_istore_n (lv' := [(2, .int (nI 0)), (0, .ref (P 0)), (1, .int x)]) hx hb d_TM_remove_6 rfl hl (by decide) rfl (fun ls hl => ?_)
  refine lv_aload_n hx hb d_TM_remove_7 rfl (lv_at hl 1 rfl) ?_
  refine mg hx hb hts hown hK hP rfl 9 (by decide) rfl fl_TM_44 rfl d_TM_remove_8 ?_
  refine lv_iconst (v := nI 1) hx hb d_TM_remove_11 (by decide) ?_
  refine lv_isub hx hb d_TM_remove_12 ?_
  refine tp_i (im w) (rfl) ?_
  refine lv_istore_n (lv' := [(3, .int (im w)), (2, .int (nI 0)), (0, .ref (P 0)), (1, .int x)]) hx hb d_TM_remove_13 rfl hl (by decide) rfl (fun ls hl => ?_)
  exact loop w (nu, ti, si, ro, us, w) 0 _ _ _ (Nat.le_refl w) hw hro (by omega) (by omega) rfl hP hD hS (lv_sub hl [0, 1, 2, 3] rfl)

set_option maxHeartbeats 4000000 in
set_option maxRecDepth 100000 in
/-- the reference: removeSpan -/
theorem mc_removeSpan (l : Launch) (dC : Nat → ClassId) (dI : Nat → Nat → Nat) (P : Nat → Nat) (C : Nat → ClassId) (N sz : Nat) (tx lx nu ti : Nat → Int32) (si ro : Nat → Nat) (us : Nat → Bool) (bt : Nat → Int32) (w al now : Nat) (on : Bool) (tl ll : Nat) (f t : Int32) (hw : w ≤ 1024) (hro : ∀ j, j < w → ro j < 1024) : ctI l y_TM_removeSpan ws_TM_removeSpan (rmD 1) (dC, dI) classes (tys_M C) (mm P C N tx lx nu ti si ro us bt w al now on tl ll) sz [.ref (P 0), .int f, .int t] (fun (r : Int32) (u : MS) => r = nI (m_rm (fun _ b => decide (f ≤ b) && decide (b ≤ t)) w (nu, ti, si, ro, us, w) 0).2 ∧ u = (m_rm (fun _ b => decide (f ≤ b) && decide (b ≤ t)) w (nu, ti, si, ro, us, w) 0).1) (fun u => (mm P C N tx lx u.1 u.2.1 u.2.2.1 u.2.2.2.1 u.2.2.2.2.1 bt u.2.2.2.2.2 al now on tl ll)) 0 0 := by
  refine tb_metI (own := R_TM) (by decide) rfl rfl (Nat.le_of_ble_eq_true rfl) [(0, .ref (P 0)), (1, .int f), (2, .int t)] rfl ?_
  intro p e s m below meth c A ls hx hb hr hml hts hown hlk hnm hA hK hP hD hS hl
  have loop : ∀ (n : Nat) (v : MS) (q : Nat) (H : Heap) (locs : List Loc) (ls : Array Slot), n ≤ v.2.2.2.2.2 → v.2.2.2.2.2 ≤ 1024 → (∀ j, j < v.2.2.2.2.2 → v.2.2.2.1 j < 1024) → q ≤ 1024 → q + n ≤ w → m_rm (fun _ b => decide (f ≤ b) && decide (b ≤ t)) n v q = m_rm (fun _ b => decide (f ≤ b) && decide (b ≤ t)) w (nu, ti, si, ro, us, w) 0 → va_P (dC, dI) classes (mm P C N tx lx v.1 v.2.1 v.2.2.1 v.2.2.2.1 v.2.2.2.2.1 bt v.2.2.2.2.2 al now on tl ll) H → va_D A (mm P C N tx lx v.1 v.2.1 v.2.2.1 v.2.2.2.1 v.2.2.2.2.1 bt v.2.2.2.2.2 al now on tl ll) → va_S A s.heap H locs → lv_has ls 5 [(4, .int (im n)), (3, .int (nI q)), (0, .ref (P 0)), (1, .int f), (2, .int t)] → W p l e (rmD 1) s m [Value.ref (P 0), .int f, .int t].toArray below meth c H locs 0 0 (MQ below (va_Qi (fun (r : Int32) (u : MS) => r = nI (m_rm (fun _ b => decide (f ≤ b) && decide (b ≤ t)) w (nu, ti, si, ro, us, w) 0).2 ∧ u = (m_rm (fun _ b => decide (f ≤ b) && decide (b ≤ t)) w (nu, ti, si, ro, us, w) 0).1) (fun u tS => va_P (dC, dI) classes ((fun u => (mm P C N tx lx u.1 u.2.1 u.2.2.1 u.2.2.2.1 u.2.2.2.2.1 bt u.2.2.2.2.2 al now on tl ll)) u) tS.heap ∧ va_K (dC, dI) classes (tys_M C) tS ∧ va_D A ((fun u => (mm P C N tx lx u.1 u.2.1 u.2.2.1 u.2.2.2.1 u.2.2.2.2.1 bt u.2.2.2.2.2 al now on tl ll)) u)) A) [Value.ref (P 0), .int f, .int t].toArray s 0 0 A) (F0 m 15 ls []) := by
    clear hP hD hS hl
    intro n
    induction n with
    | zero =>
      intro v q H locs ls hv0 hv1 hv2 hq hqn hr0 hP hD hS hl
      refine lv_iload hx hb d_TM_removeSpan_15 (lv_at hl 0 rfl) ?_
      refine lv_if_lt (tgt := 46) hx hb d_TM_removeSpan_17 (by decide) (fun c_17 => ?_) (fun c_17 => ?_)
      · refine lv_iload_n hx hb d_TM_removeSpan_46 rfl (lv_at hl 1 rfl) ?_
        exact tb_reti hx hb hr hlk hK v hP hD hS ⟨by rw [← hr0]; rfl, by rw [← hr0]; rfl⟩ d_TM_removeSpan_47
      · exact absurd im_0 c_17
    | succ n ih =>
      intro v q H locs ls hv0 hv1 hv2 hq hqn hr0 hP hD hS hl
      rw [im_s] at hl
      refine lv_iload hx hb d_TM_removeSpan_15 (lv_at hl 0 rfl) ?_
      refine lv_if_lt (tgt := 46) hx hb d_TM_removeSpan_17 (by decide) (fun c_17 => ?_) (fun c_17 => ?_)
      · exact absurd c_17 (nI_pos (by omega))
      · refine lv_aload_n hx hb d_TM_removeSpan_20 rfl (lv_at hl 2 rfl) ?_
        refine lv_iload hx hb d_TM_removeSpan_21 (lv_at hl 0 rfl) ?_
        refine lv_iload_n hx hb d_TM_removeSpan_23 rfl (lv_at hl 3 rfl) ?_
        refine lv_iload_n hx hb d_TM_removeSpan_24 rfl (lv_at hl 4 rfl) ?_
        refine tb_calli (mc_in l dC dI P C N H.size tx lx v.1 v.2.1 v.2.2.1 v.2.2.2.1 v.2.2.2.2.1 bt v.2.2.2.2.2 al now on tl ll n f t (by omega)) ⟨hx, hb, hml, hown, hts⟩ (cwV 3 hts g_TM_60 rfl rfl rfl (by decide +kernel) ⟨Nat.le_of_ble_eq_true rfl, Nat.le_of_ble_eq_true rfl⟩) hK hP hD hS hA 1 rfl 0 rfl rfl hl.1 rfl (Nat.le_of_ble_eq_true rfl) d_TM_removeSpan_25 ⟨Nat.le_refl _, Nat.le_refl _⟩ (fun r u H locs hwc hP hD hS => ?_)
        subst hwc
        refine lv_if_eq (tgt := 40) hx hb d_TM_removeSpan_28 (by decide) (fun c_28 => ?_) (fun c_28 => ?_)
        · have c_kp : ¬ (decide (f ≤ v.2.1 n) && decide (v.2.1 n ≤ t)) = true := by have hz := bI_0 c_28; unfold in_S at hz; rw [hz]; decide
          refine lv_iinc (v := im n) (lv' := [(4, .int (im n)), (3, .int (nI q)), (0, .ref (P 0)), (1, .int f), (2, .int t)]) hx hb d_TM_removeSpan_40 hl (k := 0) rfl (im_d n) (by decide) rfl (fun ls hl => ?_)
          refine lv_goto (tgt := 15) hx hb d_TM_removeSpan_43 (by decide) ?_
          exact ih v q _ _ _ (by omega) hv1 hv2 hq (by omega) (by rw [← hr0, m_rm, if_neg c_kp]) hP hD hS (lv_sub hl [0, 1, 2, 3, 4] rfl)
        · have c_kp : (decide (f ≤ v.2.1 n) && decide (v.2.1 n ≤ t)) = true := bI_1 c_28
          refine lv_aload_n hx hb d_TM_removeSpan_31 rfl (lv_at hl 2 rfl) ?_
          refine lv_iload hx hb d_TM_removeSpan_32 (lv_at hl 0 rfl) ?_
          refine tb_callv (mc_drop l dC dI P C N H.size tx lx v.1 v.2.1 v.2.2.1 v.2.2.2.1 v.2.2.2.2.1 bt v.2.2.2.2.2 al now on tl ll n (by omega) hv1 hv2) ⟨hx, hb, hml, hown, hts⟩ (cwV 1 hts g_TM_56 rfl rfl rfl (by decide +kernel) ⟨Nat.le_of_ble_eq_true rfl, Nat.le_of_ble_eq_true rfl⟩) hK hP hD hS hA 1 rfl 0 rfl rfl hl.1 rfl (Nat.le_of_ble_eq_true rfl) d_TM_removeSpan_34 ⟨Nat.le_refl _, Nat.le_refl _⟩ (fun u H locs hwc hP hD hS => ?_)
          refine lv_iinc (v := nI (q + 1)) (lv' := [(3, .int (nI (q + 1))), (4, .int (nI n)), (0, .ref (P 0)), (1, .int f), (2, .int t)]) hx hb d_TM_removeSpan_37 hl (k := 1) rfl (nI_1 _) (by decide) rfl (fun ls hl => ?_)
          refine lv_iinc (v := im n) (lv' := [(4, .int (im n)), (3, .int (nI (q + 1))), (0, .ref (P 0)), (1, .int f), (2, .int t)]) hx hb d_TM_removeSpan_40 hl (k := 1) rfl (im_d n) (by decide) rfl (fun ls hl => ?_)
          refine lv_goto (tgt := 15) hx hb d_TM_removeSpan_43 (by decide) ?_
          exact ih (m_dp v n) (q + 1) _ _ _ (by show n ≤ v.2.2.2.2.2 - 1; omega) (by show v.2.2.2.2.2 - 1 ≤ 1024; omega) (dp_lt hv2) (by omega) (by omega) (by rw [← hr0, m_rm, if_pos c_kp]) hP hD hS (lv_sub hl [0, 1, 2, 3, 4] rfl)
  refine lv_aload_n hx hb d_TM_removeSpan_0 rfl (lv_at hl 0 rfl) ?_
  refine lv_iconst (v := nI 0) hx hb d_TM_removeSpan_1 (by decide) ?_
  refine mp (ty := .int) hx hb hts hown hK hP hD hS rfl 0 (by decide) rfl fl_TM_41 rfl (by decide +kernel) (rfl) (rfl) (Nat.le_of_ble_eq_true rfl) (mm P C N tx lx nu ti si ro us bt w al now on tl ll) rfl d_TM_removeSpan_2 (fun H locs hP hD hS => ?_)
  refine lv_iconst (v := nI 0) hx hb d_TM_removeSpan_5 (by decide) ?_
  refine lv_istore_n (lv' := [(3, .int (nI 0)), (0, .ref (P 0)), (1, .int f), (2, .int t)]) hx hb d_TM_removeSpan_6 rfl hl (by decide) rfl (fun ls hl => ?_)
  refine lv_aload_n hx hb d_TM_removeSpan_7 rfl (lv_at hl 1 rfl) ?_
  refine mg hx hb hts hown hK hP rfl 9 (by decide) rfl fl_TM_44 rfl d_TM_removeSpan_8 ?_
  refine lv_iconst (v := nI 1) hx hb d_TM_removeSpan_11 (by decide) ?_
  refine lv_isub hx hb d_TM_removeSpan_12 ?_
  refine tp_i (im w) (rfl) ?_
  refine lv_istore (lv' := [(4, .int (im w)), (3, .int (nI 0)), (0, .ref (P 0)), (1, .int f), (2, .int t)]) hx hb d_TM_removeSpan_13 hl (by decide) rfl (fun ls hl => ?_)
  exact loop w (nu, ti, si, ro, us, w) 0 _ _ _ (Nat.le_refl w) hw hro (by omega) (by omega) rfl hP hD hS (lv_sub hl [0, 1, 2, 3, 4] rfl)

set_option maxHeartbeats 4000000 in
set_option maxRecDepth 100000 in
/-- the reference: reset -/
theorem mc_reset (l : Launch) (dC : Nat → ClassId) (dI : Nat → Nat → Nat) (P : Nat → Nat) (C : Nat → ClassId) (N sz : Nat) (tx lx nu ti : Nat → Int32) (si ro : Nat → Nat) (us : Nat → Bool) (bt : Nat → Int32) (w al now : Nat) (on : Bool) (tl ll : Nat) (hw : w ≤ 1024) (hro : ∀ j, j < w → ro j < 1024) : ctV l y_TM_reset ws_TM_reset (rmD 1) (dC, dI) classes (tys_M C) (mm P C N tx lx nu ti si ro us bt w al now on tl ll) sz [.ref (P 0)] (fun (u : MS) => u = m_rs w (nu, ti, si, ro, us, w)) (fun u => (mm P C N tx lx u.1 u.2.1 u.2.2.1 u.2.2.2.1 u.2.2.2.2.1 bt u.2.2.2.2.2 al now false tl ll)) 0 0 := by
  refine tb_metV (own := R_TM) (by decide) rfl rfl (Nat.le_of_ble_eq_true rfl) [(0, .ref (P 0))] rfl ?_
  intro p e s m below meth c A ls hx hb hr hml hts hown hlk hnm hA hK hP hD hS hl
  have loop : ∀ (n : Nat) (v : MS) (H : Heap) (locs : List Loc) (ls : Array Slot), n = v.2.2.2.2.2 → v.2.2.2.2.2 ≤ 1024 → (∀ j, j < v.2.2.2.2.2 → v.2.2.2.1 j < 1024) → m_rs n v = m_rs w (nu, ti, si, ro, us, w) → va_P (dC, dI) classes (mm P C N tx lx v.1 v.2.1 v.2.2.1 v.2.2.2.1 v.2.2.2.2.1 bt v.2.2.2.2.2 al now false tl ll) H → va_D A (mm P C N tx lx v.1 v.2.1 v.2.2.1 v.2.2.2.1 v.2.2.2.2.1 bt v.2.2.2.2.2 al now false tl ll) → va_S A s.heap H locs → lv_has ls 1 [(0, .ref (P 0))] → W p l e (rmD 1) s m [Value.ref (P 0)].toArray below meth c H locs 0 0 (MQ below (va_Qv (fun (u : MS) => u = m_rs w (nu, ti, si, ro, us, w)) (fun u tS => va_P (dC, dI) classes ((fun u => (mm P C N tx lx u.1 u.2.1 u.2.2.1 u.2.2.2.1 u.2.2.2.2.1 bt u.2.2.2.2.2 al now false tl ll)) u) tS.heap ∧ va_K (dC, dI) classes (tys_M C) tS ∧ va_D A ((fun u => (mm P C N tx lx u.1 u.2.1 u.2.2.1 u.2.2.2.1 u.2.2.2.2.1 bt u.2.2.2.2.2 al now false tl ll)) u)) A) [Value.ref (P 0)].toArray s 0 0 A) (F0 m 10 ls []) := by
    clear hP hD hS hl
    intro n
    induction n with
    | zero =>
      intro v H locs ls hv0 hv1 hv2 hr0 hP hD hS hl
      refine lv_aload_n hx hb d_TM_reset_10 rfl (lv_at hl 0 rfl) ?_
      refine mg hx hb hts hown hK hP rfl 9 (by decide) rfl fl_TM_44 rfl d_TM_reset_11 ?_
      refine lv_if_le (tgt := 30) hx hb d_TM_reset_14 (by decide) (fun c_14 => ?_) (fun c_14 => ?_)
      · exact tb_retv hx hb hr hlk hK v hP hD hS hr0 d_TM_reset_30
      · exact absurd (show nI v.2.2.2.2.2 ≤ 0 by rw [← hv0]; exact Int32.le_refl _) c_14
    | succ n ih =>
      intro v H locs ls hv0 hv1 hv2 hr0 hP hD hS hl
      refine lv_aload_n hx hb d_TM_reset_10 rfl (lv_at hl 0 rfl) ?_
      refine mg hx hb hts hown hK hP rfl 9 (by decide) rfl fl_TM_44 rfl d_TM_reset_11 ?_
      refine lv_if_le (tgt := 30) hx hb d_TM_reset_14 (by decide) (fun c_14 => ?_) (fun c_14 => ?_)
      · exact absurd ((nI_leI (by omega) (by omega)).mp (show nI v.2.2.2.2.2 ≤ nI 0 from c_14)) (by omega)
      · refine lv_aload_n hx hb d_TM_reset_17 rfl (lv_at hl 0 rfl) ?_
        refine lv_aload_n hx hb d_TM_reset_18 rfl (lv_at hl 0 rfl) ?_
        refine mg hx hb hts hown hK hP rfl 9 (by decide) rfl fl_TM_44 rfl d_TM_reset_19 ?_
        refine lv_iconst (v := nI 1) hx hb d_TM_reset_22 (by decide) ?_
        refine lv_isub hx hb d_TM_reset_23 ?_
        refine tp_i (nI n) (by rw [← hv0]; exact nI_pred n) ?_
        refine tb_callv (mc_drop l dC dI P C N H.size tx lx v.1 v.2.1 v.2.2.1 v.2.2.2.1 v.2.2.2.2.1 bt v.2.2.2.2.2 al now false tl ll n (by omega) hv1 hv2) ⟨hx, hb, hml, hown, hts⟩ (cwV 1 hts g_TM_56 rfl rfl rfl (by decide +kernel) ⟨Nat.le_of_ble_eq_true rfl, Nat.le_of_ble_eq_true rfl⟩) hK hP hD hS hA 1 rfl 0 rfl rfl hl.1 rfl (Nat.le_of_ble_eq_true rfl) d_TM_reset_24 ⟨Nat.le_refl _, Nat.le_refl _⟩ (fun u H locs hwc hP hD hS => ?_)
        refine lv_goto (tgt := 10) hx hb d_TM_reset_27 (by decide) ?_
        exact ih (m_dp v n) _ _ _ (by show n = v.2.2.2.2.2 - 1; omega) (by show v.2.2.2.2.2 - 1 ≤ 1024; omega) (dp_lt hv2) (by rw [← hr0, m_rs]) hP hD hS (lv_sub hl [0] rfl)
  refine lv_aload_n hx hb d_TM_reset_0 rfl (lv_at hl 0 rfl) ?_
  refine lv_iconst (v := nI 0) hx hb d_TM_reset_1 (by decide) ?_
  refine mp (ty := .int) hx hb hts hown hK hP hD hS rfl 0 (by decide) rfl fl_TM_41 rfl (by decide +kernel) (rfl) (rfl) (Nat.le_of_ble_eq_true rfl) (mm P C N tx lx nu ti si ro us bt w al now on tl ll) rfl d_TM_reset_2 (fun H locs hP hD hS => ?_)
  refine lv_aload_n hx hb d_TM_reset_5 rfl (lv_at hl 0 rfl) ?_
  refine lv_iconst (v := nI 0) hx hb d_TM_reset_6 (by decide) ?_
  refine tp_i (bI false) rfl ?_
  refine mp (ty := .boolean) hx hb hts hown hK hP hD hS rfl 3 (by decide) rfl fl_TM_72 rfl (by decide +kernel) (bI_n _) (bI_f _) (Nat.le_of_ble_eq_true rfl) (mm P C N tx lx nu ti si ro us bt w al now false tl ll) rfl d_TM_reset_7 (fun H locs hP hD hS => ?_)
  exact loop w (nu, ti, si, ro, us, w) _ _ _ rfl hw hro rfl hP hD hS (lv_sub hl [0] rfl)

set_option maxHeartbeats 4000000 in
set_option maxRecDepth 100000 in
/-- the reference: move -/
theorem mc_move (l : Launch) (dC : Nat → ClassId) (dI : Nat → Nat → Nat) (P : Nat → Nat) (C : Nat → ClassId) (N sz : Nat) (tx lx nu ti : Nat → Int32) (si ro : Nat → Nat) (us : Nat → Bool) (bt : Nat → Int32) (w al now : Nat) (on : Bool) (tl ll : Nat) (f t b : Int32) (hw : w ≤ 1024) : ctI l y_TM_move ws_TM_move (rmD 1) (dC, dI) classes (tys_M C) (mm P C N tx lx nu ti si ro us bt w al now on tl ll) sz [.ref (P 0), .int f, .int t, .int b] (fun (r : Int32) (_ : Unit) => r = mv_A (mv_F (mv_c (in_S ti f t) (cm_F ti now b) w 0 (fun j => j) 0) none (some (mm_q f t b w 0 ti 0)))) (fun _ => (mm P C N tx lx nu (mv_F (mv_c (in_S ti f t) (cm_F ti now b) w 0 (fun j => j) 0) ti (mv_t f t b w 0 (fun j => j) ti)) si ro us bt w al now on tl ll)) 0 0 := by
  refine tb_metI (own := R_TM) (by decide) rfl rfl (Nat.le_of_ble_eq_true rfl) [(0, .ref (P 0)), (1, .int f), (2, .int t), (3, .int b)] rfl ?_
  intro p e s m below meth c A ls hx hb hr hml hts hown hlk hnm hA hK hP hD hS hl
  have loop2 : ∀ (n k q : Nat) (ti' : Nat → Int32) (H : Heap) (locs : List Loc) (ls : Array Slot), k + n = w → q ≤ k → (∃ z, (mv_c (in_S ti f t) (cm_F ti now b) w 0 (fun j => j) 0) = some z) → mv_t f t b n k (fun j => j) ti' = (mv_t f t b w 0 (fun j => j) ti) → mm_q f t b n k ti' q = mm_q f t b w 0 ti 0 → va_P (dC, dI) classes (mm P C N tx lx nu ti' si ro us bt w al now on tl ll) H → va_D A (mm P C N tx lx nu ti' si ro us bt w al now on tl ll) → va_S A s.heap H locs → lv_has ls 8 [(5, .int (nI k)), (4, .int (nI q)), (0, .ref (P 0)), (1, .int f), (2, .int t), (3, .int b)] → W p l e (rmD 1) s m [Value.ref (P 0), .int f, .int t, .int b].toArray below meth c H locs 0 0 (MQ below (va_Qi (fun (r : Int32) (_ : Unit) => r = mv_A (mv_F (mv_c (in_S ti f t) (cm_F ti now b) w 0 (fun j => j) 0) none (some (mm_q f t b w 0 ti 0)))) (fun u tS => va_P (dC, dI) classes ((fun _ => (mm P C N tx lx nu (mv_F (mv_c (in_S ti f t) (cm_F ti now b) w 0 (fun j => j) 0) ti (mv_t f t b w 0 (fun j => j) ti)) si ro us bt w al now on tl ll)) u) tS.heap ∧ va_K (dC, dI) classes (tys_M C) tS ∧ va_D A ((fun _ => (mm P C N tx lx nu (mv_F (mv_c (in_S ti f t) (cm_F ti now b) w 0 (fun j => j) 0) ti (mv_t f t b w 0 (fun j => j) ti)) si ro us bt w al now on tl ll)) u)) A) [Value.ref (P 0), .int f, .int t, .int b].toArray s 0 0 A) (F0 m 70 ls []) := by
    clear hP hD hS hl
    intro n
    induction n with
    | zero =>
      intro k q ti' H locs ls hn hqk ho hr0 hr1 hP hD hS hl
      refine lv_iload hx hb d_TM_move_70 (lv_at hl 0 rfl) ?_
      refine lv_aload_n hx hb d_TM_move_72 rfl (lv_at hl 2 rfl) ?_
      refine mg hx hb hts hown hK hP rfl 9 (by decide) rfl fl_TM_44 rfl d_TM_move_73 ?_
      refine lv_icmp_ge (tgt := 110) hx hb d_TM_move_76 (by decide) (fun c_76 => ?_) (fun c_76 => ?_)
      · refine lv_iload hx hb d_TM_move_110 (lv_at hl 1 rfl) ?_
        obtain ⟨z, hz⟩ := ho
        have hq1 : ti' = (mv_t f t b w 0 (fun j => j) ti) := hr0
        have hq2 : q = mm_q f t b w 0 ti 0 := hr1
        subst hq1
        have hP : va_P (dC, dI) classes (mm P C N tx lx nu (mv_F (mv_c (in_S ti f t) (cm_F ti now b) w 0 (fun j => j) 0) ti (mv_t f t b w 0 (fun j => j) ti)) si ro us bt w al now on tl ll) H := by rw [hz]; exact hP
        have hD : va_D A (mm P C N tx lx nu (mv_F (mv_c (in_S ti f t) (cm_F ti now b) w 0 (fun j => j) 0) ti (mv_t f t b w 0 (fun j => j) ti)) si ro us bt w al now on tl ll) := by rw [hz]; exact hD
        exact tb_reti hx hb hr hlk hK () hP hD hS (by rw [hz, hq2]; rfl) d_TM_move_112
      · exact absurd (nI_le (by omega) (by omega)) c_76
    | succ n ih =>
      intro k q ti' H locs ls hn hqk ho hr0 hr1 hP hD hS hl
      refine lv_iload hx hb d_TM_move_70 (lv_at hl 0 rfl) ?_
      refine lv_aload_n hx hb d_TM_move_72 rfl (lv_at hl 2 rfl) ?_
      refine mg hx hb hts hown hK hP rfl 9 (by decide) rfl fl_TM_44 rfl d_TM_move_73 ?_
      refine lv_icmp_ge (tgt := 110) hx hb d_TM_move_76 (by decide) (fun c_76 => ?_) (fun c_76 => ?_)
      · exact absurd ((nI_leI (by omega) (by omega)).mp c_76) (by omega)
      · refine lv_aload_n hx hb d_TM_move_79 rfl (lv_at hl 2 rfl) ?_
        refine lv_iload hx hb d_TM_move_80 (lv_at hl 0 rfl) ?_
        refine lv_iload_n hx hb d_TM_move_82 rfl (lv_at hl 3 rfl) ?_
        refine lv_iload_n hx hb d_TM_move_83 rfl (lv_at hl 4 rfl) ?_
        refine tb_calli (mc_in l dC dI P C N H.size tx lx nu ti' si ro us bt w al now on tl ll k f t (by omega)) ⟨hx, hb, hml, hown, hts⟩ (cwV 3 hts g_TM_60 rfl rfl rfl (by decide +kernel) ⟨Nat.le_of_ble_eq_true rfl, Nat.le_of_ble_eq_true rfl⟩) hK hP hD hS hA 1 rfl 0 rfl rfl hl.1 rfl (Nat.le_of_ble_eq_true rfl) d_TM_move_84 ⟨Nat.le_refl _, Nat.le_refl _⟩ (fun r u H locs hwc hP hD hS => ?_)
        subst hwc
        refine lv_if_eq (tgt := 104) hx hb d_TM_move_87 (by decide) (fun c_87 => ?_) (fun c_87 => ?_)
        · have c_87 := bI_0 c_87
          refine lv_iinc (v := nI (k + 1)) (lv' := [(5, .int (nI (k + 1))), (4, .int (nI q)), (0, .ref (P 0)), (1, .int f), (2, .int t), (3, .int b)]) hx hb d_TM_move_104 hl (k := 0) rfl (nI_1 _) (by decide) rfl (fun ls hl => ?_)
          refine lv_goto (tgt := 70) hx hb d_TM_move_107 (by decide) ?_
          exact ih _ _ _ _ _ _ (by omega) (by omega) ho (by rw [← hr0, mv_t, if_neg (by rw [c_87]; decide)]) (by rw [← hr1, mm_q, if_neg (by rw [c_87]; decide)]) hP hD hS (lv_sub hl [0, 1, 2, 3, 4, 5] rfl)
        · have c_87 := bI_1 c_87
          refine lv_aload_n hx hb d_TM_move_90 rfl (lv_at hl 2 rfl) ?_
          refine mg hx hb hts hown hK hP rfl 11 (by decide) rfl fl_TM_20 rfl d_TM_move_91 ?_
          refine lv_iload hx hb d_TM_move_94 (lv_at hl 0 rfl) ?_
          refine lv_dup2_11 hx hb d_TM_move_96 rfl rfl ?_
          refine tb_iald hx hb hK hP 4 3 rfl rfl (by omega) (by decide) d_TM_move_97 ?_
          refine lv_iload_n hx hb d_TM_move_98 rfl (lv_at hl 5 rfl) ?_
          refine lv_iadd hx hb d_TM_move_99 ?_
          refine tb_iast hx hb hK hP hD hS 4 3 rfl rfl (by omega) (by decide) (mm P C N tx lx nu (upd ti' k ((ti' k) + b)) si ro us bt w al now on tl ll) rfl d_TM_move_100 (fun H locs hP hD hS => ?_)
          refine lv_iinc (v := nI (q + 1)) (lv' := [(4, .int (nI (q + 1))), (5, .int (nI k)), (0, .ref (P 0)), (1, .int f), (2, .int t), (3, .int b)]) hx hb d_TM_move_101 hl (k := 1) rfl (nI_1 _) (by decide) rfl (fun ls hl => ?_)
          refine lv_iinc (v := nI (k + 1)) (lv' := [(5, .int (nI (k + 1))), (4, .int (nI (q + 1))), (0, .ref (P 0)), (1, .int f), (2, .int t), (3, .int b)]) hx hb d_TM_move_104 hl (k := 1) rfl (nI_1 _) (by decide) rfl (fun ls hl => ?_)
          refine lv_goto (tgt := 70) hx hb d_TM_move_107 (by decide) ?_
          exact ih _ _ _ _ _ _ (by omega) (by omega) ho (by rw [← hr0, mv_t, if_pos c_87]) (by rw [← hr1, mm_q, if_pos c_87]) hP hD hS (lv_sub hl [0, 1, 2, 3, 4, 5] rfl)
  have loop1 : ∀ (n k q : Nat) (H : Heap) (locs : List Loc) (ls : Array Slot), k + n = w → mv_c (in_S ti f t) (cm_F ti now b) n k (fun j => j) q = (mv_c (in_S ti f t) (cm_F ti now b) w 0 (fun j => j) 0) → va_P (dC, dI) classes (mm P C N tx lx nu ti si ro us bt w al now on tl ll) H → va_D A (mm P C N tx lx nu ti si ro us bt w al now on tl ll) → va_S A s.heap H locs → lv_has ls 8 [(5, .int (nI k)), (4, .int (nI 0)), (0, .ref (P 0)), (1, .int f), (2, .int t), (3, .int b)] → W p l e (rmD 1) s m [Value.ref (P 0), .int f, .int t, .int b].toArray below meth c H locs 0 0 (MQ below (va_Qi (fun (r : Int32) (_ : Unit) => r = mv_A (mv_F (mv_c (in_S ti f t) (cm_F ti now b) w 0 (fun j => j) 0) none (some (mm_q f t b w 0 ti 0)))) (fun u tS => va_P (dC, dI) classes ((fun _ => (mm P C N tx lx nu (mv_F (mv_c (in_S ti f t) (cm_F ti now b) w 0 (fun j => j) 0) ti (mv_t f t b w 0 (fun j => j) ti)) si ro us bt w al now on tl ll)) u) tS.heap ∧ va_K (dC, dI) classes (tys_M C) tS ∧ va_D A ((fun _ => (mm P C N tx lx nu (mv_F (mv_c (in_S ti f t) (cm_F ti now b) w 0 (fun j => j) 0) ti (mv_t f t b w 0 (fun j => j) ti)) si ro us bt w al now on tl ll)) u)) A) [Value.ref (P 0), .int f, .int t, .int b].toArray s 0 0 A) (F0 m 6 ls []) := by
    clear hP hD hS hl
    intro n
    induction n with
    | zero =>
      intro k q H locs ls hn hr0 hP hD hS hl
      refine lv_iload hx hb d_TM_move_6 (lv_at hl 0 rfl) ?_
      refine lv_aload_n hx hb d_TM_move_8 rfl (lv_at hl 2 rfl) ?_
      refine mg hx hb hts hown hK hP rfl 9 (by decide) rfl fl_TM_44 rfl d_TM_move_9 ?_
      refine lv_icmp_ge (tgt := 67) hx hb d_TM_move_12 (by decide) (fun c_12 => ?_) (fun c_12 => ?_)
      · refine lv_iconst (v := nI 0) hx hb d_TM_move_67 (by decide) ?_
        refine lv_istore (lv' := [(5, .int (nI 0)), (4, .int (nI 0)), (0, .ref (P 0)), (1, .int f), (2, .int t), (3, .int b)]) hx hb d_TM_move_68 hl (by decide) rfl (fun ls hl => ?_)
        exact loop2 w 0 0 ti _ _ _ (by omega) (by omega) ⟨q, hr0.symm⟩ rfl rfl hP hD hS (lv_sub hl [0, 1, 2, 3, 4, 5] rfl)
      · exact absurd (nI_le (by omega) (by omega)) c_12
    | succ n ih =>
      intro k q H locs ls hn hr0 hP hD hS hl
      refine lv_iload hx hb d_TM_move_6 (lv_at hl 0 rfl) ?_
      refine lv_aload_n hx hb d_TM_move_8 rfl (lv_at hl 2 rfl) ?_
      refine mg hx hb hts hown hK hP rfl 9 (by decide) rfl fl_TM_44 rfl d_TM_move_9 ?_
      refine lv_icmp_ge (tgt := 67) hx hb d_TM_move_12 (by decide) (fun c_12 => ?_) (fun c_12 => ?_)
      · exact absurd ((nI_leI (by omega) (by omega)).mp c_12) (by omega)
      · refine lv_aload_n hx hb d_TM_move_15 rfl (lv_at hl 2 rfl) ?_
        refine mg hx hb hts hown hK hP rfl 11 (by decide) rfl fl_TM_20 rfl d_TM_move_16 ?_
        refine lv_iload hx hb d_TM_move_19 (lv_at hl 0 rfl) ?_
        refine tb_iald hx hb hK hP 4 3 rfl rfl (by omega) (by decide) d_TM_move_21 ?_
        refine lv_i2l (v := (ti k).toInt64) hx hb d_TM_move_22 rfl ?_
        refine lv_iload_n hx hb d_TM_move_23 rfl (lv_at hl 5 rfl) ?_
        refine lv_i2l (v := b.toInt64) hx hb d_TM_move_24 rfl ?_
        refine lv_ladd hx hb d_TM_move_25 ?_
        refine lv_lstore (lv' := [(6, .long (((ti k).toInt64) + b.toInt64)), (5, .int (nI k)), (4, .int (nI 0)), (0, .ref (P 0)), (1, .int f), (2, .int t), (3, .int b)]) hx hb d_TM_move_26 hl (by decide) rfl (fun ls hl => ?_)
        refine lv_aload_n hx hb d_TM_move_28 rfl (lv_at hl 3 rfl) ?_
        refine lv_iload hx hb d_TM_move_29 (lv_at hl 1 rfl) ?_
        refine lv_iload_n hx hb d_TM_move_31 rfl (lv_at hl 4 rfl) ?_
        refine lv_iload_n hx hb d_TM_move_32 rfl (lv_at hl 5 rfl) ?_
        refine tb_calli (mc_in l dC dI P C N H.size tx lx nu ti si ro us bt w al now on tl ll k f t (by omega)) ⟨hx, hb, hml, hown, hts⟩ (cwV 3 hts g_TM_60 rfl rfl rfl (by decide +kernel) ⟨Nat.le_of_ble_eq_true rfl, Nat.le_of_ble_eq_true rfl⟩) hK hP hD hS hA 1 rfl 0 rfl rfl hl.1 rfl (Nat.le_of_ble_eq_true rfl) d_TM_move_33 ⟨Nat.le_refl _, Nat.le_refl _⟩ (fun r u H locs hwc hP hD hS => ?_)
        subst hwc
        refine lv_if_eq (tgt := 61) hx hb d_TM_move_36 (by decide) (fun c_36 => ?_) (fun c_36 => ?_)
        · have c_36 := bI_0 c_36
          refine lv_iinc (v := nI (k + 1)) (lv' := [(5, .int (nI (k + 1))), (6, .long (((ti k).toInt64) + b.toInt64)), (4, .int (nI 0)), (0, .ref (P 0)), (1, .int f), (2, .int t), (3, .int b)]) hx hb d_TM_move_61 hl (k := 1) rfl (nI_1 _) (by decide) rfl (fun ls hl => ?_)
          refine lv_goto (tgt := 6) hx hb d_TM_move_64 (by decide) ?_
          first | exact ih _ q _ _ _ (by omega) (by rw [← hr0, mv_c, if_neg (by rw [c_36]; decide)]) hP hD hS (lv_sub hl [0, 2, 3, 4, 5, 6] rfl) | exact ih _ (q + 1) _ _ _ (by omega) (by rw [← hr0, mv_c, if_pos c_36, if_pos (cm_1 c_47 (fun z => lg_le.mp c_56 (lg_gt.mp z)))]) hP hD hS (lv_sub hl [0, 2, 3, 4, 5, 6] rfl)
        · have c_36 := bI_1 c_36
          refine lv_lload hx hb d_TM_move_39 (lv_at hl 0 rfl) ?_
          refine lv_aload_n hx hb d_TM_move_41 rfl (lv_at hl 3 rfl) ?_
          refine mg hx hb hts hown hK hP rfl 2 (by decide) rfl fl_TM_50 rfl d_TM_move_42 ?_
          refine lv_i2l (v := (nI now).toInt64) hx hb d_TM_move_45 rfl ?_
          refine W.lcmp hx hb d_TM_move_46 ?_
          refine lv_if_le (tgt := 59) hx hb d_TM_move_47 (by decide) (fun c_47 => ?_) (fun c_47 => ?_)
          · have ho : (mv_c (in_S ti f t) (cm_F ti now b) w 0 (fun j => j) 0) = none := by rw [← hr0, mv_c, if_pos c_36, if_neg (by first | (rw [cm_0 c_47]; decide) | (rw [cm_2 (lg_gt.mpr (Classical.not_not.mp (fun z => c_56 (lg_le.mpr z))))]; decide))]
            have hP : va_P (dC, dI) classes (mm P C N tx lx nu (mv_F (mv_c (in_S ti f t) (cm_F ti now b) w 0 (fun j => j) 0) ti (mv_t f t b w 0 (fun j => j) ti)) si ro us bt w al now on tl ll) H := by rw [ho]; exact hP
            have hD : va_D A (mm P C N tx lx nu (mv_F (mv_c (in_S ti f t) (cm_F ti now b) w 0 (fun j => j) 0) ti (mv_t f t b w 0 (fun j => j) ti)) si ro us bt w al now on tl ll) := by rw [ho]; exact hD
            refine lv_iconst (v := (-1)) hx hb d_TM_move_59 (by decide) ?_
            exact tb_reti hx hb hr hlk hK () hP hD hS (by rw [ho]; rfl) d_TM_move_60
          · refine lv_lload hx hb d_TM_move_50 (lv_at hl 0 rfl) ?_
            refine lv_ldc2 (v := 2147483647) hx hb hown (hts _ k_TM_64) d_TM_move_52 ?_
            refine W.lcmp hx hb d_TM_move_55 ?_
            refine lv_if_le (tgt := 61) hx hb d_TM_move_56 (by decide) (fun c_56 => ?_) (fun c_56 => ?_)
            · refine lv_iinc (v := nI (k + 1)) (lv' := [(5, .int (nI (k + 1))), (6, .long (((ti k).toInt64) + b.toInt64)), (4, .int (nI 0)), (0, .ref (P 0)), (1, .int f), (2, .int t), (3, .int b)]) hx hb d_TM_move_61 hl (k := 1) rfl (nI_1 _) (by decide) rfl (fun ls hl => ?_)
              refine lv_goto (tgt := 6) hx hb d_TM_move_64 (by decide) ?_
              first | exact ih _ q _ _ _ (by omega) (by rw [← hr0, mv_c, if_neg (by rw [c_36]; decide)]) hP hD hS (lv_sub hl [0, 2, 3, 4, 5, 6] rfl) | exact ih _ (q + 1) _ _ _ (by omega) (by rw [← hr0, mv_c, if_pos c_36, if_pos (cm_1 c_47 (fun z => lg_le.mp c_56 (lg_gt.mp z)))]) hP hD hS (lv_sub hl [0, 2, 3, 4, 5, 6] rfl)
            · have ho : (mv_c (in_S ti f t) (cm_F ti now b) w 0 (fun j => j) 0) = none := by rw [← hr0, mv_c, if_pos c_36, if_neg (by first | (rw [cm_0 c_47]; decide) | (rw [cm_2 (lg_gt.mpr (Classical.not_not.mp (fun z => c_56 (lg_le.mpr z))))]; decide))]
              have hP : va_P (dC, dI) classes (mm P C N tx lx nu (mv_F (mv_c (in_S ti f t) (cm_F ti now b) w 0 (fun j => j) 0) ti (mv_t f t b w 0 (fun j => j) ti)) si ro us bt w al now on tl ll) H := by rw [ho]; exact hP
              have hD : va_D A (mm P C N tx lx nu (mv_F (mv_c (in_S ti f t) (cm_F ti now b) w 0 (fun j => j) 0) ti (mv_t f t b w 0 (fun j => j) ti)) si ro us bt w al now on tl ll) := by rw [ho]; exact hD
              refine lv_iconst (v := (-1)) hx hb d_TM_move_59 (by decide) ?_
              exact tb_reti hx hb hr hlk hK () hP hD hS (by rw [ho]; rfl) d_TM_move_60
  refine lv_iconst (v := nI 0) hx hb d_TM_move_0 (by decide) ?_
  refine lv_istore (lv' := [(4, .int (nI 0)), (0, .ref (P 0)), (1, .int f), (2, .int t), (3, .int b)]) hx hb d_TM_move_1 hl (by decide) rfl (fun ls hl => ?_)
  refine lv_iconst (v := nI 0) hx hb d_TM_move_3 (by decide) ?_
  refine lv_istore (lv' := [(5, .int (nI 0)), (4, .int (nI 0)), (0, .ref (P 0)), (1, .int f), (2, .int t), (3, .int b)]) hx hb d_TM_move_4 hl (by decide) rfl (fun ls hl => ?_)
  exact loop1 w 0 0 _ _ _ (by omega) rfl hP hD hS (lv_sub hl [0, 1, 2, 3, 4, 5] rfl)

set_option maxHeartbeats 4000000 in
set_option maxRecDepth 100000 in
/-- the reference: shift -/
theorem mc_shift (l : Launch) (dC : Nat → ClassId) (dI : Nat → Nat → Nat) (P : Nat → Nat) (C : Nat → ClassId) (N sz : Nat) (tx lx nu ti : Nat → Int32) (si ro : Nat → Nat) (us : Nat → Bool) (bt : Nat → Int32) (w al now : Nat) (on : Bool) (tl ll : Nat) (b : Int32) (hw : w ≤ 1024) : ctI l y_TM_shift ws_TM_shift (rmD 2) (dC, dI) classes (tys_M C) (mm P C N tx lx nu ti si ro us bt w al now on tl ll) sz [.ref (P 0), .int b] (fun (r : Int32) (_ : Unit) => r = mv_A (mv_F (mv_c (in_S ti (-2147483648) (nI 2147483647)) (cm_F ti now b) w 0 (fun j => j) 0) none (some (mm_q (-2147483648) (nI 2147483647) b w 0 ti 0)))) (fun _ => (mm P C N tx lx nu (mv_F (mv_c (in_S ti (-2147483648) (nI 2147483647)) (cm_F ti now b) w 0 (fun j => j) 0) ti (mv_t (-2147483648) (nI 2147483647) b w 0 (fun j => j) ti)) si ro us bt w al now on tl ll)) 0 0 := by
  refine tb_metI (own := R_TM) (by decide) rfl rfl (Nat.le_of_ble_eq_true rfl) [(0, .ref (P 0)), (1, .int b)] rfl ?_
  intro p e s m below meth c A ls hx hb hr hml hts hown hlk hnm hA hK hP hD hS hl
  refine lv_aload_n hx hb d_TM_shift_0 rfl (lv_at hl 0 rfl) ?_
  refine lv_iconst (v := nI 0) hx hb d_TM_shift_1 (by decide) ?_
  refine mp (ty := .int) hx hb hts hown hK hP hD hS rfl 0 (by decide) rfl fl_TM_41 rfl (by decide +kernel) (rfl) (rfl) (Nat.le_of_ble_eq_true rfl) (mm P C N tx lx nu ti si ro us bt w al now on tl ll) rfl d_TM_shift_2 (fun H locs hP hD hS => ?_)
  refine lv_aload_n hx hb d_TM_shift_5 rfl (lv_at hl 0 rfl) ?_
  refine lv_ldc (v := (-2147483648)) hx hb hown (hts _ k_TM_66) d_TM_shift_6 ?_
  refine lv_ldc (v := nI 2147483647) hx hb hown (hts _ k_TM_67) d_TM_shift_8 ?_
  refine lv_iload_n hx hb d_TM_shift_10 rfl (lv_at hl 1 rfl) ?_
  refine tb_calli (mc_move l dC dI P C N H.size tx lx nu ti si ro us bt w al now on tl ll (-2147483648) (nI 2147483647) b hw) ⟨hx, hb, hml, hown, hts⟩ (cwV 3 hts g_TM_68 rfl rfl rfl (by decide +kernel) ⟨Nat.le_of_ble_eq_true rfl, Nat.le_of_ble_eq_true rfl⟩) hK hP hD hS hA 1 rfl 0 rfl rfl hl.1 rfl (Nat.le_of_ble_eq_true rfl) d_TM_shift_11 ⟨Nat.le_refl _, Nat.le_refl _⟩ (fun r u H locs hwc hP hD hS => ?_)
  subst hwc
  exact tb_reti hx hb hr hlk hK () hP hD hS rfl d_TM_shift_14

set_option maxHeartbeats 4000000 in
set_option maxRecDepth 100000 in
/-- the reference: shiftSpan -/
theorem mc_shiftSpan (l : Launch) (dC : Nat → ClassId) (dI : Nat → Nat → Nat) (P : Nat → Nat) (C : Nat → ClassId) (N sz : Nat) (tx lx nu ti : Nat → Int32) (si ro : Nat → Nat) (us : Nat → Bool) (bt : Nat → Int32) (w al now : Nat) (on : Bool) (tl ll : Nat) (f t b : Int32) (hw : w ≤ 1024) : ctI l y_TM_shiftSpan ws_TM_shiftSpan (rmD 2) (dC, dI) classes (tys_M C) (mm P C N tx lx nu ti si ro us bt w al now on tl ll) sz [.ref (P 0), .int f, .int t, .int b] (fun (r : Int32) (_ : Unit) => r = mv_A (mv_F (mv_c (in_S ti f t) (cm_F ti now b) w 0 (fun j => j) 0) none (some (mm_q f t b w 0 ti 0)))) (fun _ => (mm P C N tx lx nu (mv_F (mv_c (in_S ti f t) (cm_F ti now b) w 0 (fun j => j) 0) ti (mv_t f t b w 0 (fun j => j) ti)) si ro us bt w al now on tl ll)) 0 0 := by
  refine tb_metI (own := R_TM) (by decide) rfl rfl (Nat.le_of_ble_eq_true rfl) [(0, .ref (P 0)), (1, .int f), (2, .int t), (3, .int b)] rfl ?_
  intro p e s m below meth c A ls hx hb hr hml hts hown hlk hnm hA hK hP hD hS hl
  refine lv_aload_n hx hb d_TM_shiftSpan_0 rfl (lv_at hl 0 rfl) ?_
  refine lv_iconst (v := nI 0) hx hb d_TM_shiftSpan_1 (by decide) ?_
  refine mp (ty := .int) hx hb hts hown hK hP hD hS rfl 0 (by decide) rfl fl_TM_41 rfl (by decide +kernel) (rfl) (rfl) (Nat.le_of_ble_eq_true rfl) (mm P C N tx lx nu ti si ro us bt w al now on tl ll) rfl d_TM_shiftSpan_2 (fun H locs hP hD hS => ?_)
  refine lv_aload_n hx hb d_TM_shiftSpan_5 rfl (lv_at hl 0 rfl) ?_
  refine lv_iload_n hx hb d_TM_shiftSpan_6 rfl (lv_at hl 1 rfl) ?_
  refine lv_iload_n hx hb d_TM_shiftSpan_7 rfl (lv_at hl 2 rfl) ?_
  refine lv_iload_n hx hb d_TM_shiftSpan_8 rfl (lv_at hl 3 rfl) ?_
  refine tb_calli (mc_move l dC dI P C N H.size tx lx nu ti si ro us bt w al now on tl ll f t b hw) ⟨hx, hb, hml, hown, hts⟩ (cwV 3 hts g_TM_68 rfl rfl rfl (by decide +kernel) ⟨Nat.le_of_ble_eq_true rfl, Nat.le_of_ble_eq_true rfl⟩) hK hP hD hS hA 1 rfl 0 rfl rfl hl.1 rfl (Nat.le_of_ble_eq_true rfl) d_TM_shiftSpan_9 ⟨Nat.le_refl _, Nat.le_refl _⟩ (fun r u H locs hwc hP hD hS => ?_)
  subst hwc
  exact tb_reti hx hb hr hlk hK () hP hD hS rfl d_TM_shiftSpan_12
end
section
set_option maxHeartbeats 4000000 in
set_option maxRecDepth 100000 in
/-- the reference: insert -/
theorem mc_insert (l : Launch) (dC : Nat → ClassId) (dI : Nat → Nat → Nat) (P : Nat → Nat) (C : Nat → ClassId) (N sz : Nat) (tx lx nu ti : Nat → Int32) (si ro : Nat → Nat) (us : Nat → Bool) (bt : Nat → Int32) (w al now : Nat) (on : Bool) (tl ll : Nat) (x t : Int32) (r0 : Nat) (hwN : w ≤ N) (hN : N ≤ 1024) (htl : tl ≤ 256) (hfr : w < N → r0 < 1024 ∧ us r0 = false ∧ ∀ j, j < r0 → us j = true) : ctI l y_TM_insert ws_TM_insert (rmD 0) (dC, dI) classes (tys_M C) (mm P C N tx lx nu ti si ro us bt w al now on tl ll) sz [.ref (P 0), .int x, .int t] (fun (r : Int32) (u : (Nat → Int32) × (Nat → Int32) × (Nat → Nat) × (Nat → Nat) × (Nat → Bool) × (Nat → Int32) × Nat × Nat) => r = nI (wh_F tl now t w N) ∧ u = mi_R r0 N tx nu ti si ro us bt w al now tl x t) (fun u => (mm P C N tx lx u.1 u.2.1 u.2.2.1 u.2.2.2.1 u.2.2.2.2.1 u.2.2.2.2.2.1 u.2.2.2.2.2.2.1 u.2.2.2.2.2.2.2 now on 0 ll)) 0 0 := by
  refine tb_metI (own := R_TM) (by decide) rfl rfl (Nat.le_of_ble_eq_true rfl) [(0, .ref (P 0)), (1, .int x), (2, .int t)] rfl ?_
  intro p e s m below meth c A ls hx hb hr hml hts hown hlk hnm hA hK hP hD hS hl
  have copy : ∀ (n k : Nat) (H : Heap) (locs : List Loc) (ls : Array Slot), wh_F tl now t w N = 0 → r0 < 1024 → k + n = tl → va_P (dC, dI) classes (mm P C N tx lx nu ti si ro (va_up us r0 true) (cp bt tx (256 * r0) k) w al now on 0 ll) H → va_D A (mm P C N tx lx nu ti si ro (va_up us r0 true) (cp bt tx (256 * r0) k) w al now on 0 ll) → va_S A s.heap H locs → lv_has ls 6 [(5, .int (nI k)), (4, .int (nI r0)), (3, .int (nI tl)), (0, .ref (P 0)), (1, .int x), (2, .int t)] → W p l e (rmD 0) s m [Value.ref (P 0), .int x, .int t].toArray below meth c H locs 0 0 (MQ below (va_Qi (fun (r : Int32) (u : (Nat → Int32) × (Nat → Int32) × (Nat → Nat) × (Nat → Nat) × (Nat → Bool) × (Nat → Int32) × Nat × Nat) => r = nI (wh_F tl now t w N) ∧ u = mi_R r0 N tx nu ti si ro us bt w al now tl x t) (fun u tS => va_P (dC, dI) classes ((fun u => (mm P C N tx lx u.1 u.2.1 u.2.2.1 u.2.2.2.1 u.2.2.2.2.1 u.2.2.2.2.2.1 u.2.2.2.2.2.2.1 u.2.2.2.2.2.2.2 now on 0 ll)) u) tS.heap ∧ va_K (dC, dI) classes (tys_M C) tS ∧ va_D A ((fun u => (mm P C N tx lx u.1 u.2.1 u.2.2.1 u.2.2.2.1 u.2.2.2.2.1 u.2.2.2.2.2.1 u.2.2.2.2.2.2.1 u.2.2.2.2.2.2.2 now on 0 ll)) u)) A) [Value.ref (P 0), .int x, .int t].toArray s 0 0 A) (F0 m 74 ls []) := by
    clear hP hD hS hl
    intro n
    induction n with
    | zero =>
      intro k H locs ls hwh hr1 hn hP hD hS hl
      have hk : tl = k := by omega
      subst hk
      have hwN : w < N := wh_w hwh
      refine lv_iload hx hb d_TM_insert_74 (lv_at hl 0 rfl) ?_
      refine lv_iload_n hx hb d_TM_insert_76 rfl (lv_at hl 2 rfl) ?_
      refine lv_icmp_ge (tgt := 107) hx hb d_TM_insert_77 (by decide) (fun c_77 => ?_) (fun c_77 => ?_)
      · refine lv_aload_n hx hb d_TM_insert_107 rfl (lv_at hl 3 rfl) ?_
        refine mg hx hb hts hown hK hP rfl 10 (by decide) rfl fl_TM_16 rfl d_TM_insert_108 ?_
        refine lv_aload_n hx hb d_TM_insert_111 rfl (lv_at hl 3 rfl) ?_
        refine mg hx hb hts hown hK hP rfl 9 (by decide) rfl fl_TM_44 rfl d_TM_insert_112 ?_
        refine lv_iload_n hx hb d_TM_insert_115 rfl (lv_at hl 4 rfl) ?_
        refine tb_iast hx hb hK hP hD hS 3 2 rfl rfl (by omega) (by decide) (mm P C N tx lx (upd nu w x) ti si ro (va_up us r0 true) (cp bt tx (256 * r0) tl) w al now on 0 ll) rfl d_TM_insert_116 (fun H locs hP hD hS => ?_)
        refine lv_aload_n hx hb d_TM_insert_117 rfl (lv_at hl 3 rfl) ?_
        refine mg hx hb hts hown hK hP rfl 11 (by decide) rfl fl_TM_20 rfl d_TM_insert_118 ?_
        refine lv_aload_n hx hb d_TM_insert_121 rfl (lv_at hl 3 rfl) ?_
        refine mg hx hb hts hown hK hP rfl 9 (by decide) rfl fl_TM_44 rfl d_TM_insert_122 ?_
        refine lv_iload_n hx hb d_TM_insert_125 rfl (lv_at hl 5 rfl) ?_
        refine tb_iast hx hb hK hP hD hS 4 3 rfl rfl (by omega) (by decide) (mm P C N tx lx (upd nu w x) (upd ti w t) si ro (va_up us r0 true) (cp bt tx (256 * r0) tl) w al now on 0 ll) rfl d_TM_insert_126 (fun H locs hP hD hS => ?_)
        refine lv_aload_n hx hb d_TM_insert_127 rfl (lv_at hl 3 rfl) ?_
        refine mg hx hb hts hown hK hP rfl 12 (by decide) rfl fl_TM_23 rfl d_TM_insert_128 ?_
        refine lv_aload_n hx hb d_TM_insert_131 rfl (lv_at hl 3 rfl) ?_
        refine mg hx hb hts hown hK hP rfl 9 (by decide) rfl fl_TM_44 rfl d_TM_insert_132 ?_
        refine lv_iload_n hx hb d_TM_insert_135 rfl (lv_at hl 2 rfl) ?_
        refine tb_iastN hx hb hK hP hD hS 5 4 rfl rfl (by omega) (by decide) (mm P C N tx lx (upd nu w x) (upd ti w t) (va_up si w tl) ro (va_up us r0 true) (cp bt tx (256 * r0) tl) w al now on 0 ll) rfl d_TM_insert_136 (fun H locs hP hD hS => ?_)
        refine lv_aload_n hx hb d_TM_insert_137 rfl (lv_at hl 3 rfl) ?_
        refine mg hx hb hts hown hK hP rfl 13 (by decide) rfl fl_TM_26 rfl d_TM_insert_138 ?_
        refine lv_aload_n hx hb d_TM_insert_141 rfl (lv_at hl 3 rfl) ?_
        refine mg hx hb hts hown hK hP rfl 9 (by decide) rfl fl_TM_44 rfl d_TM_insert_142 ?_
        refine lv_iload hx hb d_TM_insert_145 (lv_at hl 1 rfl) ?_
        refine tb_iastN hx hb hK hP hD hS 6 5 rfl rfl (by omega) (by decide) (mm P C N tx lx (upd nu w x) (upd ti w t) (va_up si w tl) (va_up ro w r0) (va_up us r0 true) (cp bt tx (256 * r0) tl) w al now on 0 ll) rfl d_TM_insert_147 (fun H locs hP hD hS => ?_)
        refine lv_aload_n hx hb d_TM_insert_148 rfl (lv_at hl 3 rfl) ?_
        refine lv_dup hx hb d_TM_insert_149 rfl ?_
        refine mg hx hb hts hown hK hP rfl 9 (by decide) rfl fl_TM_44 rfl d_TM_insert_150 ?_
        refine lv_iconst (v := nI 1) hx hb d_TM_insert_153 (by decide) ?_
        refine lv_iadd hx hb d_TM_insert_154 ?_
        refine tp_i (nI (w + 1)) (nI_add _ _) ?_
        refine mp (ty := .int) hx hb hts hown hK hP hD hS rfl 9 (by decide) rfl fl_TM_44 rfl (by decide +kernel) (rfl) (rfl) (Nat.le_of_ble_eq_true rfl) (mm P C N tx lx (upd nu w x) (upd ti w t) (va_up si w tl) (va_up ro w r0) (va_up us r0 true) (cp bt tx (256 * r0) tl) (w + 1) al now on 0 ll) rfl d_TM_insert_155 (fun H locs hP hD hS => ?_)
        refine lv_aload_n hx hb d_TM_insert_158 rfl (lv_at hl 3 rfl) ?_
        refine lv_dup hx hb d_TM_insert_159 rfl ?_
        refine mg hx hb hts hown hK hP rfl 4 (by decide) rfl fl_TM_53 rfl d_TM_insert_160 ?_
        refine lv_iconst (v := nI 1) hx hb d_TM_insert_163 (by decide) ?_
        refine lv_iadd hx hb d_TM_insert_164 ?_
        refine tp_i (nI (al + 1)) (nI_add _ _) ?_
        refine mp (ty := .int) hx hb hts hown hK hP hD hS rfl 4 (by decide) rfl fl_TM_53 rfl (by decide +kernel) (rfl) (rfl) (Nat.le_of_ble_eq_true rfl) (mm P C N tx lx (upd nu w x) (upd ti w t) (va_up si w tl) (va_up ro w r0) (va_up us r0 true) (cp bt tx (256 * r0) tl) (w + 1) (al + 1) now on 0 ll) rfl d_TM_insert_165 (fun H locs hP hD hS => ?_)
        refine lv_iconst (v := nI 0) hx hb d_TM_insert_168 (by decide) ?_
        exact tb_reti hx hb hr hlk hK (upd nu w x, upd ti w t, va_up si w tl, va_up ro w r0, va_up us r0 true, cp bt tx (256 * r0) tl, w + 1, al + 1) hP hD hS ⟨by rw [hwh], by rw [mi_R, if_pos hwh]⟩ d_TM_insert_169
      · exact absurd (nI_le (by omega) (by omega)) c_77
    | succ n ih =>
      intro k H locs ls hwh hr1 hn hP hD hS hl
      refine lv_iload hx hb d_TM_insert_74 (lv_at hl 0 rfl) ?_
      refine lv_iload_n hx hb d_TM_insert_76 rfl (lv_at hl 2 rfl) ?_
      refine lv_icmp_ge (tgt := 107) hx hb d_TM_insert_77 (by decide) (fun c_77 => ?_) (fun c_77 => ?_)
      · exact absurd ((nI_leI (by omega) (by omega)).mp c_77) (by omega)
      · refine lv_aload_n hx hb d_TM_insert_80 rfl (lv_at hl 3 rfl) ?_
        refine mg hx hb hts hown hK hP rfl 15 (by decide) rfl fl_TM_34 rfl d_TM_insert_81 ?_
        refine lv_sipush (v := nI 256) hx hb d_TM_insert_84 (by decide) ?_
        refine lv_iload hx hb d_TM_insert_87 (lv_at hl 1 rfl) ?_
        refine lv_imul hx hb d_TM_insert_89 ?_
        refine tp_i (nI (256 * r0)) (pk_mul _ _) ?_
        refine lv_iload hx hb d_TM_insert_90 (lv_at hl 0 rfl) ?_
        refine lv_iadd hx hb d_TM_insert_92 ?_
        refine tp_i (nI (256 * r0 + k)) (nI_add _ _) ?_
        refine lv_aload_n hx hb d_TM_insert_93 rfl (lv_at hl 3 rfl) ?_
        refine mg hx hb hts hown hK hP rfl 5 (by decide) rfl fl_TM_7 rfl d_TM_insert_94 ?_
        refine lv_iload hx hb d_TM_insert_97 (lv_at hl 0 rfl) ?_
        refine tb_bald hx hb hK hP 1 0 rfl rfl (by omega) (by decide) d_TM_insert_99 ?_
        refine tb_bast hx hb hK hP hD hS 8 7 rfl rfl (by omega) (by decide) (mm P C N tx lx nu ti si ro (va_up us r0 true) (upd (cp bt tx (256 * r0) k) (256 * r0 + k) (vp_nar .byte (tx k))) w al now on 0 ll) rfl d_TM_insert_100 (fun H locs hP hD hS => ?_)
        refine lv_iinc (v := nI (k + 1)) (lv' := [(5, .int (nI (k + 1))), (4, .int (nI r0)), (3, .int (nI tl)), (0, .ref (P 0)), (1, .int x), (2, .int t)]) hx hb d_TM_insert_101 hl (k := 0) rfl (nI_1 _) (by decide) rfl (fun ls hl => ?_)
        refine lv_goto (tgt := 74) hx hb d_TM_insert_104 (by decide) ?_
        rw [cp_s] at hP hD
        exact ih _ _ _ _ hwh hr1 (by omega) hP hD hS (lv_sub hl [0, 1, 2, 3, 4, 5] rfl)
  have find : ∀ (n r : Nat) (H : Heap) (locs : List Loc) (ls : Array Slot), wh_F tl now t w N = 0 → r + n = r0 → va_P (dC, dI) classes (mm P C N tx lx nu ti si ro us bt w al now on 0 ll) H → va_D A (mm P C N tx lx nu ti si ro us bt w al now on 0 ll) → va_S A s.heap H locs → lv_has ls 6 [(4, .int (nI r)), (3, .int (nI tl)), (0, .ref (P 0)), (1, .int x), (2, .int t)] → W p l e (rmD 0) s m [Value.ref (P 0), .int x, .int t].toArray below meth c H locs 0 0 (MQ below (va_Qi (fun (r : Int32) (u : (Nat → Int32) × (Nat → Int32) × (Nat → Nat) × (Nat → Nat) × (Nat → Bool) × (Nat → Int32) × Nat × Nat) => r = nI (wh_F tl now t w N) ∧ u = mi_R r0 N tx nu ti si ro us bt w al now tl x t) (fun u tS => va_P (dC, dI) classes ((fun u => (mm P C N tx lx u.1 u.2.1 u.2.2.1 u.2.2.2.1 u.2.2.2.2.1 u.2.2.2.2.2.1 u.2.2.2.2.2.2.1 u.2.2.2.2.2.2.2 now on 0 ll)) u) tS.heap ∧ va_K (dC, dI) classes (tys_M C) tS ∧ va_D A ((fun u => (mm P C N tx lx u.1 u.2.1 u.2.2.1 u.2.2.2.1 u.2.2.2.2.1 u.2.2.2.2.2.1 u.2.2.2.2.2.2.1 u.2.2.2.2.2.2.2 now on 0 ll)) u)) A) [Value.ref (P 0), .int x, .int t].toArray s 0 0 A) (F0 m 47 ls []) := by
    clear hP hD hS hl
    intro n
    induction n with
    | zero =>
      intro r H locs ls hwh hn hP hD hS hl
      have hr2 : r = r0 := by omega
      subst hr2
      obtain ⟨f1, f2, f3⟩ := hfr (wh_w hwh)
      refine lv_aload_n hx hb d_TM_insert_47 rfl (lv_at hl 2 rfl) ?_
      refine mg hx hb hts hown hK hP rfl 14 (by decide) rfl fl_TM_29 rfl d_TM_insert_48 ?_
      refine lv_iload hx hb d_TM_insert_51 (lv_at hl 0 rfl) ?_
      refine tb_zald hx hb hK hP 7 6 rfl rfl (by omega) (by decide) d_TM_insert_53 ?_
      refine lv_if_eq (tgt := 63) hx hb d_TM_insert_54 (by decide) (fun c_54 => ?_) (fun c_54 => ?_)
      · refine lv_aload_n hx hb d_TM_insert_63 rfl (lv_at hl 2 rfl) ?_
        refine mg hx hb hts hown hK hP rfl 14 (by decide) rfl fl_TM_29 rfl d_TM_insert_64 ?_
        refine lv_iload hx hb d_TM_insert_67 (lv_at hl 0 rfl) ?_
        refine lv_iconst (v := nI 1) hx hb d_TM_insert_69 (by decide) ?_
        refine tp_i (bI true) rfl ?_
        refine tb_zastB hx hb hK hP hD hS 7 6 rfl rfl (by omega) (by decide) (mm P C N tx lx nu ti si ro (va_up us r true) bt w al now on 0 ll) rfl d_TM_insert_70 (fun H locs hP hD hS => ?_)
        refine lv_iconst (v := nI 0) hx hb d_TM_insert_71 (by decide) ?_
        refine lv_istore (lv' := [(5, .int (nI 0)), (4, .int (nI r)), (3, .int (nI tl)), (0, .ref (P 0)), (1, .int x), (2, .int t)]) hx hb d_TM_insert_72 hl (by decide) rfl (fun ls hl => ?_)
        exact copy tl 0 _ _ _ hwh f1 (by omega) (by rw [cp_0]; exact hP) (by rw [cp_0]; exact hD) hS (lv_sub hl [0, 1, 2, 3, 4, 5] rfl)
      · exact absurd (by rw [f2]; rfl) c_54
    | succ n ih =>
      intro r H locs ls hwh hn hP hD hS hl
      obtain ⟨f1, f2, f3⟩ := hfr (wh_w hwh)
      refine lv_aload_n hx hb d_TM_insert_47 rfl (lv_at hl 2 rfl) ?_
      refine mg hx hb hts hown hK hP rfl 14 (by decide) rfl fl_TM_29 rfl d_TM_insert_48 ?_
      refine lv_iload hx hb d_TM_insert_51 (lv_at hl 0 rfl) ?_
      refine tb_zald hx hb hK hP 7 6 rfl rfl (by omega) (by decide) d_TM_insert_53 ?_
      refine lv_if_eq (tgt := 63) hx hb d_TM_insert_54 (by decide) (fun c_54 => ?_) (fun c_54 => ?_)
      · exact absurd (bI_0 c_54) (by rw [f3 r (by omega)]; decide)
      · refine lv_iinc (v := nI (r + 1)) (lv' := [(4, .int (nI (r + 1))), (3, .int (nI tl)), (0, .ref (P 0)), (1, .int x), (2, .int t)]) hx hb d_TM_insert_57 hl (k := 0) rfl (nI_1 _) (by decide) rfl (fun ls hl => ?_)
        refine lv_goto (tgt := 47) hx hb d_TM_insert_60 (by decide) ?_
        exact ih _ _ _ _ hwh (by omega) hP hD hS (lv_sub hl [0, 1, 2, 3, 4] rfl)
  refine lv_aload_n hx hb d_TM_insert_0 rfl (lv_at hl 0 rfl) ?_
  refine lv_iconst (v := nI 0) hx hb d_TM_insert_1 (by decide) ?_
  refine mp (ty := .int) hx hb hts hown hK hP hD hS rfl 0 (by decide) rfl fl_TM_41 rfl (by decide +kernel) (rfl) (rfl) (Nat.le_of_ble_eq_true rfl) (mm P C N tx lx nu ti si ro us bt w al now on tl ll) rfl d_TM_insert_2 (fun H locs hP hD hS => ?_)
  refine lv_aload_n hx hb d_TM_insert_5 rfl (lv_at hl 0 rfl) ?_
  refine mg hx hb hts hown hK hP rfl 6 (by decide) rfl fl_TM_47 rfl d_TM_insert_6 ?_
  refine lv_istore_n (lv' := [(3, .int (nI tl)), (0, .ref (P 0)), (1, .int x), (2, .int t)]) hx hb d_TM_insert_9 rfl hl (by decide) rfl (fun ls hl => ?_)
  refine lv_aload_n hx hb d_TM_insert_10 rfl (lv_at hl 1 rfl) ?_
  refine lv_iconst (v := nI 0) hx hb d_TM_insert_11 (by decide) ?_
  refine mp (ty := .int) hx hb hts hown hK hP hD hS rfl 6 (by decide) rfl fl_TM_47 rfl (by decide +kernel) (rfl) (rfl) (Nat.le_of_ble_eq_true rfl) (mm P C N tx lx nu ti si ro us bt w al now on 0 ll) rfl d_TM_insert_12 (fun H locs hP hD hS => ?_)
  refine lv_iload_n hx hb d_TM_insert_15 rfl (lv_at hl 0 rfl) ?_
  refine lv_if_ne (tgt := 21) hx hb d_TM_insert_16 (by decide) (fun c_16 => ?_) (fun c_16 => ?_)
  · have c_16 : ¬ tl = 0 := fun q => c_16 (show nI (tl) = nI 0 by rw [q])
    refine lv_iload_n hx hb d_TM_insert_21 rfl (lv_at hl 3 rfl) ?_
    refine lv_aload_n hx hb d_TM_insert_22 rfl (lv_at hl 1 rfl) ?_
    refine mg hx hb hts hown hK hP rfl 2 (by decide) rfl fl_TM_50 rfl d_TM_insert_23 ?_
    refine lv_icmp_gt (tgt := 31) hx hb d_TM_insert_26 (by decide) (fun c_26 => ?_) (fun c_26 => ?_)
    · refine lv_aload_n hx hb d_TM_insert_31 rfl (lv_at hl 1 rfl) ?_
      refine mg hx hb hts hown hK hP rfl 9 (by decide) rfl fl_TM_44 rfl d_TM_insert_32 ?_
      refine lv_aload_n hx hb d_TM_insert_35 rfl (lv_at hl 1 rfl) ?_
      refine mg hx hb hts hown hK hP rfl 1 (by decide) rfl fl_TM_37 rfl d_TM_insert_36 ?_
      refine lv_icmp_ne (tgt := 44) hx hb d_TM_insert_39 (by decide) (fun c_39 => ?_) (fun c_39 => ?_)
      · have c_39 : ¬ w = N := fun q => c_39 ((nI_eq (by omega) (by omega)).mpr q)
        have hwh : wh_F tl now t w N = 0 := by rw [wh_F, if_neg c_16, if_neg (Int32.not_le.mpr c_26), if_neg (by omega)]
        refine lv_iconst (v := nI 0) hx hb d_TM_insert_44 (by decide) ?_
        refine lv_istore (lv' := [(4, .int (nI 0)), (3, .int (nI tl)), (0, .ref (P 0)), (1, .int x), (2, .int t)]) hx hb d_TM_insert_45 hl (by decide) rfl (fun ls hl => ?_)
        exact find r0 0 _ _ _ hwh (by omega) hP hD hS (lv_sub hl [0, 1, 2, 3, 4] rfl)
      · have c_39 : w = N := (nI_eq (by omega) (by omega)).mp c_39
        refine lv_iconst (v := nI 3) hx hb d_TM_insert_42 (by decide) ?_
        have hwh : wh_F tl now t w N = 3 := by rw [wh_F, if_neg c_16, if_neg (Int32.not_le.mpr c_26), if_pos (by omega)]
        exact tb_reti hx hb hr hlk hK (nu, ti, si, ro, us, bt, w, al) hP hD hS ⟨by rw [hwh], by rw [mi_R, if_neg (by rw [hwh]; decide)]⟩ d_TM_insert_43
    · refine lv_iconst (v := nI 2) hx hb d_TM_insert_29 (by decide) ?_
      have hwh : wh_F tl now t w N = 2 := by rw [wh_F, if_neg c_16, if_pos (Int32.not_lt.mp c_26)]
      exact tb_reti hx hb hr hlk hK (nu, ti, si, ro, us, bt, w, al) hP hD hS ⟨by rw [hwh], by rw [mi_R, if_neg (by rw [hwh]; decide)]⟩ d_TM_insert_30
  · have c_16 : tl = 0 := (nI_eq (by omega) (by omega)).mp (show nI (tl) = nI 0 from c_16)
    refine lv_iconst (v := nI 1) hx hb d_TM_insert_19 (by decide) ?_
    have hwh : wh_F tl now t w N = 1 := by rw [wh_F, if_pos c_16]
    exact tb_reti hx hb hr hlk hK (nu, ti, si, ro, us, bt, w, al) hP hD hS ⟨by rw [hwh], by rw [mi_R, if_neg (by rw [hwh]; decide)]⟩ d_TM_insert_20

set_option maxHeartbeats 4000000 in
set_option maxRecDepth 100000 in
/-- the reference: leave -/
theorem mc_leave (l : Launch) (dC : Nat → ClassId) (dI : Nat → Nat → Nat) (P : Nat → Nat) (C : Nat → ClassId) (N sz : Nat) (tx lx nu ti : Nat → Int32) (si ro : Nat → Nat) (us : Nat → Bool) (bt : Nat → Int32) (w al now : Nat) (on : Bool) (tl ll : Nat) (hw : w ≤ 1024) (hro : ∀ j, j < w → ro j < 1024) (hsi : ∀ j, j < w → si j ≤ 256) : ctI l y_TM_leave ws_TM_leave (rmD 1) (dC, dI) classes (tys_M C) (mm P C N tx lx nu ti si ro us bt w al now on tl ll) sz [.ref (P 0)] (fun (r : Int32) (u : (Nat → Int32) × Nat × MS) => (r, u) = ml_R lx nu ti si ro us bt w now ll) (fun u => (mm P C N tx u.1 u.2.2.1 u.2.2.2.1 u.2.2.2.2.1 u.2.2.2.2.2.1 u.2.2.2.2.2.2.1 bt u.2.2.2.2.2.2.2 al now on tl u.2.1)) 0 0 := by
  refine tb_metI (own := R_TM) (by decide) rfl rfl (Nat.le_of_ble_eq_true rfl) [(0, .ref (P 0))] rfl ?_
  intro p e s m below meth c A ls hx hb hr hml hts hown hlk hnm hA hK hP hD hS hl
  have copy : ∀ (n k i : Nat) (H : Heap) (locs : List Loc) (ls : Array Slot), pl_o ti 0 w w 0 none = some i → i < w → ti i ≤ nI now → k + n = si i → va_P (dC, dI) classes (mm P C N tx (cp lx (fun k => bt (256 * ro i + k)) 0 k) nu ti si ro us bt w al now on tl (si i)) H → va_D A (mm P C N tx (cp lx (fun k => bt (256 * ro i + k)) 0 k) nu ti si ro us bt w al now on tl (si i)) → va_S A s.heap H locs → lv_has ls 3 [(2, .int (nI k)), (1, .int (nI i)), (0, .ref (P 0))] → W p l e (rmD 1) s m [Value.ref (P 0)].toArray below meth c H locs 0 0 (MQ below (va_Qi (fun (r : Int32) (u : (Nat → Int32) × Nat × MS) => (r, u) = ml_R lx nu ti si ro us bt w now ll) (fun u tS => va_P (dC, dI) classes ((fun u => (mm P C N tx u.1 u.2.2.1 u.2.2.2.1 u.2.2.2.2.1 u.2.2.2.2.2.1 u.2.2.2.2.2.2.1 bt u.2.2.2.2.2.2.2 al now on tl u.2.1)) u) tS.heap ∧ va_K (dC, dI) classes (tys_M C) tS ∧ va_D A ((fun u => (mm P C N tx u.1 u.2.2.1 u.2.2.2.1 u.2.2.2.2.1 u.2.2.2.2.2.1 u.2.2.2.2.2.2.1 bt u.2.2.2.2.2.2.2 al now on tl u.2.1)) u)) A) [Value.ref (P 0)].toArray s 0 0 A) (F0 m 42 ls []) := by
    clear hP hD hS hl
    intro n
    induction n with
    | zero =>
      intro k i H locs ls hpl hiw hle hn hP hD hS hl
      have hk : k = si i := by omega
      subst hk
      have z2 := hsi i hiw
      refine lv_iload_n hx hb d_TM_leave_42 rfl (lv_at hl 0 rfl) ?_
      refine lv_aload_n hx hb d_TM_leave_43 rfl (lv_at hl 2 rfl) ?_
      refine mg hx hb hts hown hK hP rfl 8 (by decide) rfl fl_TM_80 rfl d_TM_leave_44 ?_
      refine lv_icmp_ge (tgt := 79) hx hb d_TM_leave_47 (by decide) (fun c_47 => ?_) (fun c_47 => ?_)
      · refine lv_aload_n hx hb d_TM_leave_79 rfl (lv_at hl 2 rfl) ?_
        refine lv_iload_n hx hb d_TM_leave_80 rfl (lv_at hl 1 rfl) ?_
        refine tb_callv (mc_drop l dC dI P C N H.size tx (cp lx (fun k => bt (256 * ro i + k)) 0 (si i)) nu ti si ro us bt w al now on tl (si i) i hiw hw hro) ⟨hx, hb, hml, hown, hts⟩ (cwV 1 hts g_TM_56 rfl rfl rfl (by decide +kernel) ⟨Nat.le_of_ble_eq_true rfl, Nat.le_of_ble_eq_true rfl⟩) hK hP hD hS hA 1 rfl 0 rfl rfl hl.1 rfl (Nat.le_of_ble_eq_true rfl) d_TM_leave_81 ⟨Nat.le_refl _, Nat.le_refl _⟩ (fun u H locs hwc hP hD hS => ?_)
        refine lv_aload_n hx hb d_TM_leave_84 rfl (lv_at hl 2 rfl) ?_
        refine mg hx hb hts hown hK hP rfl 8 (by decide) rfl fl_TM_80 rfl d_TM_leave_85 ?_
        exact tb_reti hx hb hr hlk hK (cp lx (fun k => bt (256 * ro i + k)) 0 (si i), si i, m_dp (nu, ti, si, ro, us, w) i) hP hD hS (by rw [ml_R, hpl]; simp only []; rw [if_pos hle]) d_TM_leave_88
      · exact absurd (nI_le (by omega) (by omega)) c_47
    | succ n ih =>
      intro k i H locs ls hpl hiw hle hn hP hD hS hl
      have z1 := hro i hiw
      have z2 := hsi i hiw
      refine lv_iload_n hx hb d_TM_leave_42 rfl (lv_at hl 0 rfl) ?_
      refine lv_aload_n hx hb d_TM_leave_43 rfl (lv_at hl 2 rfl) ?_
      refine mg hx hb hts hown hK hP rfl 8 (by decide) rfl fl_TM_80 rfl d_TM_leave_44 ?_
      refine lv_icmp_ge (tgt := 79) hx hb d_TM_leave_47 (by decide) (fun c_47 => ?_) (fun c_47 => ?_)
      · exact absurd ((nI_leI (by omega) (by omega)).mp c_47) (by omega)
      · refine lv_aload_n hx hb d_TM_leave_50 rfl (lv_at hl 2 rfl) ?_
        refine mg hx hb hts hown hK hP rfl 7 (by decide) rfl fl_TM_13 rfl d_TM_leave_51 ?_
        refine lv_iload_n hx hb d_TM_leave_54 rfl (lv_at hl 0 rfl) ?_
        refine lv_aload_n hx hb d_TM_leave_55 rfl (lv_at hl 2 rfl) ?_
        refine mg hx hb hts hown hK hP rfl 15 (by decide) rfl fl_TM_34 rfl d_TM_leave_56 ?_
        refine lv_sipush (v := nI 256) hx hb d_TM_leave_59 (by decide) ?_
        refine lv_aload_n hx hb d_TM_leave_62 rfl (lv_at hl 2 rfl) ?_
        refine mg hx hb hts hown hK hP rfl 13 (by decide) rfl fl_TM_26 rfl d_TM_leave_63 ?_
        refine lv_iload_n hx hb d_TM_leave_66 rfl (lv_at hl 1 rfl) ?_
        refine tb_iald hx hb hK hP 6 5 rfl rfl (by omega) (by decide) d_TM_leave_67 ?_
        refine lv_imul hx hb d_TM_leave_68 ?_
        refine tp_i (nI (256 * ro i)) (pk_mul _ _) ?_
        refine lv_iload_n hx hb d_TM_leave_69 rfl (lv_at hl 0 rfl) ?_
        refine lv_iadd hx hb d_TM_leave_70 ?_
        refine tp_i (nI (256 * ro i + k)) (nI_add _ _) ?_
        refine tb_bald hx hb hK hP 8 7 rfl rfl (by omega) (by decide) d_TM_leave_71 ?_
        refine tb_bast hx hb hK hP hD hS 2 1 rfl rfl (by omega) (by decide) (mm P C N tx (upd (cp lx (fun k => bt (256 * ro i + k)) 0 k) k (vp_nar .byte (bt (256 * ro i + k)))) nu ti si ro us bt w al now on tl (si i)) rfl d_TM_leave_72 (fun H locs hP hD hS => ?_)
        refine lv_iinc (v := nI (k + 1)) (lv' := [(2, .int (nI (k + 1))), (1, .int (nI i)), (0, .ref (P 0))]) hx hb d_TM_leave_73 hl (k := 0) rfl (nI_1 _) (by decide) rfl (fun ls hl => ?_)
        refine lv_goto (tgt := 42) hx hb d_TM_leave_76 (by decide) ?_
        have e1 := cp_s lx (fun k => bt (256 * ro i + k)) 0 k
        rw [Nat.zero_add] at e1
        rw [e1] at hP hD
        exact ih _ _ _ _ _ hpl hiw hle (by omega) hP hD hS (lv_sub hl [0, 1, 2] rfl)
  refine lv_aload_n hx hb d_TM_leave_0 rfl (lv_at hl 0 rfl) ?_
  refine lv_iconst (v := nI 0) hx hb d_TM_leave_1 (by decide) ?_
  refine mp (ty := .int) hx hb hts hown hK hP hD hS rfl 0 (by decide) rfl fl_TM_41 rfl (by decide +kernel) (rfl) (rfl) (Nat.le_of_ble_eq_true rfl) (mm P C N tx lx nu ti si ro us bt w al now on tl ll) rfl d_TM_leave_2 (fun H locs hP hD hS => ?_)
  refine lv_aload_n hx hb d_TM_leave_5 rfl (lv_at hl 0 rfl) ?_
  refine lv_iconst (v := nI 0) hx hb d_TM_leave_6 (by decide) ?_
  refine tb_calli (mc_place l dC dI P C N H.size tx lx nu ti si ro us bt w al now on tl ll 0 hw (by omega)) ⟨hx, hb, hml, hown, hts⟩ (cwV 1 hts g_TM_76 rfl rfl rfl (by decide +kernel) ⟨Nat.le_of_ble_eq_true rfl, Nat.le_of_ble_eq_true rfl⟩) hK hP hD hS hA 1 rfl 0 rfl rfl hl.1 rfl (Nat.le_of_ble_eq_true rfl) d_TM_leave_7 ⟨Nat.le_refl _, Nat.le_refl _⟩ (fun r u H locs hwc hP hD hS => ?_)
  subst hwc
  cases hpl : pl_o ti 0 w w 0 none with
  | none =>
    refine lv_istore_n (lv' := [(1, .int (oI none)), (0, .ref (P 0))]) hx hb d_TM_leave_10 rfl hl (by decide) rfl (fun ls hl => ?_)
    refine lv_iload_n hx hb d_TM_leave_11 rfl (lv_at hl 0 rfl) ?_
    refine lv_if_lt (tgt := 28) hx hb d_TM_leave_12 (by decide) (fun c_12 => ?_) (fun c_12 => ?_)
    · refine lv_iconst (v := (-1)) hx hb d_TM_leave_28 (by decide) ?_
      exact tb_reti hx hb hr hlk hK (lx, ll, nu, ti, si, ro, us, w) hP hD hS (by rw [ml_R, hpl]) d_TM_leave_29
    · exact absurd (show oI none < 0 by decide) c_12
  | some i =>
    have hiw : i < w := pl_lt ti 0 w w 0 none (by omega) (fun j e => by cases e) i hpl
    refine tp_i (nI i) rfl ?_
    refine lv_istore_n (lv' := [(1, .int (nI i)), (0, .ref (P 0))]) hx hb d_TM_leave_10 rfl hl (by decide) rfl (fun ls hl => ?_)
    refine lv_iload_n hx hb d_TM_leave_11 rfl (lv_at hl 0 rfl) ?_
    refine lv_if_lt (tgt := 28) hx hb d_TM_leave_12 (by decide) (fun c_12 => ?_) (fun c_12 => ?_)
    · exact absurd c_12 (nI_pos (by omega))
    · refine lv_aload_n hx hb d_TM_leave_15 rfl (lv_at hl 1 rfl) ?_
      refine mg hx hb hts hown hK hP rfl 11 (by decide) rfl fl_TM_20 rfl d_TM_leave_16 ?_
      refine lv_iload_n hx hb d_TM_leave_19 rfl (lv_at hl 0 rfl) ?_
      refine tb_iald hx hb hK hP 4 3 rfl rfl (by omega) (by decide) d_TM_leave_20 ?_
      refine lv_aload_n hx hb d_TM_leave_21 rfl (lv_at hl 1 rfl) ?_
      refine mg hx hb hts hown hK hP rfl 2 (by decide) rfl fl_TM_50 rfl d_TM_leave_22 ?_
      refine lv_icmp_le (tgt := 30) hx hb d_TM_leave_25 (by decide) (fun c_25 => ?_) (fun c_25 => ?_)
      · refine lv_aload_n hx hb d_TM_leave_30 rfl (lv_at hl 1 rfl) ?_
        refine lv_aload_n hx hb d_TM_leave_31 rfl (lv_at hl 1 rfl) ?_
        refine mg hx hb hts hown hK hP rfl 12 (by decide) rfl fl_TM_23 rfl d_TM_leave_32 ?_
        refine lv_iload_n hx hb d_TM_leave_35 rfl (lv_at hl 0 rfl) ?_
        refine tb_iald hx hb hK hP 5 4 rfl rfl (by omega) (by decide) d_TM_leave_36 ?_
        refine mp (ty := .int) hx hb hts hown hK hP hD hS rfl 8 (by decide) rfl fl_TM_80 rfl (by decide +kernel) (rfl) (rfl) (Nat.le_of_ble_eq_true rfl) (mm P C N tx lx nu ti si ro us bt w al now on tl (si i)) rfl d_TM_leave_37 (fun H locs hP hD hS => ?_)
        refine lv_iconst (v := nI 0) hx hb d_TM_leave_40 (by decide) ?_
        refine lv_istore_n (lv' := [(2, .int (nI 0)), (1, .int (nI i)), (0, .ref (P 0))]) hx hb d_TM_leave_41 rfl hl (by decide) rfl (fun ls hl => ?_)
        exact copy (si i) 0 i _ _ _ hpl hiw c_25 (by omega) (by rw [cp_0]; exact hP) (by rw [cp_0]; exact hD) hS (lv_sub hl [0, 1, 2] rfl)
      · refine lv_iconst (v := (-1)) hx hb d_TM_leave_28 (by decide) ?_
        exact tb_reti hx hb hr hlk hK (lx, ll, nu, ti, si, ro, us, w) hP hD hS (by rw [ml_R, hpl]; simp only []; rw [if_neg c_25]) d_TM_leave_29

set_option maxHeartbeats 4000000 in
set_option maxRecDepth 100000 in
/-- the reference: about -/
theorem mc_about (l : Launch) (dC : Nat → ClassId) (dI : Nat → Nat → Nat) (P : Nat → Nat) (C : Nat → ClassId) (N sz : Nat) (tx lx nu ti : Nat → Int32) (si ro : Nat → Nat) (us : Nat → Bool) (bt : Nat → Int32) (w al now : Nat) (on : Bool) (tl ll : Nat) (k j : Int32) (hw : w ≤ 1024) : ctI l y_TM_about ws_TM_about (rmD 1) (dC, dI) classes (tys_M C) (mm P C N tx lx nu ti si ro us bt w al now on tl ll) sz [.ref (P 0), .int k, .int j] (fun (r : Int32) (_ : Unit) => r = ma_F nu ti si w k j) (fun _ => (mm P C N tx lx nu ti si ro us bt w al now on tl ll)) 0 0 := by
  refine tb_metI (own := R_TM) (by decide) rfl rfl (Nat.le_of_ble_eq_true rfl) [(0, .ref (P 0)), (1, .int k), (2, .int j)] rfl ?_
  intro p e s m below meth c A ls hx hb hr hml hts hown hlk hnm hA hK hP hD hS hl
  refine lv_aload_n hx hb d_TM_about_0 rfl (lv_at hl 0 rfl) ?_
  refine lv_iconst (v := nI 0) hx hb d_TM_about_1 (by decide) ?_
  refine mp (ty := .int) hx hb hts hown hK hP hD hS rfl 0 (by decide) rfl fl_TM_41 rfl (by decide +kernel) (rfl) (rfl) (Nat.le_of_ble_eq_true rfl) (mm P C N tx lx nu ti si ro us bt w al now on tl ll) rfl d_TM_about_2 (fun H locs hP hD hS => ?_)
  refine lv_iload_n hx hb d_TM_about_5 rfl (lv_at hl 1 rfl) ?_
  refine lv_if_lt (tgt := 17) hx hb d_TM_about_6 (by decide) (fun c_6 => ?_) (fun c_6 => ?_)
  · refine lv_iconst (v := (-1)) hx hb d_TM_about_17 (by decide) ?_
    refine lv_goto (tgt := 26) hx hb d_TM_about_18 (by decide) ?_
    have hpl : pl_F ti w k = none := by rw [pl_F, if_neg (by first | (rw [iw_0 c_6]; decide) | (rw [iw_2 (Int32.not_lt.mp c_14)]; decide))]
    refine lv_istore_n (lv' := [(3, .int (-1)), (0, .ref (P 0)), (1, .int k), (2, .int j)]) hx hb d_TM_about_26 rfl hl (by decide) rfl (fun ls hl => ?_)
    refine lv_iload_n hx hb d_TM_about_27 rfl (lv_at hl 0 rfl) ?_
    refine lv_if_ge (tgt := 33) hx hb d_TM_about_28 (by decide) (fun c_28 => ?_) (fun c_28 => ?_)
    · exact absurd c_28 (by decide)
    · refine lv_iconst (v := (-1)) hx hb d_TM_about_31 (by decide) ?_
      exact tb_reti hx hb hr hlk hK () hP hD hS (by rw [ma_F, hpl]) d_TM_about_32
  · refine lv_iload_n hx hb d_TM_about_9 rfl (lv_at hl 1 rfl) ?_
    refine lv_aload_n hx hb d_TM_about_10 rfl (lv_at hl 0 rfl) ?_
    refine mg hx hb hts hown hK hP rfl 9 (by decide) rfl fl_TM_44 rfl d_TM_about_11 ?_
    refine lv_icmp_lt (tgt := 21) hx hb d_TM_about_14 (by decide) (fun c_14 => ?_) (fun c_14 => ?_)
    · have hkn := cl_nI c_6
      have hkw : k.toNatClampNeg < w := cl_lt c_6 c_14 (by omega)
      refine lv_aload_n hx hb d_TM_about_21 rfl (lv_at hl 0 rfl) ?_
      refine lv_iload_n hx hb d_TM_about_22 rfl (lv_at hl 1 rfl) ?_
      refine tp_i (nI k.toNatClampNeg) (hkn) ?_
      refine tb_calli (mc_place l dC dI P C N H.size tx lx nu ti si ro us bt w al now on tl ll k.toNatClampNeg hw (by omega)) ⟨hx, hb, hml, hown, hts⟩ (cwV 1 hts g_TM_76 rfl rfl rfl (by decide +kernel) ⟨Nat.le_of_ble_eq_true rfl, Nat.le_of_ble_eq_true rfl⟩) hK hP hD hS hA 1 rfl 0 rfl rfl hl.1 rfl (Nat.le_of_ble_eq_true rfl) d_TM_about_23 ⟨Nat.le_refl _, Nat.le_refl _⟩ (fun r u H locs hwc hP hD hS => ?_)
      subst hwc
      have hpl : pl_F ti w k = pl_o ti k.toNatClampNeg w w 0 none := by rw [pl_F, if_pos (iw_1 c_6 (Int32.not_le.mpr c_14))]
      cases hpo : pl_o ti k.toNatClampNeg w w 0 none with
      | none =>
        rw [hpo] at hpl
        refine tp_i (-1) rfl ?_
        refine lv_istore_n (lv' := [(3, .int (-1)), (0, .ref (P 0)), (1, .int k), (2, .int j)]) hx hb d_TM_about_26 rfl hl (by decide) rfl (fun ls hl => ?_)
        refine lv_iload_n hx hb d_TM_about_27 rfl (lv_at hl 0 rfl) ?_
        refine lv_if_ge (tgt := 33) hx hb d_TM_about_28 (by decide) (fun c_28 => ?_) (fun c_28 => ?_)
        · exact absurd c_28 (by decide)
        · refine lv_iconst (v := (-1)) hx hb d_TM_about_31 (by decide) ?_
          exact tb_reti hx hb hr hlk hK () hP hD hS (by rw [ma_F, hpl]) d_TM_about_32
      | some i =>
        rw [hpo] at hpl
        have hiw : i < w := pl_lt ti _ w w 0 none (by omega) (fun j e => by cases e) i hpo
        refine tp_i (nI i) rfl ?_
        refine lv_istore_n (lv' := [(3, .int (nI i)), (0, .ref (P 0)), (1, .int k), (2, .int j)]) hx hb d_TM_about_26 rfl hl (by decide) rfl (fun ls hl => ?_)
        refine lv_iload_n hx hb d_TM_about_27 rfl (lv_at hl 0 rfl) ?_
        refine lv_if_ge (tgt := 33) hx hb d_TM_about_28 (by decide) (fun c_28 => ?_) (fun c_28 => ?_)
        · refine lv_iload_n hx hb d_TM_about_33 rfl (lv_at hl 3 rfl) ?_
          refine lv_if_ne (tgt := 46) hx hb d_TM_about_34 (by decide) (fun c_34 => ?_) (fun c_34 => ?_)
          · refine lv_iload_n hx hb d_TM_about_46 rfl (lv_at hl 3 rfl) ?_
            refine lv_iconst (v := nI 1) hx hb d_TM_about_47 (by decide) ?_
            refine lv_icmp_ne (tgt := 60) hx hb d_TM_about_48 (by decide) (fun c_48 => ?_) (fun c_48 => ?_)
            · refine lv_iload_n hx hb d_TM_about_60 rfl (lv_at hl 3 rfl) ?_
              refine lv_iconst (v := nI 2) hx hb d_TM_about_61 (by decide) ?_
              refine lv_icmp_ne (tgt := 74) hx hb d_TM_about_62 (by decide) (fun c_62 => ?_) (fun c_62 => ?_)
              · refine lv_iconst (v := (-1)) hx hb d_TM_about_74 (by decide) ?_
                exact tb_reti hx hb hr hlk hK () hP hD hS (by rw [ma_F, hpl]; simp only []; first | rw [if_pos (show j = 0 from c_34)] | rw [if_neg (show ¬ j = 0 from c_34), if_pos (show j = 1 from c_48)] | rw [if_neg (show ¬ j = 0 from c_34), if_neg (show ¬ j = 1 from c_48), if_pos (show j = 2 from c_62)] | rw [if_neg (show ¬ j = 0 from c_34), if_neg (show ¬ j = 1 from c_48), if_neg (show ¬ j = 2 from c_62)]) d_TM_about_75
              · refine lv_aload_n hx hb d_TM_about_65 rfl (lv_at hl 1 rfl) ?_
                refine mg hx hb hts hown hK hP rfl 12 (by decide) rfl fl_TM_23 rfl d_TM_about_66 ?_
                refine lv_iload_n hx hb d_TM_about_69 rfl (lv_at hl 0 rfl) ?_
                refine tb_iald hx hb hK hP 5 4 rfl rfl (by omega) (by decide) d_TM_about_70 ?_
                refine lv_goto (tgt := 75) hx hb d_TM_about_71 (by decide) ?_
                exact tb_reti hx hb hr hlk hK () hP hD hS (by rw [ma_F, hpl]; simp only []; first | rw [if_pos (show j = 0 from c_34)] | rw [if_neg (show ¬ j = 0 from c_34), if_pos (show j = 1 from c_48)] | rw [if_neg (show ¬ j = 0 from c_34), if_neg (show ¬ j = 1 from c_48), if_pos (show j = 2 from c_62)] | rw [if_neg (show ¬ j = 0 from c_34), if_neg (show ¬ j = 1 from c_48), if_neg (show ¬ j = 2 from c_62)]) d_TM_about_75
            · refine lv_aload_n hx hb d_TM_about_51 rfl (lv_at hl 1 rfl) ?_
              refine mg hx hb hts hown hK hP rfl 11 (by decide) rfl fl_TM_20 rfl d_TM_about_52 ?_
              refine lv_iload_n hx hb d_TM_about_55 rfl (lv_at hl 0 rfl) ?_
              refine tb_iald hx hb hK hP 4 3 rfl rfl (by omega) (by decide) d_TM_about_56 ?_
              refine lv_goto (tgt := 75) hx hb d_TM_about_57 (by decide) ?_
              exact tb_reti hx hb hr hlk hK () hP hD hS (by rw [ma_F, hpl]; simp only []; first | rw [if_pos (show j = 0 from c_34)] | rw [if_neg (show ¬ j = 0 from c_34), if_pos (show j = 1 from c_48)] | rw [if_neg (show ¬ j = 0 from c_34), if_neg (show ¬ j = 1 from c_48), if_pos (show j = 2 from c_62)] | rw [if_neg (show ¬ j = 0 from c_34), if_neg (show ¬ j = 1 from c_48), if_neg (show ¬ j = 2 from c_62)]) d_TM_about_75
          · refine lv_aload_n hx hb d_TM_about_37 rfl (lv_at hl 1 rfl) ?_
            refine mg hx hb hts hown hK hP rfl 10 (by decide) rfl fl_TM_16 rfl d_TM_about_38 ?_
            refine lv_iload_n hx hb d_TM_about_41 rfl (lv_at hl 0 rfl) ?_
            refine tb_iald hx hb hK hP 3 2 rfl rfl (by omega) (by decide) d_TM_about_42 ?_
            refine lv_goto (tgt := 75) hx hb d_TM_about_43 (by decide) ?_
            exact tb_reti hx hb hr hlk hK () hP hD hS (by rw [ma_F, hpl]; simp only []; first | rw [if_pos (show j = 0 from c_34)] | rw [if_neg (show ¬ j = 0 from c_34), if_pos (show j = 1 from c_48)] | rw [if_neg (show ¬ j = 0 from c_34), if_neg (show ¬ j = 1 from c_48), if_pos (show j = 2 from c_62)] | rw [if_neg (show ¬ j = 0 from c_34), if_neg (show ¬ j = 1 from c_48), if_neg (show ¬ j = 2 from c_62)]) d_TM_about_75
        · exact absurd (nI_pos' (by omega)) c_28
    · refine lv_iconst (v := (-1)) hx hb d_TM_about_17 (by decide) ?_
      refine lv_goto (tgt := 26) hx hb d_TM_about_18 (by decide) ?_
      have hpl : pl_F ti w k = none := by rw [pl_F, if_neg (by first | (rw [iw_0 c_6]; decide) | (rw [iw_2 (Int32.not_lt.mp c_14)]; decide))]
      refine lv_istore_n (lv' := [(3, .int (-1)), (0, .ref (P 0)), (1, .int k), (2, .int j)]) hx hb d_TM_about_26 rfl hl (by decide) rfl (fun ls hl => ?_)
      refine lv_iload_n hx hb d_TM_about_27 rfl (lv_at hl 0 rfl) ?_
      refine lv_if_ge (tgt := 33) hx hb d_TM_about_28 (by decide) (fun c_28 => ?_) (fun c_28 => ?_)
      · exact absurd c_28 (by decide)
      · refine lv_iconst (v := (-1)) hx hb d_TM_about_31 (by decide) ?_
        exact tb_reti hx hb hr hlk hK () hP hD hS (by rw [ma_F, hpl]) d_TM_about_32

set_option maxHeartbeats 4000000 in
set_option maxRecDepth 100000 in
/-- the reference: byteAt -/
theorem mc_byteAt (l : Launch) (dC : Nat → ClassId) (dI : Nat → Nat → Nat) (P : Nat → Nat) (C : Nat → ClassId) (N sz : Nat) (tx lx nu ti : Nat → Int32) (si ro : Nat → Nat) (us : Nat → Bool) (bt : Nat → Int32) (w al now : Nat) (on : Bool) (tl ll : Nat) (k j : Int32) (hw : w ≤ 1024) (hro : ∀ j, j < w → ro j < 1024) (hsi : ∀ j, j < w → si j ≤ 256) : ctI l y_TM_byteAt ws_TM_byteAt (rmD 1) (dC, dI) classes (tys_M C) (mm P C N tx lx nu ti si ro us bt w al now on tl ll) sz [.ref (P 0), .int k, .int j] (fun (r : Int32) (_ : Unit) => r = mb_F bt ti si ro w k j) (fun _ => (mm P C N tx lx nu ti si ro us bt w al now on tl ll)) 0 0 := by
  refine tb_metI (own := R_TM) (by decide) rfl rfl (Nat.le_of_ble_eq_true rfl) [(0, .ref (P 0)), (1, .int k), (2, .int j)] rfl ?_
  intro p e s m below meth c A ls hx hb hr hml hts hown hlk hnm hA hK hP hD hS hl
  refine lv_aload_n hx hb d_TM_byteAt_0 rfl (lv_at hl 0 rfl) ?_
  refine lv_iconst (v := nI 0) hx hb d_TM_byteAt_1 (by decide) ?_
  refine mp (ty := .int) hx hb hts hown hK hP hD hS rfl 0 (by decide) rfl fl_TM_41 rfl (by decide +kernel) (rfl) (rfl) (Nat.le_of_ble_eq_true rfl) (mm P C N tx lx nu ti si ro us bt w al now on tl ll) rfl d_TM_byteAt_2 (fun H locs hP hD hS => ?_)
  refine lv_iload_n hx hb d_TM_byteAt_5 rfl (lv_at hl 1 rfl) ?_
  refine lv_if_lt (tgt := 17) hx hb d_TM_byteAt_6 (by decide) (fun c_6 => ?_) (fun c_6 => ?_)
  · refine lv_iconst (v := (-1)) hx hb d_TM_byteAt_17 (by decide) ?_
    refine lv_goto (tgt := 26) hx hb d_TM_byteAt_18 (by decide) ?_
    have hpl : pl_F ti w k = none := by rw [pl_F, if_neg (by first | (rw [iw_0 c_6]; decide) | (rw [iw_2 (Int32.not_lt.mp c_14)]; decide))]
    refine lv_istore_n (lv' := [(3, .int (-1)), (0, .ref (P 0)), (1, .int k), (2, .int j)]) hx hb d_TM_byteAt_26 rfl hl (by decide) rfl (fun ls hl => ?_)
    refine lv_iload_n hx hb d_TM_byteAt_27 rfl (lv_at hl 0 rfl) ?_
    refine lv_if_lt (tgt := 45) hx hb d_TM_byteAt_28 (by decide) (fun c_28 => ?_) (fun c_28 => ?_)
    · refine lv_iconst (v := (-1)) hx hb d_TM_byteAt_45 (by decide) ?_
      refine lv_goto (tgt := 70) hx hb d_TM_byteAt_46 (by decide) ?_
      exact tb_reti hx hb hr hlk hK () hP hD hS (by rw [mb_F, hpl]) d_TM_byteAt_70
    · exact absurd (show (-1 : Int32) < 0 by decide) c_28
  · refine lv_iload_n hx hb d_TM_byteAt_9 rfl (lv_at hl 1 rfl) ?_
    refine lv_aload_n hx hb d_TM_byteAt_10 rfl (lv_at hl 0 rfl) ?_
    refine mg hx hb hts hown hK hP rfl 9 (by decide) rfl fl_TM_44 rfl d_TM_byteAt_11 ?_
    refine lv_icmp_lt (tgt := 21) hx hb d_TM_byteAt_14 (by decide) (fun c_14 => ?_) (fun c_14 => ?_)
    · have hkn := cl_nI c_6
      have hkw : k.toNatClampNeg < w := cl_lt c_6 c_14 (by omega)
      refine lv_aload_n hx hb d_TM_byteAt_21 rfl (lv_at hl 0 rfl) ?_
      refine lv_iload_n hx hb d_TM_byteAt_22 rfl (lv_at hl 1 rfl) ?_
      refine tp_i (nI k.toNatClampNeg) (hkn) ?_
      refine tb_calli (mc_place l dC dI P C N H.size tx lx nu ti si ro us bt w al now on tl ll k.toNatClampNeg hw (by omega)) ⟨hx, hb, hml, hown, hts⟩ (cwV 1 hts g_TM_76 rfl rfl rfl (by decide +kernel) ⟨Nat.le_of_ble_eq_true rfl, Nat.le_of_ble_eq_true rfl⟩) hK hP hD hS hA 1 rfl 0 rfl rfl hl.1 rfl (Nat.le_of_ble_eq_true rfl) d_TM_byteAt_23 ⟨Nat.le_refl _, Nat.le_refl _⟩ (fun r u H locs hwc hP hD hS => ?_)
      subst hwc
      have hpl : pl_F ti w k = pl_o ti k.toNatClampNeg w w 0 none := by rw [pl_F, if_pos (iw_1 c_6 (Int32.not_le.mpr c_14))]
      cases hpo : pl_o ti k.toNatClampNeg w w 0 none with
      | none =>
        rw [hpo] at hpl
        refine tp_i (-1) rfl ?_
        refine lv_istore_n (lv' := [(3, .int (-1)), (0, .ref (P 0)), (1, .int k), (2, .int j)]) hx hb d_TM_byteAt_26 rfl hl (by decide) rfl (fun ls hl => ?_)
        refine lv_iload_n hx hb d_TM_byteAt_27 rfl (lv_at hl 0 rfl) ?_
        refine lv_if_lt (tgt := 45) hx hb d_TM_byteAt_28 (by decide) (fun c_28 => ?_) (fun c_28 => ?_)
        · refine lv_iconst (v := (-1)) hx hb d_TM_byteAt_45 (by decide) ?_
          refine lv_goto (tgt := 70) hx hb d_TM_byteAt_46 (by decide) ?_
          exact tb_reti hx hb hr hlk hK () hP hD hS (by rw [mb_F, hpl]) d_TM_byteAt_70
        · exact absurd (show (-1 : Int32) < 0 by decide) c_28
      | some i =>
        rw [hpo] at hpl
        have hiw : i < w := pl_lt ti _ w w 0 none (by omega) (fun j e => by cases e) i hpo
        refine tp_i (nI i) rfl ?_
        refine lv_istore_n (lv' := [(3, .int (nI i)), (0, .ref (P 0)), (1, .int k), (2, .int j)]) hx hb d_TM_byteAt_26 rfl hl (by decide) rfl (fun ls hl => ?_)
        refine lv_iload_n hx hb d_TM_byteAt_27 rfl (lv_at hl 0 rfl) ?_
        refine lv_if_lt (tgt := 45) hx hb d_TM_byteAt_28 (by decide) (fun c_28 => ?_) (fun c_28 => ?_)
        · exact absurd c_28 (nI_pos (by omega))
        · refine lv_iload_n hx hb d_TM_byteAt_31 rfl (lv_at hl 3 rfl) ?_
          refine lv_if_lt (tgt := 45) hx hb d_TM_byteAt_32 (by decide) (fun c_32 => ?_) (fun c_32 => ?_)
          · refine lv_iconst (v := (-1)) hx hb d_TM_byteAt_45 (by decide) ?_
            refine lv_goto (tgt := 70) hx hb d_TM_byteAt_46 (by decide) ?_
            exact tb_reti hx hb hr hlk hK () hP hD hS (by rw [mb_F, hpl]; simp only []; first | rw [bo_0 c_32] | rw [bo_1 (Int32.not_lt.mp c_42)] | rw [bo_2 c_32 (Int32.not_le.mpr c_42)]) d_TM_byteAt_70
          · refine lv_iload_n hx hb d_TM_byteAt_35 rfl (lv_at hl 3 rfl) ?_
            refine lv_aload_n hx hb d_TM_byteAt_36 rfl (lv_at hl 1 rfl) ?_
            refine mg hx hb hts hown hK hP rfl 12 (by decide) rfl fl_TM_23 rfl d_TM_byteAt_37 ?_
            refine lv_iload_n hx hb d_TM_byteAt_40 rfl (lv_at hl 0 rfl) ?_
            refine tb_iald hx hb hK hP 5 4 rfl rfl (by omega) (by decide) d_TM_byteAt_41 ?_
            refine lv_icmp_lt (tgt := 49) hx hb d_TM_byteAt_42 (by decide) (fun c_42 => ?_) (fun c_42 => ?_)
            · have hj := cl_nI c_32
              have z1 := hro i hiw
              have z2 := hsi i hiw
              have hjb : j.toNatClampNeg < si i := cl_lt c_32 c_42 (by omega)
              refine lv_aload_n hx hb d_TM_byteAt_49 rfl (lv_at hl 1 rfl) ?_
              refine mg hx hb hts hown hK hP rfl 15 (by decide) rfl fl_TM_34 rfl d_TM_byteAt_50 ?_
              refine lv_sipush (v := nI 256) hx hb d_TM_byteAt_53 (by decide) ?_
              refine lv_aload_n hx hb d_TM_byteAt_56 rfl (lv_at hl 1 rfl) ?_
              refine mg hx hb hts hown hK hP rfl 13 (by decide) rfl fl_TM_26 rfl d_TM_byteAt_57 ?_
              refine lv_iload_n hx hb d_TM_byteAt_60 rfl (lv_at hl 0 rfl) ?_
              refine tb_iald hx hb hK hP 6 5 rfl rfl (by omega) (by decide) d_TM_byteAt_61 ?_
              refine lv_imul hx hb d_TM_byteAt_62 ?_
              refine tp_i (nI (256 * ro i)) (pk_mul _ _) ?_
              refine lv_iload_n hx hb d_TM_byteAt_63 rfl (lv_at hl 3 rfl) ?_
              refine tp_i (nI j.toNatClampNeg) (hj) ?_
              refine lv_iadd hx hb d_TM_byteAt_64 ?_
              refine tp_i (nI (256 * ro i + j.toNatClampNeg)) (nI_add _ _) ?_
              refine tb_bald hx hb hK hP 8 7 rfl rfl (by omega) (by decide) d_TM_byteAt_65 ?_
              refine lv_sipush (v := nI 255) hx hb d_TM_byteAt_66 (by decide) ?_
              refine lv_iand hx hb d_TM_byteAt_69 ?_
              exact tb_reti hx hb hr hlk hK () hP hD hS (by rw [mb_F, hpl]; simp only []; first | rw [bo_0 c_32] | rw [bo_1 (Int32.not_lt.mp c_42)] | rw [bo_2 c_32 (Int32.not_le.mpr c_42)]) d_TM_byteAt_70
            · refine lv_iconst (v := (-1)) hx hb d_TM_byteAt_45 (by decide) ?_
              refine lv_goto (tgt := 70) hx hb d_TM_byteAt_46 (by decide) ?_
              exact tb_reti hx hb hr hlk hK () hP hD hS (by rw [mb_F, hpl]; simp only []; first | rw [bo_0 c_32] | rw [bo_1 (Int32.not_lt.mp c_42)] | rw [bo_2 c_32 (Int32.not_le.mpr c_42)]) d_TM_byteAt_70
    · refine lv_iconst (v := (-1)) hx hb d_TM_byteAt_17 (by decide) ?_
      refine lv_goto (tgt := 26) hx hb d_TM_byteAt_18 (by decide) ?_
      have hpl : pl_F ti w k = none := by rw [pl_F, if_neg (by first | (rw [iw_0 c_6]; decide) | (rw [iw_2 (Int32.not_lt.mp c_14)]; decide))]
      refine lv_istore_n (lv' := [(3, .int (-1)), (0, .ref (P 0)), (1, .int k), (2, .int j)]) hx hb d_TM_byteAt_26 rfl hl (by decide) rfl (fun ls hl => ?_)
      refine lv_iload_n hx hb d_TM_byteAt_27 rfl (lv_at hl 0 rfl) ?_
      refine lv_if_lt (tgt := 45) hx hb d_TM_byteAt_28 (by decide) (fun c_28 => ?_) (fun c_28 => ?_)
      · refine lv_iconst (v := (-1)) hx hb d_TM_byteAt_45 (by decide) ?_
        refine lv_goto (tgt := 70) hx hb d_TM_byteAt_46 (by decide) ?_
        exact tb_reti hx hb hr hlk hK () hP hD hS (by rw [mb_F, hpl]) d_TM_byteAt_70
      · exact absurd (show (-1 : Int32) < 0 by decide) c_28
end
section
/-! The reference's rows hold the entries as they came (A). -/
def em (bt nu ti : Nat → Int32) (si ro sq : Nat → Nat) (j : Nat) : Ent := (nu j, ti j, by_L bt (256 * ro j) (si j), sq j)
def RA (bt : Nat → Int32) (al : Nat) (v : MS) (A : List Ent) : Prop :=
  v.2.2.2.2.2 ≤ 1024 ∧ (∀ j, j < v.2.2.2.2.2 → v.2.2.2.1 j < 1024 ∧ v.2.2.1 j ≤ 256) ∧ (∀ i j, i < v.2.2.2.2.2 → j < v.2.2.2.2.2 → v.2.2.2.1 i = v.2.2.2.1 j → i = j) ∧ (∀ r, v.2.2.2.2.1 r = true → ∃ j, j < v.2.2.2.2.2 ∧ v.2.2.2.1 j = r) ∧ (∀ j, j < v.2.2.2.2.2 → v.2.2.2.2.1 (v.2.2.2.1 j) = true) ∧
  ∃ sq : Nat → Nat, (∀ i j, i < j → j < v.2.2.2.2.2 → sq i < sq j) ∧ (∀ j, j < v.2.2.2.2.2 → sq j < al) ∧ A = (List.range v.2.2.2.2.2).map (em bt v.1 v.2.1 v.2.2.1 v.2.2.2.1 sq)
section RAS
variable {bt : Nat → Int32} {al : Nat} {v : MS} {A : List Ent}
theorem ra_len (h : RA bt al v A) : A.length = v.2.2.2.2.2 := by
  obtain ⟨-, -, -, -, -, sq, -, -, rfl⟩ := h
  simp
theorem ra_nd (h : RA bt al v A) : e_nd A := by
  obtain ⟨-, -, -, -, -, sq, s1, -, rfl⟩ := h
  refine List.pairwise_map.mpr (List.Pairwise.imp_of_mem (fun {a b} ha hb hab => ?_) List.pairwise_lt_range)
  have := s1 a b hab (List.mem_range.mp hb)
  show sq a ≠ sq b
  omega
theorem dp_at {α : Type} (f : Nat → α) (i k j : Nat) : dp f i k j = f (if i ≤ j ∧ j < k then j + 1 else j) := by
  unfold dp
  split <;> rfl
theorem ra_dp (h : RA bt al v A) {i : Nat} (hi : i < v.2.2.2.2.2) : RA bt al (m_dp v i) (A.eraseIdx i) := by
  obtain ⟨nu, ti, si, ro, us, w⟩ := v
  obtain ⟨h1, h2, h3, h4, h5, sq, s1, s2, rfl⟩ := h
  dsimp only at h1 h2 h3 h4 h5 s1 s2 hi ⊢
  have key : ∀ j, j < w - 1 → ∃ k, k < w ∧ k = (if i ≤ j ∧ j < w - 1 then j + 1 else j) ∧ k ≠ i ∧ ((i ≤ j ∧ k = j + 1) ∨ (j < i ∧ k = j)) := by
    intro j hj
    by_cases q : i ≤ j
    · exact ⟨j + 1, by omega, by rw [if_pos ⟨q, hj⟩], by omega, Or.inl ⟨q, rfl⟩⟩
    · exact ⟨j, by omega, by rw [if_neg (fun z => q z.1)], by omega, Or.inr ⟨by omega, rfl⟩⟩
  refine ⟨by show w - 1 ≤ 1024; omega, ?_, ?_, ?_, ?_, dp sq i (w - 1), ?_, ?_, ?_⟩
  · intro j hj
    obtain ⟨k, k1, k2, -⟩ := key j hj
    show dp ro i (w - 1) j < 1024 ∧ dp si i (w - 1) j ≤ 256
    rw [dp_at, dp_at, ← k2]
    exact h2 k k1
  · intro a b ha hb e
    obtain ⟨k, k1, k2, k3, k4⟩ := key a ha
    obtain ⟨m, m1, m2, m3, m4⟩ := key b hb
    have e : dp ro i (w - 1) a = dp ro i (w - 1) b := e
    rw [dp_at, dp_at, ← k2, ← m2] at e
    have := h3 k m k1 m1 e
    omega
  · intro r hr
    have hr : va_up us (ro i) false r = true := hr
    unfold va_up at hr
    by_cases q : r = ro i
    · rw [if_pos q] at hr; exact absurd hr (by decide)
    · rw [if_neg q] at hr
      obtain ⟨j, j1, j2⟩ := h4 r hr
      have hji : j ≠ i := fun z => q (by rw [← j2, z])
      by_cases z : i ≤ j
      · refine ⟨j - 1, by show j - 1 < w - 1; omega, ?_⟩
        show dp ro i (w - 1) (j - 1) = r
        rw [dp_at, if_pos (by omega), show j - 1 + 1 = j by omega]
        exact j2
      · refine ⟨j, by show j < w - 1; omega, ?_⟩
        show dp ro i (w - 1) j = r
        rw [dp_at, if_neg (by omega)]
        exact j2
  · intro j hj
    obtain ⟨k, k1, k2, k3, k4⟩ := key j hj
    show va_up us (ro i) false (dp ro i (w - 1) j) = true
    rw [dp_at, ← k2]
    unfold va_up
    rw [if_neg (fun z => k3 (h3 k i k1 hi z))]
    exact h5 k k1
  · intro a b hab hb
    obtain ⟨k, k1, k2, k3, k4⟩ := key a (by have hb : b < w - 1 := hb; omega)
    obtain ⟨m, m1, m2, m3, m4⟩ := key b hb
    rw [dp_at, dp_at, ← k2, ← m2]
    exact s1 k m (by omega) m1
  · intro j hj
    obtain ⟨k, k1, k2, -⟩ := key j hj
    rw [dp_at, ← k2]
    exact s2 k k1
  · show _ = (List.range (w - 1)).map (em bt (dp nu i (w - 1)) (dp ti i (w - 1)) (dp si i (w - 1)) (dp ro i (w - 1)) (dp sq i (w - 1)))
    apply List.ext_getElem?
    intro j
    rw [List.getElem?_eraseIdx]
    by_cases hj : j < w - 1
    · obtain ⟨k, k1, k2, k3, k4⟩ := key j hj
      have e2 : ((List.range (w - 1)).map (em bt (dp nu i (w - 1)) (dp ti i (w - 1)) (dp si i (w - 1)) (dp ro i (w - 1)) (dp sq i (w - 1))))[j]? = some (em bt nu ti si ro sq k) := by
        rw [List.getElem?_map, List.getElem?_range hj]
        show some (em bt (dp nu i (w - 1)) (dp ti i (w - 1)) (dp si i (w - 1)) (dp ro i (w - 1)) (dp sq i (w - 1)) j) = _
        unfold em
        rw [dp_at nu, dp_at ti, dp_at si, dp_at ro, dp_at sq, ← k2]
      rw [e2]
      rcases k4 with ⟨q1, q2⟩ | ⟨q1, q2⟩
      · rw [if_neg (by omega), List.getElem?_map, List.getElem?_range (by omega), q2]
        rfl
      · rw [if_pos q1, List.getElem?_map, List.getElem?_range (by omega), q2]
        rfl
    · rw [List.getElem?_eq_none (l := (List.range (w - 1)).map _) (by simp; omega)]
      by_cases q : j < i
      · omega
      · rw [if_neg q, List.getElem?_eq_none (by simp; omega)]
theorem ra_rm (pr : Int32 → Int32 → Bool) : ∀ (n : Nat) (v : MS) (q : Nat) (A : List Ent), RA bt al v A → n ≤ v.2.2.2.2.2 → RA bt al (m_rm pr n v q).1 ((A.take n).filter (fun e => !(pr e.1 e.2.1)) ++ A.drop n) ∧ (m_rm pr n v q).2 = q + ((A.take n).filter (fun e => pr e.1 e.2.1)).length := by
  intro n
  induction n with
  | zero => intro v q A h _; exact ⟨by simpa [m_rm] using h, by simp [m_rm]⟩
  | succ n ih =>
    intro v q A h hn
    have hl := ra_len h
    have hx : ∃ x, A[n]? = some x ∧ x.1 = v.1 n ∧ x.2.1 = v.2.1 n := by
      obtain ⟨-, -, -, -, -, sq, -, -, rfl⟩ := h
      exact ⟨em bt v.1 v.2.1 v.2.2.1 v.2.2.2.1 sq n, by rw [List.getElem?_map, List.getElem?_range (by omega)]; rfl, rfl, rfl⟩
    obtain ⟨x, hx, e1, e2⟩ := hx
    have ht : A.take (n + 1) = A.take n ++ [x] := by rw [List.take_succ, hx]; rfl
    have hd : A.drop n = x :: A.drop (n + 1) := by
      have hlt : n < A.length := by omega
      rw [List.drop_eq_getElem_cons hlt]
      rw [List.getElem?_eq_getElem hlt] at hx
      rw [Option.some.inj hx]
    rw [m_rm, ht, List.filter_append, List.filter_append]
    by_cases hp : pr (v.1 n) (v.2.1 n) = true
    · rw [if_pos hp]
      obtain ⟨r1, r2⟩ := ih (m_dp v n) (q + 1) (A.eraseIdx n) (ra_dp h (by omega)) (by show n ≤ v.2.2.2.2.2 - 1; omega)
      have f1 : [x].filter (fun e => !(pr e.1 e.2.1)) = [] := by simp [e1, e2, hp]
      have f2 : [x].filter (fun e => pr e.1 e.2.1) = [x] := by simp [e1, e2, hp]
      have t1 : (A.eraseIdx n).take n = A.take n := by rw [List.eraseIdx_eq_take_drop_succ, List.take_append_of_le_length (by rw [List.length_take]; omega), List.take_take, Nat.min_self]
      have t2 : (A.eraseIdx n).drop n = A.drop (n + 1) := by
        rw [List.eraseIdx_eq_take_drop_succ, List.drop_append_of_le_length (by rw [List.length_take]; omega), List.drop_take, Nat.sub_self, List.take_zero, List.nil_append]
      rw [f1, f2, List.append_nil]
      rw [t1, t2] at r1
      rw [t1] at r2
      refine ⟨r1, ?_⟩
      rw [r2, List.length_append]
      simp only [List.length_singleton]
      omega
    · rw [if_neg hp]
      have hp : pr (v.1 n) (v.2.1 n) = false := by simpa using hp
      obtain ⟨r1, r2⟩ := ih v q A h (by omega)
      have f1 : [x].filter (fun e => !(pr e.1 e.2.1)) = [x] := by simp [e1, e2, hp]
      have f2 : [x].filter (fun e => pr e.1 e.2.1) = [] := by simp [e1, e2, hp]
      rw [f1, f2, List.append_nil]
      refine ⟨?_, r2⟩
      rw [List.append_assoc, List.singleton_append, ← hd]
      exact r1
theorem ra_rm_all (h : RA bt al v A) (pr : Int32 → Int32 → Bool) : RA bt al (m_rm pr v.2.2.2.2.2 v 0).1 (A.filter (fun e => !(pr e.1 e.2.1))) ∧ (m_rm pr v.2.2.2.2.2 v 0).2 = (A.filter (fun e => pr e.1 e.2.1)).length := by
  have hl := ra_len h
  obtain ⟨r1, r2⟩ := ra_rm (bt := bt) (al := al) pr v.2.2.2.2.2 v 0 A h (Nat.le_refl _)
  rw [← hl, List.take_length, List.drop_length, List.append_nil] at r1
  rw [← hl, List.take_length, Nat.zero_add] at r2
  rw [← hl]
  exact ⟨r1, r2⟩
theorem ra_rs : ∀ (n : Nat) (v : MS) (A : List Ent), RA bt al v A → n = v.2.2.2.2.2 → RA bt al (m_rs n v) [] := by
  intro n
  induction n with
  | zero =>
    intro v A h hn
    have hl := ra_len h
    rw [← hn] at hl
    rw [List.eq_nil_of_length_eq_zero hl] at h
    exact h
  | succ n ih =>
    intro v A h hn
    rw [m_rs]
    exact ih (m_dp v n) _ (ra_dp h (by omega)) (by show n = v.2.2.2.2.2 - 1; omega)
theorem ra_free (h : RA bt al v A) (hw : v.2.2.2.2.2 < 1024) : ∃ r0, r0 < 1024 ∧ v.2.2.2.2.1 r0 = false ∧ ∀ j, j < r0 → v.2.2.2.2.1 j = true := by
  obtain ⟨h1, h2, h3, h4, h5, -⟩ := h
  have hex : ∃ r, v.2.2.2.2.1 r = false ∧ r < 1024 := by
    refine Classical.byContradiction (fun hno => ?_)
    have hall : ∀ r, r < 1024 → v.2.2.2.2.1 r = true := fun r hr => by
      cases hu : v.2.2.2.2.1 r with
      | true => rfl
      | false => exact absurd ⟨r, hu, hr⟩ hno
    have hsub : List.range 1024 ⊆ sl v.2.2.2.2.2 v.2.2.2.1 := fun r hr => by
      obtain ⟨j, j1, j2⟩ := h4 r (hall r (List.mem_range.mp hr))
      exact sl_mem.mpr ⟨j, j1, j2⟩
    have := List.Nodup.length_le_of_subset List.nodup_range hsub
    rw [List.length_range, sl_len] at this
    omega
  obtain ⟨r0, p1, p2⟩ := pk_least (fun r => v.2.2.2.2.1 r = false) ⟨hex.choose, hex.choose_spec.1⟩
  refine ⟨r0, ?_, p1, fun j hj => by simpa using p2 j hj⟩
  have hc := hex.choose_spec
  refine Nat.lt_of_le_of_lt ?_ hc.2
  exact Nat.not_lt.mp (fun z => p2 _ z hc.1)
end RAS
theorem a_so_p {L M : List Ent} (hp : L.Perm M) (hn : e_nd M) : a_so L = a_so M := a_so_eq ((a_so_perm L).trans hp) (a_so_srt L) hn
theorem e_nd_p {L M : List Ent} (hp : L.Perm M) (hn : e_nd L) : e_nd M := List.Pairwise.perm hn hp (fun h => Ne.symm h)
theorem a_so_f (p : Ent → Bool) {L : List Ent} (hn : e_nd L) : (a_so L).filter p = a_so (L.filter p) := a_so_eq ((a_so_perm L).filter p) (List.Pairwise.filter _ (a_so_srt L)) (List.Pairwise.filter _ hn)
/-- in order, as many are ahead of one as its place says -/
theorem a_pos : ∀ (E : List Ent), e_srt E → e_nd E → ∀ (p : Nat) (x : Ent), E[p]? = some x → E.countP (fun e => e_lt e x) = p := by
  intro E
  induction E with
  | nil => intro _ _ p x h; simp at h
  | cons y r ih =>
    intro hs hn p x h
    obtain ⟨s1, s2⟩ := List.pairwise_cons.mp hs
    obtain ⟨n1, n2⟩ := List.pairwise_cons.mp hn
    rw [List.countP_cons]
    cases p with
    | zero =>
      have hx : y = x := by simpa using h
      subst hx
      have h1 : r.countP (fun e => e_lt e y) = 0 := List.countP_eq_zero.mpr (fun e he => by rw [s1 e he]; decide)
      have h2 : e_lt y y = false := by rw [e_ge_iff]; omega
      rw [h1, h2]
      rfl
    | succ p =>
      have hx : r[p]? = some x := by simpa using h
      have hm : x ∈ r := List.mem_of_getElem? hx
      have h2 : e_lt y x = true := by
        have q1 := (e_ge_iff y x).mp (s1 x hm)
        have q2 := n1 x hm
        rw [e_lt_iff]
        omega
      rw [ih s2 n2 p x hx, h2]
      rfl
end
section
/-! The reference holds the timetable. -/
def RM (N : Nat) (tx lx bt : Nat → Int32) (v : MS) (al tl ll : Nat) (E : List Ent) (T L : List Int32) : Prop :=
  (v.2.2.2.2.2 ≤ N ∧ N ≤ 1024 ∧ tl ≤ 256 ∧ ll ≤ 256) ∧ T = by_L tx 0 tl ∧ L = by_L lx 0 ll ∧ ∃ A, RA bt al v A ∧ E = a_so A
theorem by_cp {f h : Nat → Int32} {a k : Nat} : by_L (cp f h a k) a k = by_L h 0 k := by
  unfold by_L
  refine List.map_congr_left (fun j hj => ?_)
  have := List.mem_range.mp hj
  unfold cp
  rw [if_pos (by omega), show a + j - a = j by omega, Nat.zero_add, vp_nar_byte]
  exact bp_b _
theorem by_sh (bt : Nat → Int32) (a n : Nat) : by_L (fun k => bt (a + k)) 0 n = by_L bt a n := by
  unfold by_L
  refine List.map_congr_left (fun j _ => ?_)
  rw [Nat.zero_add]
section RMS
variable {N : Nat} {tx lx bt : Nat → Int32} {v : MS} {al tl ll : Nat} {E : List Ent} {T L : List Int32}
theorem rm_len (h : RM N tx lx bt v al tl ll E T L) : E.length = v.2.2.2.2.2 ∧ T.length = tl ∧ L.length = ll := by
  obtain ⟨-, rfl, rfl, A, hA, rfl⟩ := h
  exact ⟨by rw [(a_so_perm A).length_eq, ra_len hA], by_len _ _ _, by_len _ _ _⟩
theorem rm_put (h : RM N tx lx bt v al tl ll E T L) (b : Int32) {r : Int32} {u : (Nat → Int32) × Nat} (e : (r, u) = mp_R tx tl b) : r = (if T.length < 256 then nI (T.length + 1) else -1) ∧ RM N u.1 lx bt v al u.2 ll E (if T.length < 256 then T ++ [b &&& nI 255] else T) L := by
  have hl := rm_len h
  rw [hl.2.1]
  obtain ⟨⟨h1, h2, h3, h4⟩, rfl, h6, h7⟩ := h
  by_cases q : tl = 256
  · rw [mp_R, if_pos q] at e
    cases e
    rw [if_neg (by omega), if_neg (by omega)]
    exact ⟨rfl, ⟨h1, h2, h3, h4⟩, rfl, h6, h7⟩
  · rw [mp_R, if_neg q] at e
    cases e
    rw [if_pos (by omega), if_pos (by omega)]
    refine ⟨rfl, ⟨h1, h2, by show tl + 1 ≤ 256; omega, h4⟩, ?_, h6, h7⟩
    show _ = by_L (upd tx tl (vp_nar .byte b.toInt8.toInt32)) 0 (tl + 1)
    rw [by_succ, Nat.zero_add, pk_us, by_put, by_congr (fb := upd tx tl (vp_nar .byte b.toInt8.toInt32)) (fb2 := tx) (fun j _ hj => pk_un (by omega))]
theorem rm_ins0 (h : RM N tx lx bt v al tl ll E T L) : RM N tx lx bt v al 0 ll E [] L := by
  obtain ⟨⟨h1, h2, h3, h4⟩, h5, h⟩ := h
  exact ⟨⟨h1, h2, by omega, h4⟩, rfl, h⟩
theorem rm_rmv (h : RM N tx lx bt v al tl ll E T L) (pr : Int32 → Int32 → Bool) : RM N tx lx bt (m_rm pr v.2.2.2.2.2 v 0).1 al tl ll (E.filter (fun e => !(pr e.1 e.2.1))) T L ∧ (m_rm pr v.2.2.2.2.2 v 0).2 = (E.filter (fun e => pr e.1 e.2.1)).length := by
  obtain ⟨⟨h1, h2, h3, h4⟩, h5, h6, A, hA, rfl⟩ := h
  obtain ⟨r1, r2⟩ := ra_rm_all hA pr
  refine ⟨⟨⟨?_, h2, h3, h4⟩, h5, h6, _, r1, a_so_f _ (ra_nd hA)⟩, ?_⟩
  · rw [← ra_len r1]
    have := List.length_filter_le (fun e : Ent => !(pr e.1 e.2.1)) A
    rw [ra_len hA] at this
    omega
  · rw [r2, ((a_so_perm A).filter _).length_eq]
theorem rm_rs (h : RM N tx lx bt v al tl ll E T L) : RM N tx lx bt (m_rs v.2.2.2.2.2 v) al tl ll [] T L := by
  obtain ⟨⟨h1, h2, h3, h4⟩, h5, h6, A, hA, rfl⟩ := h
  have r1 := ra_rs (bt := bt) (al := al) v.2.2.2.2.2 v A hA rfl
  refine ⟨⟨?_, h2, h3, h4⟩, h5, h6, [], r1, rfl⟩
  rw [← ra_len r1]
  exact Nat.zero_le N
end RMS
section RMT
variable {N : Nat} {tx lx bt nu ti : Nat → Int32} {si ro : Nat → Nat} {us : Nat → Bool} {w al tl ll : Nat} {E : List Ent} {T L : List Int32}
theorem rm_free (h : RM N tx lx bt (nu, ti, si, ro, us, w) al tl ll E T L) : ∃ r0, w < N → r0 < 1024 ∧ us r0 = false ∧ ∀ j, j < r0 → us j = true := by
  obtain ⟨⟨h1, h2, h3, h4⟩, h5, h6, A, hA, rfl⟩ := h
  by_cases q : w < N
  · obtain ⟨r0, z⟩ := ra_free hA (by show w < 1024; omega)
    exact ⟨r0, fun _ => z⟩
  · exact ⟨0, fun z => absurd z q⟩
theorem rm_bd (h : RM N tx lx bt (nu, ti, si, ro, us, w) al tl ll E T L) : w ≤ N ∧ N ≤ 1024 ∧ tl ≤ 256 ∧ ll ≤ 256 ∧ (∀ j, j < w → ro j < 1024) ∧ (∀ j, j < w → si j ≤ 256) := by
  obtain ⟨⟨h1, h2, h3, h4⟩, h5, h6, A, ⟨-, hA, -⟩, rfl⟩ := h
  exact ⟨h1, h2, h3, h4, fun j hj => (hA j hj).1, fun j hj => (hA j hj).2⟩
theorem rm_ins1 (h : RM N tx lx bt (nu, ti, si, ro, us, w) al tl ll E T L) {r0 : Nat} (hr : r0 < 1024) (hr1 : us r0 = false) (hw : w < N) (x t : Int32) : RM N tx lx (cp bt tx (256 * r0) tl) (upd nu w x, upd ti w t, va_up si w tl, va_up ro w r0, va_up us r0 true, w + 1) (al + 1) 0 ll (a_so (E ++ [(x, t, T, al)])) [] L := by
  obtain ⟨⟨h1, h2, h3, h4⟩, rfl, h6, A, hA, rfl⟩ := h
  have hnd := ra_nd hA
  have hA0 := hA
  obtain ⟨g1, g2, g3, g4, g5, sq, s1, s2, rfl⟩ := hA
  dsimp only at g1 g2 g3 g4 g5 s1 s2 h1
  have hne : ∀ j, j < w → ro j ≠ r0 := fun j hj z => by
    have := g5 j hj
    rw [z, hr1] at this
    exact absurd this (by decide)
  have u3 : ∀ {α : Type} (f : Nat → α) (y : α) (j : Nat), j < w → va_up f w y j = f j := fun f y j hj => by unfold va_up; rw [if_neg (by omega)]
  have u4 : ∀ {α : Type} (f : Nat → α) (k : Nat) (y : α), va_up f k y k = y := fun f k y => by unfold va_up; rw [if_pos rfl]
  have u5 : ∀ j, j ≠ r0 → va_up us r0 true j = us j := fun j hj => by unfold va_up; rw [if_neg hj]
  have hold : ∀ j, j < w → em (cp bt tx (256 * r0) tl) (upd nu w x) (upd ti w t) (va_up si w tl) (va_up ro w r0) (va_up sq w al) j = em bt nu ti si ro sq j := by
    intro j hj
    unfold em
    rw [u3 si, u3 ro, u3 sq, pk_un (f := nu) (show j ≠ w by omega), pk_un (f := ti) (show j ≠ w by omega)]
    · rw [by_congr (fb := cp bt tx (256 * r0) tl) (fb2 := bt)]
      intro q q1 q2
      have z1 := hne j hj
      have z2 := (g2 j hj).2
      unfold cp
      rw [if_neg (by omega)]
    · exact hj
    · exact hj
    · exact hj
  have hnew : em (cp bt tx (256 * r0) tl) (upd nu w x) (upd ti w t) (va_up si w tl) (va_up ro w r0) (va_up sq w al) w = (x, t, by_L tx 0 tl, al) := by
    unfold em
    rw [u4, u4, u4, pk_us, pk_us, by_cp]
  have hR : RA (cp bt tx (256 * r0) tl) (al + 1) (upd nu w x, upd ti w t, va_up si w tl, va_up ro w r0, va_up us r0 true, w + 1) ((List.range w).map (em bt nu ti si ro sq) ++ [(x, t, by_L tx 0 tl, al)]) := by
    refine ⟨by show w + 1 ≤ 1024; omega, ?_, ?_, ?_, ?_, va_up sq w al, ?_, ?_, ?_⟩
    · intro j hj
      have hj : j < w + 1 := hj
      show va_up ro w r0 j < 1024 ∧ va_up si w tl j ≤ 256
      by_cases q : j < w
      · rw [u3 ro r0 j q, u3 si tl j q]; exact g2 j q
      · rw [show j = w by omega, u4, u4]; exact ⟨hr, h3⟩
    · intro i j hi hj e
      have hi : i < w + 1 := hi
      have hj : j < w + 1 := hj
      have e : va_up ro w r0 i = va_up ro w r0 j := e
      by_cases q1 : i < w <;> by_cases q2 : j < w
      · rw [u3 ro r0 i q1, u3 ro r0 j q2] at e; exact g3 i j q1 q2 e
      · rw [u3 ro r0 i q1, show j = w by omega, u4] at e; exact absurd e (hne i q1)
      · rw [u3 ro r0 j q2, show i = w by omega, u4] at e; exact absurd e.symm (hne j q2)
      · omega
    · intro r hr2
      have hr2 : va_up us r0 true r = true := hr2
      by_cases q : r = r0
      · exact ⟨w, by show w < w + 1; omega, by show va_up ro w r0 w = r; rw [u4, q]⟩
      · rw [u5 r q] at hr2
        obtain ⟨j, j1, j2⟩ := g4 r hr2
        exact ⟨j, by show j < w + 1; omega, by show va_up ro w r0 j = r; rw [u3 ro r0 j j1]; exact j2⟩
    · intro j hj
      have hj : j < w + 1 := hj
      show va_up us r0 true (va_up ro w r0 j) = true
      by_cases q : j < w
      · rw [u3 ro r0 j q, u5 _ (hne j q)]; exact g5 j q
      · rw [show j = w by omega, u4, u4]
    · intro i j hij hj
      have hj : j < w + 1 := hj
      by_cases q : j < w
      · rw [u3 sq al i (by omega), u3 sq al j q]; exact s1 i j hij q
      · rw [u3 sq al i (by omega), show j = w by omega, u4]; exact s2 i (by omega)
    · intro j hj
      have hj : j < w + 1 := hj
      by_cases q : j < w
      · rw [u3 sq al j q]; have := s2 j q; omega
      · rw [show j = w by omega, u4]; omega
    · show _ = (List.range (w + 1)).map _
      rw [List.range_succ, List.map_append]
      congr 1
      · exact List.map_congr_left (fun j hj => (hold j (List.mem_range.mp hj)).symm)
      · show [_] = [_]
        rw [hnew]
  refine ⟨⟨by show w + 1 ≤ N; omega, h2, by omega, h4⟩, rfl, h6, _, hR, ?_⟩
  exact a_so_p (List.Perm.append_right _ (a_so_perm _)) (ra_nd hR)
theorem mm_q_spec (f t b : Int32) : ∀ (n k : Nat) (ti : Nat → Int32) (q : Nat), mm_q f t b n k ti q = q + (List.range' k n).countP (in_S ti f t) := by
  intro n
  induction n with
  | zero => intro k ti q; simp [mm_q]
  | succ n ih =>
    intro k ti q
    rw [List.range'_succ, List.countP_cons, mm_q]
    have hc : (List.range' (k + 1) n).countP (in_S (upd ti k (ti k + b)) f t) = (List.range' (k + 1) n).countP (in_S ti f t) := by
      refine List.countP_congr (fun j hj => ?_)
      have := List.mem_range'_1.mp hj
      unfold in_S
      rw [pk_un (show j ≠ k by omega)]
    by_cases h : in_S ti f t k = true
    · rw [if_pos h, ih, hc, if_pos h]; omega
    · rw [if_neg h, ih, if_neg h]; omega
theorem rm_mo (h : RM N tx lx bt (nu, ti, si, ro, us, w) al tl ll E T L) (now : Nat) (f t b : Int32) : mv_c (in_S ti f t) (cm_F ti now b) w 0 (fun j => j) 0 = a_mv now f t b E ∧ mm_q f t b w 0 ti 0 = E.countP (e_in f t) := by
  obtain ⟨-, -, -, A, ⟨-, -, -, -, -, sq, -, -, rfl⟩, rfl⟩ := h
  have hp := a_so_perm ((List.range w).map (em bt nu ti si ro sq))
  dsimp only
  constructor
  · rw [mv_c_spec, sl_r, a_mv, hp.all_eq, hp.countP_eq, List.all_map, List.countP_map, Nat.zero_add]
    unfold sl
    rw [List.all_map, List.countP_map]
    rfl
  · rw [mm_q_spec, hp.countP_eq, List.countP_map, Nat.zero_add, ← List.range_eq_range']
    rfl
theorem rm_mv (h : RM N tx lx bt (nu, ti, si, ro, us, w) al tl ll E T L) (now : Nat) (f t b : Int32) : RM N tx lx bt (nu, mv_F (a_mv now f t b E) ti (mv_t f t b w 0 (fun j => j) ti), si, ro, us, w) al tl ll (mv_F (a_mv now f t b E) E (a_so (E.map (e_mv f t b)))) T L := by
  by_cases ho : E.all (fun e => !(e_in f t e) || e_can now b e) = true
  · have e1 : a_mv now f t b E = some (E.countP (e_in f t)) := by rw [a_mv, if_pos ho]
    rw [e1]
    show RM N tx lx bt (nu, mv_t f t b w 0 (fun j => j) ti, si, ro, us, w) al tl ll (a_so (E.map (e_mv f t b))) T L
    obtain ⟨h1, h5, h6, A, hA, rfl⟩ := h
    obtain ⟨g1, g2, g3, g4, g5, sq, s1, s2, rfl⟩ := hA
    dsimp only at g1 g2 g3 g4 g5 s1 s2
    have hr : (List.range' 0 w).map (fun j => j) = List.range w := by rw [List.range_eq_range']; simp
    have hti : ∀ i, i < w → mv_t f t b w 0 (fun j => j) ti i = if in_S ti f t i = true then ti i + b else ti i := by
      intro i hi
      rw [mv_t_spec f t b w 0 (fun j => j) ti (by rw [hr]; exact List.Pairwise.imp (fun h => Nat.ne_of_lt h) List.pairwise_lt_range) i, hr]
      by_cases q : in_S ti f t i = true
      · rw [if_pos ⟨List.mem_range.mpr hi, q⟩, if_pos q]
      · rw [if_neg (fun z => q z.2), if_neg q]
    have hmap : (List.range w).map (em bt nu (mv_t f t b w 0 (fun j => j) ti) si ro sq) = ((List.range w).map (em bt nu ti si ro sq)).map (e_mv f t b) := by
      rw [List.map_map]
      refine List.map_congr_left (fun i hi => ?_)
      show em bt nu (mv_t f t b w 0 (fun j => j) ti) si ro sq i = e_mv f t b (em bt nu ti si ro sq i)
      unfold e_mv em
      rw [hti i (List.mem_range.mp hi)]
      by_cases q : in_S ti f t i = true
      · rw [if_pos q, if_pos (show e_in f t (nu i, ti i, by_L bt (256 * ro i) (si i), sq i) = true from q)]
      · rw [if_neg q, if_neg (show ¬ e_in f t (nu i, ti i, by_L bt (256 * ro i) (si i), sq i) = true from q)]
    have hR : RA bt al (nu, mv_t f t b w 0 (fun j => j) ti, si, ro, us, w) (((List.range w).map (em bt nu ti si ro sq)).map (e_mv f t b)) := ⟨g1, g2, g3, g4, g5, sq, s1, s2, hmap.symm⟩
    refine ⟨h1, h5, h6, _, hR, ?_⟩
    exact a_so_p ((a_so_perm _).map _) (ra_nd hR)
  · have e1 : a_mv now f t b E = none := by rw [a_mv, if_neg ho]
    rw [e1]
    exact h
theorem pl_i_spec (ti : Nat → Int32) (i : Nat) : ∀ (n j q : Nat), pl_i ti i n j q = q + (List.range' j n).countP (fun j => bf_M ti j i) := by
  intro n
  induction n with
  | zero => intro j q; simp [pl_i]
  | succ n ih =>
    intro j q
    rw [List.range'_succ, List.countP_cons, pl_i]
    by_cases h : bf_M ti j i = true
    · rw [if_pos h, ih, if_pos h]; omega
    · rw [if_neg h, ih, if_neg h]; omega
theorem pl_o_spec (ti : Nat → Int32) (kk w i0 : Nat) (h0 : pl_i ti i0 w 0 0 = kk) (hu : ∀ i, i < w → pl_i ti i w 0 0 = kk → i = i0) : ∀ (n i : Nat) (o : Option Nat), i + n = w → pl_o ti kk w n i o = if i ≤ i0 ∧ i0 < i + n then some i0 else o := by
  intro n
  induction n with
  | zero => intro i o _; rw [pl_o, if_neg (by omega)]
  | succ n ih =>
    intro i o hi
    rw [pl_o]
    by_cases q : pl_i ti i w 0 0 = kk
    · have := hu i (by omega) q
      subst this
      rw [if_pos q, ih _ _ (by omega), if_neg (by omega), if_pos (by omega)]
    · have hne : i ≠ i0 := fun z => q (by rw [z]; exact h0)
      rw [if_neg q, ih _ _ (by omega)]
      by_cases z : i + 1 ≤ i0 ∧ i0 < i + 1 + n
      · rw [if_pos z, if_pos (by omega)]
      · rw [if_neg z, if_neg (by omega)]
/-- place finds the k-th in order -/
theorem rm_place (h : RM N tx lx bt (nu, ti, si, ro, us, w) al tl ll E T L) {k : Nat} (hk : k < w) : ∃ (i : Nat) (A : List Ent) (x : Ent), i < w ∧ pl_o ti k w w 0 none = some i ∧ RA bt al (nu, ti, si, ro, us, w) A ∧ E = a_so A ∧ A[i]? = some x ∧ E[k]? = some x ∧ x.1 = nu i ∧ x.2.1 = ti i ∧ x.2.2.1 = by_L bt (256 * ro i) (si i) := by
  have hlen := (rm_len h).1
  obtain ⟨-, -, -, A, hA, rfl⟩ := h
  have hnd := ra_nd hA
  have hA0 := hA
  obtain ⟨g1, g2, g3, g4, g5, sq, s1, s2, rfl⟩ := hA
  dsimp only at g1 g2 g3 g4 g5 s1 s2 hlen hnd
  have hp := a_so_perm ((List.range w).map (em bt nu ti si ro sq))
  have hcnt : ∀ i, i < w → pl_i ti i w 0 0 = (a_so ((List.range w).map (em bt nu ti si ro sq))).countP (fun e => e_lt e (em bt nu ti si ro sq i)) := by
    intro i hi
    rw [pl_i_spec, hp.countP_eq, List.countP_map, Nat.zero_add, ← List.range_eq_range']
    refine List.countP_congr (fun j hj => ?_)
    have hj := List.mem_range.mp hj
    show bf_M ti j i = true ↔ e_lt (em bt nu ti si ro sq j) (em bt nu ti si ro sq i) = true
    unfold bf_M e_lt
    have e1 : (em bt nu ti si ro sq j).2.1 = ti j := rfl
    have e2 : (em bt nu ti si ro sq i).2.1 = ti i := rfl
    have e3 : (em bt nu ti si ro sq j).2.2.2 = sq j := rfl
    have e4 : (em bt nu ti si ro sq i).2.2.2 = sq i := rfl
    rw [e1, e2, e3, e4]
    have hiff : (j < i) ↔ (sq j < sq i) := by
      constructor
      · intro z; exact s1 j i z hi
      · intro z
        rcases Nat.lt_trichotomy j i with q | q | q
        · exact q
        · subst q; omega
        · have := s1 i j q hj; omega
    simp only [hiff]
  have hkl : k < (a_so ((List.range w).map (em bt nu ti si ro sq))).length := by rw [hlen]; exact hk
  have hx := List.getElem?_eq_getElem hkl
  obtain ⟨x, hxe⟩ : ∃ x, x = (a_so ((List.range w).map (em bt nu ti si ro sq)))[k] := ⟨_, rfl⟩
  rw [← hxe] at hx
  have hm := hp.mem_iff.mp (List.mem_of_getElem? hx)
  obtain ⟨i, hi, hix⟩ := List.mem_map.mp hm
  have hi := List.mem_range.mp hi
  have hpos := a_pos _ (a_so_srt _) (e_nd_p hp.symm hnd) k x hx
  have h0 : pl_i ti i w 0 0 = k := by rw [hcnt i hi, hix]; exact hpos
  have hu : ∀ j, j < w → pl_i ti j w 0 0 = k → j = i := by
    intro j hj hjk
    have hm2 : em bt nu ti si ro sq j ∈ a_so ((List.range w).map (em bt nu ti si ro sq)) := hp.mem_iff.mpr (List.mem_map.mpr ⟨j, List.mem_range.mpr hj, rfl⟩)
    obtain ⟨p, hp2⟩ := List.mem_iff_getElem?.mp hm2
    have hpp := a_pos _ (a_so_srt _) (e_nd_p hp.symm hnd) p _ hp2
    rw [hcnt j hj, hpp] at hjk
    subst hjk
    rw [hp2] at hx
    have e5 : em bt nu ti si ro sq j = em bt nu ti si ro sq i := by rw [hix]; exact Option.some.inj hx
    have e6 : sq j = sq i := congrArg (fun e : Ent => e.2.2.2) e5
    rcases Nat.lt_trichotomy j i with q | q | q
    · have := s1 j i q hi; omega
    · exact q
    · have := s1 i j q hj; omega
  refine ⟨i, _, x, hi, ?_, hA0, rfl, ?_, hx, ?_, ?_, ?_⟩
  · rw [pl_o_spec ti k w i h0 hu w 0 none (by omega), if_pos (by omega)]
  · rw [List.getElem?_map, List.getElem?_range hi, ← hix]; rfl
  · rw [← hix]; rfl
  · rw [← hix]; rfl
  · rw [← hix]; rfl
end RMT
end
section
/-! Both hold one timetable: answers, and what is behind a call. -/
def ab_A (E : List Ent) (k j : Int32) : Int32 := if k < 0 then -1 else match E[k.toNatClampNeg]? with
  | none => -1
  | some x => if j = 0 then x.1 else if j = 1 then x.2.1 else if j = 2 then nI x.2.2.1.length else -1
def ba_A (E : List Ent) (k j : Int32) : Int32 := if k < 0 then -1 else match E[k.toNatClampNeg]? with
  | none => -1
  | some x => a_at x.2.2.1 j
theorem iw_no {w : Nat} {k : Int32} (hw : w < 2 ^ 31) (h : ¬ iw_F w k = true) {α : Type} {E : List α} (hE : E.length = w) : k < 0 ∨ E[k.toNatClampNeg]? = none := by
  by_cases q : k < 0
  · exact Or.inl q
  · refine Or.inr (List.getElem?_eq_none ?_)
    rw [hE]
    refine Nat.not_lt.mp (fun z => h (iw_1 q (fun y => ?_)))
    obtain ⟨m, hm, rfl⟩ := nI_of q
    rw [nI_clamp hm] at z
    have := (nI_leI hw hm).mp y
    omega
section XA
variable {c N : Nat} {fb : Nat → Int32} {g : Nat → Nat} {fn ft : Nat → Int32} {fs fl : Nat → Nat} {w wi now ts tl lf ll : Nat} {E : List Ent} {T L : List Int32}
theorem rx_bd (h : RX c N fb g fn ft fs fl w wi now ts tl lf ll E T L) : (1 ≤ N ∧ N ≤ 1024 ∧ w ≤ N ∧ wfP N g) ∧ (∀ i, i < N → fs i ≤ 512) ∧ (∀ i, i < N → fs i + fl i ≤ 512) ∧ ts + tl ≤ c ∧ c ≤ 512 ∧ tl ≤ 256 ∧ lf + ll ≤ 512 ∧ now ≤ c := by
  obtain ⟨h1, h2, ⟨a1, a2, a3, a4, a5, a6⟩, -⟩ := h
  refine ⟨h1, fun i hi => ?_, fun i hi => ?_, a1, a2, a3, by omega, a5⟩
  · have := h2 i hi; omega
  · have := h2 i hi; omega
theorem rx_about (h : RX c N fb g fn ft fs fl w wi now ts tl lf ll E T L) (k j : Int32) : ab_F fn ft fl w g k j = ab_A E k j := by
  have hb := rx_bd h
  by_cases q : iw_F w k = true
  · obtain ⟨x, x1, x2, x3, x4⟩ := rx_ab h q
    rw [ab_F, if_pos q, ab_A, if_neg (iw_ge q), x1]
    simp only []
    rw [x2, x3, x4, by_len]
  · rw [ab_F, if_neg q, ab_A]
    rcases iw_no (by omega) q (rx_len h).1 with z | z
    · rw [if_pos z]
    · by_cases y : k < 0
      · rw [if_pos y]
      · rw [if_neg y, z]
theorem rx_byteAt (h : RX c N fb g fn ft fs fl w wi now ts tl lf ll E T L) (k j : Int32) : ba_F fb fs fl w g k j = ba_A E k j := by
  have hb := rx_bd h
  by_cases q : iw_F w k = true
  · obtain ⟨x, x1, x2, x3, x4⟩ := rx_ab h q
    rw [ba_F, if_pos q, ba_A, if_neg (iw_ge q), x1]
    simp only []
    have hk := iw_lt q (by omega)
    have hg := hb.1.2.2.2.1 k.toNatClampNeg (by omega)
    have := hb.2.2.1 _ hg
    rw [x4, bo_at fb (by omega)]
  · rw [ba_F, if_neg q, ba_A]
    rcases iw_no (by omega) q (rx_len h).1 with z | z
    · rw [if_pos z]
    · by_cases y : k < 0
      · rw [if_pos y]
      · rw [if_neg y, z]
theorem rx_left (h : RX c N fb g fn ft fs fl w wi now ts tl lf ll E T L) (j : Int32) : bo_F fb lf ll j = a_at L j := by
  have hb := rx_bd h
  obtain ⟨-, -, -, -, -, rfl, -⟩ := h
  exact bo_at fb (by omega) j
end XA
section MA
variable {N : Nat} {tx lx bt nu ti : Nat → Int32} {si ro : Nat → Nat} {us : Nat → Bool} {w al tl ll : Nat} {E : List Ent} {T L : List Int32}
theorem rm_plF (h : RM N tx lx bt (nu, ti, si, ro, us, w) al tl ll E T L) {k : Int32} (q : iw_F w k = true) : ∃ (i : Nat) (x : Ent), i < w ∧ pl_F ti w k = some i ∧ E[k.toNatClampNeg]? = some x ∧ x.1 = nu i ∧ x.2.1 = ti i ∧ x.2.2.1 = by_L bt (256 * ro i) (si i) := by
  have hb := rm_bd h
  obtain ⟨i, A, x, hi, hpl, -, -, -, hx, e1, e2, e3⟩ := rm_place h (iw_lt q (by omega))
  exact ⟨i, x, hi, by rw [pl_F, if_pos q]; exact hpl, hx, e1, e2, e3⟩
theorem rm_about (h : RM N tx lx bt (nu, ti, si, ro, us, w) al tl ll E T L) (k j : Int32) : ma_F nu ti si w k j = ab_A E k j := by
  have hb := rm_bd h
  by_cases q : iw_F w k = true
  · obtain ⟨i, x, hi, hpl, x1, x2, x3, x4⟩ := rm_plF h q
    rw [ma_F, hpl, ab_A, if_neg (iw_ge q), x1]
    simp only []
    rw [x2, x3, x4, by_len]
  · rw [ma_F, pl_F, if_neg q, ab_A]
    rcases iw_no (by omega) q (rm_len h).1 with z | z
    · rw [if_pos z]
    · by_cases y : k < 0
      · rw [if_pos y]
      · rw [if_neg y, z]
theorem rm_byteAt (h : RM N tx lx bt (nu, ti, si, ro, us, w) al tl ll E T L) (k j : Int32) : mb_F bt ti si ro w k j = ba_A E k j := by
  have hb := rm_bd h
  by_cases q : iw_F w k = true
  · obtain ⟨i, x, hi, hpl, x1, x2, x3, x4⟩ := rm_plF h q
    rw [mb_F, hpl, ba_A, if_neg (iw_ge q), x1]
    simp only []
    have := hb.2.2.2.2.2 i hi
    rw [x4, bo_at bt (by omega)]
  · rw [mb_F, pl_F, if_neg q, ba_A]
    rcases iw_no (by omega) q (rm_len h).1 with z | z
    · rw [if_pos z]
    · by_cases y : k < 0
      · rw [if_pos y]
      · rw [if_neg y, z]
theorem rm_left (h : RM N tx lx bt (nu, ti, si, ro, us, w) al tl ll E T L) (j : Int32) : bo_F lx 0 ll j = a_at L j := by
  have hb := rm_bd h
  obtain ⟨-, -, rfl, -⟩ := h
  exact bo_at lx (by omega) j
theorem rm_leave (h : RM N tx lx bt (nu, ti, si, ro, us, w) al tl ll E T L) (now : Nat) {r : Int32} {u : (Nat → Int32) × Nat × MS} (e : (r, u) = ml_R lx nu ti si ro us bt w now ll) :
    (∀ x R, E = x :: R → x.2.1 ≤ nI now → r = nI x.2.2.1.length ∧ RM N tx u.1 bt u.2.2 al tl u.2.1 R T x.2.2.1) ∧ ((∀ x R, E = x :: R → ¬ x.2.1 ≤ nI now) → r = -1 ∧ RM N tx u.1 bt u.2.2 al tl u.2.1 E T L) := by
  have hlen := (rm_len h).1
  have hb := rm_bd h
  have hlen : E.length = w := hlen
  rcases Nat.eq_zero_or_pos w with hw | hw
  · have hE : E = [] := List.eq_nil_of_length_eq_zero (by omega)
    have hpl : pl_o ti 0 w w 0 none = none := by rw [hw]; rfl
    rw [ml_R, hpl] at e
    cases e
    exact ⟨fun x R hx => (by rw [hE] at hx; cases hx), fun _ => ⟨rfl, h⟩⟩
  · obtain ⟨i, A, y, hi, hpl, hA, hEA, hAi, hE0, e1, e2, e3⟩ := rm_place h hw
    have hyR : E = y :: E.tail := by
      cases hE : E with
      | nil => rw [hE] at hE0; simp at hE0
      | cons z R => rw [hE] at hE0; simp at hE0; rw [hE0]; rfl
    rw [ml_R, hpl] at e
    simp only [] at e
    refine ⟨fun x R hx hle => ?_, fun hno => ?_⟩
    · rw [hx] at hyR
      obtain ⟨q1, q2⟩ := List.cons.inj hyR
      rw [q1] at hle ⊢
      rw [if_pos (by rw [← e2]; exact hle)] at e
      cases e
      have hdp := ra_dp hA (i := i) hi
      refine ⟨by rw [e3, by_len], ⟨?_, hb.2.1, hb.2.2.1, by show si i ≤ 256; exact hb.2.2.2.2.2 i hi⟩, h.2.1, ?_, _, hdp, ?_⟩
      · show w - 1 ≤ N
        omega
      · show y.2.2.1 = by_L (cp lx (fun k => bt (256 * ro i + k)) 0 (si i)) 0 (si i)
        rw [by_cp, by_sh, e3]
      · refine a_so_eq ?_ ?_ (ra_nd hdp)
        · have p1 : (y :: R).Perm (y :: A.eraseIdx i) := by
            have p2 : (y :: R).Perm A := by rw [← q1, ← hx, hEA]; exact a_so_perm A
            refine p2.trans ?_
            have hlt : i < A.length := (List.getElem?_eq_some_iff.mp hAi).1
            have hy2 : A[i] = y := (List.getElem?_eq_some_iff.mp hAi).2
            rw [← hy2]
            have hsplit : A = A.take i ++ A[i] :: A.drop (i + 1) := by rw [← List.drop_eq_getElem_cons hlt, List.take_append_drop]
            refine (List.Perm.of_eq hsplit).trans ?_
            rw [List.eraseIdx_eq_take_drop_succ]
            exact List.perm_middle
          exact p1.cons_inv
        · have hs := a_so_srt A
          rw [← hEA, hx] at hs
          exact (List.pairwise_cons.mp hs).2
    · have hn := hno y E.tail hyR
      rw [if_neg (by rw [← e2]; exact hn)] at e
      cases e
      exact ⟨rfl, h⟩
end MA
end
section
def JR (c N : Nat) (fb : Nat → Int32) (g : Nat → Nat) (fn ft : Nat → Int32) (fs fl : Nat → Nat) (w wi now ts tl lf ll : Nat) (tx lx bt : Nat → Int32) (v : MS) (al tl2 ll2 : Nat) : Prop :=
  wi = al ∧ ∃ E T L, RX c N fb g fn ft fs fl w wi now ts tl lf ll E T L ∧ RM N tx lx bt v al tl2 ll2 E T L
section JS
variable {c N : Nat} {fb : Nat → Int32} {g : Nat → Nat} {fn ft : Nat → Int32} {fs fl : Nat → Nat} {w wi now ts tl lf ll : Nat} {tx lx bt nu ti : Nat → Int32} {si ro : Nat → Nat} {us : Nat → Bool} {w2 al tl2 ll2 : Nat}
theorem jr_bd (h : JR c N fb g fn ft fs fl w wi now ts tl lf ll tx lx bt (nu, ti, si, ro, us, w2) al tl2 ll2) : w = w2 ∧ wi = al ∧ tl = tl2 ∧ ll = ll2 ∧ (1 ≤ N ∧ N ≤ 1024 ∧ w ≤ N ∧ wfP N g) ∧ (∀ i, i < N → fs i ≤ 512) ∧ (∀ i, i < N → fs i + fl i ≤ 512) ∧ ts + tl ≤ c ∧ c ≤ 512 ∧ tl ≤ 256 ∧ lf + ll ≤ 512 ∧ now ≤ c ∧ ll2 ≤ 256 ∧ (∀ j, j < w2 → ro j < 1024) ∧ (∀ j, j < w2 → si j ≤ 256) := by
  obtain ⟨h0, E, T, L, hx, hm⟩ := h
  obtain ⟨x1, x2, x3, x4, x5, x6, x7, x8⟩ := rx_bd hx
  obtain ⟨m1, m2, m3, m4, m5, m6⟩ := rm_bd hm
  obtain ⟨l1, l2, l3⟩ := rx_len hx
  obtain ⟨k1, k2, k3⟩ := rm_len hm
  have k1 : E.length = w2 := k1
  exact ⟨by omega, h0, by omega, by omega, x1, x2, x3, x4, x5, x6, x7, x8, m4, m5, m6⟩
theorem jr_c (h : JR c N fb g fn ft fs fl w wi now ts tl lf ll tx lx bt (nu, ti, si, ro, us, w2) al tl2 ll2) (hc : c < 512) : JR (c + 1) N fb g fn ft fs fl w wi now ts tl lf ll tx lx bt (nu, ti, si, ro, us, w2) al tl2 ll2 := by
  obtain ⟨h0, E, T, L, hx, hm⟩ := h
  exact ⟨h0, E, T, L, rx_c hx hc, hm⟩
theorem jr_tick (h : JR c N fb g fn ft fs fl w wi now ts tl lf ll tx lx bt (nu, ti, si, ro, us, w2) al tl2 ll2) (hc : c < 512) : JR (c + 1) N fb g fn ft fs fl w wi (now + 1) ts tl lf ll tx lx bt (nu, ti, si, ro, us, w2) al tl2 ll2 := by
  obtain ⟨h0, E, T, L, hx, hm⟩ := h
  exact ⟨h0, E, T, L, rx_tick hx hc, hm⟩
theorem jr_reset (h : JR c N fb g fn ft fs fl w wi now ts tl lf ll tx lx bt (nu, ti, si, ro, us, w2) al tl2 ll2) (hc : c < 512) {u : MS} (e : u = m_rs w2 (nu, ti, si, ro, us, w2)) : JR (c + 1) N fb g fn ft fs fl 0 wi now ts tl lf ll tx lx bt u al tl2 ll2 := by
  obtain ⟨h0, E, T, L, hx, hm⟩ := h
  subst e
  exact ⟨h0, [], T, L, rx_reset hx hc, rm_rs hm⟩
theorem jr_put (h : JR c N fb g fn ft fs fl w wi now ts tl lf ll tx lx bt (nu, ti, si, ro, us, w2) al tl2 ll2) (hc : c < 512) {b r r2 : Int32} {u u2 : (Nat → Int32) × Nat} (e : (r, u) = pu_R fb ts tl b) (e2 : (r2, u2) = mp_R tx tl2 b) : r = r2 ∧ JR (c + 1) N u.1 g fn ft fs fl w wi now ts u.2 lf ll u2.1 lx bt (nu, ti, si, ro, us, w2) al u2.2 ll2 := by
  obtain ⟨h0, E, T, L, hx, hm⟩ := h
  obtain ⟨a1, a2⟩ := rx_put hx hc b e
  obtain ⟨b1, b2⟩ := rm_put hm b e2
  exact ⟨by rw [a1, b1], h0, E, _, L, a2, b2⟩
theorem jr_leave (h : JR c N fb g fn ft fs fl w wi now ts tl lf ll tx lx bt (nu, ti, si, ro, us, w2) al tl2 ll2) (hc : c < 512) {r r2 : Int32} {u : (Nat → Nat) × Nat × Nat × Nat} {u2 : (Nat → Int32) × Nat × MS} (e : (r, u) = lv_R ft fs fl now w g lf ll) (e2 : (r2, u2) = ml_R lx nu ti si ro us bt w2 now ll2) : r = r2 ∧ JR (c + 1) N fb u.1 fn ft fs fl u.2.1 wi now ts tl u.2.2.1 u.2.2.2 tx u2.1 bt u2.2.2 al tl2 u2.2.1 := by
  obtain ⟨h0, E, T, L, hx, hm⟩ := h
  obtain ⟨a1, a2⟩ := rx_leave hx hc e
  obtain ⟨b1, b2⟩ := rm_leave hm now e2
  by_cases q : ∃ x R, E = x :: R ∧ x.2.1 ≤ nI now
  · obtain ⟨x, R, q1, q2⟩ := q
    obtain ⟨c1, c2⟩ := a1 x R q1 q2
    obtain ⟨d1, d2⟩ := b1 x R q1 q2
    exact ⟨by rw [c1, d1], h0, R, T, _, c2, d2⟩
  · obtain ⟨c1, c2⟩ := a2 (fun x R q1 q2 => q ⟨x, R, q1, q2⟩)
    obtain ⟨d1, d2⟩ := b2 (fun x R q1 q2 => q ⟨x, R, q1, q2⟩)
    exact ⟨by rw [c1, d1], h0, E, T, L, c2, d2⟩
theorem jr_insert (h : JR c N fb g fn ft fs fl w wi now ts tl lf ll tx lx bt (nu, ti, si, ro, us, w2) al tl2 ll2) (hc : c < 512) {x t : Int32} {r0 : Nat} (hfr : w2 < N → r0 < 1024 ∧ us r0 = false ∧ ∀ j, j < r0 → us j = true)
    {u : (Nat → Nat) × (Nat → Int32) × (Nat → Int32) × (Nat → Nat) × (Nat → Nat) × Nat × Nat × Nat} (e : u = ir_R N g fn ft fs fl w wi now ts tl x t)
    {u2 : (Nat → Int32) × (Nat → Int32) × (Nat → Nat) × (Nat → Nat) × (Nat → Bool) × (Nat → Int32) × Nat × Nat} (e2 : u2 = mi_R r0 N tx nu ti si ro us bt w2 al now tl2 x t) :
    wh_F tl now t w N = wh_F tl2 now t w2 N ∧ JR (c + 1) N fb u.1 u.2.1 u.2.2.1 u.2.2.2.1 u.2.2.2.2.1 u.2.2.2.2.2.1 u.2.2.2.2.2.2.1 now u.2.2.2.2.2.2.2 0 lf ll tx lx u2.2.2.2.2.2.1 (u2.1, u2.2.1, u2.2.2.1, u2.2.2.2.1, u2.2.2.2.2.1, u2.2.2.2.2.2.2.1) u2.2.2.2.2.2.2.2 0 ll2 := by
  obtain ⟨z1, z2, z3, z4, -⟩ := jr_bd h
  obtain ⟨h0, E, T, L, hx, hm⟩ := h
  refine ⟨by rw [z1, z3], ?_⟩
  have hT := (rx_len hx).2.1
  by_cases q : wh_F tl now t w N = 0
  · have q2 : wh_F tl2 now t w2 N = 0 := by rw [← z1, ← z3]; exact q
    rw [ir_R, if_pos q] at e
    rw [mi_R, if_pos q2] at e2
    subst e
    subst e2
    have hw := wh_w q2
    obtain ⟨f1, f2, -⟩ := hfr hw
    have a1 := rx_ins1 hx hc x t q
    have b1 := rm_ins1 hm f1 f2 hw x t
    rw [← h0] at b1
    exact ⟨by show wi + 1 = al + 1; omega, _, _, _, a1, by show RM N tx lx _ _ (al + 1) _ _ _ _ _; rw [← h0]; exact b1⟩
  · have q2 : ¬ wh_F tl2 now t w2 N = 0 := by rw [← z1, ← z3]; exact q
    rw [ir_R, if_neg q] at e
    rw [mi_R, if_neg q2] at e2
    subst e
    subst e2
    exact ⟨h0, E, [], L, rx_ins0 hx hc, rm_ins0 hm⟩
theorem jr_rm (h : JR c N fb g fn ft fs fl w wi now ts tl lf ll tx lx bt (nu, ti, si, ro, us, w2) al tl2 ll2) (hc : c < 512) (pr : Int32 → Int32 → Bool) {kp : Nat → Bool} (hk : ∀ i, kp i = !(pr (fn i) (ft i))) {u : MS} (e : u = (m_rm pr w2 (nu, ti, si, ro, us, w2) 0).1) :
    nI (w - (rm_l kp w 0 0 g).1) = nI (m_rm pr w2 (nu, ti, si, ro, us, w2) 0).2 ∧ JR (c + 1) N fb (rm_l kp w 0 0 g).2 fn ft fs fl (rm_l kp w 0 0 g).1 wi now ts tl lf ll tx lx bt u al tl2 ll2 := by
  obtain ⟨h0, E, T, L, hx, hm⟩ := h
  have a1 := rx_rm hx hc (kp := kp) (pe := fun e => !(pr e.1 e.2.1)) (fun sq i => hk i)
  obtain ⟨b1, b2⟩ := rm_rmv hm pr
  have b2 : (m_rm pr w2 (nu, ti, si, ro, us, w2) 0).2 = (E.filter (fun e => pr e.1 e.2.1)).length := b2
  subst e
  refine ⟨?_, h0, _, T, L, a1, b1⟩
  have l1 := (rx_len a1).1
  have l2 := (rx_len hx).1
  rw [b2, ← l1, ← l2]
  have l3 := List.length_eq_countP_add_countP (fun e : Ent => pr e.1 e.2.1) (l := E)
  rw [List.countP_eq_length_filter, List.countP_eq_length_filter] at l3
  have l4 : E.filter (fun e => !(pr e.1 e.2.1)) = E.filter (fun a => decide ¬ (pr a.1 a.2.1) = true) := List.filter_congr (fun a _ => by cases pr a.1 a.2.1 <;> rfl)
  rw [l4]
  congr 1
  omega
theorem a_mvF {E : List Ent} {now : Nat} {f t b : Int32} : mv_A (mv_F (a_mv now f t b E) none (some (E.countP (e_in f t)))) = mv_A (a_mv now f t b E) := by
  unfold a_mv
  split <;> rfl
theorem jr_mv (h : JR c N fb g fn ft fs fl w wi now ts tl lf ll tx lx bt (nu, ti, si, ro, us, w2) al tl2 ll2) (hc : c < 512) {f t f2 t2 b : Int32} (hs : ∀ x : Int32, 0 < x.toInt → (decide (f ≤ x) && decide (x ≤ t)) = (decide (f2 ≤ x) && decide (x ≤ t2))) :
    mv_A (mv_c (in_S ft f t) (cm_F ft now b) w 0 g 0) = mv_A (mv_F (mv_c (in_S ti f2 t2) (cm_F ti now b) w2 0 (fun j => j) 0) none (some (mm_q f2 t2 b w2 0 ti 0))) ∧
    JR (c + 1) N fb (mv_F (mv_c (in_S ft f t) (cm_F ft now b) w 0 g 0) g (mv_s (be_F (mv_t f t b w 0 g ft) fs) (w - 1) 1 g)) fn (mv_F (mv_c (in_S ft f t) (cm_F ft now b) w 0 g 0) ft (mv_t f t b w 0 g ft)) fs fl w wi now ts tl lf ll tx lx bt (nu, mv_F (mv_c (in_S ti f2 t2) (cm_F ti now b) w2 0 (fun j => j) 0) ti (mv_t f2 t2 b w2 0 (fun j => j) ti), si, ro, us, w2) al tl2 ll2 := by
  obtain ⟨h0, E, T, L, hx, hm⟩ := h
  have a1 := rx_mo hx f t b
  have a2 := rx_mv hx hc f t b
  obtain ⟨b1, b2⟩ := rm_mo hm now f2 t2 b
  have b3 := rm_mv hm now f2 t2 b
  have hpos := rx_all hx
  have hin : ∀ e ∈ E, e_in f t e = e_in f2 t2 e := fun e he => hs e.2.1 (hpos e he)
  have m1 : a_mv now f t b E = a_mv now f2 t2 b E := by
    unfold a_mv
    have q1 : E.all (fun e => !(e_in f t e) || e_can now b e) = E.all (fun e => !(e_in f2 t2 e) || e_can now b e) := by
      rw [Bool.eq_iff_iff, List.all_eq_true, List.all_eq_true]
      constructor
      · intro z e he; rw [← hin e he]; exact z e he
      · intro z e he; rw [hin e he]; exact z e he
    have q2 : E.countP (e_in f t) = E.countP (e_in f2 t2) := List.countP_congr (fun e he => by rw [hin e he])
    rw [q1, q2]
  have m2 : E.map (e_mv f t b) = E.map (e_mv f2 t2 b) := List.map_congr_left (fun e he => by unfold e_mv; rw [hin e he])
  rw [a1, b1, b2]
  refine ⟨by rw [a_mvF, m1], h0, mv_F (a_mv now f t b E) E (a_so (E.map (e_mv f t b))), T, L, a2, ?_⟩
  rw [m1, m2]
  exact b3
theorem jr_ask (h : JR c N fb g fn ft fs fl w wi now ts tl lf ll tx lx bt (nu, ti, si, ro, us, w2) al tl2 ll2) : (∀ j, bo_F fb lf ll j = bo_F lx 0 ll2 j) ∧ (∀ k, co_F now w wi ll k = co_F now w2 al ll2 k) ∧ (∀ k j, ab_F fn ft fl w g k j = ma_F nu ti si w2 k j) ∧ (∀ k j, ba_F fb fs fl w g k j = mb_F bt ti si ro w2 k j) := by
  obtain ⟨z1, z2, z3, z4, -⟩ := jr_bd h
  obtain ⟨h0, E, T, L, hx, hm⟩ := h
  refine ⟨fun j => ?_, fun k => ?_, fun k j => ?_, fun k j => ?_⟩
  · rw [rx_left hx, rm_left hm]
  · rw [z1, z2, z4]
  · rw [rx_about hx, rm_about hm]
  · rw [rx_byteAt hx, rm_byteAt hm]
end JS
theorem jr_new (N : Nat) (h1 : 1 ≤ N) (h2 : N ≤ 1024) : JR 0 N (fun _ => 0) (g_id N) (fun _ => 0) (fun _ => 0) (fun _ => 0) (fun _ => 0) 0 0 0 0 0 0 0 (fun _ => 0) (fun _ => 0) (fun _ => 0) (fun _ => 0, fun _ => 0, fun _ => 0, fun _ => 0, fun _ => false, 0) 0 0 0 := by
  refine ⟨rfl, [], [], [], rx_new N h1 h2, ⟨Nat.zero_le N, h2, by omega, by omega⟩, rfl, rfl, [], ⟨Nat.zero_le 1024, ?_, ?_, ?_, ?_, fun _ => 0, ?_, ?_, rfl⟩, rfl⟩
  · intro j hj; exact absurd hj (Nat.not_lt_zero j)
  · intro i j hi; exact absurd hi (Nat.not_lt_zero i)
  · intro r hr; exact absurd (show false = true from hr) (by decide)
  · intro j hj; exact absurd hj (Nat.not_lt_zero j)
  · intro i j _ hj; exact absurd hj (Nat.not_lt_zero j)
  · intro j hj; exact absurd hj (Nat.not_lt_zero j)
/-- shift's span: all times -/
theorem sp_all (x : Int32) (h : 0 < x.toInt) : (decide (nI 0 ≤ x) && decide (x ≤ nI 2147483647)) = (decide ((-2147483648 : Int32) ≤ x) && decide (x ≤ nI 2147483647)) := by
  have e1 : (nI 0).toInt = 0 := rfl
  have e2 : (-2147483648 : Int32).toInt = -2147483648 := by decide
  have h1 : nI 0 ≤ x := Int32.le_iff_toInt_le.mpr (by omega)
  have h2 : (-2147483648 : Int32) ≤ x := Int32.le_iff_toInt_le.mpr (by omega)
  rw [decide_eq_true h1, decide_eq_true h2]
end
section
theorem cap_1 {most : Int32} (h : ¬ nI 1 ≤ most) : cap_F most = nI 1 := by
  have h1 : ¬ nI 1024 < most := fun q => by
    have q1 := Int32.lt_iff_toInt_lt.mp q
    have q2 := Int32.lt_iff_toInt_lt.mp (Int32.not_le.mp h)
    have e1 : (nI 1).toInt = 1 := rfl
    have e2 : (nI 1024).toInt = 1024 := rfl
    omega
  have h2 : ¬ nI 1 < most := fun q => by
    have q1 := Int32.lt_iff_toInt_lt.mp q
    have q2 := Int32.lt_iff_toInt_lt.mp (Int32.not_le.mp h)
    omega
  unfold cap_F
  rw [if_neg h1, if_neg h2]
theorem cap_2 {most : Int32} (h : ¬ most ≤ nI 1024) : cap_F most = nI 1024 := by
  unfold cap_F
  rw [if_pos (Int32.not_le.mp h), if_pos (by decide)]
theorem cap_3 {most : Int32} (h : nI 1 ≤ most) (h2 : most ≤ nI 1024) : cap_F most = most := by
  unfold cap_F
  rw [if_neg (Int32.not_lt.mpr h2)]
  by_cases q : nI 1 < most
  · rw [if_pos q]
  · rw [if_neg q]
    have q1 := Int32.le_iff_toInt_le.mp (Int32.not_lt.mp q)
    have q2 := Int32.le_iff_toInt_le.mp h
    exact Int32.toInt_inj.mp (by omega)
abbrev rmM : Room := { frames := 1, cells := 8, slots := 267776, locals := 40 }
set_option maxHeartbeats 4000000 in
set_option maxRecDepth 100000 in
/-- the constructor of the reference: eight new rows -/
theorem mc_init (l : Launch) (dC : Nat → ClassId) (dI : Nat → Nat → Nat) (h0 sz : Nat) (most : Int32) (N : Nat) (hcap : cap_F most = nI N) : Met l y_TM_init ws_TM_init rmM (va_Pc [.ref h0, .int most] (fun U => U.heap.size = sz ∧ va_P (dC, dI) classes [(h0, .inr (1, [.int (nI 0), .int (nI 0), .int (nI 0), .int (bI false), .int (nI 0), .null, .int (nI 0), .null, .int (nI 0), .int (nI 0), .null, .null, .null, .null, .null, .null]))] U.heap ∧ va_K (dC, dI) classes [] U ∧ va_D (fun _ => True) [(h0, .inr (1, [.int (nI 0), .int (nI 0), .int (nI 0), .int (bI false), .int (nI 0), .null, .int (nI 0), .null, .int (nI 0), .int (nI 0), .null, .null, .null, .null, .null, .null]))])) ((fun A => va_Qv (fun (u : (Nat → Nat) × (Nat → ClassId)) => u.1 0 = h0) (fun u t => va_P (dC, dI) classes (mm u.1 u.2 N (fun _ => 0) (fun _ => 0) (fun _ => 0) (fun _ => 0) (fun _ => 0) (fun _ => 0) (fun _ => false) (fun _ => 0) 0 0 0 false 0 0) t.heap ∧ va_K (dC, dI) classes (tys_M u.2) t ∧ va_D A (mm u.1 u.2 N (fun _ => 0) (fun _ => 0) (fun _ => 0) (fun _ => 0) (fun _ => 0) (fun _ => 0) (fun _ => false) (fun _ => 0) 0 0 0 false 0 0)) A) (va_A [(h0, .inr (1, [.int (nI 0), .int (nI 0), .int (nI 0), .int (bI false), .int (nI 0), .null, .int (nI 0), .null, .int (nI 0), .int (nI 0), .null, .null, .null, .null, .null, .null]))] sz)) 8 267776 (va_A [(h0, .inr (1, [.int (nI 0), .int (nI 0), .int (nI 0), .int (bI false), .int (nI 0), .null, .int (nI 0), .null, .int (nI 0), .int (nI 0), .null, .null, .null, .null, .null, .null]))] sz) := by
  refine tb_met (own := R_TM) (Qc := (fun A => va_Qv (fun (u : (Nat → Nat) × (Nat → ClassId)) => u.1 0 = h0) (fun u t => va_P (dC, dI) classes (mm u.1 u.2 N (fun _ => 0) (fun _ => 0) (fun _ => 0) (fun _ => 0) (fun _ => 0) (fun _ => 0) (fun _ => false) (fun _ => 0) 0 0 0 false 0 0) t.heap ∧ va_K (dC, dI) classes (tys_M u.2) t ∧ va_D A (mm u.1 u.2 N (fun _ => 0) (fun _ => 0) (fun _ => 0) (fun _ => 0) (fun _ => 0) (fun _ => 0) (fun _ => false) (fun _ => 0) 0 0 0 false 0 0)) A)) (by decide) rfl rfl (Nat.le_of_ble_eq_true rfl) [(0, .ref h0), (1, .int most)] rfl ?_
  intro p e s m below meth c A ls hx hb hr hml hts hown hlk hnm hA hK hP hD hS hl
  have hin : meth.name = "<init>" := hnm
  refine lv_aload_n hx hb d_TM_init_0 rfl (lv_at hl 0 rfl) ?_
  refine W.objInit hx hb hown (hts _ mo_TM) (hts _ im_Obj) (hts _ co_Obj) rfl (by rw [hml]; exact hl.1) rfl d_TM_init_1 (Nat.le_of_ble_eq_true rfl) (Nat.le_of_ble_eq_true rfl) ?_
  refine W.eq (g2 := F0 m 4 ls []) rfl ?_
  refine lv_aload_n hx hb d_TM_init_4 rfl (lv_at hl 0 rfl) ?_
  refine lv_sipush (v := nI 256) hx hb d_TM_init_5 (by decide) ?_
  refine va_newa (D := (dC, dI)) (atype := .byte) (ty := .byte) (N' := 256) (a0 := (256, .inl (fun _ => 0))) hx hb (hts _ ac_byte) rfl hK hP hD hS hA (fun _ => rfl) (by decide) (nI_clamp (by omega)) (by decide) (Nat.le_of_ble_eq_true rfl) (Nat.le_of_ble_eq_true rfl) d_TM_init_8 (fun q1 c1 H hK hP hD hS => ?_)
  have hK : va_K (dC, dI) classes [(c1, .byte)] s := hK
  have hP : va_P (dC, dI) classes [(h0, .inr (1, [.int (nI 0), .int (nI 0), .int (nI 0), .int (bI false), .int (nI 0), .null, .int (nI 0), .null, .int (nI 0), .int (nI 0), .null, .null, .null, .null, .null, .null])), (q1, .inl (c1, 256, .inl (fun _ => 0)))] H := hP
  have hD : va_D A [(h0, .inr (1, [.int (nI 0), .int (nI 0), .int (nI 0), .int (bI false), .int (nI 0), .null, .int (nI 0), .null, .int (nI 0), .int (nI 0), .null, .null, .null, .null, .null, .null])), (q1, .inl (c1, 256, .inl (fun _ => 0)))] := hD
  refine va_putF (D := (dC, dI)) (ci := 1) (v := .ref q1) (ty := .array .byte) (C := R_TM) (T := F_TM) (N := 16) hx hb hts i_TM t_TM t_TM_ok n_TM hown hK hP hD hS 0 rfl rfl 5 (by decide) (hts _ fl_TM_7) (fun _ h9 => h9) rfl hin rfl (by decide +kernel) rfl rfl (Nat.le_of_ble_eq_true rfl) d_TM_init_10 (fun H locs hP hD hS => ?_)
  have hP : va_P (dC, dI) classes [(h0, .inr (1, [.int (nI 0), .int (nI 0), .int (nI 0), .int (bI false), .int (nI 0), .ref q1, .int (nI 0), .null, .int (nI 0), .int (nI 0), .null, .null, .null, .null, .null, .null])), (q1, .inl (c1, 256, .inl (fun _ => 0)))] H := hP
  have hD : va_D A [(h0, .inr (1, [.int (nI 0), .int (nI 0), .int (nI 0), .int (bI false), .int (nI 0), .ref q1, .int (nI 0), .null, .int (nI 0), .int (nI 0), .null, .null, .null, .null, .null, .null])), (q1, .inl (c1, 256, .inl (fun _ => 0)))] := hD
  refine lv_aload_n hx hb d_TM_init_13 rfl (lv_at hl 0 rfl) ?_
  refine lv_sipush (v := nI 256) hx hb d_TM_init_14 (by decide) ?_
  refine va_newa (D := (dC, dI)) (atype := .byte) (ty := .byte) (N' := 256) (a0 := (256, .inl (fun _ => 0))) hx hb (hts _ ac_byte) rfl hK hP hD hS hA (fun _ => rfl) (by decide) (nI_clamp (by omega)) (by decide) (Nat.le_of_ble_eq_true rfl) (Nat.le_of_ble_eq_true rfl) d_TM_init_17 (fun q2 c2 H hK hP hD hS => ?_)
  have hK : va_K (dC, dI) classes [(c1, .byte), (c2, .byte)] s := hK
  have hP : va_P (dC, dI) classes [(h0, .inr (1, [.int (nI 0), .int (nI 0), .int (nI 0), .int (bI false), .int (nI 0), .ref q1, .int (nI 0), .null, .int (nI 0), .int (nI 0), .null, .null, .null, .null, .null, .null])), (q1, .inl (c1, 256, .inl (fun _ => 0))), (q2, .inl (c2, 256, .inl (fun _ => 0)))] H := hP
  have hD : va_D A [(h0, .inr (1, [.int (nI 0), .int (nI 0), .int (nI 0), .int (bI false), .int (nI 0), .ref q1, .int (nI 0), .null, .int (nI 0), .int (nI 0), .null, .null, .null, .null, .null, .null])), (q1, .inl (c1, 256, .inl (fun _ => 0))), (q2, .inl (c2, 256, .inl (fun _ => 0)))] := hD
  refine va_putF (D := (dC, dI)) (ci := 1) (v := .ref q2) (ty := .array .byte) (C := R_TM) (T := F_TM) (N := 16) hx hb hts i_TM t_TM t_TM_ok n_TM hown hK hP hD hS 0 rfl rfl 7 (by decide) (hts _ fl_TM_13) (fun _ h9 => h9) rfl hin rfl (by decide +kernel) rfl rfl (Nat.le_of_ble_eq_true rfl) d_TM_init_19 (fun H locs hP hD hS => ?_)
  have hP : va_P (dC, dI) classes [(h0, .inr (1, [.int (nI 0), .int (nI 0), .int (nI 0), .int (bI false), .int (nI 0), .ref q1, .int (nI 0), .ref q2, .int (nI 0), .int (nI 0), .null, .null, .null, .null, .null, .null])), (q1, .inl (c1, 256, .inl (fun _ => 0))), (q2, .inl (c2, 256, .inl (fun _ => 0)))] H := hP
  have hD : va_D A [(h0, .inr (1, [.int (nI 0), .int (nI 0), .int (nI 0), .int (bI false), .int (nI 0), .ref q1, .int (nI 0), .ref q2, .int (nI 0), .int (nI 0), .null, .null, .null, .null, .null, .null])), (q1, .inl (c1, 256, .inl (fun _ => 0))), (q2, .inl (c2, 256, .inl (fun _ => 0)))] := hD
  refine lv_aload_n hx hb d_TM_init_22 rfl (lv_at hl 0 rfl) ?_
  refine lv_sipush (v := nI 1024) hx hb d_TM_init_23 (by decide) ?_
  refine va_newa (D := (dC, dI)) (atype := .int) (ty := .int) (N' := 1024) (a0 := (1024, .inl (fun _ => 0))) hx hb (hts _ ac_int) rfl hK hP hD hS hA (fun _ => rfl) (by decide) (nI_clamp (by omega)) (by decide) (Nat.le_of_ble_eq_true rfl) (Nat.le_of_ble_eq_true rfl) d_TM_init_26 (fun q3 c3 H hK hP hD hS => ?_)
  have hK : va_K (dC, dI) classes [(c1, .byte), (c2, .byte), (c3, .int)] s := hK
  have hP : va_P (dC, dI) classes [(h0, .inr (1, [.int (nI 0), .int (nI 0), .int (nI 0), .int (bI false), .int (nI 0), .ref q1, .int (nI 0), .ref q2, .int (nI 0), .int (nI 0), .null, .null, .null, .null, .null, .null])), (q1, .inl (c1, 256, .inl (fun _ => 0))), (q2, .inl (c2, 256, .inl (fun _ => 0))), (q3, .inl (c3, 1024, .inl (fun _ => 0)))] H := hP
  have hD : va_D A [(h0, .inr (1, [.int (nI 0), .int (nI 0), .int (nI 0), .int (bI false), .int (nI 0), .ref q1, .int (nI 0), .ref q2, .int (nI 0), .int (nI 0), .null, .null, .null, .null, .null, .null])), (q1, .inl (c1, 256, .inl (fun _ => 0))), (q2, .inl (c2, 256, .inl (fun _ => 0))), (q3, .inl (c3, 1024, .inl (fun _ => 0)))] := hD
  refine va_putF (D := (dC, dI)) (ci := 1) (v := .ref q3) (ty := .array .int) (C := R_TM) (T := F_TM) (N := 16) hx hb hts i_TM t_TM t_TM_ok n_TM hown hK hP hD hS 0 rfl rfl 10 (by decide) (hts _ fl_TM_16) (fun _ h9 => h9) rfl hin rfl (by decide +kernel) rfl rfl (Nat.le_of_ble_eq_true rfl) d_TM_init_28 (fun H locs hP hD hS => ?_)
  have hP : va_P (dC, dI) classes [(h0, .inr (1, [.int (nI 0), .int (nI 0), .int (nI 0), .int (bI false), .int (nI 0), .ref q1, .int (nI 0), .ref q2, .int (nI 0), .int (nI 0), .ref q3, .null, .null, .null, .null, .null])), (q1, .inl (c1, 256, .inl (fun _ => 0))), (q2, .inl (c2, 256, .inl (fun _ => 0))), (q3, .inl (c3, 1024, .inl (fun _ => 0)))] H := hP
  have hD : va_D A [(h0, .inr (1, [.int (nI 0), .int (nI 0), .int (nI 0), .int (bI false), .int (nI 0), .ref q1, .int (nI 0), .ref q2, .int (nI 0), .int (nI 0), .ref q3, .null, .null, .null, .null, .null])), (q1, .inl (c1, 256, .inl (fun _ => 0))), (q2, .inl (c2, 256, .inl (fun _ => 0))), (q3, .inl (c3, 1024, .inl (fun _ => 0)))] := hD
  refine lv_aload_n hx hb d_TM_init_31 rfl (lv_at hl 0 rfl) ?_
  refine lv_sipush (v := nI 1024) hx hb d_TM_init_32 (by decide) ?_
  refine va_newa (D := (dC, dI)) (atype := .int) (ty := .int) (N' := 1024) (a0 := (1024, .inl (fun _ => 0))) hx hb (hts _ ac_int) rfl hK hP hD hS hA (fun _ => rfl) (by decide) (nI_clamp (by omega)) (by decide) (Nat.le_of_ble_eq_true rfl) (Nat.le_of_ble_eq_true rfl) d_TM_init_35 (fun q4 c4 H hK hP hD hS => ?_)
  have hK : va_K (dC, dI) classes [(c1, .byte), (c2, .byte), (c3, .int), (c4, .int)] s := hK
  have hP : va_P (dC, dI) classes [(h0, .inr (1, [.int (nI 0), .int (nI 0), .int (nI 0), .int (bI false), .int (nI 0), .ref q1, .int (nI 0), .ref q2, .int (nI 0), .int (nI 0), .ref q3, .null, .null, .null, .null, .null])), (q1, .inl (c1, 256, .inl (fun _ => 0))), (q2, .inl (c2, 256, .inl (fun _ => 0))), (q3, .inl (c3, 1024, .inl (fun _ => 0))), (q4, .inl (c4, 1024, .inl (fun _ => 0)))] H := hP
  have hD : va_D A [(h0, .inr (1, [.int (nI 0), .int (nI 0), .int (nI 0), .int (bI false), .int (nI 0), .ref q1, .int (nI 0), .ref q2, .int (nI 0), .int (nI 0), .ref q3, .null, .null, .null, .null, .null])), (q1, .inl (c1, 256, .inl (fun _ => 0))), (q2, .inl (c2, 256, .inl (fun _ => 0))), (q3, .inl (c3, 1024, .inl (fun _ => 0))), (q4, .inl (c4, 1024, .inl (fun _ => 0)))] := hD
  refine va_putF (D := (dC, dI)) (ci := 1) (v := .ref q4) (ty := .array .int) (C := R_TM) (T := F_TM) (N := 16) hx hb hts i_TM t_TM t_TM_ok n_TM hown hK hP hD hS 0 rfl rfl 11 (by decide) (hts _ fl_TM_20) (fun _ h9 => h9) rfl hin rfl (by decide +kernel) rfl rfl (Nat.le_of_ble_eq_true rfl) d_TM_init_37 (fun H locs hP hD hS => ?_)
  have hP : va_P (dC, dI) classes [(h0, .inr (1, [.int (nI 0), .int (nI 0), .int (nI 0), .int (bI false), .int (nI 0), .ref q1, .int (nI 0), .ref q2, .int (nI 0), .int (nI 0), .ref q3, .ref q4, .null, .null, .null, .null])), (q1, .inl (c1, 256, .inl (fun _ => 0))), (q2, .inl (c2, 256, .inl (fun _ => 0))), (q3, .inl (c3, 1024, .inl (fun _ => 0))), (q4, .inl (c4, 1024, .inl (fun _ => 0)))] H := hP
  have hD : va_D A [(h0, .inr (1, [.int (nI 0), .int (nI 0), .int (nI 0), .int (bI false), .int (nI 0), .ref q1, .int (nI 0), .ref q2, .int (nI 0), .int (nI 0), .ref q3, .ref q4, .null, .null, .null, .null])), (q1, .inl (c1, 256, .inl (fun _ => 0))), (q2, .inl (c2, 256, .inl (fun _ => 0))), (q3, .inl (c3, 1024, .inl (fun _ => 0))), (q4, .inl (c4, 1024, .inl (fun _ => 0)))] := hD
  refine lv_aload_n hx hb d_TM_init_40 rfl (lv_at hl 0 rfl) ?_
  refine lv_sipush (v := nI 1024) hx hb d_TM_init_41 (by decide) ?_
  refine va_newa (D := (dC, dI)) (atype := .int) (ty := .int) (N' := 1024) (a0 := (1024, .inl (fun i => nI ((fun _ => 0) i)))) hx hb (hts _ ac_int) rfl hK hP hD hS hA (fun _ => rfl) (by decide) (nI_clamp (by omega)) (by decide) (Nat.le_of_ble_eq_true rfl) (Nat.le_of_ble_eq_true rfl) d_TM_init_44 (fun q5 c5 H hK hP hD hS => ?_)
  have hK : va_K (dC, dI) classes [(c1, .byte), (c2, .byte), (c3, .int), (c4, .int), (c5, .int)] s := hK
  have hP : va_P (dC, dI) classes [(h0, .inr (1, [.int (nI 0), .int (nI 0), .int (nI 0), .int (bI false), .int (nI 0), .ref q1, .int (nI 0), .ref q2, .int (nI 0), .int (nI 0), .ref q3, .ref q4, .null, .null, .null, .null])), (q1, .inl (c1, 256, .inl (fun _ => 0))), (q2, .inl (c2, 256, .inl (fun _ => 0))), (q3, .inl (c3, 1024, .inl (fun _ => 0))), (q4, .inl (c4, 1024, .inl (fun _ => 0))), (q5, .inl (c5, 1024, .inl (fun i => nI ((fun _ => 0) i))))] H := hP
  have hD : va_D A [(h0, .inr (1, [.int (nI 0), .int (nI 0), .int (nI 0), .int (bI false), .int (nI 0), .ref q1, .int (nI 0), .ref q2, .int (nI 0), .int (nI 0), .ref q3, .ref q4, .null, .null, .null, .null])), (q1, .inl (c1, 256, .inl (fun _ => 0))), (q2, .inl (c2, 256, .inl (fun _ => 0))), (q3, .inl (c3, 1024, .inl (fun _ => 0))), (q4, .inl (c4, 1024, .inl (fun _ => 0))), (q5, .inl (c5, 1024, .inl (fun i => nI ((fun _ => 0) i))))] := hD
  refine va_putF (D := (dC, dI)) (ci := 1) (v := .ref q5) (ty := .array .int) (C := R_TM) (T := F_TM) (N := 16) hx hb hts i_TM t_TM t_TM_ok n_TM hown hK hP hD hS 0 rfl rfl 12 (by decide) (hts _ fl_TM_23) (fun _ h9 => h9) rfl hin rfl (by decide +kernel) rfl rfl (Nat.le_of_ble_eq_true rfl) d_TM_init_46 (fun H locs hP hD hS => ?_)
  have hP : va_P (dC, dI) classes [(h0, .inr (1, [.int (nI 0), .int (nI 0), .int (nI 0), .int (bI false), .int (nI 0), .ref q1, .int (nI 0), .ref q2, .int (nI 0), .int (nI 0), .ref q3, .ref q4, .ref q5, .null, .null, .null])), (q1, .inl (c1, 256, .inl (fun _ => 0))), (q2, .inl (c2, 256, .inl (fun _ => 0))), (q3, .inl (c3, 1024, .inl (fun _ => 0))), (q4, .inl (c4, 1024, .inl (fun _ => 0))), (q5, .inl (c5, 1024, .inl (fun i => nI ((fun _ => 0) i))))] H := hP
  have hD : va_D A [(h0, .inr (1, [.int (nI 0), .int (nI 0), .int (nI 0), .int (bI false), .int (nI 0), .ref q1, .int (nI 0), .ref q2, .int (nI 0), .int (nI 0), .ref q3, .ref q4, .ref q5, .null, .null, .null])), (q1, .inl (c1, 256, .inl (fun _ => 0))), (q2, .inl (c2, 256, .inl (fun _ => 0))), (q3, .inl (c3, 1024, .inl (fun _ => 0))), (q4, .inl (c4, 1024, .inl (fun _ => 0))), (q5, .inl (c5, 1024, .inl (fun i => nI ((fun _ => 0) i))))] := hD
  refine lv_aload_n hx hb d_TM_init_49 rfl (lv_at hl 0 rfl) ?_
  refine lv_sipush (v := nI 1024) hx hb d_TM_init_50 (by decide) ?_
  refine va_newa (D := (dC, dI)) (atype := .int) (ty := .int) (N' := 1024) (a0 := (1024, .inl (fun i => nI ((fun _ => 0) i)))) hx hb (hts _ ac_int) rfl hK hP hD hS hA (fun _ => rfl) (by decide) (nI_clamp (by omega)) (by decide) (Nat.le_of_ble_eq_true rfl) (Nat.le_of_ble_eq_true rfl) d_TM_init_53 (fun q6 c6 H hK hP hD hS => ?_)
  have hK : va_K (dC, dI) classes [(c1, .byte), (c2, .byte), (c3, .int), (c4, .int), (c5, .int), (c6, .int)] s := hK
  have hP : va_P (dC, dI) classes [(h0, .inr (1, [.int (nI 0), .int (nI 0), .int (nI 0), .int (bI false), .int (nI 0), .ref q1, .int (nI 0), .ref q2, .int (nI 0), .int (nI 0), .ref q3, .ref q4, .ref q5, .null, .null, .null])), (q1, .inl (c1, 256, .inl (fun _ => 0))), (q2, .inl (c2, 256, .inl (fun _ => 0))), (q3, .inl (c3, 1024, .inl (fun _ => 0))), (q4, .inl (c4, 1024, .inl (fun _ => 0))), (q5, .inl (c5, 1024, .inl (fun i => nI ((fun _ => 0) i)))), (q6, .inl (c6, 1024, .inl (fun i => nI ((fun _ => 0) i))))] H := hP
  have hD : va_D A [(h0, .inr (1, [.int (nI 0), .int (nI 0), .int (nI 0), .int (bI false), .int (nI 0), .ref q1, .int (nI 0), .ref q2, .int (nI 0), .int (nI 0), .ref q3, .ref q4, .ref q5, .null, .null, .null])), (q1, .inl (c1, 256, .inl (fun _ => 0))), (q2, .inl (c2, 256, .inl (fun _ => 0))), (q3, .inl (c3, 1024, .inl (fun _ => 0))), (q4, .inl (c4, 1024, .inl (fun _ => 0))), (q5, .inl (c5, 1024, .inl (fun i => nI ((fun _ => 0) i)))), (q6, .inl (c6, 1024, .inl (fun i => nI ((fun _ => 0) i))))] := hD
  refine va_putF (D := (dC, dI)) (ci := 1) (v := .ref q6) (ty := .array .int) (C := R_TM) (T := F_TM) (N := 16) hx hb hts i_TM t_TM t_TM_ok n_TM hown hK hP hD hS 0 rfl rfl 13 (by decide) (hts _ fl_TM_26) (fun _ h9 => h9) rfl hin rfl (by decide +kernel) rfl rfl (Nat.le_of_ble_eq_true rfl) d_TM_init_55 (fun H locs hP hD hS => ?_)
  have hP : va_P (dC, dI) classes [(h0, .inr (1, [.int (nI 0), .int (nI 0), .int (nI 0), .int (bI false), .int (nI 0), .ref q1, .int (nI 0), .ref q2, .int (nI 0), .int (nI 0), .ref q3, .ref q4, .ref q5, .ref q6, .null, .null])), (q1, .inl (c1, 256, .inl (fun _ => 0))), (q2, .inl (c2, 256, .inl (fun _ => 0))), (q3, .inl (c3, 1024, .inl (fun _ => 0))), (q4, .inl (c4, 1024, .inl (fun _ => 0))), (q5, .inl (c5, 1024, .inl (fun i => nI ((fun _ => 0) i)))), (q6, .inl (c6, 1024, .inl (fun i => nI ((fun _ => 0) i))))] H := hP
  have hD : va_D A [(h0, .inr (1, [.int (nI 0), .int (nI 0), .int (nI 0), .int (bI false), .int (nI 0), .ref q1, .int (nI 0), .ref q2, .int (nI 0), .int (nI 0), .ref q3, .ref q4, .ref q5, .ref q6, .null, .null])), (q1, .inl (c1, 256, .inl (fun _ => 0))), (q2, .inl (c2, 256, .inl (fun _ => 0))), (q3, .inl (c3, 1024, .inl (fun _ => 0))), (q4, .inl (c4, 1024, .inl (fun _ => 0))), (q5, .inl (c5, 1024, .inl (fun i => nI ((fun _ => 0) i)))), (q6, .inl (c6, 1024, .inl (fun i => nI ((fun _ => 0) i))))] := hD
  refine lv_aload_n hx hb d_TM_init_58 rfl (lv_at hl 0 rfl) ?_
  refine lv_sipush (v := nI 1024) hx hb d_TM_init_59 (by decide) ?_
  refine va_newa (D := (dC, dI)) (atype := .boolean) (ty := .boolean) (N' := 1024) (a0 := (1024, .inl (fun i => bI ((fun _ => false) i)))) hx hb (hts _ ac_boolean) rfl hK hP hD hS hA (fun _ => rfl) (by decide) (nI_clamp (by omega)) (by decide) (Nat.le_of_ble_eq_true rfl) (Nat.le_of_ble_eq_true rfl) d_TM_init_62 (fun q7 c7 H hK hP hD hS => ?_)
  have hK : va_K (dC, dI) classes [(c1, .byte), (c2, .byte), (c3, .int), (c4, .int), (c5, .int), (c6, .int), (c7, .boolean)] s := hK
  have hP : va_P (dC, dI) classes [(h0, .inr (1, [.int (nI 0), .int (nI 0), .int (nI 0), .int (bI false), .int (nI 0), .ref q1, .int (nI 0), .ref q2, .int (nI 0), .int (nI 0), .ref q3, .ref q4, .ref q5, .ref q6, .null, .null])), (q1, .inl (c1, 256, .inl (fun _ => 0))), (q2, .inl (c2, 256, .inl (fun _ => 0))), (q3, .inl (c3, 1024, .inl (fun _ => 0))), (q4, .inl (c4, 1024, .inl (fun _ => 0))), (q5, .inl (c5, 1024, .inl (fun i => nI ((fun _ => 0) i)))), (q6, .inl (c6, 1024, .inl (fun i => nI ((fun _ => 0) i)))), (q7, .inl (c7, 1024, .inl (fun i => bI ((fun _ => false) i))))] H := hP
  have hD : va_D A [(h0, .inr (1, [.int (nI 0), .int (nI 0), .int (nI 0), .int (bI false), .int (nI 0), .ref q1, .int (nI 0), .ref q2, .int (nI 0), .int (nI 0), .ref q3, .ref q4, .ref q5, .ref q6, .null, .null])), (q1, .inl (c1, 256, .inl (fun _ => 0))), (q2, .inl (c2, 256, .inl (fun _ => 0))), (q3, .inl (c3, 1024, .inl (fun _ => 0))), (q4, .inl (c4, 1024, .inl (fun _ => 0))), (q5, .inl (c5, 1024, .inl (fun i => nI ((fun _ => 0) i)))), (q6, .inl (c6, 1024, .inl (fun i => nI ((fun _ => 0) i)))), (q7, .inl (c7, 1024, .inl (fun i => bI ((fun _ => false) i))))] := hD
  refine va_putF (D := (dC, dI)) (ci := 1) (v := .ref q7) (ty := .array .boolean) (C := R_TM) (T := F_TM) (N := 16) hx hb hts i_TM t_TM t_TM_ok n_TM hown hK hP hD hS 0 rfl rfl 14 (by decide) (hts _ fl_TM_29) (fun _ h9 => h9) rfl hin rfl (by decide +kernel) rfl rfl (Nat.le_of_ble_eq_true rfl) d_TM_init_64 (fun H locs hP hD hS => ?_)
  have hP : va_P (dC, dI) classes [(h0, .inr (1, [.int (nI 0), .int (nI 0), .int (nI 0), .int (bI false), .int (nI 0), .ref q1, .int (nI 0), .ref q2, .int (nI 0), .int (nI 0), .ref q3, .ref q4, .ref q5, .ref q6, .ref q7, .null])), (q1, .inl (c1, 256, .inl (fun _ => 0))), (q2, .inl (c2, 256, .inl (fun _ => 0))), (q3, .inl (c3, 1024, .inl (fun _ => 0))), (q4, .inl (c4, 1024, .inl (fun _ => 0))), (q5, .inl (c5, 1024, .inl (fun i => nI ((fun _ => 0) i)))), (q6, .inl (c6, 1024, .inl (fun i => nI ((fun _ => 0) i)))), (q7, .inl (c7, 1024, .inl (fun i => bI ((fun _ => false) i))))] H := hP
  have hD : va_D A [(h0, .inr (1, [.int (nI 0), .int (nI 0), .int (nI 0), .int (bI false), .int (nI 0), .ref q1, .int (nI 0), .ref q2, .int (nI 0), .int (nI 0), .ref q3, .ref q4, .ref q5, .ref q6, .ref q7, .null])), (q1, .inl (c1, 256, .inl (fun _ => 0))), (q2, .inl (c2, 256, .inl (fun _ => 0))), (q3, .inl (c3, 1024, .inl (fun _ => 0))), (q4, .inl (c4, 1024, .inl (fun _ => 0))), (q5, .inl (c5, 1024, .inl (fun i => nI ((fun _ => 0) i)))), (q6, .inl (c6, 1024, .inl (fun i => nI ((fun _ => 0) i)))), (q7, .inl (c7, 1024, .inl (fun i => bI ((fun _ => false) i))))] := hD
  refine lv_aload_n hx hb d_TM_init_67 rfl (lv_at hl 0 rfl) ?_
  refine lv_ldc (v := nI 262144) hx hb hown (hts _ k_TM_33) d_TM_init_68 ?_
  refine va_newa (D := (dC, dI)) (atype := .byte) (ty := .byte) (N' := 262144) (a0 := (262144, .inl (fun _ => 0))) hx hb (hts _ ac_byte) rfl hK hP hD hS hA (fun _ => rfl) (by decide) (nI_clamp (by omega)) (by decide) (Nat.le_of_ble_eq_true rfl) (Nat.le_of_ble_eq_true rfl) d_TM_init_70 (fun q8 c8 H hK hP hD hS => ?_)
  have hK : va_K (dC, dI) classes [(c1, .byte), (c2, .byte), (c3, .int), (c4, .int), (c5, .int), (c6, .int), (c7, .boolean), (c8, .byte)] s := hK
  have hP : va_P (dC, dI) classes [(h0, .inr (1, [.int (nI 0), .int (nI 0), .int (nI 0), .int (bI false), .int (nI 0), .ref q1, .int (nI 0), .ref q2, .int (nI 0), .int (nI 0), .ref q3, .ref q4, .ref q5, .ref q6, .ref q7, .null])), (q1, .inl (c1, 256, .inl (fun _ => 0))), (q2, .inl (c2, 256, .inl (fun _ => 0))), (q3, .inl (c3, 1024, .inl (fun _ => 0))), (q4, .inl (c4, 1024, .inl (fun _ => 0))), (q5, .inl (c5, 1024, .inl (fun i => nI ((fun _ => 0) i)))), (q6, .inl (c6, 1024, .inl (fun i => nI ((fun _ => 0) i)))), (q7, .inl (c7, 1024, .inl (fun i => bI ((fun _ => false) i)))), (q8, .inl (c8, 262144, .inl (fun _ => 0)))] H := hP
  have hD : va_D A [(h0, .inr (1, [.int (nI 0), .int (nI 0), .int (nI 0), .int (bI false), .int (nI 0), .ref q1, .int (nI 0), .ref q2, .int (nI 0), .int (nI 0), .ref q3, .ref q4, .ref q5, .ref q6, .ref q7, .null])), (q1, .inl (c1, 256, .inl (fun _ => 0))), (q2, .inl (c2, 256, .inl (fun _ => 0))), (q3, .inl (c3, 1024, .inl (fun _ => 0))), (q4, .inl (c4, 1024, .inl (fun _ => 0))), (q5, .inl (c5, 1024, .inl (fun i => nI ((fun _ => 0) i)))), (q6, .inl (c6, 1024, .inl (fun i => nI ((fun _ => 0) i)))), (q7, .inl (c7, 1024, .inl (fun i => bI ((fun _ => false) i)))), (q8, .inl (c8, 262144, .inl (fun _ => 0)))] := hD
  refine va_putF (D := (dC, dI)) (ci := 1) (v := .ref q8) (ty := .array .byte) (C := R_TM) (T := F_TM) (N := 16) hx hb hts i_TM t_TM t_TM_ok n_TM hown hK hP hD hS 0 rfl rfl 15 (by decide) (hts _ fl_TM_34) (fun _ h9 => h9) rfl hin rfl (by decide +kernel) rfl rfl (Nat.le_of_ble_eq_true rfl) d_TM_init_72 (fun H locs hP hD hS => ?_)
  have hP : va_P (dC, dI) classes [(h0, .inr (1, [.int (nI 0), .int (nI 0), .int (nI 0), .int (bI false), .int (nI 0), .ref q1, .int (nI 0), .ref q2, .int (nI 0), .int (nI 0), .ref q3, .ref q4, .ref q5, .ref q6, .ref q7, .ref q8])), (q1, .inl (c1, 256, .inl (fun _ => 0))), (q2, .inl (c2, 256, .inl (fun _ => 0))), (q3, .inl (c3, 1024, .inl (fun _ => 0))), (q4, .inl (c4, 1024, .inl (fun _ => 0))), (q5, .inl (c5, 1024, .inl (fun i => nI ((fun _ => 0) i)))), (q6, .inl (c6, 1024, .inl (fun i => nI ((fun _ => 0) i)))), (q7, .inl (c7, 1024, .inl (fun i => bI ((fun _ => false) i)))), (q8, .inl (c8, 262144, .inl (fun _ => 0)))] H := hP
  have hD : va_D A [(h0, .inr (1, [.int (nI 0), .int (nI 0), .int (nI 0), .int (bI false), .int (nI 0), .ref q1, .int (nI 0), .ref q2, .int (nI 0), .int (nI 0), .ref q3, .ref q4, .ref q5, .ref q6, .ref q7, .ref q8])), (q1, .inl (c1, 256, .inl (fun _ => 0))), (q2, .inl (c2, 256, .inl (fun _ => 0))), (q3, .inl (c3, 1024, .inl (fun _ => 0))), (q4, .inl (c4, 1024, .inl (fun _ => 0))), (q5, .inl (c5, 1024, .inl (fun i => nI ((fun _ => 0) i)))), (q6, .inl (c6, 1024, .inl (fun i => nI ((fun _ => 0) i)))), (q7, .inl (c7, 1024, .inl (fun i => bI ((fun _ => false) i)))), (q8, .inl (c8, 262144, .inl (fun _ => 0)))] := hD
  refine lv_aload_n hx hb d_TM_init_75 rfl (lv_at hl 0 rfl) ?_
  refine lv_iload_n hx hb d_TM_init_76 rfl (lv_at hl 1 rfl) ?_
  refine lv_iconst (v := nI 1) hx hb d_TM_init_77 (by decide) ?_
  refine W.widen (k := 8) (n := 267776) (Nat.le_of_ble_eq_true rfl) (Nat.le_of_ble_eq_true rfl) ?_
  have fin : W p l e rmM s m [Value.ref h0, .int most].toArray below meth c H locs 8 267776 (MQ below ((fun A => va_Qv (fun (u : (Nat → Nat) × (Nat → ClassId)) => u.1 0 = h0) (fun u t => va_P (dC, dI) classes (mm u.1 u.2 N (fun _ => 0) (fun _ => 0) (fun _ => 0) (fun _ => 0) (fun _ => 0) (fun _ => 0) (fun _ => false) (fun _ => 0) 0 0 0 false 0 0) t.heap ∧ va_K (dC, dI) classes (tys_M u.2) t ∧ va_D A (mm u.1 u.2 N (fun _ => 0) (fun _ => 0) (fun _ => 0) (fun _ => 0) (fun _ => 0) (fun _ => 0) (fun _ => false) (fun _ => 0) 0 0 0 false 0 0)) A) A) [Value.ref h0, .int most].toArray s 8 267776 A) (F0 m 99 ls [.int (nI N), .ref h0]) := by
    refine va_putF (D := (dC, dI)) (ci := 1) (v := .int (nI N)) (ty := .int) (C := R_TM) (T := F_TM) (N := 16) hx hb hts i_TM t_TM t_TM_ok n_TM hown hK hP hD hS 0 rfl rfl 1 (by decide) (hts _ fl_TM_37) (fun _ h9 => h9) rfl hin rfl (by decide +kernel) rfl rfl (Nat.le_of_ble_eq_true rfl) d_TM_init_99 (fun H locs hP hD hS => ?_)
    have hP : va_P (dC, dI) classes [(h0, .inr (1, [.int (nI 0), .int (nI N), .int (nI 0), .int (bI false), .int (nI 0), .ref q1, .int (nI 0), .ref q2, .int (nI 0), .int (nI 0), .ref q3, .ref q4, .ref q5, .ref q6, .ref q7, .ref q8])), (q1, .inl (c1, 256, .inl (fun _ => 0))), (q2, .inl (c2, 256, .inl (fun _ => 0))), (q3, .inl (c3, 1024, .inl (fun _ => 0))), (q4, .inl (c4, 1024, .inl (fun _ => 0))), (q5, .inl (c5, 1024, .inl (fun i => nI ((fun _ => 0) i)))), (q6, .inl (c6, 1024, .inl (fun i => nI ((fun _ => 0) i)))), (q7, .inl (c7, 1024, .inl (fun i => bI ((fun _ => false) i)))), (q8, .inl (c8, 262144, .inl (fun _ => 0)))] H := hP
    have hD : va_D A [(h0, .inr (1, [.int (nI 0), .int (nI N), .int (nI 0), .int (bI false), .int (nI 0), .ref q1, .int (nI 0), .ref q2, .int (nI 0), .int (nI 0), .ref q3, .ref q4, .ref q5, .ref q6, .ref q7, .ref q8])), (q1, .inl (c1, 256, .inl (fun _ => 0))), (q2, .inl (c2, 256, .inl (fun _ => 0))), (q3, .inl (c3, 1024, .inl (fun _ => 0))), (q4, .inl (c4, 1024, .inl (fun _ => 0))), (q5, .inl (c5, 1024, .inl (fun i => nI ((fun _ => 0) i)))), (q6, .inl (c6, 1024, .inl (fun i => nI ((fun _ => 0) i)))), (q7, .inl (c7, 1024, .inl (fun i => bI ((fun _ => false) i)))), (q8, .inl (c8, 262144, .inl (fun _ => 0)))] := hD
    exact W.vret hx hb hr (fun t ht hW => ⟨⟨(fun k => match k with | 0 => h0 | 1 => q1 | 2 => q2 | 3 => q3 | 4 => q4 | 5 => q5 | 6 => q6 | 7 => q7 | _ => q8, fun k => match k with | 0 => c1 | 1 => c2 | 2 => c3 | 3 => c4 | 4 => c5 | 5 => c6 | 6 => c7 | _ => c8), rfl, rfl, by rw [ht]; exact hP, va_K.moved hW.alike hK, hD⟩, hS.F ht⟩) hS.2.2 d_TM_init_102 hlk
  refine lv_icmp_ge (tgt := 85) hx hb d_TM_init_78 (by decide) (fun c_78 => ?_) (fun c_78 => ?_)
  · refine lv_iload_n hx hb d_TM_init_85 rfl (lv_at hl 1 rfl) ?_
    refine lv_sipush (v := nI 1024) hx hb d_TM_init_86 (by decide) ?_
    refine lv_icmp_le (tgt := 98) hx hb d_TM_init_89 (by decide) (fun c_89 => ?_) (fun c_89 => ?_)
    · refine lv_iload_n hx hb d_TM_init_98 rfl (lv_at hl 1 rfl) ?_
      refine tp_i (nI N) (by rw [← hcap, cap_3 c_78 c_89]) ?_
      exact fin
    · refine lv_sipush (v := nI 1024) hx hb d_TM_init_92 (by decide) ?_
      refine lv_goto (tgt := 99) hx hb d_TM_init_95 (by decide) ?_
      refine tp_i (nI N) (by rw [← hcap, cap_2 c_89]) ?_
      exact fin
  · refine lv_iconst (v := nI 1) hx hb d_TM_init_81 (by decide) ?_
    refine lv_goto (tgt := 99) hx hb d_TM_init_82 (by decide) ?_
    refine tp_i (nI N) (by rw [← hcap, cap_1 c_78]) ?_
    exact fin
end
section
/-! THE CLAIM OUT OF ONE WALK OF THE LAW'S BODY. Your part is whole_start (and what it stands on); all else here is the same for every law, but numbers. -/
def lw_P (b : Addr) (xs : List Int32) (args : Array Value) (s : State) : Prop := args = #[.ref b] ∧ s.IntsAt b xs ∧ xs.length ≤ 2049 ∧ (Jvm.Cond.and given_1 narrow_1).before args s = true
def lw_Q (_ : Array Value) (s : State) (o : Outcome) (t : State) : Prop := o = .returned (some (.int 1)) ∧ Framed s o t [] 600000 7302250
def lw_Z (below : List Frame) (a : Array Value) (s : State) : State → Prop := fun t => ∃ o, t.status = .running ∧ Ended t below o ∧ lw_Q a s o t
/-- the law's own end, with 1 on the stack, nothing written that was there before, its room as the claim has it -/
theorem lw_ret {p : Program} {l : Launch} {e : Env} {s : State} {m : MethodId} {below : List Frame} {meth : Method} {c : Code} {b : Nat} (hx : p.tables.exec = Jvm.exec) (hb : c.code = code) (hr : meth.sig.returnType = ret) (hlocks : meth.locks = false) {pc : Nat} {H : Heap} {ls : Array Slot} (hdg : decode code pc = .ok (.ireturn, 1)) : W p l e room_1 s m #[Value.ref b] below meth c H [] 600000 7302250 (lw_Z below #[Value.ref b] s) (F0 m pc ls [.int 1]) := by
  intro T hT X
  obtain ⟨fs, hret, hrun, hended, hW, hframe⟩ := X.leave (v := some (.int 1)) (hlocks := hlocks) (fun h => by rw [hr] at h; cases h)
  have hmeth' : T.vm.method? m = some meth := X.method'
  refine ⟨T.setFrames fs, ?_, .returned (some (.int 1)), hrun, hended, rfl, ⟨_, rfl⟩, hW, hframe⟩
  jvm_step X.here [X.here.top, hx, hb, hdg, hmeth', hr, ret, narrow_b1]
  (try refine ⟨rfl, ?_⟩); (try refine ⟨rfl, ?_⟩)
  first | (intro acts; rw [hret _ acts rfl rfl rfl]) | rw [hret _ _ rfl rfl rfl]
  exact Steps.refl _
/-- what holds at the law's entry: the machine, the code, the tables' words (any of lw_tbl by 'hts w (by decide +kernel)'), the script of L ints xs at the cell b, what the Statement gives of the start (any of its parts by flat_of_before) -/
def lw_At (p : Program) (s : State) (m : MethodId) (meth : Method) (c : Code) (b L : Nat) (xs : Nat → Int32) : Prop :=
  p.tables.exec = Jvm.exec ∧ c.code = code ∧ meth.sig.returnType = ret ∧ c.maxLocals = 4 ∧ s.vm.findClass R_law = some m.cls ∧ (∀ w ∈ lw_tbl, w.before #[Value.ref b] s = true) ∧ va_X b L xs s s.heap ∧ b < s.heap.size ∧ meth.locks = false ∧ (Jvm.Cond.and given_1 narrow_1).before #[Value.ref b] s = true
end
section
theorem c_cell (l : Launch) (b L : Nat) (xs : Nat → Int32) (hL : L ≤ 2049) : Met l y_law_cell ws_law_cell (rmD 0) (va_Pc [.ref b, .int (nI 0)] (fun U => va_X b L xs U U.heap)) (QcRead (if 0 < L then xs 0 else 0)) 0 0 (fun _ => False) := by
  refine Met.ofW (cc := b_law_cell) (maxL := 2) (ret := some .int) (by decide) rfl ?_
  intro p e s m args below meth c s₁ B hml hv
  obtain ⟨rfl, hX⟩ := hv
  have hx := B.exec
  have hb := B.bytes
  have hr := B.returns
  have hlk := B.notSynchronized
  have hbl : b < s.heap.size := by
    obtain ⟨scr, h1, -⟩ := hX
    exact (Array.getElem?_eq_some_iff.mp h1).1
  have hS : va_S (fun _ => False) s.heap s.heap [] := va_S.rf
  have hbA : ¬ (fun _ : Nat => False) b := fun h => h
  have hl := lv_entry ([.ref b, .int (nI 0)]) (n := 2) (Nat.le_of_ble_eq_true rfl)
  rw [lg_entry_eq]
  generalize (lg_sl ([.ref b, .int (nI 0)]) ++ List.replicate (2 - (lg_sl ([.ref b, .int (nI 0)])).length) Slot.unset).toArray = ls at hl ⊢
  have hl : lv_has ls 2 [(0, .ref b), (1, .int (nI 0))] := hl
  refine lv_iload_n hx hb d_law_cell_0 rfl (lv_at hl 1 rfl) ?_
  refine lv_aload_n hx hb d_law_cell_1 rfl (lv_at hl 0 rfl) ?_
  refine va_slen hx hb hX hbl hbA hS d_law_cell_2 ?_
  refine lv_icmp_ge (tgt := 12) hx hb d_law_cell_3 (by decide) (fun c_3 => ?_) (fun c_3 => ?_)
  · have h0 : ¬ 0 < L := fun q => absurd ((nI_leI (a := L) (b := 0) (by omega) (by omega)).mp c_3) (by omega)
    refine lv_iconst (v := 0) hx hb d_law_cell_12 (by decide) ?_
    exact W.iret (v := 0) hx hb hr (fun t ht hW => ⟨by rw [if_neg h0], ht⟩) (fun q hq => by cases hq) d_law_cell_13 hlk
  · have h0 : 0 < L := Nat.pos_of_ne_zero (fun q => c_3 (by rw [q]; exact Int32.le_refl _))
    refine lv_aload_n hx hb d_law_cell_6 rfl (lv_at hl 0 rfl) ?_
    refine lv_iload_n hx hb d_law_cell_7 rfl (lv_at hl 1 rfl) ?_
    refine va_sld hx hb hX hbl hbA hS (vp_in_nI (n := 0) h0 (by omega)) d_law_cell_8 ?_
    refine lv_goto (tgt := 13) hx hb d_law_cell_9 (by decide) ?_
    exact W.iret hx hb hr (fun t ht hW => ⟨by rw [if_pos h0]; rfl, ht⟩) (fun q hq => by cases hq) d_law_cell_13 hlk
section TI
variable {p : Program} {l : Launch} {e : Env} {R : Room} {s : State} {m : MethodId} {args : Array Value} {below : List Frame} {meth : Method} {c : Code} {H : Heap} {locs : List Loc} {cells slots : Nat} {Q : State → Prop}
variable {cc : ByteArray} {pc : Nat} {ls : Array Slot} {rest : List Value} {D : va_G} {cl : List vw_C} {A : Nat → Prop} {wa wb : va_W}
variable {y : MethodName} {ws ws' : List Cond} {bytes : ByteArray} {maxL nL n index mc ms : Nat} {rm : Room} {Ts : List Cond} {own : String} {b : Addr} {As st0 : List Value} {S : Type}
theorem tl_callI {post : S → Prop} {w1 : S → va_W} {ty1 : S → List (ClassId × FieldType)} (hM : Met l y ws rm (va_Pc (.ref b :: As) (fun U => U.heap.size = H.size ∧ va_P D cl wa U.heap ∧ va_K D cl [] U ∧ va_D (fun _ => True) wa)) (va_Qv post (fun u t => va_P D cl (w1 u) t.heap ∧ va_K D cl (ty1 u) t ∧ va_D (va_A wa H.size) (w1 u)) (va_A wa H.size)) mc ms (va_A wa H.size))
    (S0 : CallFix p m c cc nL s args Ts own) (cw : CallB R s args own index y bytes maxL none ws rm mc ms n ∧ y.name = "<init>" ∧ (Cond.instanceMethod y).before args s = true) (hK : va_K D cl [] s) (hP : va_P D cl (wa ++ wb) H) (hD : va_D A (wa ++ wb)) (hS : va_S A s.heap H locs) (hA : ∀ q, s.heap.size ≤ q → A q)
    (hn : As.length = n) (hsize : ls.size = nL) (hstack : st0 = As.reverse ++ .ref b :: rest) (hW : (rest.map fun v => v.category).sum ≤ 8) (hdg : decode cc pc = .ok (.invokespecial index, 3)) (hf : cells + mc ≤ R.cells ∧ slots + ms ≤ R.slots)
    (kk : ∀ (u : S) (H1 : Heap) (locs1 : List Loc), post u → va_P D cl (w1 u ++ wb) H1 → va_D A (w1 u ++ wb) → va_K D cl (ty1 u) s → va_S A s.heap H1 locs1 → W p l e R s m args below meth c H1 locs1 (cells + mc) (slots + ms) Q (F0 m (pc + 3) ls rest)) : W p l e R s m args below meth c H locs cells slots Q (F0 m pc ls st0) := by
  have hFc := tb_own (fr_Dl hD) hS hA
  refine va_callv (va_runI (As := As) (rest := rest) S0 hM cw ⟨fun a U g mk q => by obtain ⟨q0, q1, qP, qK, qD⟩ := q; exact ⟨q0, q1, qP, va_K.moved (u := U) (U := U.calling g mk a) (Vm.Alike.refl U.vm) qK, qD⟩, fun U hU hW => ⟨rfl, by rw [hU], by rw [hU]; exact fr_Pl hP, va_K.moved hW.alike hK, (fr_Dl hD).weaken (fun _ _ _ _ => trivial)⟩⟩ rfl hn hsize hstack (lv_room hW) hdg hf) hS (fun q _ h => hFc q h) hFc (fun u t H1 locs1 ht hvm hw hB hz1 hk1 hS1 => ?_)
  obtain ⟨hP1, hK1, hD1⟩ := hB
  obtain ⟨hP2, hD2⟩ := fr_l hP hD hk1 hFc (by rw [← ht]; exact hP1) hD1
  exact kk u H1 locs1 hw hP2 hD2 (va_K.moved hvm.symm hK1) hS1
end TI
end
section
theorem nI_4 (n : Nat) : nI (1 + 4 * n) + 4 = nI (1 + 4 * (n + 1)) := by
  rw [show (4 : Int32) = nI 4 from rfl, nI_add]
  congr 1
/-- what stays while the law runs -/
def LF (p : Program) (s : State) (m : MethodId) (meth : Method) (c : Code) (dC : Nat → ClassId) (dI : Nat → Nat → Nat) (b L : Nat) (xs : Nat → Int32) (CX CM : Nat → ClassId) : Prop :=
  L ≤ 2049 ∧ p.tables.exec = Jvm.exec ∧ c.code = code ∧ meth.sig.returnType = ret ∧ c.maxLocals = 4 ∧ s.vm.findClass R_law = some m.cls ∧ (∀ w ∈ lw_g, w.before #[Value.ref b] s = true) ∧ va_X b L xs s s.heap ∧ b < s.heap.size ∧ meth.locks = false ∧ va_K (dC, dI) classes (tys_T CX) s ∧ va_K (dC, dI) classes (tys_M CM) s
/-- from the loop's head, behind cn calls -/
def LH (p : Program) (l : Launch) (e : Env) (s : State) (m : MethodId) (below : List Frame) (meth : Method) (c : Code) (dC : Nat → ClassId) (dI : Nat → Nat → Nat) (b N : Nat) (PX PM : Nat → Nat) (CX CM : Nat → ClassId) (cn : Nat) : Prop :=
  ∀ (fb : Nat → Int32) (g : Nat → Nat) (fn ft : Nat → Int32) (fs fl : Nat → Nat) (w wi now : Nat) (on : Bool) (ts tl lf ll : Nat) (tx lx nu ti : Nat → Int32) (si ro : Nat → Nat) (us : Nat → Bool) (bt : Nat → Int32) (w2 al tl2 ll2 : Nat) (H : Heap) (locs : List Loc) (ls : Array Slot), JR cn N fb g fn ft fs fl w wi now ts tl lf ll tx lx bt (nu, ti, si, ro, us, w2) al tl2 ll2 → va_P (dC, dI) classes (tt PX CX N fb g fn ft fs fl w wi now on ts tl lf ll ++ mm PM CM N tx lx nu ti si ro us bt w2 al now on tl2 ll2) H → va_D (fun q : Nat => s.heap.size ≤ q) (tt PX CX N fb g fn ft fs fl w wi now on ts tl lf ll ++ mm PM CM N tx lx nu ti si ro us bt w2 al now on tl2 ll2) → va_S (fun q : Nat => s.heap.size ≤ q) s.heap H locs → lv_has ls 4 [(3, .int (nI (1 + 4 * cn))), (2, .ref (PM 0)), (1, .ref (PX 0)), (0, .ref b)] → W p l e room_1 s m #[Value.ref b] below meth c H locs 600000 7302250 (lw_Z below #[Value.ref b] s) (F0 m 28 ls [])
end
section
set_option maxHeartbeats 4000000 in
set_option maxRecDepth 100000 in
/-- the law: put -/
theorem law_put {p : Program} {l : Launch} {e : Env} {s : State} {m : MethodId} {below : List Frame} {meth : Method} {c : Code} {dC : Nat → ClassId} {dI : Nat → Nat → Nat} {b L : Nat} {xs : Nat → Int32} {N : Nat} {PX PM : Nat → Nat} {CX CM : Nat → ClassId} (F : LF p s m meth c dC dI b L xs CX CM) {cn : Nat} (ih : LH p l e s m below meth c dC dI b N PX PM CX CM (cn + 1)) (hc : cn < 512) (hi : 1 + 4 * cn + 4 ≤ L) (fb : Nat → Int32) (g : Nat → Nat) (fn ft : Nat → Int32) (fs fl : Nat → Nat) (w wi now : Nat) (on : Bool) (ts tl lf ll : Nat) (tx lx nu ti : Nat → Int32) (si ro : Nat → Nat) (us : Nat → Bool) (bt : Nat → Int32) (w2 al tl2 ll2 : Nat) (H : Heap) (locs : List Loc) (ls : Array Slot) (J : JR cn N fb g fn ft fs fl w wi now ts tl lf ll tx lx bt (nu, ti, si, ro, us, w2) al tl2 ll2) (hP : va_P (dC, dI) classes (tt PX CX N fb g fn ft fs fl w wi now on ts tl lf ll ++ mm PM CM N tx lx nu ti si ro us bt w2 al now on tl2 ll2) H) (hD : va_D (fun q : Nat => s.heap.size ≤ q) (tt PX CX N fb g fn ft fs fl w wi now on ts tl lf ll ++ mm PM CM N tx lx nu ti si ro us bt w2 al now on tl2 ll2)) (hS : va_S (fun q : Nat => s.heap.size ≤ q) s.heap H locs) (hl : lv_has ls 4 [(3, .int (nI (1 + 4 * cn))), (2, .ref (PM 0)), (1, .ref (PX 0)), (0, .ref b)]) : W p l e room_1 s m #[Value.ref b] below meth c H locs 600000 7302250 (lw_Z below #[Value.ref b] s) (F0 m 116 ls []) := by
  obtain ⟨hL, hx, hb, hr, hml, hown, hts, hX, hbl, hlocks, hKx, hKm⟩ := F
  obtain ⟨z1, z2, z3, z4, ⟨z5, z6, z7, hgw⟩, hfs, hfl, z8, z9, z10, z11, z12, z13, hro, hsi⟩ := jr_bd J
  obtain ⟨A, hAe⟩ : ∃ A : Nat → Prop, A = (fun q : Nat => s.heap.size ≤ q) := ⟨_, rfl⟩
  have hA : ∀ q : Nat, s.heap.size ≤ q → A q := fun q h => by rw [hAe]; exact h
  have hbA : ¬ A b := by rw [hAe]; exact Nat.not_le.mpr hbl
  rw [← hAe] at hD hS
  refine lv_aload_n hx hb d_law_116 rfl (lv_at hl 2 rfl) ?_
  refine lv_aload_n hx hb d_law_117 rfl (lv_at hl 3 rfl) ?_
  refine lv_iload_n hx hb d_law_118 rfl (lv_at hl 0 rfl) ?_
  refine lv_iconst (v := nI 1) hx hb d_law_119 (by decide) ?_
  refine lv_iadd hx hb d_law_120 ?_
  refine tp_i (nI (1 + 4 * cn + 1)) (nI_add _ _) ?_
  refine va_sld hx hb hX hbl hbA hS (vp_in_nI (n := 1 + 4 * cn + 1) (by omega) (by omega)) d_law_121 ?_
  refine tp_i (xs (1 + 4 * cn + 1)) (by rw [nI_clamp (by omega)]) ?_
  refine tl_calli (c_put l dC dI PX CX N H.size fb g fn ft fs fl w wi now on ts tl lf ll (xs (1 + 4 * cn + 1)) (by omega) (by omega) (fun _ => by omega)) ⟨hx, hb, hml, hown, hts⟩ (cwV 1 hts g_law_21 rfl rfl rfl (by decide +kernel) ⟨Nat.le_of_ble_eq_true rfl, Nat.le_of_ble_eq_true rfl⟩) hKx hP hD hS hA 0 rfl 0 rfl rfl hl.1 rfl (Nat.le_of_ble_eq_true rfl) d_law_122 ⟨Nat.le_refl _, Nat.le_refl _⟩ (fun r1 u H locs hwc hP hD hS => ?_)
  obtain ⟨fb', tl'⟩ := u
  have hP : va_P (dC, dI) classes (tt PX CX N fb' g fn ft fs fl w wi now on ts tl' lf ll ++ mm PM CM N tx lx nu ti si ro us bt w2 al now on tl2 ll2) H := hP
  have hD : va_D A (tt PX CX N fb' g fn ft fs fl w wi now on ts tl' lf ll ++ mm PM CM N tx lx nu ti si ro us bt w2 al now on tl2 ll2) := hD
  refine lv_aload_n hx hb d_law_125 rfl (lv_at hl 1 rfl) ?_
  refine lv_aload_n hx hb d_law_126 rfl (lv_at hl 3 rfl) ?_
  refine lv_iload_n hx hb d_law_127 rfl (lv_at hl 0 rfl) ?_
  refine lv_iconst (v := nI 1) hx hb d_law_128 (by decide) ?_
  refine lv_iadd hx hb d_law_129 ?_
  refine tp_i (nI (1 + 4 * cn + 1)) (nI_add _ _) ?_
  refine va_sld hx hb hX hbl hbA hS (vp_in_nI (n := 1 + 4 * cn + 1) (by omega) (by omega)) d_law_130 ?_
  refine tp_i (xs (1 + 4 * cn + 1)) (by rw [nI_clamp (by omega)]) ?_
  have hP := fr_sw hP
  have hD := fr_swD hD
  refine tl_calli (mc_put l dC dI PM CM N H.size tx lx nu ti si ro us bt w2 al now on tl2 ll2 (xs (1 + 4 * cn + 1)) (by omega)) ⟨hx, hb, hml, hown, hts⟩ (cwV 1 hts g_law_25 rfl rfl rfl (by decide +kernel) ⟨Nat.le_of_ble_eq_true rfl, Nat.le_of_ble_eq_true rfl⟩) hKm hP hD hS hA 1 rfl 0 rfl rfl hl.1 rfl (Nat.le_of_ble_eq_true rfl) d_law_131 ⟨Nat.le_refl _, Nat.le_refl _⟩ (fun r2 u H locs hwm hP hD hS => ?_)
  obtain ⟨tx', tl2'⟩ := u
  have hP : va_P (dC, dI) classes (mm PM CM N tx' lx nu ti si ro us bt w2 al now on tl2' ll2 ++ tt PX CX N fb' g fn ft fs fl w wi now on ts tl' lf ll) H := hP
  have hD : va_D A (mm PM CM N tx' lx nu ti si ro us bt w2 al now on tl2' ll2 ++ tt PX CX N fb' g fn ft fs fl w wi now on ts tl' lf ll) := hD
  have hP := fr_sw hP
  have hD := fr_swD hD
  obtain ⟨he, J⟩ := jr_put J hc hwc hwm
  refine lv_icmp_eq (tgt := 493) hx hb d_law_134 (by decide) (fun c_134 => ?_) (fun c_134 => ?_)
  · rw [hAe] at hD hS
    refine lv_iinc (v := nI (1 + 4 * (cn + 1))) (lv' := [(3, .int (nI (1 + 4 * (cn + 1)))), (2, .ref (PM 0)), (1, .ref (PX 0)), (0, .ref b)]) hx hb d_law_493 hl (k := 0) rfl (nI_4 _) (by decide) rfl (fun ls hl => ?_)
    refine lv_goto (tgt := 28) hx hb d_law_496 (by decide) ?_
    exact ih _ _ _ _ _ _ _ _ _ _ _ _ _ _ _ _ _ _ _ _ _ _ _ _ _ _ _ _ _ J hP hD hS hl
  · exact absurd he c_134

set_option maxHeartbeats 4000000 in
set_option maxRecDepth 100000 in
/-- the law: insert -/
theorem law_insert {p : Program} {l : Launch} {e : Env} {s : State} {m : MethodId} {below : List Frame} {meth : Method} {c : Code} {dC : Nat → ClassId} {dI : Nat → Nat → Nat} {b L : Nat} {xs : Nat → Int32} {N : Nat} {PX PM : Nat → Nat} {CX CM : Nat → ClassId} (F : LF p s m meth c dC dI b L xs CX CM) {cn : Nat} (ih : LH p l e s m below meth c dC dI b N PX PM CX CM (cn + 1)) (hc : cn < 512) (hi : 1 + 4 * cn + 4 ≤ L) (fb : Nat → Int32) (g : Nat → Nat) (fn ft : Nat → Int32) (fs fl : Nat → Nat) (w wi now : Nat) (on : Bool) (ts tl lf ll : Nat) (tx lx nu ti : Nat → Int32) (si ro : Nat → Nat) (us : Nat → Bool) (bt : Nat → Int32) (w2 al tl2 ll2 : Nat) (H : Heap) (locs : List Loc) (ls : Array Slot) (J : JR cn N fb g fn ft fs fl w wi now ts tl lf ll tx lx bt (nu, ti, si, ro, us, w2) al tl2 ll2) (hP : va_P (dC, dI) classes (tt PX CX N fb g fn ft fs fl w wi now on ts tl lf ll ++ mm PM CM N tx lx nu ti si ro us bt w2 al now on tl2 ll2) H) (hD : va_D (fun q : Nat => s.heap.size ≤ q) (tt PX CX N fb g fn ft fs fl w wi now on ts tl lf ll ++ mm PM CM N tx lx nu ti si ro us bt w2 al now on tl2 ll2)) (hS : va_S (fun q : Nat => s.heap.size ≤ q) s.heap H locs) (hl : lv_has ls 4 [(3, .int (nI (1 + 4 * cn))), (2, .ref (PM 0)), (1, .ref (PX 0)), (0, .ref b)]) : W p l e room_1 s m #[Value.ref b] below meth c H locs 600000 7302250 (lw_Z below #[Value.ref b] s) (F0 m 139 ls []) := by
  obtain ⟨hL, hx, hb, hr, hml, hown, hts, hX, hbl, hlocks, hKx, hKm⟩ := F
  obtain ⟨z1, z2, z3, z4, ⟨z5, z6, z7, hgw⟩, hfs, hfl, z8, z9, z10, z11, z12, z13, hro, hsi⟩ := jr_bd J
  obtain ⟨A, hAe⟩ : ∃ A : Nat → Prop, A = (fun q : Nat => s.heap.size ≤ q) := ⟨_, rfl⟩
  have hA : ∀ q : Nat, s.heap.size ≤ q → A q := fun q h => by rw [hAe]; exact h
  have hbA : ¬ A b := by rw [hAe]; exact Nat.not_le.mpr hbl
  rw [← hAe] at hD hS
  obtain ⟨r0, hfr⟩ : ∃ r0, w2 < N → r0 < 1024 ∧ us r0 = false ∧ ∀ j, j < r0 → us j = true := by
    obtain ⟨-, E, T, L, -, hm⟩ := J
    exact rm_free hm
  refine lv_aload_n hx hb d_law_139 rfl (lv_at hl 2 rfl) ?_
  refine lv_aload_n hx hb d_law_140 rfl (lv_at hl 3 rfl) ?_
  refine lv_iload_n hx hb d_law_141 rfl (lv_at hl 0 rfl) ?_
  refine lv_iconst (v := nI 1) hx hb d_law_142 (by decide) ?_
  refine lv_iadd hx hb d_law_143 ?_
  refine tp_i (nI (1 + 4 * cn + 1)) (nI_add _ _) ?_
  refine va_sld hx hb hX hbl hbA hS (vp_in_nI (n := 1 + 4 * cn + 1) (by omega) (by omega)) d_law_144 ?_
  refine tp_i (xs (1 + 4 * cn + 1)) (by rw [nI_clamp (by omega)]) ?_
  refine lv_aload_n hx hb d_law_145 rfl (lv_at hl 3 rfl) ?_
  refine lv_iload_n hx hb d_law_146 rfl (lv_at hl 0 rfl) ?_
  refine lv_iconst (v := nI 2) hx hb d_law_147 (by decide) ?_
  refine lv_iadd hx hb d_law_148 ?_
  refine tp_i (nI (1 + 4 * cn + 2)) (nI_add _ _) ?_
  refine va_sld hx hb hX hbl hbA hS (vp_in_nI (n := 1 + 4 * cn + 2) (by omega) (by omega)) d_law_149 ?_
  refine tp_i (xs (1 + 4 * cn + 2)) (by rw [nI_clamp (by omega)]) ?_
  refine tl_calli (c_insert l dC dI PX CX N H.size fb g fn ft fs fl w wi now on ts tl lf ll (xs (1 + 4 * cn + 1)) (xs (1 + 4 * cn + 2)) (by omega) (by omega) (by omega) hgw hfs (by omega)) ⟨hx, hb, hml, hown, hts⟩ (cwV 2 hts g_law_26 rfl rfl rfl (by decide +kernel) ⟨Nat.le_of_ble_eq_true rfl, Nat.le_of_ble_eq_true rfl⟩) hKx hP hD hS hA 0 rfl 0 rfl rfl hl.1 rfl (Nat.le_of_ble_eq_true rfl) d_law_150 ⟨Nat.le_refl _, Nat.le_refl _⟩ (fun r1 u H locs hwc hP hD hS => ?_)
  obtain ⟨g', fn', ft', fs', fl', w', wi', ts'⟩ := u
  obtain ⟨hr1, hwc⟩ := hwc
  have hP : va_P (dC, dI) classes (tt PX CX N fb g' fn' ft' fs' fl' w' wi' now on ts' 0 lf ll ++ mm PM CM N tx lx nu ti si ro us bt w2 al now on tl2 ll2) H := hP
  have hD : va_D A (tt PX CX N fb g' fn' ft' fs' fl' w' wi' now on ts' 0 lf ll ++ mm PM CM N tx lx nu ti si ro us bt w2 al now on tl2 ll2) := hD
  refine lv_aload_n hx hb d_law_153 rfl (lv_at hl 1 rfl) ?_
  refine lv_aload_n hx hb d_law_154 rfl (lv_at hl 3 rfl) ?_
  refine lv_iload_n hx hb d_law_155 rfl (lv_at hl 0 rfl) ?_
  refine lv_iconst (v := nI 1) hx hb d_law_156 (by decide) ?_
  refine lv_iadd hx hb d_law_157 ?_
  refine tp_i (nI (1 + 4 * cn + 1)) (nI_add _ _) ?_
  refine va_sld hx hb hX hbl hbA hS (vp_in_nI (n := 1 + 4 * cn + 1) (by omega) (by omega)) d_law_158 ?_
  refine tp_i (xs (1 + 4 * cn + 1)) (by rw [nI_clamp (by omega)]) ?_
  refine lv_aload_n hx hb d_law_159 rfl (lv_at hl 3 rfl) ?_
  refine lv_iload_n hx hb d_law_160 rfl (lv_at hl 0 rfl) ?_
  refine lv_iconst (v := nI 2) hx hb d_law_161 (by decide) ?_
  refine lv_iadd hx hb d_law_162 ?_
  refine tp_i (nI (1 + 4 * cn + 2)) (nI_add _ _) ?_
  refine va_sld hx hb hX hbl hbA hS (vp_in_nI (n := 1 + 4 * cn + 2) (by omega) (by omega)) d_law_163 ?_
  refine tp_i (xs (1 + 4 * cn + 2)) (by rw [nI_clamp (by omega)]) ?_
  have hP := fr_sw hP
  have hD := fr_swD hD
  refine tl_calli (mc_insert l dC dI PM CM N H.size tx lx nu ti si ro us bt w2 al now on tl2 ll2 (xs (1 + 4 * cn + 1)) (xs (1 + 4 * cn + 2)) r0 (by omega) (by omega) (by omega) hfr) ⟨hx, hb, hml, hown, hts⟩ (cwV 2 hts g_law_30 rfl rfl rfl (by decide +kernel) ⟨Nat.le_of_ble_eq_true rfl, Nat.le_of_ble_eq_true rfl⟩) hKm hP hD hS hA 1 rfl 0 rfl rfl hl.1 rfl (Nat.le_of_ble_eq_true rfl) d_law_164 ⟨Nat.le_refl _, Nat.le_refl _⟩ (fun r2 u H locs hwm hP hD hS => ?_)
  obtain ⟨nu', ti', si', ro', us', bt', w2', al'⟩ := u
  obtain ⟨hr2, hwm⟩ := hwm
  have hP : va_P (dC, dI) classes (mm PM CM N tx lx nu' ti' si' ro' us' bt' w2' al' now on 0 ll2 ++ tt PX CX N fb g' fn' ft' fs' fl' w' wi' now on ts' 0 lf ll) H := hP
  have hD : va_D A (mm PM CM N tx lx nu' ti' si' ro' us' bt' w2' al' now on 0 ll2 ++ tt PX CX N fb g' fn' ft' fs' fl' w' wi' now on ts' 0 lf ll) := hD
  have hP := fr_sw hP
  have hD := fr_swD hD
  obtain ⟨he, J⟩ := jr_insert J hc hfr hwc hwm
  have he : r1 = r2 := by rw [hr1, hr2, he]
  refine lv_icmp_eq (tgt := 493) hx hb d_law_167 (by decide) (fun c_167 => ?_) (fun c_167 => ?_)
  · rw [hAe] at hD hS
    refine lv_iinc (v := nI (1 + 4 * (cn + 1))) (lv' := [(3, .int (nI (1 + 4 * (cn + 1)))), (2, .ref (PM 0)), (1, .ref (PX 0)), (0, .ref b)]) hx hb d_law_493 hl (k := 0) rfl (nI_4 _) (by decide) rfl (fun ls hl => ?_)
    refine lv_goto (tgt := 28) hx hb d_law_496 (by decide) ?_
    exact ih _ _ _ _ _ _ _ _ _ _ _ _ _ _ _ _ _ _ _ _ _ _ _ _ _ _ _ _ _ J hP hD hS hl
  · exact absurd he c_167

set_option maxHeartbeats 4000000 in
set_option maxRecDepth 100000 in
/-- the law: remove -/
theorem law_remove {p : Program} {l : Launch} {e : Env} {s : State} {m : MethodId} {below : List Frame} {meth : Method} {c : Code} {dC : Nat → ClassId} {dI : Nat → Nat → Nat} {b L : Nat} {xs : Nat → Int32} {N : Nat} {PX PM : Nat → Nat} {CX CM : Nat → ClassId} (F : LF p s m meth c dC dI b L xs CX CM) {cn : Nat} (ih : LH p l e s m below meth c dC dI b N PX PM CX CM (cn + 1)) (hc : cn < 512) (hi : 1 + 4 * cn + 4 ≤ L) (fb : Nat → Int32) (g : Nat → Nat) (fn ft : Nat → Int32) (fs fl : Nat → Nat) (w wi now : Nat) (on : Bool) (ts tl lf ll : Nat) (tx lx nu ti : Nat → Int32) (si ro : Nat → Nat) (us : Nat → Bool) (bt : Nat → Int32) (w2 al tl2 ll2 : Nat) (H : Heap) (locs : List Loc) (ls : Array Slot) (J : JR cn N fb g fn ft fs fl w wi now ts tl lf ll tx lx bt (nu, ti, si, ro, us, w2) al tl2 ll2) (hP : va_P (dC, dI) classes (tt PX CX N fb g fn ft fs fl w wi now on ts tl lf ll ++ mm PM CM N tx lx nu ti si ro us bt w2 al now on tl2 ll2) H) (hD : va_D (fun q : Nat => s.heap.size ≤ q) (tt PX CX N fb g fn ft fs fl w wi now on ts tl lf ll ++ mm PM CM N tx lx nu ti si ro us bt w2 al now on tl2 ll2)) (hS : va_S (fun q : Nat => s.heap.size ≤ q) s.heap H locs) (hl : lv_has ls 4 [(3, .int (nI (1 + 4 * cn))), (2, .ref (PM 0)), (1, .ref (PX 0)), (0, .ref b)]) : W p l e room_1 s m #[Value.ref b] below meth c H locs 600000 7302250 (lw_Z below #[Value.ref b] s) (F0 m 172 ls []) := by
  obtain ⟨hL, hx, hb, hr, hml, hown, hts, hX, hbl, hlocks, hKx, hKm⟩ := F
  obtain ⟨z1, z2, z3, z4, ⟨z5, z6, z7, hgw⟩, hfs, hfl, z8, z9, z10, z11, z12, z13, hro, hsi⟩ := jr_bd J
  obtain ⟨A, hAe⟩ : ∃ A : Nat → Prop, A = (fun q : Nat => s.heap.size ≤ q) := ⟨_, rfl⟩
  have hA : ∀ q : Nat, s.heap.size ≤ q → A q := fun q h => by rw [hAe]; exact h
  have hbA : ¬ A b := by rw [hAe]; exact Nat.not_le.mpr hbl
  rw [← hAe] at hD hS
  refine lv_aload_n hx hb d_law_172 rfl (lv_at hl 2 rfl) ?_
  refine lv_aload_n hx hb d_law_173 rfl (lv_at hl 3 rfl) ?_
  refine lv_iload_n hx hb d_law_174 rfl (lv_at hl 0 rfl) ?_
  refine lv_iconst (v := nI 1) hx hb d_law_175 (by decide) ?_
  refine lv_iadd hx hb d_law_176 ?_
  refine tp_i (nI (1 + 4 * cn + 1)) (nI_add _ _) ?_
  refine va_sld hx hb hX hbl hbA hS (vp_in_nI (n := 1 + 4 * cn + 1) (by omega) (by omega)) d_law_177 ?_
  refine tp_i (xs (1 + 4 * cn + 1)) (by rw [nI_clamp (by omega)]) ?_
  refine tl_calli (c_remove l dC dI PX CX N H.size fb g fn ft fs fl w wi now on ts tl lf ll (xs (1 + 4 * cn + 1)) (by omega) (by omega) hgw) ⟨hx, hb, hml, hown, hts⟩ (cwV 1 hts g_law_31 rfl rfl rfl (by decide +kernel) ⟨Nat.le_of_ble_eq_true rfl, Nat.le_of_ble_eq_true rfl⟩) hKx hP hD hS hA 0 rfl 0 rfl rfl hl.1 rfl (Nat.le_of_ble_eq_true rfl) d_law_178 ⟨Nat.le_refl _, Nat.le_refl _⟩ (fun r1 u H locs hwc hP hD hS => ?_)
  have hP : va_P (dC, dI) classes (tt PX CX N fb ((rm_l (fun i => decide (¬ fn i = (xs (1 + 4 * cn + 1)))) w 0 0 g).2) fn ft fs fl ((rm_l (fun i => decide (¬ fn i = (xs (1 + 4 * cn + 1)))) w 0 0 g).1) wi now on ts tl lf ll ++ mm PM CM N tx lx nu ti si ro us bt w2 al now on tl2 ll2) H := hP
  have hD : va_D A (tt PX CX N fb ((rm_l (fun i => decide (¬ fn i = (xs (1 + 4 * cn + 1)))) w 0 0 g).2) fn ft fs fl ((rm_l (fun i => decide (¬ fn i = (xs (1 + 4 * cn + 1)))) w 0 0 g).1) wi now on ts tl lf ll ++ mm PM CM N tx lx nu ti si ro us bt w2 al now on tl2 ll2) := hD
  refine lv_aload_n hx hb d_law_181 rfl (lv_at hl 1 rfl) ?_
  refine lv_aload_n hx hb d_law_182 rfl (lv_at hl 3 rfl) ?_
  refine lv_iload_n hx hb d_law_183 rfl (lv_at hl 0 rfl) ?_
  refine lv_iconst (v := nI 1) hx hb d_law_184 (by decide) ?_
  refine lv_iadd hx hb d_law_185 ?_
  refine tp_i (nI (1 + 4 * cn + 1)) (nI_add _ _) ?_
  refine va_sld hx hb hX hbl hbA hS (vp_in_nI (n := 1 + 4 * cn + 1) (by omega) (by omega)) d_law_186 ?_
  refine tp_i (xs (1 + 4 * cn + 1)) (by rw [nI_clamp (by omega)]) ?_
  have hP := fr_sw hP
  have hD := fr_swD hD
  refine tl_calli (mc_remove l dC dI PM CM N H.size tx lx nu ti si ro us bt w2 al now on tl2 ll2 (xs (1 + 4 * cn + 1)) (by omega) hro) ⟨hx, hb, hml, hown, hts⟩ (cwV 1 hts g_law_34 rfl rfl rfl (by decide +kernel) ⟨Nat.le_of_ble_eq_true rfl, Nat.le_of_ble_eq_true rfl⟩) hKm hP hD hS hA 1 rfl 0 rfl rfl hl.1 rfl (Nat.le_of_ble_eq_true rfl) d_law_187 ⟨Nat.le_refl _, Nat.le_refl _⟩ (fun r2 u H locs hwm hP hD hS => ?_)
  obtain ⟨nu', ti', si', ro', us', w2'⟩ := u
  obtain ⟨hr2, hwm⟩ := hwm
  have hP : va_P (dC, dI) classes (mm PM CM N tx lx nu' ti' si' ro' us' bt w2' al now on tl2 ll2 ++ tt PX CX N fb ((rm_l (fun i => decide (¬ fn i = (xs (1 + 4 * cn + 1)))) w 0 0 g).2) fn ft fs fl ((rm_l (fun i => decide (¬ fn i = (xs (1 + 4 * cn + 1)))) w 0 0 g).1) wi now on ts tl lf ll) H := hP
  have hD : va_D A (mm PM CM N tx lx nu' ti' si' ro' us' bt w2' al now on tl2 ll2 ++ tt PX CX N fb ((rm_l (fun i => decide (¬ fn i = (xs (1 + 4 * cn + 1)))) w 0 0 g).2) fn ft fs fl ((rm_l (fun i => decide (¬ fn i = (xs (1 + 4 * cn + 1)))) w 0 0 g).1) wi now on ts tl lf ll) := hD
  have hP := fr_sw hP
  have hD := fr_swD hD
  obtain ⟨he, J⟩ := jr_rm J hc (fun a _ => decide (a = (xs (1 + 4 * cn + 1)))) (kp := fun i => decide (¬ fn i = (xs (1 + 4 * cn + 1)))) (fun i => by by_cases q : fn i = (xs (1 + 4 * cn + 1)) <;> simp [q]) hwm
  have he : r1 = r2 := by rw [hwc, hr2, he]
  refine lv_icmp_eq (tgt := 493) hx hb d_law_190 (by decide) (fun c_190 => ?_) (fun c_190 => ?_)
  · rw [hAe] at hD hS
    refine lv_iinc (v := nI (1 + 4 * (cn + 1))) (lv' := [(3, .int (nI (1 + 4 * (cn + 1)))), (2, .ref (PM 0)), (1, .ref (PX 0)), (0, .ref b)]) hx hb d_law_493 hl (k := 0) rfl (nI_4 _) (by decide) rfl (fun ls hl => ?_)
    refine lv_goto (tgt := 28) hx hb d_law_496 (by decide) ?_
    exact ih _ _ _ _ _ _ _ _ _ _ _ _ _ _ _ _ _ _ _ _ _ _ _ _ _ _ _ _ _ J hP hD hS hl
  · exact absurd he c_190

set_option maxHeartbeats 4000000 in
set_option maxRecDepth 100000 in
/-- the law: removeSpan -/
theorem law_removeSpan {p : Program} {l : Launch} {e : Env} {s : State} {m : MethodId} {below : List Frame} {meth : Method} {c : Code} {dC : Nat → ClassId} {dI : Nat → Nat → Nat} {b L : Nat} {xs : Nat → Int32} {N : Nat} {PX PM : Nat → Nat} {CX CM : Nat → ClassId} (F : LF p s m meth c dC dI b L xs CX CM) {cn : Nat} (ih : LH p l e s m below meth c dC dI b N PX PM CX CM (cn + 1)) (hc : cn < 512) (hi : 1 + 4 * cn + 4 ≤ L) (fb : Nat → Int32) (g : Nat → Nat) (fn ft : Nat → Int32) (fs fl : Nat → Nat) (w wi now : Nat) (on : Bool) (ts tl lf ll : Nat) (tx lx nu ti : Nat → Int32) (si ro : Nat → Nat) (us : Nat → Bool) (bt : Nat → Int32) (w2 al tl2 ll2 : Nat) (H : Heap) (locs : List Loc) (ls : Array Slot) (J : JR cn N fb g fn ft fs fl w wi now ts tl lf ll tx lx bt (nu, ti, si, ro, us, w2) al tl2 ll2) (hP : va_P (dC, dI) classes (tt PX CX N fb g fn ft fs fl w wi now on ts tl lf ll ++ mm PM CM N tx lx nu ti si ro us bt w2 al now on tl2 ll2) H) (hD : va_D (fun q : Nat => s.heap.size ≤ q) (tt PX CX N fb g fn ft fs fl w wi now on ts tl lf ll ++ mm PM CM N tx lx nu ti si ro us bt w2 al now on tl2 ll2)) (hS : va_S (fun q : Nat => s.heap.size ≤ q) s.heap H locs) (hl : lv_has ls 4 [(3, .int (nI (1 + 4 * cn))), (2, .ref (PM 0)), (1, .ref (PX 0)), (0, .ref b)]) : W p l e room_1 s m #[Value.ref b] below meth c H locs 600000 7302250 (lw_Z below #[Value.ref b] s) (F0 m 195 ls []) := by
  obtain ⟨hL, hx, hb, hr, hml, hown, hts, hX, hbl, hlocks, hKx, hKm⟩ := F
  obtain ⟨z1, z2, z3, z4, ⟨z5, z6, z7, hgw⟩, hfs, hfl, z8, z9, z10, z11, z12, z13, hro, hsi⟩ := jr_bd J
  obtain ⟨A, hAe⟩ : ∃ A : Nat → Prop, A = (fun q : Nat => s.heap.size ≤ q) := ⟨_, rfl⟩
  have hA : ∀ q : Nat, s.heap.size ≤ q → A q := fun q h => by rw [hAe]; exact h
  have hbA : ¬ A b := by rw [hAe]; exact Nat.not_le.mpr hbl
  rw [← hAe] at hD hS
  refine lv_aload_n hx hb d_law_195 rfl (lv_at hl 2 rfl) ?_
  refine lv_aload_n hx hb d_law_196 rfl (lv_at hl 3 rfl) ?_
  refine lv_iload_n hx hb d_law_197 rfl (lv_at hl 0 rfl) ?_
  refine lv_iconst (v := nI 1) hx hb d_law_198 (by decide) ?_
  refine lv_iadd hx hb d_law_199 ?_
  refine tp_i (nI (1 + 4 * cn + 1)) (nI_add _ _) ?_
  refine va_sld hx hb hX hbl hbA hS (vp_in_nI (n := 1 + 4 * cn + 1) (by omega) (by omega)) d_law_200 ?_
  refine tp_i (xs (1 + 4 * cn + 1)) (by rw [nI_clamp (by omega)]) ?_
  refine lv_aload_n hx hb d_law_201 rfl (lv_at hl 3 rfl) ?_
  refine lv_iload_n hx hb d_law_202 rfl (lv_at hl 0 rfl) ?_
  refine lv_iconst (v := nI 2) hx hb d_law_203 (by decide) ?_
  refine lv_iadd hx hb d_law_204 ?_
  refine tp_i (nI (1 + 4 * cn + 2)) (nI_add _ _) ?_
  refine va_sld hx hb hX hbl hbA hS (vp_in_nI (n := 1 + 4 * cn + 2) (by omega) (by omega)) d_law_205 ?_
  refine tp_i (xs (1 + 4 * cn + 2)) (by rw [nI_clamp (by omega)]) ?_
  refine tl_calli (c_removeSpan l dC dI PX CX N H.size fb g fn ft fs fl w wi now on ts tl lf ll (xs (1 + 4 * cn + 1)) (xs (1 + 4 * cn + 2)) (by omega) (by omega) hgw) ⟨hx, hb, hml, hown, hts⟩ (cwV 2 hts g_law_35 rfl rfl rfl (by decide +kernel) ⟨Nat.le_of_ble_eq_true rfl, Nat.le_of_ble_eq_true rfl⟩) hKx hP hD hS hA 0 rfl 0 rfl rfl hl.1 rfl (Nat.le_of_ble_eq_true rfl) d_law_206 ⟨Nat.le_refl _, Nat.le_refl _⟩ (fun r1 u H locs hwc hP hD hS => ?_)
  have hP : va_P (dC, dI) classes (tt PX CX N fb ((rm_l (fun i => !(in_S ft (xs (1 + 4 * cn + 1)) (xs (1 + 4 * cn + 2)) i)) w 0 0 g).2) fn ft fs fl ((rm_l (fun i => !(in_S ft (xs (1 + 4 * cn + 1)) (xs (1 + 4 * cn + 2)) i)) w 0 0 g).1) wi now on ts tl lf ll ++ mm PM CM N tx lx nu ti si ro us bt w2 al now on tl2 ll2) H := hP
  have hD : va_D A (tt PX CX N fb ((rm_l (fun i => !(in_S ft (xs (1 + 4 * cn + 1)) (xs (1 + 4 * cn + 2)) i)) w 0 0 g).2) fn ft fs fl ((rm_l (fun i => !(in_S ft (xs (1 + 4 * cn + 1)) (xs (1 + 4 * cn + 2)) i)) w 0 0 g).1) wi now on ts tl lf ll ++ mm PM CM N tx lx nu ti si ro us bt w2 al now on tl2 ll2) := hD
  refine lv_aload_n hx hb d_law_209 rfl (lv_at hl 1 rfl) ?_
  refine lv_aload_n hx hb d_law_210 rfl (lv_at hl 3 rfl) ?_
  refine lv_iload_n hx hb d_law_211 rfl (lv_at hl 0 rfl) ?_
  refine lv_iconst (v := nI 1) hx hb d_law_212 (by decide) ?_
  refine lv_iadd hx hb d_law_213 ?_
  refine tp_i (nI (1 + 4 * cn + 1)) (nI_add _ _) ?_
  refine va_sld hx hb hX hbl hbA hS (vp_in_nI (n := 1 + 4 * cn + 1) (by omega) (by omega)) d_law_214 ?_
  refine tp_i (xs (1 + 4 * cn + 1)) (by rw [nI_clamp (by omega)]) ?_
  refine lv_aload_n hx hb d_law_215 rfl (lv_at hl 3 rfl) ?_
  refine lv_iload_n hx hb d_law_216 rfl (lv_at hl 0 rfl) ?_
  refine lv_iconst (v := nI 2) hx hb d_law_217 (by decide) ?_
  refine lv_iadd hx hb d_law_218 ?_
  refine tp_i (nI (1 + 4 * cn + 2)) (nI_add _ _) ?_
  refine va_sld hx hb hX hbl hbA hS (vp_in_nI (n := 1 + 4 * cn + 2) (by omega) (by omega)) d_law_219 ?_
  refine tp_i (xs (1 + 4 * cn + 2)) (by rw [nI_clamp (by omega)]) ?_
  have hP := fr_sw hP
  have hD := fr_swD hD
  refine tl_calli (mc_removeSpan l dC dI PM CM N H.size tx lx nu ti si ro us bt w2 al now on tl2 ll2 (xs (1 + 4 * cn + 1)) (xs (1 + 4 * cn + 2)) (by omega) hro) ⟨hx, hb, hml, hown, hts⟩ (cwV 2 hts g_law_38 rfl rfl rfl (by decide +kernel) ⟨Nat.le_of_ble_eq_true rfl, Nat.le_of_ble_eq_true rfl⟩) hKm hP hD hS hA 1 rfl 0 rfl rfl hl.1 rfl (Nat.le_of_ble_eq_true rfl) d_law_220 ⟨Nat.le_refl _, Nat.le_refl _⟩ (fun r2 u H locs hwm hP hD hS => ?_)
  obtain ⟨nu', ti', si', ro', us', w2'⟩ := u
  obtain ⟨hr2, hwm⟩ := hwm
  have hP : va_P (dC, dI) classes (mm PM CM N tx lx nu' ti' si' ro' us' bt w2' al now on tl2 ll2 ++ tt PX CX N fb ((rm_l (fun i => !(in_S ft (xs (1 + 4 * cn + 1)) (xs (1 + 4 * cn + 2)) i)) w 0 0 g).2) fn ft fs fl ((rm_l (fun i => !(in_S ft (xs (1 + 4 * cn + 1)) (xs (1 + 4 * cn + 2)) i)) w 0 0 g).1) wi now on ts tl lf ll) H := hP
  have hD : va_D A (mm PM CM N tx lx nu' ti' si' ro' us' bt w2' al now on tl2 ll2 ++ tt PX CX N fb ((rm_l (fun i => !(in_S ft (xs (1 + 4 * cn + 1)) (xs (1 + 4 * cn + 2)) i)) w 0 0 g).2) fn ft fs fl ((rm_l (fun i => !(in_S ft (xs (1 + 4 * cn + 1)) (xs (1 + 4 * cn + 2)) i)) w 0 0 g).1) wi now on ts tl lf ll) := hD
  have hP := fr_sw hP
  have hD := fr_swD hD
  obtain ⟨he, J⟩ := jr_rm J hc (fun _ b => decide ((xs (1 + 4 * cn + 1)) ≤ b) && decide (b ≤ (xs (1 + 4 * cn + 2)))) (kp := fun i => !(in_S ft (xs (1 + 4 * cn + 1)) (xs (1 + 4 * cn + 2)) i)) (fun i => rfl) hwm
  have he : r1 = r2 := by rw [hwc, hr2, he]
  refine lv_icmp_eq (tgt := 493) hx hb d_law_223 (by decide) (fun c_223 => ?_) (fun c_223 => ?_)
  · rw [hAe] at hD hS
    refine lv_iinc (v := nI (1 + 4 * (cn + 1))) (lv' := [(3, .int (nI (1 + 4 * (cn + 1)))), (2, .ref (PM 0)), (1, .ref (PX 0)), (0, .ref b)]) hx hb d_law_493 hl (k := 0) rfl (nI_4 _) (by decide) rfl (fun ls hl => ?_)
    refine lv_goto (tgt := 28) hx hb d_law_496 (by decide) ?_
    exact ih _ _ _ _ _ _ _ _ _ _ _ _ _ _ _ _ _ _ _ _ _ _ _ _ _ _ _ _ _ J hP hD hS hl
  · exact absurd he c_223

set_option maxHeartbeats 4000000 in
set_option maxRecDepth 100000 in
/-- the law: shift -/
theorem law_shift {p : Program} {l : Launch} {e : Env} {s : State} {m : MethodId} {below : List Frame} {meth : Method} {c : Code} {dC : Nat → ClassId} {dI : Nat → Nat → Nat} {b L : Nat} {xs : Nat → Int32} {N : Nat} {PX PM : Nat → Nat} {CX CM : Nat → ClassId} (F : LF p s m meth c dC dI b L xs CX CM) {cn : Nat} (ih : LH p l e s m below meth c dC dI b N PX PM CX CM (cn + 1)) (hc : cn < 512) (hi : 1 + 4 * cn + 4 ≤ L) (fb : Nat → Int32) (g : Nat → Nat) (fn ft : Nat → Int32) (fs fl : Nat → Nat) (w wi now : Nat) (on : Bool) (ts tl lf ll : Nat) (tx lx nu ti : Nat → Int32) (si ro : Nat → Nat) (us : Nat → Bool) (bt : Nat → Int32) (w2 al tl2 ll2 : Nat) (H : Heap) (locs : List Loc) (ls : Array Slot) (J : JR cn N fb g fn ft fs fl w wi now ts tl lf ll tx lx bt (nu, ti, si, ro, us, w2) al tl2 ll2) (hP : va_P (dC, dI) classes (tt PX CX N fb g fn ft fs fl w wi now on ts tl lf ll ++ mm PM CM N tx lx nu ti si ro us bt w2 al now on tl2 ll2) H) (hD : va_D (fun q : Nat => s.heap.size ≤ q) (tt PX CX N fb g fn ft fs fl w wi now on ts tl lf ll ++ mm PM CM N tx lx nu ti si ro us bt w2 al now on tl2 ll2)) (hS : va_S (fun q : Nat => s.heap.size ≤ q) s.heap H locs) (hl : lv_has ls 4 [(3, .int (nI (1 + 4 * cn))), (2, .ref (PM 0)), (1, .ref (PX 0)), (0, .ref b)]) : W p l e room_1 s m #[Value.ref b] below meth c H locs 600000 7302250 (lw_Z below #[Value.ref b] s) (F0 m 228 ls []) := by
  obtain ⟨hL, hx, hb, hr, hml, hown, hts, hX, hbl, hlocks, hKx, hKm⟩ := F
  obtain ⟨z1, z2, z3, z4, ⟨z5, z6, z7, hgw⟩, hfs, hfl, z8, z9, z10, z11, z12, z13, hro, hsi⟩ := jr_bd J
  obtain ⟨A, hAe⟩ : ∃ A : Nat → Prop, A = (fun q : Nat => s.heap.size ≤ q) := ⟨_, rfl⟩
  have hA : ∀ q : Nat, s.heap.size ≤ q → A q := fun q h => by rw [hAe]; exact h
  have hbA : ¬ A b := by rw [hAe]; exact Nat.not_le.mpr hbl
  rw [← hAe] at hD hS
  refine lv_aload_n hx hb d_law_228 rfl (lv_at hl 2 rfl) ?_
  refine lv_aload_n hx hb d_law_229 rfl (lv_at hl 3 rfl) ?_
  refine lv_iload_n hx hb d_law_230 rfl (lv_at hl 0 rfl) ?_
  refine lv_iconst (v := nI 1) hx hb d_law_231 (by decide) ?_
  refine lv_iadd hx hb d_law_232 ?_
  refine tp_i (nI (1 + 4 * cn + 1)) (nI_add _ _) ?_
  refine va_sld hx hb hX hbl hbA hS (vp_in_nI (n := 1 + 4 * cn + 1) (by omega) (by omega)) d_law_233 ?_
  refine tp_i (xs (1 + 4 * cn + 1)) (by rw [nI_clamp (by omega)]) ?_
  refine tl_calli (c_shift l dC dI PX CX N H.size fb g fn ft fs fl w wi now on ts tl lf ll (xs (1 + 4 * cn + 1)) (by omega) (by omega) hgw hfs) ⟨hx, hb, hml, hown, hts⟩ (cwV 1 hts g_law_39 rfl rfl rfl (by decide +kernel) ⟨Nat.le_of_ble_eq_true rfl, Nat.le_of_ble_eq_true rfl⟩) hKx hP hD hS hA 0 rfl 0 rfl rfl hl.1 rfl (Nat.le_of_ble_eq_true rfl) d_law_234 ⟨Nat.le_refl _, Nat.le_refl _⟩ (fun r1 u H locs hwc hP hD hS => ?_)
  have hP : va_P (dC, dI) classes (tt PX CX N fb (mv_F (mv_c (in_S ft (nI 0) (nI 2147483647)) (cm_F ft now (xs (1 + 4 * cn + 1))) w 0 g 0) g (mv_s (be_F (mv_t (nI 0) (nI 2147483647) (xs (1 + 4 * cn + 1)) w 0 g ft) fs) (w - 1) 1 g)) fn (mv_F (mv_c (in_S ft (nI 0) (nI 2147483647)) (cm_F ft now (xs (1 + 4 * cn + 1))) w 0 g 0) ft (mv_t (nI 0) (nI 2147483647) (xs (1 + 4 * cn + 1)) w 0 g ft)) fs fl w wi now on ts tl lf ll ++ mm PM CM N tx lx nu ti si ro us bt w2 al now on tl2 ll2) H := hP
  have hD : va_D A (tt PX CX N fb (mv_F (mv_c (in_S ft (nI 0) (nI 2147483647)) (cm_F ft now (xs (1 + 4 * cn + 1))) w 0 g 0) g (mv_s (be_F (mv_t (nI 0) (nI 2147483647) (xs (1 + 4 * cn + 1)) w 0 g ft) fs) (w - 1) 1 g)) fn (mv_F (mv_c (in_S ft (nI 0) (nI 2147483647)) (cm_F ft now (xs (1 + 4 * cn + 1))) w 0 g 0) ft (mv_t (nI 0) (nI 2147483647) (xs (1 + 4 * cn + 1)) w 0 g ft)) fs fl w wi now on ts tl lf ll ++ mm PM CM N tx lx nu ti si ro us bt w2 al now on tl2 ll2) := hD
  refine lv_aload_n hx hb d_law_237 rfl (lv_at hl 1 rfl) ?_
  refine lv_aload_n hx hb d_law_238 rfl (lv_at hl 3 rfl) ?_
  refine lv_iload_n hx hb d_law_239 rfl (lv_at hl 0 rfl) ?_
  refine lv_iconst (v := nI 1) hx hb d_law_240 (by decide) ?_
  refine lv_iadd hx hb d_law_241 ?_
  refine tp_i (nI (1 + 4 * cn + 1)) (nI_add _ _) ?_
  refine va_sld hx hb hX hbl hbA hS (vp_in_nI (n := 1 + 4 * cn + 1) (by omega) (by omega)) d_law_242 ?_
  refine tp_i (xs (1 + 4 * cn + 1)) (by rw [nI_clamp (by omega)]) ?_
  have hP := fr_sw hP
  have hD := fr_swD hD
  refine tl_calli (mc_shift l dC dI PM CM N H.size tx lx nu ti si ro us bt w2 al now on tl2 ll2 (xs (1 + 4 * cn + 1)) (by omega)) ⟨hx, hb, hml, hown, hts⟩ (cwV 1 hts g_law_42 rfl rfl rfl (by decide +kernel) ⟨Nat.le_of_ble_eq_true rfl, Nat.le_of_ble_eq_true rfl⟩) hKm hP hD hS hA 1 rfl 0 rfl rfl hl.1 rfl (Nat.le_of_ble_eq_true rfl) d_law_243 ⟨Nat.le_refl _, Nat.le_refl _⟩ (fun r2 u H locs hwm hP hD hS => ?_)
  have hP : va_P (dC, dI) classes (mm PM CM N tx lx nu (mv_F (mv_c (in_S ti (-2147483648) (nI 2147483647)) (cm_F ti now (xs (1 + 4 * cn + 1))) w2 0 (fun j => j) 0) ti (mv_t (-2147483648) (nI 2147483647) (xs (1 + 4 * cn + 1)) w2 0 (fun j => j) ti)) si ro us bt w2 al now on tl2 ll2 ++ tt PX CX N fb (mv_F (mv_c (in_S ft (nI 0) (nI 2147483647)) (cm_F ft now (xs (1 + 4 * cn + 1))) w 0 g 0) g (mv_s (be_F (mv_t (nI 0) (nI 2147483647) (xs (1 + 4 * cn + 1)) w 0 g ft) fs) (w - 1) 1 g)) fn (mv_F (mv_c (in_S ft (nI 0) (nI 2147483647)) (cm_F ft now (xs (1 + 4 * cn + 1))) w 0 g 0) ft (mv_t (nI 0) (nI 2147483647) (xs (1 + 4 * cn + 1)) w 0 g ft)) fs fl w wi now on ts tl lf ll) H := hP
  have hD : va_D A (mm PM CM N tx lx nu (mv_F (mv_c (in_S ti (-2147483648) (nI 2147483647)) (cm_F ti now (xs (1 + 4 * cn + 1))) w2 0 (fun j => j) 0) ti (mv_t (-2147483648) (nI 2147483647) (xs (1 + 4 * cn + 1)) w2 0 (fun j => j) ti)) si ro us bt w2 al now on tl2 ll2 ++ tt PX CX N fb (mv_F (mv_c (in_S ft (nI 0) (nI 2147483647)) (cm_F ft now (xs (1 + 4 * cn + 1))) w 0 g 0) g (mv_s (be_F (mv_t (nI 0) (nI 2147483647) (xs (1 + 4 * cn + 1)) w 0 g ft) fs) (w - 1) 1 g)) fn (mv_F (mv_c (in_S ft (nI 0) (nI 2147483647)) (cm_F ft now (xs (1 + 4 * cn + 1))) w 0 g 0) ft (mv_t (nI 0) (nI 2147483647) (xs (1 + 4 * cn + 1)) w 0 g ft)) fs fl w wi now on ts tl lf ll) := hD
  have hP := fr_sw hP
  have hD := fr_swD hD
  obtain ⟨he, J⟩ := jr_mv J hc (f := nI 0) (t := nI 2147483647) (f2 := (-2147483648)) (t2 := nI 2147483647) (b := (xs (1 + 4 * cn + 1))) sp_all
  have he : r1 = r2 := by rw [hwc, hwm, he]
  refine lv_icmp_eq (tgt := 493) hx hb d_law_246 (by decide) (fun c_246 => ?_) (fun c_246 => ?_)
  · rw [hAe] at hD hS
    refine lv_iinc (v := nI (1 + 4 * (cn + 1))) (lv' := [(3, .int (nI (1 + 4 * (cn + 1)))), (2, .ref (PM 0)), (1, .ref (PX 0)), (0, .ref b)]) hx hb d_law_493 hl (k := 0) rfl (nI_4 _) (by decide) rfl (fun ls hl => ?_)
    refine lv_goto (tgt := 28) hx hb d_law_496 (by decide) ?_
    exact ih _ _ _ _ _ _ _ _ _ _ _ _ _ _ _ _ _ _ _ _ _ _ _ _ _ _ _ _ _ J hP hD hS hl
  · exact absurd he c_246
end
section
set_option maxHeartbeats 4000000 in
set_option maxRecDepth 100000 in
/-- the law: shiftSpan -/
theorem law_shiftSpan {p : Program} {l : Launch} {e : Env} {s : State} {m : MethodId} {below : List Frame} {meth : Method} {c : Code} {dC : Nat → ClassId} {dI : Nat → Nat → Nat} {b L : Nat} {xs : Nat → Int32} {N : Nat} {PX PM : Nat → Nat} {CX CM : Nat → ClassId} (F : LF p s m meth c dC dI b L xs CX CM) {cn : Nat} (ih : LH p l e s m below meth c dC dI b N PX PM CX CM (cn + 1)) (hc : cn < 512) (hi : 1 + 4 * cn + 4 ≤ L) (fb : Nat → Int32) (g : Nat → Nat) (fn ft : Nat → Int32) (fs fl : Nat → Nat) (w wi now : Nat) (on : Bool) (ts tl lf ll : Nat) (tx lx nu ti : Nat → Int32) (si ro : Nat → Nat) (us : Nat → Bool) (bt : Nat → Int32) (w2 al tl2 ll2 : Nat) (H : Heap) (locs : List Loc) (ls : Array Slot) (J : JR cn N fb g fn ft fs fl w wi now ts tl lf ll tx lx bt (nu, ti, si, ro, us, w2) al tl2 ll2) (hP : va_P (dC, dI) classes (tt PX CX N fb g fn ft fs fl w wi now on ts tl lf ll ++ mm PM CM N tx lx nu ti si ro us bt w2 al now on tl2 ll2) H) (hD : va_D (fun q : Nat => s.heap.size ≤ q) (tt PX CX N fb g fn ft fs fl w wi now on ts tl lf ll ++ mm PM CM N tx lx nu ti si ro us bt w2 al now on tl2 ll2)) (hS : va_S (fun q : Nat => s.heap.size ≤ q) s.heap H locs) (hl : lv_has ls 4 [(3, .int (nI (1 + 4 * cn))), (2, .ref (PM 0)), (1, .ref (PX 0)), (0, .ref b)]) : W p l e room_1 s m #[Value.ref b] below meth c H locs 600000 7302250 (lw_Z below #[Value.ref b] s) (F0 m 251 ls []) := by
  obtain ⟨hL, hx, hb, hr, hml, hown, hts, hX, hbl, hlocks, hKx, hKm⟩ := F
  obtain ⟨z1, z2, z3, z4, ⟨z5, z6, z7, hgw⟩, hfs, hfl, z8, z9, z10, z11, z12, z13, hro, hsi⟩ := jr_bd J
  obtain ⟨A, hAe⟩ : ∃ A : Nat → Prop, A = (fun q : Nat => s.heap.size ≤ q) := ⟨_, rfl⟩
  have hA : ∀ q : Nat, s.heap.size ≤ q → A q := fun q h => by rw [hAe]; exact h
  have hbA : ¬ A b := by rw [hAe]; exact Nat.not_le.mpr hbl
  rw [← hAe] at hD hS
  refine lv_aload_n hx hb d_law_251 rfl (lv_at hl 2 rfl) ?_
  refine lv_aload_n hx hb d_law_252 rfl (lv_at hl 3 rfl) ?_
  refine lv_iload_n hx hb d_law_253 rfl (lv_at hl 0 rfl) ?_
  refine lv_iconst (v := nI 1) hx hb d_law_254 (by decide) ?_
  refine lv_iadd hx hb d_law_255 ?_
  refine tp_i (nI (1 + 4 * cn + 1)) (nI_add _ _) ?_
  refine va_sld hx hb hX hbl hbA hS (vp_in_nI (n := 1 + 4 * cn + 1) (by omega) (by omega)) d_law_256 ?_
  refine tp_i (xs (1 + 4 * cn + 1)) (by rw [nI_clamp (by omega)]) ?_
  refine lv_aload_n hx hb d_law_257 rfl (lv_at hl 3 rfl) ?_
  refine lv_iload_n hx hb d_law_258 rfl (lv_at hl 0 rfl) ?_
  refine lv_iconst (v := nI 2) hx hb d_law_259 (by decide) ?_
  refine lv_iadd hx hb d_law_260 ?_
  refine tp_i (nI (1 + 4 * cn + 2)) (nI_add _ _) ?_
  refine va_sld hx hb hX hbl hbA hS (vp_in_nI (n := 1 + 4 * cn + 2) (by omega) (by omega)) d_law_261 ?_
  refine tp_i (xs (1 + 4 * cn + 2)) (by rw [nI_clamp (by omega)]) ?_
  refine lv_aload_n hx hb d_law_262 rfl (lv_at hl 3 rfl) ?_
  refine lv_iload_n hx hb d_law_263 rfl (lv_at hl 0 rfl) ?_
  refine lv_iconst (v := nI 3) hx hb d_law_264 (by decide) ?_
  refine lv_iadd hx hb d_law_265 ?_
  refine tp_i (nI (1 + 4 * cn + 3)) (nI_add _ _) ?_
  refine va_sld hx hb hX hbl hbA hS (vp_in_nI (n := 1 + 4 * cn + 3) (by omega) (by omega)) d_law_266 ?_
  refine tp_i (xs (1 + 4 * cn + 3)) (by rw [nI_clamp (by omega)]) ?_
  refine tl_calli (c_shiftSpan l dC dI PX CX N H.size fb g fn ft fs fl w wi now on ts tl lf ll (xs (1 + 4 * cn + 1)) (xs (1 + 4 * cn + 2)) (xs (1 + 4 * cn + 3)) (by omega) (by omega) hgw hfs) ⟨hx, hb, hml, hown, hts⟩ (cwV 3 hts g_law_43 rfl rfl rfl (by decide +kernel) ⟨Nat.le_of_ble_eq_true rfl, Nat.le_of_ble_eq_true rfl⟩) hKx hP hD hS hA 0 rfl 0 rfl rfl hl.1 rfl (Nat.le_of_ble_eq_true rfl) d_law_267 ⟨Nat.le_refl _, Nat.le_refl _⟩ (fun r1 u H locs hwc hP hD hS => ?_)
  have hP : va_P (dC, dI) classes (tt PX CX N fb (mv_F (mv_c (in_S ft (xs (1 + 4 * cn + 1)) (xs (1 + 4 * cn + 2))) (cm_F ft now (xs (1 + 4 * cn + 3))) w 0 g 0) g (mv_s (be_F (mv_t (xs (1 + 4 * cn + 1)) (xs (1 + 4 * cn + 2)) (xs (1 + 4 * cn + 3)) w 0 g ft) fs) (w - 1) 1 g)) fn (mv_F (mv_c (in_S ft (xs (1 + 4 * cn + 1)) (xs (1 + 4 * cn + 2))) (cm_F ft now (xs (1 + 4 * cn + 3))) w 0 g 0) ft (mv_t (xs (1 + 4 * cn + 1)) (xs (1 + 4 * cn + 2)) (xs (1 + 4 * cn + 3)) w 0 g ft)) fs fl w wi now on ts tl lf ll ++ mm PM CM N tx lx nu ti si ro us bt w2 al now on tl2 ll2) H := hP
  have hD : va_D A (tt PX CX N fb (mv_F (mv_c (in_S ft (xs (1 + 4 * cn + 1)) (xs (1 + 4 * cn + 2))) (cm_F ft now (xs (1 + 4 * cn + 3))) w 0 g 0) g (mv_s (be_F (mv_t (xs (1 + 4 * cn + 1)) (xs (1 + 4 * cn + 2)) (xs (1 + 4 * cn + 3)) w 0 g ft) fs) (w - 1) 1 g)) fn (mv_F (mv_c (in_S ft (xs (1 + 4 * cn + 1)) (xs (1 + 4 * cn + 2))) (cm_F ft now (xs (1 + 4 * cn + 3))) w 0 g 0) ft (mv_t (xs (1 + 4 * cn + 1)) (xs (1 + 4 * cn + 2)) (xs (1 + 4 * cn + 3)) w 0 g ft)) fs fl w wi now on ts tl lf ll ++ mm PM CM N tx lx nu ti si ro us bt w2 al now on tl2 ll2) := hD
  refine lv_aload_n hx hb d_law_270 rfl (lv_at hl 1 rfl) ?_
  refine lv_aload_n hx hb d_law_271 rfl (lv_at hl 3 rfl) ?_
  refine lv_iload_n hx hb d_law_272 rfl (lv_at hl 0 rfl) ?_
  refine lv_iconst (v := nI 1) hx hb d_law_273 (by decide) ?_
  refine lv_iadd hx hb d_law_274 ?_
  refine tp_i (nI (1 + 4 * cn + 1)) (nI_add _ _) ?_
  refine va_sld hx hb hX hbl hbA hS (vp_in_nI (n := 1 + 4 * cn + 1) (by omega) (by omega)) d_law_275 ?_
  refine tp_i (xs (1 + 4 * cn + 1)) (by rw [nI_clamp (by omega)]) ?_
  refine lv_aload_n hx hb d_law_276 rfl (lv_at hl 3 rfl) ?_
  refine lv_iload_n hx hb d_law_277 rfl (lv_at hl 0 rfl) ?_
  refine lv_iconst (v := nI 2) hx hb d_law_278 (by decide) ?_
  refine lv_iadd hx hb d_law_279 ?_
  refine tp_i (nI (1 + 4 * cn + 2)) (nI_add _ _) ?_
  refine va_sld hx hb hX hbl hbA hS (vp_in_nI (n := 1 + 4 * cn + 2) (by omega) (by omega)) d_law_280 ?_
  refine tp_i (xs (1 + 4 * cn + 2)) (by rw [nI_clamp (by omega)]) ?_
  refine lv_aload_n hx hb d_law_281 rfl (lv_at hl 3 rfl) ?_
  refine lv_iload_n hx hb d_law_282 rfl (lv_at hl 0 rfl) ?_
  refine lv_iconst (v := nI 3) hx hb d_law_283 (by decide) ?_
  refine lv_iadd hx hb d_law_284 ?_
  refine tp_i (nI (1 + 4 * cn + 3)) (nI_add _ _) ?_
  refine va_sld hx hb hX hbl hbA hS (vp_in_nI (n := 1 + 4 * cn + 3) (by omega) (by omega)) d_law_285 ?_
  refine tp_i (xs (1 + 4 * cn + 3)) (by rw [nI_clamp (by omega)]) ?_
  have hP := fr_sw hP
  have hD := fr_swD hD
  refine tl_calli (mc_shiftSpan l dC dI PM CM N H.size tx lx nu ti si ro us bt w2 al now on tl2 ll2 (xs (1 + 4 * cn + 1)) (xs (1 + 4 * cn + 2)) (xs (1 + 4 * cn + 3)) (by omega)) ⟨hx, hb, hml, hown, hts⟩ (cwV 3 hts g_law_47 rfl rfl rfl (by decide +kernel) ⟨Nat.le_of_ble_eq_true rfl, Nat.le_of_ble_eq_true rfl⟩) hKm hP hD hS hA 1 rfl 0 rfl rfl hl.1 rfl (Nat.le_of_ble_eq_true rfl) d_law_286 ⟨Nat.le_refl _, Nat.le_refl _⟩ (fun r2 u H locs hwm hP hD hS => ?_)
  have hP : va_P (dC, dI) classes (mm PM CM N tx lx nu (mv_F (mv_c (in_S ti (xs (1 + 4 * cn + 1)) (xs (1 + 4 * cn + 2))) (cm_F ti now (xs (1 + 4 * cn + 3))) w2 0 (fun j => j) 0) ti (mv_t (xs (1 + 4 * cn + 1)) (xs (1 + 4 * cn + 2)) (xs (1 + 4 * cn + 3)) w2 0 (fun j => j) ti)) si ro us bt w2 al now on tl2 ll2 ++ tt PX CX N fb (mv_F (mv_c (in_S ft (xs (1 + 4 * cn + 1)) (xs (1 + 4 * cn + 2))) (cm_F ft now (xs (1 + 4 * cn + 3))) w 0 g 0) g (mv_s (be_F (mv_t (xs (1 + 4 * cn + 1)) (xs (1 + 4 * cn + 2)) (xs (1 + 4 * cn + 3)) w 0 g ft) fs) (w - 1) 1 g)) fn (mv_F (mv_c (in_S ft (xs (1 + 4 * cn + 1)) (xs (1 + 4 * cn + 2))) (cm_F ft now (xs (1 + 4 * cn + 3))) w 0 g 0) ft (mv_t (xs (1 + 4 * cn + 1)) (xs (1 + 4 * cn + 2)) (xs (1 + 4 * cn + 3)) w 0 g ft)) fs fl w wi now on ts tl lf ll) H := hP
  have hD : va_D A (mm PM CM N tx lx nu (mv_F (mv_c (in_S ti (xs (1 + 4 * cn + 1)) (xs (1 + 4 * cn + 2))) (cm_F ti now (xs (1 + 4 * cn + 3))) w2 0 (fun j => j) 0) ti (mv_t (xs (1 + 4 * cn + 1)) (xs (1 + 4 * cn + 2)) (xs (1 + 4 * cn + 3)) w2 0 (fun j => j) ti)) si ro us bt w2 al now on tl2 ll2 ++ tt PX CX N fb (mv_F (mv_c (in_S ft (xs (1 + 4 * cn + 1)) (xs (1 + 4 * cn + 2))) (cm_F ft now (xs (1 + 4 * cn + 3))) w 0 g 0) g (mv_s (be_F (mv_t (xs (1 + 4 * cn + 1)) (xs (1 + 4 * cn + 2)) (xs (1 + 4 * cn + 3)) w 0 g ft) fs) (w - 1) 1 g)) fn (mv_F (mv_c (in_S ft (xs (1 + 4 * cn + 1)) (xs (1 + 4 * cn + 2))) (cm_F ft now (xs (1 + 4 * cn + 3))) w 0 g 0) ft (mv_t (xs (1 + 4 * cn + 1)) (xs (1 + 4 * cn + 2)) (xs (1 + 4 * cn + 3)) w 0 g ft)) fs fl w wi now on ts tl lf ll) := hD
  have hP := fr_sw hP
  have hD := fr_swD hD
  obtain ⟨he, J⟩ := jr_mv J hc (f := (xs (1 + 4 * cn + 1))) (t := (xs (1 + 4 * cn + 2))) (f2 := (xs (1 + 4 * cn + 1))) (t2 := (xs (1 + 4 * cn + 2))) (b := (xs (1 + 4 * cn + 3))) (fun _ _ => rfl)
  have he : r1 = r2 := by rw [hwc, hwm, he]
  refine lv_icmp_eq (tgt := 493) hx hb d_law_289 (by decide) (fun c_289 => ?_) (fun c_289 => ?_)
  · rw [hAe] at hD hS
    refine lv_iinc (v := nI (1 + 4 * (cn + 1))) (lv' := [(3, .int (nI (1 + 4 * (cn + 1)))), (2, .ref (PM 0)), (1, .ref (PX 0)), (0, .ref b)]) hx hb d_law_493 hl (k := 0) rfl (nI_4 _) (by decide) rfl (fun ls hl => ?_)
    refine lv_goto (tgt := 28) hx hb d_law_496 (by decide) ?_
    exact ih _ _ _ _ _ _ _ _ _ _ _ _ _ _ _ _ _ _ _ _ _ _ _ _ _ _ _ _ _ J hP hD hS hl
  · exact absurd he c_289

set_option maxHeartbeats 4000000 in
set_option maxRecDepth 100000 in
/-- the law: enable -/
theorem law_enable {p : Program} {l : Launch} {e : Env} {s : State} {m : MethodId} {below : List Frame} {meth : Method} {c : Code} {dC : Nat → ClassId} {dI : Nat → Nat → Nat} {b L : Nat} {xs : Nat → Int32} {N : Nat} {PX PM : Nat → Nat} {CX CM : Nat → ClassId} (F : LF p s m meth c dC dI b L xs CX CM) {cn : Nat} (ih : LH p l e s m below meth c dC dI b N PX PM CX CM (cn + 1)) (hc : cn < 512) (hi : 1 + 4 * cn + 4 ≤ L) (fb : Nat → Int32) (g : Nat → Nat) (fn ft : Nat → Int32) (fs fl : Nat → Nat) (w wi now : Nat) (on : Bool) (ts tl lf ll : Nat) (tx lx nu ti : Nat → Int32) (si ro : Nat → Nat) (us : Nat → Bool) (bt : Nat → Int32) (w2 al tl2 ll2 : Nat) (H : Heap) (locs : List Loc) (ls : Array Slot) (J : JR cn N fb g fn ft fs fl w wi now ts tl lf ll tx lx bt (nu, ti, si, ro, us, w2) al tl2 ll2) (hP : va_P (dC, dI) classes (tt PX CX N fb g fn ft fs fl w wi now on ts tl lf ll ++ mm PM CM N tx lx nu ti si ro us bt w2 al now on tl2 ll2) H) (hD : va_D (fun q : Nat => s.heap.size ≤ q) (tt PX CX N fb g fn ft fs fl w wi now on ts tl lf ll ++ mm PM CM N tx lx nu ti si ro us bt w2 al now on tl2 ll2)) (hS : va_S (fun q : Nat => s.heap.size ≤ q) s.heap H locs) (hl : lv_has ls 4 [(3, .int (nI (1 + 4 * cn))), (2, .ref (PM 0)), (1, .ref (PX 0)), (0, .ref b)]) : W p l e room_1 s m #[Value.ref b] below meth c H locs 600000 7302250 (lw_Z below #[Value.ref b] s) (F0 m 294 ls []) := by
  obtain ⟨hL, hx, hb, hr, hml, hown, hts, hX, hbl, hlocks, hKx, hKm⟩ := F
  obtain ⟨z1, z2, z3, z4, ⟨z5, z6, z7, hgw⟩, hfs, hfl, z8, z9, z10, z11, z12, z13, hro, hsi⟩ := jr_bd J
  obtain ⟨A, hAe⟩ : ∃ A : Nat → Prop, A = (fun q : Nat => s.heap.size ≤ q) := ⟨_, rfl⟩
  have hA : ∀ q : Nat, s.heap.size ≤ q → A q := fun q h => by rw [hAe]; exact h
  have hbA : ¬ A b := by rw [hAe]; exact Nat.not_le.mpr hbl
  rw [← hAe] at hD hS
  refine lv_aload_n hx hb d_law_294 rfl (lv_at hl 2 rfl) ?_
  refine lv_aload_n hx hb d_law_295 rfl (lv_at hl 3 rfl) ?_
  refine lv_iload_n hx hb d_law_296 rfl (lv_at hl 0 rfl) ?_
  refine lv_iconst (v := nI 1) hx hb d_law_297 (by decide) ?_
  refine lv_iadd hx hb d_law_298 ?_
  refine tp_i (nI (1 + 4 * cn + 1)) (nI_add _ _) ?_
  refine va_sld hx hb hX hbl hbA hS (vp_in_nI (n := 1 + 4 * cn + 1) (by omega) (by omega)) d_law_299 ?_
  refine tp_i (xs (1 + 4 * cn + 1)) (by rw [nI_clamp (by omega)]) ?_
  refine lv_if_eq (tgt := 307) hx hb d_law_300 (by decide) (fun c_300 => ?_) (fun c_300 => ?_)
  · refine lv_iconst (v := nI 0) hx hb d_law_307 (by decide) ?_
    refine tp_i (bI false) rfl ?_
    refine tl_callv (c_enable l dC dI PX CX N H.size fb g fn ft fs fl w wi now on ts tl lf ll false) ⟨hx, hb, hml, hown, hts⟩ (cwV 1 hts g_law_48 rfl rfl rfl (by decide +kernel) ⟨Nat.le_of_ble_eq_true rfl, Nat.le_of_ble_eq_true rfl⟩) hKx hP hD hS hA 0 rfl 0 rfl rfl hl.1 rfl (Nat.le_of_ble_eq_true rfl) d_law_308 ⟨Nat.le_refl _, Nat.le_refl _⟩ (fun u H locs hwc hP hD hS => ?_)
    have hP : va_P (dC, dI) classes (tt PX CX N fb g fn ft fs fl w wi now false ts tl lf ll ++ mm PM CM N tx lx nu ti si ro us bt w2 al now on tl2 ll2) H := hP
    have hD : va_D A (tt PX CX N fb g fn ft fs fl w wi now false ts tl lf ll ++ mm PM CM N tx lx nu ti si ro us bt w2 al now on tl2 ll2) := hD
    refine lv_aload_n hx hb d_law_311 rfl (lv_at hl 1 rfl) ?_
    refine lv_aload_n hx hb d_law_312 rfl (lv_at hl 3 rfl) ?_
    refine lv_iload_n hx hb d_law_313 rfl (lv_at hl 0 rfl) ?_
    refine lv_iconst (v := nI 1) hx hb d_law_314 (by decide) ?_
    refine lv_iadd hx hb d_law_315 ?_
    refine tp_i (nI (1 + 4 * cn + 1)) (nI_add _ _) ?_
    refine va_sld hx hb hX hbl hbA hS (vp_in_nI (n := 1 + 4 * cn + 1) (by omega) (by omega)) d_law_316 ?_
    refine tp_i (xs (1 + 4 * cn + 1)) (by rw [nI_clamp (by omega)]) ?_
    refine lv_if_eq (tgt := 324) hx hb d_law_317 (by decide) (fun c_317 => ?_) (fun c_317 => ?_)
    · refine lv_iconst (v := nI 0) hx hb d_law_324 (by decide) ?_
      refine tp_i (bI false) rfl ?_
      have hP := fr_sw hP
      have hD := fr_swD hD
      refine tl_callv (mc_enable l dC dI PM CM N H.size tx lx nu ti si ro us bt w2 al now on tl2 ll2 false) ⟨hx, hb, hml, hown, hts⟩ (cwV 1 hts g_law_52 rfl rfl rfl (by decide +kernel) ⟨Nat.le_of_ble_eq_true rfl, Nat.le_of_ble_eq_true rfl⟩) hKm hP hD hS hA 1 rfl 0 rfl rfl hl.1 rfl (Nat.le_of_ble_eq_true rfl) d_law_325 ⟨Nat.le_refl _, Nat.le_refl _⟩ (fun u H locs hwm hP hD hS => ?_)
      have hP : va_P (dC, dI) classes (mm PM CM N tx lx nu ti si ro us bt w2 al now false tl2 ll2 ++ tt PX CX N fb g fn ft fs fl w wi now false ts tl lf ll) H := hP
      have hD : va_D A (mm PM CM N tx lx nu ti si ro us bt w2 al now false tl2 ll2 ++ tt PX CX N fb g fn ft fs fl w wi now false ts tl lf ll) := hD
      have hP := fr_sw hP
      have hD := fr_swD hD
      refine lv_goto (tgt := 493) hx hb d_law_328 (by decide) ?_
      have J := jr_c J hc
      rw [hAe] at hD hS
      refine lv_iinc (v := nI (1 + 4 * (cn + 1))) (lv' := [(3, .int (nI (1 + 4 * (cn + 1)))), (2, .ref (PM 0)), (1, .ref (PX 0)), (0, .ref b)]) hx hb d_law_493 hl (k := 0) rfl (nI_4 _) (by decide) rfl (fun ls hl => ?_)
      refine lv_goto (tgt := 28) hx hb d_law_496 (by decide) ?_
      exact ih _ _ _ _ _ _ _ _ _ _ _ _ _ _ _ _ _ _ _ _ _ _ _ _ _ _ _ _ _ J hP hD hS hl
    · exact absurd c_300 c_317
  · refine lv_iconst (v := nI 1) hx hb d_law_303 (by decide) ?_
    refine lv_goto (tgt := 308) hx hb d_law_304 (by decide) ?_
    refine tp_i (bI true) rfl ?_
    refine tl_callv (c_enable l dC dI PX CX N H.size fb g fn ft fs fl w wi now on ts tl lf ll true) ⟨hx, hb, hml, hown, hts⟩ (cwV 1 hts g_law_48 rfl rfl rfl (by decide +kernel) ⟨Nat.le_of_ble_eq_true rfl, Nat.le_of_ble_eq_true rfl⟩) hKx hP hD hS hA 0 rfl 0 rfl rfl hl.1 rfl (Nat.le_of_ble_eq_true rfl) d_law_308 ⟨Nat.le_refl _, Nat.le_refl _⟩ (fun u H locs hwc hP hD hS => ?_)
    have hP : va_P (dC, dI) classes (tt PX CX N fb g fn ft fs fl w wi now true ts tl lf ll ++ mm PM CM N tx lx nu ti si ro us bt w2 al now on tl2 ll2) H := hP
    have hD : va_D A (tt PX CX N fb g fn ft fs fl w wi now true ts tl lf ll ++ mm PM CM N tx lx nu ti si ro us bt w2 al now on tl2 ll2) := hD
    refine lv_aload_n hx hb d_law_311 rfl (lv_at hl 1 rfl) ?_
    refine lv_aload_n hx hb d_law_312 rfl (lv_at hl 3 rfl) ?_
    refine lv_iload_n hx hb d_law_313 rfl (lv_at hl 0 rfl) ?_
    refine lv_iconst (v := nI 1) hx hb d_law_314 (by decide) ?_
    refine lv_iadd hx hb d_law_315 ?_
    refine tp_i (nI (1 + 4 * cn + 1)) (nI_add _ _) ?_
    refine va_sld hx hb hX hbl hbA hS (vp_in_nI (n := 1 + 4 * cn + 1) (by omega) (by omega)) d_law_316 ?_
    refine tp_i (xs (1 + 4 * cn + 1)) (by rw [nI_clamp (by omega)]) ?_
    refine lv_if_eq (tgt := 324) hx hb d_law_317 (by decide) (fun c_317 => ?_) (fun c_317 => ?_)
    · exact absurd c_317 c_300
    · refine lv_iconst (v := nI 1) hx hb d_law_320 (by decide) ?_
      refine lv_goto (tgt := 325) hx hb d_law_321 (by decide) ?_
      refine tp_i (bI true) rfl ?_
      have hP := fr_sw hP
      have hD := fr_swD hD
      refine tl_callv (mc_enable l dC dI PM CM N H.size tx lx nu ti si ro us bt w2 al now on tl2 ll2 true) ⟨hx, hb, hml, hown, hts⟩ (cwV 1 hts g_law_52 rfl rfl rfl (by decide +kernel) ⟨Nat.le_of_ble_eq_true rfl, Nat.le_of_ble_eq_true rfl⟩) hKm hP hD hS hA 1 rfl 0 rfl rfl hl.1 rfl (Nat.le_of_ble_eq_true rfl) d_law_325 ⟨Nat.le_refl _, Nat.le_refl _⟩ (fun u H locs hwm hP hD hS => ?_)
      have hP : va_P (dC, dI) classes (mm PM CM N tx lx nu ti si ro us bt w2 al now true tl2 ll2 ++ tt PX CX N fb g fn ft fs fl w wi now true ts tl lf ll) H := hP
      have hD : va_D A (mm PM CM N tx lx nu ti si ro us bt w2 al now true tl2 ll2 ++ tt PX CX N fb g fn ft fs fl w wi now true ts tl lf ll) := hD
      have hP := fr_sw hP
      have hD := fr_swD hD
      refine lv_goto (tgt := 493) hx hb d_law_328 (by decide) ?_
      have J := jr_c J hc
      rw [hAe] at hD hS
      refine lv_iinc (v := nI (1 + 4 * (cn + 1))) (lv' := [(3, .int (nI (1 + 4 * (cn + 1)))), (2, .ref (PM 0)), (1, .ref (PX 0)), (0, .ref b)]) hx hb d_law_493 hl (k := 0) rfl (nI_4 _) (by decide) rfl (fun ls hl => ?_)
      refine lv_goto (tgt := 28) hx hb d_law_496 (by decide) ?_
      exact ih _ _ _ _ _ _ _ _ _ _ _ _ _ _ _ _ _ _ _ _ _ _ _ _ _ _ _ _ _ J hP hD hS hl

set_option maxHeartbeats 4000000 in
set_option maxRecDepth 100000 in
/-- the law: isOn -/
theorem law_isOn {p : Program} {l : Launch} {e : Env} {s : State} {m : MethodId} {below : List Frame} {meth : Method} {c : Code} {dC : Nat → ClassId} {dI : Nat → Nat → Nat} {b L : Nat} {xs : Nat → Int32} {N : Nat} {PX PM : Nat → Nat} {CX CM : Nat → ClassId} (F : LF p s m meth c dC dI b L xs CX CM) {cn : Nat} (ih : LH p l e s m below meth c dC dI b N PX PM CX CM (cn + 1)) (hc : cn < 512) (hi : 1 + 4 * cn + 4 ≤ L) (fb : Nat → Int32) (g : Nat → Nat) (fn ft : Nat → Int32) (fs fl : Nat → Nat) (w wi now : Nat) (on : Bool) (ts tl lf ll : Nat) (tx lx nu ti : Nat → Int32) (si ro : Nat → Nat) (us : Nat → Bool) (bt : Nat → Int32) (w2 al tl2 ll2 : Nat) (H : Heap) (locs : List Loc) (ls : Array Slot) (J : JR cn N fb g fn ft fs fl w wi now ts tl lf ll tx lx bt (nu, ti, si, ro, us, w2) al tl2 ll2) (hP : va_P (dC, dI) classes (tt PX CX N fb g fn ft fs fl w wi now on ts tl lf ll ++ mm PM CM N tx lx nu ti si ro us bt w2 al now on tl2 ll2) H) (hD : va_D (fun q : Nat => s.heap.size ≤ q) (tt PX CX N fb g fn ft fs fl w wi now on ts tl lf ll ++ mm PM CM N tx lx nu ti si ro us bt w2 al now on tl2 ll2)) (hS : va_S (fun q : Nat => s.heap.size ≤ q) s.heap H locs) (hl : lv_has ls 4 [(3, .int (nI (1 + 4 * cn))), (2, .ref (PM 0)), (1, .ref (PX 0)), (0, .ref b)]) : W p l e room_1 s m #[Value.ref b] below meth c H locs 600000 7302250 (lw_Z below #[Value.ref b] s) (F0 m 331 ls []) := by
  obtain ⟨hL, hx, hb, hr, hml, hown, hts, hX, hbl, hlocks, hKx, hKm⟩ := F
  obtain ⟨z1, z2, z3, z4, ⟨z5, z6, z7, hgw⟩, hfs, hfl, z8, z9, z10, z11, z12, z13, hro, hsi⟩ := jr_bd J
  obtain ⟨A, hAe⟩ : ∃ A : Nat → Prop, A = (fun q : Nat => s.heap.size ≤ q) := ⟨_, rfl⟩
  have hA : ∀ q : Nat, s.heap.size ≤ q → A q := fun q h => by rw [hAe]; exact h
  have hbA : ¬ A b := by rw [hAe]; exact Nat.not_le.mpr hbl
  rw [← hAe] at hD hS
  refine lv_aload_n hx hb d_law_331 rfl (lv_at hl 2 rfl) ?_
  refine tl_calli (c_isOn l dC dI PX CX N H.size fb g fn ft fs fl w wi now on ts tl lf ll ) ⟨hx, hb, hml, hown, hts⟩ (cwV 0 hts g_law_53 rfl rfl rfl (by decide +kernel) ⟨Nat.le_of_ble_eq_true rfl, Nat.le_of_ble_eq_true rfl⟩) hKx hP hD hS hA 0 rfl 0 rfl rfl hl.1 rfl (Nat.le_of_ble_eq_true rfl) d_law_332 ⟨Nat.le_refl _, Nat.le_refl _⟩ (fun r1 u H locs hwc hP hD hS => ?_)
  have hP : va_P (dC, dI) classes (tt PX CX N fb g fn ft fs fl w wi now on ts tl lf ll ++ mm PM CM N tx lx nu ti si ro us bt w2 al now on tl2 ll2) H := hP
  have hD : va_D A (tt PX CX N fb g fn ft fs fl w wi now on ts tl lf ll ++ mm PM CM N tx lx nu ti si ro us bt w2 al now on tl2 ll2) := hD
  refine lv_aload_n hx hb d_law_335 rfl (lv_at hl 1 rfl) ?_
  have hP := fr_sw hP
  have hD := fr_swD hD
  refine tl_calli (mc_isOn l dC dI PM CM N H.size tx lx nu ti si ro us bt w2 al now on tl2 ll2 ) ⟨hx, hb, hml, hown, hts⟩ (cwV 0 hts g_law_57 rfl rfl rfl (by decide +kernel) ⟨Nat.le_of_ble_eq_true rfl, Nat.le_of_ble_eq_true rfl⟩) hKm hP hD hS hA 1 rfl 0 rfl rfl hl.1 rfl (Nat.le_of_ble_eq_true rfl) d_law_336 ⟨Nat.le_refl _, Nat.le_refl _⟩ (fun r2 u H locs hwm hP hD hS => ?_)
  have hP : va_P (dC, dI) classes (mm PM CM N tx lx nu ti si ro us bt w2 al now on tl2 ll2 ++ tt PX CX N fb g fn ft fs fl w wi now on ts tl lf ll) H := hP
  have hD : va_D A (mm PM CM N tx lx nu ti si ro us bt w2 al now on tl2 ll2 ++ tt PX CX N fb g fn ft fs fl w wi now on ts tl lf ll) := hD
  have hP := fr_sw hP
  have hD := fr_swD hD
  have J := jr_c J hc
  have he : r1 = r2 := by rw [hwc, hwm]
  refine lv_icmp_eq (tgt := 493) hx hb d_law_339 (by decide) (fun c_339 => ?_) (fun c_339 => ?_)
  · rw [hAe] at hD hS
    refine lv_iinc (v := nI (1 + 4 * (cn + 1))) (lv' := [(3, .int (nI (1 + 4 * (cn + 1)))), (2, .ref (PM 0)), (1, .ref (PX 0)), (0, .ref b)]) hx hb d_law_493 hl (k := 0) rfl (nI_4 _) (by decide) rfl (fun ls hl => ?_)
    refine lv_goto (tgt := 28) hx hb d_law_496 (by decide) ?_
    exact ih _ _ _ _ _ _ _ _ _ _ _ _ _ _ _ _ _ _ _ _ _ _ _ _ _ _ _ _ _ J hP hD hS hl
  · exact absurd he c_339

set_option maxHeartbeats 4000000 in
set_option maxRecDepth 100000 in
/-- the law: reset -/
theorem law_reset {p : Program} {l : Launch} {e : Env} {s : State} {m : MethodId} {below : List Frame} {meth : Method} {c : Code} {dC : Nat → ClassId} {dI : Nat → Nat → Nat} {b L : Nat} {xs : Nat → Int32} {N : Nat} {PX PM : Nat → Nat} {CX CM : Nat → ClassId} (F : LF p s m meth c dC dI b L xs CX CM) {cn : Nat} (ih : LH p l e s m below meth c dC dI b N PX PM CX CM (cn + 1)) (hc : cn < 512) (hi : 1 + 4 * cn + 4 ≤ L) (fb : Nat → Int32) (g : Nat → Nat) (fn ft : Nat → Int32) (fs fl : Nat → Nat) (w wi now : Nat) (on : Bool) (ts tl lf ll : Nat) (tx lx nu ti : Nat → Int32) (si ro : Nat → Nat) (us : Nat → Bool) (bt : Nat → Int32) (w2 al tl2 ll2 : Nat) (H : Heap) (locs : List Loc) (ls : Array Slot) (J : JR cn N fb g fn ft fs fl w wi now ts tl lf ll tx lx bt (nu, ti, si, ro, us, w2) al tl2 ll2) (hP : va_P (dC, dI) classes (tt PX CX N fb g fn ft fs fl w wi now on ts tl lf ll ++ mm PM CM N tx lx nu ti si ro us bt w2 al now on tl2 ll2) H) (hD : va_D (fun q : Nat => s.heap.size ≤ q) (tt PX CX N fb g fn ft fs fl w wi now on ts tl lf ll ++ mm PM CM N tx lx nu ti si ro us bt w2 al now on tl2 ll2)) (hS : va_S (fun q : Nat => s.heap.size ≤ q) s.heap H locs) (hl : lv_has ls 4 [(3, .int (nI (1 + 4 * cn))), (2, .ref (PM 0)), (1, .ref (PX 0)), (0, .ref b)]) : W p l e room_1 s m #[Value.ref b] below meth c H locs 600000 7302250 (lw_Z below #[Value.ref b] s) (F0 m 344 ls []) := by
  obtain ⟨hL, hx, hb, hr, hml, hown, hts, hX, hbl, hlocks, hKx, hKm⟩ := F
  obtain ⟨z1, z2, z3, z4, ⟨z5, z6, z7, hgw⟩, hfs, hfl, z8, z9, z10, z11, z12, z13, hro, hsi⟩ := jr_bd J
  obtain ⟨A, hAe⟩ : ∃ A : Nat → Prop, A = (fun q : Nat => s.heap.size ≤ q) := ⟨_, rfl⟩
  have hA : ∀ q : Nat, s.heap.size ≤ q → A q := fun q h => by rw [hAe]; exact h
  have hbA : ¬ A b := by rw [hAe]; exact Nat.not_le.mpr hbl
  rw [← hAe] at hD hS
  refine lv_aload_n hx hb d_law_344 rfl (lv_at hl 2 rfl) ?_
  refine tl_callv (c_reset l dC dI PX CX N H.size fb g fn ft fs fl w wi now on ts tl lf ll ) ⟨hx, hb, hml, hown, hts⟩ (cwV 0 hts g_law_58 rfl rfl rfl (by decide +kernel) ⟨Nat.le_of_ble_eq_true rfl, Nat.le_of_ble_eq_true rfl⟩) hKx hP hD hS hA 0 rfl 0 rfl rfl hl.1 rfl (Nat.le_of_ble_eq_true rfl) d_law_345 ⟨Nat.le_refl _, Nat.le_refl _⟩ (fun u H locs hwc hP hD hS => ?_)
  have hP : va_P (dC, dI) classes (tt PX CX N fb g fn ft fs fl 0 wi now false ts tl lf ll ++ mm PM CM N tx lx nu ti si ro us bt w2 al now on tl2 ll2) H := hP
  have hD : va_D A (tt PX CX N fb g fn ft fs fl 0 wi now false ts tl lf ll ++ mm PM CM N tx lx nu ti si ro us bt w2 al now on tl2 ll2) := hD
  refine lv_aload_n hx hb d_law_348 rfl (lv_at hl 1 rfl) ?_
  have hP := fr_sw hP
  have hD := fr_swD hD
  refine tl_callv (mc_reset l dC dI PM CM N H.size tx lx nu ti si ro us bt w2 al now on tl2 ll2 (by omega) hro) ⟨hx, hb, hml, hown, hts⟩ (cwV 0 hts g_law_61 rfl rfl rfl (by decide +kernel) ⟨Nat.le_of_ble_eq_true rfl, Nat.le_of_ble_eq_true rfl⟩) hKm hP hD hS hA 1 rfl 0 rfl rfl hl.1 rfl (Nat.le_of_ble_eq_true rfl) d_law_349 ⟨Nat.le_refl _, Nat.le_refl _⟩ (fun u H locs hwm hP hD hS => ?_)
  obtain ⟨nu', ti', si', ro', us', w2'⟩ := u
  have hP : va_P (dC, dI) classes (mm PM CM N tx lx nu' ti' si' ro' us' bt w2' al now false tl2 ll2 ++ tt PX CX N fb g fn ft fs fl 0 wi now false ts tl lf ll) H := hP
  have hD : va_D A (mm PM CM N tx lx nu' ti' si' ro' us' bt w2' al now false tl2 ll2 ++ tt PX CX N fb g fn ft fs fl 0 wi now false ts tl lf ll) := hD
  have hP := fr_sw hP
  have hD := fr_swD hD
  refine lv_goto (tgt := 493) hx hb d_law_352 (by decide) ?_
  have J := jr_reset J hc hwm
  rw [hAe] at hD hS
  refine lv_iinc (v := nI (1 + 4 * (cn + 1))) (lv' := [(3, .int (nI (1 + 4 * (cn + 1)))), (2, .ref (PM 0)), (1, .ref (PX 0)), (0, .ref b)]) hx hb d_law_493 hl (k := 0) rfl (nI_4 _) (by decide) rfl (fun ls hl => ?_)
  refine lv_goto (tgt := 28) hx hb d_law_496 (by decide) ?_
  exact ih _ _ _ _ _ _ _ _ _ _ _ _ _ _ _ _ _ _ _ _ _ _ _ _ _ _ _ _ _ J hP hD hS hl

set_option maxHeartbeats 4000000 in
set_option maxRecDepth 100000 in
/-- the law: tick -/
theorem law_tick {p : Program} {l : Launch} {e : Env} {s : State} {m : MethodId} {below : List Frame} {meth : Method} {c : Code} {dC : Nat → ClassId} {dI : Nat → Nat → Nat} {b L : Nat} {xs : Nat → Int32} {N : Nat} {PX PM : Nat → Nat} {CX CM : Nat → ClassId} (F : LF p s m meth c dC dI b L xs CX CM) {cn : Nat} (ih : LH p l e s m below meth c dC dI b N PX PM CX CM (cn + 1)) (hc : cn < 512) (hi : 1 + 4 * cn + 4 ≤ L) (fb : Nat → Int32) (g : Nat → Nat) (fn ft : Nat → Int32) (fs fl : Nat → Nat) (w wi now : Nat) (on : Bool) (ts tl lf ll : Nat) (tx lx nu ti : Nat → Int32) (si ro : Nat → Nat) (us : Nat → Bool) (bt : Nat → Int32) (w2 al tl2 ll2 : Nat) (H : Heap) (locs : List Loc) (ls : Array Slot) (J : JR cn N fb g fn ft fs fl w wi now ts tl lf ll tx lx bt (nu, ti, si, ro, us, w2) al tl2 ll2) (hP : va_P (dC, dI) classes (tt PX CX N fb g fn ft fs fl w wi now on ts tl lf ll ++ mm PM CM N tx lx nu ti si ro us bt w2 al now on tl2 ll2) H) (hD : va_D (fun q : Nat => s.heap.size ≤ q) (tt PX CX N fb g fn ft fs fl w wi now on ts tl lf ll ++ mm PM CM N tx lx nu ti si ro us bt w2 al now on tl2 ll2)) (hS : va_S (fun q : Nat => s.heap.size ≤ q) s.heap H locs) (hl : lv_has ls 4 [(3, .int (nI (1 + 4 * cn))), (2, .ref (PM 0)), (1, .ref (PX 0)), (0, .ref b)]) : W p l e room_1 s m #[Value.ref b] below meth c H locs 600000 7302250 (lw_Z below #[Value.ref b] s) (F0 m 355 ls []) := by
  obtain ⟨hL, hx, hb, hr, hml, hown, hts, hX, hbl, hlocks, hKx, hKm⟩ := F
  obtain ⟨z1, z2, z3, z4, ⟨z5, z6, z7, hgw⟩, hfs, hfl, z8, z9, z10, z11, z12, z13, hro, hsi⟩ := jr_bd J
  obtain ⟨A, hAe⟩ : ∃ A : Nat → Prop, A = (fun q : Nat => s.heap.size ≤ q) := ⟨_, rfl⟩
  have hA : ∀ q : Nat, s.heap.size ≤ q → A q := fun q h => by rw [hAe]; exact h
  have hbA : ¬ A b := by rw [hAe]; exact Nat.not_le.mpr hbl
  rw [← hAe] at hD hS
  refine lv_aload_n hx hb d_law_355 rfl (lv_at hl 2 rfl) ?_
  refine tl_calli (c_tick l dC dI PX CX N H.size fb g fn ft fs fl w wi now on ts tl lf ll (by omega)) ⟨hx, hb, hml, hown, hts⟩ (cwV 0 hts g_law_62 rfl rfl rfl (by decide +kernel) ⟨Nat.le_of_ble_eq_true rfl, Nat.le_of_ble_eq_true rfl⟩) hKx hP hD hS hA 0 rfl 0 rfl rfl hl.1 rfl (Nat.le_of_ble_eq_true rfl) d_law_356 ⟨Nat.le_refl _, Nat.le_refl _⟩ (fun r1 u H locs hwc hP hD hS => ?_)
  have hP : va_P (dC, dI) classes (tt PX CX N fb g fn ft fs fl w wi (now + 1) on ts tl lf ll ++ mm PM CM N tx lx nu ti si ro us bt w2 al now on tl2 ll2) H := hP
  have hD : va_D A (tt PX CX N fb g fn ft fs fl w wi (now + 1) on ts tl lf ll ++ mm PM CM N tx lx nu ti si ro us bt w2 al now on tl2 ll2) := hD
  refine lv_aload_n hx hb d_law_359 rfl (lv_at hl 1 rfl) ?_
  have hP := fr_sw hP
  have hD := fr_swD hD
  refine tl_calli (mc_tick l dC dI PM CM N H.size tx lx nu ti si ro us bt w2 al now on tl2 ll2 (by omega)) ⟨hx, hb, hml, hown, hts⟩ (cwV 0 hts g_law_66 rfl rfl rfl (by decide +kernel) ⟨Nat.le_of_ble_eq_true rfl, Nat.le_of_ble_eq_true rfl⟩) hKm hP hD hS hA 1 rfl 0 rfl rfl hl.1 rfl (Nat.le_of_ble_eq_true rfl) d_law_360 ⟨Nat.le_refl _, Nat.le_refl _⟩ (fun r2 u H locs hwm hP hD hS => ?_)
  have hP : va_P (dC, dI) classes (mm PM CM N tx lx nu ti si ro us bt w2 al (now + 1) on tl2 ll2 ++ tt PX CX N fb g fn ft fs fl w wi (now + 1) on ts tl lf ll) H := hP
  have hD : va_D A (mm PM CM N tx lx nu ti si ro us bt w2 al (now + 1) on tl2 ll2 ++ tt PX CX N fb g fn ft fs fl w wi (now + 1) on ts tl lf ll) := hD
  have hP := fr_sw hP
  have hD := fr_swD hD
  have J := jr_tick J hc
  have he : r1 = r2 := by rw [hwc, hwm]
  refine lv_icmp_eq (tgt := 493) hx hb d_law_363 (by decide) (fun c_363 => ?_) (fun c_363 => ?_)
  · rw [hAe] at hD hS
    refine lv_iinc (v := nI (1 + 4 * (cn + 1))) (lv' := [(3, .int (nI (1 + 4 * (cn + 1)))), (2, .ref (PM 0)), (1, .ref (PX 0)), (0, .ref b)]) hx hb d_law_493 hl (k := 0) rfl (nI_4 _) (by decide) rfl (fun ls hl => ?_)
    refine lv_goto (tgt := 28) hx hb d_law_496 (by decide) ?_
    exact ih _ _ _ _ _ _ _ _ _ _ _ _ _ _ _ _ _ _ _ _ _ _ _ _ _ _ _ _ _ J hP hD hS hl
  · exact absurd he c_363
end
section
set_option maxHeartbeats 4000000 in
set_option maxRecDepth 100000 in
/-- the law: leave -/
theorem law_leave {p : Program} {l : Launch} {e : Env} {s : State} {m : MethodId} {below : List Frame} {meth : Method} {c : Code} {dC : Nat → ClassId} {dI : Nat → Nat → Nat} {b L : Nat} {xs : Nat → Int32} {N : Nat} {PX PM : Nat → Nat} {CX CM : Nat → ClassId} (F : LF p s m meth c dC dI b L xs CX CM) {cn : Nat} (ih : LH p l e s m below meth c dC dI b N PX PM CX CM (cn + 1)) (hc : cn < 512) (hi : 1 + 4 * cn + 4 ≤ L) (fb : Nat → Int32) (g : Nat → Nat) (fn ft : Nat → Int32) (fs fl : Nat → Nat) (w wi now : Nat) (on : Bool) (ts tl lf ll : Nat) (tx lx nu ti : Nat → Int32) (si ro : Nat → Nat) (us : Nat → Bool) (bt : Nat → Int32) (w2 al tl2 ll2 : Nat) (H : Heap) (locs : List Loc) (ls : Array Slot) (J : JR cn N fb g fn ft fs fl w wi now ts tl lf ll tx lx bt (nu, ti, si, ro, us, w2) al tl2 ll2) (hP : va_P (dC, dI) classes (tt PX CX N fb g fn ft fs fl w wi now on ts tl lf ll ++ mm PM CM N tx lx nu ti si ro us bt w2 al now on tl2 ll2) H) (hD : va_D (fun q : Nat => s.heap.size ≤ q) (tt PX CX N fb g fn ft fs fl w wi now on ts tl lf ll ++ mm PM CM N tx lx nu ti si ro us bt w2 al now on tl2 ll2)) (hS : va_S (fun q : Nat => s.heap.size ≤ q) s.heap H locs) (hl : lv_has ls 4 [(3, .int (nI (1 + 4 * cn))), (2, .ref (PM 0)), (1, .ref (PX 0)), (0, .ref b)]) : W p l e room_1 s m #[Value.ref b] below meth c H locs 600000 7302250 (lw_Z below #[Value.ref b] s) (F0 m 368 ls []) := by
  obtain ⟨hL, hx, hb, hr, hml, hown, hts, hX, hbl, hlocks, hKx, hKm⟩ := F
  obtain ⟨z1, z2, z3, z4, ⟨z5, z6, z7, hgw⟩, hfs, hfl, z8, z9, z10, z11, z12, z13, hro, hsi⟩ := jr_bd J
  obtain ⟨A, hAe⟩ : ∃ A : Nat → Prop, A = (fun q : Nat => s.heap.size ≤ q) := ⟨_, rfl⟩
  have hA : ∀ q : Nat, s.heap.size ≤ q → A q := fun q h => by rw [hAe]; exact h
  have hbA : ¬ A b := by rw [hAe]; exact Nat.not_le.mpr hbl
  rw [← hAe] at hD hS
  refine lv_aload_n hx hb d_law_368 rfl (lv_at hl 2 rfl) ?_
  refine tl_calli (c_leave l dC dI PX CX N H.size fb g fn ft fs fl w wi now on ts tl lf ll (by omega) (by omega) hgw) ⟨hx, hb, hml, hown, hts⟩ (cwV 0 hts g_law_67 rfl rfl rfl (by decide +kernel) ⟨Nat.le_of_ble_eq_true rfl, Nat.le_of_ble_eq_true rfl⟩) hKx hP hD hS hA 0 rfl 0 rfl rfl hl.1 rfl (Nat.le_of_ble_eq_true rfl) d_law_369 ⟨Nat.le_refl _, Nat.le_refl _⟩ (fun r1 u H locs hwc hP hD hS => ?_)
  obtain ⟨g', w', lf', ll'⟩ := u
  have hP : va_P (dC, dI) classes (tt PX CX N fb g' fn ft fs fl w' wi now on ts tl lf' ll' ++ mm PM CM N tx lx nu ti si ro us bt w2 al now on tl2 ll2) H := hP
  have hD : va_D A (tt PX CX N fb g' fn ft fs fl w' wi now on ts tl lf' ll' ++ mm PM CM N tx lx nu ti si ro us bt w2 al now on tl2 ll2) := hD
  refine lv_aload_n hx hb d_law_372 rfl (lv_at hl 1 rfl) ?_
  have hP := fr_sw hP
  have hD := fr_swD hD
  refine tl_calli (mc_leave l dC dI PM CM N H.size tx lx nu ti si ro us bt w2 al now on tl2 ll2 (by omega) hro hsi) ⟨hx, hb, hml, hown, hts⟩ (cwV 0 hts g_law_70 rfl rfl rfl (by decide +kernel) ⟨Nat.le_of_ble_eq_true rfl, Nat.le_of_ble_eq_true rfl⟩) hKm hP hD hS hA 1 rfl 0 rfl rfl hl.1 rfl (Nat.le_of_ble_eq_true rfl) d_law_373 ⟨Nat.le_refl _, Nat.le_refl _⟩ (fun r2 u H locs hwm hP hD hS => ?_)
  obtain ⟨lx', ll2', nu', ti', si', ro', us', w2'⟩ := u
  have hP : va_P (dC, dI) classes (mm PM CM N tx lx' nu' ti' si' ro' us' bt w2' al now on tl2 ll2' ++ tt PX CX N fb g' fn ft fs fl w' wi now on ts tl lf' ll') H := hP
  have hD : va_D A (mm PM CM N tx lx' nu' ti' si' ro' us' bt w2' al now on tl2 ll2' ++ tt PX CX N fb g' fn ft fs fl w' wi now on ts tl lf' ll') := hD
  have hP := fr_sw hP
  have hD := fr_swD hD
  obtain ⟨he, J⟩ := jr_leave J hc hwc hwm
  refine lv_icmp_eq (tgt := 493) hx hb d_law_376 (by decide) (fun c_376 => ?_) (fun c_376 => ?_)
  · rw [hAe] at hD hS
    refine lv_iinc (v := nI (1 + 4 * (cn + 1))) (lv' := [(3, .int (nI (1 + 4 * (cn + 1)))), (2, .ref (PM 0)), (1, .ref (PX 0)), (0, .ref b)]) hx hb d_law_493 hl (k := 0) rfl (nI_4 _) (by decide) rfl (fun ls hl => ?_)
    refine lv_goto (tgt := 28) hx hb d_law_496 (by decide) ?_
    exact ih _ _ _ _ _ _ _ _ _ _ _ _ _ _ _ _ _ _ _ _ _ _ _ _ _ _ _ _ _ J hP hD hS hl
  · exact absurd he c_376

set_option maxHeartbeats 4000000 in
set_option maxRecDepth 100000 in
/-- the law: left -/
theorem law_left {p : Program} {l : Launch} {e : Env} {s : State} {m : MethodId} {below : List Frame} {meth : Method} {c : Code} {dC : Nat → ClassId} {dI : Nat → Nat → Nat} {b L : Nat} {xs : Nat → Int32} {N : Nat} {PX PM : Nat → Nat} {CX CM : Nat → ClassId} (F : LF p s m meth c dC dI b L xs CX CM) {cn : Nat} (ih : LH p l e s m below meth c dC dI b N PX PM CX CM (cn + 1)) (hc : cn < 512) (hi : 1 + 4 * cn + 4 ≤ L) (fb : Nat → Int32) (g : Nat → Nat) (fn ft : Nat → Int32) (fs fl : Nat → Nat) (w wi now : Nat) (on : Bool) (ts tl lf ll : Nat) (tx lx nu ti : Nat → Int32) (si ro : Nat → Nat) (us : Nat → Bool) (bt : Nat → Int32) (w2 al tl2 ll2 : Nat) (H : Heap) (locs : List Loc) (ls : Array Slot) (J : JR cn N fb g fn ft fs fl w wi now ts tl lf ll tx lx bt (nu, ti, si, ro, us, w2) al tl2 ll2) (hP : va_P (dC, dI) classes (tt PX CX N fb g fn ft fs fl w wi now on ts tl lf ll ++ mm PM CM N tx lx nu ti si ro us bt w2 al now on tl2 ll2) H) (hD : va_D (fun q : Nat => s.heap.size ≤ q) (tt PX CX N fb g fn ft fs fl w wi now on ts tl lf ll ++ mm PM CM N tx lx nu ti si ro us bt w2 al now on tl2 ll2)) (hS : va_S (fun q : Nat => s.heap.size ≤ q) s.heap H locs) (hl : lv_has ls 4 [(3, .int (nI (1 + 4 * cn))), (2, .ref (PM 0)), (1, .ref (PX 0)), (0, .ref b)]) : W p l e room_1 s m #[Value.ref b] below meth c H locs 600000 7302250 (lw_Z below #[Value.ref b] s) (F0 m 381 ls []) := by
  obtain ⟨hL, hx, hb, hr, hml, hown, hts, hX, hbl, hlocks, hKx, hKm⟩ := F
  obtain ⟨z1, z2, z3, z4, ⟨z5, z6, z7, hgw⟩, hfs, hfl, z8, z9, z10, z11, z12, z13, hro, hsi⟩ := jr_bd J
  obtain ⟨A, hAe⟩ : ∃ A : Nat → Prop, A = (fun q : Nat => s.heap.size ≤ q) := ⟨_, rfl⟩
  have hA : ∀ q : Nat, s.heap.size ≤ q → A q := fun q h => by rw [hAe]; exact h
  have hbA : ¬ A b := by rw [hAe]; exact Nat.not_le.mpr hbl
  rw [← hAe] at hD hS
  refine lv_aload_n hx hb d_law_381 rfl (lv_at hl 2 rfl) ?_
  refine lv_aload_n hx hb d_law_382 rfl (lv_at hl 3 rfl) ?_
  refine lv_iload_n hx hb d_law_383 rfl (lv_at hl 0 rfl) ?_
  refine lv_iconst (v := nI 1) hx hb d_law_384 (by decide) ?_
  refine lv_iadd hx hb d_law_385 ?_
  refine tp_i (nI (1 + 4 * cn + 1)) (nI_add _ _) ?_
  refine va_sld hx hb hX hbl hbA hS (vp_in_nI (n := 1 + 4 * cn + 1) (by omega) (by omega)) d_law_386 ?_
  refine tp_i (xs (1 + 4 * cn + 1)) (by rw [nI_clamp (by omega)]) ?_
  refine tl_calli (c_left l dC dI PX CX N H.size fb g fn ft fs fl w wi now on ts tl lf ll (xs (1 + 4 * cn + 1)) (by omega)) ⟨hx, hb, hml, hown, hts⟩ (cwV 1 hts g_law_71 rfl rfl rfl (by decide +kernel) ⟨Nat.le_of_ble_eq_true rfl, Nat.le_of_ble_eq_true rfl⟩) hKx hP hD hS hA 0 rfl 0 rfl rfl hl.1 rfl (Nat.le_of_ble_eq_true rfl) d_law_387 ⟨Nat.le_refl _, Nat.le_refl _⟩ (fun r1 u H locs hwc hP hD hS => ?_)
  have hP : va_P (dC, dI) classes (tt PX CX N fb g fn ft fs fl w wi now on ts tl lf ll ++ mm PM CM N tx lx nu ti si ro us bt w2 al now on tl2 ll2) H := hP
  have hD : va_D A (tt PX CX N fb g fn ft fs fl w wi now on ts tl lf ll ++ mm PM CM N tx lx nu ti si ro us bt w2 al now on tl2 ll2) := hD
  refine lv_aload_n hx hb d_law_390 rfl (lv_at hl 1 rfl) ?_
  refine lv_aload_n hx hb d_law_391 rfl (lv_at hl 3 rfl) ?_
  refine lv_iload_n hx hb d_law_392 rfl (lv_at hl 0 rfl) ?_
  refine lv_iconst (v := nI 1) hx hb d_law_393 (by decide) ?_
  refine lv_iadd hx hb d_law_394 ?_
  refine tp_i (nI (1 + 4 * cn + 1)) (nI_add _ _) ?_
  refine va_sld hx hb hX hbl hbA hS (vp_in_nI (n := 1 + 4 * cn + 1) (by omega) (by omega)) d_law_395 ?_
  refine tp_i (xs (1 + 4 * cn + 1)) (by rw [nI_clamp (by omega)]) ?_
  have hP := fr_sw hP
  have hD := fr_swD hD
  refine tl_calli (mc_left l dC dI PM CM N H.size tx lx nu ti si ro us bt w2 al now on tl2 ll2 (xs (1 + 4 * cn + 1)) (by omega)) ⟨hx, hb, hml, hown, hts⟩ (cwV 1 hts g_law_74 rfl rfl rfl (by decide +kernel) ⟨Nat.le_of_ble_eq_true rfl, Nat.le_of_ble_eq_true rfl⟩) hKm hP hD hS hA 1 rfl 0 rfl rfl hl.1 rfl (Nat.le_of_ble_eq_true rfl) d_law_396 ⟨Nat.le_refl _, Nat.le_refl _⟩ (fun r2 u H locs hwm hP hD hS => ?_)
  have hP : va_P (dC, dI) classes (mm PM CM N tx lx nu ti si ro us bt w2 al now on tl2 ll2 ++ tt PX CX N fb g fn ft fs fl w wi now on ts tl lf ll) H := hP
  have hD : va_D A (mm PM CM N tx lx nu ti si ro us bt w2 al now on tl2 ll2 ++ tt PX CX N fb g fn ft fs fl w wi now on ts tl lf ll) := hD
  have hP := fr_sw hP
  have hD := fr_swD hD
  have he : r1 = r2 := by rw [hwc, hwm, (jr_ask J).1]
  have J := jr_c J hc
  refine lv_icmp_eq (tgt := 493) hx hb d_law_399 (by decide) (fun c_399 => ?_) (fun c_399 => ?_)
  · rw [hAe] at hD hS
    refine lv_iinc (v := nI (1 + 4 * (cn + 1))) (lv' := [(3, .int (nI (1 + 4 * (cn + 1)))), (2, .ref (PM 0)), (1, .ref (PX 0)), (0, .ref b)]) hx hb d_law_493 hl (k := 0) rfl (nI_4 _) (by decide) rfl (fun ls hl => ?_)
    refine lv_goto (tgt := 28) hx hb d_law_496 (by decide) ?_
    exact ih _ _ _ _ _ _ _ _ _ _ _ _ _ _ _ _ _ _ _ _ _ _ _ _ _ _ _ _ _ J hP hD hS hl
  · exact absurd he c_399

set_option maxHeartbeats 4000000 in
set_option maxRecDepth 100000 in
/-- the law: count -/
theorem law_count {p : Program} {l : Launch} {e : Env} {s : State} {m : MethodId} {below : List Frame} {meth : Method} {c : Code} {dC : Nat → ClassId} {dI : Nat → Nat → Nat} {b L : Nat} {xs : Nat → Int32} {N : Nat} {PX PM : Nat → Nat} {CX CM : Nat → ClassId} (F : LF p s m meth c dC dI b L xs CX CM) {cn : Nat} (ih : LH p l e s m below meth c dC dI b N PX PM CX CM (cn + 1)) (hc : cn < 512) (hi : 1 + 4 * cn + 4 ≤ L) (fb : Nat → Int32) (g : Nat → Nat) (fn ft : Nat → Int32) (fs fl : Nat → Nat) (w wi now : Nat) (on : Bool) (ts tl lf ll : Nat) (tx lx nu ti : Nat → Int32) (si ro : Nat → Nat) (us : Nat → Bool) (bt : Nat → Int32) (w2 al tl2 ll2 : Nat) (H : Heap) (locs : List Loc) (ls : Array Slot) (J : JR cn N fb g fn ft fs fl w wi now ts tl lf ll tx lx bt (nu, ti, si, ro, us, w2) al tl2 ll2) (hP : va_P (dC, dI) classes (tt PX CX N fb g fn ft fs fl w wi now on ts tl lf ll ++ mm PM CM N tx lx nu ti si ro us bt w2 al now on tl2 ll2) H) (hD : va_D (fun q : Nat => s.heap.size ≤ q) (tt PX CX N fb g fn ft fs fl w wi now on ts tl lf ll ++ mm PM CM N tx lx nu ti si ro us bt w2 al now on tl2 ll2)) (hS : va_S (fun q : Nat => s.heap.size ≤ q) s.heap H locs) (hl : lv_has ls 4 [(3, .int (nI (1 + 4 * cn))), (2, .ref (PM 0)), (1, .ref (PX 0)), (0, .ref b)]) : W p l e room_1 s m #[Value.ref b] below meth c H locs 600000 7302250 (lw_Z below #[Value.ref b] s) (F0 m 404 ls []) := by
  obtain ⟨hL, hx, hb, hr, hml, hown, hts, hX, hbl, hlocks, hKx, hKm⟩ := F
  obtain ⟨z1, z2, z3, z4, ⟨z5, z6, z7, hgw⟩, hfs, hfl, z8, z9, z10, z11, z12, z13, hro, hsi⟩ := jr_bd J
  obtain ⟨A, hAe⟩ : ∃ A : Nat → Prop, A = (fun q : Nat => s.heap.size ≤ q) := ⟨_, rfl⟩
  have hA : ∀ q : Nat, s.heap.size ≤ q → A q := fun q h => by rw [hAe]; exact h
  have hbA : ¬ A b := by rw [hAe]; exact Nat.not_le.mpr hbl
  rw [← hAe] at hD hS
  refine lv_aload_n hx hb d_law_404 rfl (lv_at hl 2 rfl) ?_
  refine lv_aload_n hx hb d_law_405 rfl (lv_at hl 3 rfl) ?_
  refine lv_iload_n hx hb d_law_406 rfl (lv_at hl 0 rfl) ?_
  refine lv_iconst (v := nI 1) hx hb d_law_407 (by decide) ?_
  refine lv_iadd hx hb d_law_408 ?_
  refine tp_i (nI (1 + 4 * cn + 1)) (nI_add _ _) ?_
  refine va_sld hx hb hX hbl hbA hS (vp_in_nI (n := 1 + 4 * cn + 1) (by omega) (by omega)) d_law_409 ?_
  refine tp_i (xs (1 + 4 * cn + 1)) (by rw [nI_clamp (by omega)]) ?_
  refine tl_calli (c_count l dC dI PX CX N H.size fb g fn ft fs fl w wi now on ts tl lf ll (xs (1 + 4 * cn + 1))) ⟨hx, hb, hml, hown, hts⟩ (cwV 1 hts g_law_75 rfl rfl rfl (by decide +kernel) ⟨Nat.le_of_ble_eq_true rfl, Nat.le_of_ble_eq_true rfl⟩) hKx hP hD hS hA 0 rfl 0 rfl rfl hl.1 rfl (Nat.le_of_ble_eq_true rfl) d_law_410 ⟨Nat.le_refl _, Nat.le_refl _⟩ (fun r1 u H locs hwc hP hD hS => ?_)
  have hP : va_P (dC, dI) classes (tt PX CX N fb g fn ft fs fl w wi now on ts tl lf ll ++ mm PM CM N tx lx nu ti si ro us bt w2 al now on tl2 ll2) H := hP
  have hD : va_D A (tt PX CX N fb g fn ft fs fl w wi now on ts tl lf ll ++ mm PM CM N tx lx nu ti si ro us bt w2 al now on tl2 ll2) := hD
  refine lv_aload_n hx hb d_law_413 rfl (lv_at hl 1 rfl) ?_
  refine lv_aload_n hx hb d_law_414 rfl (lv_at hl 3 rfl) ?_
  refine lv_iload_n hx hb d_law_415 rfl (lv_at hl 0 rfl) ?_
  refine lv_iconst (v := nI 1) hx hb d_law_416 (by decide) ?_
  refine lv_iadd hx hb d_law_417 ?_
  refine tp_i (nI (1 + 4 * cn + 1)) (nI_add _ _) ?_
  refine va_sld hx hb hX hbl hbA hS (vp_in_nI (n := 1 + 4 * cn + 1) (by omega) (by omega)) d_law_418 ?_
  refine tp_i (xs (1 + 4 * cn + 1)) (by rw [nI_clamp (by omega)]) ?_
  have hP := fr_sw hP
  have hD := fr_swD hD
  refine tl_calli (mc_count l dC dI PM CM N H.size tx lx nu ti si ro us bt w2 al now on tl2 ll2 (xs (1 + 4 * cn + 1))) ⟨hx, hb, hml, hown, hts⟩ (cwV 1 hts g_law_78 rfl rfl rfl (by decide +kernel) ⟨Nat.le_of_ble_eq_true rfl, Nat.le_of_ble_eq_true rfl⟩) hKm hP hD hS hA 1 rfl 0 rfl rfl hl.1 rfl (Nat.le_of_ble_eq_true rfl) d_law_419 ⟨Nat.le_refl _, Nat.le_refl _⟩ (fun r2 u H locs hwm hP hD hS => ?_)
  have hP : va_P (dC, dI) classes (mm PM CM N tx lx nu ti si ro us bt w2 al now on tl2 ll2 ++ tt PX CX N fb g fn ft fs fl w wi now on ts tl lf ll) H := hP
  have hD : va_D A (mm PM CM N tx lx nu ti si ro us bt w2 al now on tl2 ll2 ++ tt PX CX N fb g fn ft fs fl w wi now on ts tl lf ll) := hD
  have hP := fr_sw hP
  have hD := fr_swD hD
  have he : r1 = r2 := by rw [hwc, hwm, (jr_ask J).2.1]
  have J := jr_c J hc
  refine lv_icmp_eq (tgt := 493) hx hb d_law_422 (by decide) (fun c_422 => ?_) (fun c_422 => ?_)
  · rw [hAe] at hD hS
    refine lv_iinc (v := nI (1 + 4 * (cn + 1))) (lv' := [(3, .int (nI (1 + 4 * (cn + 1)))), (2, .ref (PM 0)), (1, .ref (PX 0)), (0, .ref b)]) hx hb d_law_493 hl (k := 0) rfl (nI_4 _) (by decide) rfl (fun ls hl => ?_)
    refine lv_goto (tgt := 28) hx hb d_law_496 (by decide) ?_
    exact ih _ _ _ _ _ _ _ _ _ _ _ _ _ _ _ _ _ _ _ _ _ _ _ _ _ _ _ _ _ J hP hD hS hl
  · exact absurd he c_422

set_option maxHeartbeats 4000000 in
set_option maxRecDepth 100000 in
/-- the law: about -/
theorem law_about {p : Program} {l : Launch} {e : Env} {s : State} {m : MethodId} {below : List Frame} {meth : Method} {c : Code} {dC : Nat → ClassId} {dI : Nat → Nat → Nat} {b L : Nat} {xs : Nat → Int32} {N : Nat} {PX PM : Nat → Nat} {CX CM : Nat → ClassId} (F : LF p s m meth c dC dI b L xs CX CM) {cn : Nat} (ih : LH p l e s m below meth c dC dI b N PX PM CX CM (cn + 1)) (hc : cn < 512) (hi : 1 + 4 * cn + 4 ≤ L) (fb : Nat → Int32) (g : Nat → Nat) (fn ft : Nat → Int32) (fs fl : Nat → Nat) (w wi now : Nat) (on : Bool) (ts tl lf ll : Nat) (tx lx nu ti : Nat → Int32) (si ro : Nat → Nat) (us : Nat → Bool) (bt : Nat → Int32) (w2 al tl2 ll2 : Nat) (H : Heap) (locs : List Loc) (ls : Array Slot) (J : JR cn N fb g fn ft fs fl w wi now ts tl lf ll tx lx bt (nu, ti, si, ro, us, w2) al tl2 ll2) (hP : va_P (dC, dI) classes (tt PX CX N fb g fn ft fs fl w wi now on ts tl lf ll ++ mm PM CM N tx lx nu ti si ro us bt w2 al now on tl2 ll2) H) (hD : va_D (fun q : Nat => s.heap.size ≤ q) (tt PX CX N fb g fn ft fs fl w wi now on ts tl lf ll ++ mm PM CM N tx lx nu ti si ro us bt w2 al now on tl2 ll2)) (hS : va_S (fun q : Nat => s.heap.size ≤ q) s.heap H locs) (hl : lv_has ls 4 [(3, .int (nI (1 + 4 * cn))), (2, .ref (PM 0)), (1, .ref (PX 0)), (0, .ref b)]) : W p l e room_1 s m #[Value.ref b] below meth c H locs 600000 7302250 (lw_Z below #[Value.ref b] s) (F0 m 427 ls []) := by
  obtain ⟨hL, hx, hb, hr, hml, hown, hts, hX, hbl, hlocks, hKx, hKm⟩ := F
  obtain ⟨z1, z2, z3, z4, ⟨z5, z6, z7, hgw⟩, hfs, hfl, z8, z9, z10, z11, z12, z13, hro, hsi⟩ := jr_bd J
  obtain ⟨A, hAe⟩ : ∃ A : Nat → Prop, A = (fun q : Nat => s.heap.size ≤ q) := ⟨_, rfl⟩
  have hA : ∀ q : Nat, s.heap.size ≤ q → A q := fun q h => by rw [hAe]; exact h
  have hbA : ¬ A b := by rw [hAe]; exact Nat.not_le.mpr hbl
  rw [← hAe] at hD hS
  refine lv_aload_n hx hb d_law_427 rfl (lv_at hl 2 rfl) ?_
  refine lv_aload_n hx hb d_law_428 rfl (lv_at hl 3 rfl) ?_
  refine lv_iload_n hx hb d_law_429 rfl (lv_at hl 0 rfl) ?_
  refine lv_iconst (v := nI 1) hx hb d_law_430 (by decide) ?_
  refine lv_iadd hx hb d_law_431 ?_
  refine tp_i (nI (1 + 4 * cn + 1)) (nI_add _ _) ?_
  refine va_sld hx hb hX hbl hbA hS (vp_in_nI (n := 1 + 4 * cn + 1) (by omega) (by omega)) d_law_432 ?_
  refine tp_i (xs (1 + 4 * cn + 1)) (by rw [nI_clamp (by omega)]) ?_
  refine lv_aload_n hx hb d_law_433 rfl (lv_at hl 3 rfl) ?_
  refine lv_iload_n hx hb d_law_434 rfl (lv_at hl 0 rfl) ?_
  refine lv_iconst (v := nI 2) hx hb d_law_435 (by decide) ?_
  refine lv_iadd hx hb d_law_436 ?_
  refine tp_i (nI (1 + 4 * cn + 2)) (nI_add _ _) ?_
  refine va_sld hx hb hX hbl hbA hS (vp_in_nI (n := 1 + 4 * cn + 2) (by omega) (by omega)) d_law_437 ?_
  refine tp_i (xs (1 + 4 * cn + 2)) (by rw [nI_clamp (by omega)]) ?_
  refine tl_calli (c_about l dC dI PX CX N H.size fb g fn ft fs fl w wi now on ts tl lf ll (xs (1 + 4 * cn + 1)) (xs (1 + 4 * cn + 2)) (by omega) (by omega) hgw) ⟨hx, hb, hml, hown, hts⟩ (cwV 2 hts g_law_79 rfl rfl rfl (by decide +kernel) ⟨Nat.le_of_ble_eq_true rfl, Nat.le_of_ble_eq_true rfl⟩) hKx hP hD hS hA 0 rfl 0 rfl rfl hl.1 rfl (Nat.le_of_ble_eq_true rfl) d_law_438 ⟨Nat.le_refl _, Nat.le_refl _⟩ (fun r1 u H locs hwc hP hD hS => ?_)
  have hP : va_P (dC, dI) classes (tt PX CX N fb g fn ft fs fl w wi now on ts tl lf ll ++ mm PM CM N tx lx nu ti si ro us bt w2 al now on tl2 ll2) H := hP
  have hD : va_D A (tt PX CX N fb g fn ft fs fl w wi now on ts tl lf ll ++ mm PM CM N tx lx nu ti si ro us bt w2 al now on tl2 ll2) := hD
  refine lv_aload_n hx hb d_law_441 rfl (lv_at hl 1 rfl) ?_
  refine lv_aload_n hx hb d_law_442 rfl (lv_at hl 3 rfl) ?_
  refine lv_iload_n hx hb d_law_443 rfl (lv_at hl 0 rfl) ?_
  refine lv_iconst (v := nI 1) hx hb d_law_444 (by decide) ?_
  refine lv_iadd hx hb d_law_445 ?_
  refine tp_i (nI (1 + 4 * cn + 1)) (nI_add _ _) ?_
  refine va_sld hx hb hX hbl hbA hS (vp_in_nI (n := 1 + 4 * cn + 1) (by omega) (by omega)) d_law_446 ?_
  refine tp_i (xs (1 + 4 * cn + 1)) (by rw [nI_clamp (by omega)]) ?_
  refine lv_aload_n hx hb d_law_447 rfl (lv_at hl 3 rfl) ?_
  refine lv_iload_n hx hb d_law_448 rfl (lv_at hl 0 rfl) ?_
  refine lv_iconst (v := nI 2) hx hb d_law_449 (by decide) ?_
  refine lv_iadd hx hb d_law_450 ?_
  refine tp_i (nI (1 + 4 * cn + 2)) (nI_add _ _) ?_
  refine va_sld hx hb hX hbl hbA hS (vp_in_nI (n := 1 + 4 * cn + 2) (by omega) (by omega)) d_law_451 ?_
  refine tp_i (xs (1 + 4 * cn + 2)) (by rw [nI_clamp (by omega)]) ?_
  have hP := fr_sw hP
  have hD := fr_swD hD
  refine tl_calli (mc_about l dC dI PM CM N H.size tx lx nu ti si ro us bt w2 al now on tl2 ll2 (xs (1 + 4 * cn + 1)) (xs (1 + 4 * cn + 2)) (by omega)) ⟨hx, hb, hml, hown, hts⟩ (cwV 2 hts g_law_82 rfl rfl rfl (by decide +kernel) ⟨Nat.le_of_ble_eq_true rfl, Nat.le_of_ble_eq_true rfl⟩) hKm hP hD hS hA 1 rfl 0 rfl rfl hl.1 rfl (Nat.le_of_ble_eq_true rfl) d_law_452 ⟨Nat.le_refl _, Nat.le_refl _⟩ (fun r2 u H locs hwm hP hD hS => ?_)
  have hP : va_P (dC, dI) classes (mm PM CM N tx lx nu ti si ro us bt w2 al now on tl2 ll2 ++ tt PX CX N fb g fn ft fs fl w wi now on ts tl lf ll) H := hP
  have hD : va_D A (mm PM CM N tx lx nu ti si ro us bt w2 al now on tl2 ll2 ++ tt PX CX N fb g fn ft fs fl w wi now on ts tl lf ll) := hD
  have hP := fr_sw hP
  have hD := fr_swD hD
  have he : r1 = r2 := by rw [hwc, hwm, (jr_ask J).2.2.1]
  have J := jr_c J hc
  refine lv_icmp_eq (tgt := 493) hx hb d_law_455 (by decide) (fun c_455 => ?_) (fun c_455 => ?_)
  · rw [hAe] at hD hS
    refine lv_iinc (v := nI (1 + 4 * (cn + 1))) (lv' := [(3, .int (nI (1 + 4 * (cn + 1)))), (2, .ref (PM 0)), (1, .ref (PX 0)), (0, .ref b)]) hx hb d_law_493 hl (k := 0) rfl (nI_4 _) (by decide) rfl (fun ls hl => ?_)
    refine lv_goto (tgt := 28) hx hb d_law_496 (by decide) ?_
    exact ih _ _ _ _ _ _ _ _ _ _ _ _ _ _ _ _ _ _ _ _ _ _ _ _ _ _ _ _ _ J hP hD hS hl
  · exact absurd he c_455

set_option maxHeartbeats 4000000 in
set_option maxRecDepth 100000 in
/-- the law: byteAt -/
theorem law_byteAt {p : Program} {l : Launch} {e : Env} {s : State} {m : MethodId} {below : List Frame} {meth : Method} {c : Code} {dC : Nat → ClassId} {dI : Nat → Nat → Nat} {b L : Nat} {xs : Nat → Int32} {N : Nat} {PX PM : Nat → Nat} {CX CM : Nat → ClassId} (F : LF p s m meth c dC dI b L xs CX CM) {cn : Nat} (ih : LH p l e s m below meth c dC dI b N PX PM CX CM (cn + 1)) (hc : cn < 512) (hi : 1 + 4 * cn + 4 ≤ L) (fb : Nat → Int32) (g : Nat → Nat) (fn ft : Nat → Int32) (fs fl : Nat → Nat) (w wi now : Nat) (on : Bool) (ts tl lf ll : Nat) (tx lx nu ti : Nat → Int32) (si ro : Nat → Nat) (us : Nat → Bool) (bt : Nat → Int32) (w2 al tl2 ll2 : Nat) (H : Heap) (locs : List Loc) (ls : Array Slot) (J : JR cn N fb g fn ft fs fl w wi now ts tl lf ll tx lx bt (nu, ti, si, ro, us, w2) al tl2 ll2) (hP : va_P (dC, dI) classes (tt PX CX N fb g fn ft fs fl w wi now on ts tl lf ll ++ mm PM CM N tx lx nu ti si ro us bt w2 al now on tl2 ll2) H) (hD : va_D (fun q : Nat => s.heap.size ≤ q) (tt PX CX N fb g fn ft fs fl w wi now on ts tl lf ll ++ mm PM CM N tx lx nu ti si ro us bt w2 al now on tl2 ll2)) (hS : va_S (fun q : Nat => s.heap.size ≤ q) s.heap H locs) (hl : lv_has ls 4 [(3, .int (nI (1 + 4 * cn))), (2, .ref (PM 0)), (1, .ref (PX 0)), (0, .ref b)]) : W p l e room_1 s m #[Value.ref b] below meth c H locs 600000 7302250 (lw_Z below #[Value.ref b] s) (F0 m 460 ls []) := by
  obtain ⟨hL, hx, hb, hr, hml, hown, hts, hX, hbl, hlocks, hKx, hKm⟩ := F
  obtain ⟨z1, z2, z3, z4, ⟨z5, z6, z7, hgw⟩, hfs, hfl, z8, z9, z10, z11, z12, z13, hro, hsi⟩ := jr_bd J
  obtain ⟨A, hAe⟩ : ∃ A : Nat → Prop, A = (fun q : Nat => s.heap.size ≤ q) := ⟨_, rfl⟩
  have hA : ∀ q : Nat, s.heap.size ≤ q → A q := fun q h => by rw [hAe]; exact h
  have hbA : ¬ A b := by rw [hAe]; exact Nat.not_le.mpr hbl
  rw [← hAe] at hD hS
  refine lv_aload_n hx hb d_law_460 rfl (lv_at hl 2 rfl) ?_
  refine lv_aload_n hx hb d_law_461 rfl (lv_at hl 3 rfl) ?_
  refine lv_iload_n hx hb d_law_462 rfl (lv_at hl 0 rfl) ?_
  refine lv_iconst (v := nI 1) hx hb d_law_463 (by decide) ?_
  refine lv_iadd hx hb d_law_464 ?_
  refine tp_i (nI (1 + 4 * cn + 1)) (nI_add _ _) ?_
  refine va_sld hx hb hX hbl hbA hS (vp_in_nI (n := 1 + 4 * cn + 1) (by omega) (by omega)) d_law_465 ?_
  refine tp_i (xs (1 + 4 * cn + 1)) (by rw [nI_clamp (by omega)]) ?_
  refine lv_aload_n hx hb d_law_466 rfl (lv_at hl 3 rfl) ?_
  refine lv_iload_n hx hb d_law_467 rfl (lv_at hl 0 rfl) ?_
  refine lv_iconst (v := nI 2) hx hb d_law_468 (by decide) ?_
  refine lv_iadd hx hb d_law_469 ?_
  refine tp_i (nI (1 + 4 * cn + 2)) (nI_add _ _) ?_
  refine va_sld hx hb hX hbl hbA hS (vp_in_nI (n := 1 + 4 * cn + 2) (by omega) (by omega)) d_law_470 ?_
  refine tp_i (xs (1 + 4 * cn + 2)) (by rw [nI_clamp (by omega)]) ?_
  refine tl_calli (c_byteAt l dC dI PX CX N H.size fb g fn ft fs fl w wi now on ts tl lf ll (xs (1 + 4 * cn + 1)) (xs (1 + 4 * cn + 2)) (by omega) (by omega) hgw hfl) ⟨hx, hb, hml, hown, hts⟩ (cwV 2 hts g_law_83 rfl rfl rfl (by decide +kernel) ⟨Nat.le_of_ble_eq_true rfl, Nat.le_of_ble_eq_true rfl⟩) hKx hP hD hS hA 0 rfl 0 rfl rfl hl.1 rfl (Nat.le_of_ble_eq_true rfl) d_law_471 ⟨Nat.le_refl _, Nat.le_refl _⟩ (fun r1 u H locs hwc hP hD hS => ?_)
  have hP : va_P (dC, dI) classes (tt PX CX N fb g fn ft fs fl w wi now on ts tl lf ll ++ mm PM CM N tx lx nu ti si ro us bt w2 al now on tl2 ll2) H := hP
  have hD : va_D A (tt PX CX N fb g fn ft fs fl w wi now on ts tl lf ll ++ mm PM CM N tx lx nu ti si ro us bt w2 al now on tl2 ll2) := hD
  refine lv_aload_n hx hb d_law_474 rfl (lv_at hl 1 rfl) ?_
  refine lv_aload_n hx hb d_law_475 rfl (lv_at hl 3 rfl) ?_
  refine lv_iload_n hx hb d_law_476 rfl (lv_at hl 0 rfl) ?_
  refine lv_iconst (v := nI 1) hx hb d_law_477 (by decide) ?_
  refine lv_iadd hx hb d_law_478 ?_
  refine tp_i (nI (1 + 4 * cn + 1)) (nI_add _ _) ?_
  refine va_sld hx hb hX hbl hbA hS (vp_in_nI (n := 1 + 4 * cn + 1) (by omega) (by omega)) d_law_479 ?_
  refine tp_i (xs (1 + 4 * cn + 1)) (by rw [nI_clamp (by omega)]) ?_
  refine lv_aload_n hx hb d_law_480 rfl (lv_at hl 3 rfl) ?_
  refine lv_iload_n hx hb d_law_481 rfl (lv_at hl 0 rfl) ?_
  refine lv_iconst (v := nI 2) hx hb d_law_482 (by decide) ?_
  refine lv_iadd hx hb d_law_483 ?_
  refine tp_i (nI (1 + 4 * cn + 2)) (nI_add _ _) ?_
  refine va_sld hx hb hX hbl hbA hS (vp_in_nI (n := 1 + 4 * cn + 2) (by omega) (by omega)) d_law_484 ?_
  refine tp_i (xs (1 + 4 * cn + 2)) (by rw [nI_clamp (by omega)]) ?_
  have hP := fr_sw hP
  have hD := fr_swD hD
  refine tl_calli (mc_byteAt l dC dI PM CM N H.size tx lx nu ti si ro us bt w2 al now on tl2 ll2 (xs (1 + 4 * cn + 1)) (xs (1 + 4 * cn + 2)) (by omega) hro hsi) ⟨hx, hb, hml, hown, hts⟩ (cwV 2 hts g_law_86 rfl rfl rfl (by decide +kernel) ⟨Nat.le_of_ble_eq_true rfl, Nat.le_of_ble_eq_true rfl⟩) hKm hP hD hS hA 1 rfl 0 rfl rfl hl.1 rfl (Nat.le_of_ble_eq_true rfl) d_law_485 ⟨Nat.le_refl _, Nat.le_refl _⟩ (fun r2 u H locs hwm hP hD hS => ?_)
  have hP : va_P (dC, dI) classes (mm PM CM N tx lx nu ti si ro us bt w2 al now on tl2 ll2 ++ tt PX CX N fb g fn ft fs fl w wi now on ts tl lf ll) H := hP
  have hD : va_D A (mm PM CM N tx lx nu ti si ro us bt w2 al now on tl2 ll2 ++ tt PX CX N fb g fn ft fs fl w wi now on ts tl lf ll) := hD
  have hP := fr_sw hP
  have hD := fr_swD hD
  have he : r1 = r2 := by rw [hwc, hwm, (jr_ask J).2.2.2]
  have J := jr_c J hc
  refine lv_icmp_eq (tgt := 493) hx hb d_law_488 (by decide) (fun c_488 => ?_) (fun c_488 => ?_)
  · rw [hAe] at hD hS
    refine lv_iinc (v := nI (1 + 4 * (cn + 1))) (lv' := [(3, .int (nI (1 + 4 * (cn + 1)))), (2, .ref (PM 0)), (1, .ref (PX 0)), (0, .ref b)]) hx hb d_law_493 hl (k := 0) rfl (nI_4 _) (by decide) rfl (fun ls hl => ?_)
    refine lv_goto (tgt := 28) hx hb d_law_496 (by decide) ?_
    exact ih _ _ _ _ _ _ _ _ _ _ _ _ _ _ _ _ _ _ _ _ _ _ _ _ _ _ _ _ _ J hP hD hS hl
  · exact absurd he c_488
end
section
set_option maxHeartbeats 4000000 in
set_option maxRecDepth 100000 in
/-- the loop of the law -/
theorem law_loop {p : Program} {l : Launch} {e : Env} {s : State} {m : MethodId} {below : List Frame} {meth : Method} {c : Code} {dC : Nat → ClassId} {dI : Nat → Nat → Nat} {b L : Nat} {xs : Nat → Int32} {N : Nat} {PX PM : Nat → Nat} {CX CM : Nat → ClassId} (F : LF p s m meth c dC dI b L xs CX CM) : ∀ (n cn : Nat), cn + n = 513 → LH p l e s m below meth c dC dI b N PX PM CX CM cn := by
  intro n
  induction n with
  | zero =>
    intro cn hn
    intro fb g fn ft fs fl w wi now on ts tl lf ll tx lx nu ti si ro us bt w2 al tl2 ll2 H locs ls J
    have := (jr_bd J).2.2.2.2.2.2.2.2.1
    omega
  | succ n ihn =>
    intro cn hn
    have ih : LH p l e s m below meth c dC dI b N PX PM CX CM (cn + 1) := ihn (cn + 1) (by omega)
    intro fb g fn ft fs fl w wi now on ts tl lf ll tx lx nu ti si ro us bt w2 al tl2 ll2 H locs ls J hP hD hS hl
    obtain ⟨hL, hx, hb, hr, hml, hown, hts, hX, hbl, hlocks, hKx, hKm⟩ := id F
    have hcn := (jr_bd J).2.2.2.2.2.2.2.2.1
    have hbA : ¬ (fun q : Nat => s.heap.size ≤ q) b := Nat.not_le.mpr hbl
    refine lv_iload_n hx hb d_law_28 rfl (lv_at hl 0 rfl) ?_
    refine lv_aload_n hx hb d_law_29 rfl (lv_at hl 3 rfl) ?_
    refine va_slen hx hb hX hbl hbA hS d_law_30 ?_
    refine lv_iconst (v := nI 4) hx hb d_law_31 (by decide) ?_
    refine lv_isub hx hb d_law_32 ?_
    refine lv_icmp_gt (tgt := 499) hx hb d_law_33 (by decide) (fun c_33 => ?_) (fun c_33 => ?_)
    · refine lv_iconst (v := 1) hx hb d_law_499 (by decide) ?_
      refine va_forget (fun q hq => hS.2.2 q hq) ?_
      exact lw_ret hx hb hr hlocks d_law_500
    · have hi : 1 + 4 * cn + 4 ≤ L := by
        have q1 : ¬ (nI L - nI 4).toInt < (nI (1 + 4 * cn)).toInt := fun q => c_33 (Int32.lt_iff_toInt_lt.mpr q)
        rw [pk_sub_toInt (by omega) (by omega), nI_toInt (by omega)] at q1
        omega
      have hc : cn < 512 := by omega
      refine lv_aload_n hx hb d_law_36 rfl (lv_at hl 3 rfl) ?_
      refine lv_iload_n hx hb d_law_37 rfl (lv_at hl 0 rfl) ?_
      refine va_sld hx hb hX hbl hbA hS (vp_in_nI (n := 1 + 4 * cn) (by omega) (by omega)) d_law_38 ?_
      refine lv_bipush (v := nI 15) hx hb d_law_39 (by decide) ?_
      refine lv_iand hx hb d_law_41 ?_
      obtain ⟨k, hk, ek⟩ := pk_andE (xs (nI (1 + 4 * cn)).toNatClampNeg) (m := nI 15) 4 (by decide)
      refine tp_i (nI k) ek ?_
      by_cases e0 : k = 0
      · subst e0
        refine lv_tableIn (tgt := 116) hx hb d_law_42 (by decide) (by decide) rfl (by decide) ?_
        exact law_put F ih hc hi _ _ _ _ _ _ _ _ _ _ _ _ _ _ _ _ _ _ _ _ _ _ _ _ _ _ H locs ls J hP hD hS hl
      by_cases e1 : k = 1
      · subst e1
        refine lv_tableIn (tgt := 139) hx hb d_law_42 (by decide) (by decide) rfl (by decide) ?_
        exact law_insert F ih hc hi _ _ _ _ _ _ _ _ _ _ _ _ _ _ _ _ _ _ _ _ _ _ _ _ _ _ H locs ls J hP hD hS hl
      by_cases e2 : k = 2
      · subst e2
        refine lv_tableIn (tgt := 172) hx hb d_law_42 (by decide) (by decide) rfl (by decide) ?_
        exact law_remove F ih hc hi _ _ _ _ _ _ _ _ _ _ _ _ _ _ _ _ _ _ _ _ _ _ _ _ _ _ H locs ls J hP hD hS hl
      by_cases e3 : k = 3
      · subst e3
        refine lv_tableIn (tgt := 195) hx hb d_law_42 (by decide) (by decide) rfl (by decide) ?_
        exact law_removeSpan F ih hc hi _ _ _ _ _ _ _ _ _ _ _ _ _ _ _ _ _ _ _ _ _ _ _ _ _ _ H locs ls J hP hD hS hl
      by_cases e4 : k = 4
      · subst e4
        refine lv_tableIn (tgt := 228) hx hb d_law_42 (by decide) (by decide) rfl (by decide) ?_
        exact law_shift F ih hc hi _ _ _ _ _ _ _ _ _ _ _ _ _ _ _ _ _ _ _ _ _ _ _ _ _ _ H locs ls J hP hD hS hl
      by_cases e5 : k = 5
      · subst e5
        refine lv_tableIn (tgt := 251) hx hb d_law_42 (by decide) (by decide) rfl (by decide) ?_
        exact law_shiftSpan F ih hc hi _ _ _ _ _ _ _ _ _ _ _ _ _ _ _ _ _ _ _ _ _ _ _ _ _ _ H locs ls J hP hD hS hl
      by_cases e6 : k = 6
      · subst e6
        refine lv_tableIn (tgt := 294) hx hb d_law_42 (by decide) (by decide) rfl (by decide) ?_
        exact law_enable F ih hc hi _ _ _ _ _ _ _ _ _ _ _ _ _ _ _ _ _ _ _ _ _ _ _ _ _ _ H locs ls J hP hD hS hl
      by_cases e7 : k = 7
      · subst e7
        refine lv_tableIn (tgt := 331) hx hb d_law_42 (by decide) (by decide) rfl (by decide) ?_
        exact law_isOn F ih hc hi _ _ _ _ _ _ _ _ _ _ _ _ _ _ _ _ _ _ _ _ _ _ _ _ _ _ H locs ls J hP hD hS hl
      by_cases e8 : k = 8
      · subst e8
        refine lv_tableIn (tgt := 344) hx hb d_law_42 (by decide) (by decide) rfl (by decide) ?_
        exact law_reset F ih hc hi _ _ _ _ _ _ _ _ _ _ _ _ _ _ _ _ _ _ _ _ _ _ _ _ _ _ H locs ls J hP hD hS hl
      by_cases e9 : k = 9
      · subst e9
        refine lv_tableIn (tgt := 355) hx hb d_law_42 (by decide) (by decide) rfl (by decide) ?_
        exact law_tick F ih hc hi _ _ _ _ _ _ _ _ _ _ _ _ _ _ _ _ _ _ _ _ _ _ _ _ _ _ H locs ls J hP hD hS hl
      by_cases e10 : k = 10
      · subst e10
        refine lv_tableIn (tgt := 368) hx hb d_law_42 (by decide) (by decide) rfl (by decide) ?_
        exact law_leave F ih hc hi _ _ _ _ _ _ _ _ _ _ _ _ _ _ _ _ _ _ _ _ _ _ _ _ _ _ H locs ls J hP hD hS hl
      by_cases e11 : k = 11
      · subst e11
        refine lv_tableIn (tgt := 381) hx hb d_law_42 (by decide) (by decide) rfl (by decide) ?_
        exact law_left F ih hc hi _ _ _ _ _ _ _ _ _ _ _ _ _ _ _ _ _ _ _ _ _ _ _ _ _ _ H locs ls J hP hD hS hl
      by_cases e12 : k = 12
      · subst e12
        refine lv_tableIn (tgt := 404) hx hb d_law_42 (by decide) (by decide) rfl (by decide) ?_
        exact law_count F ih hc hi _ _ _ _ _ _ _ _ _ _ _ _ _ _ _ _ _ _ _ _ _ _ _ _ _ _ H locs ls J hP hD hS hl
      by_cases e13 : k = 13
      · subst e13
        refine lv_tableIn (tgt := 427) hx hb d_law_42 (by decide) (by decide) rfl (by decide) ?_
        exact law_about F ih hc hi _ _ _ _ _ _ _ _ _ _ _ _ _ _ _ _ _ _ _ _ _ _ _ _ _ _ H locs ls J hP hD hS hl
      by_cases e14 : k = 14
      · subst e14
        refine lv_tableIn (tgt := 460) hx hb d_law_42 (by decide) (by decide) rfl (by decide) ?_
        exact law_byteAt F ih hc hi _ _ _ _ _ _ _ _ _ _ _ _ _ _ _ _ _ _ _ _ _ _ _ _ _ _ H locs ls J hP hD hS hl
      have e15 : k = 15 := by omega
      subst e15
      refine lv_tableOut (tgt := 493) hx hb d_law_42 (by decide) (by decide) ?_
      refine lv_iinc (v := nI (1 + 4 * (cn + 1))) (lv' := [(3, .int (nI (1 + 4 * (cn + 1)))), (2, .ref (PM 0)), (1, .ref (PX 0)), (0, .ref b)]) hx hb d_law_493 hl (k := 0) rfl (nI_4 _) (by decide) rfl (fun ls hl => ?_)
      refine lv_goto (tgt := 28) hx hb d_law_496 (by decide) ?_
      exact ih _ _ _ _ _ _ _ _ _ _ _ _ _ _ _ _ _ _ _ _ _ _ _ _ _ _ _ _ _ (jr_c J hc) hP hD hS hl
end
section
set_option maxHeartbeats 4000000 in
set_option maxRecDepth 100000 in
/-- THE LAW, from its entry -/
theorem whole_start {p : Program} {e : Env} {s : State} {m : MethodId} {below : List Frame} {meth : Method} {c : Code} (l : Launch) {b L : Nat} {xs : Nat → Int32} (hL : L ≤ 2049) (C0 : lw_At p s m meth c b L xs) : W p l e room_1 s m #[Value.ref b] below meth c s.heap [] 0 0 (lw_Z below #[Value.ref b] s) (entryFrame m ([Value.ref b] : List Value).toArray 4) := by
  obtain ⟨hx, hb, hr, hml, hown, hts0, hX, hbl, hlocks, hgv⟩ := id C0
  have hts := lw_gt hts0
  have hA : ∀ q : Nat, s.heap.size ≤ q → (fun q : Nat => s.heap.size ≤ q) q := fun _ h => h
  have hbA : ¬ (fun q : Nat => s.heap.size ≤ q) b := Nat.not_le.mpr hbl
  obtain ⟨c0, iS0, hKn0⟩ := u_known (C := R_TT) (T := F_TT) (N := 14) (n := 14) hts i_TT (hts _ ns_TT)
  obtain ⟨c1, iS1, hKn1⟩ := u_known (C := R_TM) (T := F_TM) (N := 16) (n := 16) hts i_TM (hts _ ns_TM)
  obtain ⟨dC, dI, hKc⟩ : ∃ (dC : Nat → ClassId) (dI : Nat → Nat → Nat), ∀ (k : Nat) (q : vw_C), classes[k]? = some q → u_Kn s q.1 q.2.1 q.2.2 (dC k) (dI k) := by
    refine ⟨fun k => if k = 0 then c0 else c1, fun k => if k = 0 then iS0 else iS1, ?_⟩
    intro k q hq
    match k, hq with
    | 0, hq => cases hq; exact hKn0
    | 1, hq => cases hq; exact hKn1
    | k + 2, hq => simp [classes] at hq
  have hS : va_S (fun q : Nat => s.heap.size ≤ q) s.heap s.heap [] := va_S.rf
  have hK : va_K (dC, dI) classes [] s := ⟨hKc, fun k q h => by simp at h⟩
  have hP : va_P (dC, dI) classes [] s.heap := fun k q h => by simp at h
  have hD : va_D (fun q : Nat => s.heap.size ≤ q) [] := ⟨fun i j p q h => by simp at h, fun k q h => by simp at h⟩
  have hl := lv_entry ([.ref b]) (n := 4) (Nat.le_of_ble_eq_true rfl)
  rw [lg_entry_eq]
  generalize (lg_sl ([.ref b]) ++ List.replicate (4 - (lg_sl ([.ref b])).length) Slot.unset).toArray = ls at hl ⊢
  have hl : lv_has ls 4 [(0, .ref b)] := hl
  obtain ⟨most, hmost⟩ : ∃ z : Int32, z = (if 0 < L then xs 0 else 0) := ⟨_, rfl⟩
  have hcell := c_cell l b L xs hL
  rw [← hmost] at hcell
  obtain ⟨N, hN1, hN2, hcap⟩ := cap_N most
  have hpre : ∀ (H : Heap) (locs : List Loc), va_S (fun q : Nat => s.heap.size ≤ q) s.heap H locs → PreS s H (va_Pc [.ref b, .int (nI 0)] (fun U => va_X b L xs U U.heap)) [.ref b, .int (nI 0)] := by
    intro H locs hS
    refine ⟨fun a U g mk q => ⟨q.1, va_X.moved (u := U) (U := U.calling g mk a) (Vm.Alike.refl U.vm) q.2⟩, fun U hU hW => ⟨rfl, ?_⟩⟩
    show va_X b L xs U U.heap
    rw [hU]
    exact va_X.moved hW.alike (hX.kept (hS.2.1 b hbl hbA))
  refine va_new (ci := 0) (fs := [.null, .null, .null, .null, .null, .null, .int (nI 0), .int (nI 0), .int (nI 0), .int (bI false), .int (nI 0), .int (nI 0), .int (nI 0), .int (nI 0)]) (C := R_TT) (T := F_TT) (N := 14) hx hb hts i_TT t_TT t_TT_ok hown (hts _ cl_TT) (hts _ ns_TT) (hts _ in_TT) hK hP hD hS hA rfl (fun j hj => by rcases (show j = 0 ∨ j = 1 ∨ j = 2 ∨ j = 3 ∨ j = 4 ∨ j = 5 ∨ j = 6 ∨ j = 7 ∨ j = 8 ∨ j = 9 ∨ j = 10 ∨ j = 11 ∨ j = 12 ∨ j = 13 by omega) with rfl | rfl | rfl | rfl | rfl | rfl | rfl | rfl | rfl | rfl | rfl | rfl | rfl | rfl <;> rfl) (Nat.le_of_ble_eq_true rfl) (Nat.le_of_ble_eq_true rfl) d_law_0 (fun q0 H hP hD hS => ?_)
  have hP : va_P (dC, dI) classes ([(q0, .inr (0, [.null, .null, .null, .null, .null, .null, .int (nI 0), .int (nI 0), .int (nI 0), .int (bI false), .int (nI 0), .int (nI 0), .int (nI 0), .int (nI 0)]))] ++ []) H := hP
  have hD : va_D (fun q : Nat => s.heap.size ≤ q) ([(q0, .inr (0, [.null, .null, .null, .null, .null, .null, .int (nI 0), .int (nI 0), .int (nI 0), .int (bI false), .int (nI 0), .int (nI 0), .int (nI 0), .int (nI 0)]))] ++ []) := hD
  refine lv_dup hx hb d_law_3 rfl ?_
  refine lv_aload_n hx hb d_law_4 rfl (lv_at hl 0 rfl) ?_
  refine lv_iconst (v := nI 0) hx hb d_law_5 (by decide) ?_
  refine W.callR (W.runS (As := [.ref b, .int (nI 0)]) (rest := [.ref q0, .ref q0]) ⟨hx, hb, hml, hown, hts⟩ hcell (cwS 2 hts g_law_9 rfl rfl rfl (by decide +kernel) ⟨Nat.le_of_ble_eq_true rfl, Nat.le_of_ble_eq_true rfl⟩) (hpre _ _ hS) rfl rfl hl.1 rfl (lv_room (Nat.le_of_ble_eq_true rfl)) d_law_6 ⟨Nat.le_of_ble_eq_true rfl, Nat.le_of_ble_eq_true rfl⟩) ?_
  refine W.eq (g2 := F0 m 9 ls [.int most, .ref q0, .ref q0]) rfl ?_
  refine tl_callI (c_init l dC dI q0 H.size most N hN1 hN2 hcap) ⟨hx, hb, hml, hown, hts⟩ (cwI 1 hts (gd0 co_TT_init) rfl rfl rfl (hts _ in_TT) (hts _ ml_law_15) (hts _ im_TT_init) rfl (by decide +kernel) ⟨Nat.le_of_ble_eq_true rfl, Nat.le_of_ble_eq_true rfl⟩) hK hP hD hS hA rfl hl.1 rfl (Nat.le_of_ble_eq_true rfl) d_law_9 ⟨Nat.le_of_ble_eq_true rfl, Nat.le_of_ble_eq_true rfl⟩ (fun u H2 locs2 hpost hP2 hD2 hKx hS2 => ?_)
  obtain ⟨PX, CX⟩ := u
  have hpost : PX 0 = q0 := hpost
  subst hpost
  clear hP hD hS
  have hP : va_P (dC, dI) classes (tt PX CX N (fun _ => 0) (g_id N) (fun _ => 0) (fun _ => 0) (fun _ => 0) (fun _ => 0) 0 0 0 false 0 0 0 0 ++ []) H2 := hP2
  have hD : va_D (fun q : Nat => s.heap.size ≤ q) (tt PX CX N (fun _ => 0) (g_id N) (fun _ => 0) (fun _ => 0) (fun _ => 0) (fun _ => 0) 0 0 0 false 0 0 0 0 ++ []) := hD2
  have hS := hS2
  have hKx : va_K (dC, dI) classes (tys_T CX) s := hKx
  rw [List.append_nil] at hP hD
  refine lv_astore_n (lv' := [(1, .ref (PX 0)), (0, .ref b)]) hx hb d_law_12 rfl hl (by decide) rfl (fun ls hl => ?_)
  refine va_new (ci := 1) (fs := [.int (nI 0), .int (nI 0), .int (nI 0), .int (bI false), .int (nI 0), .null, .int (nI 0), .null, .int (nI 0), .int (nI 0), .null, .null, .null, .null, .null, .null]) (C := R_TM) (T := F_TM) (N := 16) hx hb hts i_TM t_TM t_TM_ok hown (hts _ cl_TM) (hts _ ns_TM) (hts _ in_TM) hK hP hD hS hA rfl (fun j hj => by rcases (show j = 0 ∨ j = 1 ∨ j = 2 ∨ j = 3 ∨ j = 4 ∨ j = 5 ∨ j = 6 ∨ j = 7 ∨ j = 8 ∨ j = 9 ∨ j = 10 ∨ j = 11 ∨ j = 12 ∨ j = 13 ∨ j = 14 ∨ j = 15 by omega) with rfl | rfl | rfl | rfl | rfl | rfl | rfl | rfl | rfl | rfl | rfl | rfl | rfl | rfl | rfl | rfl <;> rfl) (Nat.le_of_ble_eq_true rfl) (Nat.le_of_ble_eq_true rfl) d_law_13 (fun q1 H hP hD hS => ?_)
  have hP : va_P (dC, dI) classes ([(q1, .inr (1, [.int (nI 0), .int (nI 0), .int (nI 0), .int (bI false), .int (nI 0), .null, .int (nI 0), .null, .int (nI 0), .int (nI 0), .null, .null, .null, .null, .null, .null]))] ++ tt PX CX N (fun _ => 0) (g_id N) (fun _ => 0) (fun _ => 0) (fun _ => 0) (fun _ => 0) 0 0 0 false 0 0 0 0) H := fr_sw hP
  have hD : va_D (fun q : Nat => s.heap.size ≤ q) ([(q1, .inr (1, [.int (nI 0), .int (nI 0), .int (nI 0), .int (bI false), .int (nI 0), .null, .int (nI 0), .null, .int (nI 0), .int (nI 0), .null, .null, .null, .null, .null, .null]))] ++ tt PX CX N (fun _ => 0) (g_id N) (fun _ => 0) (fun _ => 0) (fun _ => 0) (fun _ => 0) 0 0 0 false 0 0 0 0) := fr_swD hD
  refine lv_dup hx hb d_law_16 rfl ?_
  refine lv_aload_n hx hb d_law_17 rfl (lv_at hl 1 rfl) ?_
  refine lv_iconst (v := nI 0) hx hb d_law_18 (by decide) ?_
  refine W.callR (W.runS (As := [.ref b, .int (nI 0)]) (rest := [.ref q1, .ref q1]) ⟨hx, hb, hml, hown, hts⟩ hcell (cwS 2 hts g_law_9 rfl rfl rfl (by decide +kernel) ⟨Nat.le_of_ble_eq_true rfl, Nat.le_of_ble_eq_true rfl⟩) (hpre _ _ hS) rfl rfl hl.1 rfl (lv_room (Nat.le_of_ble_eq_true rfl)) d_law_19 ⟨Nat.le_of_ble_eq_true rfl, Nat.le_of_ble_eq_true rfl⟩) ?_
  refine W.eq (g2 := F0 m 22 ls [.int most, .ref q1, .ref q1]) rfl ?_
  refine tl_callI (mc_init l dC dI q1 H.size most N hcap) ⟨hx, hb, hml, hown, hts⟩ (cwI 1 hts (gd0 co_TM_init) rfl rfl rfl (hts _ in_TM) (hts _ ml_law_20) (hts _ im_TM_init) rfl (by decide +kernel) ⟨Nat.le_of_ble_eq_true rfl, Nat.le_of_ble_eq_true rfl⟩) hK hP hD hS hA rfl hl.1 rfl (Nat.le_of_ble_eq_true rfl) d_law_22 ⟨Nat.le_of_ble_eq_true rfl, Nat.le_of_ble_eq_true rfl⟩ (fun u H4 locs4 hpost hP4 hD4 hKm hS4 => ?_)
  obtain ⟨PM, CM⟩ := u
  have hpost : PM 0 = q1 := hpost
  subst hpost
  clear hP hD hS
  have hP : va_P (dC, dI) classes (mm PM CM N (fun _ => 0) (fun _ => 0) (fun _ => 0) (fun _ => 0) (fun _ => 0) (fun _ => 0) (fun _ => false) (fun _ => 0) 0 0 0 false 0 0 ++ tt PX CX N (fun _ => 0) (g_id N) (fun _ => 0) (fun _ => 0) (fun _ => 0) (fun _ => 0) 0 0 0 false 0 0 0 0) H4 := hP4
  have hD : va_D (fun q : Nat => s.heap.size ≤ q) (mm PM CM N (fun _ => 0) (fun _ => 0) (fun _ => 0) (fun _ => 0) (fun _ => 0) (fun _ => 0) (fun _ => false) (fun _ => 0) 0 0 0 false 0 0 ++ tt PX CX N (fun _ => 0) (g_id N) (fun _ => 0) (fun _ => 0) (fun _ => 0) (fun _ => 0) 0 0 0 false 0 0 0 0) := hD4
  have hS := hS4
  have hKm : va_K (dC, dI) classes (tys_M CM) s := hKm
  refine lv_astore_n (lv' := [(2, .ref (PM 0)), (1, .ref (PX 0)), (0, .ref b)]) hx hb d_law_25 rfl hl (by decide) rfl (fun ls hl => ?_)
  refine lv_iconst (v := nI 1) hx hb d_law_26 (by decide) ?_
  refine lv_istore_n (lv' := [(3, .int (nI 1)), (2, .ref (PM 0)), (1, .ref (PX 0)), (0, .ref b)]) hx hb d_law_27 rfl hl (by decide) rfl (fun ls hl => ?_)
  refine W.widen (k := 600000) (n := 7302250) (Nat.le_of_ble_eq_true rfl) (Nat.le_of_ble_eq_true rfl) ?_
  have F : LF p s m meth c dC dI b L xs CX CM := ⟨hL, hx, hb, hr, hml, hown, hts, hX, hbl, hlocks, hKx, hKm⟩
  exact law_loop F 513 0 rfl _ _ _ _ _ _ _ _ _ _ _ _ _ _ _ _ _ _ _ _ _ _ _ _ _ _ H4 locs4 ls (jr_new N hN1 hN2) (fr_sw hP) (fr_swD hD) hS hl
end
section
set_option maxHeartbeats 4000000 in
theorem lw_walk (l : Launch) (b : Addr) (xs : List Int32) : MetFree l x (headSpec (Jvm.Cond.code x code maxLocals ret :: tables_1) room_1) (lw_P b xs) (fun _ _ _ _ _ => True) lw_Q := by
  refine MetFree.of_bodyS (code := code) (maxLocals := maxLocals) (ret := ret) (by decide) ?_ ?_
  · intro args s m h hn
    obtain ⟨meth, c, h1, h2, h3, h4, h5, h6, -, -⟩ := Cond.code_spec hn (atoms_spec (ws := Jvm.Cond.code x code maxLocals ret :: tables_1) h _ List.mem_cons_self)
    exact ⟨meth, c, h1, h2, h3, h4, h5, h6⟩
  · intro p e s m args below meth c s₁ B hml0 hP _
    obtain ⟨rfl, hx, hbd, hgv⟩ := hP
    obtain ⟨scr, harrAt, hlist, hof, hsmall⟩ := hx
    obtain ⟨hcb, hkn, -, -⟩ := State.arrayAt?_spec harrAt
    have hown : s.vm.findClass R_law = some m.cls := findClass_of_methodNamed B.named
    have hts0 : ∀ c ∈ (Jvm.Cond.code x code maxLocals ret :: tables_1), c.before #[Value.ref b] s = true := atoms_spec (ws := Jvm.Cond.code x code maxLocals ret :: tables_1) B.pre
    have hts : ∀ w ∈ lw_tbl, w.before #[Value.ref b] s = true := k2_hts_sels lw_privs (fun w hw => hts0 w (List.mem_cons_of_mem _ hw)) lw_privs_ok
    have hml : c.maxLocals = 4 := B.maxLocals_eq (hts0 _ List.mem_cons_self)
    have X₀ : Stand p l e room_1 s m #[Value.ref b] below meth c s₁ [] 0 0 := Stand.of_body B
    have hh0 : s₁.heap = s.heap := by rw [B.state]; rfl
    have hsz : scr.slots.size = xs.length := by rw [← Array.length_toList, hlist, List.length_map]
    have hval : ∀ j : Nat, j < xs.length → scr.slots[j]? = some (.int (xs.getD j 0)) := fun j hj => by
      rw [← Array.getElem?_toList, hlist]
      simp [hj]
    have hbl : b < s.heap.size := (Array.getElem?_eq_some_iff.mp hcb).1
    have hX : va_X b xs.length (fun j => xs.getD j 0) s s.heap := ⟨scr, hcb, hof, hkn, hsz, hval⟩
    have K : W p l e room_1 s m #[Value.ref b] below meth c s₁.heap [] 0 0 (lw_Z below #[Value.ref b] s) (entryFrame m ([Value.ref b] : List Value).toArray 4) := by
      rw [hh0]
      exact whole_start l hbd ⟨B.exec, B.bytes, B.returns, hml, hown, hts, hX, hbl, B.notSynchronized, hgv⟩
    obtain ⟨t, a1, o, b1, b2, b3⟩ := K s₁ rfl X₀
    exact ⟨t, o, a1, b1, b2, b3⟩
theorem lw_pre_spec {args : Array Value} {s : State} (h : (Jvm.Cond.and given_1 narrow_1).before args s = true) (hr : rest_1_c.before args s = true) : ∃ (b : Addr) (xs : List Int32), lw_P b xs args s := by
  have hs := flat_of_before _ h
  have hq := flat_of_before _ hr
  have hc : (Cond.count 1).before args s = true := hs _ (by decide +kernel)
  have harr : (Cond.arrayOf (.arg 0) .int).before args s = true := hs _ (by decide +kernel)
  have hle : (Cond.le (.length (.arg 0)) (.int 2049)).before args s = true := hs _ (by decide +kernel)
  have hlen : (Cond.isInt (.length (.arg 0))).before args s = true := hq _ (by decide +kernel)
  have hall : (Cond.all (.arg 0) (.isInt (.elem (.arg 0) (.index 0)))).before args s = true := hq _ (by decide +kernel)
  obtain ⟨b, xs, hb, hx⟩ := State.ints_of_pre rfl harr hlen hall
  have hsm : xs.length < 2 ^ 31 := hx.choose_spec.2.2.2
  have hev : (Term.length (.arg 0)).eval args s none [] s = some (.int xs.length.toInt32) := hx.length_eval hb
  have hv := Cond.le_ints hev (show (Term.int 2049).eval args s none [] s = some (.int 2049) from rfl)
  have hd : xs.length.toInt32 ≤ 2049 := by
    simpa [Cond.before, Cond.holds, hv] using hle
  have hN : xs.length ≤ 2049 := (Int32.ofNat_le_ofNat hsm (by decide)).mp (show Int32.ofNat xs.length ≤ Int32.ofNat 2049 from hd)
  exact ⟨b, xs, Cond.one_arg hc (show args[0]? = some (.ref b) from hb), hx, hN, h⟩
theorem lw_comes (l : Launch) : Comes l x (Jvm.Cond.code x code maxLocals ret :: tables_1) room_1 (fun tb e args s => Calls_1 tb e args s ∧ rest_1 tb e args s ∧ Pre_1 tb e args s)
    (fun _ _ args s o t => lw_Q args s o t) := by
  intro p e ha hc hk s m args below hf hfit hheap happ hpre
  obtain ⟨b, xs, hP⟩ := lw_pre_spec hpre.2.2 hpre.2.1
  obtain ⟨k, o, h1, h2, h3, hQ⟩ := lw_walk l b xs p e ha hc hk s m args below hf ((Spec.applies_iff_loose hf).mp happ).1 hP trivial
  exact ⟨k, o, h1, h2, h3, hQ⟩
theorem lw_frame {s t : State} {o : Outcome} {args : Array Value} (h : Framed s o t [] 600000 7302250) :
    Framed s o t (fieldLocs frame_1_writes args s ++ arrayLocs frame_1_arrays args s ++ staticLocs frame_1_statics s) 600000 7302250 := h
theorem lw_limb (L : Cond) (hL : ∀ (args : Array Value) (s t : State), L.after args s (.returned (some (.int 1))) t = true) :
    ArmFor flags0 classFile x code maxLocals ret World_1 tables_1 room_1 Calls_1 rest_1 Pre_1
      (fun tb e a s o t => postC L tb e a s o t ∧ Framed s o t (fieldLocs frame_1_writes a s ++ arrayLocs frame_1_arrays a s ++ staticLocs frame_1_statics s) 600000 7302250) := by
  intro l _ _ _ p e ha hc hk s m args below hf hfit hheap happ hpre
  obtain ⟨k, o, h1, h2, h3, rfl, hF⟩ := lw_comes l p e ha hc hk s m args below hf hfit hheap happ hpre
  exact ⟨k, _, h1, h2, h3, hL args s _, lw_frame hF⟩
theorem i_vc : Claimed_1_1 ∧ Claimed_1_2 := ⟨lw_limb limb_1_1 (fun args s t => by simp [limb_1_1, Cond.after, Cond.holds, Cond.value]), lw_limb limb_1_2 (fun args s t => Cond.after_iff.mpr (by
  first | (rw [show limb_1_2 = Cond.eq .result (.int 1) from rfl, Cond.eq_ints (x := 1) (y := 1) rfl rfl]; simp; done) | (simp [limb_1_2, Cond.value, Term.eval]; done)))⟩
end
