/-! The timetable as the document has it: entries in order, by time and by when they came. -/
abbrev Ent : Type := Int32 × Int32 × List Int32 × Nat
def e_lt (a b : Ent) : Bool := decide (a.2.1 < b.2.1) || (decide (a.2.1 = b.2.1) && decide (a.2.2.2 < b.2.2.2))
theorem e_lt_iff (a b : Ent) : e_lt a b = true ↔ (a.2.1.toInt < b.2.1.toInt ∨ (a.2.1.toInt = b.2.1.toInt ∧ a.2.2.2 < b.2.2.2)) := by
  unfold e_lt
  rw [Bool.or_eq_true, Bool.and_eq_true, decide_eq_true_eq, decide_eq_true_eq, decide_eq_true_eq, Int32.lt_iff_toInt_lt, Int32.toInt_inj]
theorem e_ge_iff (a b : Ent) : e_lt b a = false ↔ (a.2.1.toInt < b.2.1.toInt ∨ (a.2.1.toInt = b.2.1.toInt ∧ a.2.2.2 ≤ b.2.2.2)) := by
  rw [← Bool.not_eq_true, e_lt_iff]
  omega
abbrev e_srt (L : List Ent) : Prop := L.Pairwise (fun a b => e_lt b a = false)
def a_in (e : Ent) : List Ent → List Ent
  | [] => [e]
  | x :: r => if e_lt e x then e :: x :: r else x :: a_in e r
def a_so : List Ent → List Ent
  | [] => []
  | x :: r => a_in x (a_so r)
theorem a_in_perm (e : Ent) : ∀ L : List Ent, (a_in e L).Perm (e :: L) := by
  intro L
  induction L with
  | nil => exact List.Perm.refl _
  | cons x r ih =>
    rw [a_in]
    split
    · exact List.Perm.refl _
    · exact (List.Perm.cons x ih).trans (List.Perm.swap _ _ _)
theorem a_so_perm : ∀ L : List Ent, (a_so L).Perm L := by
  intro L
  induction L with
  | nil => exact List.Perm.refl _
  | cons x r ih => exact (a_in_perm x (a_so r)).trans (List.Perm.cons x ih)
theorem a_in_srt (e : Ent) : ∀ L : List Ent, e_srt L → e_srt (a_in e L) := by
  intro L
  induction L with
  | nil => intro _; exact List.pairwise_singleton _ _
  | cons x r ih =>
    intro h
    obtain ⟨h1, h2⟩ := List.pairwise_cons.mp h
    rw [a_in]
    split
    · rename_i hc
      refine List.pairwise_cons.mpr ⟨fun y hy => ?_, h⟩
      have hx := (e_lt_iff e x).mp hc
      rcases List.mem_cons.mp hy with rfl | hy
      · rw [e_ge_iff]; omega
      · have := (e_ge_iff x y).mp (h1 y hy)
        rw [e_ge_iff]; omega
    · rename_i hc
      have hx : e_lt e x = false := by simpa using hc
      refine List.pairwise_cons.mpr ⟨fun y hy => ?_, ih h2⟩
      rcases List.mem_cons.mp ((a_in_perm e r).mem_iff.mp hy) with rfl | hy
      · exact hx
      · exact h1 y hy
theorem a_so_srt : ∀ L : List Ent, e_srt (a_so L) := by
  intro L
  induction L with
  | nil => exact List.Pairwise.nil
  | cons x r ih => exact a_in_srt x _ ih
/-- no two came together -/
abbrev e_nd (L : List Ent) : Prop := L.Pairwise (fun a b => a.2.2.2 ≠ b.2.2.2)
theorem e_nd_inj {L : List Ent} (h : e_nd L) {a b : Ent} (ha : a ∈ L) (hb : b ∈ L) (e : a.2.2.2 = b.2.2.2) : a = b := by
  induction L with
  | nil => cases ha
  | cons x r ih =>
    obtain ⟨h1, h2⟩ := List.pairwise_cons.mp h
    rcases List.mem_cons.mp ha with h3 | h3 <;> rcases List.mem_cons.mp hb with h4 | h4
    · rw [h3, h4]
    · subst h3; exact absurd e (h1 b h4)
    · subst h4; exact absurd e.symm (h1 a h3)
    · exact ih h2 h3 h4
theorem a_so_eq {L M : List Ent} (hp : M.Perm L) (hs : e_srt M) (hn : e_nd L) : M = a_so L := by
  refine List.Perm.eq_of_pairwise (le := fun a b => e_lt b a = false) (fun a b ha hb h1 h2 => ?_) hs (a_so_srt L) (hp.trans (a_so_perm L).symm)
  have h1 := (e_ge_iff a b).mp h1
  have h2 := (e_ge_iff b a).mp h2
  exact e_nd_inj hn (hp.mem_iff.mp ha) ((a_so_perm L).mem_iff.mp hb) (by omega)
/-- bytes of a row -/
def by_L (fb : Nat → Int32) (a n : Nat) : List Int32 := (List.range n).map (fun j => fb (a + j) &&& nI 255)
theorem by_len (fb : Nat → Int32) (a n : Nat) : (by_L fb a n).length = n := by simp [by_L]
theorem by_get {fb : Nat → Int32} {a n j : Nat} (h : j < n) : (by_L fb a n)[j]? = some (fb (a + j) &&& nI 255) := by simp [by_L, h]
theorem by_congr {fb fb2 : Nat → Int32} {a n : Nat} (h : ∀ j, a ≤ j → j < a + n → fb j = fb2 j) : by_L fb a n = by_L fb2 a n := by
  unfold by_L
  refine List.map_congr_left (fun j hj => ?_)
  have := List.mem_range.mp hj
  rw [h (a + j) (by omega) (by omega)]
theorem by_succ (fb : Nat → Int32) (a n : Nat) : by_L fb a (n + 1) = by_L fb a n ++ [fb (a + n) &&& nI 255] := by simp [by_L, List.range_succ]
def a_at (L : List Int32) (j : Int32) : Int32 := if j < 0 then -1 else match L[j.toNatClampNeg]? with
  | some b => b
  | none => -1
theorem bo_at (fb : Nat → Int32) {a n : Nat} (hn : n < 2 ^ 31) (j : Int32) : bo_F fb a n j = a_at (by_L fb a n) j := by
  unfold a_at
  by_cases h : j < 0
  · rw [bo_0 h, if_pos h]
  · rw [if_neg h]
    by_cases h2 : nI n ≤ j
    · have hj := cl_nI h
      have h3 : n ≤ j.toNatClampNeg := by
        obtain ⟨q, hq, rfl⟩ := nI_of h
        rw [nI_clamp hq]
        exact (nI_leI hn hq).mp h2
      rw [bo_1 h2, List.getElem?_eq_none (by rw [by_len]; exact h3)]
    · rw [bo_2 h h2, by_get (cl_lt h (Int32.not_le.mp h2) hn)]
def en (fb fn ft : Nat → Int32) (fs fl sq : Nat → Nat) (i : Nat) : Ent := (fn i, ft i, by_L fb (fs i) (fl i), sq i)
