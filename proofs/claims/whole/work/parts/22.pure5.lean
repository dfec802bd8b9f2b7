/-! Moving times. -/
theorem mv_c_spec (is cm : Nat → Bool) : ∀ (n k : Nat) (g : Nat → Nat) (q : Nat), mv_c is cm n k g q = if ((List.range' k n).map g).all (fun i => !(is i) || cm i) = true then some (q + ((List.range' k n).map g).countP is) else none := by
  intro n
  induction n with
  | zero => intro k g q; simp [mv_c]
  | succ n ih =>
    intro k g q
    rw [List.range'_succ, List.map_cons, List.all_cons, List.countP_cons, mv_c]
    by_cases h1 : is (g k) = true
    · rw [if_pos h1, h1]
      by_cases h2 : cm (g k) = true
      · rw [if_pos h2, ih, h2]
        simp only [Bool.not_true, Bool.false_or, Bool.true_and, if_true]
        congr 2
        omega
      · have h2 : cm (g k) = false := by simpa using h2
        rw [h2]
        simp
    · have h1 : is (g k) = false := by simpa using h1
      rw [h1, if_neg (by decide), ih, Bool.not_false, Bool.true_or, Bool.true_and]
      rfl
theorem mv_t_spec (f t b : Int32) : ∀ (n k : Nat) (g : Nat → Nat) (ft : Nat → Int32), ((List.range' k n).map g).Pairwise (fun a b => a ≠ b) → ∀ i, mv_t f t b n k g ft i = if i ∈ (List.range' k n).map g ∧ in_S ft f t i = true then ft i + b else ft i := by
  intro n
  induction n with
  | zero => intro k g ft _ i; simp [mv_t]
  | succ n ih =>
    intro k g ft hn i
    rw [List.range'_succ, List.map_cons] at hn ⊢
    obtain ⟨n1, n2⟩ := List.pairwise_cons.mp hn
    rw [mv_t]
    by_cases h1 : in_S ft f t (g k) = true
    · rw [if_pos h1, ih _ _ _ n2]
      by_cases hi : i = g k
      · subst hi
        rw [if_neg (fun q => n1 _ q.1 rfl), pk_us, if_pos ⟨List.mem_cons_self, h1⟩]
      · have e : upd ft (g k) (ft (g k) + b) i = ft i := pk_un hi
        have e2 : in_S (upd ft (g k) (ft (g k) + b)) f t i = in_S ft f t i := by unfold in_S; rw [e]
        rw [e, e2]
        by_cases q : i ∈ (List.range' (k + 1) n).map g ∧ in_S ft f t i = true
        · rw [if_pos q, if_pos ⟨List.mem_cons_of_mem _ q.1, q.2⟩]
        · rw [if_neg q, if_neg (fun z => q ⟨(List.mem_cons.mp z.1).resolve_left hi, z.2⟩)]
    · rw [if_neg h1, ih _ _ _ n2]
      by_cases q : i ∈ (List.range' (k + 1) n).map g ∧ in_S ft f t i = true
      · rw [if_pos q, if_pos ⟨List.mem_cons_of_mem _ q.1, q.2⟩]
      · rw [if_neg q, if_neg (fun z => q ⟨(List.mem_cons.mp z.1).resolve_left (fun y => h1 (by rw [← y]; exact z.2)), z.2⟩)]
def e_in (f t : Int32) (e : Ent) : Bool := decide (f ≤ e.2.1) && decide (e.2.1 ≤ t)
def e_can (now : Nat) (b : Int32) (e : Ent) : Bool := decide ((nI now).toInt64 < e.2.1.toInt64 + b.toInt64) && decide (¬ 2147483647 < e.2.1.toInt64 + b.toInt64)
def e_mv (f t b : Int32) (e : Ent) : Ent := if e_in f t e = true then (e.1, e.2.1 + b, e.2.2) else e
def a_mv (now : Nat) (f t b : Int32) (E : List Ent) : Option Nat := if E.all (fun e => !(e_in f t e) || e_can now b e) = true then some (E.countP (e_in f t)) else none
theorem l_add (x b : Int32) : (x.toInt64 + b.toInt64).toInt = x.toInt + b.toInt := by
  rw [Int64.toInt_add, Int32.toInt_toInt64, Int32.toInt_toInt64]
  have h1 := x.toInt_lt
  have h2 := x.le_toInt
  have h3 := b.toInt_lt
  have h4 := b.le_toInt
  exact Int.bmod_eq_of_le_mul_two (by omega) (by omega)
theorem can_iff (now : Nat) (hn : now < 2 ^ 31) (b : Int32) (e : Ent) : e_can now b e = true ↔ (now : Int) < e.2.1.toInt + b.toInt ∧ e.2.1.toInt + b.toInt ≤ 2147483647 := by
  unfold e_can
  rw [Bool.and_eq_true, decide_eq_true_eq, decide_eq_true_eq, Int64.lt_iff_toInt_lt, Int64.lt_iff_toInt_lt, l_add, Int32.toInt_toInt64, nI_toInt hn]
  have : (2147483647 : Int64).toInt = 2147483647 := by decide
  rw [this]
  omega
theorem can_add {now : Nat} (hn : now < 2 ^ 31) {b : Int32} {e : Ent} (h : e_can now b e = true) : (e.2.1 + b).toInt = e.2.1.toInt + b.toInt := by
  have h1 := (can_iff now hn b e).mp h
  rw [Int32.toInt_add]
  exact Int.bmod_eq_of_le_mul_two (by omega) (by omega)
section RXM
variable {c N : Nat} {fb : Nat → Int32} {g : Nat → Nat} {fn ft : Nat → Int32} {fs fl : Nat → Nat} {w wi now ts tl lf ll : Nat} {E : List Ent} {T L : List Int32}
theorem sl_r (w : Nat) (g : Nat → Nat) : (List.range' 0 w).map g = sl w g := by rw [sl, List.range_eq_range']
theorem rx_mo (h : RX c N fb g fn ft fs fl w wi now ts tl lf ll E T L) (f t b : Int32) : mv_c (in_S ft f t) (cm_F ft now b) w 0 g 0 = a_mv now f t b E := by
  obtain ⟨-, -, -, -, -, -, sq, -, -, -, rfl⟩ := h
  rw [mv_c_spec, sl_r, a_mv, List.all_map, List.countP_map, Nat.zero_add]
  rfl
theorem rx_mv (h : RX c N fb g fn ft fs fl w wi now ts tl lf ll E T L) (hc : c < 512) (f t b : Int32) : RX (c + 1) N fb (mv_F (a_mv now f t b E) g (mv_s (be_F (mv_t f t b w 0 g ft) fs) (w - 1) 1 g)) fn (mv_F (a_mv now f t b E) ft (mv_t f t b w 0 g ft)) fs fl w wi now ts tl lf ll (mv_F (a_mv now f t b E) E (a_so (E.map (e_mv f t b)))) T L := by
  by_cases ho : E.all (fun e => !(e_in f t e) || e_can now b e) = true
  · have e1 : a_mv now f t b E = some (E.countP (e_in f t)) := by rw [a_mv, if_pos ho]
    rw [e1]
    show RX (c + 1) N fb (mv_s (be_F (mv_t f t b w 0 g ft) fs) (w - 1) 1 g) fn (mv_t f t b w 0 g ft) fs fl w wi now ts tl lf ll (a_so (E.map (e_mv f t b))) T L
    obtain ⟨⟨h1, h2, h3, h4⟩, h5, ⟨a1, a2, a3, a4, a5, a6⟩, h7, h8, h9, sq, b1, b2, b3, rfl⟩ := h
    have hnd := sl_nd h4 h3
    have hft : ∀ i, i ∈ sl w g → mv_t f t b w 0 g ft i = if in_S ft f t i = true then ft i + b else ft i := by
      intro i hi
      rw [mv_t_spec f t b w 0 g ft (by rw [sl_r]; exact hnd) i, sl_r]
      by_cases q : in_S ft f t i = true
      · rw [if_pos ⟨hi, q⟩, if_pos q]
      · rw [if_neg (fun z => q z.2), if_neg q]
    have hg : wfP N (mv_s (be_F (mv_t f t b w 0 g ft) fs) (w - 1) 1 g) ∧ (sl w (mv_s (be_F (mv_t f t b w 0 g ft) fs) (w - 1) 1 g)).Perm (sl w g) ∧ srt (be_F (mv_t f t b w 0 g ft) fs) (sl w (mv_s (be_F (mv_t f t b w 0 g ft) fs) (w - 1) 1 g)) := by
      rcases Nat.eq_zero_or_pos w with q | q
      · subst q
        exact ⟨h4, List.Perm.refl _, List.Pairwise.nil⟩
      · have := mv_s_spec (be_ok (mv_t f t b w 0 g ft) fs) (N := N) (w - 1) 1 g (by omega) h4 (by rw [sl_succ, sl_0]; exact List.pairwise_singleton _ _)
        rw [show 1 + (w - 1) = w by omega] at this
        exact this
    obtain ⟨g1, g2, g3⟩ := hg
    have hm : ∀ i, i ∈ sl w (mv_s (be_F (mv_t f t b w 0 g ft) fs) (w - 1) 1 g) → i ∈ sl w g := fun i hi => g2.mem_iff.mp hi
    have hmap : (sl w g).map (en fb fn (mv_t f t b w 0 g ft) fs fl sq) = ((sl w g).map (en fb fn ft fs fl sq)).map (e_mv f t b) := by
      rw [List.map_map]
      refine List.map_congr_left (fun i hi => ?_)
      show en fb fn (mv_t f t b w 0 g ft) fs fl sq i = e_mv f t b (en fb fn ft fs fl sq i)
      unfold e_mv en
      rw [hft i hi]
      by_cases q : in_S ft f t i = true
      · rw [if_pos q, if_pos (show e_in f t (fn i, ft i, by_L fb (fs i) (fl i), sq i) = true from q)]
      · rw [if_neg q, if_neg (show ¬ e_in f t (fn i, ft i, by_L fb (fs i) (fl i), sq i) = true from q)]
    refine ⟨⟨h1, h2, h3, g1⟩, h5, ⟨by omega, by omega, a3, a4, by omega, by omega⟩, g3, h8, h9, sq, fun i hi => ?_, fun i j hi hj => b2 i j (hm i hi) (hm j hj), fun i j hi hj => b3 i j (hm i hi) (hm j hj), ?_⟩
    · obtain ⟨z1, z2, z3⟩ := b1 i (hm i hi)
      refine ⟨z1, z2, ?_⟩
      rw [hft i (hm i hi)]
      by_cases q : in_S ft f t i = true
      · rw [if_pos q]
        have q1 := List.all_eq_true.mp ho _ (List.mem_map_of_mem (hm i hi))
        have q2 : e_in f t (en fb fn ft fs fl sq i) = true := q
        rw [q2] at q1
        have q3 : e_can now b (en fb fn ft fs fl sq i) = true := by simpa using q1
        have q4 := can_add (by omega) q3
        have q5 := (can_iff now (by omega) b _).mp q3
        have q6 : (en fb fn ft fs fl sq i).2.1 = ft i := rfl
        rw [q6] at q4 q5
        omega
      · rw [if_neg q]; exact z3
    · refine (a_so_eq ?_ ?_ ?_).symm
      · rw [← hmap]
        exact g2.map _
      · exact en_srt g3 (fun i j hi hj => b2 i j (hm i hi) (hm j hj))
      · rw [← hmap]
        exact en_nd hnd b3
  · have e1 : a_mv now f t b E = none := by rw [a_mv, if_neg ho]
    rw [e1]
    exact rx_c h hc
/-- all times are of the span 0 .. 2147483647 -/
theorem rx_all (h : RX c N fb g fn ft fs fl w wi now ts tl lf ll E T L) : ∀ e ∈ E, 0 < e.2.1.toInt := by
  obtain ⟨-, -, -, -, -, -, sq, b1, -, -, rfl⟩ := h
  intro e he
  obtain ⟨i, hi, rfl⟩ := List.mem_map.mp he
  exact (b1 i hi).2.2
theorem rx_new (N : Nat) (h1 : 1 ≤ N) (h2 : N ≤ 1024) : RX 0 N (fun _ => 0) (g_id N) (fun _ => 0) (fun _ => 0) (fun _ => 0) (fun _ => 0) 0 0 0 0 0 0 0 [] [] [] := by
  refine ⟨⟨h1, h2, by omega, g_id_wf N⟩, fun _ _ => Nat.le_refl 0, ⟨by omega, by omega, by omega, by omega, by omega, by omega⟩, List.Pairwise.nil, rfl, rfl, fun _ => 0, ?_, ?_, ?_, rfl⟩
  · intro i hi; cases hi
  · intro i j hi; cases hi
  · intro i j hi; cases hi
theorem rx_ab (h : RX c N fb g fn ft fs fl w wi now ts tl lf ll E T L) {k : Int32} (hk : iw_F w k = true) : ∃ x, E[k.toNatClampNeg]? = some x ∧ x.1 = fn (g k.toNatClampNeg) ∧ x.2.1 = ft (g k.toNatClampNeg) ∧ x.2.2.1 = by_L fb (fs (g k.toNatClampNeg)) (fl (g k.toNatClampNeg)) := by
  obtain ⟨⟨-, h2, h3, h4⟩, -, -, -, -, -, sq, -, -, -, rfl⟩ := h
  have hw := iw_lt hk (by omega)
  refine ⟨en fb fn ft fs fl sq (g k.toNatClampNeg), ?_, rfl, rfl, rfl⟩
  rw [List.getElem?_map, sl_get g hw]
  rfl
end RXM
