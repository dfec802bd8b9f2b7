/-! Pure: rows of places, and what the loops do to them. -/
def sl (w : Nat) (g : Nat → Nat) : List Nat := (List.range w).map g
theorem sl_0 (g : Nat → Nat) : sl 0 g = [] := rfl
theorem sl_succ (w : Nat) (g : Nat → Nat) : sl (w + 1) g = sl w g ++ [g w] := by
  simp [sl, List.range_succ]
theorem sl_congr {w : Nat} {g g2 : Nat → Nat} (h : ∀ j, j < w → g j = g2 j) : sl w g = sl w g2 := by
  unfold sl
  exact List.map_congr_left (fun j hj => h j (List.mem_range.mp hj))
theorem sl_len (w : Nat) (g : Nat → Nat) : (sl w g).length = w := by simp [sl]
theorem sl_mem {w : Nat} {g : Nat → Nat} {x : Nat} : x ∈ sl w g ↔ ∃ j, j < w ∧ g j = x := by
  simp [sl]
theorem sl_get {w j : Nat} (g : Nat → Nat) (h : j < w) : (sl w g)[j]? = some (g j) := by
  simp [sl, h]
def wfP (N : Nat) (g : Nat → Nat) : Prop := (∀ j, j < N → g j < N) ∧ ∀ i j, i < N → j < N → g i = g j → i = j
def sw_N (g : Nat → Nat) (a b : Nat) : Nat → Nat := va_up (va_up g a (g b)) b (g a)
theorem sw_at (g : Nat → Nat) (a b j : Nat) : sw_N g a b j = if j = b then g a else if j = a then g b else g j := rfl
theorem sw_b (g : Nat → Nat) (a b : Nat) : sw_N g a b b = g a := by rw [sw_at, if_pos rfl]
theorem sw_a (g : Nat → Nat) (a b : Nat) : sw_N g a b a = g b := by
  rw [sw_at]
  by_cases h : a = b
  · subst h; simp
  · rw [if_neg h, if_pos rfl]
theorem sw_o (g : Nat → Nat) {a b j : Nat} (h1 : j ≠ a) (h2 : j ≠ b) : sw_N g a b j = g j := by rw [sw_at, if_neg h2, if_neg h1]
theorem wf_sw {N : Nat} {g : Nat → Nat} {a b : Nat} (h : wfP N g) (ha : a < N) (hb : b < N) : wfP N (sw_N g a b) := by
  have key : ∀ i, i < N → ∃ k, k < N ∧ sw_N g a b i = g k ∧ ((i = b ∧ k = a) ∨ (i ≠ b ∧ i = a ∧ k = b) ∨ (i ≠ b ∧ i ≠ a ∧ k = i)) := by
    intro i hi
    rw [sw_at]
    by_cases h1 : i = b
    · exact ⟨a, ha, by rw [if_pos h1], Or.inl ⟨h1, rfl⟩⟩
    · by_cases h2 : i = a
      · exact ⟨b, hb, by rw [if_neg h1, if_pos h2], Or.inr (Or.inl ⟨h1, h2, rfl⟩)⟩
      · exact ⟨i, hi, by rw [if_neg h1, if_neg h2], Or.inr (Or.inr ⟨h1, h2, rfl⟩)⟩
  refine ⟨fun j hj => ?_, fun i j hi hj e => ?_⟩
  · obtain ⟨k, hk, e, -⟩ := key j hj
    rw [e]
    exact h.1 k hk
  · obtain ⟨k1, hk1, e1, o1⟩ := key i hi
    obtain ⟨k2, hk2, e2, o2⟩ := key j hj
    have := h.2 k1 k2 hk1 hk2 (by rw [← e1, ← e2]; exact e)
    omega
/-- remove's loop -/
def rm_l (kp : Nat → Bool) : Nat → Nat → Nat → (Nat → Nat) → Nat × (Nat → Nat)
  | 0, _, q, g => (q, g)
  | n + 1, k, q, g => if kp (g k) then rm_l kp n (k + 1) (q + 1) (sw_N g k q) else rm_l kp n (k + 1) q g
theorem rm_spec (kp : Nat → Bool) (N : Nat) : ∀ (n k q : Nat) (g : Nat → Nat), q ≤ k → k + n ≤ N → wfP N g →
    (rm_l kp n k q g).1 ≤ k + n ∧ wfP N (rm_l kp n k q g).2 ∧ sl (rm_l kp n k q g).1 (rm_l kp n k q g).2 = sl q g ++ ((List.range' k n).map g).filter kp := by
  intro n
  induction n with
  | zero =>
    intro k q g h1 h2 h3
    exact ⟨h1, h3, by simp [rm_l]⟩
  | succ n ih =>
    intro k q g h1 h2 h3
    rw [List.range'_succ]
    by_cases hk : kp (g k) = true
    · obtain ⟨a1, a2, a3⟩ := ih (k + 1) (q + 1) (sw_N g k q) (by omega) (by omega) (wf_sw h3 (by omega) (by omega))
      have e : rm_l kp (n + 1) k q g = rm_l kp n (k + 1) (q + 1) (sw_N g k q) := by rw [rm_l, if_pos hk]
      rw [e]
      refine ⟨by omega, a2, ?_⟩
      rw [a3, sl_succ, sw_b]
      have e1 : sl q (sw_N g k q) = sl q g := sl_congr (fun j hj => sw_o g (by omega) (by omega))
      have e2 : (List.range' (k + 1) n).map (sw_N g k q) = (List.range' (k + 1) n).map g := List.map_congr_left (fun j hj => by
        have := List.mem_range'_1.mp hj
        exact sw_o g (by omega) (by omega))
      rw [e1, e2, List.map_cons, List.filter_cons, if_pos hk, List.append_assoc]
      rfl
    · obtain ⟨a1, a2, a3⟩ := ih (k + 1) q g (by omega) (by omega) h3
      have e : rm_l kp (n + 1) k q g = rm_l kp n (k + 1) q g := by rw [rm_l, if_neg hk]
      rw [e]
      refine ⟨by omega, a2, ?_⟩
      rw [a3, List.map_cons, List.filter_cons, if_neg hk]
theorem rm_all (kp : Nat → Bool) {N w : Nat} {g : Nat → Nat} (hw : w ≤ N) (h : wfP N g) : (rm_l kp w 0 0 g).1 ≤ w ∧ wfP N (rm_l kp w 0 0 g).2 ∧ sl (rm_l kp w 0 0 g).1 (rm_l kp w 0 0 g).2 = (sl w g).filter kp := by
  obtain ⟨a1, a2, a3⟩ := rm_spec kp N w 0 0 g (Nat.le_refl 0) (by omega) h
  refine ⟨by omega, a2, ?_⟩
  rw [a3, sl_0, List.nil_append, sl, List.range_eq_range']
/-- settle's loop -/
def st_l (bf : Nat → Nat → Bool) : Nat → (Nat → Nat) → (Nat → Nat)
  | 0, g => g
  | k + 1, g => if bf (g (k + 1)) (g k) then st_l bf k (sw_N g (k + 1) k) else g
def bf_ok (bf : Nat → Nat → Bool) : Prop := (∀ a b, bf a b = true → bf b a = false) ∧ ∀ a b c, bf b a = false → bf c b = false → bf c a = false
abbrev srt (bf : Nat → Nat → Bool) (L : List Nat) : Prop := L.Pairwise (fun a b => bf b a = false)
theorem srt_snoc {bf : Nat → Nat → Bool} {L : List Nat} {x : Nat} : srt bf (L ++ [x]) ↔ srt bf L ∧ ∀ a ∈ L, bf x a = false := by
  unfold srt
  rw [List.pairwise_append]
  constructor
  · intro h
    exact ⟨h.1, fun a ha => h.2.2 a ha x (List.mem_singleton.mpr rfl)⟩
  · intro h
    refine ⟨h.1, List.pairwise_singleton _ _, fun a ha b hb => ?_⟩
    rw [List.mem_singleton.mp hb]
    exact h.2 a ha
theorem st_wf {bf : Nat → Nat → Bool} {N : Nat} : ∀ (k : Nat) (g : Nat → Nat), k < N → wfP N g → wfP N (st_l bf k g) := by
  intro k
  induction k with
  | zero => intro g _ h; exact h
  | succ k ih =>
    intro g hk h
    rw [st_l]
    split
    · exact ih _ (by omega) (wf_sw h (by omega) (by omega))
    · exact h
theorem st_hi {bf : Nat → Nat → Bool} : ∀ (k : Nat) (g : Nat → Nat) (j : Nat), k < j → st_l bf k g j = g j := by
  intro k
  induction k with
  | zero => intro g j _; rfl
  | succ k ih =>
    intro g j hj
    rw [st_l]
    split
    · rw [ih _ j (by omega), sw_o g (by omega) (by omega)]
    · rfl
theorem st_sw_perm (g : Nat → Nat) (k : Nat) : (sl (k + 2) (sw_N g (k + 1) k)).Perm (sl (k + 2) g) := by
  rw [sl_succ, sl_succ, sl_succ (k + 1) g, sl_succ k g, sw_a, sw_b]
  have e1 : sl k (sw_N g (k + 1) k) = sl k g := sl_congr (fun j hj => sw_o g (by omega) (by omega))
  rw [e1, List.append_assoc, List.append_assoc]
  exact List.Perm.append_left _ (List.Perm.swap _ _ _)
theorem st_perm {bf : Nat → Nat → Bool} : ∀ (k : Nat) (g : Nat → Nat), (sl (k + 1) (st_l bf k g)).Perm (sl (k + 1) g) := by
  intro k
  induction k with
  | zero => intro g; exact List.Perm.refl _
  | succ k ih =>
    intro g
    rw [st_l]
    split
    · refine List.Perm.trans ?_ (st_sw_perm g k)
      rw [sl_succ (k + 1), sl_succ (k + 1), st_hi k _ (k + 1) (by omega)]
      exact List.Perm.append_right _ (ih _)
    · exact List.Perm.refl _
theorem st_srt {bf : Nat → Nat → Bool} (hb : bf_ok bf) : ∀ (k : Nat) (g : Nat → Nat), srt bf (sl k g) → srt bf (sl (k + 1) (st_l bf k g)) := by
  intro k
  induction k with
  | zero => intro g _; rw [sl_succ, sl_0]; exact List.pairwise_singleton _ _
  | succ k ih =>
    intro g h
    have h0 := h
    rw [sl_succ] at h0
    obtain ⟨h1, h2⟩ := srt_snoc.mp h0
    rw [st_l]
    split
    · rename_i hc
      have e1 : sl k (sw_N g (k + 1) k) = sl k g := sl_congr (fun j hj => sw_o g (by omega) (by omega))
      have a1 := ih (sw_N g (k + 1) k) (by rw [e1]; exact h1)
      rw [sl_succ (k + 1), st_hi k _ (k + 1) (by omega), sw_a]
      refine srt_snoc.mpr ⟨a1, fun a ha => ?_⟩
      have hm := (st_perm (bf := bf) k (sw_N g (k + 1) k)).mem_iff.mp ha
      rw [sl_succ, e1, sw_b] at hm
      rcases List.mem_append.mp hm with hm | hm
      · exact h2 a hm
      · rw [List.mem_singleton.mp hm]
        exact hb.1 _ _ hc
    · rename_i hc
      have hc : bf (g (k + 1)) (g k) = false := by simpa using hc
      rw [sl_succ (k + 1)]
      refine srt_snoc.mpr ⟨h, fun a ha => ?_⟩
      rw [sl_succ] at ha
      rcases List.mem_append.mp ha with ha | ha
      · exact hb.2 _ _ _ (h2 a ha) hc
      · rw [List.mem_singleton.mp ha]
        exact hc
/-- settle, one place behind the other -/
def mv_s (bf : Nat → Nat → Bool) : Nat → Nat → (Nat → Nat) → (Nat → Nat)
  | 0, _, g => g
  | n + 1, k, g => mv_s bf n (k + 1) (st_l bf k g)
theorem mv_s_spec {bf : Nat → Nat → Bool} (hb : bf_ok bf) {N : Nat} : ∀ (n k : Nat) (g : Nat → Nat), k + n ≤ N → wfP N g → srt bf (sl k g) → wfP N (mv_s bf n k g) ∧ (sl (k + n) (mv_s bf n k g)).Perm (sl (k + n) g) ∧ srt bf (sl (k + n) (mv_s bf n k g)) := by
  intro n
  induction n with
  | zero => intro k g _ h1 h2; exact ⟨h1, List.Perm.refl _, h2⟩
  | succ n ih =>
    intro k g h0 h1 h2
    obtain ⟨a1, a2, a3⟩ := ih (k + 1) (st_l bf k g) (by omega) (st_wf k g (by omega) h1) (st_srt hb k g h2)
    rw [show k + (n + 1) = k + 1 + n by omega]
    rw [mv_s]
    refine ⟨a1, a2.trans ?_, a3⟩
    have hp := st_perm (bf := bf) k g
    have e : ∀ (x : Nat → Nat), sl (k + 1 + n) x = sl (k + 1) x ++ (List.range' (k + 1) n).map x := by
      intro x
      rw [sl, List.range_eq_range', show k + 1 + n = (k + 1) + n from rfl, ← List.range'_append_1, List.map_append, sl, List.range_eq_range']
      simp
    rw [e, e]
    have e2 : (List.range' (k + 1) n).map (st_l bf k g) = (List.range' (k + 1) n).map g := List.map_congr_left (fun j hj => by
      have := List.mem_range'_1.mp hj
      exact st_hi k g j (by omega))
    rw [e2]
    exact List.Perm.append_right _ hp
/-- dropFirst's loop -/
def dr_l : Nat → Nat → (Nat → Nat) → (Nat → Nat)
  | 0, _, g => g
  | n + 1, k, g => dr_l n (k + 1) (sw_N g k (k - 1))
theorem dr_spec {N : Nat} : ∀ (n k : Nat) (g : Nat → Nat), 0 < k → k + n ≤ N → wfP N g → wfP N (dr_l n k g) ∧ (∀ j, j + 1 < k → dr_l n k g j = g j) ∧ (∀ j, k ≤ j + 1 → j + 1 < k + n → dr_l n k g j = g (j + 1)) := by
  intro n
  induction n with
  | zero => intro k g h0 h1 h2; exact ⟨h2, fun _ _ => rfl, fun j _ _ => by omega⟩
  | succ n ih =>
    intro k g h0 h1 h2
    obtain ⟨a1, a2, a3⟩ := ih (k + 1) (sw_N g k (k - 1)) (by omega) (by omega) (wf_sw h2 (by omega) (by omega))
    rw [dr_l]
    refine ⟨a1, fun j hj => ?_, fun j hj hj2 => ?_⟩
    · rw [a2 j (by omega), sw_o g (by omega) (by omega)]
    · by_cases h : j + 1 = k
      · rw [a2 j (by omega), show j = k - 1 by omega, sw_b]
        rw [show k - 1 + 1 = k by omega]
      · rw [a3 j (by omega) (by omega), sw_o g (by omega) (by omega)]
theorem dr_all {N w : Nat} {g : Nat → Nat} (h0 : 0 < w) (hw : w ≤ N) (h : wfP N g) : wfP N (dr_l (w - 1) 1 g) ∧ sl (w - 1) (dr_l (w - 1) 1 g) = (sl w g).tail := by
  obtain ⟨a1, -, a3⟩ := dr_spec (N := N) (w - 1) 1 g (by omega) (by omega) h
  refine ⟨a1, ?_⟩
  apply List.ext_getElem?
  intro j
  rw [List.getElem?_tail]
  by_cases hj : j < w - 1
  · rw [sl_get _ hj, sl_get _ (show j + 1 < w by omega), a3 j (by omega) (by omega)]
  · rw [List.getElem?_eq_none (by rw [sl_len]; omega), List.getElem?_eq_none (by rw [sl_len]; omega)]
