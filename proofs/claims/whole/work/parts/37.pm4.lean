/-! Both hold one timetable: answers, and what is behind a call. -/
def ab_A (E : List Ent) (k j : Int32) : Int32 := if k < 0 then -1 else match E[k.toNatClampNeg]? with
  | none => -1
  | some x => if j = 0 then x.1 else if j = 1 then x.2.1 else if j = 2 then nI x.2.2.1.length else -1
def ba_A (E : List Ent) (k j : Int32) : Int32 := if k < 0 then -1 else match E[k.toNatClampNeg]? with
  | none => -1
  | some x => a_at x.2.2.1 j
theorem iw_no {w : Nat} {k : Int32} (hw : w < 2 ^ 31) (h : ¬ iw_F w k = true) {α : Type} {E : List α} (hE : E.length = w) : k < 0 ∨ E[k.toNatClampNeg]? = none := by
  by_cases q : k < 0
  · exact Or.inl q
  · refine Or.inr (List.getElem?_eq_none ?_)
    rw [hE]
    refine Nat.not_lt.mp (fun z => h (iw_1 q (fun y => ?_)))
    obtain ⟨m, hm, rfl⟩ := nI_of q
    rw [nI_clamp hm] at z
    have := (nI_leI hw hm).mp y
    omega
section XA
variable {c N : Nat} {fb : Nat → Int32} {g : Nat → Nat} {fn ft : Nat → Int32} {fs fl : Nat → Nat} {w wi now ts tl lf ll : Nat} {E : List Ent} {T L : List Int32}
theorem rx_bd (h : RX c N fb g fn ft fs fl w wi now ts tl lf ll E T L) : (1 ≤ N ∧ N ≤ 1024 ∧ w ≤ N ∧ wfP N g) ∧ (∀ i, i < N → fs i ≤ 512) ∧ (∀ i, i < N → fs i + fl i ≤ 512) ∧ ts + tl ≤ c ∧ c ≤ 512 ∧ tl ≤ 256 ∧ lf + ll ≤ 512 ∧ now ≤ c := by
  obtain ⟨h1, h2, ⟨a1, a2, a3, a4, a5, a6⟩, -⟩ := h
  refine ⟨h1, fun i hi => ?_, fun i hi => ?_, a1, a2, a3, by omega, a5⟩
  · have := h2 i hi; omega
  · have := h2 i hi; omega
theorem rx_about (h : RX c N fb g fn ft fs fl w wi now ts tl lf ll E T L) (k j : Int32) : ab_F fn ft fl w g k j = ab_A E k j := by
  have hb := rx_bd h
  by_cases q : iw_F w k = true
  · obtain ⟨x, x1, x2, x3, x4⟩ := rx_ab h q
    rw [ab_F, if_pos q, ab_A, if_neg (iw_ge q), x1]
    simp only []
    rw [x2, x3, x4, by_len]
  · rw [ab_F, if_neg q, ab_A]
    rcases iw_no (by omega) q (rx_len h).1 with z | z
    · rw [if_pos z]
    · by_cases y : k < 0
      · rw [if_pos y]
      · rw [if_neg y, z]
theorem rx_byteAt (h : RX c N fb g fn ft fs fl w wi now ts tl lf ll E T L) (k j : Int32) : ba_F fb fs fl w g k j = ba_A E k j := by
  have hb := rx_bd h
  by_cases q : iw_F w k = true
  · obtain ⟨x, x1, x2, x3, x4⟩ := rx_ab h q
    rw [ba_F, if_pos q, ba_A, if_neg (iw_ge q), x1]
    simp only []
    have hk := iw_lt q (by omega)
    have hg := hb.1.2.2.2.1 k.toNatClampNeg (by omega)
    have := hb.2.2.1 _ hg
    rw [x4, bo_at fb (by omega)]
  · rw [ba_F, if_neg q, ba_A]
    rcases iw_no (by omega) q (rx_len h).1 with z | z
    · rw [if_pos z]
    · by_cases y : k < 0
      · rw [if_pos y]
      · rw [if_neg y, z]
theorem rx_left (h : RX c N fb g fn ft fs fl w wi now ts tl lf ll E T L) (j : Int32) : bo_F fb lf ll j = a_at L j := by
  have hb := rx_bd h
  obtain ⟨-, -, -, -, -, rfl, -⟩ := h
  exact bo_at fb (by omega) j
end XA
section MA
variable {N : Nat} {tx lx bt nu ti : Nat → Int32} {si ro : Nat → Nat} {us : Nat → Bool} {w al tl ll : Nat} {E : List Ent} {T L : List Int32}
theorem rm_plF (h : RM N tx lx bt (nu, ti, si, ro, us, w) al tl ll E T L) {k : Int32} (q : iw_F w k = true) : ∃ (i : Nat) (x : Ent), i < w ∧ pl_F ti w k = some i ∧ E[k.toNatClampNeg]? = some x ∧ x.1 = nu i ∧ x.2.1 = ti i ∧ x.2.2.1 = by_L bt (256 * ro i) (si i) := by
  have hb := rm_bd h
  obtain ⟨i, A, x, hi, hpl, -, -, -, hx, e1, e2, e3⟩ := rm_place h (iw_lt q (by omega))
  exact ⟨i, x, hi, by rw [pl_F, if_pos q]; exact hpl, hx, e1, e2, e3⟩
theorem rm_about (h : RM N tx lx bt (nu, ti, si, ro, us, w) al tl ll E T L) (k j : Int32) : ma_F nu ti si w k j = ab_A E k j := by
  have hb := rm_bd h
  by_cases q : iw_F w k = true
  · obtain ⟨i, x, hi, hpl, x1, x2, x3, x4⟩ := rm_plF h q
    rw [ma_F, hpl, ab_A, if_neg (iw_ge q), x1]
    simp only []
    rw [x2, x3, x4, by_len]
  · rw [ma_F, pl_F, if_neg q, ab_A]
    rcases iw_no (by omega) q (rm_len h).1 with z | z
    · rw [if_pos z]
    · by_cases y : k < 0
      · rw [if_pos y]
      · rw [if_neg y, z]
theorem rm_byteAt (h : RM N tx lx bt (nu, ti, si, ro, us, w) al tl ll E T L) (k j : Int32) : mb_F bt ti si ro w k j = ba_A E k j := by
  have hb := rm_bd h
  by_cases q : iw_F w k = true
  · obtain ⟨i, x, hi, hpl, x1, x2, x3, x4⟩ := rm_plF h q
    rw [mb_F, hpl, ba_A, if_neg (iw_ge q), x1]
    simp only []
    have := hb.2.2.2.2.2 i hi
    rw [x4, bo_at bt (by omega)]
  · rw [mb_F, pl_F, if_neg q, ba_A]
    rcases iw_no (by omega) q (rm_len h).1 with z | z
    · rw [if_pos z]
    · by_cases y : k < 0
      · rw [if_pos y]
      · rw [if_neg y, z]
theorem rm_left (h : RM N tx lx bt (nu, ti, si, ro, us, w) al tl ll E T L) (j : Int32) : bo_F lx 0 ll j = a_at L j := by
  have hb := rm_bd h
  obtain ⟨-, -, rfl, -⟩ := h
  exact bo_at lx (by omega) j
theorem rm_leave (h : RM N tx lx bt (nu, ti, si, ro, us, w) al tl ll E T L) (now : Nat) {r : Int32} {u : (Nat → Int32) × Nat × MS} (e : (r, u) = ml_R lx nu ti si ro us bt w now ll) :
    (∀ x R, E = x :: R → x.2.1 ≤ nI now → r = nI x.2.2.1.length ∧ RM N tx u.1 bt u.2.2 al tl u.2.1 R T x.2.2.1) ∧ ((∀ x R, E = x :: R → ¬ x.2.1 ≤ nI now) → r = -1 ∧ RM N tx u.1 bt u.2.2 al tl u.2.1 E T L) := by
  have hlen := (rm_len h).1
  have hb := rm_bd h
  have hlen : E.length = w := hlen
  rcases Nat.eq_zero_or_pos w with hw | hw
  · have hE : E = [] := List.eq_nil_of_length_eq_zero (by omega)
    have hpl : pl_o ti 0 w w 0 none = none := by rw [hw]; rfl
    rw [ml_R, hpl] at e
    cases e
    exact ⟨fun x R hx => (by rw [hE] at hx; cases hx), fun _ => ⟨rfl, h⟩⟩
  · obtain ⟨i, A, y, hi, hpl, hA, hEA, hAi, hE0, e1, e2, e3⟩ := rm_place h hw
    have hyR : E = y :: E.tail := by
      cases hE : E with
      | nil => rw [hE] at hE0; simp at hE0
      | cons z R => rw [hE] at hE0; simp at hE0; rw [hE0]; rfl
    rw [ml_R, hpl] at e
    simp only [] at e
    refine ⟨fun x R hx hle => ?_, fun hno => ?_⟩
    · rw [hx] at hyR
      obtain ⟨q1, q2⟩ := List.cons.inj hyR
      rw [q1] at hle ⊢
      rw [if_pos (by rw [← e2]; exact hle)] at e
      cases e
      have hdp := ra_dp hA (i := i) hi
      refine ⟨by rw [e3, by_len], ⟨?_, hb.2.1, hb.2.2.1, by show si i ≤ 256; exact hb.2.2.2.2.2 i hi⟩, h.2.1, ?_, _, hdp, ?_⟩
      · show w - 1 ≤ N
        omega
      · show y.2.2.1 = by_L (cp lx (fun k => bt (256 * ro i + k)) 0 (si i)) 0 (si i)
        rw [by_cp, by_sh, e3]
      · refine a_so_eq ?_ ?_ (ra_nd hdp)
        · have p1 : (y :: R).Perm (y :: A.eraseIdx i) := by
            have p2 : (y :: R).Perm A := by rw [← q1, ← hx, hEA]; exact a_so_perm A
            refine p2.trans ?_
            have hlt : i < A.length := (List.getElem?_eq_some_iff.mp hAi).1
            have hy2 : A[i] = y := (List.getElem?_eq_some_iff.mp hAi).2
            rw [← hy2]
            have hsplit : A = A.take i ++ A[i] :: A.drop (i + 1) := by rw [← List.drop_eq_getElem_cons hlt, List.take_append_drop]
            refine (List.Perm.of_eq hsplit).trans ?_
            rw [List.eraseIdx_eq_take_drop_succ]
            exact List.perm_middle
          exact p1.cons_inv
        · have hs := a_so_srt A
          rw [← hEA, hx] at hs
          exact (List.pairwise_cons.mp hs).2
    · have hn := hno y E.tail hyR
      rw [if_neg (by rw [← e2]; exact hn)] at e
      cases e
      exact ⟨rfl, h⟩
end MA
