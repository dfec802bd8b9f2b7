/-! The program's rows hold the timetable (E entries, T text, L what left) behind c calls. -/
theorem bp_b (x : Int32) : x.toInt8.toInt32 &&& 255 = x &&& 255 := by
  apply Int32.toBitVec_inj.mp
  rw [Int32.toBitVec_and, Int32.toBitVec_and, Int8.toBitVec_toInt32, Int32.toBitVec_toInt8]
  apply BitVec.eq_of_getLsbD_eq
  intro i hi
  rw [BitVec.getLsbD_and, BitVec.getLsbD_and]
  have hm : ∀ i < 32, 8 ≤ i → (255 : Int32).toBitVec.getLsbD i = false := by decide
  rcases Nat.lt_or_ge i 8 with z | z
  · rw [BitVec.getLsbD_signExtend, BitVec.getLsbD_signExtend, if_pos z, if_pos hi]
    simp only [z, hi, decide_true, Bool.true_and]
  · rw [hm i hi z]; simp
theorem by_put (b : Int32) : vp_nar .byte b.toInt8.toInt32 &&& nI 255 = b &&& nI 255 := by
  rw [pk_vb]
  exact bp_b b
theorem be_ff (ft : Nat → Int32) (fs : Nat → Nat) (a b : Nat) : be_F ft fs b a = false ↔ ((ft a).toInt < (ft b).toInt ∨ ((ft a).toInt = (ft b).toInt ∧ fs a ≤ fs b)) := by
  by_cases h : ft b = ft a
  · rw [be_F, if_pos h, h]
    simp
  · rw [be_F, if_neg h]
    have h1 : ¬ (ft b).toInt = (ft a).toInt := fun q => h (Int32.toInt_inj.mp q)
    simp only [decide_eq_false_iff_not, Int32.lt_iff_toInt_lt]
    omega
theorem sl_nd {N w : Nat} {g : Nat → Nat} (h : wfP N g) (hw : w ≤ N) : (sl w g).Pairwise (fun a b => a ≠ b) := by
  unfold sl
  refine List.pairwise_map.mpr (List.Pairwise.imp_of_mem (fun {a b} ha hb hab e => ?_) List.pairwise_lt_range)
  have := h.2 a b (by have := List.mem_range.mp ha; omega) (by have := List.mem_range.mp hb; omega) e
  omega
theorem sl_lt {N w : Nat} {g : Nat → Nat} (h : wfP N g) (hw : w ≤ N) {i : Nat} (hi : i ∈ sl w g) : i < N := by
  obtain ⟨j, hj, rfl⟩ := sl_mem.mp hi
  exact h.1 j (by omega)
theorem en_srt {fb fn ft : Nat → Int32} {fs fl sq : Nat → Nat} {S : List Nat} (hs : srt (be_F ft fs) S) (hb : ∀ i j, i ∈ S → j ∈ S → (fs i < fs j ↔ sq i < sq j)) : e_srt (S.map (en fb fn ft fs fl sq)) := by
  refine List.pairwise_map.mpr (List.Pairwise.imp_of_mem (fun {a b} ha hb2 hab => ?_) hs)
  have h1 := (be_ff ft fs a b).mp hab
  have h2 := hb b a hb2 ha
  have h3 : (en fb fn ft fs fl sq a).2.1 = ft a := rfl
  have h4 : (en fb fn ft fs fl sq b).2.1 = ft b := rfl
  have h5 : (en fb fn ft fs fl sq a).2.2.2 = sq a := rfl
  have h6 : (en fb fn ft fs fl sq b).2.2.2 = sq b := rfl
  rw [e_ge_iff, h3, h4, h5, h6]
  omega
theorem en_nd {fb fn ft : Nat → Int32} {fs fl sq : Nat → Nat} {S : List Nat} (hs : S.Pairwise (fun a b => a ≠ b)) (hb : ∀ i j, i ∈ S → j ∈ S → sq i = sq j → i = j) : e_nd (S.map (en fb fn ft fs fl sq)) := by
  refine List.pairwise_map.mpr (List.Pairwise.imp_of_mem (fun {a b} ha hb2 hab e => hab (hb a b ha hb2 e)) hs)
def RX (c N : Nat) (fb : Nat → Int32) (g : Nat → Nat) (fn ft : Nat → Int32) (fs fl : Nat → Nat) (w wi now ts tl lf ll : Nat) (E : List Ent) (T L : List Int32) : Prop :=
  (1 ≤ N ∧ N ≤ 1024 ∧ w ≤ N ∧ wfP N g) ∧ (∀ i, i < N → fs i + fl i ≤ ts) ∧ (ts + tl ≤ c ∧ c ≤ 512 ∧ tl ≤ 256 ∧ lf + ll ≤ ts ∧ now ≤ c ∧ wi ≤ c) ∧ srt (be_F ft fs) (sl w g) ∧ T = by_L fb ts tl ∧ L = by_L fb lf ll ∧
  ∃ sq : Nat → Nat, (∀ i, i ∈ sl w g → 1 ≤ fl i ∧ sq i < wi ∧ 0 < (ft i).toInt) ∧ (∀ i j, i ∈ sl w g → j ∈ sl w g → (fs i < fs j ↔ sq i < sq j)) ∧ (∀ i j, i ∈ sl w g → j ∈ sl w g → sq i = sq j → i = j) ∧ E = (sl w g).map (en fb fn ft fs fl sq)
section RXS
variable {c N : Nat} {fb : Nat → Int32} {g : Nat → Nat} {fn ft : Nat → Int32} {fs fl : Nat → Nat} {w wi now ts tl lf ll : Nat} {E : List Ent} {T L : List Int32}
theorem rx_len (h : RX c N fb g fn ft fs fl w wi now ts tl lf ll E T L) : E.length = w ∧ T.length = tl ∧ L.length = ll := by
  obtain ⟨-, -, -, -, rfl, rfl, sq, -, -, -, rfl⟩ := h
  exact ⟨by rw [List.length_map, sl_len], by_len _ _ _, by_len _ _ _⟩
theorem rx_E (h : RX c N fb g fn ft fs fl w wi now ts tl lf ll E T L) : e_srt E ∧ e_nd E := by
  obtain ⟨⟨-, -, h3, h4⟩, -, -, h7, rfl, rfl, sq, -, b2, b3, rfl⟩ := h
  exact ⟨en_srt h7 b2, en_nd (sl_nd h4 h3) b3⟩
/-- one call more -/
theorem rx_c (h : RX c N fb g fn ft fs fl w wi now ts tl lf ll E T L) (hc : c < 512) : RX (c + 1) N fb g fn ft fs fl w wi now ts tl lf ll E T L := by
  obtain ⟨h1, h2, ⟨a1, a2, a3, a4, a5, a6⟩, h⟩ := h
  exact ⟨h1, h2, ⟨by omega, by omega, a3, a4, by omega, by omega⟩, h⟩
theorem rx_tick (h : RX c N fb g fn ft fs fl w wi now ts tl lf ll E T L) (hc : c < 512) : RX (c + 1) N fb g fn ft fs fl w wi (now + 1) ts tl lf ll E T L := by
  obtain ⟨h1, h2, ⟨a1, a2, a3, a4, a5, a6⟩, h⟩ := h
  exact ⟨h1, h2, ⟨by omega, by omega, a3, a4, by omega, by omega⟩, h⟩
theorem rx_reset (h : RX c N fb g fn ft fs fl w wi now ts tl lf ll E T L) (hc : c < 512) : RX (c + 1) N fb g fn ft fs fl 0 wi now ts tl lf ll [] T L := by
  obtain ⟨⟨h1, h2, h3, h4⟩, h5, ⟨a1, a2, a3, a4, a5, a6⟩, h7, h8, h9, sq, -⟩ := h
  refine ⟨⟨h1, h2, by omega, h4⟩, h5, ⟨by omega, by omega, a3, a4, by omega, by omega⟩, List.Pairwise.nil, h8, h9, sq, ?_, ?_, ?_, rfl⟩
  · intro i hi; cases hi
  · intro i j hi; cases hi
  · intro i j hi; cases hi
theorem rx_put (h : RX c N fb g fn ft fs fl w wi now ts tl lf ll E T L) (hc : c < 512) (b : Int32) {r : Int32} {u : (Nat → Int32) × Nat} (e : (r, u) = pu_R fb ts tl b) : r = (if T.length < 256 then nI (T.length + 1) else -1) ∧ RX (c + 1) N u.1 g fn ft fs fl w wi now ts u.2 lf ll E (if T.length < 256 then T ++ [b &&& nI 255] else T) L := by
  have hl := rx_len h
  rw [hl.2.1]
  by_cases q : tl < 256
  · rw [pu_R, if_pos q] at e
    rw [if_pos q, if_pos q]
    obtain ⟨⟨h1, h2, h3, h4⟩, h5, ⟨a1, a2, a3, a4, a5, a6⟩, h7, rfl, rfl, sq, b1, b2, b3, rfl⟩ := h
    cases e
    have hk : ∀ j, j < ts + tl → upd fb (ts + tl) (vp_nar .byte b.toInt8.toInt32) j = fb j := fun j hj => pk_un (by omega)
    refine ⟨rfl, ⟨h1, h2, h3, h4⟩, h5, ⟨by show ts + (tl + 1) ≤ c + 1; omega, by omega, by show tl + 1 ≤ 256; omega, a4, by omega, by omega⟩, h7, ?_, ?_, sq, b1, b2, b3, ?_⟩
    · show _ = by_L (upd fb (ts + tl) (vp_nar .byte b.toInt8.toInt32)) ts (tl + 1)
      rw [by_succ, pk_us, by_put, by_congr (fb := upd fb (ts + tl) (vp_nar .byte b.toInt8.toInt32)) (fb2 := fb) (fun j _ hj => hk j hj)]
    · exact (by_congr (fun j _ hj => hk j (by omega))).symm
    · refine List.map_congr_left (fun i hi => ?_)
      have := h5 i (sl_lt h4 h3 hi)
      unfold en
      rw [by_congr (fb := upd fb (ts + tl) (vp_nar .byte b.toInt8.toInt32)) (fb2 := fb) (fun j _ hj => hk j (by omega))]
  · rw [pu_R, if_neg q] at e
    rw [if_neg q, if_neg q]
    cases e
    exact ⟨rfl, rx_c h hc⟩
theorem rx_rm (h : RX c N fb g fn ft fs fl w wi now ts tl lf ll E T L) (hc : c < 512) {kp : Nat → Bool} {pe : Ent → Bool} (hk : ∀ sq i, kp i = pe (en fb fn ft fs fl sq i)) : RX (c + 1) N fb (rm_l kp w 0 0 g).2 fn ft fs fl (rm_l kp w 0 0 g).1 wi now ts tl lf ll (E.filter pe) T L := by
  obtain ⟨⟨h1, h2, h3, h4⟩, h5, ⟨a1, a2, a3, a4, a5, a6⟩, h7, h8, h9, sq, b1, b2, b3, rfl⟩ := h
  obtain ⟨r1, r2, r3⟩ := rm_all kp h3 h4
  have hm : ∀ i, i ∈ sl (rm_l kp w 0 0 g).1 (rm_l kp w 0 0 g).2 → i ∈ sl w g := fun i hi => by rw [r3] at hi; exact (List.mem_filter.mp hi).1
  refine ⟨⟨h1, h2, by omega, r2⟩, h5, ⟨by omega, by omega, a3, a4, by omega, by omega⟩, ?_, h8, h9, sq, fun i hi => b1 i (hm i hi), fun i j hi hj => b2 i j (hm i hi) (hm j hj), fun i j hi hj => b3 i j (hm i hi) (hm j hj), ?_⟩
  · rw [r3]; exact List.Pairwise.filter _ h7
  · rw [r3, List.filter_map]
    congr 1
    exact List.filter_congr (fun i _ => (hk sq i).symm)
theorem rx_leave (h : RX c N fb g fn ft fs fl w wi now ts tl lf ll E T L) (hc : c < 512) {r : Int32} {u : (Nat → Nat) × Nat × Nat × Nat} (e : (r, u) = lv_R ft fs fl now w g lf ll) :
    (∀ x R, E = x :: R → x.2.1 ≤ nI now → r = nI x.2.2.1.length ∧ RX (c + 1) N fb u.1 fn ft fs fl u.2.1 wi now ts tl u.2.2.1 u.2.2.2 R T x.2.2.1) ∧ ((∀ x R, E = x :: R → ¬ x.2.1 ≤ nI now) → r = -1 ∧ RX (c + 1) N fb u.1 fn ft fs fl u.2.1 wi now ts tl u.2.2.1 u.2.2.2 E T L) := by
  have h0 := h
  obtain ⟨⟨h1, h2, h3, h4⟩, h5, ⟨a1, a2, a3, a4, a5, a6⟩, h7, h8, h9, sq, b1, b2, b3, rfl⟩ := h
  have hcons : 0 < w → sl w g = g 0 :: (sl w g).tail := by
    intro hw
    have : (sl w g)[0]? = some (g 0) := sl_get g hw
    cases hs : sl w g with
    | nil => rw [hs] at this; simp at this
    | cons x R => rw [hs] at this; simp at this; rw [this]; rfl
  refine ⟨fun x R hx hle => ?_, fun hno => ?_⟩
  · have hw : 0 < w := by
      rcases Nat.eq_zero_or_pos w with q | q
      · subst q; cases hx
      · exact q
    rw [hcons hw, List.map_cons] at hx
    obtain ⟨hx1, hx2⟩ := List.cons.inj hx
    subst hx1
    have hq : lv_F ft now w g = true := by
      have : ft (g 0) ≤ nI now := hle
      simp [lv_F, this]; omega
    rw [lv_R, if_pos hq] at e
    cases e
    obtain ⟨d1, d2⟩ := dr_all hw h3 h4
    have hm : ∀ i, i ∈ sl (w - 1) (dr_l (w - 1) 1 g) → i ∈ sl w g := fun i hi => by rw [d2] at hi; exact List.mem_of_mem_tail hi
    have h00 : g 0 < N := h4.1 0 (by omega)
    refine ⟨by show _ = nI (by_L fb (fs (g 0)) (fl (g 0))).length; rw [by_len], ⟨h1, h2, by show w - 1 ≤ N; omega, d1⟩, h5, ⟨by omega, by omega, a3, h5 _ h00, by omega, by omega⟩, ?_, h8, rfl, sq, fun i hi => b1 i (hm i hi), fun i j hi hj => b2 i j (hm i hi) (hm j hj), fun i j hi hj => b3 i j (hm i hi) (hm j hj), ?_⟩
    · show srt _ (sl (w - 1) (dr_l (w - 1) 1 g))
      rw [d2]
      exact List.Pairwise.sublist (List.tail_sublist _) h7
    · show R = (sl (w - 1) (dr_l (w - 1) 1 g)).map _
      rw [d2, ← hx2]
  · have hq : ¬ lv_F ft now w g = true := by
      intro q
      simp only [lv_F, Bool.and_eq_true, decide_eq_true_eq] at q
      exact hno (en fb fn ft fs fl sq (g 0)) ((sl w g).tail.map (en fb fn ft fs fl sq)) (by rw [← List.map_cons, ← hcons (by omega)]) q.2
    rw [lv_R, if_neg hq] at e
    cases e
    exact ⟨rfl, rx_c h0 hc⟩
theorem rx_ins0 (h : RX c N fb g fn ft fs fl w wi now ts tl lf ll E T L) (hc : c < 512) : RX (c + 1) N fb g fn ft fs fl w wi now ts 0 lf ll E [] L := by
  obtain ⟨h1, h2, ⟨a1, a2, a3, a4, a5, a6⟩, h7, h8, h⟩ := h
  exact ⟨h1, h2, ⟨by omega, by omega, by omega, a4, by omega, by omega⟩, h7, rfl, h⟩
theorem rx_ins1 (h : RX c N fb g fn ft fs fl w wi now ts tl lf ll E T L) (hc : c < 512) (nu t : Int32) (hq : wh_F tl now t w N = 0) : RX (c + 1) N fb (st_l (be_F (upd ft (g w) t) (va_up fs (g w) ts)) w g) (upd fn (g w) nu) (upd ft (g w) t) (va_up fs (g w) ts) (va_up fl (g w) tl) (w + 1) (wi + 1) now (ts + tl) 0 lf ll (a_so (E ++ [(nu, t, T, wi)])) [] L := by
  obtain ⟨⟨h1, h2, h3, h4⟩, h5, ⟨a1, a2, a3, a4, a5, a6⟩, h7, rfl, h9, sq, b1, b2, b3, rfl⟩ := h
  have hw : w < N := wh_w hq
  have htl : tl ≠ 0 := by
    intro q
    rw [wh_F, if_pos q] at hq
    omega
  have ht : 0 < t.toInt := by
    have q : ¬ t ≤ nI now := by
      intro q
      rw [wh_F, if_neg htl, if_pos q] at hq
      omega
    have q2 := Int32.lt_iff_toInt_lt.mp (Int32.not_le.mp q)
    rw [nI_toInt (by omega)] at q2
    omega
  have hne : ∀ i, i ∈ sl w g → i ≠ g w := by
    intro i hi e
    obtain ⟨j, hj, rfl⟩ := sl_mem.mp hi
    have := h4.2 j w (by omega) hw e
    omega
  have u1 : ∀ i, i ≠ g w → upd ft (g w) t i = ft i := fun i hi => pk_un hi
  have u2 : ∀ i, i ≠ g w → upd fn (g w) nu i = fn i := fun i hi => pk_un hi
  have u3 : ∀ (f : Nat → Nat) (v i : Nat), i ≠ g w → va_up f (g w) v i = f i := fun f v i hi => by unfold va_up; rw [if_neg hi]
  have u4 : ∀ (f : Nat → Nat) (v : Nat), va_up f (g w) v (g w) = v := fun f v => by unfold va_up; rw [if_pos rfl]
  have hperm := st_perm (bf := be_F (upd ft (g w) t) (va_up fs (g w) ts)) w g
  have hmem : ∀ i, i ∈ sl (w + 1) (st_l (be_F (upd ft (g w) t) (va_up fs (g w) ts)) w g) → i ∈ sl w g ∨ i = g w := by
    intro i hi
    have := hperm.mem_iff.mp hi
    rw [sl_succ] at this
    rcases List.mem_append.mp this with q | q
    · exact Or.inl q
    · exact Or.inr (List.mem_singleton.mp q)
  have hst : srt (be_F (upd ft (g w) t) (va_up fs (g w) ts)) (sl w g) := by
    refine List.Pairwise.imp_of_mem (fun {a b} ha hb hab => ?_) h7
    have e1 := u1 a (hne a ha)
    have e2 := u1 b (hne b hb)
    have e3 := u3 fs ts a (hne a ha)
    have e4 := u3 fs ts b (hne b hb)
    unfold be_F at hab ⊢
    rw [e1, e2, e3, e4]
    exact hab
  have hfs : ∀ i, i ∈ sl w g → fs i < ts := fun i hi => by
    have := h5 i (sl_lt h4 h3 hi)
    have := (b1 i hi).1
    omega
  have c2 : ∀ i j, (i ∈ sl w g ∨ i = g w) → (j ∈ sl w g ∨ j = g w) → (va_up fs (g w) ts i < va_up fs (g w) ts j ↔ va_up sq (g w) wi i < va_up sq (g w) wi j) := by
    intro i j hi hj
    rcases hi with hi | hi <;> rcases hj with hj | hj
    · rw [u3 _ _ i (hne i hi), u3 _ _ j (hne j hj), u3 _ _ i (hne i hi), u3 _ _ j (hne j hj)]
      exact b2 i j hi hj
    · subst hj
      rw [u3 _ _ i (hne i hi), u4, u3 _ _ i (hne i hi), u4]
      have := hfs i hi
      have := (b1 i hi).2.1
      omega
    · subst hi
      rw [u3 _ _ j (hne j hj), u4, u3 _ _ j (hne j hj), u4]
      have := hfs j hj
      have := (b1 j hj).2.1
      omega
    · subst hi; subst hj
      omega
  have c3 : ∀ i j, (i ∈ sl w g ∨ i = g w) → (j ∈ sl w g ∨ j = g w) → va_up sq (g w) wi i = va_up sq (g w) wi j → i = j := by
    intro i j hi hj
    rcases hi with hi | hi <;> rcases hj with hj | hj
    · rw [u3 _ _ i (hne i hi), u3 _ _ j (hne j hj)]
      exact b3 i j hi hj
    · subst hj
      rw [u3 _ _ i (hne i hi), u4]
      have := (b1 i hi).2.1
      omega
    · subst hi
      rw [u3 _ _ j (hne j hj), u4]
      have := (b1 j hj).2.1
      omega
    · intro _; rw [hi, hj]
  have hnew : (sl (w + 1) g).map (en fb (upd fn (g w) nu) (upd ft (g w) t) (va_up fs (g w) ts) (va_up fl (g w) tl) (va_up sq (g w) wi)) = (sl w g).map (en fb fn ft fs fl sq) ++ [(nu, t, by_L fb ts tl, wi)] := by
    rw [sl_succ, List.map_append]
    congr 1
    · refine List.map_congr_left (fun i hi => ?_)
      have q := hne i hi
      unfold en
      rw [u1 i q, u2 i q, u3 _ _ i q, u3 _ _ i q, u3 _ _ i q]
    · show [_] = [_]
      unfold en
      rw [u4, u4, u4, pk_us, pk_us]
  have m1 : ∀ i, i ∈ sl (w + 1) g → i ∈ sl w g ∨ i = g w := fun i hi => hmem i (hperm.mem_iff.mpr hi)
  refine ⟨⟨h1, h2, by omega, st_wf w g hw h4⟩, fun i hi => ?_, ⟨by omega, by omega, by omega, by omega, by omega, by omega⟩, st_srt (be_ok _ _) w g hst, rfl, h9, va_up sq (g w) wi, fun i hi => ?_, fun i j hi hj => c2 i j (hmem i hi) (hmem j hj), fun i j hi hj => c3 i j (hmem i hi) (hmem j hj), ?_⟩
  · by_cases q : i = g w
    · subst q; rw [u4, u4]; omega
    · rw [u3 _ _ i q, u3 _ _ i q]
      have := h5 i hi
      omega
  · rcases hmem i hi with q | q
    · have q2 := hne i q
      rw [u3 _ _ i q2, u3 _ _ i q2, u1 i q2]
      obtain ⟨z1, z2, z3⟩ := b1 i q
      exact ⟨z1, by omega, z3⟩
    · subst q
      rw [u4, u4, pk_us]
      exact ⟨by omega, by omega, ht⟩
  · refine (a_so_eq ?_ ?_ ?_).symm
    · rw [← hnew]
      exact hperm.map _
    · exact en_srt (st_srt (be_ok _ _) w g hst) (fun i j hi hj => c2 i j (hmem i hi) (hmem j hj))
    · rw [← hnew]
      exact en_nd (sl_nd h4 (by omega)) (fun i j hi hj => c3 i j (m1 i hi) (m1 j hj))
end RXS
