/-! The reference holds the timetable. -/
def RM (N : Nat) (tx lx bt : Nat → Int32) (v : MS) (al tl ll : Nat) (E : List Ent) (T L : List Int32) : Prop :=
  (v.2.2.2.2.2 ≤ N ∧ N ≤ 1024 ∧ tl ≤ 256 ∧ ll ≤ 256) ∧ T = by_L tx 0 tl ∧ L = by_L lx 0 ll ∧ ∃ A, RA bt al v A ∧ E = a_so A
theorem by_cp {f h : Nat → Int32} {a k : Nat} : by_L (cp f h a k) a k = by_L h 0 k := by
  unfold by_L
  refine List.map_congr_left (fun j hj => ?_)
  have := List.mem_range.mp hj
  unfold cp
  rw [if_pos (by omega), show a + j - a = j by omega, Nat.zero_add, vp_nar_byte]
  exact bp_b _
theorem by_sh (bt : Nat → Int32) (a n : Nat) : by_L (fun k => bt (a + k)) 0 n = by_L bt a n := by
  unfold by_L
  refine List.map_congr_left (fun j _ => ?_)
  rw [Nat.zero_add]
section RMS
variable {N : Nat} {tx lx bt : Nat → Int32} {v : MS} {al tl ll : Nat} {E : List Ent} {T L : List Int32}
theorem rm_len (h : RM N tx lx bt v al tl ll E T L) : E.length = v.2.2.2.2.2 ∧ T.length = tl ∧ L.length = ll := by
  obtain ⟨-, rfl, rfl, A, hA, rfl⟩ := h
  exact ⟨by rw [(a_so_perm A).length_eq, ra_len hA], by_len _ _ _, by_len _ _ _⟩
theorem rm_put (h : RM N tx lx bt v al tl ll E T L) (b : Int32) {r : Int32} {u : (Nat → Int32) × Nat} (e : (r, u) = mp_R tx tl b) : r = (if T.length < 256 then nI (T.length + 1) else -1) ∧ RM N u.1 lx bt v al u.2 ll E (if T.length < 256 then T ++ [b &&& nI 255] else T) L := by
  have hl := rm_len h
  rw [hl.2.1]
  obtain ⟨⟨h1, h2, h3, h4⟩, rfl, h6, h7⟩ := h
  by_cases q : tl = 256
  · rw [mp_R, if_pos q] at e
    cases e
    rw [if_neg (by omega), if_neg (by omega)]
    exact ⟨rfl, ⟨h1, h2, h3, h4⟩, rfl, h6, h7⟩
  · rw [mp_R, if_neg q] at e
    cases e
    rw [if_pos (by omega), if_pos (by omega)]
    refine ⟨rfl, ⟨h1, h2, by show tl + 1 ≤ 256; omega, h4⟩, ?_, h6, h7⟩
    show _ = by_L (upd tx tl (vp_nar .byte b.toInt8.toInt32)) 0 (tl + 1)
    rw [by_succ, Nat.zero_add, pk_us, by_put, by_congr (fb := upd tx tl (vp_nar .byte b.toInt8.toInt32)) (fb2 := tx) (fun j _ hj => pk_un (by omega))]
theorem rm_ins0 (h : RM N tx lx bt v al tl ll E T L) : RM N tx lx bt v al 0 ll E [] L := by
  obtain ⟨⟨h1, h2, h3, h4⟩, h5, h⟩ := h
  exact ⟨⟨h1, h2, by omega, h4⟩, rfl, h⟩
theorem rm_rmv (h : RM N tx lx bt v al tl ll E T L) (pr : Int32 → Int32 → Bool) : RM N tx lx bt (m_rm pr v.2.2.2.2.2 v 0).1 al tl ll (E.filter (fun e => !(pr e.1 e.2.1))) T L ∧ (m_rm pr v.2.2.2.2.2 v 0).2 = (E.filter (fun e => pr e.1 e.2.1)).length := by
  obtain ⟨⟨h1, h2, h3, h4⟩, h5, h6, A, hA, rfl⟩ := h
  obtain ⟨r1, r2⟩ := ra_rm_all hA pr
  refine ⟨⟨⟨?_, h2, h3, h4⟩, h5, h6, _, r1, a_so_f _ (ra_nd hA)⟩, ?_⟩
  · rw [← ra_len r1]
    have := List.length_filter_le (fun e : Ent => !(pr e.1 e.2.1)) A
    rw [ra_len hA] at this
    omega
  · rw [r2, ((a_so_perm A).filter _).length_eq]
theorem rm_rs (h : RM N tx lx bt v al tl ll E T L) : RM N tx lx bt (m_rs v.2.2.2.2.2 v) al tl ll [] T L := by
  obtain ⟨⟨h1, h2, h3, h4⟩, h5, h6, A, hA, rfl⟩ := h
  have r1 := ra_rs (bt := bt) (al := al) v.2.2.2.2.2 v A hA rfl
  refine ⟨⟨?_, h2, h3, h4⟩, h5, h6, [], r1, rfl⟩
  rw [← ra_len r1]
  exact Nat.zero_le N
end RMS
section RMT
variable {N : Nat} {tx lx bt nu ti : Nat → Int32} {si ro : Nat → Nat} {us : Nat → Bool} {w al tl ll : Nat} {E : List Ent} {T L : List Int32}
theorem rm_free (h : RM N tx lx bt (nu, ti, si, ro, us, w) al tl ll E T L) : ∃ r0, w < N → r0 < 1024 ∧ us r0 = false ∧ ∀ j, j < r0 → us j = true := by
  obtain ⟨⟨h1, h2, h3, h4⟩, h5, h6, A, hA, rfl⟩ := h
  by_cases q : w < N
  · obtain ⟨r0, z⟩ := ra_free hA (by show w < 1024; omega)
    exact ⟨r0, fun _ => z⟩
  · exact ⟨0, fun z => absurd z q⟩
theorem rm_bd (h : RM N tx lx bt (nu, ti, si, ro, us, w) al tl ll E T L) : w ≤ N ∧ N ≤ 1024 ∧ tl ≤ 256 ∧ ll ≤ 256 ∧ (∀ j, j < w → ro j < 1024) ∧ (∀ j, j < w → si j ≤ 256) := by
  obtain ⟨⟨h1, h2, h3, h4⟩, h5, h6, A, ⟨-, hA, -⟩, rfl⟩ := h
  exact ⟨h1, h2, h3, h4, fun j hj => (hA j hj).1, fun j hj => (hA j hj).2⟩
theorem rm_ins1 (h : RM N tx lx bt (nu, ti, si, ro, us, w) al tl ll E T L) {r0 : Nat} (hr : r0 < 1024) (hr1 : us r0 = false) (hw : w < N) (x t : Int32) : RM N tx lx (cp bt tx (256 * r0) tl) (upd nu w x, upd ti w t, va_up si w tl, va_up ro w r0, va_up us r0 true, w + 1) (al + 1) 0 ll (a_so (E ++ [(x, t, T, al)])) [] L := by
  obtain ⟨⟨h1, h2, h3, h4⟩, rfl, h6, A, hA, rfl⟩ := h
  have hnd := ra_nd hA
  have hA0 := hA
  obtain ⟨g1, g2, g3, g4, g5, sq, s1, s2, rfl⟩ := hA
  dsimp only at g1 g2 g3 g4 g5 s1 s2 h1
  have hne : ∀ j, j < w → ro j ≠ r0 := fun j hj z => by
    have := g5 j hj
    rw [z, hr1] at this
    exact absurd this (by decide)
  have u3 : ∀ {α : Type} (f : Nat → α) (y : α) (j : Nat), j < w → va_up f w y j = f j := fun f y j hj => by unfold va_up; rw [if_neg (by omega)]
  have u4 : ∀ {α : Type} (f : Nat → α) (k : Nat) (y : α), va_up f k y k = y := fun f k y => by unfold va_up; rw [if_pos rfl]
  have u5 : ∀ j, j ≠ r0 → va_up us r0 true j = us j := fun j hj => by unfold va_up; rw [if_neg hj]
  have hold : ∀ j, j < w → em (cp bt tx (256 * r0) tl) (upd nu w x) (upd ti w t) (va_up si w tl) (va_up ro w r0) (va_up sq w al) j = em bt nu ti si ro sq j := by
    intro j hj
    unfold em
    rw [u3 si, u3 ro, u3 sq, pk_un (f := nu) (show j ≠ w by omega), pk_un (f := ti) (show j ≠ w by omega)]
    · rw [by_congr (fb := cp bt tx (256 * r0) tl) (fb2 := bt)]
      intro q q1 q2
      have z1 := hne j hj
      have z2 := (g2 j hj).2
      unfold cp
      rw [if_neg (by omega)]
    · exact hj
    · exact hj
    · exact hj
  have hnew : em (cp bt tx (256 * r0) tl) (upd nu w x) (upd ti w t) (va_up si w tl) (va_up ro w r0) (va_up sq w al) w = (x, t, by_L tx 0 tl, al) := by
    unfold em
    rw [u4, u4, u4, pk_us, pk_us, by_cp]
  have hR : RA (cp bt tx (256 * r0) tl) (al + 1) (upd nu w x, upd ti w t, va_up si w tl, va_up ro w r0, va_up us r0 true, w + 1) ((List.range w).map (em bt nu ti si ro sq) ++ [(x, t, by_L tx 0 tl, al)]) := by
    refine ⟨by show w + 1 ≤ 1024; omega, ?_, ?_, ?_, ?_, va_up sq w al, ?_, ?_, ?_⟩
    · intro j hj
      have hj : j < w + 1 := hj
      show va_up ro w r0 j < 1024 ∧ va_up si w tl j ≤ 256
      by_cases q : j < w
      · rw [u3 ro r0 j q, u3 si tl j q]; exact g2 j q
      · rw [show j = w by omega, u4, u4]; exact ⟨hr, h3⟩
    · intro i j hi hj e
      have hi : i < w + 1 := hi
      have hj : j < w + 1 := hj
      have e : va_up ro w r0 i = va_up ro w r0 j := e
      by_cases q1 : i < w <;> by_cases q2 : j < w
      · rw [u3 ro r0 i q1, u3 ro r0 j q2] at e; exact g3 i j q1 q2 e
      · rw [u3 ro r0 i q1, show j = w by omega, u4] at e; exact absurd e (hne i q1)
      · rw [u3 ro r0 j q2, show i = w by omega, u4] at e; exact absurd e.symm (hne j q2)
      · omega
    · intro r hr2
      have hr2 : va_up us r0 true r = true := hr2
      by_cases q : r = r0
      · exact ⟨w, by show w < w + 1; omega, by show va_up ro w r0 w = r; rw [u4, q]⟩
      · rw [u5 r q] at hr2
        obtain ⟨j, j1, j2⟩ := g4 r hr2
        exact ⟨j, by show j < w + 1; omega, by show va_up ro w r0 j = r; rw [u3 ro r0 j j1]; exact j2⟩
    · intro j hj
      have hj : j < w + 1 := hj
      show va_up us r0 true (va_up ro w r0 j) = true
      by_cases q : j < w
      · rw [u3 ro r0 j q, u5 _ (hne j q)]; exact g5 j q
      · rw [show j = w by omega, u4, u4]
    · intro i j hij hj
      have hj : j < w + 1 := hj
      by_cases q : j < w
      · rw [u3 sq al i (by omega), u3 sq al j q]; exact s1 i j hij q
      · rw [u3 sq al i (by omega), show j = w by omega, u4]; exact s2 i (by omega)
    · intro j hj
      have hj : j < w + 1 := hj
      by_cases q : j < w
      · rw [u3 sq al j q]; have := s2 j q; omega
      · rw [show j = w by omega, u4]; omega
    · show _ = (List.range (w + 1)).map _
      rw [List.range_succ, List.map_append]
      congr 1
      · exact List.map_congr_left (fun j hj => (hold j (List.mem_range.mp hj)).symm)
      · show [_] = [_]
        rw [hnew]
  refine ⟨⟨by show w + 1 ≤ N; omega, h2, by omega, h4⟩, rfl, h6, _, hR, ?_⟩
  exact a_so_p (List.Perm.append_right _ (a_so_perm _)) (ra_nd hR)
theorem mm_q_spec (f t b : Int32) : ∀ (n k : Nat) (ti : Nat → Int32) (q : Nat), mm_q f t b n k ti q = q + (List.range' k n).countP (in_S ti f t) := by
  intro n
  induction n with
  | zero => intro k ti q; simp [mm_q]
  | succ n ih =>
    intro k ti q
    rw [List.range'_succ, List.countP_cons, mm_q]
    have hc : (List.range' (k + 1) n).countP (in_S (upd ti k (ti k + b)) f t) = (List.range' (k + 1) n).countP (in_S ti f t) := by
      refine List.countP_congr (fun j hj => ?_)
      have := List.mem_range'_1.mp hj
      unfold in_S
      rw [pk_un (show j ≠ k by omega)]
    by_cases h : in_S ti f t k = true
    · rw [if_pos h, ih, hc, if_pos h]; omega
    · rw [if_neg h, ih, if_neg h]; omega
theorem rm_mo (h : RM N tx lx bt (nu, ti, si, ro, us, w) al tl ll E T L) (now : Nat) (f t b : Int32) : mv_c (in_S ti f t) (cm_F ti now b) w 0 (fun j => j) 0 = a_mv now f t b E ∧ mm_q f t b w 0 ti 0 = E.countP (e_in f t) := by
  obtain ⟨-, -, -, A, ⟨-, -, -, -, -, sq, -, -, rfl⟩, rfl⟩ := h
  have hp := a_so_perm ((List.range w).map (em bt nu ti si ro sq))
  dsimp only
  constructor
  · rw [mv_c_spec, sl_r, a_mv, hp.all_eq, hp.countP_eq, List.all_map, List.countP_map, Nat.zero_add]
    unfold sl
    rw [List.all_map, List.countP_map]
    rfl
  · rw [mm_q_spec, hp.countP_eq, List.countP_map, Nat.zero_add, ← List.range_eq_range']
    rfl
theorem rm_mv (h : RM N tx lx bt (nu, ti, si, ro, us, w) al tl ll E T L) (now : Nat) (f t b : Int32) : RM N tx lx bt (nu, mv_F (a_mv now f t b E) ti (mv_t f t b w 0 (fun j => j) ti), si, ro, us, w) al tl ll (mv_F (a_mv now f t b E) E (a_so (E.map (e_mv f t b)))) T L := by
  by_cases ho : E.all (fun e => !(e_in f t e) || e_can now b e) = true
  · have e1 : a_mv now f t b E = some (E.countP (e_in f t)) := by rw [a_mv, if_pos ho]
    rw [e1]
    show RM N tx lx bt (nu, mv_t f t b w 0 (fun j => j) ti, si, ro, us, w) al tl ll (a_so (E.map (e_mv f t b))) T L
    obtain ⟨h1, h5, h6, A, hA, rfl⟩ := h
    obtain ⟨g1, g2, g3, g4, g5, sq, s1, s2, rfl⟩ := hA
    dsimp only at g1 g2 g3 g4 g5 s1 s2
    have hr : (List.range' 0 w).map (fun j => j) = List.range w := by rw [List.range_eq_range']; simp
    have hti : ∀ i, i < w → mv_t f t b w 0 (fun j => j) ti i = if in_S ti f t i = true then ti i + b else ti i := by
      intro i hi
      rw [mv_t_spec f t b w 0 (fun j => j) ti (by rw [hr]; exact List.Pairwise.imp (fun h => Nat.ne_of_lt h) List.pairwise_lt_range) i, hr]
      by_cases q : in_S ti f t i = true
      · rw [if_pos ⟨List.mem_range.mpr hi, q⟩, if_pos q]
      · rw [if_neg (fun z => q z.2), if_neg q]
    have hmap : (List.range w).map (em bt nu (mv_t f t b w 0 (fun j => j) ti) si ro sq) = ((List.range w).map (em bt nu ti si ro sq)).map (e_mv f t b) := by
      rw [List.map_map]
      refine List.map_congr_left (fun i hi => ?_)
      show em bt nu (mv_t f t b w 0 (fun j => j) ti) si ro sq i = e_mv f t b (em bt nu ti si ro sq i)
      unfold e_mv em
      rw [hti i (List.mem_range.mp hi)]
      by_cases q : in_S ti f t i = true
      · rw [if_pos q, if_pos (show e_in f t (nu i, ti i, by_L bt (256 * ro i) (si i), sq i) = true from q)]
      · rw [if_neg q, if_neg (show ¬ e_in f t (nu i, ti i, by_L bt (256 * ro i) (si i), sq i) = true from q)]
    have hR : RA bt al (nu, mv_t f t b w 0 (fun j => j) ti, si, ro, us, w) (((List.range w).map (em bt nu ti si ro sq)).map (e_mv f t b)) := ⟨g1, g2, g3, g4, g5, sq, s1, s2, hmap.symm⟩
    refine ⟨h1, h5, h6, _, hR, ?_⟩
    exact a_so_p ((a_so_perm _).map _) (ra_nd hR)
  · have e1 : a_mv now f t b E = none := by rw [a_mv, if_neg ho]
    rw [e1]
    exact h
theorem pl_i_spec (ti : Nat → Int32) (i : Nat) : ∀ (n j q : Nat), pl_i ti i n j q = q + (List.range' j n).countP (fun j => bf_M ti j i) := by
  intro n
  induction n with
  | zero => intro j q; simp [pl_i]
  | succ n ih =>
    intro j q
    rw [List.range'_succ, List.countP_cons, pl_i]
    by_cases h : bf_M ti j i = true
    · rw [if_pos h, ih, if_pos h]; omega
    · rw [if_neg h, ih, if_neg h]; omega
theorem pl_o_spec (ti : Nat → Int32) (kk w i0 : Nat) (h0 : pl_i ti i0 w 0 0 = kk) (hu : ∀ i, i < w → pl_i ti i w 0 0 = kk → i = i0) : ∀ (n i : Nat) (o : Option Nat), i + n = w → pl_o ti kk w n i o = if i ≤ i0 ∧ i0 < i + n then some i0 else o := by
  intro n
  induction n with
  | zero => intro i o _; rw [pl_o, if_neg (by omega)]
  | succ n ih =>
    intro i o hi
    rw [pl_o]
    by_cases q : pl_i ti i w 0 0 = kk
    · have := hu i (by omega) q
      subst this
      rw [if_pos q, ih _ _ (by omega), if_neg (by omega), if_pos (by omega)]
    · have hne : i ≠ i0 := fun z => q (by rw [z]; exact h0)
      rw [if_neg q, ih _ _ (by omega)]
      by_cases z : i + 1 ≤ i0 ∧ i0 < i + 1 + n
      · rw [if_pos z, if_pos (by omega)]
      · rw [if_neg z, if_neg (by omega)]
/-- place finds the k-th in order -/
theorem rm_place (h : RM N tx lx bt (nu, ti, si, ro, us, w) al tl ll E T L) {k : Nat} (hk : k < w) : ∃ (i : Nat) (A : List Ent) (x : Ent), i < w ∧ pl_o ti k w w 0 none = some i ∧ RA bt al (nu, ti, si, ro, us, w) A ∧ E = a_so A ∧ A[i]? = some x ∧ E[k]? = some x ∧ x.1 = nu i ∧ x.2.1 = ti i ∧ x.2.2.1 = by_L bt (256 * ro i) (si i) := by
  have hlen := (rm_len h).1
  obtain ⟨-, -, -, A, hA, rfl⟩ := h
  have hnd := ra_nd hA
  have hA0 := hA
  obtain ⟨g1, g2, g3, g4, g5, sq, s1, s2, rfl⟩ := hA
  dsimp only at g1 g2 g3 g4 g5 s1 s2 hlen hnd
  have hp := a_so_perm ((List.range w).map (em bt nu ti si ro sq))
  have hcnt : ∀ i, i < w → pl_i ti i w 0 0 = (a_so ((List.range w).map (em bt nu ti si ro sq))).countP (fun e => e_lt e (em bt nu ti si ro sq i)) := by
    intro i hi
    rw [pl_i_spec, hp.countP_eq, List.countP_map, Nat.zero_add, ← List.range_eq_range']
    refine List.countP_congr (fun j hj => ?_)
    have hj := List.mem_range.mp hj
    show bf_M ti j i = true ↔ e_lt (em bt nu ti si ro sq j) (em bt nu ti si ro sq i) = true
    unfold bf_M e_lt
    have e1 : (em bt nu ti si ro sq j).2.1 = ti j := rfl
    have e2 : (em bt nu ti si ro sq i).2.1 = ti i := rfl
    have e3 : (em bt nu ti si ro sq j).2.2.2 = sq j := rfl
    have e4 : (em bt nu ti si ro sq i).2.2.2 = sq i := rfl
    rw [e1, e2, e3, e4]
    have hiff : (j < i) ↔ (sq j < sq i) := by
      constructor
      · intro z; exact s1 j i z hi
      · intro z
        rcases Nat.lt_trichotomy j i with q | q | q
        · exact q
        · subst q; omega
        · have := s1 i j q hj; omega
    simp only [hiff]
  have hkl : k < (a_so ((List.range w).map (em bt nu ti si ro sq))).length := by rw [hlen]; exact hk
  have hx := List.getElem?_eq_getElem hkl
  obtain ⟨x, hxe⟩ : ∃ x, x = (a_so ((List.range w).map (em bt nu ti si ro sq)))[k] := ⟨_, rfl⟩
  rw [← hxe] at hx
  have hm := hp.mem_iff.mp (List.mem_of_getElem? hx)
  obtain ⟨i, hi, hix⟩ := List.mem_map.mp hm
  have hi := List.mem_range.mp hi
  have hpos := a_pos _ (a_so_srt _) (e_nd_p hp.symm hnd) k x hx
  have h0 : pl_i ti i w 0 0 = k := by rw [hcnt i hi, hix]; exact hpos
  have hu : ∀ j, j < w → pl_i ti j w 0 0 = k → j = i := by
    intro j hj hjk
    have hm2 : em bt nu ti si ro sq j ∈ a_so ((List.range w).map (em bt nu ti si ro sq)) := hp.mem_iff.mpr (List.mem_map.mpr ⟨j, List.mem_range.mpr hj, rfl⟩)
    obtain ⟨p, hp2⟩ := List.mem_iff_getElem?.mp hm2
    have hpp := a_pos _ (a_so_srt _) (e_nd_p hp.symm hnd) p _ hp2
    rw [hcnt j hj, hpp] at hjk
    subst hjk
    rw [hp2] at hx
    have e5 : em bt nu ti si ro sq j = em bt nu ti si ro sq i := by rw [hix]; exact Option.some.inj hx
    have e6 : sq j = sq i := congrArg (fun e : Ent => e.2.2.2) e5
    rcases Nat.lt_trichotomy j i with q | q | q
    · have := s1 j i q hi; omega
    · exact q
    · have := s1 i j q hj; omega
  refine ⟨i, _, x, hi, ?_, hA0, rfl, ?_, hx, ?_, ?_, ?_⟩
  · rw [pl_o_spec ti k w i h0 hu w 0 none (by omega), if_pos (by omega)]
  · rw [List.getElem?_map, List.getElem?_range hi, ← hix]; rfl
  · rw [← hix]; rfl
  · rw [← hix]; rfl
  · rw [← hix]; rfl
end RMT
