def JR (c N : Nat) (fb : Nat → Int32) (g : Nat → Nat) (fn ft : Nat → Int32) (fs fl : Nat → Nat) (w wi now ts tl lf ll : Nat) (tx lx bt : Nat → Int32) (v : MS) (al tl2 ll2 : Nat) : Prop :=
  wi = al ∧ ∃ E T L, RX c N fb g fn ft fs fl w wi now ts tl lf ll E T L ∧ RM N tx lx bt v al tl2 ll2 E T L
section JS
variable {c N : Nat} {fb : Nat → Int32} {g : Nat → Nat} {fn ft : Nat → Int32} {fs fl : Nat → Nat} {w wi now ts tl lf ll : Nat} {tx lx bt nu ti : Nat → Int32} {si ro : Nat → Nat} {us : Nat → Bool} {w2 al tl2 ll2 : Nat}
theorem jr_bd (h : JR c N fb g fn ft fs fl w wi now ts tl lf ll tx lx bt (nu, ti, si, ro, us, w2) al tl2 ll2) : w = w2 ∧ wi = al ∧ tl = tl2 ∧ ll = ll2 ∧ (1 ≤ N ∧ N ≤ 1024 ∧ w ≤ N ∧ wfP N g) ∧ (∀ i, i < N → fs i ≤ 512) ∧ (∀ i, i < N → fs i + fl i ≤ 512) ∧ ts + tl ≤ c ∧ c ≤ 512 ∧ tl ≤ 256 ∧ lf + ll ≤ 512 ∧ now ≤ c ∧ ll2 ≤ 256 ∧ (∀ j, j < w2 → ro j < 1024) ∧ (∀ j, j < w2 → si j ≤ 256) := by
  obtain ⟨h0, E, T, L, hx, hm⟩ := h
  obtain ⟨x1, x2, x3, x4, x5, x6, x7, x8⟩ := rx_bd hx
  obtain ⟨m1, m2, m3, m4, m5, m6⟩ := rm_bd hm
  obtain ⟨l1, l2, l3⟩ := rx_len hx
  obtain ⟨k1, k2, k3⟩ := rm_len hm
  have k1 : E.length = w2 := k1
  exact ⟨by omega, h0, by omega, by omega, x1, x2, x3, x4, x5, x6, x7, x8, m4, m5, m6⟩
theorem jr_c (h : JR c N fb g fn ft fs fl w wi now ts tl lf ll tx lx bt (nu, ti, si, ro, us, w2) al tl2 ll2) (hc : c < 512) : JR (c + 1) N fb g fn ft fs fl w wi now ts tl lf ll tx lx bt (nu, ti, si, ro, us, w2) al tl2 ll2 := by
  obtain ⟨h0, E, T, L, hx, hm⟩ := h
  exact ⟨h0, E, T, L, rx_c hx hc, hm⟩
theorem jr_tick (h : JR c N fb g fn ft fs fl w wi now ts tl lf ll tx lx bt (nu, ti, si, ro, us, w2) al tl2 ll2) (hc : c < 512) : JR (c + 1) N fb g fn ft fs fl w wi (now + 1) ts tl lf ll tx lx bt (nu, ti, si, ro, us, w2) al tl2 ll2 := by
  obtain ⟨h0, E, T, L, hx, hm⟩ := h
  exact ⟨h0, E, T, L, rx_tick hx hc, hm⟩
theorem jr_reset (h : JR c N fb g fn ft fs fl w wi now ts tl lf ll tx lx bt (nu, ti, si, ro, us, w2) al tl2 ll2) (hc : c < 512) {u : MS} (e : u = m_rs w2 (nu, ti, si, ro, us, w2)) : JR (c + 1) N fb g fn ft fs fl 0 wi now ts tl lf ll tx lx bt u al tl2 ll2 := by
  obtain ⟨h0, E, T, L, hx, hm⟩ := h
  subst e
  exact ⟨h0, [], T, L, rx_reset hx hc, rm_rs hm⟩
theorem jr_put (h : JR c N fb g fn ft fs fl w wi now ts tl lf ll tx lx bt (nu, ti, si, ro, us, w2) al tl2 ll2) (hc : c < 512) {b r r2 : Int32} {u u2 : (Nat → Int32) × Nat} (e : (r, u) = pu_R fb ts tl b) (e2 : (r2, u2) = mp_R tx tl2 b) : r = r2 ∧ JR (c + 1) N u.1 g fn ft fs fl w wi now ts u.2 lf ll u2.1 lx bt (nu, ti, si, ro, us, w2) al u2.2 ll2 := by
  obtain ⟨h0, E, T, L, hx, hm⟩ := h
  obtain ⟨a1, a2⟩ := rx_put hx hc b e
  obtain ⟨b1, b2⟩ := rm_put hm b e2
  exact ⟨by rw [a1, b1], h0, E, _, L, a2, b2⟩
theorem jr_leave (h : JR c N fb g fn ft fs fl w wi now ts tl lf ll tx lx bt (nu, ti, si, ro, us, w2) al tl2 ll2) (hc : c < 512) {r r2 : Int32} {u : (Nat → Nat) × Nat × Nat × Nat} {u2 : (Nat → Int32) × Nat × MS} (e : (r, u) = lv_R ft fs fl now w g lf ll) (e2 : (r2, u2) = ml_R lx nu ti si ro us bt w2 now ll2) : r = r2 ∧ JR (c + 1) N fb u.1 fn ft fs fl u.2.1 wi now ts tl u.2.2.1 u.2.2.2 tx u2.1 bt u2.2.2 al tl2 u2.2.1 := by
  obtain ⟨h0, E, T, L, hx, hm⟩ := h
  obtain ⟨a1, a2⟩ := rx_leave hx hc e
  obtain ⟨b1, b2⟩ := rm_leave hm now e2
  by_cases q : ∃ x R, E = x :: R ∧ x.2.1 ≤ nI now
  · obtain ⟨x, R, q1, q2⟩ := q
    obtain ⟨c1, c2⟩ := a1 x R q1 q2
    obtain ⟨d1, d2⟩ := b1 x R q1 q2
    exact ⟨by rw [c1, d1], h0, R, T, _, c2, d2⟩
  · obtain ⟨c1, c2⟩ := a2 (fun x R q1 q2 => q ⟨x, R, q1, q2⟩)
    obtain ⟨d1, d2⟩ := b2 (fun x R q1 q2 => q ⟨x, R, q1, q2⟩)
    exact ⟨by rw [c1, d1], h0, E, T, L, c2, d2⟩
theorem jr_insert (h : JR c N fb g fn ft fs fl w wi now ts tl lf ll tx lx bt (nu, ti, si, ro, us, w2) al tl2 ll2) (hc : c < 512) {x t : Int32} {r0 : Nat} (hfr : w2 < N → r0 < 1024 ∧ us r0 = false ∧ ∀ j, j < r0 → us j = true)
    {u : (Nat → Nat) × (Nat → Int32) × (Nat → Int32) × (Nat → Nat) × (Nat → Nat) × Nat × Nat × Nat} (e : u = ir_R N g fn ft fs fl w wi now ts tl x t)
    {u2 : (Nat → Int32) × (Nat → Int32) × (Nat → Nat) × (Nat → Nat) × (Nat → Bool) × (Nat → Int32) × Nat × Nat} (e2 : u2 = mi_R r0 N tx nu ti si ro us bt w2 al now tl2 x t) :
    wh_F tl now t w N = wh_F tl2 now t w2 N ∧ JR (c + 1) N fb u.1 u.2.1 u.2.2.1 u.2.2.2.1 u.2.2.2.2.1 u.2.2.2.2.2.1 u.2.2.2.2.2.2.1 now u.2.2.2.2.2.2.2 0 lf ll tx lx u2.2.2.2.2.2.1 (u2.1, u2.2.1, u2.2.2.1, u2.2.2.2.1, u2.2.2.2.2.1, u2.2.2.2.2.2.2.1) u2.2.2.2.2.2.2.2 0 ll2 := by
  obtain ⟨z1, z2, z3, z4, -⟩ := jr_bd h
  obtain ⟨h0, E, T, L, hx, hm⟩ := h
  refine ⟨by rw [z1, z3], ?_⟩
  have hT := (rx_len hx).2.1
  by_cases q : wh_F tl now t w N = 0
  · have q2 : wh_F tl2 now t w2 N = 0 := by rw [← z1, ← z3]; exact q
    rw [ir_R, if_pos q] at e
    rw [mi_R, if_pos q2] at e2
    subst e
    subst e2
    have hw := wh_w q2
    obtain ⟨f1, f2, -⟩ := hfr hw
    have a1 := rx_ins1 hx hc x t q
    have b1 := rm_ins1 hm f1 f2 hw x t
    rw [← h0] at b1
    exact ⟨by show wi + 1 = al + 1; omega, _, _, _, a1, by show RM N tx lx _ _ (al + 1) _ _ _ _ _; rw [← h0]; exact b1⟩
  · have q2 : ¬ wh_F tl2 now t w2 N = 0 := by rw [← z1, ← z3]; exact q
    rw [ir_R, if_neg q] at e
    rw [mi_R, if_neg q2] at e2
    subst e
    subst e2
    exact ⟨h0, E, [], L, rx_ins0 hx hc, rm_ins0 hm⟩
theorem jr_rm (h : JR c N fb g fn ft fs fl w wi now ts tl lf ll tx lx bt (nu, ti, si, ro, us, w2) al tl2 ll2) (hc : c < 512) (pr : Int32 → Int32 → Bool) {kp : Nat → Bool} (hk : ∀ i, kp i = !(pr (fn i) (ft i))) {u : MS} (e : u = (m_rm pr w2 (nu, ti, si, ro, us, w2) 0).1) :
    nI (w - (rm_l kp w 0 0 g).1) = nI (m_rm pr w2 (nu, ti, si, ro, us, w2) 0).2 ∧ JR (c + 1) N fb (rm_l kp w 0 0 g).2 fn ft fs fl (rm_l kp w 0 0 g).1 wi now ts tl lf ll tx lx bt u al tl2 ll2 := by
  obtain ⟨h0, E, T, L, hx, hm⟩ := h
  have a1 := rx_rm hx hc (kp := kp) (pe := fun e => !(pr e.1 e.2.1)) (fun sq i => hk i)
  obtain ⟨b1, b2⟩ := rm_rmv hm pr
  have b2 : (m_rm pr w2 (nu, ti, si, ro, us, w2) 0).2 = (E.filter (fun e => pr e.1 e.2.1)).length := b2
  subst e
  refine ⟨?_, h0, _, T, L, a1, b1⟩
  have l1 := (rx_len a1).1
  have l2 := (rx_len hx).1
  rw [b2, ← l1, ← l2]
  have l3 := List.length_eq_countP_add_countP (fun e : Ent => pr e.1 e.2.1) (l := E)
  rw [List.countP_eq_length_filter, List.countP_eq_length_filter] at l3
  have l4 : E.filter (fun e => !(pr e.1 e.2.1)) = E.filter (fun a => decide ¬ (pr a.1 a.2.1) = true) := List.filter_congr (fun a _ => by cases pr a.1 a.2.1 <;> rfl)
  rw [l4]
  congr 1
  omega
theorem a_mvF {E : List Ent} {now : Nat} {f t b : Int32} : mv_A (mv_F (a_mv now f t b E) none (some (E.countP (e_in f t)))) = mv_A (a_mv now f t b E) := by
  unfold a_mv
  split <;> rfl
theorem jr_mv (h : JR c N fb g fn ft fs fl w wi now ts tl lf ll tx lx bt (nu, ti, si, ro, us, w2) al tl2 ll2) (hc : c < 512) {f t f2 t2 b : Int32} (hs : ∀ x : Int32, 0 < x.toInt → (decide (f ≤ x) && decide (x ≤ t)) = (decide (f2 ≤ x) && decide (x ≤ t2))) :
    mv_A (mv_c (in_S ft f t) (cm_F ft now b) w 0 g 0) = mv_A (mv_F (mv_c (in_S ti f2 t2) (cm_F ti now b) w2 0 (fun j => j) 0) none (some (mm_q f2 t2 b w2 0 ti 0))) ∧
    JR (c + 1) N fb (mv_F (mv_c (in_S ft f t) (cm_F ft now b) w 0 g 0) g (mv_s (be_F (mv_t f t b w 0 g ft) fs) (w - 1) 1 g)) fn (mv_F (mv_c (in_S ft f t) (cm_F ft now b) w 0 g 0) ft (mv_t f t b w 0 g ft)) fs fl w wi now ts tl lf ll tx lx bt (nu, mv_F (mv_c (in_S ti f2 t2) (cm_F ti now b) w2 0 (fun j => j) 0) ti (mv_t f2 t2 b w2 0 (fun j => j) ti), si, ro, us, w2) al tl2 ll2 := by
  obtain ⟨h0, E, T, L, hx, hm⟩ := h
  have a1 := rx_mo hx f t b
  have a2 := rx_mv hx hc f t b
  obtain ⟨b1, b2⟩ := rm_mo hm now f2 t2 b
  have b3 := rm_mv hm now f2 t2 b
  have hpos := rx_all hx
  have hin : ∀ e ∈ E, e_in f t e = e_in f2 t2 e := fun e he => hs e.2.1 (hpos e he)
  have m1 : a_mv now f t b E = a_mv now f2 t2 b E := by
    unfold a_mv
    have q1 : E.all (fun e => !(e_in f t e) || e_can now b e) = E.all (fun e => !(e_in f2 t2 e) || e_can now b e) := by
      rw [Bool.eq_iff_iff, List.all_eq_true, List.all_eq_true]
      constructor
      · intro z e he; rw [← hin e he]; exact z e he
      · intro z e he; rw [hin e he]; exact z e he
    have q2 : E.countP (e_in f t) = E.countP (e_in f2 t2) := List.countP_congr (fun e he => by rw [hin e he])
    rw [q1, q2]
  have m2 : E.map (e_mv f t b) = E.map (e_mv f2 t2 b) := List.map_congr_left (fun e he => by unfold e_mv; rw [hin e he])
  rw [a1, b1, b2]
  refine ⟨by rw [a_mvF, m1], h0, mv_F (a_mv now f t b E) E (a_so (E.map (e_mv f t b))), T, L, a2, ?_⟩
  rw [m1, m2]
  exact b3
theorem jr_ask (h : JR c N fb g fn ft fs fl w wi now ts tl lf ll tx lx bt (nu, ti, si, ro, us, w2) al tl2 ll2) : (∀ j, bo_F fb lf ll j = bo_F lx 0 ll2 j) ∧ (∀ k, co_F now w wi ll k = co_F now w2 al ll2 k) ∧ (∀ k j, ab_F fn ft fl w g k j = ma_F nu ti si w2 k j) ∧ (∀ k j, ba_F fb fs fl w g k j = mb_F bt ti si ro w2 k j) := by
  obtain ⟨z1, z2, z3, z4, -⟩ := jr_bd h
  obtain ⟨h0, E, T, L, hx, hm⟩ := h
  refine ⟨fun j => ?_, fun k => ?_, fun k j => ?_, fun k j => ?_⟩
  · rw [rx_left hx, rm_left hm]
  · rw [z1, z2, z4]
  · rw [rx_about hx, rm_about hm]
  · rw [rx_byteAt hx, rm_byteAt hm]
end JS
theorem jr_new (N : Nat) (h1 : 1 ≤ N) (h2 : N ≤ 1024) : JR 0 N (fun _ => 0) (g_id N) (fun _ => 0) (fun _ => 0) (fun _ => 0) (fun _ => 0) 0 0 0 0 0 0 0 (fun _ => 0) (fun _ => 0) (fun _ => 0) (fun _ => 0, fun _ => 0, fun _ => 0, fun _ => 0, fun _ => false, 0) 0 0 0 := by
  refine ⟨rfl, [], [], [], rx_new N h1 h2, ⟨Nat.zero_le N, h2, by omega, by omega⟩, rfl, rfl, [], ⟨Nat.zero_le 1024, ?_, ?_, ?_, ?_, fun _ => 0, ?_, ?_, rfl⟩, rfl⟩
  · intro j hj; exact absurd hj (Nat.not_lt_zero j)
  · intro i j hi; exact absurd hi (Nat.not_lt_zero i)
  · intro r hr; exact absurd (show false = true from hr) (by decide)
  · intro j hj; exact absurd hj (Nat.not_lt_zero j)
  · intro i j _ hj; exact absurd hj (Nat.not_lt_zero j)
  · intro j hj; exact absurd hj (Nat.not_lt_zero j)
/-- shift's span: all times -/
theorem sp_all (x : Int32) (h : 0 < x.toInt) : (decide (nI 0 ≤ x) && decide (x ≤ nI 2147483647)) = (decide ((-2147483648 : Int32) ≤ x) && decide (x ≤ nI 2147483647)) := by
  have e1 : (nI 0).toInt = 0 := rfl
  have e2 : (-2147483648 : Int32).toInt = -2147483648 := by decide
  have h1 : nI 0 ≤ x := Int32.le_iff_toInt_le.mpr (by omega)
  have h2 : (-2147483648 : Int32) ≤ x := Int32.le_iff_toInt_le.mpr (by omega)
  rw [decide_eq_true h1, decide_eq_true h2]
