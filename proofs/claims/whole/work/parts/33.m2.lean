set_option maxHeartbeats 4000000 in
set_option maxRecDepth 100000 in
/-- the reference: remove -/
theorem mc_remove (l : Launch) (dC : Nat → ClassId) (dI : Nat → Nat → Nat) (P : Nat → Nat) (C : Nat → ClassId) (N sz : Nat) (tx lx nu ti : Nat → Int32) (si ro : Nat → Nat) (us : Nat → Bool) (bt : Nat → Int32) (w al now : Nat) (on : Bool) (tl ll : Nat) (x : Int32) (hw : w ≤ 1024) (hro : ∀ j, j < w → ro j < 1024) : ctI l y_TM_remove ws_TM_remove (rmD 1) (dC, dI) classes (tys_M C) (mm P C N tx lx nu ti si ro us bt w al now on tl ll) sz [.ref (P 0), .int x] (fun (r : Int32) (u : MS) => r = nI (m_rm (fun a _ => decide (a = x)) w (nu, ti, si, ro, us, w) 0).2 ∧ u = (m_rm (fun a _ => decide (a = x)) w (nu, ti, si, ro, us, w) 0).1) (fun u => (mm P C N tx lx u.1 u.2.1 u.2.2.1 u.2.2.2.1 u.2.2.2.2.1 bt u.2.2.2.2.2 al now on tl ll)) 0 0 := by
  refine tb_metI (own := R_TM) (by decide) rfl rfl (Nat.le_of_ble_eq_true rfl) [(0, .ref (P 0)), (1, .int x)] rfl ?_
  intro p e s m below meth c A ls hx hb hr hml hts hown hlk hnm hA hK hP hD hS hl
  have loop : ∀ (n : Nat) (v : MS) (q : Nat) (H : Heap) (locs : List Loc) (ls : Array Slot), n ≤ v.2.2.2.2.2 → v.2.2.2.2.2 ≤ 1024 → (∀ j, j < v.2.2.2.2.2 → v.2.2.2.1 j < 1024) → q ≤ 1024 → q + n ≤ w → m_rm (fun a _ => decide (a = x)) n v q = m_rm (fun a _ => decide (a = x)) w (nu, ti, si, ro, us, w) 0 → va_P (dC, dI) classes (mm P C N tx lx v.1 v.2.1 v.2.2.1 v.2.2.2.1 v.2.2.2.2.1 bt v.2.2.2.2.2 al now on tl ll) H → va_D A (mm P C N tx lx v.1 v.2.1 v.2.2.1 v.2.2.2.1 v.2.2.2.2.1 bt v.2.2.2.2.2 al now on tl ll) → va_S A s.heap H locs → lv_has ls 4 [(3, .int (im n)), (2, .int (nI q)), (0, .ref (P 0)), (1, .int x)] → W p l e (rmD 1) s m [Value.ref (P 0), .int x].toArray below meth c H locs 0 0 (MQ below (va_Qi (fun (r : Int32) (u : MS) => r = nI (m_rm (fun a _ => decide (a = x)) w (nu, ti, si, ro, us, w) 0).2 ∧ u = (m_rm (fun a _ => decide (a = x)) w (nu, ti, si, ro, us, w) 0).1) (fun u tS => va_P (dC, dI) classes ((fun u => (mm P C N tx lx u.1 u.2.1 u.2.2.1 u.2.2.2.1 u.2.2.2.2.1 bt u.2.2.2.2.2 al now on tl ll)) u) tS.heap ∧ va_K (dC, dI) classes (tys_M C) tS ∧ va_D A ((fun u => (mm P C N tx lx u.1 u.2.1 u.2.2.1 u.2.2.2.1 u.2.2.2.2.1 bt u.2.2.2.2.2 al now on tl ll)) u)) A) [Value.ref (P 0), .int x].toArray s 0 0 A) (F0 m 14 ls []) := by
    clear hP hD hS hl
    intro n
    induction n with
    | zero =>
      intro v q H locs ls hv0 hv1 hv2 hq hqn hr0 hP hD hS hl
      refine lv_iload_n hx hb d_TM_remove_14 rfl (lv_at hl 0 rfl) ?_
      refine lv_if_lt (tgt := 42) hx hb d_TM_remove_15 (by decide) (fun c_15 => ?_) (fun c_15 => ?_)
      · refine lv_iload_n hx hb d_TM_remove_42 rfl (lv_at hl 1 rfl) ?_
        exact tb_reti hx hb hr hlk hK v hP hD hS ⟨by rw [← hr0]; rfl, by rw [← hr0]; rfl⟩ d_TM_remove_43
      · exact absurd im_0 c_15
    | succ n ih =>
      intro v q H locs ls hv0 hv1 hv2 hq hqn hr0 hP hD hS hl
      rw [im_s] at hl
      refine lv_iload_n hx hb d_TM_remove_14 rfl (lv_at hl 0 rfl) ?_
      refine lv_if_lt (tgt := 42) hx hb d_TM_remove_15 (by decide) (fun c_15 => ?_) (fun c_15 => ?_)
      · exact absurd c_15 (nI_pos (by omega))
      · refine lv_aload_n hx hb d_TM_remove_18 rfl (lv_at hl 2 rfl) ?_
        refine mg hx hb hts hown hK hP rfl 10 (by decide) rfl fl_TM_16 rfl d_TM_remove_19 ?_
        refine lv_iload_n hx hb d_TM_remove_22 rfl (lv_at hl 0 rfl) ?_
        refine tb_iald hx hb hK hP 3 2 rfl rfl (by omega) (by decide) d_TM_remove_23 ?_
        refine lv_iload_n hx hb d_TM_remove_24 rfl (lv_at hl 3 rfl) ?_
        refine lv_icmp_ne (tgt := 36) hx hb d_TM_remove_25 (by decide) (fun c_25 => ?_) (fun c_25 => ?_)
        · have c_kp : ¬ decide (v.1 n = x) = true := by simp [c_25]
          refine lv_iinc (v := im n) (lv' := [(3, .int (im n)), (2, .int (nI q)), (0, .ref (P 0)), (1, .int x)]) hx hb d_TM_remove_36 hl (k := 0) rfl (im_d n) (by decide) rfl (fun ls hl => ?_)
          refine lv_goto (tgt := 14) hx hb d_TM_remove_39 (by decide) ?_
          exact ih v q _ _ _ (by omega) hv1 hv2 hq (by omega) (by rw [← hr0, m_rm, if_neg c_kp]) hP hD hS (lv_sub hl [0, 1, 2, 3] rfl)
        · have c_kp : decide (v.1 n = x) = true := by simp [c_25]
          refine lv_aload_n hx hb d_TM_remove_28 rfl (lv_at hl 2 rfl) ?_
          refine lv_iload_n hx hb d_TM_remove_29 rfl (lv_at hl 0 rfl) ?_
          refine tb_callv (mc_drop l dC dI P C N H.size tx lx v.1 v.2.1 v.2.2.1 v.2.2.2.1 v.2.2.2.2.1 bt v.2.2.2.2.2 al now on tl ll n (by omega) hv1 hv2) ⟨hx, hb, hml, hown, hts⟩ (cwV 1 hts g_TM_56 rfl rfl rfl (by decide +kernel) ⟨Nat.le_of_ble_eq_true rfl, Nat.le_of_ble_eq_true rfl⟩) hK hP hD hS hA 1 rfl 0 rfl rfl hl.1 rfl (Nat.le_of_ble_eq_true rfl) d_TM_remove_30 ⟨Nat.le_refl _, Nat.le_refl _⟩ (fun u H locs hwc hP hD hS => ?_)
          refine lv_iinc (v := nI (q + 1)) (lv' := [(2, .int (nI (q + 1))), (3, .int (nI n)), (0, .ref (P 0)), (1, .int x)]) hx hb d_TM_remove_33 hl (k := 1) rfl (nI_1 _) (by decide) rfl (fun ls hl => ?_)
          refine lv_iinc (v := im n) (lv' := [(3, .int (im n)), (2, .int (nI (q + 1))), (0, .ref (P 0)), (1, .int x)]) hx hb d_TM_remove_36 hl (k := 1) rfl (im_d n) (by decide) rfl (fun ls hl => ?_)
          refine lv_goto (tgt := 14) hx hb d_TM_remove_39 (by decide) ?_
          exact ih (m_dp v n) (q + 1) _ _ _ (by show n ≤ v.2.2.2.2.2 - 1; omega) (by show v.2.2.2.2.2 - 1 ≤ 1024; omega) (dp_lt hv2) (by omega) (by omega) (by rw [← hr0, m_rm, if_pos c_kp]) hP hD hS (lv_sub hl [0, 1, 2, 3] rfl)
  refine lv_aload_n hx hb d_TM_remove_0 rfl (lv_at hl 0 rfl) ?_
  refine lv_iconst (v := nI 0) hx hb d_TM_remove_1 (by decide) ?_
  refine mp (ty := .int) hx hb hts hown hK hP hD hS rfl 0 (by decide) rfl fl_TM_41 rfl (by decide +kernel) (rfl) (rfl) (Nat.le_of_ble_eq_true rfl) (mm P C N tx lx nu ti si ro us bt w al now on tl ll) rfl d_TM_remove_2 (fun H locs hP hD hS => ?_)
  refine lv_iconst (v := nI 0) hx hb d_TM_remove_5 (by decide) ?_
  refine lv_istore_n (lv' := [(2, .int (nI 0)), (0, .ref (P 0)), (1, .int x)]) hx hb d_TM_remove_6 rfl hl (by decide) rfl (fun ls hl => ?_)
  refine lv_aload_n hx hb d_TM_remove_7 rfl (lv_at hl 1 rfl) ?_
  refine mg hx hb hts hown hK hP rfl 9 (by decide) rfl fl_TM_44 rfl d_TM_remove_8 ?_
  refine lv_iconst (v := nI 1) hx hb d_TM_remove_11 (by decide) ?_
  refine lv_isub hx hb d_TM_remove_12 ?_
  refine tp_i (im w) (rfl) ?_
  refine lv_istore_n (lv' := [(3, .int (im w)), (2, .int (nI 0)), (0, .ref (P 0)), (1, .int x)]) hx hb d_TM_remove_13 rfl hl (by decide) rfl (fun ls hl => ?_)
  exact loop w (nu, ti, si, ro, us, w) 0 _ _ _ (Nat.le_refl w) hw hro (by omega) (by omega) rfl hP hD hS (lv_sub hl [0, 1, 2, 3] rfl)

set_option maxHeartbeats 4000000 in
set_option maxRecDepth 100000 in
/-- the reference: removeSpan -/
theorem mc_removeSpan (l : Launch) (dC : Nat → ClassId) (dI : Nat → Nat → Nat) (P : Nat → Nat) (C : Nat → ClassId) (N sz : Nat) (tx lx nu ti : Nat → Int32) (si ro : Nat → Nat) (us : Nat → Bool) (bt : Nat → Int32) (w al now : Nat) (on : Bool) (tl ll : Nat) (f t : Int32) (hw : w ≤ 1024) (hro : ∀ j, j < w → ro j < 1024) : ctI l y_TM_removeSpan ws_TM_removeSpan (rmD 1) (dC, dI) classes (tys_M C) (mm P C N tx lx nu ti si ro us bt w al now on tl ll) sz [.ref (P 0), .int f, .int t] (fun (r : Int32) (u : MS) => r = nI (m_rm (fun _ b => decide (f ≤ b) && decide (b ≤ t)) w (nu, ti, si, ro, us, w) 0).2 ∧ u = (m_rm (fun _ b => decide (f ≤ b) && decide (b ≤ t)) w (nu, ti, si, ro, us, w) 0).1) (fun u => (mm P C N tx lx u.1 u.2.1 u.2.2.1 u.2.2.2.1 u.2.2.2.2.1 bt u.2.2.2.2.2 al now on tl ll)) 0 0 := by
  refine tb_metI (own := R_TM) (by decide) rfl rfl (Nat.le_of_ble_eq_true rfl) [(0, .ref (P 0)), (1, .int f), (2, .int t)] rfl ?_
  intro p e s m below meth c A ls hx hb hr hml hts hown hlk hnm hA hK hP hD hS hl
  have loop : ∀ (n : Nat) (v : MS) (q : Nat) (H : Heap) (locs : List Loc) (ls : Array Slot), n ≤ v.2.2.2.2.2 → v.2.2.2.2.2 ≤ 1024 → (∀ j, j < v.2.2.2.2.2 → v.2.2.2.1 j < 1024) → q ≤ 1024 → q + n ≤ w → m_rm (fun _ b => decide (f ≤ b) && decide (b ≤ t)) n v q = m_rm (fun _ b => decide (f ≤ b) && decide (b ≤ t)) w (nu, ti, si, ro, us, w) 0 → va_P (dC, dI) classes (mm P C N tx lx v.1 v.2.1 v.2.2.1 v.2.2.2.1 v.2.2.2.2.1 bt v.2.2.2.2.2 al now on tl ll) H → va_D A (mm P C N tx lx v.1 v.2.1 v.2.2.1 v.2.2.2.1 v.2.2.2.2.1 bt v.2.2.2.2.2 al now on tl ll) → va_S A s.heap H locs → lv_has ls 5 [(4, .int (im n)), (3, .int (nI q)), (0, .ref (P 0)), (1, .int f), (2, .int t)] → W p l e (rmD 1) s m [Value.ref (P 0), .int f, .int t].toArray below meth c H locs 0 0 (MQ below (va_Qi (fun (r : Int32) (u : MS) => r = nI (m_rm (fun _ b => decide (f ≤ b) && decide (b ≤ t)) w (nu, ti, si, ro, us, w) 0).2 ∧ u = (m_rm (fun _ b => decide (f ≤ b) && decide (b ≤ t)) w (nu, ti, si, ro, us, w) 0).1) (fun u tS => va_P (dC, dI) classes ((fun u => (mm P C N tx lx u.1 u.2.1 u.2.2.1 u.2.2.2.1 u.2.2.2.2.1 bt u.2.2.2.2.2 al now on tl ll)) u) tS.heap ∧ va_K (dC, dI) classes (tys_M C) tS ∧ va_D A ((fun u => (mm P C N tx lx u.1 u.2.1 u.2.2.1 u.2.2.2.1 u.2.2.2.2.1 bt u.2.2.2.2.2 al now on tl ll)) u)) A) [Value.ref (P 0), .int f, .int t].toArray s 0 0 A) (F0 m 15 ls []) := by
    clear hP hD hS hl
    intro n
    induction n with
    | zero =>
      intro v q H locs ls hv0 hv1 hv2 hq hqn hr0 hP hD hS hl
      refine lv_iload hx hb d_TM_removeSpan_15 (lv_at hl 0 rfl) ?_
      refine lv_if_lt (tgt := 46) hx hb d_TM_removeSpan_17 (by decide) (fun c_17 => ?_) (fun c_17 => ?_)
      · refine lv_iload_n hx hb d_TM_removeSpan_46 rfl (lv_at hl 1 rfl) ?_
        exact tb_reti hx hb hr hlk hK v hP hD hS ⟨by rw [← hr0]; rfl, by rw [← hr0]; rfl⟩ d_TM_removeSpan_47
      · exact absurd im_0 c_17
    | succ n ih =>
      intro v q H locs ls hv0 hv1 hv2 hq hqn hr0 hP hD hS hl
      rw [im_s] at hl
      refine lv_iload hx hb d_TM_removeSpan_15 (lv_at hl 0 rfl) ?_
      refine lv_if_lt (tgt := 46) hx hb d_TM_removeSpan_17 (by decide) (fun c_17 => ?_) (fun c_17 => ?_)
      · exact absurd c_17 (nI_pos (by omega))
      · refine lv_aload_n hx hb d_TM_removeSpan_20 rfl (lv_at hl 2 rfl) ?_
        refine lv_iload hx hb d_TM_removeSpan_21 (lv_at hl 0 rfl) ?_
        refine lv_iload_n hx hb d_TM_removeSpan_23 rfl (lv_at hl 3 rfl) ?_
        refine lv_iload_n hx hb d_TM_removeSpan_24 rfl (lv_at hl 4 rfl) ?_
        refine tb_calli (mc_in l dC dI P C N H.size tx lx v.1 v.2.1 v.2.2.1 v.2.2.2.1 v.2.2.2.2.1 bt v.2.2.2.2.2 al now on tl ll n f t (by omega)) ⟨hx, hb, hml, hown, hts⟩ (cwV 3 hts g_TM_60 rfl rfl rfl (by decide +kernel) ⟨Nat.le_of_ble_eq_true rfl, Nat.le_of_ble_eq_true rfl⟩) hK hP hD hS hA 1 rfl 0 rfl rfl hl.1 rfl (Nat.le_of_ble_eq_true rfl) d_TM_removeSpan_25 ⟨Nat.le_refl _, Nat.le_refl _⟩ (fun r u H locs hwc hP hD hS => ?_)
        subst hwc
        refine lv_if_eq (tgt := 40) hx hb d_TM_removeSpan_28 (by decide) (fun c_28 => ?_) (fun c_28 => ?_)
        · have c_kp : ¬ (decide (f ≤ v.2.1 n) && decide (v.2.1 n ≤ t)) = true := by have hz := bI_0 c_28; unfold in_S at hz; rw [hz]; decide
          refine lv_iinc (v := im n) (lv' := [(4, .int (im n)), (3, .int (nI q)), (0, .ref (P 0)), (1, .int f), (2, .int t)]) hx hb d_TM_removeSpan_40 hl (k := 0) rfl (im_d n) (by decide) rfl (fun ls hl => ?_)
          refine lv_goto (tgt := 15) hx hb d_TM_removeSpan_43 (by decide) ?_
          exact ih v q _ _ _ (by omega) hv1 hv2 hq (by omega) (by rw [← hr0, m_rm, if_neg c_kp]) hP hD hS (lv_sub hl [0, 1, 2, 3, 4] rfl)
        · have c_kp : (decide (f ≤ v.2.1 n) && decide (v.2.1 n ≤ t)) = true := bI_1 c_28
          refine lv_aload_n hx hb d_TM_removeSpan_31 rfl (lv_at hl 2 rfl) ?_
          refine lv_iload hx hb d_TM_removeSpan_32 (lv_at hl 0 rfl) ?_
          refine tb_callv (mc_drop l dC dI P C N H.size tx lx v.1 v.2.1 v.2.2.1 v.2.2.2.1 v.2.2.2.2.1 bt v.2.2.2.2.2 al now on tl ll n (by omega) hv1 hv2) ⟨hx, hb, hml, hown, hts⟩ (cwV 1 hts g_TM_56 rfl rfl rfl (by decide +kernel) ⟨Nat.le_of_ble_eq_true rfl, Nat.le_of_ble_eq_true rfl⟩) hK hP hD hS hA 1 rfl 0 rfl rfl hl.1 rfl (Nat.le_of_ble_eq_true rfl) d_TM_removeSpan_34 ⟨Nat.le_refl _, Nat.le_refl _⟩ (fun u H locs hwc hP hD hS => ?_)
          refine lv_iinc (v := nI (q + 1)) (lv' := [(3, .int (nI (q + 1))), (4, .int (nI n)), (0, .ref (P 0)), (1, .int f), (2, .int t)]) hx hb d_TM_removeSpan_37 hl (k := 1) rfl (nI_1 _) (by decide) rfl (fun ls hl => ?_)
          refine lv_iinc (v := im n) (lv' := [(4, .int (im n)), (3, .int (nI (q + 1))), (0, .ref (P 0)), (1, .int f), (2, .int t)]) hx hb d_TM_removeSpan_40 hl (k := 1) rfl (im_d n) (by decide) rfl (fun ls hl => ?_)
          refine lv_goto (tgt := 15) hx hb d_TM_removeSpan_43 (by decide) ?_
          exact ih (m_dp v n) (q + 1) _ _ _ (by show n ≤ v.2.2.2.2.2 - 1; omega) (by show v.2.2.2.2.2 - 1 ≤ 1024; omega) (dp_lt hv2) (by omega) (by omega) (by rw [← hr0, m_rm, if_pos c_kp]) hP hD hS (lv_sub hl [0, 1, 2, 3, 4] rfl)
  refine lv_aload_n hx hb d_TM_removeSpan_0 rfl (lv_at hl 0 rfl) ?_
  refine lv_iconst (v := nI 0) hx hb d_TM_removeSpan_1 (by decide) ?_
  refine mp (ty := .int) hx hb hts hown hK hP hD hS rfl 0 (by decide) rfl fl_TM_41 rfl (by decide +kernel) (rfl) (rfl) (Nat.le_of_ble_eq_true rfl) (mm P C N tx lx nu ti si ro us bt w al now on tl ll) rfl d_TM_removeSpan_2 (fun H locs hP hD hS => ?_)
  refine lv_iconst (v := nI 0) hx hb d_TM_removeSpan_5 (by decide) ?_
  refine lv_istore_n (lv' := [(3, .int (nI 0)), (0, .ref (P 0)), (1, .int f), (2, .int t)]) hx hb d_TM_removeSpan_6 rfl hl (by decide) rfl (fun ls hl => ?_)
  refine lv_aload_n hx hb d_TM_removeSpan_7 rfl (lv_at hl 1 rfl) ?_
  refine mg hx hb hts hown hK hP rfl 9 (by decide) rfl fl_TM_44 rfl d_TM_removeSpan_8 ?_
  refine lv_iconst (v := nI 1) hx hb d_TM_removeSpan_11 (by decide) ?_
  refine lv_isub hx hb d_TM_removeSpan_12 ?_
  refine tp_i (im w) (rfl) ?_
  refine lv_istore (lv' := [(4, .int (im w)), (3, .int (nI 0)), (0, .ref (P 0)), (1, .int f), (2, .int t)]) hx hb d_TM_removeSpan_13 hl (by decide) rfl (fun ls hl => ?_)
  exact loop w (nu, ti, si, ro, us, w) 0 _ _ _ (Nat.le_refl w) hw hro (by omega) (by omega) rfl hP hD hS (lv_sub hl [0, 1, 2, 3, 4] rfl)

set_option maxHeartbeats 4000000 in
set_option maxRecDepth 100000 in
/-- the reference: reset -/
theorem mc_reset (l : Launch) (dC : Nat → ClassId) (dI : Nat → Nat → Nat) (P : Nat → Nat) (C : Nat → ClassId) (N sz : Nat) (tx lx nu ti : Nat → Int32) (si ro : Nat → Nat) (us : Nat → Bool) (bt : Nat → Int32) (w al now : Nat) (on : Bool) (tl ll : Nat) (hw : w ≤ 1024) (hro : ∀ j, j < w → ro j < 1024) : ctV l y_TM_reset ws_TM_reset (rmD 1) (dC, dI) classes (tys_M C) (mm P C N tx lx nu ti si ro us bt w al now on tl ll) sz [.ref (P 0)] (fun (u : MS) => u = m_rs w (nu, ti, si, ro, us, w)) (fun u => (mm P C N tx lx u.1 u.2.1 u.2.2.1 u.2.2.2.1 u.2.2.2.2.1 bt u.2.2.2.2.2 al now false tl ll)) 0 0 := by
  refine tb_metV (own := R_TM) (by decide) rfl rfl (Nat.le_of_ble_eq_true rfl) [(0, .ref (P 0))] rfl ?_
  intro p e s m below meth c A ls hx hb hr hml hts hown hlk hnm hA hK hP hD hS hl
  have loop : ∀ (n : Nat) (v : MS) (H : Heap) (locs : List Loc) (ls : Array Slot), n = v.2.2.2.2.2 → v.2.2.2.2.2 ≤ 1024 → (∀ j, j < v.2.2.2.2.2 → v.2.2.2.1 j < 1024) → m_rs n v = m_rs w (nu, ti, si, ro, us, w) → va_P (dC, dI) classes (mm P C N tx lx v.1 v.2.1 v.2.2.1 v.2.2.2.1 v.2.2.2.2.1 bt v.2.2.2.2.2 al now false tl ll) H → va_D A (mm P C N tx lx v.1 v.2.1 v.2.2.1 v.2.2.2.1 v.2.2.2.2.1 bt v.2.2.2.2.2 al now false tl ll) → va_S A s.heap H locs → lv_has ls 1 [(0, .ref (P 0))] → W p l e (rmD 1) s m [Value.ref (P 0)].toArray below meth c H locs 0 0 (MQ below (va_Qv (fun (u : MS) => u = m_rs w (nu, ti, si, ro, us, w)) (fun u tS => va_P (dC, dI) classes ((fun u => (mm P C N tx lx u.1 u.2.1 u.2.2.1 u.2.2.2.1 u.2.2.2.2.1 bt u.2.2.2.2.2 al now false tl ll)) u) tS.heap ∧ va_K (dC, dI) classes (tys_M C) tS ∧ va_D A ((fun u => (mm P C N tx lx u.1 u.2.1 u.2.2.1 u.2.2.2.1 u.2.2.2.2.1 bt u.2.2.2.2.2 al now false tl ll)) u)) A) [Value.ref (P 0)].toArray s 0 0 A) (F0 m 10 ls []) := by
    clear hP hD hS hl
    intro n
    induction n with
    | zero =>
      intro v H locs ls hv0 hv1 hv2 hr0 hP hD hS hl
      refine lv_aload_n hx hb d_TM_reset_10 rfl (lv_at hl 0 rfl) ?_
      refine mg hx hb hts hown hK hP rfl 9 (by decide) rfl fl_TM_44 rfl d_TM_reset_11 ?_
      refine lv_if_le (tgt := 30) hx hb d_TM_reset_14 (by decide) (fun c_14 => ?_) (fun c_14 => ?_)
      · exact tb_retv hx hb hr hlk hK v hP hD hS hr0 d_TM_reset_30
      · exact absurd (show nI v.2.2.2.2.2 ≤ 0 by rw [← hv0]; exact Int32.le_refl _) c_14
    | succ n ih =>
      intro v H locs ls hv0 hv1 hv2 hr0 hP hD hS hl
      refine lv_aload_n hx hb d_TM_reset_10 rfl (lv_at hl 0 rfl) ?_
      refine mg hx hb hts hown hK hP rfl 9 (by decide) rfl fl_TM_44 rfl d_TM_reset_11 ?_
      refine lv_if_le (tgt := 30) hx hb d_TM_reset_14 (by decide) (fun c_14 => ?_) (fun c_14 => ?_)
      · exact absurd ((nI_leI (by omega) (by omega)).mp (show nI v.2.2.2.2.2 ≤ nI 0 from c_14)) (by omega)
      · refine lv_aload_n hx hb d_TM_reset_17 rfl (lv_at hl 0 rfl) ?_
        refine lv_aload_n hx hb d_TM_reset_18 rfl (lv_at hl 0 rfl) ?_
        refine mg hx hb hts hown hK hP rfl 9 (by decide) rfl fl_TM_44 rfl d_TM_reset_19 ?_
        refine lv_iconst (v := nI 1) hx hb d_TM_reset_22 (by decide) ?_
        refine lv_isub hx hb d_TM_reset_23 ?_
        refine tp_i (nI n) (by rw [← hv0]; exact nI_pred n) ?_
        refine tb_callv (mc_drop l dC dI P C N H.size tx lx v.1 v.2.1 v.2.2.1 v.2.2.2.1 v.2.2.2.2.1 bt v.2.2.2.2.2 al now false tl ll n (by omega) hv1 hv2) ⟨hx, hb, hml, hown, hts⟩ (cwV 1 hts g_TM_56 rfl rfl rfl (by decide +kernel) ⟨Nat.le_of_ble_eq_true rfl, Nat.le_of_ble_eq_true rfl⟩) hK hP hD hS hA 1 rfl 0 rfl rfl hl.1 rfl (Nat.le_of_ble_eq_true rfl) d_TM_reset_24 ⟨Nat.le_refl _, Nat.le_refl _⟩ (fun u H locs hwc hP hD hS => ?_)
        refine lv_goto (tgt := 10) hx hb d_TM_reset_27 (by decide) ?_
        exact ih (m_dp v n) _ _ _ (by show n = v.2.2.2.2.2 - 1; omega) (by show v.2.2.2.2.2 - 1 ≤ 1024; omega) (dp_lt hv2) (by rw [← hr0, m_rs]) hP hD hS (lv_sub hl [0] rfl)
  refine lv_aload_n hx hb d_TM_reset_0 rfl (lv_at hl 0 rfl) ?_
  refine lv_iconst (v := nI 0) hx hb d_TM_reset_1 (by decide) ?_
  refine mp (ty := .int) hx hb hts hown hK hP hD hS rfl 0 (by decide) rfl fl_TM_41 rfl (by decide +kernel) (rfl) (rfl) (Nat.le_of_ble_eq_true rfl) (mm P C N tx lx nu ti si ro us bt w al now on tl ll) rfl d_TM_reset_2 (fun H locs hP hD hS => ?_)
  refine lv_aload_n hx hb d_TM_reset_5 rfl (lv_at hl 0 rfl) ?_
  refine lv_iconst (v := nI 0) hx hb d_TM_reset_6 (by decide) ?_
  refine tp_i (bI false) rfl ?_
  refine mp (ty := .boolean) hx hb hts hown hK hP hD hS rfl 3 (by decide) rfl fl_TM_72 rfl (by decide +kernel) (bI_n _) (bI_f _) (Nat.le_of_ble_eq_true rfl) (mm P C N tx lx nu ti si ro us bt w al now false tl ll) rfl d_TM_reset_7 (fun H locs hP hD hS => ?_)
  exact loop w (nu, ti, si, ro, us, w) _ _ _ rfl hw hro rfl hP hD hS (lv_sub hl [0] rfl)

set_option maxHeartbeats 4000000 in
set_option maxRecDepth 100000 in
/-- the reference: move -/
theorem mc_move (l : Launch) (dC : Nat → ClassId) (dI : Nat → Nat → Nat) (P : Nat → Nat) (C : Nat → ClassId) (N sz : Nat) (tx lx nu ti : Nat → Int32) (si ro : Nat → Nat) (us : Nat → Bool) (bt : Nat → Int32) (w al now : Nat) (on : Bool) (tl ll : Nat) (f t b : Int32) (hw : w ≤ 1024) : ctI l y_TM_move ws_TM_move (rmD 1) (dC, dI) classes (tys_M C) (mm P C N tx lx nu ti si ro us bt w al now on tl ll) sz [.ref (P 0), .int f, .int t, .int b] (fun (r : Int32) (_ : Unit) => r = mv_A (mv_F (mv_c (in_S ti f t) (cm_F ti now b) w 0 (fun j => j) 0) none (some (mm_q f t b w 0 ti 0)))) (fun _ => (mm P C N tx lx nu (mv_F (mv_c (in_S ti f t) (cm_F ti now b) w 0 (fun j => j) 0) ti (mv_t f t b w 0 (fun j => j) ti)) si ro us bt w al now on tl ll)) 0 0 := by
  refine tb_metI (own := R_TM) (by decide) rfl rfl (Nat.le_of_ble_eq_true rfl) [(0, .ref (P 0)), (1, .int f), (2, .int t), (3, .int b)] rfl ?_
  intro p e s m below meth c A ls hx hb hr hml hts hown hlk hnm hA hK hP hD hS hl
  have loop2 : ∀ (n k q : Nat) (ti' : Nat → Int32) (H : Heap) (locs : List Loc) (ls : Array Slot), k + n = w → q ≤ k → (∃ z, (mv_c (in_S ti f t) (cm_F ti now b) w 0 (fun j => j) 0) = some z) → mv_t f t b n k (fun j => j) ti' = (mv_t f t b w 0 (fun j => j) ti) → mm_q f t b n k ti' q = mm_q f t b w 0 ti 0 → va_P (dC, dI) classes (mm P C N tx lx nu ti' si ro us bt w al now on tl ll) H → va_D A (mm P C N tx lx nu ti' si ro us bt w al now on tl ll) → va_S A s.heap H locs → lv_has ls 8 [(5, .int (nI k)), (4, .int (nI q)), (0, .ref (P 0)), (1, .int f), (2, .int t), (3, .int b)] → W p l e (rmD 1) s m [Value.ref (P 0), .int f, .int t, .int b].toArray below meth c H locs 0 0 (MQ below (va_Qi (fun (r : Int32) (_ : Unit) => r = mv_A (mv_F (mv_c (in_S ti f t) (cm_F ti now b) w 0 (fun j => j) 0) none (some (mm_q f t b w 0 ti 0)))) (fun u tS => va_P (dC, dI) classes ((fun _ => (mm P C N tx lx nu (mv_F (mv_c (in_S ti f t) (cm_F ti now b) w 0 (fun j => j) 0) ti (mv_t f t b w 0 (fun j => j) ti)) si ro us bt w al now on tl ll)) u) tS.heap ∧ va_K (dC, dI) classes (tys_M C) tS ∧ va_D A ((fun _ => (mm P C N tx lx nu (mv_F (mv_c (in_S ti f t) (cm_F ti now b) w 0 (fun j => j) 0) ti (mv_t f t b w 0 (fun j => j) ti)) si ro us bt w al now on tl ll)) u)) A) [Value.ref (P 0), .int f, .int t, .int b].toArray s 0 0 A) (F0 m 70 ls []) := by
    clear hP hD hS hl
    intro n
    induction n with
    | zero =>
      intro k q ti' H locs ls hn hqk ho hr0 hr1 hP hD hS hl
      refine lv_iload hx hb d_TM_move_70 (lv_at hl 0 rfl) ?_
      refine lv_aload_n hx hb d_TM_move_72 rfl (lv_at hl 2 rfl) ?_
      refine mg hx hb hts hown hK hP rfl 9 (by decide) rfl fl_TM_44 rfl d_TM_move_73 ?_
      refine lv_icmp_ge (tgt := 110) hx hb d_TM_move_76 (by decide) (fun c_76 => ?_) (fun c_76 => ?_)
      · refine lv_iload hx hb d_TM_move_110 (lv_at hl 1 rfl) ?_
        obtain ⟨z, hz⟩ := ho
        have hq1 : ti' = (mv_t f t b w 0 (fun j => j) ti) := hr0
        have hq2 : q = mm_q f t b w 0 ti 0 := hr1
        subst hq1
        have hP : va_P (dC, dI) classes (mm P C N tx lx nu (mv_F (mv_c (in_S ti f t) (cm_F ti now b) w 0 (fun j => j) 0) ti (mv_t f t b w 0 (fun j => j) ti)) si ro us bt w al now on tl ll) H := by rw [hz]; exact hP
        have hD : va_D A (mm P C N tx lx nu (mv_F (mv_c (in_S ti f t) (cm_F ti now b) w 0 (fun j => j) 0) ti (mv_t f t b w 0 (fun j => j) ti)) si ro us bt w al now on tl ll) := by rw [hz]; exact hD
        exact tb_reti hx hb hr hlk hK () hP hD hS (by rw [hz, hq2]; rfl) d_TM_move_112
      · exact absurd (nI_le (by omega) (by omega)) c_76
    | succ n ih =>
      intro k q ti' H locs ls hn hqk ho hr0 hr1 hP hD hS hl
      refine lv_iload hx hb d_TM_move_70 (lv_at hl 0 rfl) ?_
      refine lv_aload_n hx hb d_TM_move_72 rfl (lv_at hl 2 rfl) ?_
      refine mg hx hb hts hown hK hP rfl 9 (by decide) rfl fl_TM_44 rfl d_TM_move_73 ?_
      refine lv_icmp_ge (tgt := 110) hx hb d_TM_move_76 (by decide) (fun c_76 => ?_) (fun c_76 => ?_)
      · exact absurd ((nI_leI (by omega) (by omega)).mp c_76) (by omega)
      · refine lv_aload_n hx hb d_TM_move_79 rfl (lv_at hl 2 rfl) ?_
        refine lv_iload hx hb d_TM_move_80 (lv_at hl 0 rfl) ?_
        refine lv_iload_n hx hb d_TM_move_82 rfl (lv_at hl 3 rfl) ?_
        refine lv_iload_n hx hb d_TM_move_83 rfl (lv_at hl 4 rfl) ?_
        refine tb_calli (mc_in l dC dI P C N H.size tx lx nu ti' si ro us bt w al now on tl ll k f t (by omega)) ⟨hx, hb, hml, hown, hts⟩ (cwV 3 hts g_TM_60 rfl rfl rfl (by decide +kernel) ⟨Nat.le_of_ble_eq_true rfl, Nat.le_of_ble_eq_true rfl⟩) hK hP hD hS hA 1 rfl 0 rfl rfl hl.1 rfl (Nat.le_of_ble_eq_true rfl) d_TM_move_84 ⟨Nat.le_refl _, Nat.le_refl _⟩ (fun r u H locs hwc hP hD hS => ?_)
        subst hwc
        refine lv_if_eq (tgt := 104) hx hb d_TM_move_87 (by decide) (fun c_87 => ?_) (fun c_87 => ?_)
        · have c_87 := bI_0 c_87
          refine lv_iinc (v := nI (k + 1)) (lv' := [(5, .int (nI (k + 1))), (4, .int (nI q)), (0, .ref (P 0)), (1, .int f), (2, .int t), (3, .int b)]) hx hb d_TM_move_104 hl (k := 0) rfl (nI_1 _) (by decide) rfl (fun ls hl => ?_)
          refine lv_goto (tgt := 70) hx hb d_TM_move_107 (by decide) ?_
          exact ih _ _ _ _ _ _ (by omega) (by omega) ho (by rw [← hr0, mv_t, if_neg (by rw [c_87]; decide)]) (by rw [← hr1, mm_q, if_neg (by rw [c_87]; decide)]) hP hD hS (lv_sub hl [0, 1, 2, 3, 4, 5] rfl)
        · have c_87 := bI_1 c_87
          refine lv_aload_n hx hb d_TM_move_90 rfl (lv_at hl 2 rfl) ?_
          refine mg hx hb hts hown hK hP rfl 11 (by decide) rfl fl_TM_20 rfl d_TM_move_91 ?_
          refine lv_iload hx hb d_TM_move_94 (lv_at hl 0 rfl) ?_
          refine lv_dup2_11 hx hb d_TM_move_96 rfl rfl ?_
          refine tb_iald hx hb hK hP 4 3 rfl rfl (by omega) (by decide) d_TM_move_97 ?_
          refine lv_iload_n hx hb d_TM_move_98 rfl (lv_at hl 5 rfl) ?_
          refine lv_iadd hx hb d_TM_move_99 ?_
          refine tb_iast hx hb hK hP hD hS 4 3 rfl rfl (by omega) (by decide) (mm P C N tx lx nu (upd ti' k ((ti' k) + b)) si ro us bt w al now on tl ll) rfl d_TM_move_100 (fun H locs hP hD hS => ?_)
          refine lv_iinc (v := nI (q + 1)) (lv' := [(4, .int (nI (q + 1))), (5, .int (nI k)), (0, .ref (P 0)), (1, .int f), (2, .int t), (3, .int b)]) hx hb d_TM_move_101 hl (k := 1) rfl (nI_1 _) (by decide) rfl (fun ls hl => ?_)
          refine lv_iinc (v := nI (k + 1)) (lv' := [(5, .int (nI (k + 1))), (4, .int (nI (q + 1))), (0, .ref (P 0)), (1, .int f), (2, .int t), (3, .int b)]) hx hb d_TM_move_104 hl (k := 1) rfl (nI_1 _) (by decide) rfl (fun ls hl => ?_)
          refine lv_goto (tgt := 70) hx hb d_TM_move_107 (by decide) ?_
          exact ih _ _ _ _ _ _ (by omega) (by omega) ho (by rw [← hr0, mv_t, if_pos c_87]) (by rw [← hr1, mm_q, if_pos c_87]) hP hD hS (lv_sub hl [0, 1, 2, 3, 4, 5] rfl)
  have loop1 : ∀ (n k q : Nat) (H : Heap) (locs : List Loc) (ls : Array Slot), k + n = w → mv_c (in_S ti f t) (cm_F ti now b) n k (fun j => j) q = (mv_c (in_S ti f t) (cm_F ti now b) w 0 (fun j => j) 0) → va_P (dC, dI) classes (mm P C N tx lx nu ti si ro us bt w al now on tl ll) H → va_D A (mm P C N tx lx nu ti si ro us bt w al now on tl ll) → va_S A s.heap H locs → lv_has ls 8 [(5, .int (nI k)), (4, .int (nI 0)), (0, .ref (P 0)), (1, .int f), (2, .int t), (3, .int b)] → W p l e (rmD 1) s m [Value.ref (P 0), .int f, .int t, .int b].toArray below meth c H locs 0 0 (MQ below (va_Qi (fun (r : Int32) (_ : Unit) => r = mv_A (mv_F (mv_c (in_S ti f t) (cm_F ti now b) w 0 (fun j => j) 0) none (some (mm_q f t b w 0 ti 0)))) (fun u tS => va_P (dC, dI) classes ((fun _ => (mm P C N tx lx nu (mv_F (mv_c (in_S ti f t) (cm_F ti now b) w 0 (fun j => j) 0) ti (mv_t f t b w 0 (fun j => j) ti)) si ro us bt w al now on tl ll)) u) tS.heap ∧ va_K (dC, dI) classes (tys_M C) tS ∧ va_D A ((fun _ => (mm P C N tx lx nu (mv_F (mv_c (in_S ti f t) (cm_F ti now b) w 0 (fun j => j) 0) ti (mv_t f t b w 0 (fun j => j) ti)) si ro us bt w al now on tl ll)) u)) A) [Value.ref (P 0), .int f, .int t, .int b].toArray s 0 0 A) (F0 m 6 ls []) := by
    clear hP hD hS hl
    intro n
    induction n with
    | zero =>
      intro k q H locs ls hn hr0 hP hD hS hl
      refine lv_iload hx hb d_TM_move_6 (lv_at hl 0 rfl) ?_
      refine lv_aload_n hx hb d_TM_move_8 rfl (lv_at hl 2 rfl) ?_
      refine mg hx hb hts hown hK hP rfl 9 (by decide) rfl fl_TM_44 rfl d_TM_move_9 ?_
      refine lv_icmp_ge (tgt := 67) hx hb d_TM_move_12 (by decide) (fun c_12 => ?_) (fun c_12 => ?_)
      · refine lv_iconst (v := nI 0) hx hb d_TM_move_67 (by decide) ?_
        refine lv_istore (lv' := [(5, .int (nI 0)), (4, .int (nI 0)), (0, .ref (P 0)), (1, .int f), (2, .int t), (3, .int b)]) hx hb d_TM_move_68 hl (by decide) rfl (fun ls hl => ?_)
        exact loop2 w 0 0 ti _ _ _ (by omega) (by omega) ⟨q, hr0.symm⟩ rfl rfl hP hD hS (lv_sub hl [0, 1, 2, 3, 4, 5] rfl)
      · exact absurd (nI_le (by omega) (by omega)) c_12
    | succ n ih =>
      intro k q H locs ls hn hr0 hP hD hS hl
      refine lv_iload hx hb d_TM_move_6 (lv_at hl 0 rfl) ?_
      refine lv_aload_n hx hb d_TM_move_8 rfl (lv_at hl 2 rfl) ?_
      refine mg hx hb hts hown hK hP rfl 9 (by decide) rfl fl_TM_44 rfl d_TM_move_9 ?_
      refine lv_icmp_ge (tgt := 67) hx hb d_TM_move_12 (by decide) (fun c_12 => ?_) (fun c_12 => ?_)
      · exact absurd ((nI_leI (by omega) (by omega)).mp c_12) (by omega)
      · refine lv_aload_n hx hb d_TM_move_15 rfl (lv_at hl 2 rfl) ?_
        refine mg hx hb hts hown hK hP rfl 11 (by decide) rfl fl_TM_20 rfl d_TM_move_16 ?_
        refine lv_iload hx hb d_TM_move_19 (lv_at hl 0 rfl) ?_
        refine tb_iald hx hb hK hP 4 3 rfl rfl (by omega) (by decide) d_TM_move_21 ?_
        refine lv_i2l (v := (ti k).toInt64) hx hb d_TM_move_22 rfl ?_
        refine lv_iload_n hx hb d_TM_move_23 rfl (lv_at hl 5 rfl) ?_
        refine lv_i2l (v := b.toInt64) hx hb d_TM_move_24 rfl ?_
        refine lv_ladd hx hb d_TM_move_25 ?_
        refine lv_lstore (lv' := [(6, .long (((ti k).toInt64) + b.toInt64)), (5, .int (nI k)), (4, .int (nI 0)), (0, .ref (P 0)), (1, .int f), (2, .int t), (3, .int b)]) hx hb d_TM_move_26 hl (by decide) rfl (fun ls hl => ?_)
        refine lv_aload_n hx hb d_TM_move_28 rfl (lv_at hl 3 rfl) ?_
        refine lv_iload hx hb d_TM_move_29 (lv_at hl 1 rfl) ?_
        refine lv_iload_n hx hb d_TM_move_31 rfl (lv_at hl 4 rfl) ?_
        refine lv_iload_n hx hb d_TM_move_32 rfl (lv_at hl 5 rfl) ?_
        refine tb_calli (mc_in l dC dI P C N H.size tx lx nu ti si ro us bt w al now on tl ll k f t (by omega)) ⟨hx, hb, hml, hown, hts⟩ (cwV 3 hts g_TM_60 rfl rfl rfl (by decide +kernel) ⟨Nat.le_of_ble_eq_true rfl, Nat.le_of_ble_eq_true rfl⟩) hK hP hD hS hA 1 rfl 0 rfl rfl hl.1 rfl (Nat.le_of_ble_eq_true rfl) d_TM_move_33 ⟨Nat.le_refl _, Nat.le_refl _⟩ (fun r u H locs hwc hP hD hS => ?_)
        subst hwc
        refine lv_if_eq (tgt := 61) hx hb d_TM_move_36 (by decide) (fun c_36 => ?_) (fun c_36 => ?_)
        · have c_36 := bI_0 c_36
          refine lv_iinc (v := nI (k + 1)) (lv' := [(5, .int (nI (k + 1))), (6, .long (((ti k).toInt64) + b.toInt64)), (4, .int (nI 0)), (0, .ref (P 0)), (1, .int f), (2, .int t), (3, .int b)]) hx hb d_TM_move_61 hl (k := 1) rfl (nI_1 _) (by decide) rfl (fun ls hl => ?_)
          refine lv_goto (tgt := 6) hx hb d_TM_move_64 (by decide) ?_
          first | exact ih _ q _ _ _ (by omega) (by rw [← hr0, mv_c, if_neg (by rw [c_36]; decide)]) hP hD hS (lv_sub hl [0, 2, 3, 4, 5, 6] rfl) | exact ih _ (q + 1) _ _ _ (by omega) (by rw [← hr0, mv_c, if_pos c_36, if_pos (cm_1 c_47 (fun z => lg_le.mp c_56 (lg_gt.mp z)))]) hP hD hS (lv_sub hl [0, 2, 3, 4, 5, 6] rfl)
        · have c_36 := bI_1 c_36
          refine lv_lload hx hb d_TM_move_39 (lv_at hl 0 rfl) ?_
          refine lv_aload_n hx hb d_TM_move_41 rfl (lv_at hl 3 rfl) ?_
          refine mg hx hb hts hown hK hP rfl 2 (by decide) rfl fl_TM_50 rfl d_TM_move_42 ?_
          refine lv_i2l (v := (nI now).toInt64) hx hb d_TM_move_45 rfl ?_
          refine W.lcmp hx hb d_TM_move_46 ?_
          refine lv_if_le (tgt := 59) hx hb d_TM_move_47 (by decide) (fun c_47 => ?_) (fun c_47 => ?_)
          · have ho : (mv_c (in_S ti f t) (cm_F ti now b) w 0 (fun j => j) 0) = none := by rw [← hr0, mv_c, if_pos c_36, if_neg (by first | (rw [cm_0 c_47]; decide) | (rw [cm_2 (lg_gt.mpr (Classical.not_not.mp (fun z => c_56 (lg_le.mpr z))))]; decide))]
            have hP : va_P (dC, dI) classes (mm P C N tx lx nu (mv_F (mv_c (in_S ti f t) (cm_F ti now b) w 0 (fun j => j) 0) ti (mv_t f t b w 0 (fun j => j) ti)) si ro us bt w al now on tl ll) H := by rw [ho]; exact hP
            have hD : va_D A (mm P C N tx lx nu (mv_F (mv_c (in_S ti f t) (cm_F ti now b) w 0 (fun j => j) 0) ti (mv_t f t b w 0 (fun j => j) ti)) si ro us bt w al now on tl ll) := by rw [ho]; exact hD
            refine lv_iconst (v := (-1)) hx hb d_TM_move_59 (by decide) ?_
            exact tb_reti hx hb hr hlk hK () hP hD hS (by rw [ho]; rfl) d_TM_move_60
          · refine lv_lload hx hb d_TM_move_50 (lv_at hl 0 rfl) ?_
            refine lv_ldc2 (v := 2147483647) hx hb hown (hts _ k_TM_64) d_TM_move_52 ?_
            refine W.lcmp hx hb d_TM_move_55 ?_
            refine lv_if_le (tgt := 61) hx hb d_TM_move_56 (by decide) (fun c_56 => ?_) (fun c_56 => ?_)
            · refine lv_iinc (v := nI (k + 1)) (lv' := [(5, .int (nI (k + 1))), (6, .long (((ti k).toInt64) + b.toInt64)), (4, .int (nI 0)), (0, .ref (P 0)), (1, .int f), (2, .int t), (3, .int b)]) hx hb d_TM_move_61 hl (k := 1) rfl (nI_1 _) (by decide) rfl (fun ls hl => ?_)
              refine lv_goto (tgt := 6) hx hb d_TM_move_64 (by decide) ?_
              first | exact ih _ q _ _ _ (by omega) (by rw [← hr0, mv_c, if_neg (by rw [c_36]; decide)]) hP hD hS (lv_sub hl [0, 2, 3, 4, 5, 6] rfl) | exact ih _ (q + 1) _ _ _ (by omega) (by rw [← hr0, mv_c, if_pos c_36, if_pos (cm_1 c_47 (fun z => lg_le.mp c_56 (lg_gt.mp z)))]) hP hD hS (lv_sub hl [0, 2, 3, 4, 5, 6] rfl)
            · have ho : (mv_c (in_S ti f t) (cm_F ti now b) w 0 (fun j => j) 0) = none := by rw [← hr0, mv_c, if_pos c_36, if_neg (by first | (rw [cm_0 c_47]; decide) | (rw [cm_2 (lg_gt.mpr (Classical.not_not.mp (fun z => c_56 (lg_le.mpr z))))]; decide))]
              have hP : va_P (dC, dI) classes (mm P C N tx lx nu (mv_F (mv_c (in_S ti f t) (cm_F ti now b) w 0 (fun j => j) 0) ti (mv_t f t b w 0 (fun j => j) ti)) si ro us bt w al now on tl ll) H := by rw [ho]; exact hP
              have hD : va_D A (mm P C N tx lx nu (mv_F (mv_c (in_S ti f t) (cm_F ti now b) w 0 (fun j => j) 0) ti (mv_t f t b w 0 (fun j => j) ti)) si ro us bt w al now on tl ll) := by rw [ho]; exact hD
              refine lv_iconst (v := (-1)) hx hb d_TM_move_59 (by decide) ?_
              exact tb_reti hx hb hr hlk hK () hP hD hS (by rw [ho]; rfl) d_TM_move_60
  refine lv_iconst (v := nI 0) hx hb d_TM_move_0 (by decide) ?_
  refine lv_istore (lv' := [(4, .int (nI 0)), (0, .ref (P 0)), (1, .int f), (2, .int t), (3, .int b)]) hx hb d_TM_move_1 hl (by decide) rfl (fun ls hl => ?_)
  refine lv_iconst (v := nI 0) hx hb d_TM_move_3 (by decide) ?_
  refine lv_istore (lv' := [(5, .int (nI 0)), (4, .int (nI 0)), (0, .ref (P 0)), (1, .int f), (2, .int t), (3, .int b)]) hx hb d_TM_move_4 hl (by decide) rfl (fun ls hl => ?_)
  exact loop1 w 0 0 _ _ _ (by omega) rfl hP hD hS (lv_sub hl [0, 1, 2, 3, 4, 5] rfl)

set_option maxHeartbeats 4000000 in
set_option maxRecDepth 100000 in
/-- the reference: shift -/
theorem mc_shift (l : Launch) (dC : Nat → ClassId) (dI : Nat → Nat → Nat) (P : Nat → Nat) (C : Nat → ClassId) (N sz : Nat) (tx lx nu ti : Nat → Int32) (si ro : Nat → Nat) (us : Nat → Bool) (bt : Nat → Int32) (w al now : Nat) (on : Bool) (tl ll : Nat) (b : Int32) (hw : w ≤ 1024) : ctI l y_TM_shift ws_TM_shift (rmD 2) (dC, dI) classes (tys_M C) (mm P C N tx lx nu ti si ro us bt w al now on tl ll) sz [.ref (P 0), .int b] (fun (r : Int32) (_ : Unit) => r = mv_A (mv_F (mv_c (in_S ti (-2147483648) (nI 2147483647)) (cm_F ti now b) w 0 (fun j => j) 0) none (some (mm_q (-2147483648) (nI 2147483647) b w 0 ti 0)))) (fun _ => (mm P C N tx lx nu (mv_F (mv_c (in_S ti (-2147483648) (nI 2147483647)) (cm_F ti now b) w 0 (fun j => j) 0) ti (mv_t (-2147483648) (nI 2147483647) b w 0 (fun j => j) ti)) si ro us bt w al now on tl ll)) 0 0 := by
  refine tb_metI (own := R_TM) (by decide) rfl rfl (Nat.le_of_ble_eq_true rfl) [(0, .ref (P 0)), (1, .int b)] rfl ?_
  intro p e s m below meth c A ls hx hb hr hml hts hown hlk hnm hA hK hP hD hS hl
  refine lv_aload_n hx hb d_TM_shift_0 rfl (lv_at hl 0 rfl) ?_
  refine lv_iconst (v := nI 0) hx hb d_TM_shift_1 (by decide) ?_
  refine mp (ty := .int) hx hb hts hown hK hP hD hS rfl 0 (by decide) rfl fl_TM_41 rfl (by decide +kernel) (rfl) (rfl) (Nat.le_of_ble_eq_true rfl) (mm P C N tx lx nu ti si ro us bt w al now on tl ll) rfl d_TM_shift_2 (fun H locs hP hD hS => ?_)
  refine lv_aload_n hx hb d_TM_shift_5 rfl (lv_at hl 0 rfl) ?_
  refine lv_ldc (v := (-2147483648)) hx hb hown (hts _ k_TM_66) d_TM_shift_6 ?_
  refine lv_ldc (v := nI 2147483647) hx hb hown (hts _ k_TM_67) d_TM_shift_8 ?_
  refine lv_iload_n hx hb d_TM_shift_10 rfl (lv_at hl 1 rfl) ?_
  refine tb_calli (mc_move l dC dI P C N H.size tx lx nu ti si ro us bt w al now on tl ll (-2147483648) (nI 2147483647) b hw) ⟨hx, hb, hml, hown, hts⟩ (cwV 3 hts g_TM_68 rfl rfl rfl (by decide +kernel) ⟨Nat.le_of_ble_eq_true rfl, Nat.le_of_ble_eq_true rfl⟩) hK hP hD hS hA 1 rfl 0 rfl rfl hl.1 rfl (Nat.le_of_ble_eq_true rfl) d_TM_shift_11 ⟨Nat.le_refl _, Nat.le_refl _⟩ (fun r u H locs hwc hP hD hS => ?_)
  subst hwc
  exact tb_reti hx hb hr hlk hK () hP hD hS rfl d_TM_shift_14

set_option maxHeartbeats 4000000 in
set_option maxRecDepth 100000 in
/-- the reference: shiftSpan -/
theorem mc_shiftSpan (l : Launch) (dC : Nat → ClassId) (dI : Nat → Nat → Nat) (P : Nat → Nat) (C : Nat → ClassId) (N sz : Nat) (tx lx nu ti : Nat → Int32) (si ro : Nat → Nat) (us : Nat → Bool) (bt : Nat → Int32) (w al now : Nat) (on : Bool) (tl ll : Nat) (f t b : Int32) (hw : w ≤ 1024) : ctI l y_TM_shiftSpan ws_TM_shiftSpan (rmD 2) (dC, dI) classes (tys_M C) (mm P C N tx lx nu ti si ro us bt w al now on tl ll) sz [.ref (P 0), .int f, .int t, .int b] (fun (r : Int32) (_ : Unit) => r = mv_A (mv_F (mv_c (in_S ti f t) (cm_F ti now b) w 0 (fun j => j) 0) none (some (mm_q f t b w 0 ti 0)))) (fun _ => (mm P C N tx lx nu (mv_F (mv_c (in_S ti f t) (cm_F ti now b) w 0 (fun j => j) 0) ti (mv_t f t b w 0 (fun j => j) ti)) si ro us bt w al now on tl ll)) 0 0 := by
  refine tb_metI (own := R_TM) (by decide) rfl rfl (Nat.le_of_ble_eq_true rfl) [(0, .ref (P 0)), (1, .int f), (2, .int t), (3, .int b)] rfl ?_
  intro p e s m below meth c A ls hx hb hr hml hts hown hlk hnm hA hK hP hD hS hl
  refine lv_aload_n hx hb d_TM_shiftSpan_0 rfl (lv_at hl 0 rfl) ?_
  refine lv_iconst (v := nI 0) hx hb d_TM_shiftSpan_1 (by decide) ?_
  refine mp (ty := .int) hx hb hts hown hK hP hD hS rfl 0 (by decide) rfl fl_TM_41 rfl (by decide +kernel) (rfl) (rfl) (Nat.le_of_ble_eq_true rfl) (mm P C N tx lx nu ti si ro us bt w al now on tl ll) rfl d_TM_shiftSpan_2 (fun H locs hP hD hS => ?_)
  refine lv_aload_n hx hb d_TM_shiftSpan_5 rfl (lv_at hl 0 rfl) ?_
  refine lv_iload_n hx hb d_TM_shiftSpan_6 rfl (lv_at hl 1 rfl) ?_
  refine lv_iload_n hx hb d_TM_shiftSpan_7 rfl (lv_at hl 2 rfl) ?_
  refine lv_iload_n hx hb d_TM_shiftSpan_8 rfl (lv_at hl 3 rfl) ?_
  refine tb_calli (mc_move l dC dI P C N H.size tx lx nu ti si ro us bt w al now on tl ll f t b hw) ⟨hx, hb, hml, hown, hts⟩ (cwV 3 hts g_TM_68 rfl rfl rfl (by decide +kernel) ⟨Nat.le_of_ble_eq_true rfl, Nat.le_of_ble_eq_true rfl⟩) hK hP hD hS hA 1 rfl 0 rfl rfl hl.1 rfl (Nat.le_of_ble_eq_true rfl) d_TM_shiftSpan_9 ⟨Nat.le_refl _, Nat.le_refl _⟩ (fun r u H locs hwc hP hD hS => ?_)
  subst hwc
  exact tb_reti hx hb hr hlk hK () hP hD hS rfl d_TM_shiftSpan_12
