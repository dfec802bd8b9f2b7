set_option maxHeartbeats 4000000 in
set_option maxRecDepth 100000 in
/-- settle -/
theorem c_settle (l : Launch) (dC : Nat → ClassId) (dI : Nat → Nat → Nat) (P : Nat → Nat) (C : Nat → ClassId) (N sz : Nat) (fb : Nat → Int32) (g : Nat → Nat) (fn ft : Nat → Int32) (fs fl : Nat → Nat) (w wi now : Nat) (on : Bool) (ts tl lf ll : Nat) (k : Nat) (hN : N < 2 ^ 31) (hk : k < N) (hg : wfP N g) (hf : ∀ j, j < N → fs j ≤ 512) : ctV l y_TT_settle ws_TT_settle (rmD 1) (dC, dI) classes (tys_T C) (tt P C N fb g fn ft fs fl w wi now on ts tl lf ll) sz [.ref (P 0), .int (nI k)] (fun (_ : Unit) => True) (fun _ => (tt P C N fb (st_l (be_F ft fs) k g) fn ft fs fl w wi now on ts tl lf ll)) 0 0 := by
  refine tb_metV (own := R_TT) (by decide) rfl rfl (Nat.le_of_ble_eq_true rfl) [(0, .ref (P 0)), (1, .int (nI k))] rfl ?_
  intro p e s m below meth c A ls hx hb hr hml hts hown hlk hnm hA hK hP hD hS hl
  have loop : ∀ (n : Nat) (g' : Nat → Nat) (H : Heap) (locs : List Loc) (ls : Array Slot), n < N → wfP N g' → st_l (be_F ft fs) n g' = st_l (be_F ft fs) k g → va_P (dC, dI) classes (tt P C N fb g' fn ft fs fl w wi now on ts tl lf ll) H → va_D A (tt P C N fb g' fn ft fs fl w wi now on ts tl lf ll) → va_S A s.heap H locs → lv_has ls 3 [(2, .int (nI n)), (0, .ref (P 0)), (1, .int (nI k))] → W p l e (rmD 1) s m [Value.ref (P 0), .int (nI k)].toArray below meth c H locs 0 0 (MQ below (va_Qv (fun (_ : Unit) => True) (fun u tS => va_P (dC, dI) classes ((fun _ => (tt P C N fb (st_l (be_F ft fs) k g) fn ft fs fl w wi now on ts tl lf ll)) u) tS.heap ∧ va_K (dC, dI) classes (tys_T C) tS ∧ va_D A ((fun _ => (tt P C N fb (st_l (be_F ft fs) k g) fn ft fs fl w wi now on ts tl lf ll)) u)) A) [Value.ref (P 0), .int (nI k)].toArray s 0 0 A) (F0 m 2 ls []) := by
    clear hP hD hS hl hg
    intro n
    induction n with
    | zero =>
      intro g' H locs ls hn hg' hr0 hP hD hS hl
      refine lv_iload_n hx hb d_TT_settle_2 rfl (lv_at hl 0 rfl) ?_
      refine lv_if_le (tgt := 41) hx hb d_TT_settle_3 (by decide) (fun c_3 => ?_) (fun c_3 => ?_)
      · have hq : g' = st_l (be_F ft fs) k g := hr0
        subst hq
        exact tb_retv hx hb hr hlk hK () hP hD hS trivial d_TT_settle_41
      · exact absurd (show nI 0 ≤ 0 from Int32.le_refl _) c_3
    | succ n ih =>
      intro g' H locs ls hn hg' hr0 hP hD hS hl
      refine lv_iload_n hx hb d_TT_settle_2 rfl (lv_at hl 0 rfl) ?_
      refine lv_if_le (tgt := 41) hx hb d_TT_settle_3 (by decide) (fun c_3 => ?_) (fun c_3 => ?_)
      · exact absurd ((nI_leI (by omega) (by omega)).mp (show nI (n + 1) ≤ nI 0 from c_3)) (by omega)
      · refine lv_aload_n hx hb d_TT_settle_6 rfl (lv_at hl 1 rfl) ?_
        refine lv_aload_n hx hb d_TT_settle_7 rfl (lv_at hl 1 rfl) ?_
        refine xg hx hb hts hown hK hP rfl 1 (by decide) rfl fl_TT_22 rfl d_TT_settle_8 ?_
        refine lv_iload_n hx hb d_TT_settle_11 rfl (lv_at hl 0 rfl) ?_
        refine tb_iald hx hb hK hP 2 1 rfl rfl (by omega) hN d_TT_settle_12 ?_
        refine lv_aload_n hx hb d_TT_settle_13 rfl (lv_at hl 1 rfl) ?_
        refine xg hx hb hts hown hK hP rfl 1 (by decide) rfl fl_TT_22 rfl d_TT_settle_14 ?_
        refine lv_iload_n hx hb d_TT_settle_17 rfl (lv_at hl 0 rfl) ?_
        refine lv_iconst (v := nI 1) hx hb d_TT_settle_18 (by decide) ?_
        refine lv_isub hx hb d_TT_settle_19 ?_
        refine tp_i (nI n) (nI_pred n) ?_
        refine tb_iald hx hb hK hP 2 1 rfl rfl (by omega) hN d_TT_settle_20 ?_
        refine tb_calli (c_isBefore l dC dI P C N H.size fb g' fn ft fs fl w wi now on ts tl lf ll (g' (n + 1)) (g' n) hN (hg'.1 _ (by omega)) (hg'.1 _ (by omega)) hf) ⟨hx, hb, hml, hown, hts⟩ (cwV 2 hts g_TT_107 rfl rfl rfl (by decide +kernel) ⟨Nat.le_of_ble_eq_true rfl, Nat.le_of_ble_eq_true rfl⟩) hK hP hD hS hA 0 rfl 0 rfl rfl hl.1 rfl (Nat.le_of_ble_eq_true rfl) d_TT_settle_21 ⟨Nat.le_refl _, Nat.le_refl _⟩ (fun r u H locs hwc hP hD hS => ?_)
        subst hwc
        refine lv_if_eq (tgt := 41) hx hb d_TT_settle_24 (by decide) (fun c_24 => ?_) (fun c_24 => ?_)
        · have c_24 := bI_0 c_24
          have hq : g' = st_l (be_F ft fs) k g := by rw [← hr0, st_l, if_neg (by rw [c_24]; decide)]
          subst hq
          exact tb_retv hx hb hr hlk hK () hP hD hS trivial d_TT_settle_41
        · have c_24 := bI_1 c_24
          refine lv_aload_n hx hb d_TT_settle_27 rfl (lv_at hl 1 rfl) ?_
          refine lv_iload_n hx hb d_TT_settle_28 rfl (lv_at hl 0 rfl) ?_
          refine lv_iload_n hx hb d_TT_settle_29 rfl (lv_at hl 0 rfl) ?_
          refine lv_iconst (v := nI 1) hx hb d_TT_settle_30 (by decide) ?_
          refine lv_isub hx hb d_TT_settle_31 ?_
          refine tp_i (nI n) (nI_pred n) ?_
          refine tb_callv (c_swap l dC dI P C N H.size fb g' fn ft fs fl w wi now on ts tl lf ll (n + 1) n hN (by omega) (by omega)) ⟨hx, hb, hml, hown, hts⟩ (cwV 2 hts g_TT_56 rfl rfl rfl (by decide +kernel) ⟨Nat.le_of_ble_eq_true rfl, Nat.le_of_ble_eq_true rfl⟩) hK hP hD hS hA 0 rfl 0 rfl rfl hl.1 rfl (Nat.le_of_ble_eq_true rfl) d_TT_settle_32 ⟨Nat.le_refl _, Nat.le_refl _⟩ (fun u H locs hwc hP hD hS => ?_)
          refine lv_iinc (v := nI n) (lv' := [(2, .int (nI n)), (0, .ref (P 0)), (1, .int (nI k))]) hx hb d_TT_settle_35 hl (k := 0) rfl (pk_m1 n) (by decide) rfl (fun ls hl => ?_)
          refine lv_goto (tgt := 2) hx hb d_TT_settle_38 (by decide) ?_
          exact ih _ _ _ _ (by omega) (wf_sw hg' (by omega) (by omega)) (by rw [← hr0, st_l, if_pos c_24]) hP hD hS (lv_sub hl [0, 1, 2] rfl)
  refine lv_iload_n hx hb d_TT_settle_0 rfl (lv_at hl 1 rfl) ?_
  refine lv_istore_n (lv' := [(2, .int (nI k)), (0, .ref (P 0)), (1, .int (nI k))]) hx hb d_TT_settle_1 rfl hl (by decide) rfl (fun ls hl => ?_)
  exact loop k g _ _ _ hk hg rfl hP hD hS hl


set_option maxHeartbeats 4000000 in
set_option maxRecDepth 100000 in
/-- dropFirst -/
theorem c_dropFirst (l : Launch) (dC : Nat → ClassId) (dI : Nat → Nat → Nat) (P : Nat → Nat) (C : Nat → ClassId) (N sz : Nat) (fb : Nat → Int32) (g : Nat → Nat) (fn ft : Nat → Int32) (fs fl : Nat → Nat) (w wi now : Nat) (on : Bool) (ts tl lf ll : Nat) (hN : N < 2 ^ 31) (h0 : 0 < w) (hw : w ≤ N) (hg : wfP N g) : ctV l y_TT_dropFirst ws_TT_dropFirst (rmD 1) (dC, dI) classes (tys_T C) (tt P C N fb g fn ft fs fl w wi now on ts tl lf ll) sz [.ref (P 0)] (fun (_ : Unit) => True) (fun _ => (tt P C N fb (dr_l (w - 1) 1 g) fn ft fs fl (w - 1) wi now on ts tl lf ll)) 0 0 := by
  refine tb_metV (own := R_TT) (by decide) rfl rfl (Nat.le_of_ble_eq_true rfl) [(0, .ref (P 0))] rfl ?_
  intro p e s m below meth c A ls hx hb hr hml hts hown hlk hnm hA hK hP hD hS hl
  have loop : ∀ (n k : Nat) (g' : Nat → Nat) (H : Heap) (locs : List Loc) (ls : Array Slot), 0 < k → k + n = w → wfP N g' → dr_l n k g' = dr_l (w - 1) 1 g → va_P (dC, dI) classes (tt P C N fb g' fn ft fs fl w wi now on ts tl lf ll) H → va_D A (tt P C N fb g' fn ft fs fl w wi now on ts tl lf ll) → va_S A s.heap H locs → lv_has ls 2 [(1, .int (nI k)), (0, .ref (P 0))] → W p l e (rmD 1) s m [Value.ref (P 0)].toArray below meth c H locs 0 0 (MQ below (va_Qv (fun (_ : Unit) => True) (fun u tS => va_P (dC, dI) classes ((fun _ => (tt P C N fb (dr_l (w - 1) 1 g) fn ft fs fl (w - 1) wi now on ts tl lf ll)) u) tS.heap ∧ va_K (dC, dI) classes (tys_T C) tS ∧ va_D A ((fun _ => (tt P C N fb (dr_l (w - 1) 1 g) fn ft fs fl (w - 1) wi now on ts tl lf ll)) u)) A) [Value.ref (P 0)].toArray s 0 0 A) (F0 m 2 ls []) := by
    clear hP hD hS hl hg
    intro n
    induction n with
    | zero =>
      intro k g' H locs ls hk hn hg' hr0 hP hD hS hl
      refine lv_iload_n hx hb d_TT_dropFirst_2 rfl (lv_at hl 0 rfl) ?_
      refine lv_aload_n hx hb d_TT_dropFirst_3 rfl (lv_at hl 1 rfl) ?_
      refine xg hx hb hts hown hK hP rfl 6 (by decide) rfl fl_TT_53 rfl d_TT_dropFirst_4 ?_
      refine lv_icmp_ge (tgt := 24) hx hb d_TT_dropFirst_7 (by decide) (fun c_7 => ?_) (fun c_7 => ?_)
      · refine lv_aload_n hx hb d_TT_dropFirst_24 rfl (lv_at hl 1 rfl) ?_
        refine lv_dup hx hb d_TT_dropFirst_25 rfl ?_
        refine xg hx hb hts hown hK hP rfl 6 (by decide) rfl fl_TT_53 rfl d_TT_dropFirst_26 ?_
        refine lv_iconst (v := nI 1) hx hb d_TT_dropFirst_29 (by decide) ?_
        refine lv_isub hx hb d_TT_dropFirst_30 ?_
        refine tp_i (nI (w - 1)) (pk_sub (by omega)) ?_
        refine xp (ty := .int) hx hb hts hown hK hP hD hS rfl 6 (by decide) rfl fl_TT_53 rfl (by decide +kernel) (rfl) (rfl) (Nat.le_of_ble_eq_true rfl) (tt P C N fb g' fn ft fs fl (w - 1) wi now on ts tl lf ll) rfl d_TT_dropFirst_31 (fun H locs hP hD hS => ?_)
        have hq : g' = dr_l (w - 1) 1 g := hr0
        subst hq
        exact tb_retv hx hb hr hlk hK () hP hD hS trivial d_TT_dropFirst_34
      · exact absurd (nI_le (by omega) (by omega)) c_7
    | succ n ih =>
      intro k g' H locs ls hk hn hg' hr0 hP hD hS hl
      refine lv_iload_n hx hb d_TT_dropFirst_2 rfl (lv_at hl 0 rfl) ?_
      refine lv_aload_n hx hb d_TT_dropFirst_3 rfl (lv_at hl 1 rfl) ?_
      refine xg hx hb hts hown hK hP rfl 6 (by decide) rfl fl_TT_53 rfl d_TT_dropFirst_4 ?_
      refine lv_icmp_ge (tgt := 24) hx hb d_TT_dropFirst_7 (by decide) (fun c_7 => ?_) (fun c_7 => ?_)
      · exact absurd ((nI_leI (by omega) (by omega)).mp c_7) (by omega)
      · refine lv_aload_n hx hb d_TT_dropFirst_10 rfl (lv_at hl 1 rfl) ?_
        refine lv_iload_n hx hb d_TT_dropFirst_11 rfl (lv_at hl 0 rfl) ?_
        refine lv_iload_n hx hb d_TT_dropFirst_12 rfl (lv_at hl 0 rfl) ?_
        refine lv_iconst (v := nI 1) hx hb d_TT_dropFirst_13 (by decide) ?_
        refine lv_isub hx hb d_TT_dropFirst_14 ?_
        refine tp_i (nI (k - 1)) (pk_sub (by omega)) ?_
        refine tb_callv (c_swap l dC dI P C N H.size fb g' fn ft fs fl w wi now on ts tl lf ll k (k - 1) hN (by omega) (by omega)) ⟨hx, hb, hml, hown, hts⟩ (cwV 2 hts g_TT_56 rfl rfl rfl (by decide +kernel) ⟨Nat.le_of_ble_eq_true rfl, Nat.le_of_ble_eq_true rfl⟩) hK hP hD hS hA 0 rfl 0 rfl rfl hl.1 rfl (Nat.le_of_ble_eq_true rfl) d_TT_dropFirst_15 ⟨Nat.le_refl _, Nat.le_refl _⟩ (fun u H locs hwc hP hD hS => ?_)
        refine lv_iinc (v := nI (k + 1)) (lv' := [(1, .int (nI (k + 1))), (0, .ref (P 0))]) hx hb d_TT_dropFirst_18 hl (k := 0) rfl (nI_1 _) (by decide) rfl (fun ls hl => ?_)
        refine lv_goto (tgt := 2) hx hb d_TT_dropFirst_21 (by decide) ?_
        exact ih _ _ _ _ _ (by omega) (by omega) (wf_sw hg' (by omega) (by omega)) (by rw [← hr0, dr_l]) hP hD hS (lv_sub hl [0, 1] rfl)
  refine lv_iconst (v := nI 1) hx hb d_TT_dropFirst_0 (by decide) ?_
  refine lv_istore_n (lv' := [(1, .int (nI 1)), (0, .ref (P 0))]) hx hb d_TT_dropFirst_1 rfl hl (by decide) rfl (fun ls hl => ?_)
  exact loop (w - 1) 1 g _ _ _ (by omega) (by omega) hg rfl hP hD hS hl


set_option maxHeartbeats 4000000 in
set_option maxRecDepth 100000 in
/-- remove -/
theorem c_remove (l : Launch) (dC : Nat → ClassId) (dI : Nat → Nat → Nat) (P : Nat → Nat) (C : Nat → ClassId) (N sz : Nat) (fb : Nat → Int32) (g : Nat → Nat) (fn ft : Nat → Int32) (fs fl : Nat → Nat) (w wi now : Nat) (on : Bool) (ts tl lf ll : Nat) (nu : Int32) (hN : N < 2 ^ 31) (hw : w ≤ N) (hg : wfP N g) : ctI l y_TT_remove ws_TT_remove (rmD 1) (dC, dI) classes (tys_T C) (tt P C N fb g fn ft fs fl w wi now on ts tl lf ll) sz [.ref (P 0), .int nu] (fun (r : Int32) (_ : Unit) => r = nI (w - (rm_l (fun i => decide (¬ fn i = nu)) w 0 0 g).1)) (fun _ => (tt P C N fb ((rm_l (fun i => decide (¬ fn i = nu)) w 0 0 g).2) fn ft fs fl ((rm_l (fun i => decide (¬ fn i = nu)) w 0 0 g).1) wi now on ts tl lf ll)) 0 0 := by
  refine tb_metI (own := R_TT) (by decide) rfl rfl (Nat.le_of_ble_eq_true rfl) [(0, .ref (P 0)), (1, .int nu)] rfl ?_
  intro p e s m below meth c A ls hx hb hr hml hts hown hlk hnm hA hK hP hD hS hl
  have loop : ∀ (n k q : Nat) (g' : Nat → Nat) (H : Heap) (locs : List Loc) (ls : Array Slot), q ≤ k → k + n = w → wfP N g' → rm_l (fun i => decide (¬ fn i = nu)) n k q g' = rm_l (fun i => decide (¬ fn i = nu)) w 0 0 g → va_P (dC, dI) classes (tt P C N fb g' fn ft fs fl w wi now on ts tl lf ll) H → va_D A (tt P C N fb g' fn ft fs fl w wi now on ts tl lf ll) → va_S A s.heap H locs → lv_has ls 4 [(3, .int (nI k)), (2, .int (nI q)), (0, .ref (P 0)), (1, .int nu)] → W p l e (rmD 1) s m [Value.ref (P 0), .int nu].toArray below meth c H locs 0 0 (MQ below (va_Qi (fun (r : Int32) (_ : Unit) => r = nI (w - (rm_l (fun i => decide (¬ fn i = nu)) w 0 0 g).1)) (fun u tS => va_P (dC, dI) classes ((fun _ => (tt P C N fb ((rm_l (fun i => decide (¬ fn i = nu)) w 0 0 g).2) fn ft fs fl ((rm_l (fun i => decide (¬ fn i = nu)) w 0 0 g).1) wi now on ts tl lf ll)) u) tS.heap ∧ va_K (dC, dI) classes (tys_T C) tS ∧ va_D A ((fun _ => (tt P C N fb ((rm_l (fun i => decide (¬ fn i = nu)) w 0 0 g).2) fn ft fs fl ((rm_l (fun i => decide (¬ fn i = nu)) w 0 0 g).1) wi now on ts tl lf ll)) u)) A) [Value.ref (P 0), .int nu].toArray s 0 0 A) (F0 m 4 ls []) := by
    clear hP hD hS hl hg
    intro n
    induction n with
    | zero =>
      intro k q g' H locs ls hqk hn hg' hr0 hP hD hS hl
      refine lv_iload_n hx hb d_TT_remove_4 rfl (lv_at hl 0 rfl) ?_
      refine lv_aload_n hx hb d_TT_remove_5 rfl (lv_at hl 2 rfl) ?_
      refine xg hx hb hts hown hK hP rfl 6 (by decide) rfl fl_TT_53 rfl d_TT_remove_6 ?_
      refine lv_icmp_ge (tgt := 42) hx hb d_TT_remove_9 (by decide) (fun c_9 => ?_) (fun c_9 => ?_)
      · have hq : (q, g') = rm_l (fun i => decide (¬ fn i = nu)) w 0 0 g := hr0
        have h1 : q = (rm_l (fun i => decide (¬ fn i = nu)) w 0 0 g).1 := congrArg Prod.fst hq
        have h2 : g' = (rm_l (fun i => decide (¬ fn i = nu)) w 0 0 g).2 := congrArg Prod.snd hq
        refine lv_aload_n hx hb d_TT_remove_42 rfl (lv_at hl 2 rfl) ?_
        refine lv_iload_n hx hb d_TT_remove_43 rfl (lv_at hl 1 rfl) ?_
        refine tb_calli (c_keepFirst l dC dI P C N H.size fb g' fn ft fs fl w wi now on ts tl lf ll q (by omega)) ⟨hx, hb, hml, hown, hts⟩ (cwV 1 hts g_TT_59 rfl rfl rfl (by decide +kernel) ⟨Nat.le_of_ble_eq_true rfl, Nat.le_of_ble_eq_true rfl⟩) hK hP hD hS hA 0 rfl 0 rfl rfl hl.1 rfl (Nat.le_of_ble_eq_true rfl) d_TT_remove_44 ⟨Nat.le_refl _, Nat.le_refl _⟩ (fun r u H locs hwc hP hD hS => ?_)
        subst hwc
        subst h1
        subst h2
        exact tb_reti hx hb hr hlk hK () hP hD hS rfl d_TT_remove_47
      · exact absurd (nI_le (by omega) (by omega)) c_9
    | succ n ih =>
      intro k q g' H locs ls hqk hn hg' hr0 hP hD hS hl
      refine lv_iload_n hx hb d_TT_remove_4 rfl (lv_at hl 0 rfl) ?_
      refine lv_aload_n hx hb d_TT_remove_5 rfl (lv_at hl 2 rfl) ?_
      refine xg hx hb hts hown hK hP rfl 6 (by decide) rfl fl_TT_53 rfl d_TT_remove_6 ?_
      refine lv_icmp_ge (tgt := 42) hx hb d_TT_remove_9 (by decide) (fun c_9 => ?_) (fun c_9 => ?_)
      · exact absurd ((nI_leI (by omega) (by omega)).mp c_9) (by omega)
      · refine lv_aload_n hx hb d_TT_remove_12 rfl (lv_at hl 2 rfl) ?_
        refine xg hx hb hts hown hK hP rfl 2 (by decide) rfl fl_TT_26 rfl d_TT_remove_13 ?_
        refine lv_aload_n hx hb d_TT_remove_16 rfl (lv_at hl 2 rfl) ?_
        refine xg hx hb hts hown hK hP rfl 1 (by decide) rfl fl_TT_22 rfl d_TT_remove_17 ?_
        refine lv_iload_n hx hb d_TT_remove_20 rfl (lv_at hl 0 rfl) ?_
        refine tb_iald hx hb hK hP 2 1 rfl rfl (by omega) hN d_TT_remove_21 ?_
        refine tb_iald hx hb hK hP 3 2 rfl rfl (hg'.1 _ (by omega)) hN d_TT_remove_22 ?_
        refine lv_iload_n hx hb d_TT_remove_23 rfl (lv_at hl 3 rfl) ?_
        refine lv_icmp_eq (tgt := 36) hx hb d_TT_remove_24 (by decide) (fun c_24 => ?_) (fun c_24 => ?_)
        · have c_kp : ¬ decide (¬ fn (g' k) = nu) = true := by simp [c_24]
          refine lv_iinc (v := nI (k + 1)) (lv' := [(3, .int (nI (k + 1))), (2, .int (nI q)), (0, .ref (P 0)), (1, .int nu)]) hx hb d_TT_remove_36 hl (k := 0) rfl (nI_1 _) (by decide) rfl (fun ls hl => ?_)
          refine lv_goto (tgt := 4) hx hb d_TT_remove_39 (by decide) ?_
          exact ih _ _ _ _ _ _ (by omega) (by omega) hg' (by rw [← hr0, rm_l, if_neg c_kp]) hP hD hS (lv_sub hl [0, 1, 2, 3] rfl)
        · have c_kp : decide (¬ fn (g' k) = nu) = true := by simp [c_24]
          refine lv_aload_n hx hb d_TT_remove_27 rfl (lv_at hl 2 rfl) ?_
          refine lv_iload_n hx hb d_TT_remove_28 rfl (lv_at hl 0 rfl) ?_
          refine lv_iload_n hx hb d_TT_remove_29 rfl (lv_at hl 1 rfl) ?_
          refine tb_callv (c_swap l dC dI P C N H.size fb g' fn ft fs fl w wi now on ts tl lf ll k q hN (by omega) (by omega)) ⟨hx, hb, hml, hown, hts⟩ (cwV 2 hts g_TT_56 rfl rfl rfl (by decide +kernel) ⟨Nat.le_of_ble_eq_true rfl, Nat.le_of_ble_eq_true rfl⟩) hK hP hD hS hA 0 rfl 0 rfl rfl hl.1 rfl (Nat.le_of_ble_eq_true rfl) d_TT_remove_30 ⟨Nat.le_refl _, Nat.le_refl _⟩ (fun u H locs hwc hP hD hS => ?_)
          refine lv_iinc (v := nI (q + 1)) (lv' := [(2, .int (nI (q + 1))), (3, .int (nI k)), (0, .ref (P 0)), (1, .int nu)]) hx hb d_TT_remove_33 hl (k := 1) rfl (nI_1 _) (by decide) rfl (fun ls hl => ?_)
          refine lv_iinc (v := nI (k + 1)) (lv' := [(3, .int (nI (k + 1))), (2, .int (nI (q + 1))), (0, .ref (P 0)), (1, .int nu)]) hx hb d_TT_remove_36 hl (k := 1) rfl (nI_1 _) (by decide) rfl (fun ls hl => ?_)
          refine lv_goto (tgt := 4) hx hb d_TT_remove_39 (by decide) ?_
          exact ih _ _ _ _ _ _ (by omega) (by omega) (wf_sw hg' (by omega) (by omega)) (by rw [← hr0, rm_l, if_pos c_kp]) hP hD hS (lv_sub hl [0, 1, 2, 3] rfl)
  refine lv_iconst (v := nI 0) hx hb d_TT_remove_0 (by decide) ?_
  refine lv_istore_n (lv' := [(2, .int (nI 0)), (0, .ref (P 0)), (1, .int nu)]) hx hb d_TT_remove_1 rfl hl (by decide) rfl (fun ls hl => ?_)
  refine lv_iconst (v := nI 0) hx hb d_TT_remove_2 (by decide) ?_
  refine lv_istore_n (lv' := [(3, .int (nI 0)), (2, .int (nI 0)), (0, .ref (P 0)), (1, .int nu)]) hx hb d_TT_remove_3 rfl hl (by decide) rfl (fun ls hl => ?_)
  exact loop w 0 0 g _ _ _ (Nat.le_refl 0) (by omega) hg rfl hP hD hS (lv_sub hl [0, 1, 2, 3] rfl)


set_option maxHeartbeats 4000000 in
set_option maxRecDepth 100000 in
/-- removeSpan -/
theorem c_removeSpan (l : Launch) (dC : Nat → ClassId) (dI : Nat → Nat → Nat) (P : Nat → Nat) (C : Nat → ClassId) (N sz : Nat) (fb : Nat → Int32) (g : Nat → Nat) (fn ft : Nat → Int32) (fs fl : Nat → Nat) (w wi now : Nat) (on : Bool) (ts tl lf ll : Nat) (f t : Int32) (hN : N < 2 ^ 31) (hw : w ≤ N) (hg : wfP N g) : ctI l y_TT_removeSpan ws_TT_removeSpan (rmD 1) (dC, dI) classes (tys_T C) (tt P C N fb g fn ft fs fl w wi now on ts tl lf ll) sz [.ref (P 0), .int f, .int t] (fun (r : Int32) (_ : Unit) => r = nI (w - (rm_l (fun i => !(in_S ft f t i)) w 0 0 g).1)) (fun _ => (tt P C N fb ((rm_l (fun i => !(in_S ft f t i)) w 0 0 g).2) fn ft fs fl ((rm_l (fun i => !(in_S ft f t i)) w 0 0 g).1) wi now on ts tl lf ll)) 0 0 := by
  refine tb_metI (own := R_TT) (by decide) rfl rfl (Nat.le_of_ble_eq_true rfl) [(0, .ref (P 0)), (1, .int f), (2, .int t)] rfl ?_
  intro p e s m below meth c A ls hx hb hr hml hts hown hlk hnm hA hK hP hD hS hl
  have loop : ∀ (n k q : Nat) (g' : Nat → Nat) (H : Heap) (locs : List Loc) (ls : Array Slot), q ≤ k → k + n = w → wfP N g' → rm_l (fun i => !(in_S ft f t i)) n k q g' = rm_l (fun i => !(in_S ft f t i)) w 0 0 g → va_P (dC, dI) classes (tt P C N fb g' fn ft fs fl w wi now on ts tl lf ll) H → va_D A (tt P C N fb g' fn ft fs fl w wi now on ts tl lf ll) → va_S A s.heap H locs → lv_has ls 5 [(4, .int (nI k)), (3, .int (nI q)), (0, .ref (P 0)), (1, .int f), (2, .int t)] → W p l e (rmD 1) s m [Value.ref (P 0), .int f, .int t].toArray below meth c H locs 0 0 (MQ below (va_Qi (fun (r : Int32) (_ : Unit) => r = nI (w - (rm_l (fun i => !(in_S ft f t i)) w 0 0 g).1)) (fun u tS => va_P (dC, dI) classes ((fun _ => (tt P C N fb ((rm_l (fun i => !(in_S ft f t i)) w 0 0 g).2) fn ft fs fl ((rm_l (fun i => !(in_S ft f t i)) w 0 0 g).1) wi now on ts tl lf ll)) u) tS.heap ∧ va_K (dC, dI) classes (tys_T C) tS ∧ va_D A ((fun _ => (tt P C N fb ((rm_l (fun i => !(in_S ft f t i)) w 0 0 g).2) fn ft fs fl ((rm_l (fun i => !(in_S ft f t i)) w 0 0 g).1) wi now on ts tl lf ll)) u)) A) [Value.ref (P 0), .int f, .int t].toArray s 0 0 A) (F0 m 5 ls []) := by
    clear hP hD hS hl hg
    intro n
    induction n with
    | zero =>
      intro k q g' H locs ls hqk hn hg' hr0 hP hD hS hl
      refine lv_iload hx hb d_TT_removeSpan_5 (lv_at hl 0 rfl) ?_
      refine lv_aload_n hx hb d_TT_removeSpan_7 rfl (lv_at hl 2 rfl) ?_
      refine xg hx hb hts hown hK hP rfl 6 (by decide) rfl fl_TT_53 rfl d_TT_removeSpan_8 ?_
      refine lv_icmp_ge (tgt := 46) hx hb d_TT_removeSpan_11 (by decide) (fun c_11 => ?_) (fun c_11 => ?_)
      · have hq : (q, g') = rm_l (fun i => !(in_S ft f t i)) w 0 0 g := hr0
        have h1 : q = (rm_l (fun i => !(in_S ft f t i)) w 0 0 g).1 := congrArg Prod.fst hq
        have h2 : g' = (rm_l (fun i => !(in_S ft f t i)) w 0 0 g).2 := congrArg Prod.snd hq
        refine lv_aload_n hx hb d_TT_removeSpan_46 rfl (lv_at hl 2 rfl) ?_
        refine lv_iload_n hx hb d_TT_removeSpan_47 rfl (lv_at hl 1 rfl) ?_
        refine tb_calli (c_keepFirst l dC dI P C N H.size fb g' fn ft fs fl w wi now on ts tl lf ll q (by omega)) ⟨hx, hb, hml, hown, hts⟩ (cwV 1 hts g_TT_59 rfl rfl rfl (by decide +kernel) ⟨Nat.le_of_ble_eq_true rfl, Nat.le_of_ble_eq_true rfl⟩) hK hP hD hS hA 0 rfl 0 rfl rfl hl.1 rfl (Nat.le_of_ble_eq_true rfl) d_TT_removeSpan_48 ⟨Nat.le_refl _, Nat.le_refl _⟩ (fun r u H locs hwc hP hD hS => ?_)
        subst hwc
        subst h1
        subst h2
        exact tb_reti hx hb hr hlk hK () hP hD hS rfl d_TT_removeSpan_51
      · exact absurd (nI_le (by omega) (by omega)) c_11
    | succ n ih =>
      intro k q g' H locs ls hqk hn hg' hr0 hP hD hS hl
      refine lv_iload hx hb d_TT_removeSpan_5 (lv_at hl 0 rfl) ?_
      refine lv_aload_n hx hb d_TT_removeSpan_7 rfl (lv_at hl 2 rfl) ?_
      refine xg hx hb hts hown hK hP rfl 6 (by decide) rfl fl_TT_53 rfl d_TT_removeSpan_8 ?_
      refine lv_icmp_ge (tgt := 46) hx hb d_TT_removeSpan_11 (by decide) (fun c_11 => ?_) (fun c_11 => ?_)
      · exact absurd ((nI_leI (by omega) (by omega)).mp c_11) (by omega)
      · refine lv_aload_n hx hb d_TT_removeSpan_14 rfl (lv_at hl 2 rfl) ?_
        refine lv_aload_n hx hb d_TT_removeSpan_15 rfl (lv_at hl 2 rfl) ?_
        refine xg hx hb hts hown hK hP rfl 1 (by decide) rfl fl_TT_22 rfl d_TT_removeSpan_16 ?_
        refine lv_iload hx hb d_TT_removeSpan_19 (lv_at hl 0 rfl) ?_
        refine tb_iald hx hb hK hP 2 1 rfl rfl (by omega) hN d_TT_removeSpan_21 ?_
        refine lv_iload_n hx hb d_TT_removeSpan_22 rfl (lv_at hl 3 rfl) ?_
        refine lv_iload_n hx hb d_TT_removeSpan_23 rfl (lv_at hl 4 rfl) ?_
        refine tb_calli (c_isInSpan l dC dI P C N H.size fb g' fn ft fs fl w wi now on ts tl lf ll (g' k) f t hN (hg'.1 _ (by omega))) ⟨hx, hb, hml, hown, hts⟩ (cwV 3 hts g_TT_62 rfl rfl rfl (by decide +kernel) ⟨Nat.le_of_ble_eq_true rfl, Nat.le_of_ble_eq_true rfl⟩) hK hP hD hS hA 0 rfl 0 rfl rfl hl.1 rfl (Nat.le_of_ble_eq_true rfl) d_TT_removeSpan_24 ⟨Nat.le_refl _, Nat.le_refl _⟩ (fun r u H locs hwc hP hD hS => ?_)
        subst hwc
        refine lv_if_ne (tgt := 40) hx hb d_TT_removeSpan_27 (by decide) (fun c_27 => ?_) (fun c_27 => ?_)
        · have c_kp : ¬ (!(in_S ft f t (g' k))) = true := by simp [bI_1 c_27]
          refine lv_iinc (v := nI (k + 1)) (lv' := [(4, .int (nI (k + 1))), (3, .int (nI q)), (0, .ref (P 0)), (1, .int f), (2, .int t)]) hx hb d_TT_removeSpan_40 hl (k := 0) rfl (nI_1 _) (by decide) rfl (fun ls hl => ?_)
          refine lv_goto (tgt := 5) hx hb d_TT_removeSpan_43 (by decide) ?_
          exact ih _ _ _ _ _ _ (by omega) (by omega) hg' (by rw [← hr0, rm_l, if_neg c_kp]) hP hD hS (lv_sub hl [0, 1, 2, 3, 4] rfl)
        · have c_kp : (!(in_S ft f t (g' k))) = true := by simp [bI_0 c_27]
          refine lv_aload_n hx hb d_TT_removeSpan_30 rfl (lv_at hl 2 rfl) ?_
          refine lv_iload hx hb d_TT_removeSpan_31 (lv_at hl 0 rfl) ?_
          refine lv_iload_n hx hb d_TT_removeSpan_33 rfl (lv_at hl 1 rfl) ?_
          refine tb_callv (c_swap l dC dI P C N H.size fb g' fn ft fs fl w wi now on ts tl lf ll k q hN (by omega) (by omega)) ⟨hx, hb, hml, hown, hts⟩ (cwV 2 hts g_TT_56 rfl rfl rfl (by decide +kernel) ⟨Nat.le_of_ble_eq_true rfl, Nat.le_of_ble_eq_true rfl⟩) hK hP hD hS hA 0 rfl 0 rfl rfl hl.1 rfl (Nat.le_of_ble_eq_true rfl) d_TT_removeSpan_34 ⟨Nat.le_refl _, Nat.le_refl _⟩ (fun u H locs hwc hP hD hS => ?_)
          refine lv_iinc (v := nI (q + 1)) (lv' := [(3, .int (nI (q + 1))), (4, .int (nI k)), (0, .ref (P 0)), (1, .int f), (2, .int t)]) hx hb d_TT_removeSpan_37 hl (k := 1) rfl (nI_1 _) (by decide) rfl (fun ls hl => ?_)
          refine lv_iinc (v := nI (k + 1)) (lv' := [(4, .int (nI (k + 1))), (3, .int (nI (q + 1))), (0, .ref (P 0)), (1, .int f), (2, .int t)]) hx hb d_TT_removeSpan_40 hl (k := 1) rfl (nI_1 _) (by decide) rfl (fun ls hl => ?_)
          refine lv_goto (tgt := 5) hx hb d_TT_removeSpan_43 (by decide) ?_
          exact ih _ _ _ _ _ _ (by omega) (by omega) (wf_sw hg' (by omega) (by omega)) (by rw [← hr0, rm_l, if_pos c_kp]) hP hD hS (lv_sub hl [0, 1, 2, 3, 4] rfl)
  refine lv_iconst (v := nI 0) hx hb d_TT_removeSpan_0 (by decide) ?_
  refine lv_istore_n (lv' := [(3, .int (nI 0)), (0, .ref (P 0)), (1, .int f), (2, .int t)]) hx hb d_TT_removeSpan_1 rfl hl (by decide) rfl (fun ls hl => ?_)
  refine lv_iconst (v := nI 0) hx hb d_TT_removeSpan_2 (by decide) ?_
  refine lv_istore (lv' := [(4, .int (nI 0)), (3, .int (nI 0)), (0, .ref (P 0)), (1, .int f), (2, .int t)]) hx hb d_TT_removeSpan_3 hl (by decide) rfl (fun ls hl => ?_)
  exact loop w 0 0 g _ _ _ (Nat.le_refl 0) (by omega) hg rfl hP hD hS (lv_sub hl [0, 1, 2, 3, 4] rfl)


set_option maxHeartbeats 4000000 in
set_option maxRecDepth 100000 in
/-- addEntry -/
theorem c_addEntry (l : Launch) (dC : Nat → ClassId) (dI : Nat → Nat → Nat) (P : Nat → Nat) (C : Nat → ClassId) (N sz : Nat) (fb : Nat → Int32) (g : Nat → Nat) (fn ft : Nat → Int32) (fs fl : Nat → Nat) (w wi now : Nat) (on : Bool) (ts tl lf ll : Nat) (nu t : Int32) (hN : N < 2 ^ 31) (hw : w < N) (hg : wfP N g) (hf : ∀ j, j < N → fs j ≤ 512) (hts2 : ts ≤ 512) : ctV l y_TT_addEntry ws_TT_addEntry (rmD 2) (dC, dI) classes (tys_T C) (tt P C N fb g fn ft fs fl w wi now on ts tl lf ll) sz [.ref (P 0), .int nu, .int t] (fun (_ : Unit) => True) (fun _ => (tt P C N fb (st_l (be_F (upd ft (g w) t) (va_up fs (g w) ts)) w g) (upd fn (g w) nu) (upd ft (g w) t) (va_up fs (g w) ts) (va_up fl (g w) tl) (w + 1) (wi + 1) now on (ts + tl) tl lf ll)) 0 0 := by
  refine tb_metV (own := R_TT) (by decide) rfl rfl (Nat.le_of_ble_eq_true rfl) [(0, .ref (P 0)), (1, .int nu), (2, .int t)] rfl ?_
  intro p e s m below meth c A ls hx hb hr hml hts hown hlk hnm hA hK hP hD hS hl
  refine lv_aload_n hx hb d_TT_addEntry_0 rfl (lv_at hl 0 rfl) ?_
  refine xg hx hb hts hown hK hP rfl 1 (by decide) rfl fl_TT_22 rfl d_TT_addEntry_1 ?_
  refine lv_aload_n hx hb d_TT_addEntry_4 rfl (lv_at hl 0 rfl) ?_
  refine xg hx hb hts hown hK hP rfl 6 (by decide) rfl fl_TT_53 rfl d_TT_addEntry_5 ?_
  refine tb_iald hx hb hK hP 2 1 rfl rfl (by omega) hN d_TT_addEntry_8 ?_
  refine lv_istore_n (lv' := [(3, .int (nI (g w))), (0, .ref (P 0)), (1, .int nu), (2, .int t)]) hx hb d_TT_addEntry_9 rfl hl (by decide) rfl (fun ls hl => ?_)
  refine lv_aload_n hx hb d_TT_addEntry_10 rfl (lv_at hl 1 rfl) ?_
  refine xg hx hb hts hown hK hP rfl 2 (by decide) rfl fl_TT_26 rfl d_TT_addEntry_11 ?_
  refine lv_iload_n hx hb d_TT_addEntry_14 rfl (lv_at hl 0 rfl) ?_
  refine lv_iload_n hx hb d_TT_addEntry_15 rfl (lv_at hl 2 rfl) ?_
  refine tb_iast hx hb hK hP hD hS 3 2 rfl rfl (hg.1 _ (by omega)) hN (tt P C N fb g (upd fn (g w) nu) ft fs fl w wi now on ts tl lf ll) rfl d_TT_addEntry_16 (fun H locs hP hD hS => ?_)
  refine lv_aload_n hx hb d_TT_addEntry_17 rfl (lv_at hl 1 rfl) ?_
  refine xg hx hb hts hown hK hP rfl 3 (by decide) rfl fl_TT_29 rfl d_TT_addEntry_18 ?_
  refine lv_iload_n hx hb d_TT_addEntry_21 rfl (lv_at hl 0 rfl) ?_
  refine lv_iload_n hx hb d_TT_addEntry_22 rfl (lv_at hl 3 rfl) ?_
  refine tb_iast hx hb hK hP hD hS 4 3 rfl rfl (hg.1 _ (by omega)) hN (tt P C N fb g (upd fn (g w) nu) (upd ft (g w) t) fs fl w wi now on ts tl lf ll) rfl d_TT_addEntry_23 (fun H locs hP hD hS => ?_)
  refine lv_aload_n hx hb d_TT_addEntry_24 rfl (lv_at hl 1 rfl) ?_
  refine xg hx hb hts hown hK hP rfl 4 (by decide) rfl fl_TT_32 rfl d_TT_addEntry_25 ?_
  refine lv_iload_n hx hb d_TT_addEntry_28 rfl (lv_at hl 0 rfl) ?_
  refine lv_aload_n hx hb d_TT_addEntry_29 rfl (lv_at hl 1 rfl) ?_
  refine xg hx hb hts hown hK hP rfl 10 (by decide) rfl fl_TT_38 rfl d_TT_addEntry_30 ?_
  refine tb_iastN hx hb hK hP hD hS 5 4 rfl rfl (hg.1 _ (by omega)) hN (tt P C N fb g (upd fn (g w) nu) (upd ft (g w) t) (va_up fs (g w) ts) fl w wi now on ts tl lf ll) rfl d_TT_addEntry_33 (fun H locs hP hD hS => ?_)
  refine lv_aload_n hx hb d_TT_addEntry_34 rfl (lv_at hl 1 rfl) ?_
  refine xg hx hb hts hown hK hP rfl 5 (by decide) rfl fl_TT_35 rfl d_TT_addEntry_35 ?_
  refine lv_iload_n hx hb d_TT_addEntry_38 rfl (lv_at hl 0 rfl) ?_
  refine lv_aload_n hx hb d_TT_addEntry_39 rfl (lv_at hl 1 rfl) ?_
  refine xg hx hb hts hown hK hP rfl 11 (by decide) rfl fl_TT_42 rfl d_TT_addEntry_40 ?_
  refine tb_iastN hx hb hK hP hD hS 6 5 rfl rfl (hg.1 _ (by omega)) hN (tt P C N fb g (upd fn (g w) nu) (upd ft (g w) t) (va_up fs (g w) ts) (va_up fl (g w) tl) w wi now on ts tl lf ll) rfl d_TT_addEntry_43 (fun H locs hP hD hS => ?_)
  refine lv_aload_n hx hb d_TT_addEntry_44 rfl (lv_at hl 1 rfl) ?_
  refine lv_dup hx hb d_TT_addEntry_45 rfl ?_
  refine xg hx hb hts hown hK hP rfl 10 (by decide) rfl fl_TT_38 rfl d_TT_addEntry_46 ?_
  refine lv_aload_n hx hb d_TT_addEntry_49 rfl (lv_at hl 1 rfl) ?_
  refine xg hx hb hts hown hK hP rfl 11 (by decide) rfl fl_TT_42 rfl d_TT_addEntry_50 ?_
  refine lv_iadd hx hb d_TT_addEntry_53 ?_
  refine tp_i (nI (ts + tl)) (nI_add _ _) ?_
  refine xp (ty := .int) hx hb hts hown hK hP hD hS rfl 10 (by decide) rfl fl_TT_38 rfl (by decide +kernel) (rfl) (rfl) (Nat.le_of_ble_eq_true rfl) (tt P C N fb g (upd fn (g w) nu) (upd ft (g w) t) (va_up fs (g w) ts) (va_up fl (g w) tl) w wi now on (ts + tl) tl lf ll) rfl d_TT_addEntry_54 (fun H locs hP hD hS => ?_)
  refine lv_aload_n hx hb d_TT_addEntry_57 rfl (lv_at hl 1 rfl) ?_
  refine lv_dup hx hb d_TT_addEntry_58 rfl ?_
  refine xg hx hb hts hown hK hP rfl 6 (by decide) rfl fl_TT_53 rfl d_TT_addEntry_59 ?_
  refine lv_iconst (v := nI 1) hx hb d_TT_addEntry_62 (by decide) ?_
  refine lv_iadd hx hb d_TT_addEntry_63 ?_
  refine tp_i (nI (w + 1)) (nI_add _ _) ?_
  refine xp (ty := .int) hx hb hts hown hK hP hD hS rfl 6 (by decide) rfl fl_TT_53 rfl (by decide +kernel) (rfl) (rfl) (Nat.le_of_ble_eq_true rfl) (tt P C N fb g (upd fn (g w) nu) (upd ft (g w) t) (va_up fs (g w) ts) (va_up fl (g w) tl) (w + 1) wi now on (ts + tl) tl lf ll) rfl d_TT_addEntry_64 (fun H locs hP hD hS => ?_)
  refine lv_aload_n hx hb d_TT_addEntry_67 rfl (lv_at hl 1 rfl) ?_
  refine lv_dup hx hb d_TT_addEntry_68 rfl ?_
  refine xg hx hb hts hown hK hP rfl 7 (by decide) rfl fl_TT_90 rfl d_TT_addEntry_69 ?_
  refine lv_iconst (v := nI 1) hx hb d_TT_addEntry_72 (by decide) ?_
  refine lv_iadd hx hb d_TT_addEntry_73 ?_
  refine tp_i (nI (wi + 1)) (nI_add _ _) ?_
  refine xp (ty := .int) hx hb hts hown hK hP hD hS rfl 7 (by decide) rfl fl_TT_90 rfl (by decide +kernel) (rfl) (rfl) (Nat.le_of_ble_eq_true rfl) (tt P C N fb g (upd fn (g w) nu) (upd ft (g w) t) (va_up fs (g w) ts) (va_up fl (g w) tl) (w + 1) (wi + 1) now on (ts + tl) tl lf ll) rfl d_TT_addEntry_74 (fun H locs hP hD hS => ?_)
  refine lv_aload_n hx hb d_TT_addEntry_77 rfl (lv_at hl 1 rfl) ?_
  refine lv_aload_n hx hb d_TT_addEntry_78 rfl (lv_at hl 1 rfl) ?_
  refine xg hx hb hts hown hK hP rfl 6 (by decide) rfl fl_TT_53 rfl d_TT_addEntry_79 ?_
  refine lv_iconst (v := nI 1) hx hb d_TT_addEntry_82 (by decide) ?_
  refine lv_isub hx hb d_TT_addEntry_83 ?_
  refine tp_i (nI w) (nI_pred w) ?_
  refine tb_callv (c_settle l dC dI P C N H.size fb g (upd fn (g w) nu) (upd ft (g w) t) (va_up fs (g w) ts) (va_up fl (g w) tl) (w + 1) (wi + 1) now on (ts + tl) tl lf ll w hN hw hg (fs_up hf hts2)) ⟨hx, hb, hml, hown, hts⟩ (cwV 1 hts g_TT_97 rfl rfl rfl (by decide +kernel) ⟨Nat.le_of_ble_eq_true rfl, Nat.le_of_ble_eq_true rfl⟩) hK hP hD hS hA 0 rfl 0 rfl rfl hl.1 rfl (Nat.le_of_ble_eq_true rfl) d_TT_addEntry_84 ⟨Nat.le_refl _, Nat.le_refl _⟩ (fun u H locs hwc hP hD hS => ?_)
  exact tb_retv hx hb hr hlk hK () hP hD hS trivial d_TT_addEntry_87

