set_option maxHeartbeats 4000000 in
set_option maxRecDepth 100000 in
/-- swap: two places -/
theorem c_swap (l : Launch) (dC : Nat → ClassId) (dI : Nat → Nat → Nat) (P : Nat → Nat) (C : Nat → ClassId) (N sz : Nat) (fb : Nat → Int32) (g : Nat → Nat) (fn ft : Nat → Int32) (fs fl : Nat → Nat) (w wi now : Nat) (on : Bool) (ts tl lf ll : Nat) (a b : Nat) (hN : N < 2 ^ 31) (ha : a < N) (hb2 : b < N) : ctV l y_TT_swap ws_TT_swap (rmD 0) (dC, dI) classes (tys_T C) (tt P C N fb g fn ft fs fl w wi now on ts tl lf ll) sz [.ref (P 0), .int (nI a), .int (nI b)] (fun (_ : Unit) => True) (fun _ => (tt P C N fb (sw_N g a b) fn ft fs fl w wi now on ts tl lf ll)) 0 0 := by
  refine tb_metV (own := R_TT) (by decide) rfl rfl (Nat.le_of_ble_eq_true rfl) [(0, .ref (P 0)), (1, .int (nI a)), (2, .int (nI b))] rfl ?_
  intro p e s m below meth c A ls hx hb hr hml hts hown hlk hnm hA hK hP hD hS hl
  refine lv_aload_n hx hb d_TT_swap_0 rfl (lv_at hl 0 rfl) ?_
  refine xg hx hb hts hown hK hP rfl 1 (by decide) rfl fl_TT_22 rfl d_TT_swap_1 ?_
  refine lv_iload_n hx hb d_TT_swap_4 rfl (lv_at hl 1 rfl) ?_
  refine tb_iald hx hb hK hP 2 1 rfl rfl (by omega) hN d_TT_swap_5 ?_
  refine lv_istore_n (lv' := [(3, .int (nI (g a))), (0, .ref (P 0)), (1, .int (nI a)), (2, .int (nI b))]) hx hb d_TT_swap_6 rfl hl (by decide) rfl (fun ls hl => ?_)
  refine lv_aload_n hx hb d_TT_swap_7 rfl (lv_at hl 1 rfl) ?_
  refine xg hx hb hts hown hK hP rfl 1 (by decide) rfl fl_TT_22 rfl d_TT_swap_8 ?_
  refine lv_iload_n hx hb d_TT_swap_11 rfl (lv_at hl 2 rfl) ?_
  refine lv_aload_n hx hb d_TT_swap_12 rfl (lv_at hl 1 rfl) ?_
  refine xg hx hb hts hown hK hP rfl 1 (by decide) rfl fl_TT_22 rfl d_TT_swap_13 ?_
  refine lv_iload_n hx hb d_TT_swap_16 rfl (lv_at hl 3 rfl) ?_
  refine tb_iald hx hb hK hP 2 1 rfl rfl (by omega) hN d_TT_swap_17 ?_
  refine tb_iastN hx hb hK hP hD hS 2 1 rfl rfl (by omega) hN (tt P C N fb (va_up g a (g b)) fn ft fs fl w wi now on ts tl lf ll) rfl d_TT_swap_18 (fun H locs hP hD hS => ?_)
  refine lv_aload_n hx hb d_TT_swap_19 rfl (lv_at hl 1 rfl) ?_
  refine xg hx hb hts hown hK hP rfl 1 (by decide) rfl fl_TT_22 rfl d_TT_swap_20 ?_
  refine lv_iload_n hx hb d_TT_swap_23 rfl (lv_at hl 3 rfl) ?_
  refine lv_iload_n hx hb d_TT_swap_24 rfl (lv_at hl 0 rfl) ?_
  refine tb_iastN hx hb hK hP hD hS 2 1 rfl rfl (by omega) hN (tt P C N fb (va_up (va_up g a (g b)) b (g a)) fn ft fs fl w wi now on ts tl lf ll) rfl d_TT_swap_25 (fun H locs hP hD hS => ?_)
  exact tb_retv hx hb hr hlk hK () hP hD hS trivial d_TT_swap_26


set_option maxHeartbeats 4000000 in
set_option maxRecDepth 100000 in
/-- isInSpan -/
theorem c_isInSpan (l : Launch) (dC : Nat → ClassId) (dI : Nat → Nat → Nat) (P : Nat → Nat) (C : Nat → ClassId) (N sz : Nat) (fb : Nat → Int32) (g : Nat → Nat) (fn ft : Nat → Int32) (fs fl : Nat → Nat) (w wi now : Nat) (on : Bool) (ts tl lf ll : Nat) (i : Nat) (f t : Int32) (hN : N < 2 ^ 31) (hi : i < N) : ctI l y_TT_isInSpan ws_TT_isInSpan (rmD 0) (dC, dI) classes (tys_T C) (tt P C N fb g fn ft fs fl w wi now on ts tl lf ll) sz [.ref (P 0), .int (nI i), .int f, .int t] (fun (r : Int32) (_ : Unit) => r = bI (in_S ft f t i)) (fun _ => (tt P C N fb g fn ft fs fl w wi now on ts tl lf ll)) 0 0 := by
  refine tb_metI (own := R_TT) (by decide) rfl rfl (Nat.le_of_ble_eq_true rfl) [(0, .ref (P 0)), (1, .int (nI i)), (2, .int f), (3, .int t)] rfl ?_
  intro p e s m below meth c A ls hx hb hr hml hts hown hlk hnm hA hK hP hD hS hl
  refine lv_aload_n hx hb d_TT_isInSpan_0 rfl (lv_at hl 0 rfl) ?_
  refine xg hx hb hts hown hK hP rfl 3 (by decide) rfl fl_TT_29 rfl d_TT_isInSpan_1 ?_
  refine lv_iload_n hx hb d_TT_isInSpan_4 rfl (lv_at hl 1 rfl) ?_
  refine tb_iald hx hb hK hP 4 3 rfl rfl (by omega) hN d_TT_isInSpan_5 ?_
  refine lv_iload_n hx hb d_TT_isInSpan_6 rfl (lv_at hl 2 rfl) ?_
  refine lv_icmp_lt (tgt := 24) hx hb d_TT_isInSpan_7 (by decide) (fun c_7 => ?_) (fun c_7 => ?_)
  · refine lv_iconst (v := nI 0) hx hb d_TT_isInSpan_24 (by decide) ?_
    exact tb_retz hx hb hr hlk hK () hP hD hS (by first | rfl | decide) (by first | (rw [in_S_f1 c_7]; rfl) | (rw [in_S_f2 c_17]; rfl) | (rw [in_S_t c_7 c_17]; rfl)) d_TT_isInSpan_25
  · refine lv_aload_n hx hb d_TT_isInSpan_10 rfl (lv_at hl 0 rfl) ?_
    refine xg hx hb hts hown hK hP rfl 3 (by decide) rfl fl_TT_29 rfl d_TT_isInSpan_11 ?_
    refine lv_iload_n hx hb d_TT_isInSpan_14 rfl (lv_at hl 1 rfl) ?_
    refine tb_iald hx hb hK hP 4 3 rfl rfl (by omega) hN d_TT_isInSpan_15 ?_
    refine lv_iload_n hx hb d_TT_isInSpan_16 rfl (lv_at hl 3 rfl) ?_
    refine lv_icmp_gt (tgt := 24) hx hb d_TT_isInSpan_17 (by decide) (fun c_17 => ?_) (fun c_17 => ?_)
    · refine lv_iconst (v := nI 0) hx hb d_TT_isInSpan_24 (by decide) ?_
      exact tb_retz hx hb hr hlk hK () hP hD hS (by first | rfl | decide) (by first | (rw [in_S_f1 c_7]; rfl) | (rw [in_S_f2 c_17]; rfl) | (rw [in_S_t c_7 c_17]; rfl)) d_TT_isInSpan_25
    · refine lv_iconst (v := nI 1) hx hb d_TT_isInSpan_20 (by decide) ?_
      refine lv_goto (tgt := 25) hx hb d_TT_isInSpan_21 (by decide) ?_
      exact tb_retz hx hb hr hlk hK () hP hD hS (by first | rfl | decide) (by first | (rw [in_S_f1 c_7]; rfl) | (rw [in_S_f2 c_17]; rfl) | (rw [in_S_t c_7 c_17]; rfl)) d_TT_isInSpan_25


set_option maxHeartbeats 4000000 in
set_option maxRecDepth 100000 in
/-- isBefore -/
theorem c_isBefore (l : Launch) (dC : Nat → ClassId) (dI : Nat → Nat → Nat) (P : Nat → Nat) (C : Nat → ClassId) (N sz : Nat) (fb : Nat → Int32) (g : Nat → Nat) (fn ft : Nat → Int32) (fs fl : Nat → Nat) (w wi now : Nat) (on : Bool) (ts tl lf ll : Nat) (i j : Nat) (hN : N < 2 ^ 31) (hi : i < N) (hj : j < N) (hf : ∀ j, j < N → fs j ≤ 512) : ctI l y_TT_isBefore ws_TT_isBefore (rmD 0) (dC, dI) classes (tys_T C) (tt P C N fb g fn ft fs fl w wi now on ts tl lf ll) sz [.ref (P 0), .int (nI i), .int (nI j)] (fun (r : Int32) (_ : Unit) => r = bI (be_F ft fs i j)) (fun _ => (tt P C N fb g fn ft fs fl w wi now on ts tl lf ll)) 0 0 := by
  refine tb_metI (own := R_TT) (by decide) rfl rfl (Nat.le_of_ble_eq_true rfl) [(0, .ref (P 0)), (1, .int (nI i)), (2, .int (nI j))] rfl ?_
  intro p e s m below meth c A ls hx hb hr hml hts hown hlk hnm hA hK hP hD hS hl
  refine lv_aload_n hx hb d_TT_isBefore_0 rfl (lv_at hl 0 rfl) ?_
  refine xg hx hb hts hown hK hP rfl 3 (by decide) rfl fl_TT_29 rfl d_TT_isBefore_1 ?_
  refine lv_iload_n hx hb d_TT_isBefore_4 rfl (lv_at hl 1 rfl) ?_
  refine tb_iald hx hb hK hP 4 3 rfl rfl (by omega) hN d_TT_isBefore_5 ?_
  refine lv_aload_n hx hb d_TT_isBefore_6 rfl (lv_at hl 0 rfl) ?_
  refine xg hx hb hts hown hK hP rfl 3 (by decide) rfl fl_TT_29 rfl d_TT_isBefore_7 ?_
  refine lv_iload_n hx hb d_TT_isBefore_10 rfl (lv_at hl 2 rfl) ?_
  refine tb_iald hx hb hK hP 4 3 rfl rfl (by omega) hN d_TT_isBefore_11 ?_
  refine lv_icmp_eq (tgt := 36) hx hb d_TT_isBefore_12 (by decide) (fun c_12 => ?_) (fun c_12 => ?_)
  · have b1 := hf i hi
    have b2 := hf j hj
    refine lv_aload_n hx hb d_TT_isBefore_36 rfl (lv_at hl 0 rfl) ?_
    refine xg hx hb hts hown hK hP rfl 4 (by decide) rfl fl_TT_32 rfl d_TT_isBefore_37 ?_
    refine lv_iload_n hx hb d_TT_isBefore_40 rfl (lv_at hl 1 rfl) ?_
    refine tb_iald hx hb hK hP 5 4 rfl rfl (by omega) hN d_TT_isBefore_41 ?_
    refine lv_aload_n hx hb d_TT_isBefore_42 rfl (lv_at hl 0 rfl) ?_
    refine xg hx hb hts hown hK hP rfl 4 (by decide) rfl fl_TT_32 rfl d_TT_isBefore_43 ?_
    refine lv_iload_n hx hb d_TT_isBefore_46 rfl (lv_at hl 2 rfl) ?_
    refine tb_iald hx hb hK hP 5 4 rfl rfl (by omega) hN d_TT_isBefore_47 ?_
    refine lv_icmp_ge (tgt := 55) hx hb d_TT_isBefore_48 (by decide) (fun c_48 => ?_) (fun c_48 => ?_)
    · have c_48 : fs j ≤ fs i := (nI_leI (by omega) (by omega)).mp c_48
      refine lv_iconst (v := nI 0) hx hb d_TT_isBefore_55 (by decide) ?_
      exact tb_retz hx hb hr hlk hK () hP hD hS (by first | rfl | decide) (by first | (rw [be_3 c_12 (by omega)]; rfl) | (rw [be_2 c_12 c_48]; rfl)) d_TT_isBefore_56
    · have c_48 : ¬ fs j ≤ fs i := fun q => c_48 ((nI_leI (by omega) (by omega)).mpr q)
      refine lv_iconst (v := nI 1) hx hb d_TT_isBefore_51 (by decide) ?_
      refine lv_goto (tgt := 56) hx hb d_TT_isBefore_52 (by decide) ?_
      exact tb_retz hx hb hr hlk hK () hP hD hS (by first | rfl | decide) (by first | (rw [be_3 c_12 (by omega)]; rfl) | (rw [be_2 c_12 c_48]; rfl)) d_TT_isBefore_56
  · refine lv_aload_n hx hb d_TT_isBefore_15 rfl (lv_at hl 0 rfl) ?_
    refine xg hx hb hts hown hK hP rfl 3 (by decide) rfl fl_TT_29 rfl d_TT_isBefore_16 ?_
    refine lv_iload_n hx hb d_TT_isBefore_19 rfl (lv_at hl 1 rfl) ?_
    refine tb_iald hx hb hK hP 4 3 rfl rfl (by omega) hN d_TT_isBefore_20 ?_
    refine lv_aload_n hx hb d_TT_isBefore_21 rfl (lv_at hl 0 rfl) ?_
    refine xg hx hb hts hown hK hP rfl 3 (by decide) rfl fl_TT_29 rfl d_TT_isBefore_22 ?_
    refine lv_iload_n hx hb d_TT_isBefore_25 rfl (lv_at hl 2 rfl) ?_
    refine tb_iald hx hb hK hP 4 3 rfl rfl (by omega) hN d_TT_isBefore_26 ?_
    refine lv_icmp_ge (tgt := 34) hx hb d_TT_isBefore_27 (by decide) (fun c_27 => ?_) (fun c_27 => ?_)
    · refine lv_iconst (v := nI 0) hx hb d_TT_isBefore_34 (by decide) ?_
      exact tb_retz hx hb hr hlk hK () hP hD hS (by first | rfl | decide) (by first | (rw [be_1 c_12 (Int32.not_le.mp c_27)]; rfl) | (rw [be_0 c_12 c_27]; rfl)) d_TT_isBefore_35
    · refine lv_iconst (v := nI 1) hx hb d_TT_isBefore_30 (by decide) ?_
      refine lv_goto (tgt := 35) hx hb d_TT_isBefore_31 (by decide) ?_
      exact tb_retz hx hb hr hlk hK () hP hD hS (by first | rfl | decide) (by first | (rw [be_1 c_12 (Int32.not_le.mp c_27)]; rfl) | (rw [be_0 c_12 c_27]; rfl)) d_TT_isBefore_35


set_option maxHeartbeats 4000000 in
set_option maxRecDepth 100000 in
/-- canMove -/
theorem c_canMove (l : Launch) (dC : Nat → ClassId) (dI : Nat → Nat → Nat) (P : Nat → Nat) (C : Nat → ClassId) (N sz : Nat) (fb : Nat → Int32) (g : Nat → Nat) (fn ft : Nat → Int32) (fs fl : Nat → Nat) (w wi now : Nat) (on : Bool) (ts tl lf ll : Nat) (i : Nat) (b : Int32) (hN : N < 2 ^ 31) (hi : i < N) : ctI l y_TT_canMove ws_TT_canMove (rmD 0) (dC, dI) classes (tys_T C) (tt P C N fb g fn ft fs fl w wi now on ts tl lf ll) sz [.ref (P 0), .int (nI i), .int b] (fun (r : Int32) (_ : Unit) => r = bI (cm_F ft now b i)) (fun _ => (tt P C N fb g fn ft fs fl w wi now on ts tl lf ll)) 0 0 := by
  refine tb_metI (own := R_TT) (by decide) rfl rfl (Nat.le_of_ble_eq_true rfl) [(0, .ref (P 0)), (1, .int (nI i)), (2, .int b)] rfl ?_
  intro p e s m below meth c A ls hx hb hr hml hts hown hlk hnm hA hK hP hD hS hl
  refine lv_aload_n hx hb d_TT_canMove_0 rfl (lv_at hl 0 rfl) ?_
  refine xg hx hb hts hown hK hP rfl 3 (by decide) rfl fl_TT_29 rfl d_TT_canMove_1 ?_
  refine lv_iload_n hx hb d_TT_canMove_4 rfl (lv_at hl 1 rfl) ?_
  refine tb_iald hx hb hK hP 4 3 rfl rfl (by omega) hN d_TT_canMove_5 ?_
  refine lv_i2l (v := (ft i).toInt64) hx hb d_TT_canMove_6 rfl ?_
  refine lv_iload_n hx hb d_TT_canMove_7 rfl (lv_at hl 2 rfl) ?_
  refine lv_i2l (v := b.toInt64) hx hb d_TT_canMove_8 rfl ?_
  refine lv_ladd hx hb d_TT_canMove_9 ?_
  refine lv_lstore_n (lv' := [(3, .long (((ft i).toInt64) + b.toInt64)), (0, .ref (P 0)), (1, .int (nI i)), (2, .int b)]) hx hb d_TT_canMove_10 rfl hl (by decide) rfl (fun ls hl => ?_)
  refine lv_lload_n hx hb d_TT_canMove_11 rfl (lv_at hl 0 rfl) ?_
  refine lv_aload_n hx hb d_TT_canMove_12 rfl (lv_at hl 1 rfl) ?_
  refine xg hx hb hts hown hK hP rfl 8 (by decide) rfl fl_TT_75 rfl d_TT_canMove_13 ?_
  refine lv_i2l (v := (nI now).toInt64) hx hb d_TT_canMove_16 rfl ?_
  refine W.lcmp hx hb d_TT_canMove_17 ?_
  refine lv_if_le (tgt := 33) hx hb d_TT_canMove_18 (by decide) (fun c_18 => ?_) (fun c_18 => ?_)
  · refine lv_iconst (v := nI 0) hx hb d_TT_canMove_33 (by decide) ?_
    exact tb_retz hx hb hr hlk hK () hP hD hS (by first | rfl | decide) (by first | (rw [cm_0 c_18]; rfl) | (rw [cm_2 c_26]; rfl) | (rw [cm_1 c_18 c_26]; rfl)) d_TT_canMove_34
  · refine lv_lload_n hx hb d_TT_canMove_21 rfl (lv_at hl 0 rfl) ?_
    refine lv_ldc2 (v := 2147483647) hx hb hown (hts _ k_TT_105) d_TT_canMove_22 ?_
    refine W.lcmp hx hb d_TT_canMove_25 ?_
    refine lv_if_gt (tgt := 33) hx hb d_TT_canMove_26 (by decide) (fun c_26 => ?_) (fun c_26 => ?_)
    · refine lv_iconst (v := nI 0) hx hb d_TT_canMove_33 (by decide) ?_
      exact tb_retz hx hb hr hlk hK () hP hD hS (by first | rfl | decide) (by first | (rw [cm_0 c_18]; rfl) | (rw [cm_2 c_26]; rfl) | (rw [cm_1 c_18 c_26]; rfl)) d_TT_canMove_34
    · refine lv_iconst (v := nI 1) hx hb d_TT_canMove_29 (by decide) ?_
      refine lv_goto (tgt := 34) hx hb d_TT_canMove_30 (by decide) ?_
      exact tb_retz hx hb hr hlk hK () hP hD hS (by first | rfl | decide) (by first | (rw [cm_0 c_18]; rfl) | (rw [cm_2 c_26]; rfl) | (rw [cm_1 c_18 c_26]; rfl)) d_TT_canMove_34


set_option maxHeartbeats 4000000 in
set_option maxRecDepth 100000 in
/-- isWaiting -/
theorem c_isWaiting (l : Launch) (dC : Nat → ClassId) (dI : Nat → Nat → Nat) (P : Nat → Nat) (C : Nat → ClassId) (N sz : Nat) (fb : Nat → Int32) (g : Nat → Nat) (fn ft : Nat → Int32) (fs fl : Nat → Nat) (w wi now : Nat) (on : Bool) (ts tl lf ll : Nat) (k : Int32) : ctI l y_TT_isWaiting ws_TT_isWaiting (rmD 0) (dC, dI) classes (tys_T C) (tt P C N fb g fn ft fs fl w wi now on ts tl lf ll) sz [.ref (P 0), .int k] (fun (r : Int32) (_ : Unit) => r = bI (iw_F w k)) (fun _ => (tt P C N fb g fn ft fs fl w wi now on ts tl lf ll)) 0 0 := by
  refine tb_metI (own := R_TT) (by decide) rfl rfl (Nat.le_of_ble_eq_true rfl) [(0, .ref (P 0)), (1, .int k)] rfl ?_
  intro p e s m below meth c A ls hx hb hr hml hts hown hlk hnm hA hK hP hD hS hl
  refine lv_iload_n hx hb d_TT_isWaiting_0 rfl (lv_at hl 1 rfl) ?_
  refine lv_if_lt (tgt := 16) hx hb d_TT_isWaiting_1 (by decide) (fun c_1 => ?_) (fun c_1 => ?_)
  · refine lv_iconst (v := nI 0) hx hb d_TT_isWaiting_16 (by decide) ?_
    exact tb_retz hx hb hr hlk hK () hP hD hS (by first | rfl | decide) (by first | (rw [iw_0 c_1]; rfl) | (rw [iw_2 c_9]; rfl) | (rw [iw_1 c_1 c_9]; rfl)) d_TT_isWaiting_17
  · refine lv_iload_n hx hb d_TT_isWaiting_4 rfl (lv_at hl 1 rfl) ?_
    refine lv_aload_n hx hb d_TT_isWaiting_5 rfl (lv_at hl 0 rfl) ?_
    refine xg hx hb hts hown hK hP rfl 6 (by decide) rfl fl_TT_53 rfl d_TT_isWaiting_6 ?_
    refine lv_icmp_ge (tgt := 16) hx hb d_TT_isWaiting_9 (by decide) (fun c_9 => ?_) (fun c_9 => ?_)
    · refine lv_iconst (v := nI 0) hx hb d_TT_isWaiting_16 (by decide) ?_
      exact tb_retz hx hb hr hlk hK () hP hD hS (by first | rfl | decide) (by first | (rw [iw_0 c_1]; rfl) | (rw [iw_2 c_9]; rfl) | (rw [iw_1 c_1 c_9]; rfl)) d_TT_isWaiting_17
    · refine lv_iconst (v := nI 1) hx hb d_TT_isWaiting_12 (by decide) ?_
      refine lv_goto (tgt := 17) hx hb d_TT_isWaiting_13 (by decide) ?_
      exact tb_retz hx hb hr hlk hK () hP hD hS (by first | rfl | decide) (by first | (rw [iw_0 c_1]; rfl) | (rw [iw_2 c_9]; rfl) | (rw [iw_1 c_1 c_9]; rfl)) d_TT_isWaiting_17


set_option maxHeartbeats 4000000 in
set_option maxRecDepth 100000 in
/-- keepFirst -/
theorem c_keepFirst (l : Launch) (dC : Nat → ClassId) (dI : Nat → Nat → Nat) (P : Nat → Nat) (C : Nat → ClassId) (N sz : Nat) (fb : Nat → Int32) (g : Nat → Nat) (fn ft : Nat → Int32) (fs fl : Nat → Nat) (w wi now : Nat) (on : Bool) (ts tl lf ll : Nat) (q : Nat) (hq : q ≤ w) : ctI l y_TT_keepFirst ws_TT_keepFirst (rmD 0) (dC, dI) classes (tys_T C) (tt P C N fb g fn ft fs fl w wi now on ts tl lf ll) sz [.ref (P 0), .int (nI q)] (fun (r : Int32) (_ : Unit) => r = nI (w - q)) (fun _ => (tt P C N fb g fn ft fs fl q wi now on ts tl lf ll)) 0 0 := by
  refine tb_metI (own := R_TT) (by decide) rfl rfl (Nat.le_of_ble_eq_true rfl) [(0, .ref (P 0)), (1, .int (nI q))] rfl ?_
  intro p e s m below meth c A ls hx hb hr hml hts hown hlk hnm hA hK hP hD hS hl
  refine lv_aload_n hx hb d_TT_keepFirst_0 rfl (lv_at hl 0 rfl) ?_
  refine xg hx hb hts hown hK hP rfl 6 (by decide) rfl fl_TT_53 rfl d_TT_keepFirst_1 ?_
  refine lv_iload_n hx hb d_TT_keepFirst_4 rfl (lv_at hl 1 rfl) ?_
  refine lv_isub hx hb d_TT_keepFirst_5 ?_
  refine tp_i (nI (w - q)) (pk_sub (by omega)) ?_
  refine lv_istore_n (lv' := [(2, .int (nI (w - q))), (0, .ref (P 0)), (1, .int (nI q))]) hx hb d_TT_keepFirst_6 rfl hl (by decide) rfl (fun ls hl => ?_)
  refine lv_aload_n hx hb d_TT_keepFirst_7 rfl (lv_at hl 1 rfl) ?_
  refine lv_iload_n hx hb d_TT_keepFirst_8 rfl (lv_at hl 2 rfl) ?_
  refine xp (ty := .int) hx hb hts hown hK hP hD hS rfl 6 (by decide) rfl fl_TT_53 rfl (by decide +kernel) (rfl) (rfl) (Nat.le_of_ble_eq_true rfl) (tt P C N fb g fn ft fs fl q wi now on ts tl lf ll) rfl d_TT_keepFirst_9 (fun H locs hP hD hS => ?_)
  refine lv_iload_n hx hb d_TT_keepFirst_12 rfl (lv_at hl 0 rfl) ?_
  exact tb_reti hx hb hr hlk hK () hP hD hS rfl d_TT_keepFirst_13


set_option maxHeartbeats 4000000 in
set_option maxRecDepth 100000 in
/-- byteOf -/
theorem c_byteOf (l : Launch) (dC : Nat → ClassId) (dI : Nat → Nat → Nat) (P : Nat → Nat) (C : Nat → ClassId) (N sz : Nat) (fb : Nat → Int32) (g : Nat → Nat) (fn ft : Nat → Int32) (fs fl : Nat → Nat) (w wi now : Nat) (on : Bool) (ts tl lf ll : Nat) (a b : Nat) (j : Int32) (hab : a + b ≤ 512) : ctI l y_TT_byteOf ws_TT_byteOf (rmD 0) (dC, dI) classes (tys_T C) (tt P C N fb g fn ft fs fl w wi now on ts tl lf ll) sz [.ref (P 0), .int (nI a), .int (nI b), .int j] (fun (r : Int32) (_ : Unit) => r = bo_F fb a b j) (fun _ => (tt P C N fb g fn ft fs fl w wi now on ts tl lf ll)) 0 0 := by
  refine tb_metI (own := R_TT) (by decide) rfl rfl (Nat.le_of_ble_eq_true rfl) [(0, .ref (P 0)), (1, .int (nI a)), (2, .int (nI b)), (3, .int j)] rfl ?_
  intro p e s m below meth c A ls hx hb hr hml hts hown hlk hnm hA hK hP hD hS hl
  refine lv_iload_n hx hb d_TT_byteOf_0 rfl (lv_at hl 3 rfl) ?_
  refine lv_if_lt (tgt := 9) hx hb d_TT_byteOf_1 (by decide) (fun c_1 => ?_) (fun c_1 => ?_)
  · refine lv_iconst (v := (-1)) hx hb d_TT_byteOf_9 (by decide) ?_
    exact tb_reti hx hb hr hlk hK () hP hD hS (by first | rw [bo_0 c_1] | rw [bo_1 (Int32.not_lt.mp c_6)]) d_TT_byteOf_10
  · refine lv_iload_n hx hb d_TT_byteOf_4 rfl (lv_at hl 3 rfl) ?_
    refine lv_iload_n hx hb d_TT_byteOf_5 rfl (lv_at hl 2 rfl) ?_
    refine lv_icmp_lt (tgt := 11) hx hb d_TT_byteOf_6 (by decide) (fun c_6 => ?_) (fun c_6 => ?_)
    · have hj := cl_nI c_1
      have hjb : j.toNatClampNeg < b := cl_lt c_1 c_6 (by omega)
      refine lv_aload_n hx hb d_TT_byteOf_11 rfl (lv_at hl 0 rfl) ?_
      refine xg hx hb hts hown hK hP rfl 0 (by decide) rfl fl_TT_18 rfl d_TT_byteOf_12 ?_
      refine lv_iload_n hx hb d_TT_byteOf_15 rfl (lv_at hl 1 rfl) ?_
      refine lv_iload_n hx hb d_TT_byteOf_16 rfl (lv_at hl 3 rfl) ?_
      refine lv_iadd hx hb d_TT_byteOf_17 ?_
      refine tp_i (nI (a + j.toNatClampNeg)) (by rw [← nI_add, ← hj]) ?_
      refine tb_bald hx hb hK hP 1 0 rfl rfl (by omega) (by decide) d_TT_byteOf_18 ?_
      refine lv_sipush (v := nI 255) hx hb d_TT_byteOf_19 (by decide) ?_
      refine lv_iand hx hb d_TT_byteOf_22 ?_
      exact tb_reti hx hb hr hlk hK () hP hD hS (by rw [bo_2 c_1 (Int32.not_le.mpr c_6)]) d_TT_byteOf_23
    · refine lv_iconst (v := (-1)) hx hb d_TT_byteOf_9 (by decide) ?_
      exact tb_reti hx hb hr hlk hK () hP hD hS (by first | rw [bo_0 c_1] | rw [bo_1 (Int32.not_lt.mp c_6)]) d_TT_byteOf_10


set_option maxHeartbeats 4000000 in
set_option maxRecDepth 100000 in
/-- whetherInserted -/
theorem c_whetherInserted (l : Launch) (dC : Nat → ClassId) (dI : Nat → Nat → Nat) (P : Nat → Nat) (C : Nat → ClassId) (N sz : Nat) (fb : Nat → Int32) (g : Nat → Nat) (fn ft : Nat → Int32) (fs fl : Nat → Nat) (w wi now : Nat) (on : Bool) (ts tl lf ll : Nat) (t : Int32) (hN : N < 2 ^ 31) (htl : tl < 2 ^ 31) (hw : w < 2 ^ 31) : ctI l y_TT_whetherInserted ws_TT_whetherInserted (rmD 0) (dC, dI) classes (tys_T C) (tt P C N fb g fn ft fs fl w wi now on ts tl lf ll) sz [.ref (P 0), .int t] (fun (r : Int32) (_ : Unit) => r = nI (wh_F tl now t w N)) (fun _ => (tt P C N fb g fn ft fs fl w wi now on ts tl lf ll)) 0 0 := by
  refine tb_metI (own := R_TT) (by decide) rfl rfl (Nat.le_of_ble_eq_true rfl) [(0, .ref (P 0)), (1, .int t)] rfl ?_
  intro p e s m below meth c A ls hx hb hr hml hts hown hlk hnm hA hK hP hD hS hl
  refine lv_aload_n hx hb d_TT_whetherInserted_0 rfl (lv_at hl 0 rfl) ?_
  refine xg hx hb hts hown hK hP rfl 11 (by decide) rfl fl_TT_42 rfl d_TT_whetherInserted_1 ?_
  refine lv_if_ne (tgt := 9) hx hb d_TT_whetherInserted_4 (by decide) (fun c_4 => ?_) (fun c_4 => ?_)
  · have c_4 : ¬ tl = 0 := fun q => c_4 (show nI (tl) = nI 0 by rw [q])
    refine lv_iload_n hx hb d_TT_whetherInserted_9 rfl (lv_at hl 1 rfl) ?_
    refine lv_aload_n hx hb d_TT_whetherInserted_10 rfl (lv_at hl 0 rfl) ?_
    refine xg hx hb hts hown hK hP rfl 8 (by decide) rfl fl_TT_75 rfl d_TT_whetherInserted_11 ?_
    refine lv_icmp_gt (tgt := 19) hx hb d_TT_whetherInserted_14 (by decide) (fun c_14 => ?_) (fun c_14 => ?_)
    · refine lv_aload_n hx hb d_TT_whetherInserted_19 rfl (lv_at hl 0 rfl) ?_
      refine xg hx hb hts hown hK hP rfl 6 (by decide) rfl fl_TT_53 rfl d_TT_whetherInserted_20 ?_
      refine lv_aload_n hx hb d_TT_whetherInserted_23 rfl (lv_at hl 0 rfl) ?_
      refine xg hx hb hts hown hK hP rfl 1 (by decide) rfl fl_TT_22 rfl d_TT_whetherInserted_24 ?_
      refine va_alen (v := nI N) hx hb hK hP 2 1 rfl rfl rfl d_TT_whetherInserted_27 ?_
      refine lv_icmp_lt (tgt := 33) hx hb d_TT_whetherInserted_28 (by decide) (fun c_28 => ?_) (fun c_28 => ?_)
      · have c_28 : w < N := (nI_ltI (by omega) (by omega)).mp c_28
        refine lv_iconst (v := nI 0) hx hb d_TT_whetherInserted_33 (by decide) ?_
        exact tb_reti hx hb hr hlk hK () hP hD hS (by rw [wh_F, if_neg c_4, if_neg (Int32.not_le.mpr c_14), if_neg (by omega)]) d_TT_whetherInserted_34
      · have c_28 : ¬ w < N := fun q => c_28 ((nI_ltI (by omega) (by omega)).mpr q)
        refine lv_iconst (v := nI 3) hx hb d_TT_whetherInserted_31 (by decide) ?_
        exact tb_reti hx hb hr hlk hK () hP hD hS (by rw [wh_F, if_neg c_4, if_neg (Int32.not_le.mpr c_14), if_pos (by omega)]) d_TT_whetherInserted_32
    · refine lv_iconst (v := nI 2) hx hb d_TT_whetherInserted_17 (by decide) ?_
      exact tb_reti hx hb hr hlk hK () hP hD hS (by rw [wh_F, if_neg c_4, if_pos (Int32.not_lt.mp c_14)]) d_TT_whetherInserted_18
  · have c_4 : tl = 0 := (nI_eq (by omega) (by omega)).mp (show nI (tl) = nI 0 from c_4)
    refine lv_iconst (v := nI 1) hx hb d_TT_whetherInserted_7 (by decide) ?_
    exact tb_reti hx hb hr hlk hK () hP hD hS (by rw [wh_F, if_pos c_4]) d_TT_whetherInserted_8

