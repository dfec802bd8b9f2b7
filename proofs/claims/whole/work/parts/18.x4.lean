set_option maxHeartbeats 4000000 in
set_option maxRecDepth 100000 in
/-- put -/
theorem c_put (l : Launch) (dC : Nat → ClassId) (dI : Nat → Nat → Nat) (P : Nat → Nat) (C : Nat → ClassId) (N sz : Nat) (fb : Nat → Int32) (g : Nat → Nat) (fn ft : Nat → Int32) (fs fl : Nat → Nat) (w wi now : Nat) (on : Bool) (ts tl lf ll : Nat) (b : Int32) (hts2 : ts + tl ≤ 512) (htl : tl ≤ 256) (h : tl < 256 → ts + tl < 512) : ctI l y_TT_put ws_TT_put (rmD 0) (dC, dI) classes (tys_T C) (tt P C N fb g fn ft fs fl w wi now on ts tl lf ll) sz [.ref (P 0), .int b] (fun (r : Int32) (u : (Nat → Int32) × Nat) => (r, u) = pu_R fb ts tl b) (fun u => (tt P C N u.1 g fn ft fs fl w wi now on ts u.2 lf ll)) 0 0 := by
  refine tb_metI (own := R_TT) (by decide) rfl rfl (Nat.le_of_ble_eq_true rfl) [(0, .ref (P 0)), (1, .int b)] rfl ?_
  intro p e s m below meth c A ls hx hb hr hml hts hown hlk hnm hA hK hP hD hS hl
  refine lv_aload_n hx hb d_TT_put_0 rfl (lv_at hl 0 rfl) ?_
  refine xg hx hb hts hown hK hP rfl 10 (by decide) rfl fl_TT_38 rfl d_TT_put_1 ?_
  refine lv_aload_n hx hb d_TT_put_4 rfl (lv_at hl 0 rfl) ?_
  refine xg hx hb hts hown hK hP rfl 11 (by decide) rfl fl_TT_42 rfl d_TT_put_5 ?_
  refine lv_iadd hx hb d_TT_put_8 ?_
  refine tp_i (nI (ts + tl)) (nI_add _ _) ?_
  refine lv_istore_n (lv' := [(2, .int (nI (ts + tl))), (0, .ref (P 0)), (1, .int b)]) hx hb d_TT_put_9 rfl hl (by decide) rfl (fun ls hl => ?_)
  refine lv_aload_n hx hb d_TT_put_10 rfl (lv_at hl 1 rfl) ?_
  refine xg hx hb hts hown hK hP rfl 11 (by decide) rfl fl_TT_42 rfl d_TT_put_11 ?_
  refine lv_sipush (v := nI 256) hx hb d_TT_put_14 (by decide) ?_
  refine lv_icmp_ge (tgt := 29) hx hb d_TT_put_17 (by decide) (fun c_17 => ?_) (fun c_17 => ?_)
  · have c_17 : 256 ≤ tl := (nI_leI (by omega) (by omega)).mp c_17
    have hq : ¬ tl < 256 := fun q => by have := h q; omega
    refine lv_iconst (v := (-1)) hx hb d_TT_put_29 (by decide) ?_
    exact tb_reti hx hb hr hlk hK (fb, tl) hP hD hS (by rw [pu_R, if_neg hq]) d_TT_put_30
  · have c_17 : ¬ 256 ≤ tl := fun q => c_17 ((nI_leI (by omega) (by omega)).mpr q)
    refine lv_iload_n hx hb d_TT_put_20 rfl (lv_at hl 0 rfl) ?_
    refine lv_aload_n hx hb d_TT_put_21 rfl (lv_at hl 1 rfl) ?_
    refine xg hx hb hts hown hK hP rfl 0 (by decide) rfl fl_TT_18 rfl d_TT_put_22 ?_
    refine va_alen (v := nI 512) hx hb hK hP 1 0 rfl rfl rfl d_TT_put_25 ?_
    refine lv_icmp_lt (tgt := 31) hx hb d_TT_put_26 (by decide) (fun c_26 => ?_) (fun c_26 => ?_)
    · have c_26 : ts + tl < 512 := (nI_ltI (by omega) (by omega)).mp c_26
      have hq : tl < 256 := by omega
      refine lv_aload_n hx hb d_TT_put_31 rfl (lv_at hl 1 rfl) ?_
      refine xg hx hb hts hown hK hP rfl 0 (by decide) rfl fl_TT_18 rfl d_TT_put_32 ?_
      refine lv_iload_n hx hb d_TT_put_35 rfl (lv_at hl 0 rfl) ?_
      refine lv_iload_n hx hb d_TT_put_36 rfl (lv_at hl 2 rfl) ?_
      refine lv_i2b (v := b.toInt8.toInt32) hx hb d_TT_put_37 rfl ?_
      refine tb_bast hx hb hK hP hD hS 1 0 rfl rfl (by omega) (by decide) (tt P C N (upd fb (ts + tl) (vp_nar .byte b.toInt8.toInt32)) g fn ft fs fl w wi now on ts tl lf ll) rfl d_TT_put_38 (fun H locs hP hD hS => ?_)
      refine lv_aload_n hx hb d_TT_put_39 rfl (lv_at hl 1 rfl) ?_
      refine lv_dup hx hb d_TT_put_40 rfl ?_
      refine xg hx hb hts hown hK hP rfl 11 (by decide) rfl fl_TT_42 rfl d_TT_put_41 ?_
      refine lv_iconst (v := nI 1) hx hb d_TT_put_44 (by decide) ?_
      refine lv_iadd hx hb d_TT_put_45 ?_
      refine tp_i (nI (tl + 1)) (nI_add _ _) ?_
      refine xp (ty := .int) hx hb hts hown hK hP hD hS rfl 11 (by decide) rfl fl_TT_42 rfl (by decide +kernel) (rfl) (rfl) (Nat.le_of_ble_eq_true rfl) (tt P C N (upd fb (ts + tl) (vp_nar .byte b.toInt8.toInt32)) g fn ft fs fl w wi now on ts (tl + 1) lf ll) rfl d_TT_put_46 (fun H locs hP hD hS => ?_)
      refine lv_aload_n hx hb d_TT_put_49 rfl (lv_at hl 1 rfl) ?_
      refine xg hx hb hts hown hK hP rfl 11 (by decide) rfl fl_TT_42 rfl d_TT_put_50 ?_
      exact tb_reti hx hb hr hlk hK (upd fb (ts + tl) (vp_nar .byte b.toInt8.toInt32), tl + 1) hP hD hS (by rw [pu_R, if_pos hq]) d_TT_put_53
    · have c_26 : ¬ ts + tl < 512 := fun q => c_26 ((nI_ltI (by omega) (by omega)).mpr q)
      have hq : ¬ tl < 256 := fun q => by have := h q; omega
      refine lv_iconst (v := (-1)) hx hb d_TT_put_29 (by decide) ?_
      exact tb_reti hx hb hr hlk hK (fb, tl) hP hD hS (by rw [pu_R, if_neg hq]) d_TT_put_30


set_option maxHeartbeats 4000000 in
set_option maxRecDepth 100000 in
/-- enable -/
theorem c_enable (l : Launch) (dC : Nat → ClassId) (dI : Nat → Nat → Nat) (P : Nat → Nat) (C : Nat → ClassId) (N sz : Nat) (fb : Nat → Int32) (g : Nat → Nat) (fn ft : Nat → Int32) (fs fl : Nat → Nat) (w wi now : Nat) (on : Bool) (ts tl lf ll : Nat) (b : Bool) : ctV l y_TT_enable ws_TT_enable (rmD 0) (dC, dI) classes (tys_T C) (tt P C N fb g fn ft fs fl w wi now on ts tl lf ll) sz [.ref (P 0), .int (bI b)] (fun (_ : Unit) => True) (fun _ => (tt P C N fb g fn ft fs fl w wi now b ts tl lf ll)) 0 0 := by
  refine tb_metV (own := R_TT) (by decide) rfl rfl (Nat.le_of_ble_eq_true rfl) [(0, .ref (P 0)), (1, .int (bI b))] rfl ?_
  intro p e s m below meth c A ls hx hb hr hml hts hown hlk hnm hA hK hP hD hS hl
  refine lv_aload_n hx hb d_TT_enable_0 rfl (lv_at hl 0 rfl) ?_
  refine lv_iload_n hx hb d_TT_enable_1 rfl (lv_at hl 1 rfl) ?_
  refine xp (ty := .boolean) hx hb hts hown hK hP hD hS rfl 9 (by decide) rfl fl_TT_71 rfl (by decide +kernel) (bI_n _) (bI_f _) (Nat.le_of_ble_eq_true rfl) (tt P C N fb g fn ft fs fl w wi now b ts tl lf ll) rfl d_TT_enable_2 (fun H locs hP hD hS => ?_)
  exact tb_retv hx hb hr hlk hK () hP hD hS trivial d_TT_enable_5


set_option maxHeartbeats 4000000 in
set_option maxRecDepth 100000 in
/-- isOn -/
theorem c_isOn (l : Launch) (dC : Nat → ClassId) (dI : Nat → Nat → Nat) (P : Nat → Nat) (C : Nat → ClassId) (N sz : Nat) (fb : Nat → Int32) (g : Nat → Nat) (fn ft : Nat → Int32) (fs fl : Nat → Nat) (w wi now : Nat) (on : Bool) (ts tl lf ll : Nat)  : ctI l y_TT_isOn ws_TT_isOn (rmD 0) (dC, dI) classes (tys_T C) (tt P C N fb g fn ft fs fl w wi now on ts tl lf ll) sz [.ref (P 0)] (fun (r : Int32) (_ : Unit) => r = bI on) (fun _ => (tt P C N fb g fn ft fs fl w wi now on ts tl lf ll)) 0 0 := by
  refine tb_metI (own := R_TT) (by decide) rfl rfl (Nat.le_of_ble_eq_true rfl) [(0, .ref (P 0))] rfl ?_
  intro p e s m below meth c A ls hx hb hr hml hts hown hlk hnm hA hK hP hD hS hl
  refine lv_aload_n hx hb d_TT_isOn_0 rfl (lv_at hl 0 rfl) ?_
  refine xg hx hb hts hown hK hP rfl 9 (by decide) rfl fl_TT_71 rfl d_TT_isOn_1 ?_
  exact tb_retz hx hb hr hlk hK () hP hD hS (bI_n _) rfl d_TT_isOn_4


set_option maxHeartbeats 4000000 in
set_option maxRecDepth 100000 in
/-- reset -/
theorem c_reset (l : Launch) (dC : Nat → ClassId) (dI : Nat → Nat → Nat) (P : Nat → Nat) (C : Nat → ClassId) (N sz : Nat) (fb : Nat → Int32) (g : Nat → Nat) (fn ft : Nat → Int32) (fs fl : Nat → Nat) (w wi now : Nat) (on : Bool) (ts tl lf ll : Nat)  : ctV l y_TT_reset ws_TT_reset (rmD 0) (dC, dI) classes (tys_T C) (tt P C N fb g fn ft fs fl w wi now on ts tl lf ll) sz [.ref (P 0)] (fun (_ : Unit) => True) (fun _ => (tt P C N fb g fn ft fs fl 0 wi now false ts tl lf ll)) 0 0 := by
  refine tb_metV (own := R_TT) (by decide) rfl rfl (Nat.le_of_ble_eq_true rfl) [(0, .ref (P 0))] rfl ?_
  intro p e s m below meth c A ls hx hb hr hml hts hown hlk hnm hA hK hP hD hS hl
  refine lv_aload_n hx hb d_TT_reset_0 rfl (lv_at hl 0 rfl) ?_
  refine lv_iconst (v := nI 0) hx hb d_TT_reset_1 (by decide) ?_
  refine xp (ty := .int) hx hb hts hown hK hP hD hS rfl 6 (by decide) rfl fl_TT_53 rfl (by decide +kernel) (rfl) (rfl) (Nat.le_of_ble_eq_true rfl) (tt P C N fb g fn ft fs fl 0 wi now on ts tl lf ll) rfl d_TT_reset_2 (fun H locs hP hD hS => ?_)
  refine lv_aload_n hx hb d_TT_reset_5 rfl (lv_at hl 0 rfl) ?_
  refine lv_iconst (v := nI 0) hx hb d_TT_reset_6 (by decide) ?_
  refine tp_i (bI false) rfl ?_
  refine xp (ty := .boolean) hx hb hts hown hK hP hD hS rfl 9 (by decide) rfl fl_TT_71 rfl (by decide +kernel) (bI_n _) (bI_f _) (Nat.le_of_ble_eq_true rfl) (tt P C N fb g fn ft fs fl 0 wi now false ts tl lf ll) rfl d_TT_reset_7 (fun H locs hP hD hS => ?_)
  exact tb_retv hx hb hr hlk hK () hP hD hS trivial d_TT_reset_10


set_option maxHeartbeats 4000000 in
set_option maxRecDepth 100000 in
/-- tick -/
theorem c_tick (l : Launch) (dC : Nat → ClassId) (dI : Nat → Nat → Nat) (P : Nat → Nat) (C : Nat → ClassId) (N sz : Nat) (fb : Nat → Int32) (g : Nat → Nat) (fn ft : Nat → Int32) (fs fl : Nat → Nat) (w wi now : Nat) (on : Bool) (ts tl lf ll : Nat) (hnow : now < 2147483647) : ctI l y_TT_tick ws_TT_tick (rmD 0) (dC, dI) classes (tys_T C) (tt P C N fb g fn ft fs fl w wi now on ts tl lf ll) sz [.ref (P 0)] (fun (r : Int32) (_ : Unit) => r = nI (now + 1)) (fun _ => (tt P C N fb g fn ft fs fl w wi (now + 1) on ts tl lf ll)) 0 0 := by
  refine tb_metI (own := R_TT) (by decide) rfl rfl (Nat.le_of_ble_eq_true rfl) [(0, .ref (P 0))] rfl ?_
  intro p e s m below meth c A ls hx hb hr hml hts hown hlk hnm hA hK hP hD hS hl
  refine lv_aload_n hx hb d_TT_tick_0 rfl (lv_at hl 0 rfl) ?_
  refine xg hx hb hts hown hK hP rfl 8 (by decide) rfl fl_TT_75 rfl d_TT_tick_1 ?_
  refine lv_ldc (v := nI 2147483647) hx hb hown (hts _ k_TT_66) d_TT_tick_4 ?_
  refine lv_icmp_ne (tgt := 11) hx hb d_TT_tick_6 (by decide) (fun c_6 => ?_) (fun c_6 => ?_)
  · have c_6 : ¬ now = 2147483647 := fun q => c_6 ((nI_eq (by omega) (by omega)).mpr q)
    refine lv_aload_n hx hb d_TT_tick_11 rfl (lv_at hl 0 rfl) ?_
    refine lv_dup hx hb d_TT_tick_12 rfl ?_
    refine xg hx hb hts hown hK hP rfl 8 (by decide) rfl fl_TT_75 rfl d_TT_tick_13 ?_
    refine lv_iconst (v := nI 1) hx hb d_TT_tick_16 (by decide) ?_
    refine lv_iadd hx hb d_TT_tick_17 ?_
    refine tp_i (nI (now + 1)) (nI_add _ _) ?_
    refine xp (ty := .int) hx hb hts hown hK hP hD hS rfl 8 (by decide) rfl fl_TT_75 rfl (by decide +kernel) (rfl) (rfl) (Nat.le_of_ble_eq_true rfl) (tt P C N fb g fn ft fs fl w wi (now + 1) on ts tl lf ll) rfl d_TT_tick_18 (fun H locs hP hD hS => ?_)
    refine lv_aload_n hx hb d_TT_tick_21 rfl (lv_at hl 0 rfl) ?_
    refine xg hx hb hts hown hK hP rfl 8 (by decide) rfl fl_TT_75 rfl d_TT_tick_22 ?_
    exact tb_reti hx hb hr hlk hK () hP hD hS rfl d_TT_tick_25
  · exact absurd ((nI_eq (by omega) (by omega)).mp c_6) (by omega)


set_option maxHeartbeats 4000000 in
set_option maxRecDepth 100000 in
/-- count -/
theorem c_count (l : Launch) (dC : Nat → ClassId) (dI : Nat → Nat → Nat) (P : Nat → Nat) (C : Nat → ClassId) (N sz : Nat) (fb : Nat → Int32) (g : Nat → Nat) (fn ft : Nat → Int32) (fs fl : Nat → Nat) (w wi now : Nat) (on : Bool) (ts tl lf ll : Nat) (k : Int32) : ctI l y_TT_count ws_TT_count (rmD 0) (dC, dI) classes (tys_T C) (tt P C N fb g fn ft fs fl w wi now on ts tl lf ll) sz [.ref (P 0), .int k] (fun (r : Int32) (_ : Unit) => r = co_F now w wi ll k) (fun _ => (tt P C N fb g fn ft fs fl w wi now on ts tl lf ll)) 0 0 := by
  refine tb_metI (own := R_TT) (by decide) rfl rfl (Nat.le_of_ble_eq_true rfl) [(0, .ref (P 0)), (1, .int k)] rfl ?_
  intro p e s m below meth c A ls hx hb hr hml hts hown hlk hnm hA hK hP hD hS hl
  refine lv_iload_n hx hb d_TT_count_0 rfl (lv_at hl 1 rfl) ?_
  by_cases e0 : k = 0
  · subst e0
    refine lv_tableIn (tgt := 32) hx hb d_TT_count_1 (by decide) (by decide) rfl (by decide) ?_
    refine lv_aload_n hx hb d_TT_count_32 rfl (lv_at hl 0 rfl) ?_
    refine xg hx hb hts hown hK hP rfl 8 (by decide) rfl fl_TT_75 rfl d_TT_count_33 ?_
    exact tb_reti hx hb hr hlk hK () hP hD hS (by rw [co_F, if_pos rfl]) d_TT_count_36
  by_cases e1 : k = 1
  · subst e1
    refine lv_tableIn (tgt := 37) hx hb d_TT_count_1 (by decide) (by decide) rfl (by decide) ?_
    refine lv_aload_n hx hb d_TT_count_37 rfl (lv_at hl 0 rfl) ?_
    refine xg hx hb hts hown hK hP rfl 6 (by decide) rfl fl_TT_53 rfl d_TT_count_38 ?_
    exact tb_reti hx hb hr hlk hK () hP hD hS (by rw [co_F, if_neg (by decide), if_pos rfl]) d_TT_count_41
  by_cases e2 : k = 2
  · subst e2
    refine lv_tableIn (tgt := 42) hx hb d_TT_count_1 (by decide) (by decide) rfl (by decide) ?_
    refine lv_aload_n hx hb d_TT_count_42 rfl (lv_at hl 0 rfl) ?_
    refine xg hx hb hts hown hK hP rfl 7 (by decide) rfl fl_TT_90 rfl d_TT_count_43 ?_
    exact tb_reti hx hb hr hlk hK () hP hD hS (by rw [co_F, if_neg (by decide), if_neg (by decide), if_pos rfl]) d_TT_count_46
  by_cases e3 : k = 3
  · subst e3
    refine lv_tableIn (tgt := 47) hx hb d_TT_count_1 (by decide) (by decide) rfl (by decide) ?_
    refine lv_aload_n hx hb d_TT_count_47 rfl (lv_at hl 0 rfl) ?_
    refine xg hx hb hts hown hK hP rfl 13 (by decide) rfl fl_TT_81 rfl d_TT_count_48 ?_
    exact tb_reti hx hb hr hlk hK () hP hD hS (by rw [co_F, if_neg (by decide), if_neg (by decide), if_neg (by decide), if_pos rfl]) d_TT_count_51
  refine lv_tableOut (tgt := 52) hx hb d_TT_count_1 (by have q0 := lv_neT e0 (a := 0) rfl; have q1 := lv_neT e1 (a := 1) rfl; have q2 := lv_neT e2 (a := 2) rfl; have q3 := lv_neT e3 (a := 3) rfl; omega) (by decide) ?_
  refine lv_iconst (v := (-1)) hx hb d_TT_count_52 (by decide) ?_
  exact tb_reti hx hb hr hlk hK () hP hD hS (by rw [co_F, if_neg e0, if_neg e1, if_neg e2, if_neg e3]) d_TT_count_53


set_option maxHeartbeats 4000000 in
set_option maxRecDepth 100000 in
/-- left -/
theorem c_left (l : Launch) (dC : Nat → ClassId) (dI : Nat → Nat → Nat) (P : Nat → Nat) (C : Nat → ClassId) (N sz : Nat) (fb : Nat → Int32) (g : Nat → Nat) (fn ft : Nat → Int32) (fs fl : Nat → Nat) (w wi now : Nat) (on : Bool) (ts tl lf ll : Nat) (j : Int32) (hl2 : lf + ll ≤ 512) : ctI l y_TT_left ws_TT_left (rmD 1) (dC, dI) classes (tys_T C) (tt P C N fb g fn ft fs fl w wi now on ts tl lf ll) sz [.ref (P 0), .int j] (fun (r : Int32) (_ : Unit) => r = bo_F fb lf ll j) (fun _ => (tt P C N fb g fn ft fs fl w wi now on ts tl lf ll)) 0 0 := by
  refine tb_metI (own := R_TT) (by decide) rfl rfl (Nat.le_of_ble_eq_true rfl) [(0, .ref (P 0)), (1, .int j)] rfl ?_
  intro p e s m below meth c A ls hx hb hr hml hts hown hlk hnm hA hK hP hD hS hl
  refine lv_aload_n hx hb d_TT_left_0 rfl (lv_at hl 0 rfl) ?_
  refine lv_aload_n hx hb d_TT_left_1 rfl (lv_at hl 0 rfl) ?_
  refine xg hx hb hts hown hK hP rfl 12 (by decide) rfl fl_TT_78 rfl d_TT_left_2 ?_
  refine lv_aload_n hx hb d_TT_left_5 rfl (lv_at hl 0 rfl) ?_
  refine xg hx hb hts hown hK hP rfl 13 (by decide) rfl fl_TT_81 rfl d_TT_left_6 ?_
  refine lv_iload_n hx hb d_TT_left_9 rfl (lv_at hl 1 rfl) ?_
  refine tb_calli (c_byteOf l dC dI P C N s.heap.size fb g fn ft fs fl w wi now on ts tl lf ll lf ll j hl2) ⟨hx, hb, hml, hown, hts⟩ (cwV 3 hts g_TT_87 rfl rfl rfl (by decide +kernel) ⟨Nat.le_of_ble_eq_true rfl, Nat.le_of_ble_eq_true rfl⟩) hK hP hD hS hA 0 rfl 0 rfl rfl hl.1 rfl (Nat.le_of_ble_eq_true rfl) d_TT_left_10 ⟨Nat.le_refl _, Nat.le_refl _⟩ (fun r u H locs hwc hP hD hS => ?_)
  subst hwc
  exact tb_reti hx hb hr hlk hK () hP hD hS rfl d_TT_left_13


set_option maxHeartbeats 4000000 in
set_option maxRecDepth 100000 in
/-- shift -/
theorem c_shift (l : Launch) (dC : Nat → ClassId) (dI : Nat → Nat → Nat) (P : Nat → Nat) (C : Nat → ClassId) (N sz : Nat) (fb : Nat → Int32) (g : Nat → Nat) (fn ft : Nat → Int32) (fs fl : Nat → Nat) (w wi now : Nat) (on : Bool) (ts tl lf ll : Nat) (b : Int32) (hN : N < 2 ^ 31) (hw : w ≤ N) (hg : wfP N g) (hf : ∀ j, j < N → fs j ≤ 512) : ctI l y_TT_shift ws_TT_shift (rmD 3) (dC, dI) classes (tys_T C) (tt P C N fb g fn ft fs fl w wi now on ts tl lf ll) sz [.ref (P 0), .int b] (fun (r : Int32) (_ : Unit) => r = mv_A (mv_c (in_S ft (nI 0) (nI 2147483647)) (cm_F ft now b) w 0 g 0)) (fun _ => (tt P C N fb (mv_F (mv_c (in_S ft (nI 0) (nI 2147483647)) (cm_F ft now b) w 0 g 0) g (mv_s (be_F (mv_t (nI 0) (nI 2147483647) b w 0 g ft) fs) (w - 1) 1 g)) fn (mv_F (mv_c (in_S ft (nI 0) (nI 2147483647)) (cm_F ft now b) w 0 g 0) ft (mv_t (nI 0) (nI 2147483647) b w 0 g ft)) fs fl w wi now on ts tl lf ll)) 0 0 := by
  refine tb_metI (own := R_TT) (by decide) rfl rfl (Nat.le_of_ble_eq_true rfl) [(0, .ref (P 0)), (1, .int b)] rfl ?_
  intro p e s m below meth c A ls hx hb hr hml hts hown hlk hnm hA hK hP hD hS hl
  refine lv_aload_n hx hb d_TT_shift_0 rfl (lv_at hl 0 rfl) ?_
  refine lv_iconst (v := nI 0) hx hb d_TT_shift_1 (by decide) ?_
  refine lv_ldc (v := nI 2147483647) hx hb hown (hts _ k_TT_66) d_TT_shift_2 ?_
  refine lv_iload_n hx hb d_TT_shift_4 rfl (lv_at hl 1 rfl) ?_
  refine tb_calli (c_moveTimes l dC dI P C N s.heap.size fb g fn ft fs fl w wi now on ts tl lf ll (nI 0) (nI 2147483647) b hN hw hg hf) ⟨hx, hb, hml, hown, hts⟩ (cwV 3 hts g_TT_67 rfl rfl rfl (by decide +kernel) ⟨Nat.le_of_ble_eq_true rfl, Nat.le_of_ble_eq_true rfl⟩) hK hP hD hS hA 0 rfl 0 rfl rfl hl.1 rfl (Nat.le_of_ble_eq_true rfl) d_TT_shift_5 ⟨Nat.le_refl _, Nat.le_refl _⟩ (fun r u H locs hwc hP hD hS => ?_)
  subst hwc
  exact tb_reti hx hb hr hlk hK () hP hD hS rfl d_TT_shift_8


set_option maxHeartbeats 4000000 in
set_option maxRecDepth 100000 in
/-- shiftSpan -/
theorem c_shiftSpan (l : Launch) (dC : Nat → ClassId) (dI : Nat → Nat → Nat) (P : Nat → Nat) (C : Nat → ClassId) (N sz : Nat) (fb : Nat → Int32) (g : Nat → Nat) (fn ft : Nat → Int32) (fs fl : Nat → Nat) (w wi now : Nat) (on : Bool) (ts tl lf ll : Nat) (f t b : Int32) (hN : N < 2 ^ 31) (hw : w ≤ N) (hg : wfP N g) (hf : ∀ j, j < N → fs j ≤ 512) : ctI l y_TT_shiftSpan ws_TT_shiftSpan (rmD 3) (dC, dI) classes (tys_T C) (tt P C N fb g fn ft fs fl w wi now on ts tl lf ll) sz [.ref (P 0), .int f, .int t, .int b] (fun (r : Int32) (_ : Unit) => r = mv_A (mv_c (in_S ft f t) (cm_F ft now b) w 0 g 0)) (fun _ => (tt P C N fb (mv_F (mv_c (in_S ft f t) (cm_F ft now b) w 0 g 0) g (mv_s (be_F (mv_t f t b w 0 g ft) fs) (w - 1) 1 g)) fn (mv_F (mv_c (in_S ft f t) (cm_F ft now b) w 0 g 0) ft (mv_t f t b w 0 g ft)) fs fl w wi now on ts tl lf ll)) 0 0 := by
  refine tb_metI (own := R_TT) (by decide) rfl rfl (Nat.le_of_ble_eq_true rfl) [(0, .ref (P 0)), (1, .int f), (2, .int t), (3, .int b)] rfl ?_
  intro p e s m below meth c A ls hx hb hr hml hts hown hlk hnm hA hK hP hD hS hl
  refine lv_aload_n hx hb d_TT_shiftSpan_0 rfl (lv_at hl 0 rfl) ?_
  refine lv_iload_n hx hb d_TT_shiftSpan_1 rfl (lv_at hl 1 rfl) ?_
  refine lv_iload_n hx hb d_TT_shiftSpan_2 rfl (lv_at hl 2 rfl) ?_
  refine lv_iload_n hx hb d_TT_shiftSpan_3 rfl (lv_at hl 3 rfl) ?_
  refine tb_calli (c_moveTimes l dC dI P C N s.heap.size fb g fn ft fs fl w wi now on ts tl lf ll f t b hN hw hg hf) ⟨hx, hb, hml, hown, hts⟩ (cwV 3 hts g_TT_67 rfl rfl rfl (by decide +kernel) ⟨Nat.le_of_ble_eq_true rfl, Nat.le_of_ble_eq_true rfl⟩) hK hP hD hS hA 0 rfl 0 rfl rfl hl.1 rfl (Nat.le_of_ble_eq_true rfl) d_TT_shiftSpan_4 ⟨Nat.le_refl _, Nat.le_refl _⟩ (fun r u H locs hwc hP hD hS => ?_)
  subst hwc
  exact tb_reti hx hb hr hlk hK () hP hD hS rfl d_TT_shiftSpan_7


set_option maxHeartbeats 4000000 in
set_option maxRecDepth 100000 in
/-- leave -/
theorem c_leave (l : Launch) (dC : Nat → ClassId) (dI : Nat → Nat → Nat) (P : Nat → Nat) (C : Nat → ClassId) (N sz : Nat) (fb : Nat → Int32) (g : Nat → Nat) (fn ft : Nat → Int32) (fs fl : Nat → Nat) (w wi now : Nat) (on : Bool) (ts tl lf ll : Nat) (hN : N < 2 ^ 31) (hw : w ≤ N) (hg : wfP N g) : ctI l y_TT_leave ws_TT_leave (rmD 2) (dC, dI) classes (tys_T C) (tt P C N fb g fn ft fs fl w wi now on ts tl lf ll) sz [.ref (P 0)] (fun (r : Int32) (u : (Nat → Nat) × Nat × Nat × Nat) => (r, u) = lv_R ft fs fl now w g lf ll) (fun u => (tt P C N fb u.1 fn ft fs fl u.2.1 wi now on ts tl u.2.2.1 u.2.2.2)) 0 0 := by
  refine tb_metI (own := R_TT) (by decide) rfl rfl (Nat.le_of_ble_eq_true rfl) [(0, .ref (P 0))] rfl ?_
  intro p e s m below meth c A ls hx hb hr hml hts hown hlk hnm hA hK hP hD hS hl
  refine lv_aload_n hx hb d_TT_leave_0 rfl (lv_at hl 0 rfl) ?_
  refine xg hx hb hts hown hK hP rfl 6 (by decide) rfl fl_TT_53 rfl d_TT_leave_1 ?_
  refine lv_if_eq (tgt := 25) hx hb d_TT_leave_4 (by decide) (fun c_4 => ?_) (fun c_4 => ?_)
  · have c_4 : w = 0 := (nI_eq (by omega) (by omega)).mp (show nI w = nI 0 from c_4)
    have hq : ¬ lv_F ft now w g = true := by simp [lv_F, c_4]
    refine lv_iconst (v := (-1)) hx hb d_TT_leave_25 (by decide) ?_
    exact tb_reti hx hb hr hlk hK (g, w, lf, ll) hP hD hS (by rw [lv_R, if_neg hq]) d_TT_leave_26
  · have c_4 : ¬ w = 0 := fun q => c_4 (show nI w = nI 0 by rw [q])
    refine lv_aload_n hx hb d_TT_leave_7 rfl (lv_at hl 0 rfl) ?_
    refine xg hx hb hts hown hK hP rfl 3 (by decide) rfl fl_TT_29 rfl d_TT_leave_8 ?_
    refine lv_aload_n hx hb d_TT_leave_11 rfl (lv_at hl 0 rfl) ?_
    refine xg hx hb hts hown hK hP rfl 1 (by decide) rfl fl_TT_22 rfl d_TT_leave_12 ?_
    refine lv_iconst (v := nI 0) hx hb d_TT_leave_15 (by decide) ?_
    refine tb_iald hx hb hK hP 2 1 rfl rfl (by omega) hN d_TT_leave_16 ?_
    refine tb_iald hx hb hK hP 4 3 rfl rfl (hg.1 _ (by omega)) hN d_TT_leave_17 ?_
    refine lv_aload_n hx hb d_TT_leave_18 rfl (lv_at hl 0 rfl) ?_
    refine xg hx hb hts hown hK hP rfl 8 (by decide) rfl fl_TT_75 rfl d_TT_leave_19 ?_
    refine lv_icmp_le (tgt := 27) hx hb d_TT_leave_22 (by decide) (fun c_22 => ?_) (fun c_22 => ?_)
    · have hq : lv_F ft now w g = true := by simp [lv_F, c_4, c_22]
      refine lv_aload_n hx hb d_TT_leave_27 rfl (lv_at hl 0 rfl) ?_
      refine lv_aload_n hx hb d_TT_leave_28 rfl (lv_at hl 0 rfl) ?_
      refine xg hx hb hts hown hK hP rfl 4 (by decide) rfl fl_TT_32 rfl d_TT_leave_29 ?_
      refine lv_aload_n hx hb d_TT_leave_32 rfl (lv_at hl 0 rfl) ?_
      refine xg hx hb hts hown hK hP rfl 1 (by decide) rfl fl_TT_22 rfl d_TT_leave_33 ?_
      refine lv_iconst (v := nI 0) hx hb d_TT_leave_36 (by decide) ?_
      refine tb_iald hx hb hK hP 2 1 rfl rfl (by omega) hN d_TT_leave_37 ?_
      refine tb_iald hx hb hK hP 5 4 rfl rfl (hg.1 _ (by omega)) hN d_TT_leave_38 ?_
      refine xp (ty := .int) hx hb hts hown hK hP hD hS rfl 12 (by decide) rfl fl_TT_78 rfl (by decide +kernel) (rfl) (rfl) (Nat.le_of_ble_eq_true rfl) (tt P C N fb g fn ft fs fl w wi now on ts tl (fs (g 0)) ll) rfl d_TT_leave_39 (fun H locs hP hD hS => ?_)
      refine lv_aload_n hx hb d_TT_leave_42 rfl (lv_at hl 0 rfl) ?_
      refine lv_aload_n hx hb d_TT_leave_43 rfl (lv_at hl 0 rfl) ?_
      refine xg hx hb hts hown hK hP rfl 5 (by decide) rfl fl_TT_35 rfl d_TT_leave_44 ?_
      refine lv_aload_n hx hb d_TT_leave_47 rfl (lv_at hl 0 rfl) ?_
      refine xg hx hb hts hown hK hP rfl 1 (by decide) rfl fl_TT_22 rfl d_TT_leave_48 ?_
      refine lv_iconst (v := nI 0) hx hb d_TT_leave_51 (by decide) ?_
      refine tb_iald hx hb hK hP 2 1 rfl rfl (by omega) hN d_TT_leave_52 ?_
      refine tb_iald hx hb hK hP 6 5 rfl rfl (hg.1 _ (by omega)) hN d_TT_leave_53 ?_
      refine xp (ty := .int) hx hb hts hown hK hP hD hS rfl 13 (by decide) rfl fl_TT_81 rfl (by decide +kernel) (rfl) (rfl) (Nat.le_of_ble_eq_true rfl) (tt P C N fb g fn ft fs fl w wi now on ts tl (fs (g 0)) (fl (g 0))) rfl d_TT_leave_54 (fun H locs hP hD hS => ?_)
      refine lv_aload_n hx hb d_TT_leave_57 rfl (lv_at hl 0 rfl) ?_
      refine tb_callv (c_dropFirst l dC dI P C N H.size fb g fn ft fs fl w wi now on ts tl (fs (g 0)) (fl (g 0)) hN (by omega) (by omega) hg) ⟨hx, hb, hml, hown, hts⟩ (cwV 0 hts g_TT_84 rfl rfl rfl (by decide +kernel) ⟨Nat.le_of_ble_eq_true rfl, Nat.le_of_ble_eq_true rfl⟩) hK hP hD hS hA 0 rfl 0 rfl rfl hl.1 rfl (Nat.le_of_ble_eq_true rfl) d_TT_leave_58 ⟨Nat.le_refl _, Nat.le_refl _⟩ (fun u H locs hwc hP hD hS => ?_)
      refine lv_aload_n hx hb d_TT_leave_61 rfl (lv_at hl 0 rfl) ?_
      refine xg hx hb hts hown hK hP rfl 13 (by decide) rfl fl_TT_81 rfl d_TT_leave_62 ?_
      exact tb_reti hx hb hr hlk hK (dr_l (w - 1) 1 g, w - 1, fs (g 0), fl (g 0)) hP hD hS (by rw [lv_R, if_pos hq]) d_TT_leave_65
    · have hq : ¬ lv_F ft now w g = true := by simp [lv_F, c_22]
      refine lv_iconst (v := (-1)) hx hb d_TT_leave_25 (by decide) ?_
      exact tb_reti hx hb hr hlk hK (g, w, lf, ll) hP hD hS (by rw [lv_R, if_neg hq]) d_TT_leave_26


set_option maxHeartbeats 4000000 in
set_option maxRecDepth 100000 in
/-- about -/
theorem c_about (l : Launch) (dC : Nat → ClassId) (dI : Nat → Nat → Nat) (P : Nat → Nat) (C : Nat → ClassId) (N sz : Nat) (fb : Nat → Int32) (g : Nat → Nat) (fn ft : Nat → Int32) (fs fl : Nat → Nat) (w wi now : Nat) (on : Bool) (ts tl lf ll : Nat) (k j : Int32) (hN : N < 2 ^ 31) (hw : w ≤ N) (hg : wfP N g) : ctI l y_TT_about ws_TT_about (rmD 1) (dC, dI) classes (tys_T C) (tt P C N fb g fn ft fs fl w wi now on ts tl lf ll) sz [.ref (P 0), .int k, .int j] (fun (r : Int32) (_ : Unit) => r = ab_F fn ft fl w g k j) (fun _ => (tt P C N fb g fn ft fs fl w wi now on ts tl lf ll)) 0 0 := by
  refine tb_metI (own := R_TT) (by decide) rfl rfl (Nat.le_of_ble_eq_true rfl) [(0, .ref (P 0)), (1, .int k), (2, .int j)] rfl ?_
  intro p e s m below meth c A ls hx hb hr hml hts hown hlk hnm hA hK hP hD hS hl
  refine lv_aload_n hx hb d_TT_about_0 rfl (lv_at hl 0 rfl) ?_
  refine lv_iload_n hx hb d_TT_about_1 rfl (lv_at hl 1 rfl) ?_
  refine tb_calli (c_isWaiting l dC dI P C N s.heap.size fb g fn ft fs fl w wi now on ts tl lf ll k) ⟨hx, hb, hml, hown, hts⟩ (cwV 1 hts g_TT_93 rfl rfl rfl (by decide +kernel) ⟨Nat.le_of_ble_eq_true rfl, Nat.le_of_ble_eq_true rfl⟩) hK hP hD hS hA 0 rfl 0 rfl rfl hl.1 rfl (Nat.le_of_ble_eq_true rfl) d_TT_about_2 ⟨Nat.le_refl _, Nat.le_refl _⟩ (fun r u H locs hwc hP hD hS => ?_)
  subst hwc
  refine lv_if_ne (tgt := 10) hx hb d_TT_about_5 (by decide) (fun c_5 => ?_) (fun c_5 => ?_)
  · have c_5 := bI_1 c_5
    have hkn := cl_nI (iw_ge c_5)
    have hkw : k.toNatClampNeg < w := iw_lt c_5 (by omega)
    refine lv_iload_n hx hb d_TT_about_10 rfl (lv_at hl 2 rfl) ?_
    by_cases e0 : j = 0
    · subst e0
      refine lv_tableIn (tgt := 36) hx hb d_TT_about_11 (by decide) (by decide) rfl (by decide) ?_
      refine lv_aload_n hx hb d_TT_about_36 rfl (lv_at hl 0 rfl) ?_
      refine xg hx hb hts hown hK hP rfl 2 (by decide) rfl fl_TT_26 rfl d_TT_about_37 ?_
      refine lv_aload_n hx hb d_TT_about_40 rfl (lv_at hl 0 rfl) ?_
      refine xg hx hb hts hown hK hP rfl 1 (by decide) rfl fl_TT_22 rfl d_TT_about_41 ?_
      refine lv_iload_n hx hb d_TT_about_44 rfl (lv_at hl 1 rfl) ?_
      refine tp_i (nI k.toNatClampNeg) (hkn) ?_
      refine tb_iald hx hb hK hP 2 1 rfl rfl (by omega) hN d_TT_about_45 ?_
      refine tb_iald hx hb hK hP 3 2 rfl rfl (hg.1 _ (by omega)) hN d_TT_about_46 ?_
      exact tb_reti hx hb hr hlk hK () hP hD hS (by rw [ab_F, if_pos c_5, if_pos rfl]) d_TT_about_47
    by_cases e1 : j = 1
    · subst e1
      refine lv_tableIn (tgt := 48) hx hb d_TT_about_11 (by decide) (by decide) rfl (by decide) ?_
      refine lv_aload_n hx hb d_TT_about_48 rfl (lv_at hl 0 rfl) ?_
      refine xg hx hb hts hown hK hP rfl 3 (by decide) rfl fl_TT_29 rfl d_TT_about_49 ?_
      refine lv_aload_n hx hb d_TT_about_52 rfl (lv_at hl 0 rfl) ?_
      refine xg hx hb hts hown hK hP rfl 1 (by decide) rfl fl_TT_22 rfl d_TT_about_53 ?_
      refine lv_iload_n hx hb d_TT_about_56 rfl (lv_at hl 1 rfl) ?_
      refine tp_i (nI k.toNatClampNeg) (hkn) ?_
      refine tb_iald hx hb hK hP 2 1 rfl rfl (by omega) hN d_TT_about_57 ?_
      refine tb_iald hx hb hK hP 4 3 rfl rfl (hg.1 _ (by omega)) hN d_TT_about_58 ?_
      exact tb_reti hx hb hr hlk hK () hP hD hS (by rw [ab_F, if_pos c_5, if_neg (by decide), if_pos rfl]) d_TT_about_59
    by_cases e2 : j = 2
    · subst e2
      refine lv_tableIn (tgt := 60) hx hb d_TT_about_11 (by decide) (by decide) rfl (by decide) ?_
      refine lv_aload_n hx hb d_TT_about_60 rfl (lv_at hl 0 rfl) ?_
      refine xg hx hb hts hown hK hP rfl 5 (by decide) rfl fl_TT_35 rfl d_TT_about_61 ?_
      refine lv_aload_n hx hb d_TT_about_64 rfl (lv_at hl 0 rfl) ?_
      refine xg hx hb hts hown hK hP rfl 1 (by decide) rfl fl_TT_22 rfl d_TT_about_65 ?_
      refine lv_iload_n hx hb d_TT_about_68 rfl (lv_at hl 1 rfl) ?_
      refine tp_i (nI k.toNatClampNeg) (hkn) ?_
      refine tb_iald hx hb hK hP 2 1 rfl rfl (by omega) hN d_TT_about_69 ?_
      refine tb_iald hx hb hK hP 6 5 rfl rfl (hg.1 _ (by omega)) hN d_TT_about_70 ?_
      exact tb_reti hx hb hr hlk hK () hP hD hS (by rw [ab_F, if_pos c_5, if_neg (by decide), if_neg (by decide), if_pos rfl]) d_TT_about_71
    refine lv_tableOut (tgt := 72) hx hb d_TT_about_11 (by have q0 := lv_neT e0 (a := 0) rfl; have q1 := lv_neT e1 (a := 1) rfl; have q2 := lv_neT e2 (a := 2) rfl; omega) (by decide) ?_
    refine lv_iconst (v := (-1)) hx hb d_TT_about_72 (by decide) ?_
    exact tb_reti hx hb hr hlk hK () hP hD hS (by rw [ab_F, if_pos c_5, if_neg e0, if_neg e1, if_neg e2]) d_TT_about_73
  · have c_5 := bI_0 c_5
    refine lv_iconst (v := (-1)) hx hb d_TT_about_8 (by decide) ?_
    exact tb_reti hx hb hr hlk hK () hP hD hS (by rw [ab_F, if_neg (by rw [c_5]; decide)]) d_TT_about_9


set_option maxHeartbeats 4000000 in
set_option maxRecDepth 100000 in
/-- byteAt -/
theorem c_byteAt (l : Launch) (dC : Nat → ClassId) (dI : Nat → Nat → Nat) (P : Nat → Nat) (C : Nat → ClassId) (N sz : Nat) (fb : Nat → Int32) (g : Nat → Nat) (fn ft : Nat → Int32) (fs fl : Nat → Nat) (w wi now : Nat) (on : Bool) (ts tl lf ll : Nat) (k j : Int32) (hN : N < 2 ^ 31) (hw : w ≤ N) (hg : wfP N g) (hb3 : ∀ i, i < N → fs i + fl i ≤ 512) : ctI l y_TT_byteAt ws_TT_byteAt (rmD 1) (dC, dI) classes (tys_T C) (tt P C N fb g fn ft fs fl w wi now on ts tl lf ll) sz [.ref (P 0), .int k, .int j] (fun (r : Int32) (_ : Unit) => r = ba_F fb fs fl w g k j) (fun _ => (tt P C N fb g fn ft fs fl w wi now on ts tl lf ll)) 0 0 := by
  refine tb_metI (own := R_TT) (by decide) rfl rfl (Nat.le_of_ble_eq_true rfl) [(0, .ref (P 0)), (1, .int k), (2, .int j)] rfl ?_
  intro p e s m below meth c A ls hx hb hr hml hts hown hlk hnm hA hK hP hD hS hl
  refine lv_aload_n hx hb d_TT_byteAt_0 rfl (lv_at hl 0 rfl) ?_
  refine lv_iload_n hx hb d_TT_byteAt_1 rfl (lv_at hl 1 rfl) ?_
  refine tb_calli (c_isWaiting l dC dI P C N s.heap.size fb g fn ft fs fl w wi now on ts tl lf ll k) ⟨hx, hb, hml, hown, hts⟩ (cwV 1 hts g_TT_93 rfl rfl rfl (by decide +kernel) ⟨Nat.le_of_ble_eq_true rfl, Nat.le_of_ble_eq_true rfl⟩) hK hP hD hS hA 0 rfl 0 rfl rfl hl.1 rfl (Nat.le_of_ble_eq_true rfl) d_TT_byteAt_2 ⟨Nat.le_refl _, Nat.le_refl _⟩ (fun r u H locs hwc hP hD hS => ?_)
  subst hwc
  refine lv_if_ne (tgt := 10) hx hb d_TT_byteAt_5 (by decide) (fun c_5 => ?_) (fun c_5 => ?_)
  · have c_5 := bI_1 c_5
    have hkn := cl_nI (iw_ge c_5)
    have hkw : k.toNatClampNeg < w := iw_lt c_5 (by omega)
    refine lv_aload_n hx hb d_TT_byteAt_10 rfl (lv_at hl 0 rfl) ?_
    refine lv_aload_n hx hb d_TT_byteAt_11 rfl (lv_at hl 0 rfl) ?_
    refine xg hx hb hts hown hK hP rfl 4 (by decide) rfl fl_TT_32 rfl d_TT_byteAt_12 ?_
    refine lv_aload_n hx hb d_TT_byteAt_15 rfl (lv_at hl 0 rfl) ?_
    refine xg hx hb hts hown hK hP rfl 1 (by decide) rfl fl_TT_22 rfl d_TT_byteAt_16 ?_
    refine lv_iload_n hx hb d_TT_byteAt_19 rfl (lv_at hl 1 rfl) ?_
    refine tp_i (nI k.toNatClampNeg) (hkn) ?_
    refine tb_iald hx hb hK hP 2 1 rfl rfl (by omega) hN d_TT_byteAt_20 ?_
    refine tb_iald hx hb hK hP 5 4 rfl rfl (hg.1 _ (by omega)) hN d_TT_byteAt_21 ?_
    refine lv_aload_n hx hb d_TT_byteAt_22 rfl (lv_at hl 0 rfl) ?_
    refine xg hx hb hts hown hK hP rfl 5 (by decide) rfl fl_TT_35 rfl d_TT_byteAt_23 ?_
    refine lv_aload_n hx hb d_TT_byteAt_26 rfl (lv_at hl 0 rfl) ?_
    refine xg hx hb hts hown hK hP rfl 1 (by decide) rfl fl_TT_22 rfl d_TT_byteAt_27 ?_
    refine lv_iload_n hx hb d_TT_byteAt_30 rfl (lv_at hl 1 rfl) ?_
    refine tp_i (nI k.toNatClampNeg) (hkn) ?_
    refine tb_iald hx hb hK hP 2 1 rfl rfl (by omega) hN d_TT_byteAt_31 ?_
    refine tb_iald hx hb hK hP 6 5 rfl rfl (hg.1 _ (by omega)) hN d_TT_byteAt_32 ?_
    refine lv_iload_n hx hb d_TT_byteAt_33 rfl (lv_at hl 2 rfl) ?_
    refine tb_calli (c_byteOf l dC dI P C N H.size fb g fn ft fs fl w wi now on ts tl lf ll (fs (g k.toNatClampNeg)) (fl (g k.toNatClampNeg)) j (hb3 _ (hg.1 _ (by omega)))) ⟨hx, hb, hml, hown, hts⟩ (cwV 3 hts g_TT_87 rfl rfl rfl (by decide +kernel) ⟨Nat.le_of_ble_eq_true rfl, Nat.le_of_ble_eq_true rfl⟩) hK hP hD hS hA 0 rfl 0 rfl rfl hl.1 rfl (Nat.le_of_ble_eq_true rfl) d_TT_byteAt_34 ⟨Nat.le_refl _, Nat.le_refl _⟩ (fun r u H locs hwc hP hD hS => ?_)
    subst hwc
    exact tb_reti hx hb hr hlk hK () hP hD hS (by rw [ba_F, if_pos c_5]) d_TT_byteAt_37
  · have c_5 := bI_0 c_5
    refine lv_iconst (v := (-1)) hx hb d_TT_byteAt_8 (by decide) ?_
    exact tb_reti hx hb hr hlk hK () hP hD hS (by rw [ba_F, if_neg (by rw [c_5]; decide)]) d_TT_byteAt_9


set_option maxHeartbeats 4000000 in
set_option maxRecDepth 100000 in
/-- insert -/
theorem c_insert (l : Launch) (dC : Nat → ClassId) (dI : Nat → Nat → Nat) (P : Nat → Nat) (C : Nat → ClassId) (N sz : Nat) (fb : Nat → Int32) (g : Nat → Nat) (fn ft : Nat → Int32) (fs fl : Nat → Nat) (w wi now : Nat) (on : Bool) (ts tl lf ll : Nat) (nu t : Int32) (hN : N < 2 ^ 31) (hw : w ≤ N) (htl : tl ≤ 256) (hg : wfP N g) (hf : ∀ j, j < N → fs j ≤ 512) (hts2 : ts ≤ 512) : ctI l y_TT_insert ws_TT_insert (rmD 3) (dC, dI) classes (tys_T C) (tt P C N fb g fn ft fs fl w wi now on ts tl lf ll) sz [.ref (P 0), .int nu, .int t] (fun (r : Int32) (u : (Nat → Nat) × (Nat → Int32) × (Nat → Int32) × (Nat → Nat) × (Nat → Nat) × Nat × Nat × Nat) => r = nI (wh_F tl now t w N) ∧ u = ir_R N g fn ft fs fl w wi now ts tl nu t) (fun u => (tt P C N fb u.1 u.2.1 u.2.2.1 u.2.2.2.1 u.2.2.2.2.1 u.2.2.2.2.2.1 u.2.2.2.2.2.2.1 now on u.2.2.2.2.2.2.2 0 lf ll)) 0 0 := by
  refine tb_metI (own := R_TT) (by decide) rfl rfl (Nat.le_of_ble_eq_true rfl) [(0, .ref (P 0)), (1, .int nu), (2, .int t)] rfl ?_
  intro p e s m below meth c A ls hx hb hr hml hts hown hlk hnm hA hK hP hD hS hl
  refine lv_aload_n hx hb d_TT_insert_0 rfl (lv_at hl 0 rfl) ?_
  refine lv_iload_n hx hb d_TT_insert_1 rfl (lv_at hl 2 rfl) ?_
  refine tb_calli (c_whetherInserted l dC dI P C N s.heap.size fb g fn ft fs fl w wi now on ts tl lf ll t hN (by omega) (by omega)) ⟨hx, hb, hml, hown, hts⟩ (cwV 1 hts g_TT_45 rfl rfl rfl (by decide +kernel) ⟨Nat.le_of_ble_eq_true rfl, Nat.le_of_ble_eq_true rfl⟩) hK hP hD hS hA 0 rfl 0 rfl rfl hl.1 rfl (Nat.le_of_ble_eq_true rfl) d_TT_insert_2 ⟨Nat.le_refl _, Nat.le_refl _⟩ (fun r u H locs hwc hP hD hS => ?_)
  subst hwc
  refine lv_istore_n (lv' := [(3, .int (nI (wh_F tl now t w N))), (0, .ref (P 0)), (1, .int nu), (2, .int t)]) hx hb d_TT_insert_5 rfl hl (by decide) rfl (fun ls hl => ?_)
  refine lv_iload_n hx hb d_TT_insert_6 rfl (lv_at hl 0 rfl) ?_
  refine lv_if_ne (tgt := 16) hx hb d_TT_insert_7 (by decide) (fun c_7 => ?_) (fun c_7 => ?_)
  · have c_7 : ¬ wh_F tl now t w N = 0 := fun q => c_7 (show nI (wh_F tl now t w N) = nI 0 by rw [q])
    refine lv_aload_n hx hb d_TT_insert_16 rfl (lv_at hl 1 rfl) ?_
    refine lv_iconst (v := nI 0) hx hb d_TT_insert_17 (by decide) ?_
    refine xp (ty := .int) hx hb hts hown hK hP hD hS rfl 11 (by decide) rfl fl_TT_42 rfl (by decide +kernel) (rfl) (rfl) (Nat.le_of_ble_eq_true rfl) (tt P C N fb g fn ft fs fl w wi now on ts 0 lf ll) rfl d_TT_insert_18 (fun H locs hP hD hS => ?_)
    refine lv_iload_n hx hb d_TT_insert_21 rfl (lv_at hl 0 rfl) ?_
    exact tb_reti hx hb hr hlk hK (g, fn, ft, fs, fl, w, wi, ts) hP hD hS ⟨rfl, by rw [ir_R, if_neg c_7]⟩ d_TT_insert_22
  · have c_7 : wh_F tl now t w N = 0 := (nI_eq (by have := wh_le tl now t w N; omega) (by omega)).mp (show nI (wh_F tl now t w N) = nI 0 from c_7)
    have hwN : w < N := wh_w c_7
    refine lv_aload_n hx hb d_TT_insert_10 rfl (lv_at hl 1 rfl) ?_
    refine lv_iload_n hx hb d_TT_insert_11 rfl (lv_at hl 2 rfl) ?_
    refine lv_iload_n hx hb d_TT_insert_12 rfl (lv_at hl 3 rfl) ?_
    refine tb_callv (c_addEntry l dC dI P C N H.size fb g fn ft fs fl w wi now on ts tl lf ll nu t hN (by omega) hg hf (by omega)) ⟨hx, hb, hml, hown, hts⟩ (cwV 2 hts g_TT_49 rfl rfl rfl (by decide +kernel) ⟨Nat.le_of_ble_eq_true rfl, Nat.le_of_ble_eq_true rfl⟩) hK hP hD hS hA 0 rfl 0 rfl rfl hl.1 rfl (Nat.le_of_ble_eq_true rfl) d_TT_insert_13 ⟨Nat.le_refl _, Nat.le_refl _⟩ (fun u H locs hwc hP hD hS => ?_)
    refine lv_aload_n hx hb d_TT_insert_16 rfl (lv_at hl 1 rfl) ?_
    refine lv_iconst (v := nI 0) hx hb d_TT_insert_17 (by decide) ?_
    refine xp (ty := .int) hx hb hts hown hK hP hD hS rfl 11 (by decide) rfl fl_TT_42 rfl (by decide +kernel) (rfl) (rfl) (Nat.le_of_ble_eq_true rfl) (tt P C N fb (st_l (be_F (upd ft (g w) t) (va_up fs (g w) ts)) w g) (upd fn (g w) nu) (upd ft (g w) t) (va_up fs (g w) ts) (va_up fl (g w) tl) (w + 1) (wi + 1) now on (ts + tl) 0 lf ll) rfl d_TT_insert_18 (fun H locs hP hD hS => ?_)
    refine lv_iload_n hx hb d_TT_insert_21 rfl (lv_at hl 0 rfl) ?_
    exact tb_reti hx hb hr hlk hK (st_l (be_F (upd ft (g w) t) (va_up fs (g w) ts)) w g, upd fn (g w) nu, upd ft (g w) t, va_up fs (g w) ts, va_up fl (g w) tl, w + 1, wi + 1, ts + tl) hP hD hS ⟨rfl, by rw [ir_R, if_pos c_7]⟩ d_TT_insert_22

