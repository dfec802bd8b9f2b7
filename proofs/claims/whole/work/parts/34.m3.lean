set_option maxHeartbeats 4000000 in
set_option maxRecDepth 100000 in
/-- the reference: insert -/
theorem mc_insert (l : Launch) (dC : Nat → ClassId) (dI : Nat → Nat → Nat) (P : Nat → Nat) (C : Nat → ClassId) (N sz : Nat) (tx lx nu ti : Nat → Int32) (si ro : Nat → Nat) (us : Nat → Bool) (bt : Nat → Int32) (w al now : Nat) (on : Bool) (tl ll : Nat) (x t : Int32) (r0 : Nat) (hwN : w ≤ N) (hN : N ≤ 1024) (htl : tl ≤ 256) (hfr : w < N → r0 < 1024 ∧ us r0 = false ∧ ∀ j, j < r0 → us j = true) : ctI l y_TM_insert ws_TM_insert (rmD 0) (dC, dI) classes (tys_M C) (mm P C N tx lx nu ti si ro us bt w al now on tl ll) sz [.ref (P 0), .int x, .int t] (fun (r : Int32) (u : (Nat → Int32) × (Nat → Int32) × (Nat → Nat) × (Nat → Nat) × (Nat → Bool) × (Nat → Int32) × Nat × Nat) => r = nI (wh_F tl now t w N) ∧ u = mi_R r0 N tx nu ti si ro us bt w al now tl x t) (fun u => (mm P C N tx lx u.1 u.2.1 u.2.2.1 u.2.2.2.1 u.2.2.2.2.1 u.2.2.2.2.2.1 u.2.2.2.2.2.2.1 u.2.2.2.2.2.2.2 now on 0 ll)) 0 0 := by
  refine tb_metI (own := R_TM) (by decide) rfl rfl (Nat.le_of_ble_eq_true rfl) [(0, .ref (P 0)), (1, .int x), (2, .int t)] rfl ?_
  intro p e s m below meth c A ls hx hb hr hml hts hown hlk hnm hA hK hP hD hS hl
  have copy : ∀ (n k : Nat) (H : Heap) (locs : List Loc) (ls : Array Slot), wh_F tl now t w N = 0 → r0 < 1024 → k + n = tl → va_P (dC, dI) classes (mm P C N tx lx nu ti si ro (va_up us r0 true) (cp bt tx (256 * r0) k) w al now on 0 ll) H → va_D A (mm P C N tx lx nu ti si ro (va_up us r0 true) (cp bt tx (256 * r0) k) w al now on 0 ll) → va_S A s.heap H locs → lv_has ls 6 [(5, .int (nI k)), (4, .int (nI r0)), (3, .int (nI tl)), (0, .ref (P 0)), (1, .int x), (2, .int t)] → W p l e (rmD 0) s m [Value.ref (P 0), .int x, .int t].toArray below meth c H locs 0 0 (MQ below (va_Qi (fun (r : Int32) (u : (Nat → Int32) × (Nat → Int32) × (Nat → Nat) × (Nat → Nat) × (Nat → Bool) × (Nat → Int32) × Nat × Nat) => r = nI (wh_F tl now t w N) ∧ u = mi_R r0 N tx nu ti si ro us bt w al now tl x t) (fun u tS => va_P (dC, dI) classes ((fun u => (mm P C N tx lx u.1 u.2.1 u.2.2.1 u.2.2.2.1 u.2.2.2.2.1 u.2.2.2.2.2.1 u.2.2.2.2.2.2.1 u.2.2.2.2.2.2.2 now on 0 ll)) u) tS.heap ∧ va_K (dC, dI) classes (tys_M C) tS ∧ va_D A ((fun u => (mm P C N tx lx u.1 u.2.1 u.2.2.1 u.2.2.2.1 u.2.2.2.2.1 u.2.2.2.2.2.1 u.2.2.2.2.2.2.1 u.2.2.2.2.2.2.2 now on 0 ll)) u)) A) [Value.ref (P 0), .int x, .int t].toArray s 0 0 A) (F0 m 74 ls []) := by
    clear hP hD hS hl
    intro n
    induction n with
    | zero =>
      intro k H locs ls hwh hr1 hn hP hD hS hl
      have hk : tl = k := by omega
      subst hk
      have hwN : w < N := wh_w hwh
      refine lv_iload hx hb d_TM_insert_74 (lv_at hl 0 rfl) ?_
      refine lv_iload_n hx hb d_TM_insert_76 rfl (lv_at hl 2 rfl) ?_
      refine lv_icmp_ge (tgt := 107) hx hb d_TM_insert_77 (by decide) (fun c_77 => ?_) (fun c_77 => ?_)
      · refine lv_aload_n hx hb d_TM_insert_107 rfl (lv_at hl 3 rfl) ?_
        refine mg hx hb hts hown hK hP rfl 10 (by decide) rfl fl_TM_16 rfl d_TM_insert_108 ?_
        refine lv_aload_n hx hb d_TM_insert_111 rfl (lv_at hl 3 rfl) ?_
        refine mg hx hb hts hown hK hP rfl 9 (by decide) rfl fl_TM_44 rfl d_TM_insert_112 ?_
        refine lv_iload_n hx hb d_TM_insert_115 rfl (lv_at hl 4 rfl) ?_
        refine tb_iast hx hb hK hP hD hS 3 2 rfl rfl (by omega) (by decide) (mm P C N tx lx (upd nu w x) ti si ro (va_up us r0 true) (cp bt tx (256 * r0) tl) w al now on 0 ll) rfl d_TM_insert_116 (fun H locs hP hD hS => ?_)
        refine lv_aload_n hx hb d_TM_insert_117 rfl (lv_at hl 3 rfl) ?_
        refine mg hx hb hts hown hK hP rfl 11 (by decide) rfl fl_TM_20 rfl d_TM_insert_118 ?_
        refine lv_aload_n hx hb d_TM_insert_121 rfl (lv_at hl 3 rfl) ?_
        refine mg hx hb hts hown hK hP rfl 9 (by decide) rfl fl_TM_44 rfl d_TM_insert_122 ?_
        refine lv_iload_n hx hb d_TM_insert_125 rfl (lv_at hl 5 rfl) ?_
        refine tb_iast hx hb hK hP hD hS 4 3 rfl rfl (by omega) (by decide) (mm P C N tx lx (upd nu w x) (upd ti w t) si ro (va_up us r0 true) (cp bt tx (256 * r0) tl) w al now on 0 ll) rfl d_TM_insert_126 (fun H locs hP hD hS => ?_)
        refine lv_aload_n hx hb d_TM_insert_127 rfl (lv_at hl 3 rfl) ?_
        refine mg hx hb hts hown hK hP rfl 12 (by decide) rfl fl_TM_23 rfl d_TM_insert_128 ?_
        refine lv_aload_n hx hb d_TM_insert_131 rfl (lv_at hl 3 rfl) ?_
        refine mg hx hb hts hown hK hP rfl 9 (by decide) rfl fl_TM_44 rfl d_TM_insert_132 ?_
        refine lv_iload_n hx hb d_TM_insert_135 rfl (lv_at hl 2 rfl) ?_
        refine tb_iastN hx hb hK hP hD hS 5 4 rfl rfl (by omega) (by decide) (mm P C N tx lx (upd nu w x) (upd ti w t) (va_up si w tl) ro (va_up us r0 true) (cp bt tx (256 * r0) tl) w al now on 0 ll) rfl d_TM_insert_136 (fun H locs hP hD hS => ?_)
        refine lv_aload_n hx hb d_TM_insert_137 rfl (lv_at hl 3 rfl) ?_
        refine mg hx hb hts hown hK hP rfl 13 (by decide) rfl fl_TM_26 rfl d_TM_insert_138 ?_
        refine lv_aload_n hx hb d_TM_insert_141 rfl (lv_at hl 3 rfl) ?_
        refine mg hx hb hts hown hK hP rfl 9 (by decide) rfl fl_TM_44 rfl d_TM_insert_142 ?_
        refine lv_iload hx hb d_TM_insert_145 (lv_at hl 1 rfl) ?_
        refine tb_iastN hx hb hK hP hD hS 6 5 rfl rfl (by omega) (by decide) (mm P C N tx lx (upd nu w x) (upd ti w t) (va_up si w tl) (va_up ro w r0) (va_up us r0 true) (cp bt tx (256 * r0) tl) w al now on 0 ll) rfl d_TM_insert_147 (fun H locs hP hD hS => ?_)
        refine lv_aload_n hx hb d_TM_insert_148 rfl (lv_at hl 3 rfl) ?_
        refine lv_dup hx hb d_TM_insert_149 rfl ?_
        refine mg hx hb hts hown hK hP rfl 9 (by decide) rfl fl_TM_44 rfl d_TM_insert_150 ?_
        refine lv_iconst (v := nI 1) hx hb d_TM_insert_153 (by decide) ?_
        refine lv_iadd hx hb d_TM_insert_154 ?_
        refine tp_i (nI (w + 1)) (nI_add _ _) ?_
        refine mp (ty := .int) hx hb hts hown hK hP hD hS rfl 9 (by decide) rfl fl_TM_44 rfl (by decide +kernel) (rfl) (rfl) (Nat.le_of_ble_eq_true rfl) (mm P C N tx lx (upd nu w x) (upd ti w t) (va_up si w tl) (va_up ro w r0) (va_up us r0 true) (cp bt tx (256 * r0) tl) (w + 1) al now on 0 ll) rfl d_TM_insert_155 (fun H locs hP hD hS => ?_)
        refine lv_aload_n hx hb d_TM_insert_158 rfl (lv_at hl 3 rfl) ?_
        refine lv_dup hx hb d_TM_insert_159 rfl ?_
        refine mg hx hb hts hown hK hP rfl 4 (by decide) rfl fl_TM_53 rfl d_TM_insert_160 ?_
        refine lv_iconst (v := nI 1) hx hb d_TM_insert_163 (by decide) ?_
        refine lv_iadd hx hb d_TM_insert_164 ?_
        refine tp_i (nI (al + 1)) (nI_add _ _) ?_
        refine mp (ty := .int) hx hb hts hown hK hP hD hS rfl 4 (by decide) rfl fl_TM_53 rfl (by decide +kernel) (rfl) (rfl) (Nat.le_of_ble_eq_true rfl) (mm P C N tx lx (upd nu w x) (upd ti w t) (va_up si w tl) (va_up ro w r0) (va_up us r0 true) (cp bt tx (256 * r0) tl) (w + 1) (al + 1) now on 0 ll) rfl d_TM_insert_165 (fun H locs hP hD hS => ?_)
        refine lv_iconst (v := nI 0) hx hb d_TM_insert_168 (by decide) ?_
        exact tb_reti hx hb hr hlk hK (upd nu w x, upd ti w t, va_up si w tl, va_up ro w r0, va_up us r0 true, cp bt tx (256 * r0) tl, w + 1, al + 1) hP hD hS ⟨by rw [hwh], by rw [mi_R, if_pos hwh]⟩ d_TM_insert_169
      · exact absurd (nI_le (by omega) (by omega)) c_77
    | succ n ih =>
      intro k H locs ls hwh hr1 hn hP hD hS hl
      refine lv_iload hx hb d_TM_insert_74 (lv_at hl 0 rfl) ?_
      refine lv_iload_n hx hb d_TM_insert_76 rfl (lv_at hl 2 rfl) ?_
      refine lv_icmp_ge (tgt := 107) hx hb d_TM_insert_77 (by decide) (fun c_77 => ?_) (fun c_77 => ?_)
      · exact absurd ((nI_leI (by omega) (by omega)).mp c_77) (by omega)
      · refine lv_aload_n hx hb d_TM_insert_80 rfl (lv_at hl 3 rfl) ?_
        refine mg hx hb hts hown hK hP rfl 15 (by decide) rfl fl_TM_34 rfl d_TM_insert_81 ?_
        refine lv_sipush (v := nI 256) hx hb d_TM_insert_84 (by decide) ?_
        refine lv_iload hx hb d_TM_insert_87 (lv_at hl 1 rfl) ?_
        refine lv_imul hx hb d_TM_insert_89 ?_
        refine tp_i (nI (256 * r0)) (pk_mul _ _) ?_
        refine lv_iload hx hb d_TM_insert_90 (lv_at hl 0 rfl) ?_
        refine lv_iadd hx hb d_TM_insert_92 ?_
        refine tp_i (nI (256 * r0 + k)) (nI_add _ _) ?_
        refine lv_aload_n hx hb d_TM_insert_93 rfl (lv_at hl 3 rfl) ?_
        refine mg hx hb hts hown hK hP rfl 5 (by decide) rfl fl_TM_7 rfl d_TM_insert_94 ?_
        refine lv_iload hx hb d_TM_insert_97 (lv_at hl 0 rfl) ?_
        refine tb_bald hx hb hK hP 1 0 rfl rfl (by omega) (by decide) d_TM_insert_99 ?_
        refine tb_bast hx hb hK hP hD hS 8 7 rfl rfl (by omega) (by decide) (mm P C N tx lx nu ti si ro (va_up us r0 true) (upd (cp bt tx (256 * r0) k) (256 * r0 + k) (vp_nar .byte (tx k))) w al now on 0 ll) rfl d_TM_insert_100 (fun H locs hP hD hS => ?_)
        refine lv_iinc (v := nI (k + 1)) (lv' := [(5, .int (nI (k + 1))), (4, .int (nI r0)), (3, .int (nI tl)), (0, .ref (P 0)), (1, .int x), (2, .int t)]) hx hb d_TM_insert_101 hl (k := 0) rfl (nI_1 _) (by decide) rfl (fun ls hl => ?_)
        refine lv_goto (tgt := 74) hx hb d_TM_insert_104 (by decide) ?_
        rw [cp_s] at hP hD
        exact ih _ _ _ _ hwh hr1 (by omega) hP hD hS (lv_sub hl [0, 1, 2, 3, 4, 5] rfl)
  have find : ∀ (n r : Nat) (H : Heap) (locs : List Loc) (ls : Array Slot), wh_F tl now t w N = 0 → r + n = r0 → va_P (dC, dI) classes (mm P C N tx lx nu ti si ro us bt w al now on 0 ll) H → va_D A (mm P C N tx lx nu ti si ro us bt w al now on 0 ll) → va_S A s.heap H locs → lv_has ls 6 [(4, .int (nI r)), (3, .int (nI tl)), (0, .ref (P 0)), (1, .int x), (2, .int t)] → W p l e (rmD 0) s m [Value.ref (P 0), .int x, .int t].toArray below meth c H locs 0 0 (MQ below (va_Qi (fun (r : Int32) (u : (Nat → Int32) × (Nat → Int32) × (Nat → Nat) × (Nat → Nat) × (Nat → Bool) × (Nat → Int32) × Nat × Nat) => r = nI (wh_F tl now t w N) ∧ u = mi_R r0 N tx nu ti si ro us bt w al now tl x t) (fun u tS => va_P (dC, dI) classes ((fun u => (mm P C N tx lx u.1 u.2.1 u.2.2.1 u.2.2.2.1 u.2.2.2.2.1 u.2.2.2.2.2.1 u.2.2.2.2.2.2.1 u.2.2.2.2.2.2.2 now on 0 ll)) u) tS.heap ∧ va_K (dC, dI) classes (tys_M C) tS ∧ va_D A ((fun u => (mm P C N tx lx u.1 u.2.1 u.2.2.1 u.2.2.2.1 u.2.2.2.2.1 u.2.2.2.2.2.1 u.2.2.2.2.2.2.1 u.2.2.2.2.2.2.2 now on 0 ll)) u)) A) [Value.ref (P 0), .int x, .int t].toArray s 0 0 A) (F0 m 47 ls []) := by
    clear hP hD hS hl
    intro n
    induction n with
    | zero =>
      intro r H locs ls hwh hn hP hD hS hl
      have hr2 : r = r0 := by omega
      subst hr2
      obtain ⟨f1, f2, f3⟩ := hfr (wh_w hwh)
      refine lv_aload_n hx hb d_TM_insert_47 rfl (lv_at hl 2 rfl) ?_
      refine mg hx hb hts hown hK hP rfl 14 (by decide) rfl fl_TM_29 rfl d_TM_insert_48 ?_
      refine lv_iload hx hb d_TM_insert_51 (lv_at hl 0 rfl) ?_
      refine tb_zald hx hb hK hP 7 6 rfl rfl (by omega) (by decide) d_TM_insert_53 ?_
      refine lv_if_eq (tgt := 63) hx hb d_TM_insert_54 (by decide) (fun c_54 => ?_) (fun c_54 => ?_)
      · refine lv_aload_n hx hb d_TM_insert_63 rfl (lv_at hl 2 rfl) ?_
        refine mg hx hb hts hown hK hP rfl 14 (by decide) rfl fl_TM_29 rfl d_TM_insert_64 ?_
        refine lv_iload hx hb d_TM_insert_67 (lv_at hl 0 rfl) ?_
        refine lv_iconst (v := nI 1) hx hb d_TM_insert_69 (by decide) ?_
        refine tp_i (bI true) rfl ?_
        refine tb_zastB hx hb hK hP hD hS 7 6 rfl rfl (by omega) (by decide) (mm P C N tx lx nu ti si ro (va_up us r true) bt w al now on 0 ll) rfl d_TM_insert_70 (fun H locs hP hD hS => ?_)
        refine lv_iconst (v := nI 0) hx hb d_TM_insert_71 (by decide) ?_
        refine lv_istore (lv' := [(5, .int (nI 0)), (4, .int (nI r)), (3, .int (nI tl)), (0, .ref (P 0)), (1, .int x), (2, .int t)]) hx hb d_TM_insert_72 hl (by decide) rfl (fun ls hl => ?_)
        exact copy tl 0 _ _ _ hwh f1 (by omega) (by rw [cp_0]; exact hP) (by rw [cp_0]; exact hD) hS (lv_sub hl [0, 1, 2, 3, 4, 5] rfl)
      · exact absurd (by rw [f2]; rfl) c_54
    | succ n ih =>
      intro r H locs ls hwh hn hP hD hS hl
      obtain ⟨f1, f2, f3⟩ := hfr (wh_w hwh)
      refine lv_aload_n hx hb d_TM_insert_47 rfl (lv_at hl 2 rfl) ?_
      refine mg hx hb hts hown hK hP rfl 14 (by decide) rfl fl_TM_29 rfl d_TM_insert_48 ?_
      refine lv_iload hx hb d_TM_insert_51 (lv_at hl 0 rfl) ?_
      refine tb_zald hx hb hK hP 7 6 rfl rfl (by omega) (by decide) d_TM_insert_53 ?_
      refine lv_if_eq (tgt := 63) hx hb d_TM_insert_54 (by decide) (fun c_54 => ?_) (fun c_54 => ?_)
      · exact absurd (bI_0 c_54) (by rw [f3 r (by omega)]; decide)
      · refine lv_iinc (v := nI (r + 1)) (lv' := [(4, .int (nI (r + 1))), (3, .int (nI tl)), (0, .ref (P 0)), (1, .int x), (2, .int t)]) hx hb d_TM_insert_57 hl (k := 0) rfl (nI_1 _) (by decide) rfl (fun ls hl => ?_)
        refine lv_goto (tgt := 47) hx hb d_TM_insert_60 (by decide) ?_
        exact ih _ _ _ _ hwh (by omega) hP hD hS (lv_sub hl [0, 1, 2, 3, 4] rfl)
  refine lv_aload_n hx hb d_TM_insert_0 rfl (lv_at hl 0 rfl) ?_
  refine lv_iconst (v := nI 0) hx hb d_TM_insert_1 (by decide) ?_
  refine mp (ty := .int) hx hb hts hown hK hP hD hS rfl 0 (by decide) rfl fl_TM_41 rfl (by decide +kernel) (rfl) (rfl) (Nat.le_of_ble_eq_true rfl) (mm P C N tx lx nu ti si ro us bt w al now on tl ll) rfl d_TM_insert_2 (fun H locs hP hD hS => ?_)
  refine lv_aload_n hx hb d_TM_insert_5 rfl (lv_at hl 0 rfl) ?_
  refine mg hx hb hts hown hK hP rfl 6 (by decide) rfl fl_TM_47 rfl d_TM_insert_6 ?_
  refine lv_istore_n (lv' := [(3, .int (nI tl)), (0, .ref (P 0)), (1, .int x), (2, .int t)]) hx hb d_TM_insert_9 rfl hl (by decide) rfl (fun ls hl => ?_)
  refine lv_aload_n hx hb d_TM_insert_10 rfl (lv_at hl 1 rfl) ?_
  refine lv_iconst (v := nI 0) hx hb d_TM_insert_11 (by decide) ?_
  refine mp (ty := .int) hx hb hts hown hK hP hD hS rfl 6 (by decide) rfl fl_TM_47 rfl (by decide +kernel) (rfl) (rfl) (Nat.le_of_ble_eq_true rfl) (mm P C N tx lx nu ti si ro us bt w al now on 0 ll) rfl d_TM_insert_12 (fun H locs hP hD hS => ?_)
  refine lv_iload_n hx hb d_TM_insert_15 rfl (lv_at hl 0 rfl) ?_
  refine lv_if_ne (tgt := 21) hx hb d_TM_insert_16 (by decide) (fun c_16 => ?_) (fun c_16 => ?_)
  · have c_16 : ¬ tl = 0 := fun q => c_16 (show nI (tl) = nI 0 by rw [q])
    refine lv_iload_n hx hb d_TM_insert_21 rfl (lv_at hl 3 rfl) ?_
    refine lv_aload_n hx hb d_TM_insert_22 rfl (lv_at hl 1 rfl) ?_
    refine mg hx hb hts hown hK hP rfl 2 (by decide) rfl fl_TM_50 rfl d_TM_insert_23 ?_
    refine lv_icmp_gt (tgt := 31) hx hb d_TM_insert_26 (by decide) (fun c_26 => ?_) (fun c_26 => ?_)
    · refine lv_aload_n hx hb d_TM_insert_31 rfl (lv_at hl 1 rfl) ?_
      refine mg hx hb hts hown hK hP rfl 9 (by decide) rfl fl_TM_44 rfl d_TM_insert_32 ?_
      refine lv_aload_n hx hb d_TM_insert_35 rfl (lv_at hl 1 rfl) ?_
      refine mg hx hb hts hown hK hP rfl 1 (by decide) rfl fl_TM_37 rfl d_TM_insert_36 ?_
      refine lv_icmp_ne (tgt := 44) hx hb d_TM_insert_39 (by decide) (fun c_39 => ?_) (fun c_39 => ?_)
      · have c_39 : ¬ w = N := fun q => c_39 ((nI_eq (by omega) (by omega)).mpr q)
        have hwh : wh_F tl now t w N = 0 := by rw [wh_F, if_neg c_16, if_neg (Int32.not_le.mpr c_26), if_neg (by omega)]
        refine lv_iconst (v := nI 0) hx hb d_TM_insert_44 (by decide) ?_
        refine lv_istore (lv' := [(4, .int (nI 0)), (3, .int (nI tl)), (0, .ref (P 0)), (1, .int x), (2, .int t)]) hx hb d_TM_insert_45 hl (by decide) rfl (fun ls hl => ?_)
        exact find r0 0 _ _ _ hwh (by omega) hP hD hS (lv_sub hl [0, 1, 2, 3, 4] rfl)
      · have c_39 : w = N := (nI_eq (by omega) (by omega)).mp c_39
        refine lv_iconst (v := nI 3) hx hb d_TM_insert_42 (by decide) ?_
        have hwh : wh_F tl now t w N = 3 := by rw [wh_F, if_neg c_16, if_neg (Int32.not_le.mpr c_26), if_pos (by omega)]
        exact tb_reti hx hb hr hlk hK (nu, ti, si, ro, us, bt, w, al) hP hD hS ⟨by rw [hwh], by rw [mi_R, if_neg (by rw [hwh]; decide)]⟩ d_TM_insert_43
    · refine lv_iconst (v := nI 2) hx hb d_TM_insert_29 (by decide) ?_
      have hwh : wh_F tl now t w N = 2 := by rw [wh_F, if_neg c_16, if_pos (Int32.not_lt.mp c_26)]
      exact tb_reti hx hb hr hlk hK (nu, ti, si, ro, us, bt, w, al) hP hD hS ⟨by rw [hwh], by rw [mi_R, if_neg (by rw [hwh]; decide)]⟩ d_TM_insert_30
  · have c_16 : tl = 0 := (nI_eq (by omega) (by omega)).mp (show nI (tl) = nI 0 from c_16)
    refine lv_iconst (v := nI 1) hx hb d_TM_insert_19 (by decide) ?_
    have hwh : wh_F tl now t w N = 1 := by rw [wh_F, if_pos c_16]
    exact tb_reti hx hb hr hlk hK (nu, ti, si, ro, us, bt, w, al) hP hD hS ⟨by rw [hwh], by rw [mi_R, if_neg (by rw [hwh]; decide)]⟩ d_TM_insert_20

set_option maxHeartbeats 4000000 in
set_option maxRecDepth 100000 in
/-- the reference: leave -/
theorem mc_leave (l : Launch) (dC : Nat → ClassId) (dI : Nat → Nat → Nat) (P : Nat → Nat) (C : Nat → ClassId) (N sz : Nat) (tx lx nu ti : Nat → Int32) (si ro : Nat → Nat) (us : Nat → Bool) (bt : Nat → Int32) (w al now : Nat) (on : Bool) (tl ll : Nat) (hw : w ≤ 1024) (hro : ∀ j, j < w → ro j < 1024) (hsi : ∀ j, j < w → si j ≤ 256) : ctI l y_TM_leave ws_TM_leave (rmD 1) (dC, dI) classes (tys_M C) (mm P C N tx lx nu ti si ro us bt w al now on tl ll) sz [.ref (P 0)] (fun (r : Int32) (u : (Nat → Int32) × Nat × MS) => (r, u) = ml_R lx nu ti si ro us bt w now ll) (fun u => (mm P C N tx u.1 u.2.2.1 u.2.2.2.1 u.2.2.2.2.1 u.2.2.2.2.2.1 u.2.2.2.2.2.2.1 bt u.2.2.2.2.2.2.2 al now on tl u.2.1)) 0 0 := by
  refine tb_metI (own := R_TM) (by decide) rfl rfl (Nat.le_of_ble_eq_true rfl) [(0, .ref (P 0))] rfl ?_
  intro p e s m below meth c A ls hx hb hr hml hts hown hlk hnm hA hK hP hD hS hl
  have copy : ∀ (n k i : Nat) (H : Heap) (locs : List Loc) (ls : Array Slot), pl_o ti 0 w w 0 none = some i → i < w → ti i ≤ nI now → k + n = si i → va_P (dC, dI) classes (mm P C N tx (cp lx (fun k => bt (256 * ro i + k)) 0 k) nu ti si ro us bt w al now on tl (si i)) H → va_D A (mm P C N tx (cp lx (fun k => bt (256 * ro i + k)) 0 k) nu ti si ro us bt w al now on tl (si i)) → va_S A s.heap H locs → lv_has ls 3 [(2, .int (nI k)), (1, .int (nI i)), (0, .ref (P 0))] → W p l e (rmD 1) s m [Value.ref (P 0)].toArray below meth c H locs 0 0 (MQ below (va_Qi (fun (r : Int32) (u : (Nat → Int32) × Nat × MS) => (r, u) = ml_R lx nu ti si ro us bt w now ll) (fun u tS => va_P (dC, dI) classes ((fun u => (mm P C N tx u.1 u.2.2.1 u.2.2.2.1 u.2.2.2.2.1 u.2.2.2.2.2.1 u.2.2.2.2.2.2.1 bt u.2.2.2.2.2.2.2 al now on tl u.2.1)) u) tS.heap ∧ va_K (dC, dI) classes (tys_M C) tS ∧ va_D A ((fun u => (mm P C N tx u.1 u.2.2.1 u.2.2.2.1 u.2.2.2.2.1 u.2.2.2.2.2.1 u.2.2.2.2.2.2.1 bt u.2.2.2.2.2.2.2 al now on tl u.2.1)) u)) A) [Value.ref (P 0)].toArray s 0 0 A) (F0 m 42 ls []) := by
    clear hP hD hS hl
    intro n
    induction n with
    | zero =>
      intro k i H locs ls hpl hiw hle hn hP hD hS hl
      have hk : k = si i := by omega
      subst hk
      have z2 := hsi i hiw
      refine lv_iload_n hx hb d_TM_leave_42 rfl (lv_at hl 0 rfl) ?_
      refine lv_aload_n hx hb d_TM_leave_43 rfl (lv_at hl 2 rfl) ?_
      refine mg hx hb hts hown hK hP rfl 8 (by decide) rfl fl_TM_80 rfl d_TM_leave_44 ?_
      refine lv_icmp_ge (tgt := 79) hx hb d_TM_leave_47 (by decide) (fun c_47 => ?_) (fun c_47 => ?_)
      · refine lv_aload_n hx hb d_TM_leave_79 rfl (lv_at hl 2 rfl) ?_
        refine lv_iload_n hx hb d_TM_leave_80 rfl (lv_at hl 1 rfl) ?_
        refine tb_callv (mc_drop l dC dI P C N H.size tx (cp lx (fun k => bt (256 * ro i + k)) 0 (si i)) nu ti si ro us bt w al now on tl (si i) i hiw hw hro) ⟨hx, hb, hml, hown, hts⟩ (cwV 1 hts g_TM_56 rfl rfl rfl (by decide +kernel) ⟨Nat.le_of_ble_eq_true rfl, Nat.le_of_ble_eq_true rfl⟩) hK hP hD hS hA 1 rfl 0 rfl rfl hl.1 rfl (Nat.le_of_ble_eq_true rfl) d_TM_leave_81 ⟨Nat.le_refl _, Nat.le_refl _⟩ (fun u H locs hwc hP hD hS => ?_)
        refine lv_aload_n hx hb d_TM_leave_84 rfl (lv_at hl 2 rfl) ?_
        refine mg hx hb hts hown hK hP rfl 8 (by decide) rfl fl_TM_80 rfl d_TM_leave_85 ?_
        exact tb_reti hx hb hr hlk hK (cp lx (fun k => bt (256 * ro i + k)) 0 (si i), si i, m_dp (nu, ti, si, ro, us, w) i) hP hD hS (by rw [ml_R, hpl]; simp only []; rw [if_pos hle]) d_TM_leave_88
      · exact absurd (nI_le (by omega) (by omega)) c_47
    | succ n ih =>
      intro k i H locs ls hpl hiw hle hn hP hD hS hl
      have z1 := hro i hiw
      have z2 := hsi i hiw
      refine lv_iload_n hx hb d_TM_leave_42 rfl (lv_at hl 0 rfl) ?_
      refine lv_aload_n hx hb d_TM_leave_43 rfl (lv_at hl 2 rfl) ?_
      refine mg hx hb hts hown hK hP rfl 8 (by decide) rfl fl_TM_80 rfl d_TM_leave_44 ?_
      refine lv_icmp_ge (tgt := 79) hx hb d_TM_leave_47 (by decide) (fun c_47 => ?_) (fun c_47 => ?_)
      · exact absurd ((nI_leI (by omega) (by omega)).mp c_47) (by omega)
      · refine lv_aload_n hx hb d_TM_leave_50 rfl (lv_at hl 2 rfl) ?_
        refine mg hx hb hts hown hK hP rfl 7 (by decide) rfl fl_TM_13 rfl d_TM_leave_51 ?_
        refine lv_iload_n hx hb d_TM_leave_54 rfl (lv_at hl 0 rfl) ?_
        refine lv_aload_n hx hb d_TM_leave_55 rfl (lv_at hl 2 rfl) ?_
        refine mg hx hb hts hown hK hP rfl 15 (by decide) rfl fl_TM_34 rfl d_TM_leave_56 ?_
        refine lv_sipush (v := nI 256) hx hb d_TM_leave_59 (by decide) ?_
        refine lv_aload_n hx hb d_TM_leave_62 rfl (lv_at hl 2 rfl) ?_
        refine mg hx hb hts hown hK hP rfl 13 (by decide) rfl fl_TM_26 rfl d_TM_leave_63 ?_
        refine lv_iload_n hx hb d_TM_leave_66 rfl (lv_at hl 1 rfl) ?_
        refine tb_iald hx hb hK hP 6 5 rfl rfl (by omega) (by decide) d_TM_leave_67 ?_
        refine lv_imul hx hb d_TM_leave_68 ?_
        refine tp_i (nI (256 * ro i)) (pk_mul _ _) ?_
        refine lv_iload_n hx hb d_TM_leave_69 rfl (lv_at hl 0 rfl) ?_
        refine lv_iadd hx hb d_TM_leave_70 ?_
        refine tp_i (nI (256 * ro i + k)) (nI_add _ _) ?_
        refine tb_bald hx hb hK hP 8 7 rfl rfl (by omega) (by decide) d_TM_leave_71 ?_
        refine tb_bast hx hb hK hP hD hS 2 1 rfl rfl (by omega) (by decide) (mm P C N tx (upd (cp lx (fun k => bt (256 * ro i + k)) 0 k) k (vp_nar .byte (bt (256 * ro i + k)))) nu ti si ro us bt w al now on tl (si i)) rfl d_TM_leave_72 (fun H locs hP hD hS => ?_)
        refine lv_iinc (v := nI (k + 1)) (lv' := [(2, .int (nI (k + 1))), (1, .int (nI i)), (0, .ref (P 0))]) hx hb d_TM_leave_73 hl (k := 0) rfl (nI_1 _) (by decide) rfl (fun ls hl => ?_)
        refine lv_goto (tgt := 42) hx hb d_TM_leave_76 (by decide) ?_
        have e1 := cp_s lx (fun k => bt (256 * ro i + k)) 0 k
        rw [Nat.zero_add] at e1
        rw [e1] at hP hD
        exact ih _ _ _ _ _ hpl hiw hle (by omega) hP hD hS (lv_sub hl [0, 1, 2] rfl)
  refine lv_aload_n hx hb d_TM_leave_0 rfl (lv_at hl 0 rfl) ?_
  refine lv_iconst (v := nI 0) hx hb d_TM_leave_1 (by decide) ?_
  refine mp (ty := .int) hx hb hts hown hK hP hD hS rfl 0 (by decide) rfl fl_TM_41 rfl (by decide +kernel) (rfl) (rfl) (Nat.le_of_ble_eq_true rfl) (mm P C N tx lx nu ti si ro us bt w al now on tl ll) rfl d_TM_leave_2 (fun H locs hP hD hS => ?_)
  refine lv_aload_n hx hb d_TM_leave_5 rfl (lv_at hl 0 rfl) ?_
  refine lv_iconst (v := nI 0) hx hb d_TM_leave_6 (by decide) ?_
  refine tb_calli (mc_place l dC dI P C N H.size tx lx nu ti si ro us bt w al now on tl ll 0 hw (by omega)) ⟨hx, hb, hml, hown, hts⟩ (cwV 1 hts g_TM_76 rfl rfl rfl (by decide +kernel) ⟨Nat.le_of_ble_eq_true rfl, Nat.le_of_ble_eq_true rfl⟩) hK hP hD hS hA 1 rfl 0 rfl rfl hl.1 rfl (Nat.le_of_ble_eq_true rfl) d_TM_leave_7 ⟨Nat.le_refl _, Nat.le_refl _⟩ (fun r u H locs hwc hP hD hS => ?_)
  subst hwc
  cases hpl : pl_o ti 0 w w 0 none with
  | none =>
    refine lv_istore_n (lv' := [(1, .int (oI none)), (0, .ref (P 0))]) hx hb d_TM_leave_10 rfl hl (by decide) rfl (fun ls hl => ?_)
    refine lv_iload_n hx hb d_TM_leave_11 rfl (lv_at hl 0 rfl) ?_
    refine lv_if_lt (tgt := 28) hx hb d_TM_leave_12 (by decide) (fun c_12 => ?_) (fun c_12 => ?_)
    · refine lv_iconst (v := (-1)) hx hb d_TM_leave_28 (by decide) ?_
      exact tb_reti hx hb hr hlk hK (lx, ll, nu, ti, si, ro, us, w) hP hD hS (by rw [ml_R, hpl]) d_TM_leave_29
    · exact absurd (show oI none < 0 by decide) c_12
  | some i =>
    have hiw : i < w := pl_lt ti 0 w w 0 none (by omega) (fun j e => by cases e) i hpl
    refine tp_i (nI i) rfl ?_
    refine lv_istore_n (lv' := [(1, .int (nI i)), (0, .ref (P 0))]) hx hb d_TM_leave_10 rfl hl (by decide) rfl (fun ls hl => ?_)
    refine lv_iload_n hx hb d_TM_leave_11 rfl (lv_at hl 0 rfl) ?_
    refine lv_if_lt (tgt := 28) hx hb d_TM_leave_12 (by decide) (fun c_12 => ?_) (fun c_12 => ?_)
    · exact absurd c_12 (nI_pos (by omega))
    · refine lv_aload_n hx hb d_TM_leave_15 rfl (lv_at hl 1 rfl) ?_
      refine mg hx hb hts hown hK hP rfl 11 (by decide) rfl fl_TM_20 rfl d_TM_leave_16 ?_
      refine lv_iload_n hx hb d_TM_leave_19 rfl (lv_at hl 0 rfl) ?_
      refine tb_iald hx hb hK hP 4 3 rfl rfl (by omega) (by decide) d_TM_leave_20 ?_
      refine lv_aload_n hx hb d_TM_leave_21 rfl (lv_at hl 1 rfl) ?_
      refine mg hx hb hts hown hK hP rfl 2 (by decide) rfl fl_TM_50 rfl d_TM_leave_22 ?_
      refine lv_icmp_le (tgt := 30) hx hb d_TM_leave_25 (by decide) (fun c_25 => ?_) (fun c_25 => ?_)
      · refine lv_aload_n hx hb d_TM_leave_30 rfl (lv_at hl 1 rfl) ?_
        refine lv_aload_n hx hb d_TM_leave_31 rfl (lv_at hl 1 rfl) ?_
        refine mg hx hb hts hown hK hP rfl 12 (by decide) rfl fl_TM_23 rfl d_TM_leave_32 ?_
        refine lv_iload_n hx hb d_TM_leave_35 rfl (lv_at hl 0 rfl) ?_
        refine tb_iald hx hb hK hP 5 4 rfl rfl (by omega) (by decide) d_TM_leave_36 ?_
        refine mp (ty := .int) hx hb hts hown hK hP hD hS rfl 8 (by decide) rfl fl_TM_80 rfl (by decide +kernel) (rfl) (rfl) (Nat.le_of_ble_eq_true rfl) (mm P C N tx lx nu ti si ro us bt w al now on tl (si i)) rfl d_TM_leave_37 (fun H locs hP hD hS => ?_)
        refine lv_iconst (v := nI 0) hx hb d_TM_leave_40 (by decide) ?_
        refine lv_istore_n (lv' := [(2, .int (nI 0)), (1, .int (nI i)), (0, .ref (P 0))]) hx hb d_TM_leave_41 rfl hl (by decide) rfl (fun ls hl => ?_)
        exact copy (si i) 0 i _ _ _ hpl hiw c_25 (by omega) (by rw [cp_0]; exact hP) (by rw [cp_0]; exact hD) hS (lv_sub hl [0, 1, 2] rfl)
      · refine lv_iconst (v := (-1)) hx hb d_TM_leave_28 (by decide) ?_
        exact tb_reti hx hb hr hlk hK (lx, ll, nu, ti, si, ro, us, w) hP hD hS (by rw [ml_R, hpl]; simp only []; rw [if_neg c_25]) d_TM_leave_29

set_option maxHeartbeats 4000000 in
set_option maxRecDepth 100000 in
/-- the reference: about -/
theorem mc_about (l : Launch) (dC : Nat → ClassId) (dI : Nat → Nat → Nat) (P : Nat → Nat) (C : Nat → ClassId) (N sz : Nat) (tx lx nu ti : Nat → Int32) (si ro : Nat → Nat) (us : Nat → Bool) (bt : Nat → Int32) (w al now : Nat) (on : Bool) (tl ll : Nat) (k j : Int32) (hw : w ≤ 1024) : ctI l y_TM_about ws_TM_about (rmD 1) (dC, dI) classes (tys_M C) (mm P C N tx lx nu ti si ro us bt w al now on tl ll) sz [.ref (P 0), .int k, .int j] (fun (r : Int32) (_ : Unit) => r = ma_F nu ti si w k j) (fun _ => (mm P C N tx lx nu ti si ro us bt w al now on tl ll)) 0 0 := by
  refine tb_metI (own := R_TM) (by decide) rfl rfl (Nat.le_of_ble_eq_true rfl) [(0, .ref (P 0)), (1, .int k), (2, .int j)] rfl ?_
  intro p e s m below meth c A ls hx hb hr hml hts hown hlk hnm hA hK hP hD hS hl
  refine lv_aload_n hx hb d_TM_about_0 rfl (lv_at hl 0 rfl) ?_
  refine lv_iconst (v := nI 0) hx hb d_TM_about_1 (by decide) ?_
  refine mp (ty := .int) hx hb hts hown hK hP hD hS rfl 0 (by decide) rfl fl_TM_41 rfl (by decide +kernel) (rfl) (rfl) (Nat.le_of_ble_eq_true rfl) (mm P C N tx lx nu ti si ro us bt w al now on tl ll) rfl d_TM_about_2 (fun H locs hP hD hS => ?_)
  refine lv_iload_n hx hb d_TM_about_5 rfl (lv_at hl 1 rfl) ?_
  refine lv_if_lt (tgt := 17) hx hb d_TM_about_6 (by decide) (fun c_6 => ?_) (fun c_6 => ?_)
  · refine lv_iconst (v := (-1)) hx hb d_TM_about_17 (by decide) ?_
    refine lv_goto (tgt := 26) hx hb d_TM_about_18 (by decide) ?_
    have hpl : pl_F ti w k = none := by rw [pl_F, if_neg (by first | (rw [iw_0 c_6]; decide) | (rw [iw_2 (Int32.not_lt.mp c_14)]; decide))]
    refine lv_istore_n (lv' := [(3, .int (-1)), (0, .ref (P 0)), (1, .int k), (2, .int j)]) hx hb d_TM_about_26 rfl hl (by decide) rfl (fun ls hl => ?_)
    refine lv_iload_n hx hb d_TM_about_27 rfl (lv_at hl 0 rfl) ?_
    refine lv_if_ge (tgt := 33) hx hb d_TM_about_28 (by decide) (fun c_28 => ?_) (fun c_28 => ?_)
    · exact absurd c_28 (by decide)
    · refine lv_iconst (v := (-1)) hx hb d_TM_about_31 (by decide) ?_
      exact tb_reti hx hb hr hlk hK () hP hD hS (by rw [ma_F, hpl]) d_TM_about_32
  · refine lv_iload_n hx hb d_TM_about_9 rfl (lv_at hl 1 rfl) ?_
    refine lv_aload_n hx hb d_TM_about_10 rfl (lv_at hl 0 rfl) ?_
    refine mg hx hb hts hown hK hP rfl 9 (by decide) rfl fl_TM_44 rfl d_TM_about_11 ?_
    refine lv_icmp_lt (tgt := 21) hx hb d_TM_about_14 (by decide) (fun c_14 => ?_) (fun c_14 => ?_)
    · have hkn := cl_nI c_6
      have hkw : k.toNatClampNeg < w := cl_lt c_6 c_14 (by omega)
      refine lv_aload_n hx hb d_TM_about_21 rfl (lv_at hl 0 rfl) ?_
      refine lv_iload_n hx hb d_TM_about_22 rfl (lv_at hl 1 rfl) ?_
      refine tp_i (nI k.toNatClampNeg) (hkn) ?_
      refine tb_calli (mc_place l dC dI P C N H.size tx lx nu ti si ro us bt w al now on tl ll k.toNatClampNeg hw (by omega)) ⟨hx, hb, hml, hown, hts⟩ (cwV 1 hts g_TM_76 rfl rfl rfl (by decide +kernel) ⟨Nat.le_of_ble_eq_true rfl, Nat.le_of_ble_eq_true rfl⟩) hK hP hD hS hA 1 rfl 0 rfl rfl hl.1 rfl (Nat.le_of_ble_eq_true rfl) d_TM_about_23 ⟨Nat.le_refl _, Nat.le_refl _⟩ (fun r u H locs hwc hP hD hS => ?_)
      subst hwc
      have hpl : pl_F ti w k = pl_o ti k.toNatClampNeg w w 0 none := by rw [pl_F, if_pos (iw_1 c_6 (Int32.not_le.mpr c_14))]
      cases hpo : pl_o ti k.toNatClampNeg w w 0 none with
      | none =>
        rw [hpo] at hpl
        refine tp_i (-1) rfl ?_
        refine lv_istore_n (lv' := [(3, .int (-1)), (0, .ref (P 0)), (1, .int k), (2, .int j)]) hx hb d_TM_about_26 rfl hl (by decide) rfl (fun ls hl => ?_)
        refine lv_iload_n hx hb d_TM_about_27 rfl (lv_at hl 0 rfl) ?_
        refine lv_if_ge (tgt := 33) hx hb d_TM_about_28 (by decide) (fun c_28 => ?_) (fun c_28 => ?_)
        · exact absurd c_28 (by decide)
        · refine lv_iconst (v := (-1)) hx hb d_TM_about_31 (by decide) ?_
          exact tb_reti hx hb hr hlk hK () hP hD hS (by rw [ma_F, hpl]) d_TM_about_32
      | some i =>
        rw [hpo] at hpl
        have hiw : i < w := pl_lt ti _ w w 0 none (by omega) (fun j e => by cases e) i hpo
        refine tp_i (nI i) rfl ?_
        refine lv_istore_n (lv' := [(3, .int (nI i)), (0, .ref (P 0)), (1, .int k), (2, .int j)]) hx hb d_TM_about_26 rfl hl (by decide) rfl (fun ls hl => ?_)
        refine lv_iload_n hx hb d_TM_about_27 rfl (lv_at hl 0 rfl) ?_
        refine lv_if_ge (tgt := 33) hx hb d_TM_about_28 (by decide) (fun c_28 => ?_) (fun c_28 => ?_)
        · refine lv_iload_n hx hb d_TM_about_33 rfl (lv_at hl 3 rfl) ?_
          refine lv_if_ne (tgt := 46) hx hb d_TM_about_34 (by decide) (fun c_34 => ?_) (fun c_34 => ?_)
          · refine lv_iload_n hx hb d_TM_about_46 rfl (lv_at hl 3 rfl) ?_
            refine lv_iconst (v := nI 1) hx hb d_TM_about_47 (by decide) ?_
            refine lv_icmp_ne (tgt := 60) hx hb d_TM_about_48 (by decide) (fun c_48 => ?_) (fun c_48 => ?_)
            · refine lv_iload_n hx hb d_TM_about_60 rfl (lv_at hl 3 rfl) ?_
              refine lv_iconst (v := nI 2) hx hb d_TM_about_61 (by decide) ?_
              refine lv_icmp_ne (tgt := 74) hx hb d_TM_about_62 (by decide) (fun c_62 => ?_) (fun c_62 => ?_)
              · refine lv_iconst (v := (-1)) hx hb d_TM_about_74 (by decide) ?_
                exact tb_reti hx hb hr hlk hK () hP hD hS (by rw [ma_F, hpl]; simp only []; first | rw [if_pos (show j = 0 from c_34)] | rw [if_neg (show ¬ j = 0 from c_34), if_pos (show j = 1 from c_48)] | rw [if_neg (show ¬ j = 0 from c_34), if_neg (show ¬ j = 1 from c_48), if_pos (show j = 2 from c_62)] | rw [if_neg (show ¬ j = 0 from c_34), if_neg (show ¬ j = 1 from c_48), if_neg (show ¬ j = 2 from c_62)]) d_TM_about_75
              · refine lv_aload_n hx hb d_TM_about_65 rfl (lv_at hl 1 rfl) ?_
                refine mg hx hb hts hown hK hP rfl 12 (by decide) rfl fl_TM_23 rfl d_TM_about_66 ?_
                refine lv_iload_n hx hb d_TM_about_69 rfl (lv_at hl 0 rfl) ?_
                refine tb_iald hx hb hK hP 5 4 rfl rfl (by omega) (by decide) d_TM_about_70 ?_
                refine lv_goto (tgt := 75) hx hb d_TM_about_71 (by decide) ?_
                exact tb_reti hx hb hr hlk hK () hP hD hS (by rw [ma_F, hpl]; simp only []; first | rw [if_pos (show j = 0 from c_34)] | rw [if_neg (show ¬ j = 0 from c_34), if_pos (show j = 1 from c_48)] | rw [if_neg (show ¬ j = 0 from c_34), if_neg (show ¬ j = 1 from c_48), if_pos (show j = 2 from c_62)] | rw [if_neg (show ¬ j = 0 from c_34), if_neg (show ¬ j = 1 from c_48), if_neg (show ¬ j = 2 from c_62)]) d_TM_about_75
            · refine lv_aload_n hx hb d_TM_about_51 rfl (lv_at hl 1 rfl) ?_
              refine mg hx hb hts hown hK hP rfl 11 (by decide) rfl fl_TM_20 rfl d_TM_about_52 ?_
              refine lv_iload_n hx hb d_TM_about_55 rfl (lv_at hl 0 rfl) ?_
              refine tb_iald hx hb hK hP 4 3 rfl rfl (by omega) (by decide) d_TM_about_56 ?_
              refine lv_goto (tgt := 75) hx hb d_TM_about_57 (by decide) ?_
              exact tb_reti hx hb hr hlk hK () hP hD hS (by rw [ma_F, hpl]; simp only []; first | rw [if_pos (show j = 0 from c_34)] | rw [if_neg (show ¬ j = 0 from c_34), if_pos (show j = 1 from c_48)] | rw [if_neg (show ¬ j = 0 from c_34), if_neg (show ¬ j = 1 from c_48), if_pos (show j = 2 from c_62)] | rw [if_neg (show ¬ j = 0 from c_34), if_neg (show ¬ j = 1 from c_48), if_neg (show ¬ j = 2 from c_62)]) d_TM_about_75
          · refine lv_aload_n hx hb d_TM_about_37 rfl (lv_at hl 1 rfl) ?_
            refine mg hx hb hts hown hK hP rfl 10 (by decide) rfl fl_TM_16 rfl d_TM_about_38 ?_
            refine lv_iload_n hx hb d_TM_about_41 rfl (lv_at hl 0 rfl) ?_
            refine tb_iald hx hb hK hP 3 2 rfl rfl (by omega) (by decide) d_TM_about_42 ?_
            refine lv_goto (tgt := 75) hx hb d_TM_about_43 (by decide) ?_
            exact tb_reti hx hb hr hlk hK () hP hD hS (by rw [ma_F, hpl]; simp only []; first | rw [if_pos (show j = 0 from c_34)] | rw [if_neg (show ¬ j = 0 from c_34), if_pos (show j = 1 from c_48)] | rw [if_neg (show ¬ j = 0 from c_34), if_neg (show ¬ j = 1 from c_48), if_pos (show j = 2 from c_62)] | rw [if_neg (show ¬ j = 0 from c_34), if_neg (show ¬ j = 1 from c_48), if_neg (show ¬ j = 2 from c_62)]) d_TM_about_75
        · exact absurd (nI_pos' (by omega)) c_28
    · refine lv_iconst (v := (-1)) hx hb d_TM_about_17 (by decide) ?_
      refine lv_goto (tgt := 26) hx hb d_TM_about_18 (by decide) ?_
      have hpl : pl_F ti w k = none := by rw [pl_F, if_neg (by first | (rw [iw_0 c_6]; decide) | (rw [iw_2 (Int32.not_lt.mp c_14)]; decide))]
      refine lv_istore_n (lv' := [(3, .int (-1)), (0, .ref (P 0)), (1, .int k), (2, .int j)]) hx hb d_TM_about_26 rfl hl (by decide) rfl (fun ls hl => ?_)
      refine lv_iload_n hx hb d_TM_about_27 rfl (lv_at hl 0 rfl) ?_
      refine lv_if_ge (tgt := 33) hx hb d_TM_about_28 (by decide) (fun c_28 => ?_) (fun c_28 => ?_)
      · exact absurd c_28 (by decide)
      · refine lv_iconst (v := (-1)) hx hb d_TM_about_31 (by decide) ?_
        exact tb_reti hx hb hr hlk hK () hP hD hS (by rw [ma_F, hpl]) d_TM_about_32

set_option maxHeartbeats 4000000 in
set_option maxRecDepth 100000 in
/-- the reference: byteAt -/
theorem mc_byteAt (l : Launch) (dC : Nat → ClassId) (dI : Nat → Nat → Nat) (P : Nat → Nat) (C : Nat → ClassId) (N sz : Nat) (tx lx nu ti : Nat → Int32) (si ro : Nat → Nat) (us : Nat → Bool) (bt : Nat → Int32) (w al now : Nat) (on : Bool) (tl ll : Nat) (k j : Int32) (hw : w ≤ 1024) (hro : ∀ j, j < w → ro j < 1024) (hsi : ∀ j, j < w → si j ≤ 256) : ctI l y_TM_byteAt ws_TM_byteAt (rmD 1) (dC, dI) classes (tys_M C) (mm P C N tx lx nu ti si ro us bt w al now on tl ll) sz [.ref (P 0), .int k, .int j] (fun (r : Int32) (_ : Unit) => r = mb_F bt ti si ro w k j) (fun _ => (mm P C N tx lx nu ti si ro us bt w al now on tl ll)) 0 0 := by
  refine tb_metI (own := R_TM) (by decide) rfl rfl (Nat.le_of_ble_eq_true rfl) [(0, .ref (P 0)), (1, .int k), (2, .int j)] rfl ?_
  intro p e s m below meth c A ls hx hb hr hml hts hown hlk hnm hA hK hP hD hS hl
  refine lv_aload_n hx hb d_TM_byteAt_0 rfl (lv_at hl 0 rfl) ?_
  refine lv_iconst (v := nI 0) hx hb d_TM_byteAt_1 (by decide) ?_
  refine mp (ty := .int) hx hb hts hown hK hP hD hS rfl 0 (by decide) rfl fl_TM_41 rfl (by decide +kernel) (rfl) (rfl) (Nat.le_of_ble_eq_true rfl) (mm P C N tx lx nu ti si ro us bt w al now on tl ll) rfl d_TM_byteAt_2 (fun H locs hP hD hS => ?_)
  refine lv_iload_n hx hb d_TM_byteAt_5 rfl (lv_at hl 1 rfl) ?_
  refine lv_if_lt (tgt := 17) hx hb d_TM_byteAt_6 (by decide) (fun c_6 => ?_) (fun c_6 => ?_)
  · refine lv_iconst (v := (-1)) hx hb d_TM_byteAt_17 (by decide) ?_
    refine lv_goto (tgt := 26) hx hb d_TM_byteAt_18 (by decide) ?_
    have hpl : pl_F ti w k = none := by rw [pl_F, if_neg (by first | (rw [iw_0 c_6]; decide) | (rw [iw_2 (Int32.not_lt.mp c_14)]; decide))]
    refine lv_istore_n (lv' := [(3, .int (-1)), (0, .ref (P 0)), (1, .int k), (2, .int j)]) hx hb d_TM_byteAt_26 rfl hl (by decide) rfl (fun ls hl => ?_)
    refine lv_iload_n hx hb d_TM_byteAt_27 rfl (lv_at hl 0 rfl) ?_
    refine lv_if_lt (tgt := 45) hx hb d_TM_byteAt_28 (by decide) (fun c_28 => ?_) (fun c_28 => ?_)
    · refine lv_iconst (v := (-1)) hx hb d_TM_byteAt_45 (by decide) ?_
      refine lv_goto (tgt := 70) hx hb d_TM_byteAt_46 (by decide) ?_
      exact tb_reti hx hb hr hlk hK () hP hD hS (by rw [mb_F, hpl]) d_TM_byteAt_70
    · exact absurd (show (-1 : Int32) < 0 by decide) c_28
  · refine lv_iload_n hx hb d_TM_byteAt_9 rfl (lv_at hl 1 rfl) ?_
    refine lv_aload_n hx hb d_TM_byteAt_10 rfl (lv_at hl 0 rfl) ?_
    refine mg hx hb hts hown hK hP rfl 9 (by decide) rfl fl_TM_44 rfl d_TM_byteAt_11 ?_
    refine lv_icmp_lt (tgt := 21) hx hb d_TM_byteAt_14 (by decide) (fun c_14 => ?_) (fun c_14 => ?_)
    · have hkn := cl_nI c_6
      have hkw : k.toNatClampNeg < w := cl_lt c_6 c_14 (by omega)
      refine lv_aload_n hx hb d_TM_byteAt_21 rfl (lv_at hl 0 rfl) ?_
      refine lv_iload_n hx hb d_TM_byteAt_22 rfl (lv_at hl 1 rfl) ?_
      refine tp_i (nI k.toNatClampNeg) (hkn) ?_
      refine tb_calli (mc_place l dC dI P C N H.size tx lx nu ti si ro us bt w al now on tl ll k.toNatClampNeg hw (by omega)) ⟨hx, hb, hml, hown, hts⟩ (cwV 1 hts g_TM_76 rfl rfl rfl (by decide +kernel) ⟨Nat.le_of_ble_eq_true rfl, Nat.le_of_ble_eq_true rfl⟩) hK hP hD hS hA 1 rfl 0 rfl rfl hl.1 rfl (Nat.le_of_ble_eq_true rfl) d_TM_byteAt_23 ⟨Nat.le_refl _, Nat.le_refl _⟩ (fun r u H locs hwc hP hD hS => ?_)
      subst hwc
      have hpl : pl_F ti w k = pl_o ti k.toNatClampNeg w w 0 none := by rw [pl_F, if_pos (iw_1 c_6 (Int32.not_le.mpr c_14))]
      cases hpo : pl_o ti k.toNatClampNeg w w 0 none with
      | none =>
        rw [hpo] at hpl
        refine tp_i (-1) rfl ?_
        refine lv_istore_n (lv' := [(3, .int (-1)), (0, .ref (P 0)), (1, .int k), (2, .int j)]) hx hb d_TM_byteAt_26 rfl hl (by decide) rfl (fun ls hl => ?_)
        refine lv_iload_n hx hb d_TM_byteAt_27 rfl (lv_at hl 0 rfl) ?_
        refine lv_if_lt (tgt := 45) hx hb d_TM_byteAt_28 (by decide) (fun c_28 => ?_) (fun c_28 => ?_)
        · refine lv_iconst (v := (-1)) hx hb d_TM_byteAt_45 (by decide) ?_
          refine lv_goto (tgt := 70) hx hb d_TM_byteAt_46 (by decide) ?_
          exact tb_reti hx hb hr hlk hK () hP hD hS (by rw [mb_F, hpl]) d_TM_byteAt_70
        · exact absurd (show (-1 : Int32) < 0 by decide) c_28
      | some i =>
        rw [hpo] at hpl
        have hiw : i < w := pl_lt ti _ w w 0 none (by omega) (fun j e => by cases e) i hpo
        refine tp_i (nI i) rfl ?_
        refine lv_istore_n (lv' := [(3, .int (nI i)), (0, .ref (P 0)), (1, .int k), (2, .int j)]) hx hb d_TM_byteAt_26 rfl hl (by decide) rfl (fun ls hl => ?_)
        refine lv_iload_n hx hb d_TM_byteAt_27 rfl (lv_at hl 0 rfl) ?_
        refine lv_if_lt (tgt := 45) hx hb d_TM_byteAt_28 (by decide) (fun c_28 => ?_) (fun c_28 => ?_)
        · exact absurd c_28 (nI_pos (by omega))
        · refine lv_iload_n hx hb d_TM_byteAt_31 rfl (lv_at hl 3 rfl) ?_
          refine lv_if_lt (tgt := 45) hx hb d_TM_byteAt_32 (by decide) (fun c_32 => ?_) (fun c_32 => ?_)
          · refine lv_iconst (v := (-1)) hx hb d_TM_byteAt_45 (by decide) ?_
            refine lv_goto (tgt := 70) hx hb d_TM_byteAt_46 (by decide) ?_
            exact tb_reti hx hb hr hlk hK () hP hD hS (by rw [mb_F, hpl]; simp only []; first | rw [bo_0 c_32] | rw [bo_1 (Int32.not_lt.mp c_42)] | rw [bo_2 c_32 (Int32.not_le.mpr c_42)]) d_TM_byteAt_70
          · refine lv_iload_n hx hb d_TM_byteAt_35 rfl (lv_at hl 3 rfl) ?_
            refine lv_aload_n hx hb d_TM_byteAt_36 rfl (lv_at hl 1 rfl) ?_
            refine mg hx hb hts hown hK hP rfl 12 (by decide) rfl fl_TM_23 rfl d_TM_byteAt_37 ?_
            refine lv_iload_n hx hb d_TM_byteAt_40 rfl (lv_at hl 0 rfl) ?_
            refine tb_iald hx hb hK hP 5 4 rfl rfl (by omega) (by decide) d_TM_byteAt_41 ?_
            refine lv_icmp_lt (tgt := 49) hx hb d_TM_byteAt_42 (by decide) (fun c_42 => ?_) (fun c_42 => ?_)
            · have hj := cl_nI c_32
              have z1 := hro i hiw
              have z2 := hsi i hiw
              have hjb : j.toNatClampNeg < si i := cl_lt c_32 c_42 (by omega)
              refine lv_aload_n hx hb d_TM_byteAt_49 rfl (lv_at hl 1 rfl) ?_
              refine mg hx hb hts hown hK hP rfl 15 (by decide) rfl fl_TM_34 rfl d_TM_byteAt_50 ?_
              refine lv_sipush (v := nI 256) hx hb d_TM_byteAt_53 (by decide) ?_
              refine lv_aload_n hx hb d_TM_byteAt_56 rfl (lv_at hl 1 rfl) ?_
              refine mg hx hb hts hown hK hP rfl 13 (by decide) rfl fl_TM_26 rfl d_TM_byteAt_57 ?_
              refine lv_iload_n hx hb d_TM_byteAt_60 rfl (lv_at hl 0 rfl) ?_
              refine tb_iald hx hb hK hP 6 5 rfl rfl (by omega) (by decide) d_TM_byteAt_61 ?_
              refine lv_imul hx hb d_TM_byteAt_62 ?_
              refine tp_i (nI (256 * ro i)) (pk_mul _ _) ?_
              refine lv_iload_n hx hb d_TM_byteAt_63 rfl (lv_at hl 3 rfl) ?_
              refine tp_i (nI j.toNatClampNeg) (hj) ?_
              refine lv_iadd hx hb d_TM_byteAt_64 ?_
              refine tp_i (nI (256 * ro i + j.toNatClampNeg)) (nI_add _ _) ?_
              refine tb_bald hx hb hK hP 8 7 rfl rfl (by omega) (by decide) d_TM_byteAt_65 ?_
              refine lv_sipush (v := nI 255) hx hb d_TM_byteAt_66 (by decide) ?_
              refine lv_iand hx hb d_TM_byteAt_69 ?_
              exact tb_reti hx hb hr hlk hK () hP hD hS (by rw [mb_F, hpl]; simp only []; first | rw [bo_0 c_32] | rw [bo_1 (Int32.not_lt.mp c_42)] | rw [bo_2 c_32 (Int32.not_le.mpr c_42)]) d_TM_byteAt_70
            · refine lv_iconst (v := (-1)) hx hb d_TM_byteAt_45 (by decide) ?_
              refine lv_goto (tgt := 70) hx hb d_TM_byteAt_46 (by decide) ?_
              exact tb_reti hx hb hr hlk hK () hP hD hS (by rw [mb_F, hpl]; simp only []; first | rw [bo_0 c_32] | rw [bo_1 (Int32.not_lt.mp c_42)] | rw [bo_2 c_32 (Int32.not_le.mpr c_42)]) d_TM_byteAt_70
    · refine lv_iconst (v := (-1)) hx hb d_TM_byteAt_17 (by decide) ?_
      refine lv_goto (tgt := 26) hx hb d_TM_byteAt_18 (by decide) ?_
      have hpl : pl_F ti w k = none := by rw [pl_F, if_neg (by first | (rw [iw_0 c_6]; decide) | (rw [iw_2 (Int32.not_lt.mp c_14)]; decide))]
      refine lv_istore_n (lv' := [(3, .int (-1)), (0, .ref (P 0)), (1, .int k), (2, .int j)]) hx hb d_TM_byteAt_26 rfl hl (by decide) rfl (fun ls hl => ?_)
      refine lv_iload_n hx hb d_TM_byteAt_27 rfl (lv_at hl 0 rfl) ?_
      refine lv_if_lt (tgt := 45) hx hb d_TM_byteAt_28 (by decide) (fun c_28 => ?_) (fun c_28 => ?_)
      · refine lv_iconst (v := (-1)) hx hb d_TM_byteAt_45 (by decide) ?_
        refine lv_goto (tgt := 70) hx hb d_TM_byteAt_46 (by decide) ?_
        exact tb_reti hx hb hr hlk hK () hP hD hS (by rw [mb_F, hpl]) d_TM_byteAt_70
      · exact absurd (show (-1 : Int32) < 0 by decide) c_28
