set_option maxHeartbeats 4000000 in
set_option maxRecDepth 100000 in
/-- the reference: in -/
theorem mc_in (l : Launch) (dC : Nat → ClassId) (dI : Nat → Nat → Nat) (P : Nat → Nat) (C : Nat → ClassId) (N sz : Nat) (tx lx nu ti : Nat → Int32) (si ro : Nat → Nat) (us : Nat → Bool) (bt : Nat → Int32) (w al now : Nat) (on : Bool) (tl ll : Nat) (i : Nat) (f t : Int32) (hi : i < 1024) : ctI l y_TM_in ws_TM_in (rmD 0) (dC, dI) classes (tys_M C) (mm P C N tx lx nu ti si ro us bt w al now on tl ll) sz [.ref (P 0), .int (nI i), .int f, .int t] (fun (r : Int32) (_ : Unit) => r = bI (in_S ti f t i)) (fun _ => (mm P C N tx lx nu ti si ro us bt w al now on tl ll)) 0 0 := by
  refine tb_metI (own := R_TM) (by decide) rfl rfl (Nat.le_of_ble_eq_true rfl) [(0, .ref (P 0)), (1, .int (nI i)), (2, .int f), (3, .int t)] rfl ?_
  intro p e s m below meth c A ls hx hb hr hml hts hown hlk hnm hA hK hP hD hS hl
  refine lv_aload_n hx hb d_TM_in_0 rfl (lv_at hl 0 rfl) ?_
  refine mg hx hb hts hown hK hP rfl 11 (by decide) rfl fl_TM_20 rfl d_TM_in_1 ?_
  refine lv_iload_n hx hb d_TM_in_4 rfl (lv_at hl 1 rfl) ?_
  refine tb_iald hx hb hK hP 4 3 rfl rfl (by omega) (by decide) d_TM_in_5 ?_
  refine lv_iload_n hx hb d_TM_in_6 rfl (lv_at hl 2 rfl) ?_
  refine lv_icmp_lt (tgt := 24) hx hb d_TM_in_7 (by decide) (fun c_7 => ?_) (fun c_7 => ?_)
  · refine lv_iconst (v := nI 0) hx hb d_TM_in_24 (by decide) ?_
    exact tb_retz hx hb hr hlk hK () hP hD hS (by first | rfl | decide) (by first | (rw [in_S_f1 c_7]; rfl) | (rw [in_S_f2 c_17]; rfl) | (rw [in_S_t c_7 c_17]; rfl)) d_TM_in_25
  · refine lv_aload_n hx hb d_TM_in_10 rfl (lv_at hl 0 rfl) ?_
    refine mg hx hb hts hown hK hP rfl 11 (by decide) rfl fl_TM_20 rfl d_TM_in_11 ?_
    refine lv_iload_n hx hb d_TM_in_14 rfl (lv_at hl 1 rfl) ?_
    refine tb_iald hx hb hK hP 4 3 rfl rfl (by omega) (by decide) d_TM_in_15 ?_
    refine lv_iload_n hx hb d_TM_in_16 rfl (lv_at hl 3 rfl) ?_
    refine lv_icmp_gt (tgt := 24) hx hb d_TM_in_17 (by decide) (fun c_17 => ?_) (fun c_17 => ?_)
    · refine lv_iconst (v := nI 0) hx hb d_TM_in_24 (by decide) ?_
      exact tb_retz hx hb hr hlk hK () hP hD hS (by first | rfl | decide) (by first | (rw [in_S_f1 c_7]; rfl) | (rw [in_S_f2 c_17]; rfl) | (rw [in_S_t c_7 c_17]; rfl)) d_TM_in_25
    · refine lv_iconst (v := nI 1) hx hb d_TM_in_20 (by decide) ?_
      refine lv_goto (tgt := 25) hx hb d_TM_in_21 (by decide) ?_
      exact tb_retz hx hb hr hlk hK () hP hD hS (by first | rfl | decide) (by first | (rw [in_S_f1 c_7]; rfl) | (rw [in_S_f2 c_17]; rfl) | (rw [in_S_t c_7 c_17]; rfl)) d_TM_in_25

set_option maxHeartbeats 4000000 in
set_option maxRecDepth 100000 in
/-- the reference: place -/
theorem mc_place (l : Launch) (dC : Nat → ClassId) (dI : Nat → Nat → Nat) (P : Nat → Nat) (C : Nat → ClassId) (N sz : Nat) (tx lx nu ti : Nat → Int32) (si ro : Nat → Nat) (us : Nat → Bool) (bt : Nat → Int32) (w al now : Nat) (on : Bool) (tl ll : Nat) (kk : Nat) (hw : w ≤ 1024) (hk : kk < 2 ^ 31) : ctI l y_TM_place ws_TM_place (rmD 0) (dC, dI) classes (tys_M C) (mm P C N tx lx nu ti si ro us bt w al now on tl ll) sz [.ref (P 0), .int (nI kk)] (fun (r : Int32) (_ : Unit) => r = oI (pl_o ti kk w w 0 none)) (fun _ => (mm P C N tx lx nu ti si ro us bt w al now on tl ll)) 0 0 := by
  refine tb_metI (own := R_TM) (by decide) rfl rfl (Nat.le_of_ble_eq_true rfl) [(0, .ref (P 0)), (1, .int (nI kk))] rfl ?_
  intro p e s m below meth c A ls hx hb hr hml hts hown hlk hnm hA hK hP hD hS hl
  have loop : ∀ (n i : Nat) (o : Option Nat) (H : Heap) (locs : List Loc) (ls : Array Slot), i + n = w → pl_o ti kk w n i o = pl_o ti kk w w 0 none → va_P (dC, dI) classes (mm P C N tx lx nu ti si ro us bt w al now on tl ll) H → va_D A (mm P C N tx lx nu ti si ro us bt w al now on tl ll) → va_S A s.heap H locs → lv_has ls 6 [(3, .int (nI i)), (2, .int (oI o)), (0, .ref (P 0)), (1, .int (nI kk))] → W p l e (rmD 0) s m [Value.ref (P 0), .int (nI kk)].toArray below meth c H locs 0 0 (MQ below (va_Qi (fun (r : Int32) (_ : Unit) => r = oI (pl_o ti kk w w 0 none)) (fun u tS => va_P (dC, dI) classes ((fun _ => (mm P C N tx lx nu ti si ro us bt w al now on tl ll)) u) tS.heap ∧ va_K (dC, dI) classes (tys_M C) tS ∧ va_D A ((fun _ => (mm P C N tx lx nu ti si ro us bt w al now on tl ll)) u)) A) [Value.ref (P 0), .int (nI kk)].toArray s 0 0 A) (F0 m 4 ls []) := by
    clear hP hD hS hl
    intro n
    induction n with
    | zero =>
      intro i o H locs ls hi hr0 hP hD hS hl
      refine lv_iload_n hx hb d_TM_place_4 rfl (lv_at hl 0 rfl) ?_
      refine lv_aload_n hx hb d_TM_place_5 rfl (lv_at hl 2 rfl) ?_
      refine mg hx hb hts hown hK hP rfl 9 (by decide) rfl fl_TM_44 rfl d_TM_place_6 ?_
      refine lv_icmp_ge (tgt := 99) hx hb d_TM_place_9 (by decide) (fun c_9 => ?_) (fun c_9 => ?_)
      · refine lv_iload_n hx hb d_TM_place_99 rfl (lv_at hl 1 rfl) ?_
        exact tb_reti hx hb hr hlk hK () hP hD hS (by rw [← hr0]; rfl) d_TM_place_100
      · exact absurd (nI_le (by omega) (by omega)) c_9
    | succ n ih =>
      intro i o H locs ls hi hr0 hP hD hS hl
      refine lv_iload_n hx hb d_TM_place_4 rfl (lv_at hl 0 rfl) ?_
      refine lv_aload_n hx hb d_TM_place_5 rfl (lv_at hl 2 rfl) ?_
      refine mg hx hb hts hown hK hP rfl 9 (by decide) rfl fl_TM_44 rfl d_TM_place_6 ?_
      refine lv_icmp_ge (tgt := 99) hx hb d_TM_place_9 (by decide) (fun c_9 => ?_) (fun c_9 => ?_)
      · exact absurd ((nI_leI (by omega) (by omega)).mp c_9) (by omega)
      · refine lv_iconst (v := nI 0) hx hb d_TM_place_12 (by decide) ?_
        refine lv_istore (lv' := [(4, .int (nI 0)), (3, .int (nI i)), (2, .int (oI o)), (0, .ref (P 0)), (1, .int (nI kk))]) hx hb d_TM_place_13 hl (by decide) rfl (fun ls hl => ?_)
        refine lv_iconst (v := nI 0) hx hb d_TM_place_15 (by decide) ?_
        refine lv_istore (lv' := [(5, .int (nI 0)), (4, .int (nI 0)), (3, .int (nI i)), (2, .int (oI o)), (0, .ref (P 0)), (1, .int (nI kk))]) hx hb d_TM_place_16 hl (by decide) rfl (fun ls hl => ?_)
        have inner : ∀ (n2 j q : Nat) (H : Heap) (locs : List Loc) (ls : Array Slot), j + n2 = w → q ≤ j → pl_i ti i n2 j q = pl_i ti i w 0 0 → va_P (dC, dI) classes (mm P C N tx lx nu ti si ro us bt w al now on tl ll) H → va_D A (mm P C N tx lx nu ti si ro us bt w al now on tl ll) → va_S A s.heap H locs → lv_has ls 6 [(5, .int (nI j)), (4, .int (nI q)), (3, .int (nI i)), (2, .int (oI o)), (0, .ref (P 0)), (1, .int (nI kk))] → W p l e (rmD 0) s m [Value.ref (P 0), .int (nI kk)].toArray below meth c H locs 0 0 (MQ below (va_Qi (fun (r : Int32) (_ : Unit) => r = oI (pl_o ti kk w w 0 none)) (fun u tS => va_P (dC, dI) classes ((fun _ => (mm P C N tx lx nu ti si ro us bt w al now on tl ll)) u) tS.heap ∧ va_K (dC, dI) classes (tys_M C) tS ∧ va_D A ((fun _ => (mm P C N tx lx nu ti si ro us bt w al now on tl ll)) u)) A) [Value.ref (P 0), .int (nI kk)].toArray s 0 0 A) (F0 m 18 ls []) := by
          clear hP hD hS hl
          intro n2
          induction n2 with
          | zero =>
            intro j q H locs ls hj hqj hri hP hD hS hl
            refine lv_iload hx hb d_TM_place_18 (lv_at hl 0 rfl) ?_
            refine lv_aload_n hx hb d_TM_place_20 rfl (lv_at hl 4 rfl) ?_
            refine mg hx hb hts hown hK hP rfl 9 (by decide) rfl fl_TM_44 rfl d_TM_place_21 ?_
            refine lv_icmp_ge (tgt := 81) hx hb d_TM_place_24 (by decide) (fun c_24 => ?_) (fun c_24 => ?_)
            · have hri : q = pl_i ti i w 0 0 := hri
              refine lv_iload hx hb d_TM_place_81 (lv_at hl 1 rfl) ?_
              refine lv_iload_n hx hb d_TM_place_83 rfl (lv_at hl 5 rfl) ?_
              refine lv_icmp_ne (tgt := 91) hx hb d_TM_place_84 (by decide) (fun c_84 => ?_) (fun c_84 => ?_)
              · have c_84 : ¬ q = kk := fun q => c_84 ((nI_eq (by omega) (by omega)).mpr q)
                refine lv_iload_n hx hb d_TM_place_91 rfl (lv_at hl 3 rfl) ?_
                refine lv_istore_n (lv' := [(2, .int (oI o)), (5, .int (nI j)), (4, .int (nI q)), (3, .int (nI i)), (0, .ref (P 0)), (1, .int (nI kk))]) hx hb d_TM_place_92 rfl hl (by decide) rfl (fun ls hl => ?_)
                refine lv_iinc (v := nI (i + 1)) (lv' := [(3, .int (nI (i + 1))), (2, .int (oI o)), (5, .int (nI j)), (4, .int (nI q)), (0, .ref (P 0)), (1, .int (nI kk))]) hx hb d_TM_place_93 hl (k := 3) rfl (nI_1 _) (by decide) rfl (fun ls hl => ?_)
                refine lv_goto (tgt := 4) hx hb d_TM_place_96 (by decide) ?_
                exact ih (i + 1) o _ _ _ (by omega) (by rw [← hr0, pl_o, if_neg (by rw [← hri]; exact c_84)]) hP hD hS (lv_sub hl [0, 1, 4, 5] rfl)
              · have c_84 : q = kk := (nI_eq (by omega) (by omega)).mp c_84
                refine lv_iload_n hx hb d_TM_place_87 rfl (lv_at hl 2 rfl) ?_
                refine lv_goto (tgt := 92) hx hb d_TM_place_88 (by decide) ?_
                refine lv_istore_n (lv' := [(2, .int (nI i)), (5, .int (nI j)), (4, .int (nI q)), (3, .int (nI i)), (0, .ref (P 0)), (1, .int (nI kk))]) hx hb d_TM_place_92 rfl hl (by decide) rfl (fun ls hl => ?_)
                refine lv_iinc (v := nI (i + 1)) (lv' := [(3, .int (nI (i + 1))), (2, .int (nI i)), (5, .int (nI j)), (4, .int (nI q)), (0, .ref (P 0)), (1, .int (nI kk))]) hx hb d_TM_place_93 hl (k := 3) rfl (nI_1 _) (by decide) rfl (fun ls hl => ?_)
                refine lv_goto (tgt := 4) hx hb d_TM_place_96 (by decide) ?_
                exact ih (i + 1) (some i) _ _ _ (by omega) (by rw [← hr0, pl_o, if_pos (by rw [← hri]; exact c_84)]) hP hD hS (lv_sub hl [0, 1, 4, 5] rfl)
            · exact absurd (nI_le (by omega) (by omega)) c_24
          | succ n2 ih2 =>
            intro j q H locs ls hj hqj hri hP hD hS hl
            refine lv_iload hx hb d_TM_place_18 (lv_at hl 0 rfl) ?_
            refine lv_aload_n hx hb d_TM_place_20 rfl (lv_at hl 4 rfl) ?_
            refine mg hx hb hts hown hK hP rfl 9 (by decide) rfl fl_TM_44 rfl d_TM_place_21 ?_
            refine lv_icmp_ge (tgt := 81) hx hb d_TM_place_24 (by decide) (fun c_24 => ?_) (fun c_24 => ?_)
            · exact absurd ((nI_leI (by omega) (by omega)).mp c_24) (by omega)
            · refine lv_iload hx hb d_TM_place_27 (lv_at hl 1 rfl) ?_
              refine lv_aload_n hx hb d_TM_place_29 rfl (lv_at hl 4 rfl) ?_
              refine mg hx hb hts hown hK hP rfl 11 (by decide) rfl fl_TM_20 rfl d_TM_place_30 ?_
              refine lv_iload hx hb d_TM_place_33 (lv_at hl 0 rfl) ?_
              refine tb_iald hx hb hK hP 4 3 rfl rfl (by omega) (by decide) d_TM_place_35 ?_
              refine lv_aload_n hx hb d_TM_place_36 rfl (lv_at hl 4 rfl) ?_
              refine mg hx hb hts hown hK hP rfl 11 (by decide) rfl fl_TM_20 rfl d_TM_place_37 ?_
              refine lv_iload_n hx hb d_TM_place_40 rfl (lv_at hl 2 rfl) ?_
              refine tb_iald hx hb hK hP 4 3 rfl rfl (by omega) (by decide) d_TM_place_41 ?_
              refine lv_icmp_lt (tgt := 67) hx hb d_TM_place_42 (by decide) (fun c_42 => ?_) (fun c_42 => ?_)
              · refine lv_iconst (v := nI 1) hx hb d_TM_place_67 (by decide) ?_
                refine lv_goto (tgt := 72) hx hb d_TM_place_68 (by decide) ?_
                refine lv_iadd hx hb d_TM_place_72 ?_
                refine tp_i (nI (q + 1)) (nI_add _ _) ?_
                refine lv_istore (lv' := [(4, .int (nI (q + 1))), (5, .int (nI j)), (3, .int (nI i)), (2, .int (oI o)), (0, .ref (P 0)), (1, .int (nI kk))]) hx hb d_TM_place_73 hl (by decide) rfl (fun ls hl => ?_)
                refine lv_iinc (v := nI (j + 1)) (lv' := [(5, .int (nI (j + 1))), (4, .int (nI (q + 1))), (3, .int (nI i)), (2, .int (oI o)), (0, .ref (P 0)), (1, .int (nI kk))]) hx hb d_TM_place_75 hl (k := 1) rfl (nI_1 _) (by decide) rfl (fun ls hl => ?_)
                refine lv_goto (tgt := 18) hx hb d_TM_place_78 (by decide) ?_
                exact ih2 _ _ _ _ _ (by omega) (by omega) (by rw [← hri, pl_i, if_pos (by first | exact bf_M1 c_42 | exact bf_M3 c_58 c_64)]) hP hD hS (lv_sub hl [0, 1, 2, 3, 4, 5] rfl)
              · refine lv_aload_n hx hb d_TM_place_45 rfl (lv_at hl 4 rfl) ?_
                refine mg hx hb hts hown hK hP rfl 11 (by decide) rfl fl_TM_20 rfl d_TM_place_46 ?_
                refine lv_iload hx hb d_TM_place_49 (lv_at hl 0 rfl) ?_
                refine tb_iald hx hb hK hP 4 3 rfl rfl (by omega) (by decide) d_TM_place_51 ?_
                refine lv_aload_n hx hb d_TM_place_52 rfl (lv_at hl 4 rfl) ?_
                refine mg hx hb hts hown hK hP rfl 11 (by decide) rfl fl_TM_20 rfl d_TM_place_53 ?_
                refine lv_iload_n hx hb d_TM_place_56 rfl (lv_at hl 2 rfl) ?_
                refine tb_iald hx hb hK hP 4 3 rfl rfl (by omega) (by decide) d_TM_place_57 ?_
                refine lv_icmp_ne (tgt := 71) hx hb d_TM_place_58 (by decide) (fun c_58 => ?_) (fun c_58 => ?_)
                · refine lv_iconst (v := nI 0) hx hb d_TM_place_71 (by decide) ?_
                  refine lv_iadd hx hb d_TM_place_72 ?_
                  refine tp_i (nI (q + 0)) (nI_add _ _) ?_
                  refine lv_istore (lv' := [(4, .int (nI (q + 0))), (5, .int (nI j)), (3, .int (nI i)), (2, .int (oI o)), (0, .ref (P 0)), (1, .int (nI kk))]) hx hb d_TM_place_73 hl (by decide) rfl (fun ls hl => ?_)
                  refine lv_iinc (v := nI (j + 1)) (lv' := [(5, .int (nI (j + 1))), (4, .int (nI (q + 0))), (3, .int (nI i)), (2, .int (oI o)), (0, .ref (P 0)), (1, .int (nI kk))]) hx hb d_TM_place_75 hl (k := 1) rfl (nI_1 _) (by decide) rfl (fun ls hl => ?_)
                  refine lv_goto (tgt := 18) hx hb d_TM_place_78 (by decide) ?_
                  exact ih2 _ (q + 0) _ _ _ (by omega) (by omega) (by rw [← hri, pl_i, if_neg (by first | (rw [bf_M2 c_42 c_58]; decide) | (rw [bf_M4 c_42 c_64]; decide))]; rfl) hP hD hS (lv_sub hl [0, 1, 2, 3, 4, 5] rfl)
                · refine lv_iload hx hb d_TM_place_61 (lv_at hl 0 rfl) ?_
                  refine lv_iload_n hx hb d_TM_place_63 rfl (lv_at hl 2 rfl) ?_
                  refine lv_icmp_ge (tgt := 71) hx hb d_TM_place_64 (by decide) (fun c_64 => ?_) (fun c_64 => ?_)
                  · have c_64 : i ≤ j := (nI_leI (by omega) (by omega)).mp c_64
                    refine lv_iconst (v := nI 0) hx hb d_TM_place_71 (by decide) ?_
                    refine lv_iadd hx hb d_TM_place_72 ?_
                    refine tp_i (nI (q + 0)) (nI_add _ _) ?_
                    refine lv_istore (lv' := [(4, .int (nI (q + 0))), (5, .int (nI j)), (3, .int (nI i)), (2, .int (oI o)), (0, .ref (P 0)), (1, .int (nI kk))]) hx hb d_TM_place_73 hl (by decide) rfl (fun ls hl => ?_)
                    refine lv_iinc (v := nI (j + 1)) (lv' := [(5, .int (nI (j + 1))), (4, .int (nI (q + 0))), (3, .int (nI i)), (2, .int (oI o)), (0, .ref (P 0)), (1, .int (nI kk))]) hx hb d_TM_place_75 hl (k := 1) rfl (nI_1 _) (by decide) rfl (fun ls hl => ?_)
                    refine lv_goto (tgt := 18) hx hb d_TM_place_78 (by decide) ?_
                    exact ih2 _ (q + 0) _ _ _ (by omega) (by omega) (by rw [← hri, pl_i, if_neg (by first | (rw [bf_M2 c_42 c_58]; decide) | (rw [bf_M4 c_42 c_64]; decide))]; rfl) hP hD hS (lv_sub hl [0, 1, 2, 3, 4, 5] rfl)
                  · have c_64 : ¬ i ≤ j := fun q => c_64 ((nI_leI (by omega) (by omega)).mpr q)
                    refine lv_iconst (v := nI 1) hx hb d_TM_place_67 (by decide) ?_
                    refine lv_goto (tgt := 72) hx hb d_TM_place_68 (by decide) ?_
                    refine lv_iadd hx hb d_TM_place_72 ?_
                    refine tp_i (nI (q + 1)) (nI_add _ _) ?_
                    refine lv_istore (lv' := [(4, .int (nI (q + 1))), (5, .int (nI j)), (3, .int (nI i)), (2, .int (oI o)), (0, .ref (P 0)), (1, .int (nI kk))]) hx hb d_TM_place_73 hl (by decide) rfl (fun ls hl => ?_)
                    refine lv_iinc (v := nI (j + 1)) (lv' := [(5, .int (nI (j + 1))), (4, .int (nI (q + 1))), (3, .int (nI i)), (2, .int (oI o)), (0, .ref (P 0)), (1, .int (nI kk))]) hx hb d_TM_place_75 hl (k := 1) rfl (nI_1 _) (by decide) rfl (fun ls hl => ?_)
                    refine lv_goto (tgt := 18) hx hb d_TM_place_78 (by decide) ?_
                    exact ih2 _ _ _ _ _ (by omega) (by omega) (by rw [← hri, pl_i, if_pos (by first | exact bf_M1 c_42 | exact bf_M3 c_58 c_64)]) hP hD hS (lv_sub hl [0, 1, 2, 3, 4, 5] rfl)
        exact inner w 0 0 _ _ _ (by omega) (by omega) rfl hP hD hS (lv_sub hl [0, 1, 2, 3, 4, 5] rfl)
  refine lv_iconst (v := (-1)) hx hb d_TM_place_0 (by decide) ?_
  refine lv_istore_n (lv' := [(2, .int (-1)), (0, .ref (P 0)), (1, .int (nI kk))]) hx hb d_TM_place_1 rfl hl (by decide) rfl (fun ls hl => ?_)
  refine lv_iconst (v := nI 0) hx hb d_TM_place_2 (by decide) ?_
  refine lv_istore_n (lv' := [(3, .int (nI 0)), (2, .int (-1)), (0, .ref (P 0)), (1, .int (nI kk))]) hx hb d_TM_place_3 rfl hl (by decide) rfl (fun ls hl => ?_)
  exact loop w 0 none _ _ _ (by omega) rfl hP hD hS (lv_sub hl [0, 1, 2, 3] rfl)

set_option maxHeartbeats 4000000 in
set_option maxRecDepth 100000 in
/-- the reference: drop -/
theorem mc_drop (l : Launch) (dC : Nat → ClassId) (dI : Nat → Nat → Nat) (P : Nat → Nat) (C : Nat → ClassId) (N sz : Nat) (tx lx nu ti : Nat → Int32) (si ro : Nat → Nat) (us : Nat → Bool) (bt : Nat → Int32) (w al now : Nat) (on : Bool) (tl ll : Nat) (i : Nat) (hi : i < w) (hw : w ≤ 1024) (hro : ∀ j, j < w → ro j < 1024) : ctV l y_TM_drop ws_TM_drop (rmD 0) (dC, dI) classes (tys_M C) (mm P C N tx lx nu ti si ro us bt w al now on tl ll) sz [.ref (P 0), .int (nI i)] (fun (_ : Unit) => True) (fun _ => (mm P C N tx lx (dp nu i (w - 1)) (dp ti i (w - 1)) (dp si i (w - 1)) (dp ro i (w - 1)) (va_up us (ro i) false) bt (w - 1) al now on tl ll)) 0 0 := by
  refine tb_metV (own := R_TM) (by decide) rfl rfl (Nat.le_of_ble_eq_true rfl) [(0, .ref (P 0)), (1, .int (nI i))] rfl ?_
  intro p e s m below meth c A ls hx hb hr hml hts hown hlk hnm hA hK hP hD hS hl
  have loop : ∀ (n k : Nat) (H : Heap) (locs : List Loc) (ls : Array Slot), i ≤ k → k + n = w - 1 → va_P (dC, dI) classes (mm P C N tx lx (dp nu i k) (dp ti i k) (dp si i k) (dp ro i k) (va_up us (ro i) false) bt (w - 1) al now on tl ll) H → va_D A (mm P C N tx lx (dp nu i k) (dp ti i k) (dp si i k) (dp ro i k) (va_up us (ro i) false) bt (w - 1) al now on tl ll) → va_S A s.heap H locs → lv_has ls 3 [(2, .int (nI k)), (0, .ref (P 0)), (1, .int (nI i))] → W p l e (rmD 0) s m [Value.ref (P 0), .int (nI i)].toArray below meth c H locs 0 0 (MQ below (va_Qv (fun (_ : Unit) => True) (fun u tS => va_P (dC, dI) classes ((fun _ => (mm P C N tx lx (dp nu i (w - 1)) (dp ti i (w - 1)) (dp si i (w - 1)) (dp ro i (w - 1)) (va_up us (ro i) false) bt (w - 1) al now on tl ll)) u) tS.heap ∧ va_K (dC, dI) classes (tys_M C) tS ∧ va_D A ((fun _ => (mm P C N tx lx (dp nu i (w - 1)) (dp ti i (w - 1)) (dp si i (w - 1)) (dp ro i (w - 1)) (va_up us (ro i) false) bt (w - 1) al now on tl ll)) u)) A) [Value.ref (P 0), .int (nI i)].toArray s 0 0 A) (F0 m 24 ls []) := by
    clear hP hD hS hl
    intro n
    induction n with
    | zero =>
      intro k H locs ls hk hn hP hD hS hl
      refine lv_iload_n hx hb d_TM_drop_24 rfl (lv_at hl 0 rfl) ?_
      refine lv_aload_n hx hb d_TM_drop_25 rfl (lv_at hl 1 rfl) ?_
      refine mg hx hb hts hown hK hP rfl 9 (by decide) rfl fl_TM_44 rfl d_TM_drop_26 ?_
      refine lv_icmp_ge (tgt := 94) hx hb d_TM_drop_29 (by decide) (fun c_29 => ?_) (fun c_29 => ?_)
      · have hk : k = w - 1 := by omega
        subst hk
        exact tb_retv hx hb hr hlk hK () hP hD hS trivial d_TM_drop_94
      · exact absurd (nI_le (by omega) (by omega)) c_29
    | succ n ih =>
      intro k H locs ls hk hn hP hD hS hl
      refine lv_iload_n hx hb d_TM_drop_24 rfl (lv_at hl 0 rfl) ?_
      refine lv_aload_n hx hb d_TM_drop_25 rfl (lv_at hl 1 rfl) ?_
      refine mg hx hb hts hown hK hP rfl 9 (by decide) rfl fl_TM_44 rfl d_TM_drop_26 ?_
      refine lv_icmp_ge (tgt := 94) hx hb d_TM_drop_29 (by decide) (fun c_29 => ?_) (fun c_29 => ?_)
      · exact absurd ((nI_leI (by omega) (by omega)).mp c_29) (by omega)
      · refine lv_aload_n hx hb d_TM_drop_32 rfl (lv_at hl 1 rfl) ?_
        refine mg hx hb hts hown hK hP rfl 10 (by decide) rfl fl_TM_16 rfl d_TM_drop_33 ?_
        refine lv_iload_n hx hb d_TM_drop_36 rfl (lv_at hl 0 rfl) ?_
        refine lv_aload_n hx hb d_TM_drop_37 rfl (lv_at hl 1 rfl) ?_
        refine mg hx hb hts hown hK hP rfl 10 (by decide) rfl fl_TM_16 rfl d_TM_drop_38 ?_
        refine lv_iload_n hx hb d_TM_drop_41 rfl (lv_at hl 0 rfl) ?_
        refine lv_iconst (v := nI 1) hx hb d_TM_drop_42 (by decide) ?_
        refine lv_iadd hx hb d_TM_drop_43 ?_
        refine tp_i (nI (k + 1)) (nI_add _ _) ?_
        refine tb_iald hx hb hK hP 3 2 rfl rfl (by omega) (by decide) d_TM_drop_44 ?_
        refine tb_iast hx hb hK hP hD hS 3 2 rfl rfl (by omega) (by decide) (mm P C N tx lx (upd (dp nu i k) k ((dp nu i k) (k + 1))) (dp ti i k) (dp si i k) (dp ro i k) (va_up us (ro i) false) bt (w - 1) al now on tl ll) rfl d_TM_drop_45 (fun H locs hP hD hS => ?_)
        refine lv_aload_n hx hb d_TM_drop_46 rfl (lv_at hl 1 rfl) ?_
        refine mg hx hb hts hown hK hP rfl 11 (by decide) rfl fl_TM_20 rfl d_TM_drop_47 ?_
        refine lv_iload_n hx hb d_TM_drop_50 rfl (lv_at hl 0 rfl) ?_
        refine lv_aload_n hx hb d_TM_drop_51 rfl (lv_at hl 1 rfl) ?_
        refine mg hx hb hts hown hK hP rfl 11 (by decide) rfl fl_TM_20 rfl d_TM_drop_52 ?_
        refine lv_iload_n hx hb d_TM_drop_55 rfl (lv_at hl 0 rfl) ?_
        refine lv_iconst (v := nI 1) hx hb d_TM_drop_56 (by decide) ?_
        refine lv_iadd hx hb d_TM_drop_57 ?_
        refine tp_i (nI (k + 1)) (nI_add _ _) ?_
        refine tb_iald hx hb hK hP 4 3 rfl rfl (by omega) (by decide) d_TM_drop_58 ?_
        refine tb_iast hx hb hK hP hD hS 4 3 rfl rfl (by omega) (by decide) (mm P C N tx lx (upd (dp nu i k) k ((dp nu i k) (k + 1))) (upd (dp ti i k) k ((dp ti i k) (k + 1))) (dp si i k) (dp ro i k) (va_up us (ro i) false) bt (w - 1) al now on tl ll) rfl d_TM_drop_59 (fun H locs hP hD hS => ?_)
        refine lv_aload_n hx hb d_TM_drop_60 rfl (lv_at hl 1 rfl) ?_
        refine mg hx hb hts hown hK hP rfl 12 (by decide) rfl fl_TM_23 rfl d_TM_drop_61 ?_
        refine lv_iload_n hx hb d_TM_drop_64 rfl (lv_at hl 0 rfl) ?_
        refine lv_aload_n hx hb d_TM_drop_65 rfl (lv_at hl 1 rfl) ?_
        refine mg hx hb hts hown hK hP rfl 12 (by decide) rfl fl_TM_23 rfl d_TM_drop_66 ?_
        refine lv_iload_n hx hb d_TM_drop_69 rfl (lv_at hl 0 rfl) ?_
        refine lv_iconst (v := nI 1) hx hb d_TM_drop_70 (by decide) ?_
        refine lv_iadd hx hb d_TM_drop_71 ?_
        refine tp_i (nI (k + 1)) (nI_add _ _) ?_
        refine tb_iald hx hb hK hP 5 4 rfl rfl (by omega) (by decide) d_TM_drop_72 ?_
        refine tb_iastN hx hb hK hP hD hS 5 4 rfl rfl (by omega) (by decide) (mm P C N tx lx (upd (dp nu i k) k ((dp nu i k) (k + 1))) (upd (dp ti i k) k ((dp ti i k) (k + 1))) (va_up (dp si i k) k ((dp si i k) (k + 1))) (dp ro i k) (va_up us (ro i) false) bt (w - 1) al now on tl ll) rfl d_TM_drop_73 (fun H locs hP hD hS => ?_)
        refine lv_aload_n hx hb d_TM_drop_74 rfl (lv_at hl 1 rfl) ?_
        refine mg hx hb hts hown hK hP rfl 13 (by decide) rfl fl_TM_26 rfl d_TM_drop_75 ?_
        refine lv_iload_n hx hb d_TM_drop_78 rfl (lv_at hl 0 rfl) ?_
        refine lv_aload_n hx hb d_TM_drop_79 rfl (lv_at hl 1 rfl) ?_
        refine mg hx hb hts hown hK hP rfl 13 (by decide) rfl fl_TM_26 rfl d_TM_drop_80 ?_
        refine lv_iload_n hx hb d_TM_drop_83 rfl (lv_at hl 0 rfl) ?_
        refine lv_iconst (v := nI 1) hx hb d_TM_drop_84 (by decide) ?_
        refine lv_iadd hx hb d_TM_drop_85 ?_
        refine tp_i (nI (k + 1)) (nI_add _ _) ?_
        refine tb_iald hx hb hK hP 6 5 rfl rfl (by omega) (by decide) d_TM_drop_86 ?_
        refine tb_iastN hx hb hK hP hD hS 6 5 rfl rfl (by omega) (by decide) (mm P C N tx lx (upd (dp nu i k) k ((dp nu i k) (k + 1))) (upd (dp ti i k) k ((dp ti i k) (k + 1))) (va_up (dp si i k) k ((dp si i k) (k + 1))) (va_up (dp ro i k) k ((dp ro i k) (k + 1))) (va_up us (ro i) false) bt (w - 1) al now on tl ll) rfl d_TM_drop_87 (fun H locs hP hD hS => ?_)
        refine lv_iinc (v := nI (k + 1)) (lv' := [(2, .int (nI (k + 1))), (0, .ref (P 0)), (1, .int (nI i))]) hx hb d_TM_drop_88 hl (k := 0) rfl (nI_1 _) (by decide) rfl (fun ls hl => ?_)
        refine lv_goto (tgt := 24) hx hb d_TM_drop_91 (by decide) ?_
        rw [dp_u nu (by omega), dp_u ti (by omega), dp_v si (by omega), dp_v ro (by omega)] at hP hD
        exact ih _ _ _ _ (by omega) (by omega) hP hD hS (lv_sub hl [0, 1, 2] rfl)
  refine lv_aload_n hx hb d_TM_drop_0 rfl (lv_at hl 0 rfl) ?_
  refine mg hx hb hts hown hK hP rfl 14 (by decide) rfl fl_TM_29 rfl d_TM_drop_1 ?_
  refine lv_aload_n hx hb d_TM_drop_4 rfl (lv_at hl 0 rfl) ?_
  refine mg hx hb hts hown hK hP rfl 13 (by decide) rfl fl_TM_26 rfl d_TM_drop_5 ?_
  refine lv_iload_n hx hb d_TM_drop_8 rfl (lv_at hl 1 rfl) ?_
  refine tb_iald hx hb hK hP 6 5 rfl rfl (by omega) (by decide) d_TM_drop_9 ?_
  refine lv_iconst (v := nI 0) hx hb d_TM_drop_10 (by decide) ?_
  refine tp_i (bI false) rfl ?_
  refine tb_zastB hx hb hK hP hD hS 7 6 rfl rfl (hro _ (by omega)) (by decide) (mm P C N tx lx nu ti si ro (va_up us (ro i) false) bt w al now on tl ll) rfl d_TM_drop_11 (fun H locs hP hD hS => ?_)
  refine lv_aload_n hx hb d_TM_drop_12 rfl (lv_at hl 0 rfl) ?_
  refine lv_dup hx hb d_TM_drop_13 rfl ?_
  refine mg hx hb hts hown hK hP rfl 9 (by decide) rfl fl_TM_44 rfl d_TM_drop_14 ?_
  refine lv_iconst (v := nI 1) hx hb d_TM_drop_17 (by decide) ?_
  refine lv_isub hx hb d_TM_drop_18 ?_
  refine tp_i (nI (w - 1)) (pk_sub (by omega)) ?_
  refine mp (ty := .int) hx hb hts hown hK hP hD hS rfl 9 (by decide) rfl fl_TM_44 rfl (by decide +kernel) (rfl) (rfl) (Nat.le_of_ble_eq_true rfl) (mm P C N tx lx nu ti si ro (va_up us (ro i) false) bt (w - 1) al now on tl ll) rfl d_TM_drop_19 (fun H locs hP hD hS => ?_)
  refine lv_iload_n hx hb d_TM_drop_22 rfl (lv_at hl 1 rfl) ?_
  refine lv_istore_n (lv' := [(2, .int (nI i)), (0, .ref (P 0)), (1, .int (nI i))]) hx hb d_TM_drop_23 rfl hl (by decide) rfl (fun ls hl => ?_)
  exact loop (w - 1 - i) i _ _ _ (Nat.le_refl i) (by omega) (by rw [dp_0, dp_0, dp_0, dp_0]; exact hP) (by rw [dp_0, dp_0, dp_0, dp_0]; exact hD) hS (lv_sub hl [0, 1, 2] rfl)

set_option maxHeartbeats 4000000 in
set_option maxRecDepth 100000 in
/-- the reference: put -/
theorem mc_put (l : Launch) (dC : Nat → ClassId) (dI : Nat → Nat → Nat) (P : Nat → Nat) (C : Nat → ClassId) (N sz : Nat) (tx lx nu ti : Nat → Int32) (si ro : Nat → Nat) (us : Nat → Bool) (bt : Nat → Int32) (w al now : Nat) (on : Bool) (tl ll : Nat) (b : Int32) (htl : tl ≤ 256) : ctI l y_TM_put ws_TM_put (rmD 0) (dC, dI) classes (tys_M C) (mm P C N tx lx nu ti si ro us bt w al now on tl ll) sz [.ref (P 0), .int b] (fun (r : Int32) (u : (Nat → Int32) × Nat) => (r, u) = mp_R tx tl b) (fun u => (mm P C N u.1 lx nu ti si ro us bt w al now on u.2 ll)) 0 0 := by
  refine tb_metI (own := R_TM) (by decide) rfl rfl (Nat.le_of_ble_eq_true rfl) [(0, .ref (P 0)), (1, .int b)] rfl ?_
  intro p e s m below meth c A ls hx hb hr hml hts hown hlk hnm hA hK hP hD hS hl
  refine lv_aload_n hx hb d_TM_put_0 rfl (lv_at hl 0 rfl) ?_
  refine lv_iconst (v := nI 0) hx hb d_TM_put_1 (by decide) ?_
  refine mp (ty := .int) hx hb hts hown hK hP hD hS rfl 0 (by decide) rfl fl_TM_41 rfl (by decide +kernel) (rfl) (rfl) (Nat.le_of_ble_eq_true rfl) (mm P C N tx lx nu ti si ro us bt w al now on tl ll) rfl d_TM_put_2 (fun H locs hP hD hS => ?_)
  refine lv_aload_n hx hb d_TM_put_5 rfl (lv_at hl 0 rfl) ?_
  refine mg hx hb hts hown hK hP rfl 6 (by decide) rfl fl_TM_47 rfl d_TM_put_6 ?_
  refine lv_sipush (v := nI 256) hx hb d_TM_put_9 (by decide) ?_
  refine lv_icmp_ne (tgt := 17) hx hb d_TM_put_12 (by decide) (fun c_12 => ?_) (fun c_12 => ?_)
  · have c_12 : ¬ tl = 256 := fun q => c_12 ((nI_eq (by omega) (by omega)).mpr q)
    refine lv_aload_n hx hb d_TM_put_17 rfl (lv_at hl 0 rfl) ?_
    refine mg hx hb hts hown hK hP rfl 5 (by decide) rfl fl_TM_7 rfl d_TM_put_18 ?_
    refine lv_aload_n hx hb d_TM_put_21 rfl (lv_at hl 0 rfl) ?_
    refine mg hx hb hts hown hK hP rfl 6 (by decide) rfl fl_TM_47 rfl d_TM_put_22 ?_
    refine lv_iload_n hx hb d_TM_put_25 rfl (lv_at hl 1 rfl) ?_
    refine lv_i2b (v := b.toInt8.toInt32) hx hb d_TM_put_26 rfl ?_
    refine tb_bast hx hb hK hP hD hS 1 0 rfl rfl (by omega) (by decide) (mm P C N (upd tx tl (vp_nar .byte b.toInt8.toInt32)) lx nu ti si ro us bt w al now on tl ll) rfl d_TM_put_27 (fun H locs hP hD hS => ?_)
    refine lv_aload_n hx hb d_TM_put_28 rfl (lv_at hl 0 rfl) ?_
    refine lv_dup hx hb d_TM_put_29 rfl ?_
    refine mg hx hb hts hown hK hP rfl 6 (by decide) rfl fl_TM_47 rfl d_TM_put_30 ?_
    refine lv_iconst (v := nI 1) hx hb d_TM_put_33 (by decide) ?_
    refine lv_iadd hx hb d_TM_put_34 ?_
    refine tp_i (nI (tl + 1)) (nI_add _ _) ?_
    refine mp (ty := .int) hx hb hts hown hK hP hD hS rfl 6 (by decide) rfl fl_TM_47 rfl (by decide +kernel) (rfl) (rfl) (Nat.le_of_ble_eq_true rfl) (mm P C N (upd tx tl (vp_nar .byte b.toInt8.toInt32)) lx nu ti si ro us bt w al now on (tl + 1) ll) rfl d_TM_put_35 (fun H locs hP hD hS => ?_)
    refine lv_aload_n hx hb d_TM_put_38 rfl (lv_at hl 0 rfl) ?_
    refine mg hx hb hts hown hK hP rfl 6 (by decide) rfl fl_TM_47 rfl d_TM_put_39 ?_
    exact tb_reti hx hb hr hlk hK (upd tx tl (vp_nar .byte b.toInt8.toInt32), tl + 1) hP hD hS (by rw [mp_R, if_neg c_12]) d_TM_put_42
  · have c_12 : tl = 256 := (nI_eq (by omega) (by omega)).mp c_12
    refine lv_iconst (v := (-1)) hx hb d_TM_put_15 (by decide) ?_
    exact tb_reti hx hb hr hlk hK (tx, tl) hP hD hS (by rw [mp_R, if_pos c_12]) d_TM_put_16

set_option maxHeartbeats 4000000 in
set_option maxRecDepth 100000 in
/-- the reference: enable -/
theorem mc_enable (l : Launch) (dC : Nat → ClassId) (dI : Nat → Nat → Nat) (P : Nat → Nat) (C : Nat → ClassId) (N sz : Nat) (tx lx nu ti : Nat → Int32) (si ro : Nat → Nat) (us : Nat → Bool) (bt : Nat → Int32) (w al now : Nat) (on : Bool) (tl ll : Nat) (b : Bool) : ctV l y_TM_enable ws_TM_enable (rmD 0) (dC, dI) classes (tys_M C) (mm P C N tx lx nu ti si ro us bt w al now on tl ll) sz [.ref (P 0), .int (bI b)] (fun (_ : Unit) => True) (fun _ => (mm P C N tx lx nu ti si ro us bt w al now b tl ll)) 0 0 := by
  refine tb_metV (own := R_TM) (by decide) rfl rfl (Nat.le_of_ble_eq_true rfl) [(0, .ref (P 0)), (1, .int (bI b))] rfl ?_
  intro p e s m below meth c A ls hx hb hr hml hts hown hlk hnm hA hK hP hD hS hl
  refine lv_aload_n hx hb d_TM_enable_0 rfl (lv_at hl 0 rfl) ?_
  refine lv_iconst (v := nI 0) hx hb d_TM_enable_1 (by decide) ?_
  refine mp (ty := .int) hx hb hts hown hK hP hD hS rfl 0 (by decide) rfl fl_TM_41 rfl (by decide +kernel) (rfl) (rfl) (Nat.le_of_ble_eq_true rfl) (mm P C N tx lx nu ti si ro us bt w al now on tl ll) rfl d_TM_enable_2 (fun H locs hP hD hS => ?_)
  refine lv_aload_n hx hb d_TM_enable_5 rfl (lv_at hl 0 rfl) ?_
  refine lv_iload_n hx hb d_TM_enable_6 rfl (lv_at hl 1 rfl) ?_
  refine mp (ty := .boolean) hx hb hts hown hK hP hD hS rfl 3 (by decide) rfl fl_TM_72 rfl (by decide +kernel) (bI_n _) (bI_f _) (Nat.le_of_ble_eq_true rfl) (mm P C N tx lx nu ti si ro us bt w al now b tl ll) rfl d_TM_enable_7 (fun H locs hP hD hS => ?_)
  exact tb_retv hx hb hr hlk hK () hP hD hS trivial d_TM_enable_10

set_option maxHeartbeats 4000000 in
set_option maxRecDepth 100000 in
/-- the reference: isOn -/
theorem mc_isOn (l : Launch) (dC : Nat → ClassId) (dI : Nat → Nat → Nat) (P : Nat → Nat) (C : Nat → ClassId) (N sz : Nat) (tx lx nu ti : Nat → Int32) (si ro : Nat → Nat) (us : Nat → Bool) (bt : Nat → Int32) (w al now : Nat) (on : Bool) (tl ll : Nat)  : ctI l y_TM_isOn ws_TM_isOn (rmD 0) (dC, dI) classes (tys_M C) (mm P C N tx lx nu ti si ro us bt w al now on tl ll) sz [.ref (P 0)] (fun (r : Int32) (_ : Unit) => r = bI on) (fun _ => (mm P C N tx lx nu ti si ro us bt w al now on tl ll)) 0 0 := by
  refine tb_metI (own := R_TM) (by decide) rfl rfl (Nat.le_of_ble_eq_true rfl) [(0, .ref (P 0))] rfl ?_
  intro p e s m below meth c A ls hx hb hr hml hts hown hlk hnm hA hK hP hD hS hl
  refine lv_aload_n hx hb d_TM_isOn_0 rfl (lv_at hl 0 rfl) ?_
  refine lv_iconst (v := nI 0) hx hb d_TM_isOn_1 (by decide) ?_
  refine mp (ty := .int) hx hb hts hown hK hP hD hS rfl 0 (by decide) rfl fl_TM_41 rfl (by decide +kernel) (rfl) (rfl) (Nat.le_of_ble_eq_true rfl) (mm P C N tx lx nu ti si ro us bt w al now on tl ll) rfl d_TM_isOn_2 (fun H locs hP hD hS => ?_)
  refine lv_aload_n hx hb d_TM_isOn_5 rfl (lv_at hl 0 rfl) ?_
  refine mg hx hb hts hown hK hP rfl 3 (by decide) rfl fl_TM_72 rfl d_TM_isOn_6 ?_
  exact tb_retz hx hb hr hlk hK () hP hD hS (bI_n _) rfl d_TM_isOn_9

set_option maxHeartbeats 4000000 in
set_option maxRecDepth 100000 in
/-- the reference: tick -/
theorem mc_tick (l : Launch) (dC : Nat → ClassId) (dI : Nat → Nat → Nat) (P : Nat → Nat) (C : Nat → ClassId) (N sz : Nat) (tx lx nu ti : Nat → Int32) (si ro : Nat → Nat) (us : Nat → Bool) (bt : Nat → Int32) (w al now : Nat) (on : Bool) (tl ll : Nat) (hnow : now < 2147483647) : ctI l y_TM_tick ws_TM_tick (rmD 0) (dC, dI) classes (tys_M C) (mm P C N tx lx nu ti si ro us bt w al now on tl ll) sz [.ref (P 0)] (fun (r : Int32) (_ : Unit) => r = nI (now + 1)) (fun _ => (mm P C N tx lx nu ti si ro us bt w al (now + 1) on tl ll)) 0 0 := by
  refine tb_metI (own := R_TM) (by decide) rfl rfl (Nat.le_of_ble_eq_true rfl) [(0, .ref (P 0))] rfl ?_
  intro p e s m below meth c A ls hx hb hr hml hts hown hlk hnm hA hK hP hD hS hl
  refine lv_aload_n hx hb d_TM_tick_0 rfl (lv_at hl 0 rfl) ?_
  refine lv_iconst (v := nI 0) hx hb d_TM_tick_1 (by decide) ?_
  refine mp (ty := .int) hx hb hts hown hK hP hD hS rfl 0 (by decide) rfl fl_TM_41 rfl (by decide +kernel) (rfl) (rfl) (Nat.le_of_ble_eq_true rfl) (mm P C N tx lx nu ti si ro us bt w al now on tl ll) rfl d_TM_tick_2 (fun H locs hP hD hS => ?_)
  refine lv_aload_n hx hb d_TM_tick_5 rfl (lv_at hl 0 rfl) ?_
  refine mg hx hb hts hown hK hP rfl 2 (by decide) rfl fl_TM_50 rfl d_TM_tick_6 ?_
  refine lv_ldc (v := nI 2147483647) hx hb hown (hts _ k_TM_67) d_TM_tick_9 ?_
  refine lv_icmp_ne (tgt := 16) hx hb d_TM_tick_11 (by decide) (fun c_11 => ?_) (fun c_11 => ?_)
  · have c_11 : ¬ now = 2147483647 := fun q => c_11 ((nI_eq (by omega) (by omega)).mpr q)
    refine lv_aload_n hx hb d_TM_tick_16 rfl (lv_at hl 0 rfl) ?_
    refine lv_dup hx hb d_TM_tick_17 rfl ?_
    refine mg hx hb hts hown hK hP rfl 2 (by decide) rfl fl_TM_50 rfl d_TM_tick_18 ?_
    refine lv_iconst (v := nI 1) hx hb d_TM_tick_21 (by decide) ?_
    refine lv_iadd hx hb d_TM_tick_22 ?_
    refine tp_i (nI (now + 1)) (nI_add _ _) ?_
    refine mp (ty := .int) hx hb hts hown hK hP hD hS rfl 2 (by decide) rfl fl_TM_50 rfl (by decide +kernel) (rfl) (rfl) (Nat.le_of_ble_eq_true rfl) (mm P C N tx lx nu ti si ro us bt w al (now + 1) on tl ll) rfl d_TM_tick_23 (fun H locs hP hD hS => ?_)
    refine lv_aload_n hx hb d_TM_tick_26 rfl (lv_at hl 0 rfl) ?_
    refine mg hx hb hts hown hK hP rfl 2 (by decide) rfl fl_TM_50 rfl d_TM_tick_27 ?_
    exact tb_reti hx hb hr hlk hK () hP hD hS rfl d_TM_tick_30
  · exact absurd ((nI_eq (by omega) (by omega)).mp c_11) (by omega)

set_option maxHeartbeats 4000000 in
set_option maxRecDepth 100000 in
/-- the reference: left -/
theorem mc_left (l : Launch) (dC : Nat → ClassId) (dI : Nat → Nat → Nat) (P : Nat → Nat) (C : Nat → ClassId) (N sz : Nat) (tx lx nu ti : Nat → Int32) (si ro : Nat → Nat) (us : Nat → Bool) (bt : Nat → Int32) (w al now : Nat) (on : Bool) (tl ll : Nat) (j : Int32) (hll : ll ≤ 256) : ctI l y_TM_left ws_TM_left (rmD 0) (dC, dI) classes (tys_M C) (mm P C N tx lx nu ti si ro us bt w al now on tl ll) sz [.ref (P 0), .int j] (fun (r : Int32) (_ : Unit) => r = bo_F lx 0 ll j) (fun _ => (mm P C N tx lx nu ti si ro us bt w al now on tl ll)) 0 0 := by
  refine tb_metI (own := R_TM) (by decide) rfl rfl (Nat.le_of_ble_eq_true rfl) [(0, .ref (P 0)), (1, .int j)] rfl ?_
  intro p e s m below meth c A ls hx hb hr hml hts hown hlk hnm hA hK hP hD hS hl
  refine lv_aload_n hx hb d_TM_left_0 rfl (lv_at hl 0 rfl) ?_
  refine lv_iconst (v := nI 0) hx hb d_TM_left_1 (by decide) ?_
  refine mp (ty := .int) hx hb hts hown hK hP hD hS rfl 0 (by decide) rfl fl_TM_41 rfl (by decide +kernel) (rfl) (rfl) (Nat.le_of_ble_eq_true rfl) (mm P C N tx lx nu ti si ro us bt w al now on tl ll) rfl d_TM_left_2 (fun H locs hP hD hS => ?_)
  refine lv_iload_n hx hb d_TM_left_5 rfl (lv_at hl 1 rfl) ?_
  refine lv_if_lt (tgt := 17) hx hb d_TM_left_6 (by decide) (fun c_6 => ?_) (fun c_6 => ?_)
  · refine lv_iconst (v := (-1)) hx hb d_TM_left_17 (by decide) ?_
    refine lv_goto (tgt := 31) hx hb d_TM_left_18 (by decide) ?_
    exact tb_reti hx hb hr hlk hK () hP hD hS (by first | rw [bo_0 c_6] | rw [bo_1 (Int32.not_lt.mp c_14)] | rw [bo_2 c_6 (Int32.not_le.mpr c_14), Nat.zero_add]) d_TM_left_31
  · refine lv_iload_n hx hb d_TM_left_9 rfl (lv_at hl 1 rfl) ?_
    refine lv_aload_n hx hb d_TM_left_10 rfl (lv_at hl 0 rfl) ?_
    refine mg hx hb hts hown hK hP rfl 8 (by decide) rfl fl_TM_80 rfl d_TM_left_11 ?_
    refine lv_icmp_lt (tgt := 21) hx hb d_TM_left_14 (by decide) (fun c_14 => ?_) (fun c_14 => ?_)
    · have hj := cl_nI c_6
      have hjb : j.toNatClampNeg < ll := cl_lt c_6 c_14 (by omega)
      refine lv_aload_n hx hb d_TM_left_21 rfl (lv_at hl 0 rfl) ?_
      refine mg hx hb hts hown hK hP rfl 7 (by decide) rfl fl_TM_13 rfl d_TM_left_22 ?_
      refine lv_iload_n hx hb d_TM_left_25 rfl (lv_at hl 1 rfl) ?_
      refine tp_i (nI j.toNatClampNeg) (hj) ?_
      refine tb_bald hx hb hK hP 2 1 rfl rfl (by omega) (by decide) d_TM_left_26 ?_
      refine lv_sipush (v := nI 255) hx hb d_TM_left_27 (by decide) ?_
      refine lv_iand hx hb d_TM_left_30 ?_
      exact tb_reti hx hb hr hlk hK () hP hD hS (by first | rw [bo_0 c_6] | rw [bo_1 (Int32.not_lt.mp c_14)] | rw [bo_2 c_6 (Int32.not_le.mpr c_14), Nat.zero_add]) d_TM_left_31
    · refine lv_iconst (v := (-1)) hx hb d_TM_left_17 (by decide) ?_
      refine lv_goto (tgt := 31) hx hb d_TM_left_18 (by decide) ?_
      exact tb_reti hx hb hr hlk hK () hP hD hS (by first | rw [bo_0 c_6] | rw [bo_1 (Int32.not_lt.mp c_14)] | rw [bo_2 c_6 (Int32.not_le.mpr c_14), Nat.zero_add]) d_TM_left_31

set_option maxHeartbeats 4000000 in
set_option maxRecDepth 100000 in
/-- the reference: count -/
theorem mc_count (l : Launch) (dC : Nat → ClassId) (dI : Nat → Nat → Nat) (P : Nat → Nat) (C : Nat → ClassId) (N sz : Nat) (tx lx nu ti : Nat → Int32) (si ro : Nat → Nat) (us : Nat → Bool) (bt : Nat → Int32) (w al now : Nat) (on : Bool) (tl ll : Nat) (k : Int32) : ctI l y_TM_count ws_TM_count (rmD 0) (dC, dI) classes (tys_M C) (mm P C N tx lx nu ti si ro us bt w al now on tl ll) sz [.ref (P 0), .int k] (fun (r : Int32) (_ : Unit) => r = co_F now w al ll k) (fun _ => (mm P C N tx lx nu ti si ro us bt w al now on tl ll)) 0 0 := by
  refine tb_metI (own := R_TM) (by decide) rfl rfl (Nat.le_of_ble_eq_true rfl) [(0, .ref (P 0)), (1, .int k)] rfl ?_
  intro p e s m below meth c A ls hx hb hr hml hts hown hlk hnm hA hK hP hD hS hl
  refine lv_aload_n hx hb d_TM_count_0 rfl (lv_at hl 0 rfl) ?_
  refine lv_iconst (v := nI 0) hx hb d_TM_count_1 (by decide) ?_
  refine mp (ty := .int) hx hb hts hown hK hP hD hS rfl 0 (by decide) rfl fl_TM_41 rfl (by decide +kernel) (rfl) (rfl) (Nat.le_of_ble_eq_true rfl) (mm P C N tx lx nu ti si ro us bt w al now on tl ll) rfl d_TM_count_2 (fun H locs hP hD hS => ?_)
  refine lv_iload_n hx hb d_TM_count_5 rfl (lv_at hl 1 rfl) ?_
  refine lv_if_ne (tgt := 16) hx hb d_TM_count_6 (by decide) (fun c_6 => ?_) (fun c_6 => ?_)
  · refine lv_iload_n hx hb d_TM_count_16 rfl (lv_at hl 1 rfl) ?_
    refine lv_iconst (v := nI 1) hx hb d_TM_count_17 (by decide) ?_
    refine lv_icmp_ne (tgt := 28) hx hb d_TM_count_18 (by decide) (fun c_18 => ?_) (fun c_18 => ?_)
    · refine lv_iload_n hx hb d_TM_count_28 rfl (lv_at hl 1 rfl) ?_
      refine lv_iconst (v := nI 2) hx hb d_TM_count_29 (by decide) ?_
      refine lv_icmp_ne (tgt := 40) hx hb d_TM_count_30 (by decide) (fun c_30 => ?_) (fun c_30 => ?_)
      · refine lv_iload_n hx hb d_TM_count_40 rfl (lv_at hl 1 rfl) ?_
        refine lv_iconst (v := nI 3) hx hb d_TM_count_41 (by decide) ?_
        refine lv_icmp_ne (tgt := 52) hx hb d_TM_count_42 (by decide) (fun c_42 => ?_) (fun c_42 => ?_)
        · refine lv_iconst (v := (-1)) hx hb d_TM_count_52 (by decide) ?_
          exact tb_reti hx hb hr hlk hK () hP hD hS (by first | rw [co_F, if_pos c_6] | rw [co_F, if_neg c_6, if_pos (show k = 1 from c_18)] | rw [co_F, if_neg c_6, if_neg (show ¬ k = 1 from c_18), if_pos (show k = 2 from c_30)] | rw [co_F, if_neg c_6, if_neg (show ¬ k = 1 from c_18), if_neg (show ¬ k = 2 from c_30), if_pos (show k = 3 from c_42)] | rw [co_F, if_neg c_6, if_neg (show ¬ k = 1 from c_18), if_neg (show ¬ k = 2 from c_30), if_neg (show ¬ k = 3 from c_42)]) d_TM_count_53
        · refine lv_aload_n hx hb d_TM_count_45 rfl (lv_at hl 0 rfl) ?_
          refine mg hx hb hts hown hK hP rfl 8 (by decide) rfl fl_TM_80 rfl d_TM_count_46 ?_
          refine lv_goto (tgt := 53) hx hb d_TM_count_49 (by decide) ?_
          exact tb_reti hx hb hr hlk hK () hP hD hS (by first | rw [co_F, if_pos c_6] | rw [co_F, if_neg c_6, if_pos (show k = 1 from c_18)] | rw [co_F, if_neg c_6, if_neg (show ¬ k = 1 from c_18), if_pos (show k = 2 from c_30)] | rw [co_F, if_neg c_6, if_neg (show ¬ k = 1 from c_18), if_neg (show ¬ k = 2 from c_30), if_pos (show k = 3 from c_42)] | rw [co_F, if_neg c_6, if_neg (show ¬ k = 1 from c_18), if_neg (show ¬ k = 2 from c_30), if_neg (show ¬ k = 3 from c_42)]) d_TM_count_53
      · refine lv_aload_n hx hb d_TM_count_33 rfl (lv_at hl 0 rfl) ?_
        refine mg hx hb hts hown hK hP rfl 4 (by decide) rfl fl_TM_53 rfl d_TM_count_34 ?_
        refine lv_goto (tgt := 53) hx hb d_TM_count_37 (by decide) ?_
        exact tb_reti hx hb hr hlk hK () hP hD hS (by first | rw [co_F, if_pos c_6] | rw [co_F, if_neg c_6, if_pos (show k = 1 from c_18)] | rw [co_F, if_neg c_6, if_neg (show ¬ k = 1 from c_18), if_pos (show k = 2 from c_30)] | rw [co_F, if_neg c_6, if_neg (show ¬ k = 1 from c_18), if_neg (show ¬ k = 2 from c_30), if_pos (show k = 3 from c_42)] | rw [co_F, if_neg c_6, if_neg (show ¬ k = 1 from c_18), if_neg (show ¬ k = 2 from c_30), if_neg (show ¬ k = 3 from c_42)]) d_TM_count_53
    · refine lv_aload_n hx hb d_TM_count_21 rfl (lv_at hl 0 rfl) ?_
      refine mg hx hb hts hown hK hP rfl 9 (by decide) rfl fl_TM_44 rfl d_TM_count_22 ?_
      refine lv_goto (tgt := 53) hx hb d_TM_count_25 (by decide) ?_
      exact tb_reti hx hb hr hlk hK () hP hD hS (by first | rw [co_F, if_pos c_6] | rw [co_F, if_neg c_6, if_pos (show k = 1 from c_18)] | rw [co_F, if_neg c_6, if_neg (show ¬ k = 1 from c_18), if_pos (show k = 2 from c_30)] | rw [co_F, if_neg c_6, if_neg (show ¬ k = 1 from c_18), if_neg (show ¬ k = 2 from c_30), if_pos (show k = 3 from c_42)] | rw [co_F, if_neg c_6, if_neg (show ¬ k = 1 from c_18), if_neg (show ¬ k = 2 from c_30), if_neg (show ¬ k = 3 from c_42)]) d_TM_count_53
  · refine lv_aload_n hx hb d_TM_count_9 rfl (lv_at hl 0 rfl) ?_
    refine mg hx hb hts hown hK hP rfl 2 (by decide) rfl fl_TM_50 rfl d_TM_count_10 ?_
    refine lv_goto (tgt := 53) hx hb d_TM_count_13 (by decide) ?_
    exact tb_reti hx hb hr hlk hK () hP hD hS (by first | rw [co_F, if_pos c_6] | rw [co_F, if_neg c_6, if_pos (show k = 1 from c_18)] | rw [co_F, if_neg c_6, if_neg (show ¬ k = 1 from c_18), if_pos (show k = 2 from c_30)] | rw [co_F, if_neg c_6, if_neg (show ¬ k = 1 from c_18), if_neg (show ¬ k = 2 from c_30), if_pos (show k = 3 from c_42)] | rw [co_F, if_neg c_6, if_neg (show ¬ k = 1 from c_18), if_neg (show ¬ k = 2 from c_30), if_neg (show ¬ k = 3 from c_42)]) d_TM_count_53
