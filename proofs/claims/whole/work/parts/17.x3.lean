set_option maxHeartbeats 4000000 in
set_option maxRecDepth 100000 in
/-- moveTimes -/
theorem c_moveTimes (l : Launch) (dC : Nat → ClassId) (dI : Nat → Nat → Nat) (P : Nat → Nat) (C : Nat → ClassId) (N sz : Nat) (fb : Nat → Int32) (g : Nat → Nat) (fn ft : Nat → Int32) (fs fl : Nat → Nat) (w wi now : Nat) (on : Bool) (ts tl lf ll : Nat) (f t b : Int32) (hN : N < 2 ^ 31) (hw : w ≤ N) (hg : wfP N g) (hf : ∀ j, j < N → fs j ≤ 512) : ctI l y_TT_moveTimes ws_TT_moveTimes (rmD 2) (dC, dI) classes (tys_T C) (tt P C N fb g fn ft fs fl w wi now on ts tl lf ll) sz [.ref (P 0), .int f, .int t, .int b] (fun (r : Int32) (_ : Unit) => r = mv_A (mv_c (in_S ft f t) (cm_F ft now b) w 0 g 0)) (fun _ => (tt P C N fb (mv_F (mv_c (in_S ft f t) (cm_F ft now b) w 0 g 0) g (mv_s (be_F (mv_t f t b w 0 g ft) fs) (w - 1) 1 g)) fn (mv_F (mv_c (in_S ft f t) (cm_F ft now b) w 0 g 0) ft (mv_t f t b w 0 g ft)) fs fl w wi now on ts tl lf ll)) 0 0 := by
  refine tb_metI (own := R_TT) (by decide) rfl rfl (Nat.le_of_ble_eq_true rfl) [(0, .ref (P 0)), (1, .int f), (2, .int t), (3, .int b)] rfl ?_
  intro p e s m below meth c A ls hx hb hr hml hts hown hlk hnm hA hK hP hD hS hl
  have loop3 : ∀ (n k q : Nat) (g' : Nat → Nat) (H : Heap) (locs : List Loc) (ls : Array Slot), 0 < k → (k ≤ w ∨ k = 1) → n = w - k → wfP N g' → (mv_c (in_S ft f t) (cm_F ft now b) w 0 g 0) = some q → mv_s (be_F (mv_t f t b w 0 g ft) fs) n k g' = (mv_s (be_F (mv_t f t b w 0 g ft) fs) (w - 1) 1 g) → va_P (dC, dI) classes (tt P C N fb g' fn (mv_t f t b w 0 g ft) fs fl w wi now on ts tl lf ll) H → va_D A (tt P C N fb g' fn (mv_t f t b w 0 g ft) fs fl w wi now on ts tl lf ll) → va_S A s.heap H locs → lv_has ls 6 [(5, .int (nI k)), (4, .int (nI q)), (0, .ref (P 0)), (1, .int f), (2, .int t), (3, .int b)] → W p l e (rmD 2) s m [Value.ref (P 0), .int f, .int t, .int b].toArray below meth c H locs 0 0 (MQ below (va_Qi (fun (r : Int32) (_ : Unit) => r = mv_A (mv_c (in_S ft f t) (cm_F ft now b) w 0 g 0)) (fun u tS => va_P (dC, dI) classes ((fun _ => (tt P C N fb (mv_F (mv_c (in_S ft f t) (cm_F ft now b) w 0 g 0) g (mv_s (be_F (mv_t f t b w 0 g ft) fs) (w - 1) 1 g)) fn (mv_F (mv_c (in_S ft f t) (cm_F ft now b) w 0 g 0) ft (mv_t f t b w 0 g ft)) fs fl w wi now on ts tl lf ll)) u) tS.heap ∧ va_K (dC, dI) classes (tys_T C) tS ∧ va_D A ((fun _ => (tt P C N fb (mv_F (mv_c (in_S ft f t) (cm_F ft now b) w 0 g 0) g (mv_s (be_F (mv_t f t b w 0 g ft) fs) (w - 1) 1 g)) fn (mv_F (mv_c (in_S ft f t) (cm_F ft now b) w 0 g 0) ft (mv_t f t b w 0 g ft)) fs fl w wi now on ts tl lf ll)) u)) A) [Value.ref (P 0), .int f, .int t, .int b].toArray s 0 0 A) (F0 m 110 ls []) := by
    clear hP hD hS hl
    intro n
    induction n with
    | zero =>
      intro k q g' H locs ls hk hk2 hn hg' ho hr0 hP hD hS hl
      refine lv_iload hx hb d_TT_moveTimes_110 (lv_at hl 0 rfl) ?_
      refine lv_aload_n hx hb d_TT_moveTimes_112 rfl (lv_at hl 2 rfl) ?_
      refine xg hx hb hts hown hK hP rfl 6 (by decide) rfl fl_TT_53 rfl d_TT_moveTimes_113 ?_
      refine lv_icmp_ge (tgt := 131) hx hb d_TT_moveTimes_116 (by decide) (fun c_116 => ?_) (fun c_116 => ?_)
      · refine lv_iload hx hb d_TT_moveTimes_131 (lv_at hl 1 rfl) ?_
        have hq : g' = (mv_s (be_F (mv_t f t b w 0 g ft) fs) (w - 1) 1 g) := hr0
        subst hq
        have hP : va_P (dC, dI) classes (tt P C N fb (mv_F (mv_c (in_S ft f t) (cm_F ft now b) w 0 g 0) g (mv_s (be_F (mv_t f t b w 0 g ft) fs) (w - 1) 1 g)) fn (mv_F (mv_c (in_S ft f t) (cm_F ft now b) w 0 g 0) ft (mv_t f t b w 0 g ft)) fs fl w wi now on ts tl lf ll) H := by rw [ho]; exact hP
        have hD : va_D A (tt P C N fb (mv_F (mv_c (in_S ft f t) (cm_F ft now b) w 0 g 0) g (mv_s (be_F (mv_t f t b w 0 g ft) fs) (w - 1) 1 g)) fn (mv_F (mv_c (in_S ft f t) (cm_F ft now b) w 0 g 0) ft (mv_t f t b w 0 g ft)) fs fl w wi now on ts tl lf ll) := by rw [ho]; exact hD
        exact tb_reti hx hb hr hlk hK () hP hD hS (by rw [ho]; rfl) d_TT_moveTimes_133
      · exact absurd (nI_le (by omega) (by omega)) c_116
    | succ n ih =>
      intro k q g' H locs ls hk hk2 hn hg' ho hr0 hP hD hS hl
      refine lv_iload hx hb d_TT_moveTimes_110 (lv_at hl 0 rfl) ?_
      refine lv_aload_n hx hb d_TT_moveTimes_112 rfl (lv_at hl 2 rfl) ?_
      refine xg hx hb hts hown hK hP rfl 6 (by decide) rfl fl_TT_53 rfl d_TT_moveTimes_113 ?_
      refine lv_icmp_ge (tgt := 131) hx hb d_TT_moveTimes_116 (by decide) (fun c_116 => ?_) (fun c_116 => ?_)
      · exact absurd ((nI_leI (by omega) (by omega)).mp c_116) (by omega)
      · refine lv_aload_n hx hb d_TT_moveTimes_119 rfl (lv_at hl 2 rfl) ?_
        refine lv_iload hx hb d_TT_moveTimes_120 (lv_at hl 0 rfl) ?_
        refine tb_callv (c_settle l dC dI P C N H.size fb g' fn (mv_t f t b w 0 g ft) fs fl w wi now on ts tl lf ll k hN (by omega) hg' hf) ⟨hx, hb, hml, hown, hts⟩ (cwV 1 hts g_TT_97 rfl rfl rfl (by decide +kernel) ⟨Nat.le_of_ble_eq_true rfl, Nat.le_of_ble_eq_true rfl⟩) hK hP hD hS hA 0 rfl 0 rfl rfl hl.1 rfl (Nat.le_of_ble_eq_true rfl) d_TT_moveTimes_122 ⟨Nat.le_refl _, Nat.le_refl _⟩ (fun u H locs hwc hP hD hS => ?_)
        refine lv_iinc (v := nI (k + 1)) (lv' := [(5, .int (nI (k + 1))), (4, .int (nI q)), (0, .ref (P 0)), (1, .int f), (2, .int t), (3, .int b)]) hx hb d_TT_moveTimes_125 hl (k := 0) rfl (nI_1 _) (by decide) rfl (fun ls hl => ?_)
        refine lv_goto (tgt := 110) hx hb d_TT_moveTimes_128 (by decide) ?_
        exact ih _ _ _ _ _ _ (by omega) (by omega) (by omega) (st_wf _ _ (by omega) hg') ho (by rw [← hr0, mv_s]) hP hD hS (lv_sub hl [0, 1, 2, 3, 4, 5] rfl)
  have loop2 : ∀ (n k q : Nat) (ft' : Nat → Int32) (H : Heap) (locs : List Loc) (ls : Array Slot), k + n = w → (mv_c (in_S ft f t) (cm_F ft now b) w 0 g 0) = some q → mv_t f t b n k g ft' = (mv_t f t b w 0 g ft) → va_P (dC, dI) classes (tt P C N fb g fn ft' fs fl w wi now on ts tl lf ll) H → va_D A (tt P C N fb g fn ft' fs fl w wi now on ts tl lf ll) → va_S A s.heap H locs → lv_has ls 6 [(5, .int (nI k)), (4, .int (nI q)), (0, .ref (P 0)), (1, .int f), (2, .int t), (3, .int b)] → W p l e (rmD 2) s m [Value.ref (P 0), .int f, .int t, .int b].toArray below meth c H locs 0 0 (MQ below (va_Qi (fun (r : Int32) (_ : Unit) => r = mv_A (mv_c (in_S ft f t) (cm_F ft now b) w 0 g 0)) (fun u tS => va_P (dC, dI) classes ((fun _ => (tt P C N fb (mv_F (mv_c (in_S ft f t) (cm_F ft now b) w 0 g 0) g (mv_s (be_F (mv_t f t b w 0 g ft) fs) (w - 1) 1 g)) fn (mv_F (mv_c (in_S ft f t) (cm_F ft now b) w 0 g 0) ft (mv_t f t b w 0 g ft)) fs fl w wi now on ts tl lf ll)) u) tS.heap ∧ va_K (dC, dI) classes (tys_T C) tS ∧ va_D A ((fun _ => (tt P C N fb (mv_F (mv_c (in_S ft f t) (cm_F ft now b) w 0 g 0) g (mv_s (be_F (mv_t f t b w 0 g ft) fs) (w - 1) 1 g)) fn (mv_F (mv_c (in_S ft f t) (cm_F ft now b) w 0 g 0) ft (mv_t f t b w 0 g ft)) fs fl w wi now on ts tl lf ll)) u)) A) [Value.ref (P 0), .int f, .int t, .int b].toArray s 0 0 A) (F0 m 60 ls []) := by
    clear hP hD hS hl
    intro n
    induction n with
    | zero =>
      intro k q ft' H locs ls hn ho hr0 hP hD hS hl
      refine lv_iload hx hb d_TT_moveTimes_60 (lv_at hl 0 rfl) ?_
      refine lv_aload_n hx hb d_TT_moveTimes_62 rfl (lv_at hl 2 rfl) ?_
      refine xg hx hb hts hown hK hP rfl 6 (by decide) rfl fl_TT_53 rfl d_TT_moveTimes_63 ?_
      refine lv_icmp_ge (tgt := 107) hx hb d_TT_moveTimes_66 (by decide) (fun c_66 => ?_) (fun c_66 => ?_)
      · have hq : ft' = (mv_t f t b w 0 g ft) := hr0
        subst hq
        refine lv_iconst (v := nI 1) hx hb d_TT_moveTimes_107 (by decide) ?_
        refine lv_istore (lv' := [(5, .int (nI 1)), (4, .int (nI q)), (0, .ref (P 0)), (1, .int f), (2, .int t), (3, .int b)]) hx hb d_TT_moveTimes_108 hl (by decide) rfl (fun ls hl => ?_)
        exact loop3 (w - 1) 1 q g _ _ _ (by omega) (by omega) (by omega) hg ho rfl hP hD hS (lv_sub hl [0, 1, 2, 3, 4, 5] rfl)
      · exact absurd (nI_le (by omega) (by omega)) c_66
    | succ n ih =>
      intro k q ft' H locs ls hn ho hr0 hP hD hS hl
      refine lv_iload hx hb d_TT_moveTimes_60 (lv_at hl 0 rfl) ?_
      refine lv_aload_n hx hb d_TT_moveTimes_62 rfl (lv_at hl 2 rfl) ?_
      refine xg hx hb hts hown hK hP rfl 6 (by decide) rfl fl_TT_53 rfl d_TT_moveTimes_63 ?_
      refine lv_icmp_ge (tgt := 107) hx hb d_TT_moveTimes_66 (by decide) (fun c_66 => ?_) (fun c_66 => ?_)
      · exact absurd ((nI_leI (by omega) (by omega)).mp c_66) (by omega)
      · refine lv_aload_n hx hb d_TT_moveTimes_69 rfl (lv_at hl 2 rfl) ?_
        refine lv_aload_n hx hb d_TT_moveTimes_70 rfl (lv_at hl 2 rfl) ?_
        refine xg hx hb hts hown hK hP rfl 1 (by decide) rfl fl_TT_22 rfl d_TT_moveTimes_71 ?_
        refine lv_iload hx hb d_TT_moveTimes_74 (lv_at hl 0 rfl) ?_
        refine tb_iald hx hb hK hP 2 1 rfl rfl (by omega) hN d_TT_moveTimes_76 ?_
        refine lv_iload_n hx hb d_TT_moveTimes_77 rfl (lv_at hl 3 rfl) ?_
        refine lv_iload_n hx hb d_TT_moveTimes_78 rfl (lv_at hl 4 rfl) ?_
        refine tb_calli (c_isInSpan l dC dI P C N H.size fb g fn ft' fs fl w wi now on ts tl lf ll (g k) f t hN (hg.1 _ (by omega))) ⟨hx, hb, hml, hown, hts⟩ (cwV 3 hts g_TT_62 rfl rfl rfl (by decide +kernel) ⟨Nat.le_of_ble_eq_true rfl, Nat.le_of_ble_eq_true rfl⟩) hK hP hD hS hA 0 rfl 0 rfl rfl hl.1 rfl (Nat.le_of_ble_eq_true rfl) d_TT_moveTimes_79 ⟨Nat.le_refl _, Nat.le_refl _⟩ (fun r u H locs hwc hP hD hS => ?_)
        subst hwc
        refine lv_if_eq (tgt := 101) hx hb d_TT_moveTimes_82 (by decide) (fun c_82 => ?_) (fun c_82 => ?_)
        · have c_82 := bI_0 c_82
          refine lv_iinc (v := nI (k + 1)) (lv' := [(5, .int (nI (k + 1))), (4, .int (nI q)), (0, .ref (P 0)), (1, .int f), (2, .int t), (3, .int b)]) hx hb d_TT_moveTimes_101 hl (k := 0) rfl (nI_1 _) (by decide) rfl (fun ls hl => ?_)
          refine lv_goto (tgt := 60) hx hb d_TT_moveTimes_104 (by decide) ?_
          exact ih _ _ _ _ _ _ (by omega) ho (by rw [← hr0, mv_t, if_neg (by rw [c_82]; decide)]) hP hD hS (lv_sub hl [0, 1, 2, 3, 4, 5] rfl)
        · have c_82 := bI_1 c_82
          refine lv_aload_n hx hb d_TT_moveTimes_85 rfl (lv_at hl 2 rfl) ?_
          refine xg hx hb hts hown hK hP rfl 3 (by decide) rfl fl_TT_29 rfl d_TT_moveTimes_86 ?_
          refine lv_aload_n hx hb d_TT_moveTimes_89 rfl (lv_at hl 2 rfl) ?_
          refine xg hx hb hts hown hK hP rfl 1 (by decide) rfl fl_TT_22 rfl d_TT_moveTimes_90 ?_
          refine lv_iload hx hb d_TT_moveTimes_93 (lv_at hl 0 rfl) ?_
          refine tb_iald hx hb hK hP 2 1 rfl rfl (by omega) hN d_TT_moveTimes_95 ?_
          refine lv_dup2_11 hx hb d_TT_moveTimes_96 rfl rfl ?_
          refine tb_iald hx hb hK hP 4 3 rfl rfl (hg.1 _ (by omega)) hN d_TT_moveTimes_97 ?_
          refine lv_iload_n hx hb d_TT_moveTimes_98 rfl (lv_at hl 5 rfl) ?_
          refine lv_iadd hx hb d_TT_moveTimes_99 ?_
          refine tb_iast hx hb hK hP hD hS 4 3 rfl rfl (hg.1 _ (by omega)) hN (tt P C N fb g fn (upd ft' (g k) ((ft' (g k)) + b)) fs fl w wi now on ts tl lf ll) rfl d_TT_moveTimes_100 (fun H locs hP hD hS => ?_)
          refine lv_iinc (v := nI (k + 1)) (lv' := [(5, .int (nI (k + 1))), (4, .int (nI q)), (0, .ref (P 0)), (1, .int f), (2, .int t), (3, .int b)]) hx hb d_TT_moveTimes_101 hl (k := 0) rfl (nI_1 _) (by decide) rfl (fun ls hl => ?_)
          refine lv_goto (tgt := 60) hx hb d_TT_moveTimes_104 (by decide) ?_
          exact ih _ _ _ _ _ _ (by omega) ho (by rw [← hr0, mv_t, if_pos c_82]) hP hD hS (lv_sub hl [0, 1, 2, 3, 4, 5] rfl)
  have loop1 : ∀ (n k q : Nat) (H : Heap) (locs : List Loc) (ls : Array Slot), k + n = w → mv_c (in_S ft f t) (cm_F ft now b) n k g q = (mv_c (in_S ft f t) (cm_F ft now b) w 0 g 0) → va_P (dC, dI) classes (tt P C N fb g fn ft fs fl w wi now on ts tl lf ll) H → va_D A (tt P C N fb g fn ft fs fl w wi now on ts tl lf ll) → va_S A s.heap H locs → lv_has ls 6 [(5, .int (nI k)), (4, .int (nI q)), (0, .ref (P 0)), (1, .int f), (2, .int t), (3, .int b)] → W p l e (rmD 2) s m [Value.ref (P 0), .int f, .int t, .int b].toArray below meth c H locs 0 0 (MQ below (va_Qi (fun (r : Int32) (_ : Unit) => r = mv_A (mv_c (in_S ft f t) (cm_F ft now b) w 0 g 0)) (fun u tS => va_P (dC, dI) classes ((fun _ => (tt P C N fb (mv_F (mv_c (in_S ft f t) (cm_F ft now b) w 0 g 0) g (mv_s (be_F (mv_t f t b w 0 g ft) fs) (w - 1) 1 g)) fn (mv_F (mv_c (in_S ft f t) (cm_F ft now b) w 0 g 0) ft (mv_t f t b w 0 g ft)) fs fl w wi now on ts tl lf ll)) u) tS.heap ∧ va_K (dC, dI) classes (tys_T C) tS ∧ va_D A ((fun _ => (tt P C N fb (mv_F (mv_c (in_S ft f t) (cm_F ft now b) w 0 g 0) g (mv_s (be_F (mv_t f t b w 0 g ft) fs) (w - 1) 1 g)) fn (mv_F (mv_c (in_S ft f t) (cm_F ft now b) w 0 g 0) ft (mv_t f t b w 0 g ft)) fs fl w wi now on ts tl lf ll)) u)) A) [Value.ref (P 0), .int f, .int t, .int b].toArray s 0 0 A) (F0 m 6 ls []) := by
    clear hP hD hS hl
    intro n
    induction n with
    | zero =>
      intro k q H locs ls hn hr0 hP hD hS hl
      refine lv_iload hx hb d_TT_moveTimes_6 (lv_at hl 0 rfl) ?_
      refine lv_aload_n hx hb d_TT_moveTimes_8 rfl (lv_at hl 2 rfl) ?_
      refine xg hx hb hts hown hK hP rfl 6 (by decide) rfl fl_TT_53 rfl d_TT_moveTimes_9 ?_
      refine lv_icmp_ge (tgt := 57) hx hb d_TT_moveTimes_12 (by decide) (fun c_12 => ?_) (fun c_12 => ?_)
      · refine lv_iconst (v := nI 0) hx hb d_TT_moveTimes_57 (by decide) ?_
        refine lv_istore (lv' := [(5, .int (nI 0)), (4, .int (nI q)), (0, .ref (P 0)), (1, .int f), (2, .int t), (3, .int b)]) hx hb d_TT_moveTimes_58 hl (by decide) rfl (fun ls hl => ?_)
        exact loop2 w 0 q ft _ _ _ (by omega) hr0.symm rfl hP hD hS (lv_sub hl [0, 1, 2, 3, 4, 5] rfl)
      · exact absurd (nI_le (by omega) (by omega)) c_12
    | succ n ih =>
      intro k q H locs ls hn hr0 hP hD hS hl
      refine lv_iload hx hb d_TT_moveTimes_6 (lv_at hl 0 rfl) ?_
      refine lv_aload_n hx hb d_TT_moveTimes_8 rfl (lv_at hl 2 rfl) ?_
      refine xg hx hb hts hown hK hP rfl 6 (by decide) rfl fl_TT_53 rfl d_TT_moveTimes_9 ?_
      refine lv_icmp_ge (tgt := 57) hx hb d_TT_moveTimes_12 (by decide) (fun c_12 => ?_) (fun c_12 => ?_)
      · exact absurd ((nI_leI (by omega) (by omega)).mp c_12) (by omega)
      · refine lv_aload_n hx hb d_TT_moveTimes_15 rfl (lv_at hl 2 rfl) ?_
        refine lv_aload_n hx hb d_TT_moveTimes_16 rfl (lv_at hl 2 rfl) ?_
        refine xg hx hb hts hown hK hP rfl 1 (by decide) rfl fl_TT_22 rfl d_TT_moveTimes_17 ?_
        refine lv_iload hx hb d_TT_moveTimes_20 (lv_at hl 0 rfl) ?_
        refine tb_iald hx hb hK hP 2 1 rfl rfl (by omega) hN d_TT_moveTimes_22 ?_
        refine lv_iload_n hx hb d_TT_moveTimes_23 rfl (lv_at hl 3 rfl) ?_
        refine lv_iload_n hx hb d_TT_moveTimes_24 rfl (lv_at hl 4 rfl) ?_
        refine tb_calli (c_isInSpan l dC dI P C N H.size fb g fn ft fs fl w wi now on ts tl lf ll (g k) f t hN (hg.1 _ (by omega))) ⟨hx, hb, hml, hown, hts⟩ (cwV 3 hts g_TT_62 rfl rfl rfl (by decide +kernel) ⟨Nat.le_of_ble_eq_true rfl, Nat.le_of_ble_eq_true rfl⟩) hK hP hD hS hA 0 rfl 0 rfl rfl hl.1 rfl (Nat.le_of_ble_eq_true rfl) d_TT_moveTimes_25 ⟨Nat.le_refl _, Nat.le_refl _⟩ (fun r u H locs hwc hP hD hS => ?_)
        subst hwc
        refine lv_if_eq (tgt := 51) hx hb d_TT_moveTimes_28 (by decide) (fun c_28 => ?_) (fun c_28 => ?_)
        · have c_28 := bI_0 c_28
          refine lv_iinc (v := nI (k + 1)) (lv' := [(5, .int (nI (k + 1))), (4, .int (nI q)), (0, .ref (P 0)), (1, .int f), (2, .int t), (3, .int b)]) hx hb d_TT_moveTimes_51 hl (k := 0) rfl (nI_1 _) (by decide) rfl (fun ls hl => ?_)
          refine lv_goto (tgt := 6) hx hb d_TT_moveTimes_54 (by decide) ?_
          exact ih _ _ _ _ _ (by omega) (by rw [← hr0, mv_c, if_neg (by rw [c_28]; decide)]) hP hD hS (lv_sub hl [0, 1, 2, 3, 4, 5] rfl)
        · have c_28 := bI_1 c_28
          refine lv_aload_n hx hb d_TT_moveTimes_31 rfl (lv_at hl 2 rfl) ?_
          refine lv_aload_n hx hb d_TT_moveTimes_32 rfl (lv_at hl 2 rfl) ?_
          refine xg hx hb hts hown hK hP rfl 1 (by decide) rfl fl_TT_22 rfl d_TT_moveTimes_33 ?_
          refine lv_iload hx hb d_TT_moveTimes_36 (lv_at hl 0 rfl) ?_
          refine tb_iald hx hb hK hP 2 1 rfl rfl (by omega) hN d_TT_moveTimes_38 ?_
          refine lv_iload_n hx hb d_TT_moveTimes_39 rfl (lv_at hl 5 rfl) ?_
          refine tb_calli (c_canMove l dC dI P C N H.size fb g fn ft fs fl w wi now on ts tl lf ll (g k) b hN (hg.1 _ (by omega))) ⟨hx, hb, hml, hown, hts⟩ (cwV 2 hts g_TT_101 rfl rfl rfl (by decide +kernel) ⟨Nat.le_of_ble_eq_true rfl, Nat.le_of_ble_eq_true rfl⟩) hK hP hD hS hA 0 rfl 0 rfl rfl hl.1 rfl (Nat.le_of_ble_eq_true rfl) d_TT_moveTimes_40 ⟨Nat.le_refl _, Nat.le_refl _⟩ (fun r u H locs hwc hP hD hS => ?_)
          subst hwc
          refine lv_if_ne (tgt := 48) hx hb d_TT_moveTimes_43 (by decide) (fun c_43 => ?_) (fun c_43 => ?_)
          · have c_43 := bI_1 c_43
            refine lv_iinc (v := nI (q + 1)) (lv' := [(4, .int (nI (q + 1))), (5, .int (nI k)), (0, .ref (P 0)), (1, .int f), (2, .int t), (3, .int b)]) hx hb d_TT_moveTimes_48 hl (k := 1) rfl (nI_1 _) (by decide) rfl (fun ls hl => ?_)
            refine lv_iinc (v := nI (k + 1)) (lv' := [(5, .int (nI (k + 1))), (4, .int (nI (q + 1))), (0, .ref (P 0)), (1, .int f), (2, .int t), (3, .int b)]) hx hb d_TT_moveTimes_51 hl (k := 1) rfl (nI_1 _) (by decide) rfl (fun ls hl => ?_)
            refine lv_goto (tgt := 6) hx hb d_TT_moveTimes_54 (by decide) ?_
            exact ih _ _ _ _ _ (by omega) (by rw [← hr0, mv_c, if_pos c_28, if_pos c_43]) hP hD hS (lv_sub hl [0, 1, 2, 3, 4, 5] rfl)
          · have c_43 := bI_0 c_43
            have ho : (mv_c (in_S ft f t) (cm_F ft now b) w 0 g 0) = none := by rw [← hr0, mv_c, if_pos c_28, if_neg (by rw [c_43]; decide)]
            have hP : va_P (dC, dI) classes (tt P C N fb (mv_F (mv_c (in_S ft f t) (cm_F ft now b) w 0 g 0) g (mv_s (be_F (mv_t f t b w 0 g ft) fs) (w - 1) 1 g)) fn (mv_F (mv_c (in_S ft f t) (cm_F ft now b) w 0 g 0) ft (mv_t f t b w 0 g ft)) fs fl w wi now on ts tl lf ll) H := by rw [ho]; exact hP
            have hD : va_D A (tt P C N fb (mv_F (mv_c (in_S ft f t) (cm_F ft now b) w 0 g 0) g (mv_s (be_F (mv_t f t b w 0 g ft) fs) (w - 1) 1 g)) fn (mv_F (mv_c (in_S ft f t) (cm_F ft now b) w 0 g 0) ft (mv_t f t b w 0 g ft)) fs fl w wi now on ts tl lf ll) := by rw [ho]; exact hD
            refine lv_iconst (v := (-1)) hx hb d_TT_moveTimes_46 (by decide) ?_
            exact tb_reti hx hb hr hlk hK () hP hD hS (by rw [ho]; rfl) d_TT_moveTimes_47
  refine lv_iconst (v := nI 0) hx hb d_TT_moveTimes_0 (by decide) ?_
  refine lv_istore (lv' := [(4, .int (nI 0)), (0, .ref (P 0)), (1, .int f), (2, .int t), (3, .int b)]) hx hb d_TT_moveTimes_1 hl (by decide) rfl (fun ls hl => ?_)
  refine lv_iconst (v := nI 0) hx hb d_TT_moveTimes_3 (by decide) ?_
  refine lv_istore (lv' := [(5, .int (nI 0)), (4, .int (nI 0)), (0, .ref (P 0)), (1, .int f), (2, .int t), (3, .int b)]) hx hb d_TT_moveTimes_4 hl (by decide) rfl (fun ls hl => ?_)
  exact loop1 w 0 0 _ _ _ (by omega) rfl hP hD hS (lv_sub hl [0, 1, 2, 3, 4, 5] rfl)

