def cap_F (most : Int32) : Int32 := if nI 1 < (if nI 1024 < most then nI 1024 else most) then (if nI 1024 < most then nI 1024 else most) else nI 1
theorem cap_N (most : Int32) : ∃ N : Nat, 1 ≤ N ∧ N ≤ 1024 ∧ cap_F most = nI N := by
  unfold cap_F
  by_cases h : nI 1024 < most
  · rw [if_pos h, if_pos (by decide)]
    exact ⟨1024, by omega, by omega, rfl⟩
  · rw [if_neg h]
    by_cases h2 : nI 1 < most
    · rw [if_pos h2]
      have h0 : ¬ most < 0 := fun q => by
        have q1 := Int32.lt_iff_toInt_lt.mp q
        have q2 := Int32.lt_iff_toInt_lt.mp h2
        have e1 : (nI 1).toInt = 1 := rfl
        have e0 : (0 : Int32).toInt = 0 := rfl
        omega
      obtain ⟨j, hj, rfl⟩ := nI_of h0
      have a1 := (nI_ltI (by omega) hj).mp h2
      have a2 : ¬ 1024 < j := fun q => h ((nI_ltI (by omega) hj).mpr q)
      exact ⟨j, by omega, by omega, rfl⟩
    · rw [if_neg h2]
      exact ⟨1, by omega, by omega, rfl⟩
def g_id (N : Nat) : Nat → Nat := fun j => if j < N then j else 0
theorem g_id_up (k : Nat) : va_up (g_id k) k k = g_id (k + 1) := by
  funext j
  unfold va_up g_id
  by_cases h : j = k
  · subst h
    rw [if_pos rfl, if_pos (by omega)]
  · rw [if_neg h]
    by_cases h2 : j < k
    · rw [if_pos h2, if_pos (by omega)]
    · rw [if_neg h2, if_neg (by omega)]
theorem g_id_0 : g_id 0 = fun _ => 0 := by
  funext j
  unfold g_id
  rw [if_neg (by omega)]
theorem g_id_wf (N : Nat) : wfP N (g_id N) := by
  refine ⟨fun j hj => ?_, fun i j hi hj e => ?_⟩
  · unfold g_id; rw [if_pos hj]; exact hj
  · unfold g_id at e; rw [if_pos hi, if_pos hj] at e; exact e
abbrev rmI : Room := { frames := 1, cells := 6, slots := 5632, locals := 40 }
set_option maxHeartbeats 4000000 in
set_option maxRecDepth 100000 in
/-- the constructor: six new rows -/
theorem c_init (l : Launch) (dC : Nat → ClassId) (dI : Nat → Nat → Nat) (h0 sz : Nat) (most : Int32) (N : Nat) (hN1 : 1 ≤ N) (hN2 : N ≤ 1024) (hcap : cap_F most = nI N) : Met l y_TT_init ws_TT_init rmI (va_Pc [.ref h0, .int most] (fun U => U.heap.size = sz ∧ va_P (dC, dI) classes [(h0, .inr (0, [.null, .null, .null, .null, .null, .null, .int (nI 0), .int (nI 0), .int (nI 0), .int (bI false), .int (nI 0), .int (nI 0), .int (nI 0), .int (nI 0)]))] U.heap ∧ va_K (dC, dI) classes [] U ∧ va_D (fun _ => True) [(h0, .inr (0, [.null, .null, .null, .null, .null, .null, .int (nI 0), .int (nI 0), .int (nI 0), .int (bI false), .int (nI 0), .int (nI 0), .int (nI 0), .int (nI 0)]))])) ((fun A => va_Qv (fun (u : (Nat → Nat) × (Nat → ClassId)) => u.1 0 = h0) (fun u t => va_P (dC, dI) classes (tt u.1 u.2 N (fun _ => 0) (g_id N) (fun _ => 0) (fun _ => 0) (fun _ => 0) (fun _ => 0) 0 0 0 false 0 0 0 0) t.heap ∧ va_K (dC, dI) classes (tys_T u.2) t ∧ va_D A (tt u.1 u.2 N (fun _ => 0) (g_id N) (fun _ => 0) (fun _ => 0) (fun _ => 0) (fun _ => 0) 0 0 0 false 0 0 0 0)) A) (va_A [(h0, .inr (0, [.null, .null, .null, .null, .null, .null, .int (nI 0), .int (nI 0), .int (nI 0), .int (bI false), .int (nI 0), .int (nI 0), .int (nI 0), .int (nI 0)]))] sz)) 6 5632 (va_A [(h0, .inr (0, [.null, .null, .null, .null, .null, .null, .int (nI 0), .int (nI 0), .int (nI 0), .int (bI false), .int (nI 0), .int (nI 0), .int (nI 0), .int (nI 0)]))] sz) := by
  refine tb_met (own := R_TT) (Qc := (fun A => va_Qv (fun (u : (Nat → Nat) × (Nat → ClassId)) => u.1 0 = h0) (fun u t => va_P (dC, dI) classes (tt u.1 u.2 N (fun _ => 0) (g_id N) (fun _ => 0) (fun _ => 0) (fun _ => 0) (fun _ => 0) 0 0 0 false 0 0 0 0) t.heap ∧ va_K (dC, dI) classes (tys_T u.2) t ∧ va_D A (tt u.1 u.2 N (fun _ => 0) (g_id N) (fun _ => 0) (fun _ => 0) (fun _ => 0) (fun _ => 0) 0 0 0 false 0 0 0 0)) A)) (by decide) rfl rfl (Nat.le_of_ble_eq_true rfl) [(0, .ref h0), (1, .int most)] rfl ?_
  intro p e s m below meth c A ls hx hb hr hml hts hown hlk hnm hA hK hP hD hS hl
  have hin : meth.name = "<init>" := hnm
  refine lv_aload_n hx hb d_TT_init_0 rfl (lv_at hl 0 rfl) ?_
  refine W.objInit hx hb hown (hts _ mo_TT) (hts _ im_Obj) (hts _ co_Obj) rfl (by rw [hml]; exact hl.1) rfl d_TT_init_1 (Nat.le_of_ble_eq_true rfl) (Nat.le_of_ble_eq_true rfl) ?_
  refine W.eq (g2 := F0 m 4 ls []) rfl ?_
  refine lv_iconst (v := nI 1) hx hb d_TT_init_4 (by decide) ?_
  refine lv_iload_n hx hb d_TT_init_5 rfl (lv_at hl 1 rfl) ?_
  refine lv_sipush (v := nI 1024) hx hb d_TT_init_6 (by decide) ?_
  refine va_mmin hx hb (hml.trans hl.1.symm) hown (hts _ mm_min) (hts _ st_min) (hts _ in_Math) (hts _ co_min) (Nat.le_of_ble_eq_true rfl) (Nat.le_of_ble_eq_true rfl) (Nat.zero_le _) (Nat.zero_le _) d_TT_init_9 ?_
  refine va_mmax hx hb (hml.trans hl.1.symm) hown (hts _ mm_max) (hts _ st_max) (hts _ in_Math) (hts _ co_max) (Nat.le_of_ble_eq_true rfl) (Nat.le_of_ble_eq_true rfl) (Nat.zero_le _) (Nat.zero_le _) d_TT_init_12 ?_
  refine tp_i (nI N) hcap ?_
  refine lv_istore_n (lv' := [(2, .int (nI N)), (0, .ref h0), (1, .int most)]) hx hb d_TT_init_15 rfl hl (by decide) rfl (fun ls hl => ?_)
  refine lv_aload_n hx hb d_TT_init_16 rfl (lv_at hl 1 rfl) ?_
  refine lv_sipush (v := nI 512) hx hb d_TT_init_17 (by decide) ?_
  refine va_newa (D := (dC, dI)) (atype := .byte) (ty := .byte) (N' := 512) (a0 := (512, .inl (fun _ => 0))) hx hb (hts _ ac_byte) rfl hK hP hD hS hA (fun _ => rfl) (by decide) (nI_clamp (by omega)) (by simp [componentBytes]; try omega) (Nat.le_of_ble_eq_true rfl) (by show 0 + 512 ≤ 5632; omega) d_TT_init_20 (fun q1 c1 H hK hP hD hS => ?_)
  have hK : va_K (dC, dI) classes [(c1, .byte)] s := hK
  have hP : va_P (dC, dI) classes [(h0, .inr (0, [.null, .null, .null, .null, .null, .null, .int (nI 0), .int (nI 0), .int (nI 0), .int (bI false), .int (nI 0), .int (nI 0), .int (nI 0), .int (nI 0)])), (q1, .inl (c1, 512, .inl (fun _ => 0)))] H := hP
  have hD : va_D A [(h0, .inr (0, [.null, .null, .null, .null, .null, .null, .int (nI 0), .int (nI 0), .int (nI 0), .int (bI false), .int (nI 0), .int (nI 0), .int (nI 0), .int (nI 0)])), (q1, .inl (c1, 512, .inl (fun _ => 0)))] := hD
  refine va_putF (D := (dC, dI)) (ci := 0) (v := .ref q1) (ty := .array .byte) (C := R_TT) (T := F_TT) (N := 14) hx hb hts i_TT t_TT t_TT_ok n_TT hown hK hP hD hS 0 rfl rfl 0 (by decide) (hts _ fl_TT_18) (fun _ h9 => h9) rfl hin rfl (by decide +kernel) rfl rfl (Nat.le_of_ble_eq_true rfl) d_TT_init_22 (fun H locs hP hD hS => ?_)
  have hP : va_P (dC, dI) classes [(h0, .inr (0, [.ref q1, .null, .null, .null, .null, .null, .int (nI 0), .int (nI 0), .int (nI 0), .int (bI false), .int (nI 0), .int (nI 0), .int (nI 0), .int (nI 0)])), (q1, .inl (c1, 512, .inl (fun _ => 0)))] H := hP
  have hD : va_D A [(h0, .inr (0, [.ref q1, .null, .null, .null, .null, .null, .int (nI 0), .int (nI 0), .int (nI 0), .int (bI false), .int (nI 0), .int (nI 0), .int (nI 0), .int (nI 0)])), (q1, .inl (c1, 512, .inl (fun _ => 0)))] := hD
  refine lv_aload_n hx hb d_TT_init_25 rfl (lv_at hl 1 rfl) ?_
  refine lv_iload_n hx hb d_TT_init_26 rfl (lv_at hl 0 rfl) ?_
  refine va_newa (D := (dC, dI)) (atype := .int) (ty := .int) (N' := N) (a0 := (N, .inl (fun i => nI ((fun _ => 0) i)))) hx hb (hts _ ac_int) rfl hK hP hD hS hA (fun _ => rfl) (nI_pos (by omega)) (nI_clamp (by omega)) (by simp [componentBytes]; try omega) (Nat.le_of_ble_eq_true rfl) (by show 0 + 512 + N ≤ 5632; omega) d_TT_init_27 (fun q2 c2 H hK hP hD hS => ?_)
  have hK : va_K (dC, dI) classes [(c1, .byte), (c2, .int)] s := hK
  have hP : va_P (dC, dI) classes [(h0, .inr (0, [.ref q1, .null, .null, .null, .null, .null, .int (nI 0), .int (nI 0), .int (nI 0), .int (bI false), .int (nI 0), .int (nI 0), .int (nI 0), .int (nI 0)])), (q1, .inl (c1, 512, .inl (fun _ => 0))), (q2, .inl (c2, N, .inl (fun i => nI ((fun _ => 0) i))))] H := hP
  have hD : va_D A [(h0, .inr (0, [.ref q1, .null, .null, .null, .null, .null, .int (nI 0), .int (nI 0), .int (nI 0), .int (bI false), .int (nI 0), .int (nI 0), .int (nI 0), .int (nI 0)])), (q1, .inl (c1, 512, .inl (fun _ => 0))), (q2, .inl (c2, N, .inl (fun i => nI ((fun _ => 0) i))))] := hD
  refine va_putF (D := (dC, dI)) (ci := 0) (v := .ref q2) (ty := .array .int) (C := R_TT) (T := F_TT) (N := 14) hx hb hts i_TT t_TT t_TT_ok n_TT hown hK hP hD hS 0 rfl rfl 1 (by decide) (hts _ fl_TT_22) (fun _ h9 => h9) rfl hin rfl (by decide +kernel) rfl rfl (Nat.le_of_ble_eq_true rfl) d_TT_init_29 (fun H locs hP hD hS => ?_)
  have hP : va_P (dC, dI) classes [(h0, .inr (0, [.ref q1, .ref q2, .null, .null, .null, .null, .int (nI 0), .int (nI 0), .int (nI 0), .int (bI false), .int (nI 0), .int (nI 0), .int (nI 0), .int (nI 0)])), (q1, .inl (c1, 512, .inl (fun _ => 0))), (q2, .inl (c2, N, .inl (fun i => nI ((fun _ => 0) i))))] H := hP
  have hD : va_D A [(h0, .inr (0, [.ref q1, .ref q2, .null, .null, .null, .null, .int (nI 0), .int (nI 0), .int (nI 0), .int (bI false), .int (nI 0), .int (nI 0), .int (nI 0), .int (nI 0)])), (q1, .inl (c1, 512, .inl (fun _ => 0))), (q2, .inl (c2, N, .inl (fun i => nI ((fun _ => 0) i))))] := hD
  refine lv_aload_n hx hb d_TT_init_32 rfl (lv_at hl 1 rfl) ?_
  refine lv_iload_n hx hb d_TT_init_33 rfl (lv_at hl 0 rfl) ?_
  refine va_newa (D := (dC, dI)) (atype := .int) (ty := .int) (N' := N) (a0 := (N, .inl (fun _ => 0))) hx hb (hts _ ac_int) rfl hK hP hD hS hA (fun _ => rfl) (nI_pos (by omega)) (nI_clamp (by omega)) (by simp [componentBytes]; try omega) (Nat.le_of_ble_eq_true rfl) (by show 0 + 512 + N + N ≤ 5632; omega) d_TT_init_34 (fun q3 c3 H hK hP hD hS => ?_)
  have hK : va_K (dC, dI) classes [(c1, .byte), (c2, .int), (c3, .int)] s := hK
  have hP : va_P (dC, dI) classes [(h0, .inr (0, [.ref q1, .ref q2, .null, .null, .null, .null, .int (nI 0), .int (nI 0), .int (nI 0), .int (bI false), .int (nI 0), .int (nI 0), .int (nI 0), .int (nI 0)])), (q1, .inl (c1, 512, .inl (fun _ => 0))), (q2, .inl (c2, N, .inl (fun i => nI ((fun _ => 0) i)))), (q3, .inl (c3, N, .inl (fun _ => 0)))] H := hP
  have hD : va_D A [(h0, .inr (0, [.ref q1, .ref q2, .null, .null, .null, .null, .int (nI 0), .int (nI 0), .int (nI 0), .int (bI false), .int (nI 0), .int (nI 0), .int (nI 0), .int (nI 0)])), (q1, .inl (c1, 512, .inl (fun _ => 0))), (q2, .inl (c2, N, .inl (fun i => nI ((fun _ => 0) i)))), (q3, .inl (c3, N, .inl (fun _ => 0)))] := hD
  refine va_putF (D := (dC, dI)) (ci := 0) (v := .ref q3) (ty := .array .int) (C := R_TT) (T := F_TT) (N := 14) hx hb hts i_TT t_TT t_TT_ok n_TT hown hK hP hD hS 0 rfl rfl 2 (by decide) (hts _ fl_TT_26) (fun _ h9 => h9) rfl hin rfl (by decide +kernel) rfl rfl (Nat.le_of_ble_eq_true rfl) d_TT_init_36 (fun H locs hP hD hS => ?_)
  have hP : va_P (dC, dI) classes [(h0, .inr (0, [.ref q1, .ref q2, .ref q3, .null, .null, .null, .int (nI 0), .int (nI 0), .int (nI 0), .int (bI false), .int (nI 0), .int (nI 0), .int (nI 0), .int (nI 0)])), (q1, .inl (c1, 512, .inl (fun _ => 0))), (q2, .inl (c2, N, .inl (fun i => nI ((fun _ => 0) i)))), (q3, .inl (c3, N, .inl (fun _ => 0)))] H := hP
  have hD : va_D A [(h0, .inr (0, [.ref q1, .ref q2, .ref q3, .null, .null, .null, .int (nI 0), .int (nI 0), .int (nI 0), .int (bI false), .int (nI 0), .int (nI 0), .int (nI 0), .int (nI 0)])), (q1, .inl (c1, 512, .inl (fun _ => 0))), (q2, .inl (c2, N, .inl (fun i => nI ((fun _ => 0) i)))), (q3, .inl (c3, N, .inl (fun _ => 0)))] := hD
  refine lv_aload_n hx hb d_TT_init_39 rfl (lv_at hl 1 rfl) ?_
  refine lv_iload_n hx hb d_TT_init_40 rfl (lv_at hl 0 rfl) ?_
  refine va_newa (D := (dC, dI)) (atype := .int) (ty := .int) (N' := N) (a0 := (N, .inl (fun _ => 0))) hx hb (hts _ ac_int) rfl hK hP hD hS hA (fun _ => rfl) (nI_pos (by omega)) (nI_clamp (by omega)) (by simp [componentBytes]; try omega) (Nat.le_of_ble_eq_true rfl) (by show 0 + 512 + N + N + N ≤ 5632; omega) d_TT_init_41 (fun q4 c4 H hK hP hD hS => ?_)
  have hK : va_K (dC, dI) classes [(c1, .byte), (c2, .int), (c3, .int), (c4, .int)] s := hK
  have hP : va_P (dC, dI) classes [(h0, .inr (0, [.ref q1, .ref q2, .ref q3, .null, .null, .null, .int (nI 0), .int (nI 0), .int (nI 0), .int (bI false), .int (nI 0), .int (nI 0), .int (nI 0), .int (nI 0)])), (q1, .inl (c1, 512, .inl (fun _ => 0))), (q2, .inl (c2, N, .inl (fun i => nI ((fun _ => 0) i)))), (q3, .inl (c3, N, .inl (fun _ => 0))), (q4, .inl (c4, N, .inl (fun _ => 0)))] H := hP
  have hD : va_D A [(h0, .inr (0, [.ref q1, .ref q2, .ref q3, .null, .null, .null, .int (nI 0), .int (nI 0), .int (nI 0), .int (bI false), .int (nI 0), .int (nI 0), .int (nI 0), .int (nI 0)])), (q1, .inl (c1, 512, .inl (fun _ => 0))), (q2, .inl (c2, N, .inl (fun i => nI ((fun _ => 0) i)))), (q3, .inl (c3, N, .inl (fun _ => 0))), (q4, .inl (c4, N, .inl (fun _ => 0)))] := hD
  refine va_putF (D := (dC, dI)) (ci := 0) (v := .ref q4) (ty := .array .int) (C := R_TT) (T := F_TT) (N := 14) hx hb hts i_TT t_TT t_TT_ok n_TT hown hK hP hD hS 0 rfl rfl 3 (by decide) (hts _ fl_TT_29) (fun _ h9 => h9) rfl hin rfl (by decide +kernel) rfl rfl (Nat.le_of_ble_eq_true rfl) d_TT_init_43 (fun H locs hP hD hS => ?_)
  have hP : va_P (dC, dI) classes [(h0, .inr (0, [.ref q1, .ref q2, .ref q3, .ref q4, .null, .null, .int (nI 0), .int (nI 0), .int (nI 0), .int (bI false), .int (nI 0), .int (nI 0), .int (nI 0), .int (nI 0)])), (q1, .inl (c1, 512, .inl (fun _ => 0))), (q2, .inl (c2, N, .inl (fun i => nI ((fun _ => 0) i)))), (q3, .inl (c3, N, .inl (fun _ => 0))), (q4, .inl (c4, N, .inl (fun _ => 0)))] H := hP
  have hD : va_D A [(h0, .inr (0, [.ref q1, .ref q2, .ref q3, .ref q4, .null, .null, .int (nI 0), .int (nI 0), .int (nI 0), .int (bI false), .int (nI 0), .int (nI 0), .int (nI 0), .int (nI 0)])), (q1, .inl (c1, 512, .inl (fun _ => 0))), (q2, .inl (c2, N, .inl (fun i => nI ((fun _ => 0) i)))), (q3, .inl (c3, N, .inl (fun _ => 0))), (q4, .inl (c4, N, .inl (fun _ => 0)))] := hD
  refine lv_aload_n hx hb d_TT_init_46 rfl (lv_at hl 1 rfl) ?_
  refine lv_iload_n hx hb d_TT_init_47 rfl (lv_at hl 0 rfl) ?_
  refine va_newa (D := (dC, dI)) (atype := .int) (ty := .int) (N' := N) (a0 := (N, .inl (fun i => nI ((fun _ => 0) i)))) hx hb (hts _ ac_int) rfl hK hP hD hS hA (fun _ => rfl) (nI_pos (by omega)) (nI_clamp (by omega)) (by simp [componentBytes]; try omega) (Nat.le_of_ble_eq_true rfl) (by show 0 + 512 + N + N + N + N ≤ 5632; omega) d_TT_init_48 (fun q5 c5 H hK hP hD hS => ?_)
  have hK : va_K (dC, dI) classes [(c1, .byte), (c2, .int), (c3, .int), (c4, .int), (c5, .int)] s := hK
  have hP : va_P (dC, dI) classes [(h0, .inr (0, [.ref q1, .ref q2, .ref q3, .ref q4, .null, .null, .int (nI 0), .int (nI 0), .int (nI 0), .int (bI false), .int (nI 0), .int (nI 0), .int (nI 0), .int (nI 0)])), (q1, .inl (c1, 512, .inl (fun _ => 0))), (q2, .inl (c2, N, .inl (fun i => nI ((fun _ => 0) i)))), (q3, .inl (c3, N, .inl (fun _ => 0))), (q4, .inl (c4, N, .inl (fun _ => 0))), (q5, .inl (c5, N, .inl (fun i => nI ((fun _ => 0) i))))] H := hP
  have hD : va_D A [(h0, .inr (0, [.ref q1, .ref q2, .ref q3, .ref q4, .null, .null, .int (nI 0), .int (nI 0), .int (nI 0), .int (bI false), .int (nI 0), .int (nI 0), .int (nI 0), .int (nI 0)])), (q1, .inl (c1, 512, .inl (fun _ => 0))), (q2, .inl (c2, N, .inl (fun i => nI ((fun _ => 0) i)))), (q3, .inl (c3, N, .inl (fun _ => 0))), (q4, .inl (c4, N, .inl (fun _ => 0))), (q5, .inl (c5, N, .inl (fun i => nI ((fun _ => 0) i))))] := hD
  refine va_putF (D := (dC, dI)) (ci := 0) (v := .ref q5) (ty := .array .int) (C := R_TT) (T := F_TT) (N := 14) hx hb hts i_TT t_TT t_TT_ok n_TT hown hK hP hD hS 0 rfl rfl 4 (by decide) (hts _ fl_TT_32) (fun _ h9 => h9) rfl hin rfl (by decide +kernel) rfl rfl (Nat.le_of_ble_eq_true rfl) d_TT_init_50 (fun H locs hP hD hS => ?_)
  have hP : va_P (dC, dI) classes [(h0, .inr (0, [.ref q1, .ref q2, .ref q3, .ref q4, .ref q5, .null, .int (nI 0), .int (nI 0), .int (nI 0), .int (bI false), .int (nI 0), .int (nI 0), .int (nI 0), .int (nI 0)])), (q1, .inl (c1, 512, .inl (fun _ => 0))), (q2, .inl (c2, N, .inl (fun i => nI ((fun _ => 0) i)))), (q3, .inl (c3, N, .inl (fun _ => 0))), (q4, .inl (c4, N, .inl (fun _ => 0))), (q5, .inl (c5, N, .inl (fun i => nI ((fun _ => 0) i))))] H := hP
  have hD : va_D A [(h0, .inr (0, [.ref q1, .ref q2, .ref q3, .ref q4, .ref q5, .null, .int (nI 0), .int (nI 0), .int (nI 0), .int (bI false), .int (nI 0), .int (nI 0), .int (nI 0), .int (nI 0)])), (q1, .inl (c1, 512, .inl (fun _ => 0))), (q2, .inl (c2, N, .inl (fun i => nI ((fun _ => 0) i)))), (q3, .inl (c3, N, .inl (fun _ => 0))), (q4, .inl (c4, N, .inl (fun _ => 0))), (q5, .inl (c5, N, .inl (fun i => nI ((fun _ => 0) i))))] := hD
  refine lv_aload_n hx hb d_TT_init_53 rfl (lv_at hl 1 rfl) ?_
  refine lv_iload_n hx hb d_TT_init_54 rfl (lv_at hl 0 rfl) ?_
  refine va_newa (D := (dC, dI)) (atype := .int) (ty := .int) (N' := N) (a0 := (N, .inl (fun i => nI ((fun _ => 0) i)))) hx hb (hts _ ac_int) rfl hK hP hD hS hA (fun _ => rfl) (nI_pos (by omega)) (nI_clamp (by omega)) (by simp [componentBytes]; try omega) (Nat.le_of_ble_eq_true rfl) (by show 0 + 512 + N + N + N + N + N ≤ 5632; omega) d_TT_init_55 (fun q6 c6 H hK hP hD hS => ?_)
  have hK : va_K (dC, dI) classes [(c1, .byte), (c2, .int), (c3, .int), (c4, .int), (c5, .int), (c6, .int)] s := hK
  have hP : va_P (dC, dI) classes [(h0, .inr (0, [.ref q1, .ref q2, .ref q3, .ref q4, .ref q5, .null, .int (nI 0), .int (nI 0), .int (nI 0), .int (bI false), .int (nI 0), .int (nI 0), .int (nI 0), .int (nI 0)])), (q1, .inl (c1, 512, .inl (fun _ => 0))), (q2, .inl (c2, N, .inl (fun i => nI ((fun _ => 0) i)))), (q3, .inl (c3, N, .inl (fun _ => 0))), (q4, .inl (c4, N, .inl (fun _ => 0))), (q5, .inl (c5, N, .inl (fun i => nI ((fun _ => 0) i)))), (q6, .inl (c6, N, .inl (fun i => nI ((fun _ => 0) i))))] H := hP
  have hD : va_D A [(h0, .inr (0, [.ref q1, .ref q2, .ref q3, .ref q4, .ref q5, .null, .int (nI 0), .int (nI 0), .int (nI 0), .int (bI false), .int (nI 0), .int (nI 0), .int (nI 0), .int (nI 0)])), (q1, .inl (c1, 512, .inl (fun _ => 0))), (q2, .inl (c2, N, .inl (fun i => nI ((fun _ => 0) i)))), (q3, .inl (c3, N, .inl (fun _ => 0))), (q4, .inl (c4, N, .inl (fun _ => 0))), (q5, .inl (c5, N, .inl (fun i => nI ((fun _ => 0) i)))), (q6, .inl (c6, N, .inl (fun i => nI ((fun _ => 0) i))))] := hD
  refine va_putF (D := (dC, dI)) (ci := 0) (v := .ref q6) (ty := .array .int) (C := R_TT) (T := F_TT) (N := 14) hx hb hts i_TT t_TT t_TT_ok n_TT hown hK hP hD hS 0 rfl rfl 5 (by decide) (hts _ fl_TT_35) (fun _ h9 => h9) rfl hin rfl (by decide +kernel) rfl rfl (Nat.le_of_ble_eq_true rfl) d_TT_init_57 (fun H locs hP hD hS => ?_)
  have hP : va_P (dC, dI) classes [(h0, .inr (0, [.ref q1, .ref q2, .ref q3, .ref q4, .ref q5, .ref q6, .int (nI 0), .int (nI 0), .int (nI 0), .int (bI false), .int (nI 0), .int (nI 0), .int (nI 0), .int (nI 0)])), (q1, .inl (c1, 512, .inl (fun _ => 0))), (q2, .inl (c2, N, .inl (fun i => nI ((fun _ => 0) i)))), (q3, .inl (c3, N, .inl (fun _ => 0))), (q4, .inl (c4, N, .inl (fun _ => 0))), (q5, .inl (c5, N, .inl (fun i => nI ((fun _ => 0) i)))), (q6, .inl (c6, N, .inl (fun i => nI ((fun _ => 0) i))))] H := hP
  have hD : va_D A [(h0, .inr (0, [.ref q1, .ref q2, .ref q3, .ref q4, .ref q5, .ref q6, .int (nI 0), .int (nI 0), .int (nI 0), .int (bI false), .int (nI 0), .int (nI 0), .int (nI 0), .int (nI 0)])), (q1, .inl (c1, 512, .inl (fun _ => 0))), (q2, .inl (c2, N, .inl (fun i => nI ((fun _ => 0) i)))), (q3, .inl (c3, N, .inl (fun _ => 0))), (q4, .inl (c4, N, .inl (fun _ => 0))), (q5, .inl (c5, N, .inl (fun i => nI ((fun _ => 0) i)))), (q6, .inl (c6, N, .inl (fun i => nI ((fun _ => 0) i))))] := hD
  obtain ⟨P, hPe⟩ : ∃ P : Nat → Nat, P = fun k => match k with | 0 => h0 | 1 => q1 | 2 => q2 | 3 => q3 | 4 => q4 | 5 => q5 | _ => q6 := ⟨_, rfl⟩
  obtain ⟨C, hCe⟩ : ∃ C : Nat → ClassId, C = fun k => match k with | 0 => c1 | 1 => c2 | 2 => c3 | 3 => c4 | 4 => c5 | _ => c6 := ⟨_, rfl⟩
  have hP : va_P (dC, dI) classes (tt P C N (fun _ => 0) (g_id 0) (fun _ => 0) (fun _ => 0) (fun _ => 0) (fun _ => 0) 0 0 0 false 0 0 0 0) H := by rw [hPe, hCe, g_id_0]; exact hP
  have hD : va_D A (tt P C N (fun _ => 0) (g_id 0) (fun _ => 0) (fun _ => 0) (fun _ => 0) (fun _ => 0) 0 0 0 false 0 0 0 0) := by rw [hPe, hCe, g_id_0]; exact hD
  have hK : va_K (dC, dI) classes (tys_T C) s := by rw [hCe]; exact hK
  have hP0 : P 0 = h0 := by rw [hPe]; rfl
  have hl : lv_has ls 4 [(2, .int (nI N)), (0, .ref (P 0)), (1, .int most)] := by rw [hP0]; exact hl
  clear hPe hCe
  refine lv_iconst (v := nI 0) hx hb d_TT_init_60 (by decide) ?_
  refine lv_istore_n (lv' := [(3, .int (nI 0)), (2, .int (nI N)), (0, .ref (P 0)), (1, .int most)]) hx hb d_TT_init_61 rfl hl (by decide) rfl (fun ls hl => ?_)
  refine W.widen (k := 6) (n := 5632) (by omega) (by omega) ?_
  have loop : ∀ (n k : Nat) (H : Heap) (locs : List Loc) (ls : Array Slot), k + n = N → va_P (dC, dI) classes (tt P C N (fun _ => 0) (g_id k) (fun _ => 0) (fun _ => 0) (fun _ => 0) (fun _ => 0) 0 0 0 false 0 0 0 0) H → va_D A (tt P C N (fun _ => 0) (g_id k) (fun _ => 0) (fun _ => 0) (fun _ => 0) (fun _ => 0) 0 0 0 false 0 0 0 0) → va_S A s.heap H locs → lv_has ls 4 [(3, .int (nI k)), (2, .int (nI N)), (0, .ref (P 0)), (1, .int most)] → W p l e rmI s m [Value.ref h0, .int most].toArray below meth c H locs 6 5632 (MQ below ((fun A => va_Qv (fun (u : (Nat → Nat) × (Nat → ClassId)) => u.1 0 = h0) (fun u t => va_P (dC, dI) classes (tt u.1 u.2 N (fun _ => 0) (g_id N) (fun _ => 0) (fun _ => 0) (fun _ => 0) (fun _ => 0) 0 0 0 false 0 0 0 0) t.heap ∧ va_K (dC, dI) classes (tys_T u.2) t ∧ va_D A (tt u.1 u.2 N (fun _ => 0) (g_id N) (fun _ => 0) (fun _ => 0) (fun _ => 0) (fun _ => 0) 0 0 0 false 0 0 0 0)) A) A) [Value.ref h0, .int most].toArray s 6 5632 A) (F0 m 62 ls []) := by
    clear hP hD hS hl
    intro n
    induction n with
    | zero =>
      intro k H locs ls hn hP hD hS hl
      refine lv_iload_n hx hb d_TT_init_62 rfl (lv_at hl 0 rfl) ?_
      refine lv_iload_n hx hb d_TT_init_63 rfl (lv_at hl 1 rfl) ?_
      refine lv_icmp_ge (tgt := 80) hx hb d_TT_init_64 (by decide) (fun c_64 => ?_) (fun c_64 => ?_)
      · have hk : k = N := by omega
        subst hk
        exact W.vret hx hb hr (fun t ht hW => ⟨⟨(P, C), rfl, hP0, by rw [ht]; exact hP, va_K.moved hW.alike hK, hD⟩, hS.F ht⟩) hS.2.2 d_TT_init_80 hlk
      · exact absurd (nI_le (by omega) (by omega)) c_64
    | succ n ih =>
      intro k H locs ls hn hP hD hS hl
      refine lv_iload_n hx hb d_TT_init_62 rfl (lv_at hl 0 rfl) ?_
      refine lv_iload_n hx hb d_TT_init_63 rfl (lv_at hl 1 rfl) ?_
      refine lv_icmp_ge (tgt := 80) hx hb d_TT_init_64 (by decide) (fun c_64 => ?_) (fun c_64 => ?_)
      · exact absurd ((nI_leI (by omega) (by omega)).mp c_64) (by omega)
      · refine lv_aload_n hx hb d_TT_init_67 rfl (lv_at hl 2 rfl) ?_
        refine xg hx hb hts hown hK hP rfl 1 (by decide) rfl fl_TT_22 rfl d_TT_init_68 ?_
        refine lv_iload_n hx hb d_TT_init_71 rfl (lv_at hl 0 rfl) ?_
        refine lv_iload_n hx hb d_TT_init_72 rfl (lv_at hl 0 rfl) ?_
        refine tb_iastN hx hb hK hP hD hS 2 1 rfl rfl (by omega) (by omega) (tt P C N (fun _ => 0) (va_up (g_id k) k k) (fun _ => 0) (fun _ => 0) (fun _ => 0) (fun _ => 0) 0 0 0 false 0 0 0 0) rfl d_TT_init_73 (fun H locs hP hD hS => ?_)
        rw [g_id_up] at hP hD
        refine lv_iinc (v := nI (k + 1)) (lv' := [(3, .int (nI (k + 1))), (2, .int (nI N)), (0, .ref (P 0)), (1, .int most)]) hx hb d_TT_init_74 hl (k := 0) rfl (nI_1 _) (by decide) rfl (fun ls hl => ?_)
        refine lv_goto (tgt := 62) hx hb d_TT_init_77 (by decide) ?_
        exact ih _ _ _ _ (by omega) hP hD hS (lv_sub hl [0, 1, 2, 3] rfl)
  exact loop N 0 _ _ _ (by omega) hP hD hS (lv_sub hl [0, 1, 2, 3] rfl)
