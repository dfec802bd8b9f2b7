set_option maxHeartbeats 4000000 in
set_option maxRecDepth 100000 in
/-- the law: put -/
theorem law_put {p : Program} {l : Launch} {e : Env} {s : State} {m : MethodId} {below : List Frame} {meth : Method} {c : Code} {dC : Nat → ClassId} {dI : Nat → Nat → Nat} {b L : Nat} {xs : Nat → Int32} {N : Nat} {PX PM : Nat → Nat} {CX CM : Nat → ClassId} (F : LF p s m meth c dC dI b L xs CX CM) {cn : Nat} (ih : LH p l e s m below meth c dC dI b N PX PM CX CM (cn + 1)) (hc : cn < 512) (hi : 1 + 4 * cn + 4 ≤ L) (fb : Nat → Int32) (g : Nat → Nat) (fn ft : Nat → Int32) (fs fl : Nat → Nat) (w wi now : Nat) (on : Bool) (ts tl lf ll : Nat) (tx lx nu ti : Nat → Int32) (si ro : Nat → Nat) (us : Nat → Bool) (bt : Nat → Int32) (w2 al tl2 ll2 : Nat) (H : Heap) (locs : List Loc) (ls : Array Slot) (J : JR cn N fb g fn ft fs fl w wi now ts tl lf ll tx lx bt (nu, ti, si, ro, us, w2) al tl2 ll2) (hP : va_P (dC, dI) classes (tt PX CX N fb g fn ft fs fl w wi now on ts tl lf ll ++ mm PM CM N tx lx nu ti si ro us bt w2 al now on tl2 ll2) H) (hD : va_D (fun q : Nat => s.heap.size ≤ q) (tt PX CX N fb g fn ft fs fl w wi now on ts tl lf ll ++ mm PM CM N tx lx nu ti si ro us bt w2 al now on tl2 ll2)) (hS : va_S (fun q : Nat => s.heap.size ≤ q) s.heap H locs) (hl : lv_has ls 4 [(3, .int (nI (1 + 4 * cn))), (2, .ref (PM 0)), (1, .ref (PX 0)), (0, .ref b)]) : W p l e room_1 s m #[Value.ref b] below meth c H locs 600000 7302250 (lw_Z below #[Value.ref b] s) (F0 m 116 ls []) := by
  obtain ⟨hL, hx, hb, hr, hml, hown, hts, hX, hbl, hlocks, hKx, hKm⟩ := F
  obtain ⟨z1, z2, z3, z4, ⟨z5, z6, z7, hgw⟩, hfs, hfl, z8, z9, z10, z11, z12, z13, hro, hsi⟩ := jr_bd J
  obtain ⟨A, hAe⟩ : ∃ A : Nat → Prop, A = (fun q : Nat => s.heap.size ≤ q) := ⟨_, rfl⟩
  have hA : ∀ q : Nat, s.heap.size ≤ q → A q := fun q h => by rw [hAe]; exact h
  have hbA : ¬ A b := by rw [hAe]; exact Nat.not_le.mpr hbl
  rw [← hAe] at hD hS
  refine lv_aload_n hx hb d_law_116 rfl (lv_at hl 2 rfl) ?_
  refine lv_aload_n hx hb d_law_117 rfl (lv_at hl 3 rfl) ?_
  refine lv_iload_n hx hb d_law_118 rfl (lv_at hl 0 rfl) ?_
  refine lv_iconst (v := nI 1) hx hb d_law_119 (by decide) ?_
  refine lv_iadd hx hb d_law_120 ?_
  refine tp_i (nI (1 + 4 * cn + 1)) (nI_add _ _) ?_
  refine va_sld hx hb hX hbl hbA hS (vp_in_nI (n := 1 + 4 * cn + 1) (by omega) (by omega)) d_law_121 ?_
  refine tp_i (xs (1 + 4 * cn + 1)) (by rw [nI_clamp (by omega)]) ?_
  refine tl_calli (c_put l dC dI PX CX N H.size fb g fn ft fs fl w wi now on ts tl lf ll (xs (1 + 4 * cn + 1)) (by omega) (by omega) (fun _ => by omega)) ⟨hx, hb, hml, hown, hts⟩ (cwV 1 hts g_law_21 rfl rfl rfl (by decide +kernel) ⟨Nat.le_of_ble_eq_true rfl, Nat.le_of_ble_eq_true rfl⟩) hKx hP hD hS hA 0 rfl 0 rfl rfl hl.1 rfl (Nat.le_of_ble_eq_true rfl) d_law_122 ⟨Nat.le_refl _, Nat.le_refl _⟩ (fun r1 u H locs hwc hP hD hS => ?_)
  obtain ⟨fb', tl'⟩ := u
  have hP : va_P (dC, dI) classes (tt PX CX N fb' g fn ft fs fl w wi now on ts tl' lf ll ++ mm PM CM N tx lx nu ti si ro us bt w2 al now on tl2 ll2) H := hP
  have hD : va_D A (tt PX CX N fb' g fn ft fs fl w wi now on ts tl' lf ll ++ mm PM CM N tx lx nu ti si ro us bt w2 al now on tl2 ll2) := hD
  refine lv_aload_n hx hb d_law_125 rfl (lv_at hl 1 rfl) ?_
  refine lv_aload_n hx hb d_law_126 rfl (lv_at hl 3 rfl) ?_
  refine lv_iload_n hx hb d_law_127 rfl (lv_at hl 0 rfl) ?_
  refine lv_iconst (v := nI 1) hx hb d_law_128 (by decide) ?_
  refine lv_iadd hx hb d_law_129 ?_
  refine tp_i (nI (1 + 4 * cn + 1)) (nI_add _ _) ?_
  refine va_sld hx hb hX hbl hbA hS (vp_in_nI (n := 1 + 4 * cn + 1) (by omega) (by omega)) d_law_130 ?_
  refine tp_i (xs (1 + 4 * cn + 1)) (by rw [nI_clamp (by omega)]) ?_
  have hP := fr_sw hP
  have hD := fr_swD hD
  refine tl_calli (mc_put l dC dI PM CM N H.size tx lx nu ti si ro us bt w2 al now on tl2 ll2 (xs (1 + 4 * cn + 1)) (by omega)) ⟨hx, hb, hml, hown, hts⟩ (cwV 1 hts g_law_25 rfl rfl rfl (by decide +kernel) ⟨Nat.le_of_ble_eq_true rfl, Nat.le_of_ble_eq_true rfl⟩) hKm hP hD hS hA 1 rfl 0 rfl rfl hl.1 rfl (Nat.le_of_ble_eq_true rfl) d_law_131 ⟨Nat.le_refl _, Nat.le_refl _⟩ (fun r2 u H locs hwm hP hD hS => ?_)
  obtain ⟨tx', tl2'⟩ := u
  have hP : va_P (dC, dI) classes (mm PM CM N tx' lx nu ti si ro us bt w2 al now on tl2' ll2 ++ tt PX CX N fb' g fn ft fs fl w wi now on ts tl' lf ll) H := hP
  have hD : va_D A (mm PM CM N tx' lx nu ti si ro us bt w2 al now on tl2' ll2 ++ tt PX CX N fb' g fn ft fs fl w wi now on ts tl' lf ll) := hD
  have hP := fr_sw hP
  have hD := fr_swD hD
  obtain ⟨he, J⟩ := jr_put J hc hwc hwm
  refine lv_icmp_eq (tgt := 493) hx hb d_law_134 (by decide) (fun c_134 => ?_) (fun c_134 => ?_)
  · rw [hAe] at hD hS
    refine lv_iinc (v := nI (1 + 4 * (cn + 1))) (lv' := [(3, .int (nI (1 + 4 * (cn + 1)))), (2, .ref (PM 0)), (1, .ref (PX 0)), (0, .ref b)]) hx hb d_law_493 hl (k := 0) rfl (nI_4 _) (by decide) rfl (fun ls hl => ?_)
    refine lv_goto (tgt := 28) hx hb d_law_496 (by decide) ?_
    exact ih _ _ _ _ _ _ _ _ _ _ _ _ _ _ _ _ _ _ _ _ _ _ _ _ _ _ _ _ _ J hP hD hS hl
  · exact absurd he c_134

set_option maxHeartbeats 4000000 in
set_option maxRecDepth 100000 in
/-- the law: insert -/
theorem law_insert {p : Program} {l : Launch} {e : Env} {s : State} {m : MethodId} {below : List Frame} {meth : Method} {c : Code} {dC : Nat → ClassId} {dI : Nat → Nat → Nat} {b L : Nat} {xs : Nat → Int32} {N : Nat} {PX PM : Nat → Nat} {CX CM : Nat → ClassId} (F : LF p s m meth c dC dI b L xs CX CM) {cn : Nat} (ih : LH p l e s m below meth c dC dI b N PX PM CX CM (cn + 1)) (hc : cn < 512) (hi : 1 + 4 * cn + 4 ≤ L) (fb : Nat → Int32) (g : Nat → Nat) (fn ft : Nat → Int32) (fs fl : Nat → Nat) (w wi now : Nat) (on : Bool) (ts tl lf ll : Nat) (tx lx nu ti : Nat → Int32) (si ro : Nat → Nat) (us : Nat → Bool) (bt : Nat → Int32) (w2 al tl2 ll2 : Nat) (H : Heap) (locs : List Loc) (ls : Array Slot) (J : JR cn N fb g fn ft fs fl w wi now ts tl lf ll tx lx bt (nu, ti, si, ro, us, w2) al tl2 ll2) (hP : va_P (dC, dI) classes (tt PX CX N fb g fn ft fs fl w wi now on ts tl lf ll ++ mm PM CM N tx lx nu ti si ro us bt w2 al now on tl2 ll2) H) (hD : va_D (fun q : Nat => s.heap.size ≤ q) (tt PX CX N fb g fn ft fs fl w wi now on ts tl lf ll ++ mm PM CM N tx lx nu ti si ro us bt w2 al now on tl2 ll2)) (hS : va_S (fun q : Nat => s.heap.size ≤ q) s.heap H locs) (hl : lv_has ls 4 [(3, .int (nI (1 + 4 * cn))), (2, .ref (PM 0)), (1, .ref (PX 0)), (0, .ref b)]) : W p l e room_1 s m #[Value.ref b] below meth c H locs 600000 7302250 (lw_Z below #[Value.ref b] s) (F0 m 139 ls []) := by
  obtain ⟨hL, hx, hb, hr, hml, hown, hts, hX, hbl, hlocks, hKx, hKm⟩ := F
  obtain ⟨z1, z2, z3, z4, ⟨z5, z6, z7, hgw⟩, hfs, hfl, z8, z9, z10, z11, z12, z13, hro, hsi⟩ := jr_bd J
  obtain ⟨A, hAe⟩ : ∃ A : Nat → Prop, A = (fun q : Nat => s.heap.size ≤ q) := ⟨_, rfl⟩
  have hA : ∀ q : Nat, s.heap.size ≤ q → A q := fun q h => by rw [hAe]; exact h
  have hbA : ¬ A b := by rw [hAe]; exact Nat.not_le.mpr hbl
  rw [← hAe] at hD hS
  obtain ⟨r0, hfr⟩ : ∃ r0, w2 < N → r0 < 1024 ∧ us r0 = false ∧ ∀ j, j < r0 → us j = true := by
    obtain ⟨-, E, T, L, -, hm⟩ := J
    exact rm_free hm
  refine lv_aload_n hx hb d_law_139 rfl (lv_at hl 2 rfl) ?_
  refine lv_aload_n hx hb d_law_140 rfl (lv_at hl 3 rfl) ?_
  refine lv_iload_n hx hb d_law_141 rfl (lv_at hl 0 rfl) ?_
  refine lv_iconst (v := nI 1) hx hb d_law_142 (by decide) ?_
  refine lv_iadd hx hb d_law_143 ?_
  refine tp_i (nI (1 + 4 * cn + 1)) (nI_add _ _) ?_
  refine va_sld hx hb hX hbl hbA hS (vp_in_nI (n := 1 + 4 * cn + 1) (by omega) (by omega)) d_law_144 ?_
  refine tp_i (xs (1 + 4 * cn + 1)) (by rw [nI_clamp (by omega)]) ?_
  refine lv_aload_n hx hb d_law_145 rfl (lv_at hl 3 rfl) ?_
  refine lv_iload_n hx hb d_law_146 rfl (lv_at hl 0 rfl) ?_
  refine lv_iconst (v := nI 2) hx hb d_law_147 (by decide) ?_
  refine lv_iadd hx hb d_law_148 ?_
  refine tp_i (nI (1 + 4 * cn + 2)) (nI_add _ _) ?_
  refine va_sld hx hb hX hbl hbA hS (vp_in_nI (n := 1 + 4 * cn + 2) (by omega) (by omega)) d_law_149 ?_
  refine tp_i (xs (1 + 4 * cn + 2)) (by rw [nI_clamp (by omega)]) ?_
  refine tl_calli (c_insert l dC dI PX CX N H.size fb g fn ft fs fl w wi now on ts tl lf ll (xs (1 + 4 * cn + 1)) (xs (1 + 4 * cn + 2)) (by omega) (by omega) (by omega) hgw hfs (by omega)) ⟨hx, hb, hml, hown, hts⟩ (cwV 2 hts g_law_26 rfl rfl rfl (by decide +kernel) ⟨Nat.le_of_ble_eq_true rfl, Nat.le_of_ble_eq_true rfl⟩) hKx hP hD hS hA 0 rfl 0 rfl rfl hl.1 rfl (Nat.le_of_ble_eq_true rfl) d_law_150 ⟨Nat.le_refl _, Nat.le_refl _⟩ (fun r1 u H locs hwc hP hD hS => ?_)
  obtain ⟨g', fn', ft', fs', fl', w', wi', ts'⟩ := u
  obtain ⟨hr1, hwc⟩ := hwc
  have hP : va_P (dC, dI) classes (tt PX CX N fb g' fn' ft' fs' fl' w' wi' now on ts' 0 lf ll ++ mm PM CM N tx lx nu ti si ro us bt w2 al now on tl2 ll2) H := hP
  have hD : va_D A (tt PX CX N fb g' fn' ft' fs' fl' w' wi' now on ts' 0 lf ll ++ mm PM CM N tx lx nu ti si ro us bt w2 al now on tl2 ll2) := hD
  refine lv_aload_n hx hb d_law_153 rfl (lv_at hl 1 rfl) ?_
  refine lv_aload_n hx hb d_law_154 rfl (lv_at hl 3 rfl) ?_
  refine lv_iload_n hx hb d_law_155 rfl (lv_at hl 0 rfl) ?_
  refine lv_iconst (v := nI 1) hx hb d_law_156 (by decide) ?_
  refine lv_iadd hx hb d_law_157 ?_
  refine tp_i (nI (1 + 4 * cn + 1)) (nI_add _ _) ?_
  refine va_sld hx hb hX hbl hbA hS (vp_in_nI (n := 1 + 4 * cn + 1) (by omega) (by omega)) d_law_158 ?_
  refine tp_i (xs (1 + 4 * cn + 1)) (by rw [nI_clamp (by omega)]) ?_
  refine lv_aload_n hx hb d_law_159 rfl (lv_at hl 3 rfl) ?_
  refine lv_iload_n hx hb d_law_160 rfl (lv_at hl 0 rfl) ?_
  refine lv_iconst (v := nI 2) hx hb d_law_161 (by decide) ?_
  refine lv_iadd hx hb d_law_162 ?_
  refine tp_i (nI (1 + 4 * cn + 2)) (nI_add _ _) ?_
  refine va_sld hx hb hX hbl hbA hS (vp_in_nI (n := 1 + 4 * cn + 2) (by omega) (by omega)) d_law_163 ?_
  refine tp_i (xs (1 + 4 * cn + 2)) (by rw [nI_clamp (by omega)]) ?_
  have hP := fr_sw hP
  have hD := fr_swD hD
  refine tl_calli (mc_insert l dC dI PM CM N H.size tx lx nu ti si ro us bt w2 al now on tl2 ll2 (xs (1 + 4 * cn + 1)) (xs (1 + 4 * cn + 2)) r0 (by omega) (by omega) (by omega) hfr) ⟨hx, hb, hml, hown, hts⟩ (cwV 2 hts g_law_30 rfl rfl rfl (by decide +kernel) ⟨Nat.le_of_ble_eq_true rfl, Nat.le_of_ble_eq_true rfl⟩) hKm hP hD hS hA 1 rfl 0 rfl rfl hl.1 rfl (Nat.le_of_ble_eq_true rfl) d_law_164 ⟨Nat.le_refl _, Nat.le_refl _⟩ (fun r2 u H locs hwm hP hD hS => ?_)
  obtain ⟨nu', ti', si', ro', us', bt', w2', al'⟩ := u
  obtain ⟨hr2, hwm⟩ := hwm
  have hP : va_P (dC, dI) classes (mm PM CM N tx lx nu' ti' si' ro' us' bt' w2' al' now on 0 ll2 ++ tt PX CX N fb g' fn' ft' fs' fl' w' wi' now on ts' 0 lf ll) H := hP
  have hD : va_D A (mm PM CM N tx lx nu' ti' si' ro' us' bt' w2' al' now on 0 ll2 ++ tt PX CX N fb g' fn' ft' fs' fl' w' wi' now on ts' 0 lf ll) := hD
  have hP := fr_sw hP
  have hD := fr_swD hD
  obtain ⟨he, J⟩ := jr_insert J hc hfr hwc hwm
  have he : r1 = r2 := by rw [hr1, hr2, he]
  refine lv_icmp_eq (tgt := 493) hx hb d_law_167 (by decide) (fun c_167 => ?_) (fun c_167 => ?_)
  · rw [hAe] at hD hS
    refine lv_iinc (v := nI (1 + 4 * (cn + 1))) (lv' := [(3, .int (nI (1 + 4 * (cn + 1)))), (2, .ref (PM 0)), (1, .ref (PX 0)), (0, .ref b)]) hx hb d_law_493 hl (k := 0) rfl (nI_4 _) (by decide) rfl (fun ls hl => ?_)
    refine lv_goto (tgt := 28) hx hb d_law_496 (by decide) ?_
    exact ih _ _ _ _ _ _ _ _ _ _ _ _ _ _ _ _ _ _ _ _ _ _ _ _ _ _ _ _ _ J hP hD hS hl
  · exact absurd he c_167

set_option maxHeartbeats 4000000 in
set_option maxRecDepth 100000 in
/-- the law: remove -/
theorem law_remove {p : Program} {l : Launch} {e : Env} {s : State} {m : MethodId} {below : List Frame} {meth : Method} {c : Code} {dC : Nat → ClassId} {dI : Nat → Nat → Nat} {b L : Nat} {xs : Nat → Int32} {N : Nat} {PX PM : Nat → Nat} {CX CM : Nat → ClassId} (F : LF p s m meth c dC dI b L xs CX CM) {cn : Nat} (ih : LH p l e s m below meth c dC dI b N PX PM CX CM (cn + 1)) (hc : cn < 512) (hi : 1 + 4 * cn + 4 ≤ L) (fb : Nat → Int32) (g : Nat → Nat) (fn ft : Nat → Int32) (fs fl : Nat → Nat) (w wi now : Nat) (on : Bool) (ts tl lf ll : Nat) (tx lx nu ti : Nat → Int32) (si ro : Nat → Nat) (us : Nat → Bool) (bt : Nat → Int32) (w2 al tl2 ll2 : Nat) (H : Heap) (locs : List Loc) (ls : Array Slot) (J : JR cn N fb g fn ft fs fl w wi now ts tl lf ll tx lx bt (nu, ti, si, ro, us, w2) al tl2 ll2) (hP : va_P (dC, dI) classes (tt PX CX N fb g fn ft fs fl w wi now on ts tl lf ll ++ mm PM CM N tx lx nu ti si ro us bt w2 al now on tl2 ll2) H) (hD : va_D (fun q : Nat => s.heap.size ≤ q) (tt PX CX N fb g fn ft fs fl w wi now on ts tl lf ll ++ mm PM CM N tx lx nu ti si ro us bt w2 al now on tl2 ll2)) (hS : va_S (fun q : Nat => s.heap.size ≤ q) s.heap H locs) (hl : lv_has ls 4 [(3, .int (nI (1 + 4 * cn))), (2, .ref (PM 0)), (1, .ref (PX 0)), (0, .ref b)]) : W p l e room_1 s m #[Value.ref b] below meth c H locs 600000 7302250 (lw_Z below #[Value.ref b] s) (F0 m 172 ls []) := by
  obtain ⟨hL, hx, hb, hr, hml, hown, hts, hX, hbl, hlocks, hKx, hKm⟩ := F
  obtain ⟨z1, z2, z3, z4, ⟨z5, z6, z7, hgw⟩, hfs, hfl, z8, z9, z10, z11, z12, z13, hro, hsi⟩ := jr_bd J
  obtain ⟨A, hAe⟩ : ∃ A : Nat → Prop, A = (fun q : Nat => s.heap.size ≤ q) := ⟨_, rfl⟩
  have hA : ∀ q : Nat, s.heap.size ≤ q → A q := fun q h => by rw [hAe]; exact h
  have hbA : ¬ A b := by rw [hAe]; exact Nat.not_le.mpr hbl
  rw [← hAe] at hD hS
  refine lv_aload_n hx hb d_law_172 rfl (lv_at hl 2 rfl) ?_
  refine lv_aload_n hx hb d_law_173 rfl (lv_at hl 3 rfl) ?_
  refine lv_iload_n hx hb d_law_174 rfl (lv_at hl 0 rfl) ?_
  refine lv_iconst (v := nI 1) hx hb d_law_175 (by decide) ?_
  refine lv_iadd hx hb d_law_176 ?_
  refine tp_i (nI (1 + 4 * cn + 1)) (nI_add _ _) ?_
  refine va_sld hx hb hX hbl hbA hS (vp_in_nI (n := 1 + 4 * cn + 1) (by omega) (by omega)) d_law_177 ?_
  refine tp_i (xs (1 + 4 * cn + 1)) (by rw [nI_clamp (by omega)]) ?_
  refine tl_calli (c_remove l dC dI PX CX N H.size fb g fn ft fs fl w wi now on ts tl lf ll (xs (1 + 4 * cn + 1)) (by omega) (by omega) hgw) ⟨hx, hb, hml, hown, hts⟩ (cwV 1 hts g_law_31 rfl rfl rfl (by decide +kernel) ⟨Nat.le_of_ble_eq_true rfl, Nat.le_of_ble_eq_true rfl⟩) hKx hP hD hS hA 0 rfl 0 rfl rfl hl.1 rfl (Nat.le_of_ble_eq_true rfl) d_law_178 ⟨Nat.le_refl _, Nat.le_refl _⟩ (fun r1 u H locs hwc hP hD hS => ?_)
  have hP : va_P (dC, dI) classes (tt PX CX N fb ((rm_l (fun i => decide (¬ fn i = (xs (1 + 4 * cn + 1)))) w 0 0 g).2) fn ft fs fl ((rm_l (fun i => decide (¬ fn i = (xs (1 + 4 * cn + 1)))) w 0 0 g).1) wi now on ts tl lf ll ++ mm PM CM N tx lx nu ti si ro us bt w2 al now on tl2 ll2) H := hP
  have hD : va_D A (tt PX CX N fb ((rm_l (fun i => decide (¬ fn i = (xs (1 + 4 * cn + 1)))) w 0 0 g).2) fn ft fs fl ((rm_l (fun i => decide (¬ fn i = (xs (1 + 4 * cn + 1)))) w 0 0 g).1) wi now on ts tl lf ll ++ mm PM CM N tx lx nu ti si ro us bt w2 al now on tl2 ll2) := hD
  refine lv_aload_n hx hb d_law_181 rfl (lv_at hl 1 rfl) ?_
  refine lv_aload_n hx hb d_law_182 rfl (lv_at hl 3 rfl) ?_
  refine lv_iload_n hx hb d_law_183 rfl (lv_at hl 0 rfl) ?_
  refine lv_iconst (v := nI 1) hx hb d_law_184 (by decide) ?_
  refine lv_iadd hx hb d_law_185 ?_
  refine tp_i (nI (1 + 4 * cn + 1)) (nI_add _ _) ?_
  refine va_sld hx hb hX hbl hbA hS (vp_in_nI (n := 1 + 4 * cn + 1) (by omega) (by omega)) d_law_186 ?_
  refine tp_i (xs (1 + 4 * cn + 1)) (by rw [nI_clamp (by omega)]) ?_
  have hP := fr_sw hP
  have hD := fr_swD hD
  refine tl_calli (mc_remove l dC dI PM CM N H.size tx lx nu ti si ro us bt w2 al now on tl2 ll2 (xs (1 + 4 * cn + 1)) (by omega) hro) ⟨hx, hb, hml, hown, hts⟩ (cwV 1 hts g_law_34 rfl rfl rfl (by decide +kernel) ⟨Nat.le_of_ble_eq_true rfl, Nat.le_of_ble_eq_true rfl⟩) hKm hP hD hS hA 1 rfl 0 rfl rfl hl.1 rfl (Nat.le_of_ble_eq_true rfl) d_law_187 ⟨Nat.le_refl _, Nat.le_refl _⟩ (fun r2 u H locs hwm hP hD hS => ?_)
  obtain ⟨nu', ti', si', ro', us', w2'⟩ := u
  obtain ⟨hr2, hwm⟩ := hwm
  have hP : va_P (dC, dI) classes (mm PM CM N tx lx nu' ti' si' ro' us' bt w2' al now on tl2 ll2 ++ tt PX CX N fb ((rm_l (fun i => decide (¬ fn i = (xs (1 + 4 * cn + 1)))) w 0 0 g).2) fn ft fs fl ((rm_l (fun i => decide (¬ fn i = (xs (1 + 4 * cn + 1)))) w 0 0 g).1) wi now on ts tl lf ll) H := hP
  have hD : va_D A (mm PM CM N tx lx nu' ti' si' ro' us' bt w2' al now on tl2 ll2 ++ tt PX CX N fb ((rm_l (fun i => decide (¬ fn i = (xs (1 + 4 * cn + 1)))) w 0 0 g).2) fn ft fs fl ((rm_l (fun i => decide (¬ fn i = (xs (1 + 4 * cn + 1)))) w 0 0 g).1) wi now on ts tl lf ll) := hD
  have hP := fr_sw hP
  have hD := fr_swD hD
  obtain ⟨he, J⟩ := jr_rm J hc (fun a _ => decide (a = (xs (1 + 4 * cn + 1)))) (kp := fun i => decide (¬ fn i = (xs (1 + 4 * cn + 1)))) (fun i => by by_cases q : fn i = (xs (1 + 4 * cn + 1)) <;> simp [q]) hwm
  have he : r1 = r2 := by rw [hwc, hr2, he]
  refine lv_icmp_eq (tgt := 493) hx hb d_law_190 (by decide) (fun c_190 => ?_) (fun c_190 => ?_)
  · rw [hAe] at hD hS
    refine lv_iinc (v := nI (1 + 4 * (cn + 1))) (lv' := [(3, .int (nI (1 + 4 * (cn + 1)))), (2, .ref (PM 0)), (1, .ref (PX 0)), (0, .ref b)]) hx hb d_law_493 hl (k := 0) rfl (nI_4 _) (by decide) rfl (fun ls hl => ?_)
    refine lv_goto (tgt := 28) hx hb d_law_496 (by decide) ?_
    exact ih _ _ _ _ _ _ _ _ _ _ _ _ _ _ _ _ _ _ _ _ _ _ _ _ _ _ _ _ _ J hP hD hS hl
  · exact absurd he c_190

set_option maxHeartbeats 4000000 in
set_option maxRecDepth 100000 in
/-- the law: removeSpan -/
theorem law_removeSpan {p : Program} {l : Launch} {e : Env} {s : State} {m : MethodId} {below : List Frame} {meth : Method} {c : Code} {dC : Nat → ClassId} {dI : Nat → Nat → Nat} {b L : Nat} {xs : Nat → Int32} {N : Nat} {PX PM : Nat → Nat} {CX CM : Nat → ClassId} (F : LF p s m meth c dC dI b L xs CX CM) {cn : Nat} (ih : LH p l e s m below meth c dC dI b N PX PM CX CM (cn + 1)) (hc : cn < 512) (hi : 1 + 4 * cn + 4 ≤ L) (fb : Nat → Int32) (g : Nat → Nat) (fn ft : Nat → Int32) (fs fl : Nat → Nat) (w wi now : Nat) (on : Bool) (ts tl lf ll : Nat) (tx lx nu ti : Nat → Int32) (si ro : Nat → Nat) (us : Nat → Bool) (bt : Nat → Int32) (w2 al tl2 ll2 : Nat) (H : Heap) (locs : List Loc) (ls : Array Slot) (J : JR cn N fb g fn ft fs fl w wi now ts tl lf ll tx lx bt (nu, ti, si, ro, us, w2) al tl2 ll2) (hP : va_P (dC, dI) classes (tt PX CX N fb g fn ft fs fl w wi now on ts tl lf ll ++ mm PM CM N tx lx nu ti si ro us bt w2 al now on tl2 ll2) H) (hD : va_D (fun q : Nat => s.heap.size ≤ q) (tt PX CX N fb g fn ft fs fl w wi now on ts tl lf ll ++ mm PM CM N tx lx nu ti si ro us bt w2 al now on tl2 ll2)) (hS : va_S (fun q : Nat => s.heap.size ≤ q) s.heap H locs) (hl : lv_has ls 4 [(3, .int (nI (1 + 4 * cn))), (2, .ref (PM 0)), (1, .ref (PX 0)), (0, .ref b)]) : W p l e room_1 s m #[Value.ref b] below meth c H locs 600000 7302250 (lw_Z below #[Value.ref b] s) (F0 m 195 ls []) := by
  obtain ⟨hL, hx, hb, hr, hml, hown, hts, hX, hbl, hlocks, hKx, hKm⟩ := F
  obtain ⟨z1, z2, z3, z4, ⟨z5, z6, z7, hgw⟩, hfs, hfl, z8, z9, z10, z11, z12, z13, hro, hsi⟩ := jr_bd J
  obtain ⟨A, hAe⟩ : ∃ A : Nat → Prop, A = (fun q : Nat => s.heap.size ≤ q) := ⟨_, rfl⟩
  have hA : ∀ q : Nat, s.heap.size ≤ q → A q := fun q h => by rw [hAe]; exact h
  have hbA : ¬ A b := by rw [hAe]; exact Nat.not_le.mpr hbl
  rw [← hAe] at hD hS
  refine lv_aload_n hx hb d_law_195 rfl (lv_at hl 2 rfl) ?_
  refine lv_aload_n hx hb d_law_196 rfl (lv_at hl 3 rfl) ?_
  refine lv_iload_n hx hb d_law_197 rfl (lv_at hl 0 rfl) ?_
  refine lv_iconst (v := nI 1) hx hb d_law_198 (by decide) ?_
  refine lv_iadd hx hb d_law_199 ?_
  refine tp_i (nI (1 + 4 * cn + 1)) (nI_add _ _) ?_
  refine va_sld hx hb hX hbl hbA hS (vp_in_nI (n := 1 + 4 * cn + 1) (by omega) (by omega)) d_law_200 ?_
  refine tp_i (xs (1 + 4 * cn + 1)) (by rw [nI_clamp (by omega)]) ?_
  refine lv_aload_n hx hb d_law_201 rfl (lv_at hl 3 rfl) ?_
  refine lv_iload_n hx hb d_law_202 rfl (lv_at hl 0 rfl) ?_
  refine lv_iconst (v := nI 2) hx hb d_law_203 (by decide) ?_
  refine lv_iadd hx hb d_law_204 ?_
  refine tp_i (nI (1 + 4 * cn + 2)) (nI_add _ _) ?_
  refine va_sld hx hb hX hbl hbA hS (vp_in_nI (n := 1 + 4 * cn + 2) (by omega) (by omega)) d_law_205 ?_
  refine tp_i (xs (1 + 4 * cn + 2)) (by rw [nI_clamp (by omega)]) ?_
  refine tl_calli (c_removeSpan l dC dI PX CX N H.size fb g fn ft fs fl w wi now on ts tl lf ll (xs (1 + 4 * cn + 1)) (xs (1 + 4 * cn + 2)) (by omega) (by omega) hgw) ⟨hx, hb, hml, hown, hts⟩ (cwV 2 hts g_law_35 rfl rfl rfl (by decide +kernel) ⟨Nat.le_of_ble_eq_true rfl, Nat.le_of_ble_eq_true rfl⟩) hKx hP hD hS hA 0 rfl 0 rfl rfl hl.1 rfl (Nat.le_of_ble_eq_true rfl) d_law_206 ⟨Nat.le_refl _, Nat.le_refl _⟩ (fun r1 u H locs hwc hP hD hS => ?_)
  have hP : va_P (dC, dI) classes (tt PX CX N fb ((rm_l (fun i => !(in_S ft (xs (1 + 4 * cn + 1)) (xs (1 + 4 * cn + 2)) i)) w 0 0 g).2) fn ft fs fl ((rm_l (fun i => !(in_S ft (xs (1 + 4 * cn + 1)) (xs (1 + 4 * cn + 2)) i)) w 0 0 g).1) wi now on ts tl lf ll ++ mm PM CM N tx lx nu ti si ro us bt w2 al now on tl2 ll2) H := hP
  have hD : va_D A (tt PX CX N fb ((rm_l (fun i => !(in_S ft (xs (1 + 4 * cn + 1)) (xs (1 + 4 * cn + 2)) i)) w 0 0 g).2) fn ft fs fl ((rm_l (fun i => !(in_S ft (xs (1 + 4 * cn + 1)) (xs (1 + 4 * cn + 2)) i)) w 0 0 g).1) wi now on ts tl lf ll ++ mm PM CM N tx lx nu ti si ro us bt w2 al now on tl2 ll2) := hD
  refine lv_aload_n hx hb d_law_209 rfl (lv_at hl 1 rfl) ?_
  refine lv_aload_n hx hb d_law_210 rfl (lv_at hl 3 rfl) ?_
  refine lv_iload_n hx hb d_law_211 rfl (lv_at hl 0 rfl) ?_
  refine lv_iconst (v := nI 1) hx hb d_law_212 (by decide) ?_
  refine lv_iadd hx hb d_law_213 ?_
  refine tp_i (nI (1 + 4 * cn + 1)) (nI_add _ _) ?_
  refine va_sld hx hb hX hbl hbA hS (vp_in_nI (n := 1 + 4 * cn + 1) (by omega) (by omega)) d_law_214 ?_
  refine tp_i (xs (1 + 4 * cn + 1)) (by rw [nI_clamp (by omega)]) ?_
  refine lv_aload_n hx hb d_law_215 rfl (lv_at hl 3 rfl) ?_
  refine lv_iload_n hx hb d_law_216 rfl (lv_at hl 0 rfl) ?_
  refine lv_iconst (v := nI 2) hx hb d_law_217 (by decide) ?_
  refine lv_iadd hx hb d_law_218 ?_
  refine tp_i (nI (1 + 4 * cn + 2)) (nI_add _ _) ?_
  refine va_sld hx hb hX hbl hbA hS (vp_in_nI (n := 1 + 4 * cn + 2) (by omega) (by omega)) d_law_219 ?_
  refine tp_i (xs (1 + 4 * cn + 2)) (by rw [nI_clamp (by omega)]) ?_
  have hP := fr_sw hP
  have hD := fr_swD hD
  refine tl_calli (mc_removeSpan l dC dI PM CM N H.size tx lx nu ti si ro us bt w2 al now on tl2 ll2 (xs (1 + 4 * cn + 1)) (xs (1 + 4 * cn + 2)) (by omega) hro) ⟨hx, hb, hml, hown, hts⟩ (cwV 2 hts g_law_38 rfl rfl rfl (by decide +kernel) ⟨Nat.le_of_ble_eq_true rfl, Nat.le_of_ble_eq_true rfl⟩) hKm hP hD hS hA 1 rfl 0 rfl rfl hl.1 rfl (Nat.le_of_ble_eq_true rfl) d_law_220 ⟨Nat.le_refl _, Nat.le_refl _⟩ (fun r2 u H locs hwm hP hD hS => ?_)
  obtain ⟨nu', ti', si', ro', us', w2'⟩ := u
  obtain ⟨hr2, hwm⟩ := hwm
  have hP : va_P (dC, dI) classes (mm PM CM N tx lx nu' ti' si' ro' us' bt w2' al now on tl2 ll2 ++ tt PX CX N fb ((rm_l (fun i => !(in_S ft (xs (1 + 4 * cn + 1)) (xs (1 + 4 * cn + 2)) i)) w 0 0 g).2) fn ft fs fl ((rm_l (fun i => !(in_S ft (xs (1 + 4 * cn + 1)) (xs (1 + 4 * cn + 2)) i)) w 0 0 g).1) wi now on ts tl lf ll) H := hP
  have hD : va_D A (mm PM CM N tx lx nu' ti' si' ro' us' bt w2' al now on tl2 ll2 ++ tt PX CX N fb ((rm_l (fun i => !(in_S ft (xs (1 + 4 * cn + 1)) (xs (1 + 4 * cn + 2)) i)) w 0 0 g).2) fn ft fs fl ((rm_l (fun i => !(in_S ft (xs (1 + 4 * cn + 1)) (xs (1 + 4 * cn + 2)) i)) w 0 0 g).1) wi now on ts tl lf ll) := hD
  have hP := fr_sw hP
  have hD := fr_swD hD
  obtain ⟨he, J⟩ := jr_rm J hc (fun _ b => decide ((xs (1 + 4 * cn + 1)) ≤ b) && decide (b ≤ (xs (1 + 4 * cn + 2)))) (kp := fun i => !(in_S ft (xs (1 + 4 * cn + 1)) (xs (1 + 4 * cn + 2)) i)) (fun i => rfl) hwm
  have he : r1 = r2 := by rw [hwc, hr2, he]
  refine lv_icmp_eq (tgt := 493) hx hb d_law_223 (by decide) (fun c_223 => ?_) (fun c_223 => ?_)
  · rw [hAe] at hD hS
    refine lv_iinc (v := nI (1 + 4 * (cn + 1))) (lv' := [(3, .int (nI (1 + 4 * (cn + 1)))), (2, .ref (PM 0)), (1, .ref (PX 0)), (0, .ref b)]) hx hb d_law_493 hl (k := 0) rfl (nI_4 _) (by decide) rfl (fun ls hl => ?_)
    refine lv_goto (tgt := 28) hx hb d_law_496 (by decide) ?_
    exact ih _ _ _ _ _ _ _ _ _ _ _ _ _ _ _ _ _ _ _ _ _ _ _ _ _ _ _ _ _ J hP hD hS hl
  · exact absurd he c_223

set_option maxHeartbeats 4000000 in
set_option maxRecDepth 100000 in
/-- the law: shift -/
theorem law_shift {p : Program} {l : Launch} {e : Env} {s : State} {m : MethodId} {below : List Frame} {meth : Method} {c : Code} {dC : Nat → ClassId} {dI : Nat → Nat → Nat} {b L : Nat} {xs : Nat → Int32} {N : Nat} {PX PM : Nat → Nat} {CX CM : Nat → ClassId} (F : LF p s m meth c dC dI b L xs CX CM) {cn : Nat} (ih : LH p l e s m below meth c dC dI b N PX PM CX CM (cn + 1)) (hc : cn < 512) (hi : 1 + 4 * cn + 4 ≤ L) (fb : Nat → Int32) (g : Nat → Nat) (fn ft : Nat → Int32) (fs fl : Nat → Nat) (w wi now : Nat) (on : Bool) (ts tl lf ll : Nat) (tx lx nu ti : Nat → Int32) (si ro : Nat → Nat) (us : Nat → Bool) (bt : Nat → Int32) (w2 al tl2 ll2 : Nat) (H : Heap) (locs : List Loc) (ls : Array Slot) (J : JR cn N fb g fn ft fs fl w wi now ts tl lf ll tx lx bt (nu, ti, si, ro, us, w2) al tl2 ll2) (hP : va_P (dC, dI) classes (tt PX CX N fb g fn ft fs fl w wi now on ts tl lf ll ++ mm PM CM N tx lx nu ti si ro us bt w2 al now on tl2 ll2) H) (hD : va_D (fun q : Nat => s.heap.size ≤ q) (tt PX CX N fb g fn ft fs fl w wi now on ts tl lf ll ++ mm PM CM N tx lx nu ti si ro us bt w2 al now on tl2 ll2)) (hS : va_S (fun q : Nat => s.heap.size ≤ q) s.heap H locs) (hl : lv_has ls 4 [(3, .int (nI (1 + 4 * cn))), (2, .ref (PM 0)), (1, .ref (PX 0)), (0, .ref b)]) : W p l e room_1 s m #[Value.ref b] below meth c H locs 600000 7302250 (lw_Z below #[Value.ref b] s) (F0 m 228 ls []) := by
  obtain ⟨hL, hx, hb, hr, hml, hown, hts, hX, hbl, hlocks, hKx, hKm⟩ := F
  obtain ⟨z1, z2, z3, z4, ⟨z5, z6, z7, hgw⟩, hfs, hfl, z8, z9, z10, z11, z12, z13, hro, hsi⟩ := jr_bd J
  obtain ⟨A, hAe⟩ : ∃ A : Nat → Prop, A = (fun q : Nat => s.heap.size ≤ q) := ⟨_, rfl⟩
  have hA : ∀ q : Nat, s.heap.size ≤ q → A q := fun q h => by rw [hAe]; exact h
  have hbA : ¬ A b := by rw [hAe]; exact Nat.not_le.mpr hbl
  rw [← hAe] at hD hS
  refine lv_aload_n hx hb d_law_228 rfl (lv_at hl 2 rfl) ?_
  refine lv_aload_n hx hb d_law_229 rfl (lv_at hl 3 rfl) ?_
  refine lv_iload_n hx hb d_law_230 rfl (lv_at hl 0 rfl) ?_
  refine lv_iconst (v := nI 1) hx hb d_law_231 (by decide) ?_
  refine lv_iadd hx hb d_law_232 ?_
  refine tp_i (nI (1 + 4 * cn + 1)) (nI_add _ _) ?_
  refine va_sld hx hb hX hbl hbA hS (vp_in_nI (n := 1 + 4 * cn + 1) (by omega) (by omega)) d_law_233 ?_
  refine tp_i (xs (1 + 4 * cn + 1)) (by rw [nI_clamp (by omega)]) ?_
  refine tl_calli (c_shift l dC dI PX CX N H.size fb g fn ft fs fl w wi now on ts tl lf ll (xs (1 + 4 * cn + 1)) (by omega) (by omega) hgw hfs) ⟨hx, hb, hml, hown, hts⟩ (cwV 1 hts g_law_39 rfl rfl rfl (by decide +kernel) ⟨Nat.le_of_ble_eq_true rfl, Nat.le_of_ble_eq_true rfl⟩) hKx hP hD hS hA 0 rfl 0 rfl rfl hl.1 rfl (Nat.le_of_ble_eq_true rfl) d_law_234 ⟨Nat.le_refl _, Nat.le_refl _⟩ (fun r1 u H locs hwc hP hD hS => ?_)
  have hP : va_P (dC, dI) classes (tt PX CX N fb (mv_F (mv_c (in_S ft (nI 0) (nI 2147483647)) (cm_F ft now (xs (1 + 4 * cn + 1))) w 0 g 0) g (mv_s (be_F (mv_t (nI 0) (nI 2147483647) (xs (1 + 4 * cn + 1)) w 0 g ft) fs) (w - 1) 1 g)) fn (mv_F (mv_c (in_S ft (nI 0) (nI 2147483647)) (cm_F ft now (xs (1 + 4 * cn + 1))) w 0 g 0) ft (mv_t (nI 0) (nI 2147483647) (xs (1 + 4 * cn + 1)) w 0 g ft)) fs fl w wi now on ts tl lf ll ++ mm PM CM N tx lx nu ti si ro us bt w2 al now on tl2 ll2) H := hP
  have hD : va_D A (tt PX CX N fb (mv_F (mv_c (in_S ft (nI 0) (nI 2147483647)) (cm_F ft now (xs (1 + 4 * cn + 1))) w 0 g 0) g (mv_s (be_F (mv_t (nI 0) (nI 2147483647) (xs (1 + 4 * cn + 1)) w 0 g ft) fs) (w - 1) 1 g)) fn (mv_F (mv_c (in_S ft (nI 0) (nI 2147483647)) (cm_F ft now (xs (1 + 4 * cn + 1))) w 0 g 0) ft (mv_t (nI 0) (nI 2147483647) (xs (1 + 4 * cn + 1)) w 0 g ft)) fs fl w wi now on ts tl lf ll ++ mm PM CM N tx lx nu ti si ro us bt w2 al now on tl2 ll2) := hD
  refine lv_aload_n hx hb d_law_237 rfl (lv_at hl 1 rfl) ?_
  refine lv_aload_n hx hb d_law_238 rfl (lv_at hl 3 rfl) ?_
  refine lv_iload_n hx hb d_law_239 rfl (lv_at hl 0 rfl) ?_
  refine lv_iconst (v := nI 1) hx hb d_law_240 (by decide) ?_
  refine lv_iadd hx hb d_law_241 ?_
  refine tp_i (nI (1 + 4 * cn + 1)) (nI_add _ _) ?_
  refine va_sld hx hb hX hbl hbA hS (vp_in_nI (n := 1 + 4 * cn + 1) (by omega) (by omega)) d_law_242 ?_
  refine tp_i (xs (1 + 4 * cn + 1)) (by rw [nI_clamp (by omega)]) ?_
  have hP := fr_sw hP
  have hD := fr_swD hD
  refine tl_calli (mc_shift l dC dI PM CM N H.size tx lx nu ti si ro us bt w2 al now on tl2 ll2 (xs (1 + 4 * cn + 1)) (by omega)) ⟨hx, hb, hml, hown, hts⟩ (cwV 1 hts g_law_42 rfl rfl rfl (by decide +kernel) ⟨Nat.le_of_ble_eq_true rfl, Nat.le_of_ble_eq_true rfl⟩) hKm hP hD hS hA 1 rfl 0 rfl rfl hl.1 rfl (Nat.le_of_ble_eq_true rfl) d_law_243 ⟨Nat.le_refl _, Nat.le_refl _⟩ (fun r2 u H locs hwm hP hD hS => ?_)
  have hP : va_P (dC, dI) classes (mm PM CM N tx lx nu (mv_F (mv_c (in_S ti (-2147483648) (nI 2147483647)) (cm_F ti now (xs (1 + 4 * cn + 1))) w2 0 (fun j => j) 0) ti (mv_t (-2147483648) (nI 2147483647) (xs (1 + 4 * cn + 1)) w2 0 (fun j => j) ti)) si ro us bt w2 al now on tl2 ll2 ++ tt PX CX N fb (mv_F (mv_c (in_S ft (nI 0) (nI 2147483647)) (cm_F ft now (xs (1 + 4 * cn + 1))) w 0 g 0) g (mv_s (be_F (mv_t (nI 0) (nI 2147483647) (xs (1 + 4 * cn + 1)) w 0 g ft) fs) (w - 1) 1 g)) fn (mv_F (mv_c (in_S ft (nI 0) (nI 2147483647)) (cm_F ft now (xs (1 + 4 * cn + 1))) w 0 g 0) ft (mv_t (nI 0) (nI 2147483647) (xs (1 + 4 * cn + 1)) w 0 g ft)) fs fl w wi now on ts tl lf ll) H := hP
  have hD : va_D A (mm PM CM N tx lx nu (mv_F (mv_c (in_S ti (-2147483648) (nI 2147483647)) (cm_F ti now (xs (1 + 4 * cn + 1))) w2 0 (fun j => j) 0) ti (mv_t (-2147483648) (nI 2147483647) (xs (1 + 4 * cn + 1)) w2 0 (fun j => j) ti)) si ro us bt w2 al now on tl2 ll2 ++ tt PX CX N fb (mv_F (mv_c (in_S ft (nI 0) (nI 2147483647)) (cm_F ft now (xs (1 + 4 * cn + 1))) w 0 g 0) g (mv_s (be_F (mv_t (nI 0) (nI 2147483647) (xs (1 + 4 * cn + 1)) w 0 g ft) fs) (w - 1) 1 g)) fn (mv_F (mv_c (in_S ft (nI 0) (nI 2147483647)) (cm_F ft now (xs (1 + 4 * cn + 1))) w 0 g 0) ft (mv_t (nI 0) (nI 2147483647) (xs (1 + 4 * cn + 1)) w 0 g ft)) fs fl w wi now on ts tl lf ll) := hD
  have hP := fr_sw hP
  have hD := fr_swD hD
  obtain ⟨he, J⟩ := jr_mv J hc (f := nI 0) (t := nI 2147483647) (f2 := (-2147483648)) (t2 := nI 2147483647) (b := (xs (1 + 4 * cn + 1))) sp_all
  have he : r1 = r2 := by rw [hwc, hwm, he]
  refine lv_icmp_eq (tgt := 493) hx hb d_law_246 (by decide) (fun c_246 => ?_) (fun c_246 => ?_)
  · rw [hAe] at hD hS
    refine lv_iinc (v := nI (1 + 4 * (cn + 1))) (lv' := [(3, .int (nI (1 + 4 * (cn + 1)))), (2, .ref (PM 0)), (1, .ref (PX 0)), (0, .ref b)]) hx hb d_law_493 hl (k := 0) rfl (nI_4 _) (by decide) rfl (fun ls hl => ?_)
    refine lv_goto (tgt := 28) hx hb d_law_496 (by decide) ?_
    exact ih _ _ _ _ _ _ _ _ _ _ _ _ _ _ _ _ _ _ _ _ _ _ _ _ _ _ _ _ _ J hP hD hS hl
  · exact absurd he c_246
