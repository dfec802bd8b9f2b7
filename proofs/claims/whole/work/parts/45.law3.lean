set_option maxHeartbeats 4000000 in
set_option maxRecDepth 100000 in
/-- the law: leave -/
theorem law_leave {p : Program} {l : Launch} {e : Env} {s : State} {m : MethodId} {below : List Frame} {meth : Method} {c : Code} {dC : Nat → ClassId} {dI : Nat → Nat → Nat} {b L : Nat} {xs : Nat → Int32} {N : Nat} {PX PM : Nat → Nat} {CX CM : Nat → ClassId} (F : LF p s m meth c dC dI b L xs CX CM) {cn : Nat} (ih : LH p l e s m below meth c dC dI b N PX PM CX CM (cn + 1)) (hc : cn < 512) (hi : 1 + 4 * cn + 4 ≤ L) (fb : Nat → Int32) (g : Nat → Nat) (fn ft : Nat → Int32) (fs fl : Nat → Nat) (w wi now : Nat) (on : Bool) (ts tl lf ll : Nat) (tx lx nu ti : Nat → Int32) (si ro : Nat → Nat) (us : Nat → Bool) (bt : Nat → Int32) (w2 al tl2 ll2 : Nat) (H : Heap) (locs : List Loc) (ls : Array Slot) (J : JR cn N fb g fn ft fs fl w wi now ts tl lf ll tx lx bt (nu, ti, si, ro, us, w2) al tl2 ll2) (hP : va_P (dC, dI) classes (tt PX CX N fb g fn ft fs fl w wi now on ts tl lf ll ++ mm PM CM N tx lx nu ti si ro us bt w2 al now on tl2 ll2) H) (hD : va_D (fun q : Nat => s.heap.size ≤ q) (tt PX CX N fb g fn ft fs fl w wi now on ts tl lf ll ++ mm PM CM N tx lx nu ti si ro us bt w2 al now on tl2 ll2)) (hS : va_S (fun q : Nat => s.heap.size ≤ q) s.heap H locs) (hl : lv_has ls 4 [(3, .int (nI (1 + 4 * cn))), (2, .ref (PM 0)), (1, .ref (PX 0)), (0, .ref b)]) : W p l e room_1 s m #[Value.ref b] below meth c H locs 600000 7302250 (lw_Z below #[Value.ref b] s) (F0 m 368 ls []) := by
  obtain ⟨hL, hx, hb, hr, hml, hown, hts, hX, hbl, hlocks, hKx, hKm⟩ := F
  obtain ⟨z1, z2, z3, z4, ⟨z5, z6, z7, hgw⟩, hfs, hfl, z8, z9, z10, z11, z12, z13, hro, hsi⟩ := jr_bd J
  obtain ⟨A, hAe⟩ : ∃ A : Nat → Prop, A = (fun q : Nat => s.heap.size ≤ q) := ⟨_, rfl⟩
  have hA : ∀ q : Nat, s.heap.size ≤ q → A q := fun q h => by rw [hAe]; exact h
  have hbA : ¬ A b := by rw [hAe]; exact Nat.not_le.mpr hbl
  rw [← hAe] at hD hS
  refine lv_aload_n hx hb d_law_368 rfl (lv_at hl 2 rfl) ?_
  refine tl_calli (c_leave l dC dI PX CX N H.size fb g fn ft fs fl w wi now on ts tl lf ll (by omega) (by omega) hgw) ⟨hx, hb, hml, hown, hts⟩ (cwV 0 hts g_law_67 rfl rfl rfl (by decide +kernel) ⟨Nat.le_of_ble_eq_true rfl, Nat.le_of_ble_eq_true rfl⟩) hKx hP hD hS hA 0 rfl 0 rfl rfl hl.1 rfl (Nat.le_of_ble_eq_true rfl) d_law_369 ⟨Nat.le_refl _, Nat.le_refl _⟩ (fun r1 u H locs hwc hP hD hS => ?_)
  obtain ⟨g', w', lf', ll'⟩ := u
  have hP : va_P (dC, dI) classes (tt PX CX N fb g' fn ft fs fl w' wi now on ts tl lf' ll' ++ mm PM CM N tx lx nu ti si ro us bt w2 al now on tl2 ll2) H := hP
  have hD : va_D A (tt PX CX N fb g' fn ft fs fl w' wi now on ts tl lf' ll' ++ mm PM CM N tx lx nu ti si ro us bt w2 al now on tl2 ll2) := hD
  refine lv_aload_n hx hb d_law_372 rfl (lv_at hl 1 rfl) ?_
  have hP := fr_sw hP
  have hD := fr_swD hD
  refine tl_calli (mc_leave l dC dI PM CM N H.size tx lx nu ti si ro us bt w2 al now on tl2 ll2 (by omega) hro hsi) ⟨hx, hb, hml, hown, hts⟩ (cwV 0 hts g_law_70 rfl rfl rfl (by decide +kernel) ⟨Nat.le_of_ble_eq_true rfl, Nat.le_of_ble_eq_true rfl⟩) hKm hP hD hS hA 1 rfl 0 rfl rfl hl.1 rfl (Nat.le_of_ble_eq_true rfl) d_law_373 ⟨Nat.le_refl _, Nat.le_refl _⟩ (fun r2 u H locs hwm hP hD hS => ?_)
  obtain ⟨lx', ll2', nu', ti', si', ro', us', w2'⟩ := u
  have hP : va_P (dC, dI) classes (mm PM CM N tx lx' nu' ti' si' ro' us' bt w2' al now on tl2 ll2' ++ tt PX CX N fb g' fn ft fs fl w' wi now on ts tl lf' ll') H := hP
  have hD : va_D A (mm PM CM N tx lx' nu' ti' si' ro' us' bt w2' al now on tl2 ll2' ++ tt PX CX N fb g' fn ft fs fl w' wi now on ts tl lf' ll') := hD
  have hP := fr_sw hP
  have hD := fr_swD hD
  obtain ⟨he, J⟩ := jr_leave J hc hwc hwm
  refine lv_icmp_eq (tgt := 493) hx hb d_law_376 (by decide) (fun c_376 => ?_) (fun c_376 => ?_)
  · rw [hAe] at hD hS
    refine lv_iinc (v := nI (1 + 4 * (cn + 1))) (lv' := [(3, .int (nI (1 + 4 * (cn + 1)))), (2, .ref (PM 0)), (1, .ref (PX 0)), (0, .ref b)]) hx hb d_law_493 hl (k := 0) rfl (nI_4 _) (by decide) rfl (fun ls hl => ?_)
    refine lv_goto (tgt := 28) hx hb d_law_496 (by decide) ?_
    exact ih _ _ _ _ _ _ _ _ _ _ _ _ _ _ _ _ _ _ _ _ _ _ _ _ _ _ _ _ _ J hP hD hS hl
  · exact absurd he c_376

set_option maxHeartbeats 4000000 in
set_option maxRecDepth 100000 in
/-- the law: left -/
theorem law_left {p : Program} {l : Launch} {e : Env} {s : State} {m : MethodId} {below : List Frame} {meth : Method} {c : Code} {dC : Nat → ClassId} {dI : Nat → Nat → Nat} {b L : Nat} {xs : Nat → Int32} {N : Nat} {PX PM : Nat → Nat} {CX CM : Nat → ClassId} (F : LF p s m meth c dC dI b L xs CX CM) {cn : Nat} (ih : LH p l e s m below meth c dC dI b N PX PM CX CM (cn + 1)) (hc : cn < 512) (hi : 1 + 4 * cn + 4 ≤ L) (fb : Nat → Int32) (g : Nat → Nat) (fn ft : Nat → Int32) (fs fl : Nat → Nat) (w wi now : Nat) (on : Bool) (ts tl lf ll : Nat) (tx lx nu ti : Nat → Int32) (si ro : Nat → Nat) (us : Nat → Bool) (bt : Nat → Int32) (w2 al tl2 ll2 : Nat) (H : Heap) (locs : List Loc) (ls : Array Slot) (J : JR cn N fb g fn ft fs fl w wi now ts tl lf ll tx lx bt (nu, ti, si, ro, us, w2) al tl2 ll2) (hP : va_P (dC, dI) classes (tt PX CX N fb g fn ft fs fl w wi now on ts tl lf ll ++ mm PM CM N tx lx nu ti si ro us bt w2 al now on tl2 ll2) H) (hD : va_D (fun q : Nat => s.heap.size ≤ q) (tt PX CX N fb g fn ft fs fl w wi now on ts tl lf ll ++ mm PM CM N tx lx nu ti si ro us bt w2 al now on tl2 ll2)) (hS : va_S (fun q : Nat => s.heap.size ≤ q) s.heap H locs) (hl : lv_has ls 4 [(3, .int (nI (1 + 4 * cn))), (2, .ref (PM 0)), (1, .ref (PX 0)), (0, .ref b)]) : W p l e room_1 s m #[Value.ref b] below meth c H locs 600000 7302250 (lw_Z below #[Value.ref b] s) (F0 m 381 ls []) := by
  obtain ⟨hL, hx, hb, hr, hml, hown, hts, hX, hbl, hlocks, hKx, hKm⟩ := F
  obtain ⟨z1, z2, z3, z4, ⟨z5, z6, z7, hgw⟩, hfs, hfl, z8, z9, z10, z11, z12, z13, hro, hsi⟩ := jr_bd J
  obtain ⟨A, hAe⟩ : ∃ A : Nat → Prop, A = (fun q : Nat => s.heap.size ≤ q) := ⟨_, rfl⟩
  have hA : ∀ q : Nat, s.heap.size ≤ q → A q := fun q h => by rw [hAe]; exact h
  have hbA : ¬ A b := by rw [hAe]; exact Nat.not_le.mpr hbl
  rw [← hAe] at hD hS
  refine lv_aload_n hx hb d_law_381 rfl (lv_at hl 2 rfl) ?_
  refine lv_aload_n hx hb d_law_382 rfl (lv_at hl 3 rfl) ?_
  refine lv_iload_n hx hb d_law_383 rfl (lv_at hl 0 rfl) ?_
  refine lv_iconst (v := nI 1) hx hb d_law_384 (by decide) ?_
  refine lv_iadd hx hb d_law_385 ?_
  refine tp_i (nI (1 + 4 * cn + 1)) (nI_add _ _) ?_
  refine va_sld hx hb hX hbl hbA hS (vp_in_nI (n := 1 + 4 * cn + 1) (by omega) (by omega)) d_law_386 ?_
  refine tp_i (xs (1 + 4 * cn + 1)) (by rw [nI_clamp (by omega)]) ?_
  refine tl_calli (c_left l dC dI PX CX N H.size fb g fn ft fs fl w wi now on ts tl lf ll (xs (1 + 4 * cn + 1)) (by omega)) ⟨hx, hb, hml, hown, hts⟩ (cwV 1 hts g_law_71 rfl rfl rfl (by decide +kernel) ⟨Nat.le_of_ble_eq_true rfl, Nat.le_of_ble_eq_true rfl⟩) hKx hP hD hS hA 0 rfl 0 rfl rfl hl.1 rfl (Nat.le_of_ble_eq_true rfl) d_law_387 ⟨Nat.le_refl _, Nat.le_refl _⟩ (fun r1 u H locs hwc hP hD hS => ?_)
  have hP : va_P (dC, dI) classes (tt PX CX N fb g fn ft fs fl w wi now on ts tl lf ll ++ mm PM CM N tx lx nu ti si ro us bt w2 al now on tl2 ll2) H := hP
  have hD : va_D A (tt PX CX N fb g fn ft fs fl w wi now on ts tl lf ll ++ mm PM CM N tx lx nu ti si ro us bt w2 al now on tl2 ll2) := hD
  refine lv_aload_n hx hb d_law_390 rfl (lv_at hl 1 rfl) ?_
  refine lv_aload_n hx hb d_law_391 rfl (lv_at hl 3 rfl) ?_
  refine lv_iload_n hx hb d_law_392 rfl (lv_at hl 0 rfl) ?_
  refine lv_iconst (v := nI 1) hx hb d_law_393 (by decide) ?_
  refine lv_iadd hx hb d_law_394 ?_
  refine tp_i (nI (1 + 4 * cn + 1)) (nI_add _ _) ?_
  refine va_sld hx hb hX hbl hbA hS (vp_in_nI (n := 1 + 4 * cn + 1) (by omega) (by omega)) d_law_395 ?_
  refine tp_i (xs (1 + 4 * cn + 1)) (by rw [nI_clamp (by omega)]) ?_
  have hP := fr_sw hP
  have hD := fr_swD hD
  refine tl_calli (mc_left l dC dI PM CM N H.size tx lx nu ti si ro us bt w2 al now on tl2 ll2 (xs (1 + 4 * cn + 1)) (by omega)) ⟨hx, hb, hml, hown, hts⟩ (cwV 1 hts g_law_74 rfl rfl rfl (by decide +kernel) ⟨Nat.le_of_ble_eq_true rfl, Nat.le_of_ble_eq_true rfl⟩) hKm hP hD hS hA 1 rfl 0 rfl rfl hl.1 rfl (Nat.le_of_ble_eq_true rfl) d_law_396 ⟨Nat.le_refl _, Nat.le_refl _⟩ (fun r2 u H locs hwm hP hD hS => ?_)
  have hP : va_P (dC, dI) classes (mm PM CM N tx lx nu ti si ro us bt w2 al now on tl2 ll2 ++ tt PX CX N fb g fn ft fs fl w wi now on ts tl lf ll) H := hP
  have hD : va_D A (mm PM CM N tx lx nu ti si ro us bt w2 al now on tl2 ll2 ++ tt PX CX N fb g fn ft fs fl w wi now on ts tl lf ll) := hD
  have hP := fr_sw hP
  have hD := fr_swD hD
  have he : r1 = r2 := by rw [hwc, hwm, (jr_ask J).1]
  have J := jr_c J hc
  refine lv_icmp_eq (tgt := 493) hx hb d_law_399 (by decide) (fun c_399 => ?_) (fun c_399 => ?_)
  · rw [hAe] at hD hS
    refine lv_iinc (v := nI (1 + 4 * (cn + 1))) (lv' := [(3, .int (nI (1 + 4 * (cn + 1)))), (2, .ref (PM 0)), (1, .ref (PX 0)), (0, .ref b)]) hx hb d_law_493 hl (k := 0) rfl (nI_4 _) (by decide) rfl (fun ls hl => ?_)
    refine lv_goto (tgt := 28) hx hb d_law_496 (by decide) ?_
    exact ih _ _ _ _ _ _ _ _ _ _ _ _ _ _ _ _ _ _ _ _ _ _ _ _ _ _ _ _ _ J hP hD hS hl
  · exact absurd he c_399

set_option maxHeartbeats 4000000 in
set_option maxRecDepth 100000 in
/-- the law: count -/
theorem law_count {p : Program} {l : Launch} {e : Env} {s : State} {m : MethodId} {below : List Frame} {meth : Method} {c : Code} {dC : Nat → ClassId} {dI : Nat → Nat → Nat} {b L : Nat} {xs : Nat → Int32} {N : Nat} {PX PM : Nat → Nat} {CX CM : Nat → ClassId} (F : LF p s m meth c dC dI b L xs CX CM) {cn : Nat} (ih : LH p l e s m below meth c dC dI b N PX PM CX CM (cn + 1)) (hc : cn < 512) (hi : 1 + 4 * cn + 4 ≤ L) (fb : Nat → Int32) (g : Nat → Nat) (fn ft : Nat → Int32) (fs fl : Nat → Nat) (w wi now : Nat) (on : Bool) (ts tl lf ll : Nat) (tx lx nu ti : Nat → Int32) (si ro : Nat → Nat) (us : Nat → Bool) (bt : Nat → Int32) (w2 al tl2 ll2 : Nat) (H : Heap) (locs : List Loc) (ls : Array Slot) (J : JR cn N fb g fn ft fs fl w wi now ts tl lf ll tx lx bt (nu, ti, si, ro, us, w2) al tl2 ll2) (hP : va_P (dC, dI) classes (tt PX CX N fb g fn ft fs fl w wi now on ts tl lf ll ++ mm PM CM N tx lx nu ti si ro us bt w2 al now on tl2 ll2) H) (hD : va_D (fun q : Nat => s.heap.size ≤ q) (tt PX CX N fb g fn ft fs fl w wi now on ts tl lf ll ++ mm PM CM N tx lx nu ti si ro us bt w2 al now on tl2 ll2)) (hS : va_S (fun q : Nat => s.heap.size ≤ q) s.heap H locs) (hl : lv_has ls 4 [(3, .int (nI (1 + 4 * cn))), (2, .ref (PM 0)), (1, .ref (PX 0)), (0, .ref b)]) : W p l e room_1 s m #[Value.ref b] below meth c H locs 600000 7302250 (lw_Z below #[Value.ref b] s) (F0 m 404 ls []) := by
  obtain ⟨hL, hx, hb, hr, hml, hown, hts, hX, hbl, hlocks, hKx, hKm⟩ := F
  obtain ⟨z1, z2, z3, z4, ⟨z5, z6, z7, hgw⟩, hfs, hfl, z8, z9, z10, z11, z12, z13, hro, hsi⟩ := jr_bd J
  obtain ⟨A, hAe⟩ : ∃ A : Nat → Prop, A = (fun q : Nat => s.heap.size ≤ q) := ⟨_, rfl⟩
  have hA : ∀ q : Nat, s.heap.size ≤ q → A q := fun q h => by rw [hAe]; exact h
  have hbA : ¬ A b := by rw [hAe]; exact Nat.not_le.mpr hbl
  rw [← hAe] at hD hS
  refine lv_aload_n hx hb d_law_404 rfl (lv_at hl 2 rfl) ?_
  refine lv_aload_n hx hb d_law_405 rfl (lv_at hl 3 rfl) ?_
  refine lv_iload_n hx hb d_law_406 rfl (lv_at hl 0 rfl) ?_
  refine lv_iconst (v := nI 1) hx hb d_law_407 (by decide) ?_
  refine lv_iadd hx hb d_law_408 ?_
  refine tp_i (nI (1 + 4 * cn + 1)) (nI_add _ _) ?_
  refine va_sld hx hb hX hbl hbA hS (vp_in_nI (n := 1 + 4 * cn + 1) (by omega) (by omega)) d_law_409 ?_
  refine tp_i (xs (1 + 4 * cn + 1)) (by rw [nI_clamp (by omega)]) ?_
  refine tl_calli (c_count l dC dI PX CX N H.size fb g fn ft fs fl w wi now on ts tl lf ll (xs (1 + 4 * cn + 1))) ⟨hx, hb, hml, hown, hts⟩ (cwV 1 hts g_law_75 rfl rfl rfl (by decide +kernel) ⟨Nat.le_of_ble_eq_true rfl, Nat.le_of_ble_eq_true rfl⟩) hKx hP hD hS hA 0 rfl 0 rfl rfl hl.1 rfl (Nat.le_of_ble_eq_true rfl) d_law_410 ⟨Nat.le_refl _, Nat.le_refl _⟩ (fun r1 u H locs hwc hP hD hS => ?_)
  have hP : va_P (dC, dI) classes (tt PX CX N fb g fn ft fs fl w wi now on ts tl lf ll ++ mm PM CM N tx lx nu ti si ro us bt w2 al now on tl2 ll2) H := hP
  have hD : va_D A (tt PX CX N fb g fn ft fs fl w wi now on ts tl lf ll ++ mm PM CM N tx lx nu ti si ro us bt w2 al now on tl2 ll2) := hD
  refine lv_aload_n hx hb d_law_413 rfl (lv_at hl 1 rfl) ?_
  refine lv_aload_n hx hb d_law_414 rfl (lv_at hl 3 rfl) ?_
  refine lv_iload_n hx hb d_law_415 rfl (lv_at hl 0 rfl) ?_
  refine lv_iconst (v := nI 1) hx hb d_law_416 (by decide) ?_
  refine lv_iadd hx hb d_law_417 ?_
  refine tp_i (nI (1 + 4 * cn + 1)) (nI_add _ _) ?_
  refine va_sld hx hb hX hbl hbA hS (vp_in_nI (n := 1 + 4 * cn + 1) (by omega) (by omega)) d_law_418 ?_
  refine tp_i (xs (1 + 4 * cn + 1)) (by rw [nI_clamp (by omega)]) ?_
  have hP := fr_sw hP
  have hD := fr_swD hD
  refine tl_calli (mc_count l dC dI PM CM N H.size tx lx nu ti si ro us bt w2 al now on tl2 ll2 (xs (1 + 4 * cn + 1))) ⟨hx, hb, hml, hown, hts⟩ (cwV 1 hts g_law_78 rfl rfl rfl (by decide +kernel) ⟨Nat.le_of_ble_eq_true rfl, Nat.le_of_ble_eq_true rfl⟩) hKm hP hD hS hA 1 rfl 0 rfl rfl hl.1 rfl (Nat.le_of_ble_eq_true rfl) d_law_419 ⟨Nat.le_refl _, Nat.le_refl _⟩ (fun r2 u H locs hwm hP hD hS => ?_)
  have hP : va_P (dC, dI) classes (mm PM CM N tx lx nu ti si ro us bt w2 al now on tl2 ll2 ++ tt PX CX N fb g fn ft fs fl w wi now on ts tl lf ll) H := hP
  have hD : va_D A (mm PM CM N tx lx nu ti si ro us bt w2 al now on tl2 ll2 ++ tt PX CX N fb g fn ft fs fl w wi now on ts tl lf ll) := hD
  have hP := fr_sw hP
  have hD := fr_swD hD
  have he : r1 = r2 := by rw [hwc, hwm, (jr_ask J).2.1]
  have J := jr_c J hc
  refine lv_icmp_eq (tgt := 493) hx hb d_law_422 (by decide) (fun c_422 => ?_) (fun c_422 => ?_)
  · rw [hAe] at hD hS
    refine lv_iinc (v := nI (1 + 4 * (cn + 1))) (lv' := [(3, .int (nI (1 + 4 * (cn + 1)))), (2, .ref (PM 0)), (1, .ref (PX 0)), (0, .ref b)]) hx hb d_law_493 hl (k := 0) rfl (nI_4 _) (by decide) rfl (fun ls hl => ?_)
    refine lv_goto (tgt := 28) hx hb d_law_496 (by decide) ?_
    exact ih _ _ _ _ _ _ _ _ _ _ _ _ _ _ _ _ _ _ _ _ _ _ _ _ _ _ _ _ _ J hP hD hS hl
  · exact absurd he c_422

set_option maxHeartbeats 4000000 in
set_option maxRecDepth 100000 in
/-- the law: about -/
theorem law_about {p : Program} {l : Launch} {e : Env} {s : State} {m : MethodId} {below : List Frame} {meth : Method} {c : Code} {dC : Nat → ClassId} {dI : Nat → Nat → Nat} {b L : Nat} {xs : Nat → Int32} {N : Nat} {PX PM : Nat → Nat} {CX CM : Nat → ClassId} (F : LF p s m meth c dC dI b L xs CX CM) {cn : Nat} (ih : LH p l e s m below meth c dC dI b N PX PM CX CM (cn + 1)) (hc : cn < 512) (hi : 1 + 4 * cn + 4 ≤ L) (fb : Nat → Int32) (g : Nat → Nat) (fn ft : Nat → Int32) (fs fl : Nat → Nat) (w wi now : Nat) (on : Bool) (ts tl lf ll : Nat) (tx lx nu ti : Nat → Int32) (si ro : Nat → Nat) (us : Nat → Bool) (bt : Nat → Int32) (w2 al tl2 ll2 : Nat) (H : Heap) (locs : List Loc) (ls : Array Slot) (J : JR cn N fb g fn ft fs fl w wi now ts tl lf ll tx lx bt (nu, ti, si, ro, us, w2) al tl2 ll2) (hP : va_P (dC, dI) classes (tt PX CX N fb g fn ft fs fl w wi now on ts tl lf ll ++ mm PM CM N tx lx nu ti si ro us bt w2 al now on tl2 ll2) H) (hD : va_D (fun q : Nat => s.heap.size ≤ q) (tt PX CX N fb g fn ft fs fl w wi now on ts tl lf ll ++ mm PM CM N tx lx nu ti si ro us bt w2 al now on tl2 ll2)) (hS : va_S (fun q : Nat => s.heap.size ≤ q) s.heap H locs) (hl : lv_has ls 4 [(3, .int (nI (1 + 4 * cn))), (2, .ref (PM 0)), (1, .ref (PX 0)), (0, .ref b)]) : W p l e room_1 s m #[Value.ref b] below meth c H locs 600000 7302250 (lw_Z below #[Value.ref b] s) (F0 m 427 ls []) := by
  obtain ⟨hL, hx, hb, hr, hml, hown, hts, hX, hbl, hlocks, hKx, hKm⟩ := F
  obtain ⟨z1, z2, z3, z4, ⟨z5, z6, z7, hgw⟩, hfs, hfl, z8, z9, z10, z11, z12, z13, hro, hsi⟩ := jr_bd J
  obtain ⟨A, hAe⟩ : ∃ A : Nat → Prop, A = (fun q : Nat => s.heap.size ≤ q) := ⟨_, rfl⟩
  have hA : ∀ q : Nat, s.heap.size ≤ q → A q := fun q h => by rw [hAe]; exact h
  have hbA : ¬ A b := by rw [hAe]; exact Nat.not_le.mpr hbl
  rw [← hAe] at hD hS
  refine lv_aload_n hx hb d_law_427 rfl (lv_at hl 2 rfl) ?_
  refine lv_aload_n hx hb d_law_428 rfl (lv_at hl 3 rfl) ?_
  refine lv_iload_n hx hb d_law_429 rfl (lv_at hl 0 rfl) ?_
  refine lv_iconst (v := nI 1) hx hb d_law_430 (by decide) ?_
  refine lv_iadd hx hb d_law_431 ?_
  refine tp_i (nI (1 + 4 * cn + 1)) (nI_add _ _) ?_
  refine va_sld hx hb hX hbl hbA hS (vp_in_nI (n := 1 + 4 * cn + 1) (by omega) (by omega)) d_law_432 ?_
  refine tp_i (xs (1 + 4 * cn + 1)) (by rw [nI_clamp (by omega)]) ?_
  refine lv_aload_n hx hb d_law_433 rfl (lv_at hl 3 rfl) ?_
  refine lv_iload_n hx hb d_law_434 rfl (lv_at hl 0 rfl) ?_
  refine lv_iconst (v := nI 2) hx hb d_law_435 (by decide) ?_
  refine lv_iadd hx hb d_law_436 ?_
  refine tp_i (nI (1 + 4 * cn + 2)) (nI_add _ _) ?_
  refine va_sld hx hb hX hbl hbA hS (vp_in_nI (n := 1 + 4 * cn + 2) (by omega) (by omega)) d_law_437 ?_
  refine tp_i (xs (1 + 4 * cn + 2)) (by rw [nI_clamp (by omega)]) ?_
  refine tl_calli (c_about l dC dI PX CX N H.size fb g fn ft fs fl w wi now on ts tl lf ll (xs (1 + 4 * cn + 1)) (xs (1 + 4 * cn + 2)) (by omega) (by omega) hgw) ⟨hx, hb, hml, hown, hts⟩ (cwV 2 hts g_law_79 rfl rfl rfl (by decide +kernel) ⟨Nat.le_of_ble_eq_true rfl, Nat.le_of_ble_eq_true rfl⟩) hKx hP hD hS hA 0 rfl 0 rfl rfl hl.1 rfl (Nat.le_of_ble_eq_true rfl) d_law_438 ⟨Nat.le_refl _, Nat.le_refl _⟩ (fun r1 u H locs hwc hP hD hS => ?_)
  have hP : va_P (dC, dI) classes (tt PX CX N fb g fn ft fs fl w wi now on ts tl lf ll ++ mm PM CM N tx lx nu ti si ro us bt w2 al now on tl2 ll2) H := hP
  have hD : va_D A (tt PX CX N fb g fn ft fs fl w wi now on ts tl lf ll ++ mm PM CM N tx lx nu ti si ro us bt w2 al now on tl2 ll2) := hD
  refine lv_aload_n hx hb d_law_441 rfl (lv_at hl 1 rfl) ?_
  refine lv_aload_n hx hb d_law_442 rfl (lv_at hl 3 rfl) ?_
  refine lv_iload_n hx hb d_law_443 rfl (lv_at hl 0 rfl) ?_
  refine lv_iconst (v := nI 1) hx hb d_law_444 (by decide) ?_
  refine lv_iadd hx hb d_law_445 ?_
  refine tp_i (nI (1 + 4 * cn + 1)) (nI_add _ _) ?_
  refine va_sld hx hb hX hbl hbA hS (vp_in_nI (n := 1 + 4 * cn + 1) (by omega) (by omega)) d_law_446 ?_
  refine tp_i (xs (1 + 4 * cn + 1)) (by rw [nI_clamp (by omega)]) ?_
  refine lv_aload_n hx hb d_law_447 rfl (lv_at hl 3 rfl) ?_
  refine lv_iload_n hx hb d_law_448 rfl (lv_at hl 0 rfl) ?_
  refine lv_iconst (v := nI 2) hx hb d_law_449 (by decide) ?_
  refine lv_iadd hx hb d_law_450 ?_
  refine tp_i (nI (1 + 4 * cn + 2)) (nI_add _ _) ?_
  refine va_sld hx hb hX hbl hbA hS (vp_in_nI (n := 1 + 4 * cn + 2) (by omega) (by omega)) d_law_451 ?_
  refine tp_i (xs (1 + 4 * cn + 2)) (by rw [nI_clamp (by omega)]) ?_
  have hP := fr_sw hP
  have hD := fr_swD hD
  refine tl_calli (mc_about l dC dI PM CM N H.size tx lx nu ti si ro us bt w2 al now on tl2 ll2 (xs (1 + 4 * cn + 1)) (xs (1 + 4 * cn + 2)) (by omega)) ⟨hx, hb, hml, hown, hts⟩ (cwV 2 hts g_law_82 rfl rfl rfl (by decide +kernel) ⟨Nat.le_of_ble_eq_true rfl, Nat.le_of_ble_eq_true rfl⟩) hKm hP hD hS hA 1 rfl 0 rfl rfl hl.1 rfl (Nat.le_of_ble_eq_true rfl) d_law_452 ⟨Nat.le_refl _, Nat.le_refl _⟩ (fun r2 u H locs hwm hP hD hS => ?_)
  have hP : va_P (dC, dI) classes (mm PM CM N tx lx nu ti si ro us bt w2 al now on tl2 ll2 ++ tt PX CX N fb g fn ft fs fl w wi now on ts tl lf ll) H := hP
  have hD : va_D A (mm PM CM N tx lx nu ti si ro us bt w2 al now on tl2 ll2 ++ tt PX CX N fb g fn ft fs fl w wi now on ts tl lf ll) := hD
  have hP := fr_sw hP
  have hD := fr_swD hD
  have he : r1 = r2 := by rw [hwc, hwm, (jr_ask J).2.2.1]
  have J := jr_c J hc
  refine lv_icmp_eq (tgt := 493) hx hb d_law_455 (by decide) (fun c_455 => ?_) (fun c_455 => ?_)
  · rw [hAe] at hD hS
    refine lv_iinc (v := nI (1 + 4 * (cn + 1))) (lv' := [(3, .int (nI (1 + 4 * (cn + 1)))), (2, .ref (PM 0)), (1, .ref (PX 0)), (0, .ref b)]) hx hb d_law_493 hl (k := 0) rfl (nI_4 _) (by decide) rfl (fun ls hl => ?_)
    refine lv_goto (tgt := 28) hx hb d_law_496 (by decide) ?_
    exact ih _ _ _ _ _ _ _ _ _ _ _ _ _ _ _ _ _ _ _ _ _ _ _ _ _ _ _ _ _ J hP hD hS hl
  · exact absurd he c_455

set_option maxHeartbeats 4000000 in
set_option maxRecDepth 100000 in
/-- the law: byteAt -/
theorem law_byteAt {p : Program} {l : Launch} {e : Env} {s : State} {m : MethodId} {below : List Frame} {meth : Method} {c : Code} {dC : Nat → ClassId} {dI : Nat → Nat → Nat} {b L : Nat} {xs : Nat → Int32} {N : Nat} {PX PM : Nat → Nat} {CX CM : Nat → ClassId} (F : LF p s m meth c dC dI b L xs CX CM) {cn : Nat} (ih : LH p l e s m below meth c dC dI b N PX PM CX CM (cn + 1)) (hc : cn < 512) (hi : 1 + 4 * cn + 4 ≤ L) (fb : Nat → Int32) (g : Nat → Nat) (fn ft : Nat → Int32) (fs fl : Nat → Nat) (w wi now : Nat) (on : Bool) (ts tl lf ll : Nat) (tx lx nu ti : Nat → Int32) (si ro : Nat → Nat) (us : Nat → Bool) (bt : Nat → Int32) (w2 al tl2 ll2 : Nat) (H : Heap) (locs : List Loc) (ls : Array Slot) (J : JR cn N fb g fn ft fs fl w wi now ts tl lf ll tx lx bt (nu, ti, si, ro, us, w2) al tl2 ll2) (hP : va_P (dC, dI) classes (tt PX CX N fb g fn ft fs fl w wi now on ts tl lf ll ++ mm PM CM N tx lx nu ti si ro us bt w2 al now on tl2 ll2) H) (hD : va_D (fun q : Nat => s.heap.size ≤ q) (tt PX CX N fb g fn ft fs fl w wi now on ts tl lf ll ++ mm PM CM N tx lx nu ti si ro us bt w2 al now on tl2 ll2)) (hS : va_S (fun q : Nat => s.heap.size ≤ q) s.heap H locs) (hl : lv_has ls 4 [(3, .int (nI (1 + 4 * cn))), (2, .ref (PM 0)), (1, .ref (PX 0)), (0, .ref b)]) : W p l e room_1 s m #[Value.ref b] below meth c H locs 600000 7302250 (lw_Z below #[Value.ref b] s) (F0 m 460 ls []) := by
  obtain ⟨hL, hx, hb, hr, hml, hown, hts, hX, hbl, hlocks, hKx, hKm⟩ := F
  obtain ⟨z1, z2, z3, z4, ⟨z5, z6, z7, hgw⟩, hfs, hfl, z8, z9, z10, z11, z12, z13, hro, hsi⟩ := jr_bd J
  obtain ⟨A, hAe⟩ : ∃ A : Nat → Prop, A = (fun q : Nat => s.heap.size ≤ q) := ⟨_, rfl⟩
  have hA : ∀ q : Nat, s.heap.size ≤ q → A q := fun q h => by rw [hAe]; exact h
  have hbA : ¬ A b := by rw [hAe]; exact Nat.not_le.mpr hbl
  rw [← hAe] at hD hS
  refine lv_aload_n hx hb d_law_460 rfl (lv_at hl 2 rfl) ?_
  refine lv_aload_n hx hb d_law_461 rfl (lv_at hl 3 rfl) ?_
  refine lv_iload_n hx hb d_law_462 rfl (lv_at hl 0 rfl) ?_
  refine lv_iconst (v := nI 1) hx hb d_law_463 (by decide) ?_
  refine lv_iadd hx hb d_law_464 ?_
  refine tp_i (nI (1 + 4 * cn + 1)) (nI_add _ _) ?_
  refine va_sld hx hb hX hbl hbA hS (vp_in_nI (n := 1 + 4 * cn + 1) (by omega) (by omega)) d_law_465 ?_
  refine tp_i (xs (1 + 4 * cn + 1)) (by rw [nI_clamp (by omega)]) ?_
  refine lv_aload_n hx hb d_law_466 rfl (lv_at hl 3 rfl) ?_
  refine lv_iload_n hx hb d_law_467 rfl (lv_at hl 0 rfl) ?_
  refine lv_iconst (v := nI 2) hx hb d_law_468 (by decide) ?_
  refine lv_iadd hx hb d_law_469 ?_
  refine tp_i (nI (1 + 4 * cn + 2)) (nI_add _ _) ?_
  refine va_sld hx hb hX hbl hbA hS (vp_in_nI (n := 1 + 4 * cn + 2) (by omega) (by omega)) d_law_470 ?_
  refine tp_i (xs (1 + 4 * cn + 2)) (by rw [nI_clamp (by omega)]) ?_
  refine tl_calli (c_byteAt l dC dI PX CX N H.size fb g fn ft fs fl w wi now on ts tl lf ll (xs (1 + 4 * cn + 1)) (xs (1 + 4 * cn + 2)) (by omega) (by omega) hgw hfl) ⟨hx, hb, hml, hown, hts⟩ (cwV 2 hts g_law_83 rfl rfl rfl (by decide +kernel) ⟨Nat.le_of_ble_eq_true rfl, Nat.le_of_ble_eq_true rfl⟩) hKx hP hD hS hA 0 rfl 0 rfl rfl hl.1 rfl (Nat.le_of_ble_eq_true rfl) d_law_471 ⟨Nat.le_refl _, Nat.le_refl _⟩ (fun r1 u H locs hwc hP hD hS => ?_)
  have hP : va_P (dC, dI) classes (tt PX CX N fb g fn ft fs fl w wi now on ts tl lf ll ++ mm PM CM N tx lx nu ti si ro us bt w2 al now on tl2 ll2) H := hP
  have hD : va_D A (tt PX CX N fb g fn ft fs fl w wi now on ts tl lf ll ++ mm PM CM N tx lx nu ti si ro us bt w2 al now on tl2 ll2) := hD
  refine lv_aload_n hx hb d_law_474 rfl (lv_at hl 1 rfl) ?_
  refine lv_aload_n hx hb d_law_475 rfl (lv_at hl 3 rfl) ?_
  refine lv_iload_n hx hb d_law_476 rfl (lv_at hl 0 rfl) ?_
  refine lv_iconst (v := nI 1) hx hb d_law_477 (by decide) ?_
  refine lv_iadd hx hb d_law_478 ?_
  refine tp_i (nI (1 + 4 * cn + 1)) (nI_add _ _) ?_
  refine va_sld hx hb hX hbl hbA hS (vp_in_nI (n := 1 + 4 * cn + 1) (by omega) (by omega)) d_law_479 ?_
  refine tp_i (xs (1 + 4 * cn + 1)) (by rw [nI_clamp (by omega)]) ?_
  refine lv_aload_n hx hb d_law_480 rfl (lv_at hl 3 rfl) ?_
  refine lv_iload_n hx hb d_law_481 rfl (lv_at hl 0 rfl) ?_
  refine lv_iconst (v := nI 2) hx hb d_law_482 (by decide) ?_
  refine lv_iadd hx hb d_law_483 ?_
  refine tp_i (nI (1 + 4 * cn + 2)) (nI_add _ _) ?_
  refine va_sld hx hb hX hbl hbA hS (vp_in_nI (n := 1 + 4 * cn + 2) (by omega) (by omega)) d_law_484 ?_
  refine tp_i (xs (1 + 4 * cn + 2)) (by rw [nI_clamp (by omega)]) ?_
  have hP := fr_sw hP
  have hD := fr_swD hD
  refine tl_calli (mc_byteAt l dC dI PM CM N H.size tx lx nu ti si ro us bt w2 al now on tl2 ll2 (xs (1 + 4 * cn + 1)) (xs (1 + 4 * cn + 2)) (by omega) hro hsi) ⟨hx, hb, hml, hown, hts⟩ (cwV 2 hts g_law_86 rfl rfl rfl (by decide +kernel) ⟨Nat.le_of_ble_eq_true rfl, Nat.le_of_ble_eq_true rfl⟩) hKm hP hD hS hA 1 rfl 0 rfl rfl hl.1 rfl (Nat.le_of_ble_eq_true rfl) d_law_485 ⟨Nat.le_refl _, Nat.le_refl _⟩ (fun r2 u H locs hwm hP hD hS => ?_)
  have hP : va_P (dC, dI) classes (mm PM CM N tx lx nu ti si ro us bt w2 al now on tl2 ll2 ++ tt PX CX N fb g fn ft fs fl w wi now on ts tl lf ll) H := hP
  have hD : va_D A (mm PM CM N tx lx nu ti si ro us bt w2 al now on tl2 ll2 ++ tt PX CX N fb g fn ft fs fl w wi now on ts tl lf ll) := hD
  have hP := fr_sw hP
  have hD := fr_swD hD
  have he : r1 = r2 := by rw [hwc, hwm, (jr_ask J).2.2.2]
  have J := jr_c J hc
  refine lv_icmp_eq (tgt := 493) hx hb d_law_488 (by decide) (fun c_488 => ?_) (fun c_488 => ?_)
  · rw [hAe] at hD hS
    refine lv_iinc (v := nI (1 + 4 * (cn + 1))) (lv' := [(3, .int (nI (1 + 4 * (cn + 1)))), (2, .ref (PM 0)), (1, .ref (PX 0)), (0, .ref b)]) hx hb d_law_493 hl (k := 0) rfl (nI_4 _) (by decide) rfl (fun ls hl => ?_)
    refine lv_goto (tgt := 28) hx hb d_law_496 (by decide) ?_
    exact ih _ _ _ _ _ _ _ _ _ _ _ _ _ _ _ _ _ _ _ _ _ _ _ _ _ _ _ _ _ J hP hD hS hl
  · exact absurd he c_488
