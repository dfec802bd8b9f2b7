set_option maxHeartbeats 4000000 in
set_option maxRecDepth 100000 in
/-- the law: shiftSpan -/
theorem law_shiftSpan {p : Program} {l : Launch} {e : Env} {s : State} {m : MethodId} {below : List Frame} {meth : Method} {c : Code} {dC : Nat → ClassId} {dI : Nat → Nat → Nat} {b L : Nat} {xs : Nat → Int32} {N : Nat} {PX PM : Nat → Nat} {CX CM : Nat → ClassId} (F : LF p s m meth c dC dI b L xs CX CM) {cn : Nat} (ih : LH p l e s m below meth c dC dI b N PX PM CX CM (cn + 1)) (hc : cn < 512) (hi : 1 + 4 * cn + 4 ≤ L) (fb : Nat → Int32) (g : Nat → Nat) (fn ft : Nat → Int32) (fs fl : Nat → Nat) (w wi now : Nat) (on : Bool) (ts tl lf ll : Nat) (tx lx nu ti : Nat → Int32) (si ro : Nat → Nat) (us : Nat → Bool) (bt : Nat → Int32) (w2 al tl2 ll2 : Nat) (H : Heap) (locs : List Loc) (ls : Array Slot) (J : JR cn N fb g fn ft fs fl w wi now ts tl lf ll tx lx bt (nu, ti, si, ro, us, w2) al tl2 ll2) (hP : va_P (dC, dI) classes (tt PX CX N fb g fn ft fs fl w wi now on ts tl lf ll ++ mm PM CM N tx lx nu ti si ro us bt w2 al now on tl2 ll2) H) (hD : va_D (fun q : Nat => s.heap.size ≤ q) (tt PX CX N fb g fn ft fs fl w wi now on ts tl lf ll ++ mm PM CM N tx lx nu ti si ro us bt w2 al now on tl2 ll2)) (hS : va_S (fun q : Nat => s.heap.size ≤ q) s.heap H locs) (hl : lv_has ls 4 [(3, .int (nI (1 + 4 * cn))), (2, .ref (PM 0)), (1, .ref (PX 0)), (0, .ref b)]) : W p l e room_1 s m #[Value.ref b] below meth c H locs 600000 7302250 (lw_Z below #[Value.ref b] s) (F0 m 251 ls []) := by
  obtain ⟨hL, hx, hb, hr, hml, hown, hts, hX, hbl, hlocks, hKx, hKm⟩ := F
  obtain ⟨z1, z2, z3, z4, ⟨z5, z6, z7, hgw⟩, hfs, hfl, z8, z9, z10, z11, z12, z13, hro, hsi⟩ := jr_bd J
  obtain ⟨A, hAe⟩ : ∃ A : Nat → Prop, A = (fun q : Nat => s.heap.size ≤ q) := ⟨_, rfl⟩
  have hA : ∀ q : Nat, s.heap.size ≤ q → A q := fun q h => by rw [hAe]; exact h
  have hbA : ¬ A b := by rw [hAe]; exact Nat.not_le.mpr hbl
  rw [← hAe] at hD hS
  refine lv_aload_n hx hb d_law_251 rfl (lv_at hl 2 rfl) ?_
  refine lv_aload_n hx hb d_law_252 rfl (lv_at hl 3 rfl) ?_
  refine lv_iload_n hx hb d_law_253 rfl (lv_at hl 0 rfl) ?_
  refine lv_iconst (v := nI 1) hx hb d_law_254 (by decide) ?_
  refine lv_iadd hx hb d_law_255 ?_
  refine tp_i (nI (1 + 4 * cn + 1)) (nI_add _ _) ?_
  refine va_sld hx hb hX hbl hbA hS (vp_in_nI (n := 1 + 4 * cn + 1) (by omega) (by omega)) d_law_256 ?_
  refine tp_i (xs (1 + 4 * cn + 1)) (by rw [nI_clamp (by omega)]) ?_
  refine lv_aload_n hx hb d_law_257 rfl (lv_at hl 3 rfl) ?_
  refine lv_iload_n hx hb d_law_258 rfl (lv_at hl 0 rfl) ?_
  refine lv_iconst (v := nI 2) hx hb d_law_259 (by decide) ?_
  refine lv_iadd hx hb d_law_260 ?_
  refine tp_i (nI (1 + 4 * cn + 2)) (nI_add _ _) ?_
  refine va_sld hx hb hX hbl hbA hS (vp_in_nI (n := 1 + 4 * cn + 2) (by omega) (by omega)) d_law_261 ?_
  refine tp_i (xs (1 + 4 * cn + 2)) (by rw [nI_clamp (by omega)]) ?_
  refine lv_aload_n hx hb d_law_262 rfl (lv_at hl 3 rfl) ?_
  refine lv_iload_n hx hb d_law_263 rfl (lv_at hl 0 rfl) ?_
  refine lv_iconst (v := nI 3) hx hb d_law_264 (by decide) ?_
  refine lv_iadd hx hb d_law_265 ?_
  refine tp_i (nI (1 + 4 * cn + 3)) (nI_add _ _) ?_
  refine va_sld hx hb hX hbl hbA hS (vp_in_nI (n := 1 + 4 * cn + 3) (by omega) (by omega)) d_law_266 ?_
  refine tp_i (xs (1 + 4 * cn + 3)) (by rw [nI_clamp (by omega)]) ?_
  refine tl_calli (c_shiftSpan l dC dI PX CX N H.size fb g fn ft fs fl w wi now on ts tl lf ll (xs (1 + 4 * cn + 1)) (xs (1 + 4 * cn + 2)) (xs (1 + 4 * cn + 3)) (by omega) (by omega) hgw hfs) ⟨hx, hb, hml, hown, hts⟩ (cwV 3 hts g_law_43 rfl rfl rfl (by decide +kernel) ⟨Nat.le_of_ble_eq_true rfl, Nat.le_of_ble_eq_true rfl⟩) hKx hP hD hS hA 0 rfl 0 rfl rfl hl.1 rfl (Nat.le_of_ble_eq_true rfl) d_law_267 ⟨Nat.le_refl _, Nat.le_refl _⟩ (fun r1 u H locs hwc hP hD hS => ?_)
  have hP : va_P (dC, dI) classes (tt PX CX N fb (mv_F (mv_c (in_S ft (xs (1 + 4 * cn + 1)) (xs (1 + 4 * cn + 2))) (cm_F ft now (xs (1 + 4 * cn + 3))) w 0 g 0) g (mv_s (be_F (mv_t (xs (1 + 4 * cn + 1)) (xs (1 + 4 * cn + 2)) (xs (1 + 4 * cn + 3)) w 0 g ft) fs) (w - 1) 1 g)) fn (mv_F (mv_c (in_S ft (xs (1 + 4 * cn + 1)) (xs (1 + 4 * cn + 2))) (cm_F ft now (xs (1 + 4 * cn + 3))) w 0 g 0) ft (mv_t (xs (1 + 4 * cn + 1)) (xs (1 + 4 * cn + 2)) (xs (1 + 4 * cn + 3)) w 0 g ft)) fs fl w wi now on ts tl lf ll ++ mm PM CM N tx lx nu ti si ro us bt w2 al now on tl2 ll2) H := hP
  have hD : va_D A (tt PX CX N fb (mv_F (mv_c (in_S ft (xs (1 + 4 * cn + 1)) (xs (1 + 4 * cn + 2))) (cm_F ft now (xs (1 + 4 * cn + 3))) w 0 g 0) g (mv_s (be_F (mv_t (xs (1 + 4 * cn + 1)) (xs (1 + 4 * cn + 2)) (xs (1 + 4 * cn + 3)) w 0 g ft) fs) (w - 1) 1 g)) fn (mv_F (mv_c (in_S ft (xs (1 + 4 * cn + 1)) (xs (1 + 4 * cn + 2))) (cm_F ft now (xs (1 + 4 * cn + 3))) w 0 g 0) ft (mv_t (xs (1 + 4 * cn + 1)) (xs (1 + 4 * cn + 2)) (xs (1 + 4 * cn + 3)) w 0 g ft)) fs fl w wi now on ts tl lf ll ++ mm PM CM N tx lx nu ti si ro us bt w2 al now on tl2 ll2) := hD
  refine lv_aload_n hx hb d_law_270 rfl (lv_at hl 1 rfl) ?_
  refine lv_aload_n hx hb d_law_271 rfl (lv_at hl 3 rfl) ?_
  refine lv_iload_n hx hb d_law_272 rfl (lv_at hl 0 rfl) ?_
  refine lv_iconst (v := nI 1) hx hb d_law_273 (by decide) ?_
  refine lv_iadd hx hb d_law_274 ?_
  refine tp_i (nI (1 + 4 * cn + 1)) (nI_add _ _) ?_
  refine va_sld hx hb hX hbl hbA hS (vp_in_nI (n := 1 + 4 * cn + 1) (by omega) (by omega)) d_law_275 ?_
  refine tp_i (xs (1 + 4 * cn + 1)) (by rw [nI_clamp (by omega)]) ?_
  refine lv_aload_n hx hb d_law_276 rfl (lv_at hl 3 rfl) ?_
  refine lv_iload_n hx hb d_law_277 rfl (lv_at hl 0 rfl) ?_
  refine lv_iconst (v := nI 2) hx hb d_law_278 (by decide) ?_
  refine lv_iadd hx hb d_law_279 ?_
  refine tp_i (nI (1 + 4 * cn + 2)) (nI_add _ _) ?_
  refine va_sld hx hb hX hbl hbA hS (vp_in_nI (n := 1 + 4 * cn + 2) (by omega) (by omega)) d_law_280 ?_
  refine tp_i (xs (1 + 4 * cn + 2)) (by rw [nI_clamp (by omega)]) ?_
  refine lv_aload_n hx hb d_law_281 rfl (lv_at hl 3 rfl) ?_
  refine lv_iload_n hx hb d_law_282 rfl (lv_at hl 0 rfl) ?_
  refine lv_iconst (v := nI 3) hx hb d_law_283 (by decide) ?_
  refine lv_iadd hx hb d_law_284 ?_
  refine tp_i (nI (1 + 4 * cn + 3)) (nI_add _ _) ?_
  refine va_sld hx hb hX hbl hbA hS (vp_in_nI (n := 1 + 4 * cn + 3) (by omega) (by omega)) d_law_285 ?_
  refine tp_i (xs (1 + 4 * cn + 3)) (by rw [nI_clamp (by omega)]) ?_
  have hP := fr_sw hP
  have hD := fr_swD hD
  refine tl_calli (mc_shiftSpan l dC dI PM CM N H.size tx lx nu ti si ro us bt w2 al now on tl2 ll2 (xs (1 + 4 * cn + 1)) (xs (1 + 4 * cn + 2)) (xs (1 + 4 * cn + 3)) (by omega)) ⟨hx, hb, hml, hown, hts⟩ (cwV 3 hts g_law_47 rfl rfl rfl (by decide +kernel) ⟨Nat.le_of_ble_eq_true rfl, Nat.le_of_ble_eq_true rfl⟩) hKm hP hD hS hA 1 rfl 0 rfl rfl hl.1 rfl (Nat.le_of_ble_eq_true rfl) d_law_286 ⟨Nat.le_refl _, Nat.le_refl _⟩ (fun r2 u H locs hwm hP hD hS => ?_)
  have hP : va_P (dC, dI) classes (mm PM CM N tx lx nu (mv_F (mv_c (in_S ti (xs (1 + 4 * cn + 1)) (xs (1 + 4 * cn + 2))) (cm_F ti now (xs (1 + 4 * cn + 3))) w2 0 (fun j => j) 0) ti (mv_t (xs (1 + 4 * cn + 1)) (xs (1 + 4 * cn + 2)) (xs (1 + 4 * cn + 3)) w2 0 (fun j => j) ti)) si ro us bt w2 al now on tl2 ll2 ++ tt PX CX N fb (mv_F (mv_c (in_S ft (xs (1 + 4 * cn + 1)) (xs (1 + 4 * cn + 2))) (cm_F ft now (xs (1 + 4 * cn + 3))) w 0 g 0) g (mv_s (be_F (mv_t (xs (1 + 4 * cn + 1)) (xs (1 + 4 * cn + 2)) (xs (1 + 4 * cn + 3)) w 0 g ft) fs) (w - 1) 1 g)) fn (mv_F (mv_c (in_S ft (xs (1 + 4 * cn + 1)) (xs (1 + 4 * cn + 2))) (cm_F ft now (xs (1 + 4 * cn + 3))) w 0 g 0) ft (mv_t (xs (1 + 4 * cn + 1)) (xs (1 + 4 * cn + 2)) (xs (1 + 4 * cn + 3)) w 0 g ft)) fs fl w wi now on ts tl lf ll) H := hP
  have hD : va_D A (mm PM CM N tx lx nu (mv_F (mv_c (in_S ti (xs (1 + 4 * cn + 1)) (xs (1 + 4 * cn + 2))) (cm_F ti now (xs (1 + 4 * cn + 3))) w2 0 (fun j => j) 0) ti (mv_t (xs (1 + 4 * cn + 1)) (xs (1 + 4 * cn + 2)) (xs (1 + 4 * cn + 3)) w2 0 (fun j => j) ti)) si ro us bt w2 al now on tl2 ll2 ++ tt PX CX N fb (mv_F (mv_c (in_S ft (xs (1 + 4 * cn + 1)) (xs (1 + 4 * cn + 2))) (cm_F ft now (xs (1 + 4 * cn + 3))) w 0 g 0) g (mv_s (be_F (mv_t (xs (1 + 4 * cn + 1)) (xs (1 + 4 * cn + 2)) (xs (1 + 4 * cn + 3)) w 0 g ft) fs) (w - 1) 1 g)) fn (mv_F (mv_c (in_S ft (xs (1 + 4 * cn + 1)) (xs (1 + 4 * cn + 2))) (cm_F ft now (xs (1 + 4 * cn + 3))) w 0 g 0) ft (mv_t (xs (1 + 4 * cn + 1)) (xs (1 + 4 * cn + 2)) (xs (1 + 4 * cn + 3)) w 0 g ft)) fs fl w wi now on ts tl lf ll) := hD
  have hP := fr_sw hP
  have hD := fr_swD hD
  obtain ⟨he, J⟩ := jr_mv J hc (f := (xs (1 + 4 * cn + 1))) (t := (xs (1 + 4 * cn + 2))) (f2 := (xs (1 + 4 * cn + 1))) (t2 := (xs (1 + 4 * cn + 2))) (b := (xs (1 + 4 * cn + 3))) (fun _ _ => rfl)
  have he : r1 = r2 := by rw [hwc, hwm, he]
  refine lv_icmp_eq (tgt := 493) hx hb d_law_289 (by decide) (fun c_289 => ?_) (fun c_289 => ?_)
  · rw [hAe] at hD hS
    refine lv_iinc (v := nI (1 + 4 * (cn + 1))) (lv' := [(3, .int (nI (1 + 4 * (cn + 1)))), (2, .ref (PM 0)), (1, .ref (PX 0)), (0, .ref b)]) hx hb d_law_493 hl (k := 0) rfl (nI_4 _) (by decide) rfl (fun ls hl => ?_)
    refine lv_goto (tgt := 28) hx hb d_law_496 (by decide) ?_
    exact ih _ _ _ _ _ _ _ _ _ _ _ _ _ _ _ _ _ _ _ _ _ _ _ _ _ _ _ _ _ J hP hD hS hl
  · exact absurd he c_289

set_option maxHeartbeats 4000000 in
set_option maxRecDepth 100000 in
/-- the law: enable -/
theorem law_enable {p : Program} {l : Launch} {e : Env} {s : State} {m : MethodId} {below : List Frame} {meth : Method} {c : Code} {dC : Nat → ClassId} {dI : Nat → Nat → Nat} {b L : Nat} {xs : Nat → Int32} {N : Nat} {PX PM : Nat → Nat} {CX CM : Nat → ClassId} (F : LF p s m meth c dC dI b L xs CX CM) {cn : Nat} (ih : LH p l e s m below meth c dC dI b N PX PM CX CM (cn + 1)) (hc : cn < 512) (hi : 1 + 4 * cn + 4 ≤ L) (fb : Nat → Int32) (g : Nat → Nat) (fn ft : Nat → Int32) (fs fl : Nat → Nat) (w wi now : Nat) (on : Bool) (ts tl lf ll : Nat) (tx lx nu ti : Nat → Int32) (si ro : Nat → Nat) (us : Nat → Bool) (bt : Nat → Int32) (w2 al tl2 ll2 : Nat) (H : Heap) (locs : List Loc) (ls : Array Slot) (J : JR cn N fb g fn ft fs fl w wi now ts tl lf ll tx lx bt (nu, ti, si, ro, us, w2) al tl2 ll2) (hP : va_P (dC, dI) classes (tt PX CX N fb g fn ft fs fl w wi now on ts tl lf ll ++ mm PM CM N tx lx nu ti si ro us bt w2 al now on tl2 ll2) H) (hD : va_D (fun q : Nat => s.heap.size ≤ q) (tt PX CX N fb g fn ft fs fl w wi now on ts tl lf ll ++ mm PM CM N tx lx nu ti si ro us bt w2 al now on tl2 ll2)) (hS : va_S (fun q : Nat => s.heap.size ≤ q) s.heap H locs) (hl : lv_has ls 4 [(3, .int (nI (1 + 4 * cn))), (2, .ref (PM 0)), (1, .ref (PX 0)), (0, .ref b)]) : W p l e room_1 s m #[Value.ref b] below meth c H locs 600000 7302250 (lw_Z below #[Value.ref b] s) (F0 m 294 ls []) := by
  obtain ⟨hL, hx, hb, hr, hml, hown, hts, hX, hbl, hlocks, hKx, hKm⟩ := F
  obtain ⟨z1, z2, z3, z4, ⟨z5, z6, z7, hgw⟩, hfs, hfl, z8, z9, z10, z11, z12, z13, hro, hsi⟩ := jr_bd J
  obtain ⟨A, hAe⟩ : ∃ A : Nat → Prop, A = (fun q : Nat => s.heap.size ≤ q) := ⟨_, rfl⟩
  have hA : ∀ q : Nat, s.heap.size ≤ q → A q := fun q h => by rw [hAe]; exact h
  have hbA : ¬ A b := by rw [hAe]; exact Nat.not_le.mpr hbl
  rw [← hAe] at hD hS
  refine lv_aload_n hx hb d_law_294 rfl (lv_at hl 2 rfl) ?_
  refine lv_aload_n hx hb d_law_295 rfl (lv_at hl 3 rfl) ?_
  refine lv_iload_n hx hb d_law_296 rfl (lv_at hl 0 rfl) ?_
  refine lv_iconst (v := nI 1) hx hb d_law_297 (by decide) ?_
  refine lv_iadd hx hb d_law_298 ?_
  refine tp_i (nI (1 + 4 * cn + 1)) (nI_add _ _) ?_
  refine va_sld hx hb hX hbl hbA hS (vp_in_nI (n := 1 + 4 * cn + 1) (by omega) (by omega)) d_law_299 ?_
  refine tp_i (xs (1 + 4 * cn + 1)) (by rw [nI_clamp (by omega)]) ?_
  refine lv_if_eq (tgt := 307) hx hb d_law_300 (by decide) (fun c_300 => ?_) (fun c_300 => ?_)
  · refine lv_iconst (v := nI 0) hx hb d_law_307 (by decide) ?_
    refine tp_i (bI false) rfl ?_
    refine tl_callv (c_enable l dC dI PX CX N H.size fb g fn ft fs fl w wi now on ts tl lf ll false) ⟨hx, hb, hml, hown, hts⟩ (cwV 1 hts g_law_48 rfl rfl rfl (by decide +kernel) ⟨Nat.le_of_ble_eq_true rfl, Nat.le_of_ble_eq_true rfl⟩) hKx hP hD hS hA 0 rfl 0 rfl rfl hl.1 rfl (Nat.le_of_ble_eq_true rfl) d_law_308 ⟨Nat.le_refl _, Nat.le_refl _⟩ (fun u H locs hwc hP hD hS => ?_)
    have hP : va_P (dC, dI) classes (tt PX CX N fb g fn ft fs fl w wi now false ts tl lf ll ++ mm PM CM N tx lx nu ti si ro us bt w2 al now on tl2 ll2) H := hP
    have hD : va_D A (tt PX CX N fb g fn ft fs fl w wi now false ts tl lf ll ++ mm PM CM N tx lx nu ti si ro us bt w2 al now on tl2 ll2) := hD
    refine lv_aload_n hx hb d_law_311 rfl (lv_at hl 1 rfl) ?_
    refine lv_aload_n hx hb d_law_312 rfl (lv_at hl 3 rfl) ?_
    refine lv_iload_n hx hb d_law_313 rfl (lv_at hl 0 rfl) ?_
    refine lv_iconst (v := nI 1) hx hb d_law_314 (by decide) ?_
    refine lv_iadd hx hb d_law_315 ?_
    refine tp_i (nI (1 + 4 * cn + 1)) (nI_add _ _) ?_
    refine va_sld hx hb hX hbl hbA hS (vp_in_nI (n := 1 + 4 * cn + 1) (by omega) (by omega)) d_law_316 ?_
    refine tp_i (xs (1 + 4 * cn + 1)) (by rw [nI_clamp (by omega)]) ?_
    refine lv_if_eq (tgt := 324) hx hb d_law_317 (by decide) (fun c_317 => ?_) (fun c_317 => ?_)
    · refine lv_iconst (v := nI 0) hx hb d_law_324 (by decide) ?_
      refine tp_i (bI false) rfl ?_
      have hP := fr_sw hP
      have hD := fr_swD hD
      refine tl_callv (mc_enable l dC dI PM CM N H.size tx lx nu ti si ro us bt w2 al now on tl2 ll2 false) ⟨hx, hb, hml, hown, hts⟩ (cwV 1 hts g_law_52 rfl rfl rfl (by decide +kernel) ⟨Nat.le_of_ble_eq_true rfl, Nat.le_of_ble_eq_true rfl⟩) hKm hP hD hS hA 1 rfl 0 rfl rfl hl.1 rfl (Nat.le_of_ble_eq_true rfl) d_law_325 ⟨Nat.le_refl _, Nat.le_refl _⟩ (fun u H locs hwm hP hD hS => ?_)
      have hP : va_P (dC, dI) classes (mm PM CM N tx lx nu ti si ro us bt w2 al now false tl2 ll2 ++ tt PX CX N fb g fn ft fs fl w wi now false ts tl lf ll) H := hP
      have hD : va_D A (mm PM CM N tx lx nu ti si ro us bt w2 al now false tl2 ll2 ++ tt PX CX N fb g fn ft fs fl w wi now false ts tl lf ll) := hD
      have hP := fr_sw hP
      have hD := fr_swD hD
      refine lv_goto (tgt := 493) hx hb d_law_328 (by decide) ?_
      have J := jr_c J hc
      rw [hAe] at hD hS
      refine lv_iinc (v := nI (1 + 4 * (cn + 1))) (lv' := [(3, .int (nI (1 + 4 * (cn + 1)))), (2, .ref (PM 0)), (1, .ref (PX 0)), (0, .ref b)]) hx hb d_law_493 hl (k := 0) rfl (nI_4 _) (by decide) rfl (fun ls hl => ?_)
      refine lv_goto (tgt := 28) hx hb d_law_496 (by decide) ?_
      exact ih _ _ _ _ _ _ _ _ _ _ _ _ _ _ _ _ _ _ _ _ _ _ _ _ _ _ _ _ _ J hP hD hS hl
    · exact absurd c_300 c_317
  · refine lv_iconst (v := nI 1) hx hb d_law_303 (by decide) ?_
    refine lv_goto (tgt := 308) hx hb d_law_304 (by decide) ?_
    refine tp_i (bI true) rfl ?_
    refine tl_callv (c_enable l dC dI PX CX N H.size fb g fn ft fs fl w wi now on ts tl lf ll true) ⟨hx, hb, hml, hown, hts⟩ (cwV 1 hts g_law_48 rfl rfl rfl (by decide +kernel) ⟨Nat.le_of_ble_eq_true rfl, Nat.le_of_ble_eq_true rfl⟩) hKx hP hD hS hA 0 rfl 0 rfl rfl hl.1 rfl (Nat.le_of_ble_eq_true rfl) d_law_308 ⟨Nat.le_refl _, Nat.le_refl _⟩ (fun u H locs hwc hP hD hS => ?_)
    have hP : va_P (dC, dI) classes (tt PX CX N fb g fn ft fs fl w wi now true ts tl lf ll ++ mm PM CM N tx lx nu ti si ro us bt w2 al now on tl2 ll2) H := hP
    have hD : va_D A (tt PX CX N fb g fn ft fs fl w wi now true ts tl lf ll ++ mm PM CM N tx lx nu ti si ro us bt w2 al now on tl2 ll2) := hD
    refine lv_aload_n hx hb d_law_311 rfl (lv_at hl 1 rfl) ?_
    refine lv_aload_n hx hb d_law_312 rfl (lv_at hl 3 rfl) ?_
    refine lv_iload_n hx hb d_law_313 rfl (lv_at hl 0 rfl) ?_
    refine lv_iconst (v := nI 1) hx hb d_law_314 (by decide) ?_
    refine lv_iadd hx hb d_law_315 ?_
    refine tp_i (nI (1 + 4 * cn + 1)) (nI_add _ _) ?_
    refine va_sld hx hb hX hbl hbA hS (vp_in_nI (n := 1 + 4 * cn + 1) (by omega) (by omega)) d_law_316 ?_
    refine tp_i (xs (1 + 4 * cn + 1)) (by rw [nI_clamp (by omega)]) ?_
    refine lv_if_eq (tgt := 324) hx hb d_law_317 (by decide) (fun c_317 => ?_) (fun c_317 => ?_)
    · exact absurd c_317 c_300
    · refine lv_iconst (v := nI 1) hx hb d_law_320 (by decide) ?_
      refine lv_goto (tgt := 325) hx hb d_law_321 (by decide) ?_
      refine tp_i (bI true) rfl ?_
      have hP := fr_sw hP
      have hD := fr_swD hD
      refine tl_callv (mc_enable l dC dI PM CM N H.size tx lx nu ti si ro us bt w2 al now on tl2 ll2 true) ⟨hx, hb, hml, hown, hts⟩ (cwV 1 hts g_law_52 rfl rfl rfl (by decide +kernel) ⟨Nat.le_of_ble_eq_true rfl, Nat.le_of_ble_eq_true rfl⟩) hKm hP hD hS hA 1 rfl 0 rfl rfl hl.1 rfl (Nat.le_of_ble_eq_true rfl) d_law_325 ⟨Nat.le_refl _, Nat.le_refl _⟩ (fun u H locs hwm hP hD hS => ?_)
      have hP : va_P (dC, dI) classes (mm PM CM N tx lx nu ti si ro us bt w2 al now true tl2 ll2 ++ tt PX CX N fb g fn ft fs fl w wi now true ts tl lf ll) H := hP
      have hD : va_D A (mm PM CM N tx lx nu ti si ro us bt w2 al now true tl2 ll2 ++ tt PX CX N fb g fn ft fs fl w wi now true ts tl lf ll) := hD
      have hP := fr_sw hP
      have hD := fr_swD hD
      refine lv_goto (tgt := 493) hx hb d_law_328 (by decide) ?_
      have J := jr_c J hc
      rw [hAe] at hD hS
      refine lv_iinc (v := nI (1 + 4 * (cn + 1))) (lv' := [(3, .int (nI (1 + 4 * (cn + 1)))), (2, .ref (PM 0)), (1, .ref (PX 0)), (0, .ref b)]) hx hb d_law_493 hl (k := 0) rfl (nI_4 _) (by decide) rfl (fun ls hl => ?_)
      refine lv_goto (tgt := 28) hx hb d_law_496 (by decide) ?_
      exact ih _ _ _ _ _ _ _ _ _ _ _ _ _ _ _ _ _ _ _ _ _ _ _ _ _ _ _ _ _ J hP hD hS hl

set_option maxHeartbeats 4000000 in
set_option maxRecDepth 100000 in
/-- the law: isOn -/
theorem law_isOn {p : Program} {l : Launch} {e : Env} {s : State} {m : MethodId} {below : List Frame} {meth : Method} {c : Code} {dC : Nat → ClassId} {dI : Nat → Nat → Nat} {b L : Nat} {xs : Nat → Int32} {N : Nat} {PX PM : Nat → Nat} {CX CM : Nat → ClassId} (F : LF p s m meth c dC dI b L xs CX CM) {cn : Nat} (ih : LH p l e s m below meth c dC dI b N PX PM CX CM (cn + 1)) (hc : cn < 512) (hi : 1 + 4 * cn + 4 ≤ L) (fb : Nat → Int32) (g : Nat → Nat) (fn ft : Nat → Int32) (fs fl : Nat → Nat) (w wi now : Nat) (on : Bool) (ts tl lf ll : Nat) (tx lx nu ti : Nat → Int32) (si ro : Nat → Nat) (us : Nat → Bool) (bt : Nat → Int32) (w2 al tl2 ll2 : Nat) (H : Heap) (locs : List Loc) (ls : Array Slot) (J : JR cn N fb g fn ft fs fl w wi now ts tl lf ll tx lx bt (nu, ti, si, ro, us, w2) al tl2 ll2) (hP : va_P (dC, dI) classes (tt PX CX N fb g fn ft fs fl w wi now on ts tl lf ll ++ mm PM CM N tx lx nu ti si ro us bt w2 al now on tl2 ll2) H) (hD : va_D (fun q : Nat => s.heap.size ≤ q) (tt PX CX N fb g fn ft fs fl w wi now on ts tl lf ll ++ mm PM CM N tx lx nu ti si ro us bt w2 al now on tl2 ll2)) (hS : va_S (fun q : Nat => s.heap.size ≤ q) s.heap H locs) (hl : lv_has ls 4 [(3, .int (nI (1 + 4 * cn))), (2, .ref (PM 0)), (1, .ref (PX 0)), (0, .ref b)]) : W p l e room_1 s m #[Value.ref b] below meth c H locs 600000 7302250 (lw_Z below #[Value.ref b] s) (F0 m 331 ls []) := by
  obtain ⟨hL, hx, hb, hr, hml, hown, hts, hX, hbl, hlocks, hKx, hKm⟩ := F
  obtain ⟨z1, z2, z3, z4, ⟨z5, z6, z7, hgw⟩, hfs, hfl, z8, z9, z10, z11, z12, z13, hro, hsi⟩ := jr_bd J
  obtain ⟨A, hAe⟩ : ∃ A : Nat → Prop, A = (fun q : Nat => s.heap.size ≤ q) := ⟨_, rfl⟩
  have hA : ∀ q : Nat, s.heap.size ≤ q → A q := fun q h => by rw [hAe]; exact h
  have hbA : ¬ A b := by rw [hAe]; exact Nat.not_le.mpr hbl
  rw [← hAe] at hD hS
  refine lv_aload_n hx hb d_law_331 rfl (lv_at hl 2 rfl) ?_
  refine tl_calli (c_isOn l dC dI PX CX N H.size fb g fn ft fs fl w wi now on ts tl lf ll ) ⟨hx, hb, hml, hown, hts⟩ (cwV 0 hts g_law_53 rfl rfl rfl (by decide +kernel) ⟨Nat.le_of_ble_eq_true rfl, Nat.le_of_ble_eq_true rfl⟩) hKx hP hD hS hA 0 rfl 0 rfl rfl hl.1 rfl (Nat.le_of_ble_eq_true rfl) d_law_332 ⟨Nat.le_refl _, Nat.le_refl _⟩ (fun r1 u H locs hwc hP hD hS => ?_)
  have hP : va_P (dC, dI) classes (tt PX CX N fb g fn ft fs fl w wi now on ts tl lf ll ++ mm PM CM N tx lx nu ti si ro us bt w2 al now on tl2 ll2) H := hP
  have hD : va_D A (tt PX CX N fb g fn ft fs fl w wi now on ts tl lf ll ++ mm PM CM N tx lx nu ti si ro us bt w2 al now on tl2 ll2) := hD
  refine lv_aload_n hx hb d_law_335 rfl (lv_at hl 1 rfl) ?_
  have hP := fr_sw hP
  have hD := fr_swD hD
  refine tl_calli (mc_isOn l dC dI PM CM N H.size tx lx nu ti si ro us bt w2 al now on tl2 ll2 ) ⟨hx, hb, hml, hown, hts⟩ (cwV 0 hts g_law_57 rfl rfl rfl (by decide +kernel) ⟨Nat.le_of_ble_eq_true rfl, Nat.le_of_ble_eq_true rfl⟩) hKm hP hD hS hA 1 rfl 0 rfl rfl hl.1 rfl (Nat.le_of_ble_eq_true rfl) d_law_336 ⟨Nat.le_refl _, Nat.le_refl _⟩ (fun r2 u H locs hwm hP hD hS => ?_)
  have hP : va_P (dC, dI) classes (mm PM CM N tx lx nu ti si ro us bt w2 al now on tl2 ll2 ++ tt PX CX N fb g fn ft fs fl w wi now on ts tl lf ll) H := hP
  have hD : va_D A (mm PM CM N tx lx nu ti si ro us bt w2 al now on tl2 ll2 ++ tt PX CX N fb g fn ft fs fl w wi now on ts tl lf ll) := hD
  have hP := fr_sw hP
  have hD := fr_swD hD
  have J := jr_c J hc
  have he : r1 = r2 := by rw [hwc, hwm]
  refine lv_icmp_eq (tgt := 493) hx hb d_law_339 (by decide) (fun c_339 => ?_) (fun c_339 => ?_)
  · rw [hAe] at hD hS
    refine lv_iinc (v := nI (1 + 4 * (cn + 1))) (lv' := [(3, .int (nI (1 + 4 * (cn + 1)))), (2, .ref (PM 0)), (1, .ref (PX 0)), (0, .ref b)]) hx hb d_law_493 hl (k := 0) rfl (nI_4 _) (by decide) rfl (fun ls hl => ?_)
    refine lv_goto (tgt := 28) hx hb d_law_496 (by decide) ?_
    exact ih _ _ _ _ _ _ _ _ _ _ _ _ _ _ _ _ _ _ _ _ _ _ _ _ _ _ _ _ _ J hP hD hS hl
  · exact absurd he c_339

set_option maxHeartbeats 4000000 in
set_option maxRecDepth 100000 in
/-- the law: reset -/
theorem law_reset {p : Program} {l : Launch} {e : Env} {s : State} {m : MethodId} {below : List Frame} {meth : Method} {c : Code} {dC : Nat → ClassId} {dI : Nat → Nat → Nat} {b L : Nat} {xs : Nat → Int32} {N : Nat} {PX PM : Nat → Nat} {CX CM : Nat → ClassId} (F : LF p s m meth c dC dI b L xs CX CM) {cn : Nat} (ih : LH p l e s m below meth c dC dI b N PX PM CX CM (cn + 1)) (hc : cn < 512) (hi : 1 + 4 * cn + 4 ≤ L) (fb : Nat → Int32) (g : Nat → Nat) (fn ft : Nat → Int32) (fs fl : Nat → Nat) (w wi now : Nat) (on : Bool) (ts tl lf ll : Nat) (tx lx nu ti : Nat → Int32) (si ro : Nat → Nat) (us : Nat → Bool) (bt : Nat → Int32) (w2 al tl2 ll2 : Nat) (H : Heap) (locs : List Loc) (ls : Array Slot) (J : JR cn N fb g fn ft fs fl w wi now ts tl lf ll tx lx bt (nu, ti, si, ro, us, w2) al tl2 ll2) (hP : va_P (dC, dI) classes (tt PX CX N fb g fn ft fs fl w wi now on ts tl lf ll ++ mm PM CM N tx lx nu ti si ro us bt w2 al now on tl2 ll2) H) (hD : va_D (fun q : Nat => s.heap.size ≤ q) (tt PX CX N fb g fn ft fs fl w wi now on ts tl lf ll ++ mm PM CM N tx lx nu ti si ro us bt w2 al now on tl2 ll2)) (hS : va_S (fun q : Nat => s.heap.size ≤ q) s.heap H locs) (hl : lv_has ls 4 [(3, .int (nI (1 + 4 * cn))), (2, .ref (PM 0)), (1, .ref (PX 0)), (0, .ref b)]) : W p l e room_1 s m #[Value.ref b] below meth c H locs 600000 7302250 (lw_Z below #[Value.ref b] s) (F0 m 344 ls []) := by
  obtain ⟨hL, hx, hb, hr, hml, hown, hts, hX, hbl, hlocks, hKx, hKm⟩ := F
  obtain ⟨z1, z2, z3, z4, ⟨z5, z6, z7, hgw⟩, hfs, hfl, z8, z9, z10, z11, z12, z13, hro, hsi⟩ := jr_bd J
  obtain ⟨A, hAe⟩ : ∃ A : Nat → Prop, A = (fun q : Nat => s.heap.size ≤ q) := ⟨_, rfl⟩
  have hA : ∀ q : Nat, s.heap.size ≤ q → A q := fun q h => by rw [hAe]; exact h
  have hbA : ¬ A b := by rw [hAe]; exact Nat.not_le.mpr hbl
  rw [← hAe] at hD hS
  refine lv_aload_n hx hb d_law_344 rfl (lv_at hl 2 rfl) ?_
  refine tl_callv (c_reset l dC dI PX CX N H.size fb g fn ft fs fl w wi now on ts tl lf ll ) ⟨hx, hb, hml, hown, hts⟩ (cwV 0 hts g_law_58 rfl rfl rfl (by decide +kernel) ⟨Nat.le_of_ble_eq_true rfl, Nat.le_of_ble_eq_true rfl⟩) hKx hP hD hS hA 0 rfl 0 rfl rfl hl.1 rfl (Nat.le_of_ble_eq_true rfl) d_law_345 ⟨Nat.le_refl _, Nat.le_refl _⟩ (fun u H locs hwc hP hD hS => ?_)
  have hP : va_P (dC, dI) classes (tt PX CX N fb g fn ft fs fl 0 wi now false ts tl lf ll ++ mm PM CM N tx lx nu ti si ro us bt w2 al now on tl2 ll2) H := hP
  have hD : va_D A (tt PX CX N fb g fn ft fs fl 0 wi now false ts tl lf ll ++ mm PM CM N tx lx nu ti si ro us bt w2 al now on tl2 ll2) := hD
  refine lv_aload_n hx hb d_law_348 rfl (lv_at hl 1 rfl) ?_
  have hP := fr_sw hP
  have hD := fr_swD hD
  refine tl_callv (mc_reset l dC dI PM CM N H.size tx lx nu ti si ro us bt w2 al now on tl2 ll2 (by omega) hro) ⟨hx, hb, hml, hown, hts⟩ (cwV 0 hts g_law_61 rfl rfl rfl (by decide +kernel) ⟨Nat.le_of_ble_eq_true rfl, Nat.le_of_ble_eq_true rfl⟩) hKm hP hD hS hA 1 rfl 0 rfl rfl hl.1 rfl (Nat.le_of_ble_eq_true rfl) d_law_349 ⟨Nat.le_refl _, Nat.le_refl _⟩ (fun u H locs hwm hP hD hS => ?_)
  obtain ⟨nu', ti', si', ro', us', w2'⟩ := u
  have hP : va_P (dC, dI) classes (mm PM CM N tx lx nu' ti' si' ro' us' bt w2' al now false tl2 ll2 ++ tt PX CX N fb g fn ft fs fl 0 wi now false ts tl lf ll) H := hP
  have hD : va_D A (mm PM CM N tx lx nu' ti' si' ro' us' bt w2' al now false tl2 ll2 ++ tt PX CX N fb g fn ft fs fl 0 wi now false ts tl lf ll) := hD
  have hP := fr_sw hP
  have hD := fr_swD hD
  refine lv_goto (tgt := 493) hx hb d_law_352 (by decide) ?_
  have J := jr_reset J hc hwm
  rw [hAe] at hD hS
  refine lv_iinc (v := nI (1 + 4 * (cn + 1))) (lv' := [(3, .int (nI (1 + 4 * (cn + 1)))), (2, .ref (PM 0)), (1, .ref (PX 0)), (0, .ref b)]) hx hb d_law_493 hl (k := 0) rfl (nI_4 _) (by decide) rfl (fun ls hl => ?_)
  refine lv_goto (tgt := 28) hx hb d_law_496 (by decide) ?_
  exact ih _ _ _ _ _ _ _ _ _ _ _ _ _ _ _ _ _ _ _ _ _ _ _ _ _ _ _ _ _ J hP hD hS hl

set_option maxHeartbeats 4000000 in
set_option maxRecDepth 100000 in
/-- the law: tick -/
theorem law_tick {p : Program} {l : Launch} {e : Env} {s : State} {m : MethodId} {below : List Frame} {meth : Method} {c : Code} {dC : Nat → ClassId} {dI : Nat → Nat → Nat} {b L : Nat} {xs : Nat → Int32} {N : Nat} {PX PM : Nat → Nat} {CX CM : Nat → ClassId} (F : LF p s m meth c dC dI b L xs CX CM) {cn : Nat} (ih : LH p l e s m below meth c dC dI b N PX PM CX CM (cn + 1)) (hc : cn < 512) (hi : 1 + 4 * cn + 4 ≤ L) (fb : Nat → Int32) (g : Nat → Nat) (fn ft : Nat → Int32) (fs fl : Nat → Nat) (w wi now : Nat) (on : Bool) (ts tl lf ll : Nat) (tx lx nu ti : Nat → Int32) (si ro : Nat → Nat) (us : Nat → Bool) (bt : Nat → Int32) (w2 al tl2 ll2 : Nat) (H : Heap) (locs : List Loc) (ls : Array Slot) (J : JR cn N fb g fn ft fs fl w wi now ts tl lf ll tx lx bt (nu, ti, si, ro, us, w2) al tl2 ll2) (hP : va_P (dC, dI) classes (tt PX CX N fb g fn ft fs fl w wi now on ts tl lf ll ++ mm PM CM N tx lx nu ti si ro us bt w2 al now on tl2 ll2) H) (hD : va_D (fun q : Nat => s.heap.size ≤ q) (tt PX CX N fb g fn ft fs fl w wi now on ts tl lf ll ++ mm PM CM N tx lx nu ti si ro us bt w2 al now on tl2 ll2)) (hS : va_S (fun q : Nat => s.heap.size ≤ q) s.heap H locs) (hl : lv_has ls 4 [(3, .int (nI (1 + 4 * cn))), (2, .ref (PM 0)), (1, .ref (PX 0)), (0, .ref b)]) : W p l e room_1 s m #[Value.ref b] below meth c H locs 600000 7302250 (lw_Z below #[Value.ref b] s) (F0 m 355 ls []) := by
  obtain ⟨hL, hx, hb, hr, hml, hown, hts, hX, hbl, hlocks, hKx, hKm⟩ := F
  obtain ⟨z1, z2, z3, z4, ⟨z5, z6, z7, hgw⟩, hfs, hfl, z8, z9, z10, z11, z12, z13, hro, hsi⟩ := jr_bd J
  obtain ⟨A, hAe⟩ : ∃ A : Nat → Prop, A = (fun q : Nat => s.heap.size ≤ q) := ⟨_, rfl⟩
  have hA : ∀ q : Nat, s.heap.size ≤ q → A q := fun q h => by rw [hAe]; exact h
  have hbA : ¬ A b := by rw [hAe]; exact Nat.not_le.mpr hbl
  rw [← hAe] at hD hS
  refine lv_aload_n hx hb d_law_355 rfl (lv_at hl 2 rfl) ?_
  refine tl_calli (c_tick l dC dI PX CX N H.size fb g fn ft fs fl w wi now on ts tl lf ll (by omega)) ⟨hx, hb, hml, hown, hts⟩ (cwV 0 hts g_law_62 rfl rfl rfl (by decide +kernel) ⟨Nat.le_of_ble_eq_true rfl, Nat.le_of_ble_eq_true rfl⟩) hKx hP hD hS hA 0 rfl 0 rfl rfl hl.1 rfl (Nat.le_of_ble_eq_true rfl) d_law_356 ⟨Nat.le_refl _, Nat.le_refl _⟩ (fun r1 u H locs hwc hP hD hS => ?_)
  have hP : va_P (dC, dI) classes (tt PX CX N fb g fn ft fs fl w wi (now + 1) on ts tl lf ll ++ mm PM CM N tx lx nu ti si ro us bt w2 al now on tl2 ll2) H := hP
  have hD : va_D A (tt PX CX N fb g fn ft fs fl w wi (now + 1) on ts tl lf ll ++ mm PM CM N tx lx nu ti si ro us bt w2 al now on tl2 ll2) := hD
  refine lv_aload_n hx hb d_law_359 rfl (lv_at hl 1 rfl) ?_
  have hP := fr_sw hP
  have hD := fr_swD hD
  refine tl_calli (mc_tick l dC dI PM CM N H.size tx lx nu ti si ro us bt w2 al now on tl2 ll2 (by omega)) ⟨hx, hb, hml, hown, hts⟩ (cwV 0 hts g_law_66 rfl rfl rfl (by decide +kernel) ⟨Nat.le_of_ble_eq_true rfl, Nat.le_of_ble_eq_true rfl⟩) hKm hP hD hS hA 1 rfl 0 rfl rfl hl.1 rfl (Nat.le_of_ble_eq_true rfl) d_law_360 ⟨Nat.le_refl _, Nat.le_refl _⟩ (fun r2 u H locs hwm hP hD hS => ?_)
  have hP : va_P (dC, dI) classes (mm PM CM N tx lx nu ti si ro us bt w2 al (now + 1) on tl2 ll2 ++ tt PX CX N fb g fn ft fs fl w wi (now + 1) on ts tl lf ll) H := hP
  have hD : va_D A (mm PM CM N tx lx nu ti si ro us bt w2 al (now + 1) on tl2 ll2 ++ tt PX CX N fb g fn ft fs fl w wi (now + 1) on ts tl lf ll) := hD
  have hP := fr_sw hP
  have hD := fr_swD hD
  have J := jr_tick J hc
  have he : r1 = r2 := by rw [hwc, hwm]
  refine lv_icmp_eq (tgt := 493) hx hb d_law_363 (by decide) (fun c_363 => ?_) (fun c_363 => ?_)
  · rw [hAe] at hD hS
    refine lv_iinc (v := nI (1 + 4 * (cn + 1))) (lv' := [(3, .int (nI (1 + 4 * (cn + 1)))), (2, .ref (PM 0)), (1, .ref (PX 0)), (0, .ref b)]) hx hb d_law_493 hl (k := 0) rfl (nI_4 _) (by decide) rfl (fun ls hl => ?_)
    refine lv_goto (tgt := 28) hx hb d_law_496 (by decide) ?_
    exact ih _ _ _ _ _ _ _ _ _ _ _ _ _ _ _ _ _ _ _ _ _ _ _ _ _ _ _ _ _ J hP hD hS hl
  · exact absurd he c_363
