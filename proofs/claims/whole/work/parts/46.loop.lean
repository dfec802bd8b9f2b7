set_option maxHeartbeats 4000000 in
set_option maxRecDepth 100000 in
/-- the loop of the law -/
theorem law_loop {p : Program} {l : Launch} {e : Env} {s : State} {m : MethodId} {below : List Frame} {meth : Method} {c : Code} {dC : Nat → ClassId} {dI : Nat → Nat → Nat} {b L : Nat} {xs : Nat → Int32} {N : Nat} {PX PM : Nat → Nat} {CX CM : Nat → ClassId} (F : LF p s m meth c dC dI b L xs CX CM) : ∀ (n cn : Nat), cn + n = 513 → LH p l e s m below meth c dC dI b N PX PM CX CM cn := by
  intro n
  induction n with
  | zero =>
    intro cn hn
    intro fb g fn ft fs fl w wi now on ts tl lf ll tx lx nu ti si ro us bt w2 al tl2 ll2 H locs ls J
    have := (jr_bd J).2.2.2.2.2.2.2.2.1
    omega
  | succ n ihn =>
    intro cn hn
    have ih : LH p l e s m below meth c dC dI b N PX PM CX CM (cn + 1) := ihn (cn + 1) (by omega)
    intro fb g fn ft fs fl w wi now on ts tl lf ll tx lx nu ti si ro us bt w2 al tl2 ll2 H locs ls J hP hD hS hl
    obtain ⟨hL, hx, hb, hr, hml, hown, hts, hX, hbl, hlocks, hKx, hKm⟩ := id F
    have hcn := (jr_bd J).2.2.2.2.2.2.2.2.1
    have hbA : ¬ (fun q : Nat => s.heap.size ≤ q) b := Nat.not_le.mpr hbl
    refine lv_iload_n hx hb d_law_28 rfl (lv_at hl 0 rfl) ?_
    refine lv_aload_n hx hb d_law_29 rfl (lv_at hl 3 rfl) ?_
    refine va_slen hx hb hX hbl hbA hS d_law_30 ?_
    refine lv_iconst (v := nI 4) hx hb d_law_31 (by decide) ?_
    refine lv_isub hx hb d_law_32 ?_
    refine lv_icmp_gt (tgt := 499) hx hb d_law_33 (by decide) (fun c_33 => ?_) (fun c_33 => ?_)
    · refine lv_iconst (v := 1) hx hb d_law_499 (by decide) ?_
      refine va_forget (fun q hq => hS.2.2 q hq) ?_
      exact lw_ret hx hb hr hlocks d_law_500
    · have hi : 1 + 4 * cn + 4 ≤ L := by
        have q1 : ¬ (nI L - nI 4).toInt < (nI (1 + 4 * cn)).toInt := fun q => c_33 (Int32.lt_iff_toInt_lt.mpr q)
        rw [pk_sub_toInt (by omega) (by omega), nI_toInt (by omega)] at q1
        omega
      have hc : cn < 512 := by omega
      refine lv_aload_n hx hb d_law_36 rfl (lv_at hl 3 rfl) ?_
      refine lv_iload_n hx hb d_law_37 rfl (lv_at hl 0 rfl) ?_
      refine va_sld hx hb hX hbl hbA hS (vp_in_nI (n := 1 + 4 * cn) (by omega) (by omega)) d_law_38 ?_
      refine lv_bipush (v := nI 15) hx hb d_law_39 (by decide) ?_
      refine lv_iand hx hb d_law_41 ?_
      obtain ⟨k, hk, ek⟩ := pk_andE (xs (nI (1 + 4 * cn)).toNatClampNeg) (m := nI 15) 4 (by decide)
      refine tp_i (nI k) ek ?_
      by_cases e0 : k = 0
      · subst e0
        refine lv_tableIn (tgt := 116) hx hb d_law_42 (by decide) (by decide) rfl (by decide) ?_
        exact law_put F ih hc hi _ _ _ _ _ _ _ _ _ _ _ _ _ _ _ _ _ _ _ _ _ _ _ _ _ _ H locs ls J hP hD hS hl
      by_cases e1 : k = 1
      · subst e1
        refine lv_tableIn (tgt := 139) hx hb d_law_42 (by decide) (by decide) rfl (by decide) ?_
        exact law_insert F ih hc hi _ _ _ _ _ _ _ _ _ _ _ _ _ _ _ _ _ _ _ _ _ _ _ _ _ _ H locs ls J hP hD hS hl
      by_cases e2 : k = 2
      · subst e2
        refine lv_tableIn (tgt := 172) hx hb d_law_42 (by decide) (by decide) rfl (by decide) ?_
        exact law_remove F ih hc hi _ _ _ _ _ _ _ _ _ _ _ _ _ _ _ _ _ _ _ _ _ _ _ _ _ _ H locs ls J hP hD hS hl
      by_cases e3 : k = 3
      · subst e3
        refine lv_tableIn (tgt := 195) hx hb d_law_42 (by decide) (by decide) rfl (by decide) ?_
        exact law_removeSpan F ih hc hi _ _ _ _ _ _ _ _ _ _ _ _ _ _ _ _ _ _ _ _ _ _ _ _ _ _ H locs ls J hP hD hS hl
      by_cases e4 : k = 4
      · subst e4
        refine lv_tableIn (tgt := 228) hx hb d_law_42 (by decide) (by decide) rfl (by decide) ?_
        exact law_shift F ih hc hi _ _ _ _ _ _ _ _ _ _ _ _ _ _ _ _ _ _ _ _ _ _ _ _ _ _ H locs ls J hP hD hS hl
      by_cases e5 : k = 5
      · subst e5
        refine lv_tableIn (tgt := 251) hx hb d_law_42 (by decide) (by decide) rfl (by decide) ?_
        exact law_shiftSpan F ih hc hi _ _ _ _ _ _ _ _ _ _ _ _ _ _ _ _ _ _ _ _ _ _ _ _ _ _ H locs ls J hP hD hS hl
      by_cases e6 : k = 6
      · subst e6
        refine lv_tableIn (tgt := 294) hx hb d_law_42 (by decide) (by decide) rfl (by decide) ?_
        exact law_enable F ih hc hi _ _ _ _ _ _ _ _ _ _ _ _ _ _ _ _ _ _ _ _ _ _ _ _ _ _ H locs ls J hP hD hS hl
      by_cases e7 : k = 7
      · subst e7
        refine lv_tableIn (tgt := 331) hx hb d_law_42 (by decide) (by decide) rfl (by decide) ?_
        exact law_isOn F ih hc hi _ _ _ _ _ _ _ _ _ _ _ _ _ _ _ _ _ _ _ _ _ _ _ _ _ _ H locs ls J hP hD hS hl
      by_cases e8 : k = 8
      · subst e8
        refine lv_tableIn (tgt := 344) hx hb d_law_42 (by decide) (by decide) rfl (by decide) ?_
        exact law_reset F ih hc hi _ _ _ _ _ _ _ _ _ _ _ _ _ _ _ _ _ _ _ _ _ _ _ _ _ _ H locs ls J hP hD hS hl
      by_cases e9 : k = 9
      · subst e9
        refine lv_tableIn (tgt := 355) hx hb d_law_42 (by decide) (by decide) rfl (by decide) ?_
        exact law_tick F ih hc hi _ _ _ _ _ _ _ _ _ _ _ _ _ _ _ _ _ _ _ _ _ _ _ _ _ _ H locs ls J hP hD hS hl
      by_cases e10 : k = 10
      · subst e10
        refine lv_tableIn (tgt := 368) hx hb d_law_42 (by decide) (by decide) rfl (by decide) ?_
        exact law_leave F ih hc hi _ _ _ _ _ _ _ _ _ _ _ _ _ _ _ _ _ _ _ _ _ _ _ _ _ _ H locs ls J hP hD hS hl
      by_cases e11 : k = 11
      · subst e11
        refine lv_tableIn (tgt := 381) hx hb d_law_42 (by decide) (by decide) rfl (by decide) ?_
        exact law_left F ih hc hi _ _ _ _ _ _ _ _ _ _ _ _ _ _ _ _ _ _ _ _ _ _ _ _ _ _ H locs ls J hP hD hS hl
      by_cases e12 : k = 12
      · subst e12
        refine lv_tableIn (tgt := 404) hx hb d_law_42 (by decide) (by decide) rfl (by decide) ?_
        exact law_count F ih hc hi _ _ _ _ _ _ _ _ _ _ _ _ _ _ _ _ _ _ _ _ _ _ _ _ _ _ H locs ls J hP hD hS hl
      by_cases e13 : k = 13
      · subst e13
        refine lv_tableIn (tgt := 427) hx hb d_law_42 (by decide) (by decide) rfl (by decide) ?_
        exact law_about F ih hc hi _ _ _ _ _ _ _ _ _ _ _ _ _ _ _ _ _ _ _ _ _ _ _ _ _ _ H locs ls J hP hD hS hl
      by_cases e14 : k = 14
      · subst e14
        refine lv_tableIn (tgt := 460) hx hb d_law_42 (by decide) (by decide) rfl (by decide) ?_
        exact law_byteAt F ih hc hi _ _ _ _ _ _ _ _ _ _ _ _ _ _ _ _ _ _ _ _ _ _ _ _ _ _ H locs ls J hP hD hS hl
      have e15 : k = 15 := by omega
      subst e15
      refine lv_tableOut (tgt := 493) hx hb d_law_42 (by decide) (by decide) ?_
      refine lv_iinc (v := nI (1 + 4 * (cn + 1))) (lv' := [(3, .int (nI (1 + 4 * (cn + 1)))), (2, .ref (PM 0)), (1, .ref (PX 0)), (0, .ref b)]) hx hb d_law_493 hl (k := 0) rfl (nI_4 _) (by decide) rfl (fun ls hl => ?_)
      refine lv_goto (tgt := 28) hx hb d_law_496 (by decide) ?_
      exact ih _ _ _ _ _ _ _ _ _ _ _ _ _ _ _ _ _ _ _ _ _ _ _ _ _ _ _ _ _ (jr_c J hc) hP hD hS hl
