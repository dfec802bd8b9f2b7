set_option maxHeartbeats 4000000 in
set_option maxRecDepth 100000 in
/-- THE LAW, from its entry -/
theorem whole_start {p : Program} {e : Env} {s : State} {m : MethodId} {below : List Frame} {meth : Method} {c : Code} (l : Launch) {b L : Nat} {xs : Nat → Int32} (hL : L ≤ 2049) (C0 : lw_At p s m meth c b L xs) : W p l e room_1 s m #[Value.ref b] below meth c s.heap [] 0 0 (lw_Z below #[Value.ref b] s) (entryFrame m ([Value.ref b] : List Value).toArray 4) := by
  obtain ⟨hx, hb, hr, hml, hown, hts0, hX, hbl, hlocks, hgv⟩ := id C0
  have hts := lw_gt hts0
  have hA : ∀ q : Nat, s.heap.size ≤ q → (fun q : Nat => s.heap.size ≤ q) q := fun _ h => h
  have hbA : ¬ (fun q : Nat => s.heap.size ≤ q) b := Nat.not_le.mpr hbl
  obtain ⟨c0, iS0, hKn0⟩ := u_known (C := R_TT) (T := F_TT) (N := 14) (n := 14) hts i_TT (hts _ ns_TT)
  obtain ⟨c1, iS1, hKn1⟩ := u_known (C := R_TM) (T := F_TM) (N := 16) (n := 16) hts i_TM (hts _ ns_TM)
  obtain ⟨dC, dI, hKc⟩ : ∃ (dC : Nat → ClassId) (dI : Nat → Nat → Nat), ∀ (k : Nat) (q : vw_C), classes[k]? = some q → u_Kn s q.1 q.2.1 q.2.2 (dC k) (dI k) := by
    refine ⟨fun k => if k = 0 then c0 else c1, fun k => if k = 0 then iS0 else iS1, ?_⟩
    intro k q hq
    match k, hq with
    | 0, hq => cases hq; exact hKn0
    | 1, hq => cases hq; exact hKn1
    | k + 2, hq => simp [classes] at hq
  have hS : va_S (fun q : Nat => s.heap.size ≤ q) s.heap s.heap [] := va_S.rf
  have hK : va_K (dC, dI) classes [] s := ⟨hKc, fun k q h => by simp at h⟩
  have hP : va_P (dC, dI) classes [] s.heap := fun k q h => by simp at h
  have hD : va_D (fun q : Nat => s.heap.size ≤ q) [] := ⟨fun i j p q h => by simp at h, fun k q h => by simp at h⟩
  have hl := lv_entry ([.ref b]) (n := 4) (Nat.le_of_ble_eq_true rfl)
  rw [lg_entry_eq]
  generalize (lg_sl ([.ref b]) ++ List.replicate (4 - (lg_sl ([.ref b])).length) Slot.unset).toArray = ls at hl ⊢
  have hl : lv_has ls 4 [(0, .ref b)] := hl
  obtain ⟨most, hmost⟩ : ∃ z : Int32, z = (if 0 < L then xs 0 else 0) := ⟨_, rfl⟩
  have hcell := c_cell l b L xs hL
  rw [← hmost] at hcell
  obtain ⟨N, hN1, hN2, hcap⟩ := cap_N most
  have hpre : ∀ (H : Heap) (locs : List Loc), va_S (fun q : Nat => s.heap.size ≤ q) s.heap H locs → PreS s H (va_Pc [.ref b, .int (nI 0)] (fun U => va_X b L xs U U.heap)) [.ref b, .int (nI 0)] := by
    intro H locs hS
    refine ⟨fun a U g mk q => ⟨q.1, va_X.moved (u := U) (U := U.calling g mk a) (Vm.Alike.refl U.vm) q.2⟩, fun U hU hW => ⟨rfl, ?_⟩⟩
    show va_X b L xs U U.heap
    rw [hU]
    exact va_X.moved hW.alike (hX.kept (hS.2.1 b hbl hbA))
  refine va_new (ci := 0) (fs := [.null, .null, .null, .null, .null, .null, .int (nI 0), .int (nI 0), .int (nI 0), .int (bI false), .int (nI 0), .int (nI 0), .int (nI 0), .int (nI 0)]) (C := R_TT) (T := F_TT) (N := 14) hx hb hts i_TT t_TT t_TT_ok hown (hts _ cl_TT) (hts _ ns_TT) (hts _ in_TT) hK hP hD hS hA rfl (fun j hj => by rcases (show j = 0 ∨ j = 1 ∨ j = 2 ∨ j = 3 ∨ j = 4 ∨ j = 5 ∨ j = 6 ∨ j = 7 ∨ j = 8 ∨ j = 9 ∨ j = 10 ∨ j = 11 ∨ j = 12 ∨ j = 13 by omega) with rfl | rfl | rfl | rfl | rfl | rfl | rfl | rfl | rfl | rfl | rfl | rfl | rfl | rfl <;> rfl) (Nat.le_of_ble_eq_true rfl) (Nat.le_of_ble_eq_true rfl) d_law_0 (fun q0 H hP hD hS => ?_)
  have hP : va_P (dC, dI) classes ([(q0, .inr (0, [.null, .null, .null, .null, .null, .null, .int (nI 0), .int (nI 0), .int (nI 0), .int (bI false), .int (nI 0), .int (nI 0), .int (nI 0), .int (nI 0)]))] ++ []) H := hP
  have hD : va_D (fun q : Nat => s.heap.size ≤ q) ([(q0, .inr (0, [.null, .null, .null, .null, .null, .null, .int (nI 0), .int (nI 0), .int (nI 0), .int (bI false), .int (nI 0), .int (nI 0), .int (nI 0), .int (nI 0)]))] ++ []) := hD
  refine lv_dup hx hb d_law_3 rfl ?_
  refine lv_aload_n hx hb d_law_4 rfl (lv_at hl 0 rfl) ?_
  refine lv_iconst (v := nI 0) hx hb d_law_5 (by decide) ?_
  refine W.callR (W.runS (As := [.ref b, .int (nI 0)]) (rest := [.ref q0, .ref q0]) ⟨hx, hb, hml, hown, hts⟩ hcell (cwS 2 hts g_law_9 rfl rfl rfl (by decide +kernel) ⟨Nat.le_of_ble_eq_true rfl, Nat.le_of_ble_eq_true rfl⟩) (hpre _ _ hS) rfl rfl hl.1 rfl (lv_room (Nat.le_of_ble_eq_true rfl)) d_law_6 ⟨Nat.le_of_ble_eq_true rfl, Nat.le_of_ble_eq_true rfl⟩) ?_
  refine W.eq (g2 := F0 m 9 ls [.int most, .ref q0, .ref q0]) rfl ?_
  refine tl_callI (c_init l dC dI q0 H.size most N hN1 hN2 hcap) ⟨hx, hb, hml, hown, hts⟩ (cwI 1 hts (gd0 co_TT_init) rfl rfl rfl (hts _ in_TT) (hts _ ml_law_15) (hts _ im_TT_init) rfl (by decide +kernel) ⟨Nat.le_of_ble_eq_true rfl, Nat.le_of_ble_eq_true rfl⟩) hK hP hD hS hA rfl hl.1 rfl (Nat.le_of_ble_eq_true rfl) d_law_9 ⟨Nat.le_of_ble_eq_true rfl, Nat.le_of_ble_eq_true rfl⟩ (fun u H2 locs2 hpost hP2 hD2 hKx hS2 => ?_)
  obtain ⟨PX, CX⟩ := u
  have hpost : PX 0 = q0 := hpost
  subst hpost
  clear hP hD hS
  have hP : va_P (dC, dI) classes (tt PX CX N (fun _ => 0) (g_id N) (fun _ => 0) (fun _ => 0) (fun _ => 0) (fun _ => 0) 0 0 0 false 0 0 0 0 ++ []) H2 := hP2
  have hD : va_D (fun q : Nat => s.heap.size ≤ q) (tt PX CX N (fun _ => 0) (g_id N) (fun _ => 0) (fun _ => 0) (fun _ => 0) (fun _ => 0) 0 0 0 false 0 0 0 0 ++ []) := hD2
  have hS := hS2
  have hKx : va_K (dC, dI) classes (tys_T CX) s := hKx
  rw [List.append_nil] at hP hD
  refine lv_astore_n (lv' := [(1, .ref (PX 0)), (0, .ref b)]) hx hb d_law_12 rfl hl (by decide) rfl (fun ls hl => ?_)
  refine va_new (ci := 1) (fs := [.int (nI 0), .int (nI 0), .int (nI 0), .int (bI false), .int (nI 0), .null, .int (nI 0), .null, .int (nI 0), .int (nI 0), .null, .null, .null, .null, .null, .null]) (C := R_TM) (T := F_TM) (N := 16) hx hb hts i_TM t_TM t_TM_ok hown (hts _ cl_TM) (hts _ ns_TM) (hts _ in_TM) hK hP hD hS hA rfl (fun j hj => by rcases (show j = 0 ∨ j = 1 ∨ j = 2 ∨ j = 3 ∨ j = 4 ∨ j = 5 ∨ j = 6 ∨ j = 7 ∨ j = 8 ∨ j = 9 ∨ j = 10 ∨ j = 11 ∨ j = 12 ∨ j = 13 ∨ j = 14 ∨ j = 15 by omega) with rfl | rfl | rfl | rfl | rfl | rfl | rfl | rfl | rfl | rfl | rfl | rfl | rfl | rfl | rfl | rfl <;> rfl) (Nat.le_of_ble_eq_true rfl) (Nat.le_of_ble_eq_true rfl) d_law_13 (fun q1 H hP hD hS => ?_)
  have hP : va_P (dC, dI) classes ([(q1, .inr (1, [.int (nI 0), .int (nI 0), .int (nI 0), .int (bI false), .int (nI 0), .null, .int (nI 0), .null, .int (nI 0), .int (nI 0), .null, .null, .null, .null, .null, .null]))] ++ tt PX CX N (fun _ => 0) (g_id N) (fun _ => 0) (fun _ => 0) (fun _ => 0) (fun _ => 0) 0 0 0 false 0 0 0 0) H := fr_sw hP
  have hD : va_D (fun q : Nat => s.heap.size ≤ q) ([(q1, .inr (1, [.int (nI 0), .int (nI 0), .int (nI 0), .int (bI false), .int (nI 0), .null, .int (nI 0), .null, .int (nI 0), .int (nI 0), .null, .null, .null, .null, .null, .null]))] ++ tt PX CX N (fun _ => 0) (g_id N) (fun _ => 0) (fun _ => 0) (fun _ => 0) (fun _ => 0) 0 0 0 false 0 0 0 0) := fr_swD hD
  refine lv_dup hx hb d_law_16 rfl ?_
  refine lv_aload_n hx hb d_law_17 rfl (lv_at hl 1 rfl) ?_
  refine lv_iconst (v := nI 0) hx hb d_law_18 (by decide) ?_
  refine W.callR (W.runS (As := [.ref b, .int (nI 0)]) (rest := [.ref q1, .ref q1]) ⟨hx, hb, hml, hown, hts⟩ hcell (cwS 2 hts g_law_9 rfl rfl rfl (by decide +kernel) ⟨Nat.le_of_ble_eq_true rfl, Nat.le_of_ble_eq_true rfl⟩) (hpre _ _ hS) rfl rfl hl.1 rfl (lv_room (Nat.le_of_ble_eq_true rfl)) d_law_19 ⟨Nat.le_of_ble_eq_true rfl, Nat.le_of_ble_eq_true rfl⟩) ?_
  refine W.eq (g2 := F0 m 22 ls [.int most, .ref q1, .ref q1]) rfl ?_
  refine tl_callI (mc_init l dC dI q1 H.size most N hcap) ⟨hx, hb, hml, hown, hts⟩ (cwI 1 hts (gd0 co_TM_init) rfl rfl rfl (hts _ in_TM) (hts _ ml_law_20) (hts _ im_TM_init) rfl (by decide +kernel) ⟨Nat.le_of_ble_eq_true rfl, Nat.le_of_ble_eq_true rfl⟩) hK hP hD hS hA rfl hl.1 rfl (Nat.le_of_ble_eq_true rfl) d_law_22 ⟨Nat.le_of_ble_eq_true rfl, Nat.le_of_ble_eq_true rfl⟩ (fun u H4 locs4 hpost hP4 hD4 hKm hS4 => ?_)
  obtain ⟨PM, CM⟩ := u
  have hpost : PM 0 = q1 := hpost
  subst hpost
  clear hP hD hS
  have hP : va_P (dC, dI) classes (mm PM CM N (fun _ => 0) (fun _ => 0) (fun _ => 0) (fun _ => 0) (fun _ => 0) (fun _ => 0) (fun _ => false) (fun _ => 0) 0 0 0 false 0 0 ++ tt PX CX N (fun _ => 0) (g_id N) (fun _ => 0) (fun _ => 0) (fun _ => 0) (fun _ => 0) 0 0 0 false 0 0 0 0) H4 := hP4
  have hD : va_D (fun q : Nat => s.heap.size ≤ q) (mm PM CM N (fun _ => 0) (fun _ => 0) (fun _ => 0) (fun _ => 0) (fun _ => 0) (fun _ => 0) (fun _ => false) (fun _ => 0) 0 0 0 false 0 0 ++ tt PX CX N (fun _ => 0) (g_id N) (fun _ => 0) (fun _ => 0) (fun _ => 0) (fun _ => 0) 0 0 0 false 0 0 0 0) := hD4
  have hS := hS4
  have hKm : va_K (dC, dI) classes (tys_M CM) s := hKm
  refine lv_astore_n (lv' := [(2, .ref (PM 0)), (1, .ref (PX 0)), (0, .ref b)]) hx hb d_law_25 rfl hl (by decide) rfl (fun ls hl => ?_)
  refine lv_iconst (v := nI 1) hx hb d_law_26 (by decide) ?_
  refine lv_istore_n (lv' := [(3, .int (nI 1)), (2, .ref (PM 0)), (1, .ref (PX 0)), (0, .ref b)]) hx hb d_law_27 rfl hl (by decide) rfl (fun ls hl => ?_)
  refine W.widen (k := 600000) (n := 7302250) (Nat.le_of_ble_eq_true rfl) (Nat.le_of_ble_eq_true rfl) ?_
  have F : LF p s m meth c dC dI b L xs CX CM := ⟨hL, hx, hb, hr, hml, hown, hts, hX, hbl, hlocks, hKx, hKm⟩
  exact law_loop F 513 0 rfl _ _ _ _ _ _ _ _ _ _ _ _ _ _ _ _ _ _ _ _ _ _ _ _ _ _ H4 locs4 ls (jr_new N hN1 hN2) (fr_sw hP) (fr_swD hD) hS hl
