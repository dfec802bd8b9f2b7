/-! Two worlds side by side, and calls that get one of them. -/
section TF
variable {D : va_G} {cl : List vw_C} {A : Nat → Prop} {wa wb w1 : va_W} {H H1 : Heap}
theorem fr_gr {α : Type} {a b : List α} {k : Nat} {q : α} (h : b[k]? = some q) : (a ++ b)[a.length + k]? = some q := by
  rw [List.getElem?_append_right (by omega)]
  rw [show a.length + k - a.length = k by omega]
  exact h
theorem fr_gl {α : Type} {a b : List α} {k : Nat} {q : α} (h : a[k]? = some q) : (a ++ b)[k]? = some q := by
  have hk := (List.getElem?_eq_some_iff.mp h).1
  rw [List.getElem?_append_left hk]
  exact h
theorem fr_Pr (hP : va_P D cl (wa ++ wb) H) : va_P D cl wb H := fun _ q h => hP _ q (fr_gr h)
theorem fr_Pl (hP : va_P D cl (wa ++ wb) H) : va_P D cl wa H := fun _ q h => hP _ q (fr_gl h)
theorem fr_Dr (hD : va_D A (wa ++ wb)) : va_D A wb := ⟨fun i j x y hi hj e => by
  have := hD.1 _ _ x y (fr_gr hi) (fr_gr hj) e
  omega, fun _ q h => hD.2 _ q (fr_gr h)⟩
theorem fr_Dl (hD : va_D A (wa ++ wb)) : va_D A wa := ⟨fun i j x y hi hj e => hD.1 _ _ x y (fr_gl hi) (fr_gl hj) e, fun _ q h => hD.2 _ q (fr_gl h)⟩
theorem fr_ne (hD : va_D A (wa ++ wb)) {i j : Nat} {x y : Nat × va_E} (hi : wa[i]? = some x) (hj : wb[j]? = some y) : x.1 ≠ y.1 := fun e => by
  have h1 := hD.1 _ _ x y (fr_gl hi) (fr_gr hj) e
  have h2 := (List.getElem?_eq_some_iff.mp hi).1
  omega
theorem fr_sw (hP : va_P D cl (wa ++ wb) H) : va_P D cl (wb ++ wa) H := (fr_Pr hP).app (fr_Pl hP)
theorem fr_swD (hD : va_D A (wa ++ wb)) : va_D A (wb ++ wa) := (fr_Dr hD).app (fr_Dl hD) (fun _ _ _ _ h1 h2 e => fr_ne hD h2 h1 e.symm)
/-- behind a call that got the left world -/
theorem fr_l (hP : va_P D cl (wa ++ wb) H) (hD : va_D A (wa ++ wb)) (hk : ∀ q : Nat, q < H.size → ¬ va_A wa H.size q → H1[q]? = H[q]?) (hF : ∀ q, va_A wa H.size q → A q) (hP1 : va_P D cl w1 H1) (hD1 : va_D (va_A wa H.size) w1) : va_P D cl (w1 ++ wb) H1 ∧ va_D A (w1 ++ wb) := by
  have apart : ∀ (k : Nat) (q : Nat × va_E), wb[k]? = some q → q.1 < H.size ∧ ¬ va_A wa H.size q.1 := by
    intro k q h
    have hl := (fr_Pr hP k q h).lt
    refine ⟨hl, fun h2 => ?_⟩
    rcases h2 with ⟨k2, e, h2⟩ | h2
    · exact fr_ne hD h2 h rfl
    · omega
  refine ⟨hP1.app ((fr_Pr hP).kept (fun k q h => hk q.1 (apart k q h).1 (apart k q h).2)), va_D.app (hD1.weaken (fun _ _ _ h => hF _ h)) (fr_Dr hD) (fun i j x y hx hy hxy => (apart j y hy).2 ?_)⟩
  rw [← hxy]
  exact hD1.2 i x hx
theorem fr_Kl {ta tb : List (ClassId × FieldType)} {U : State} (h : va_K D cl (ta ++ tb) U) : va_K D cl ta U := ⟨h.1, fun _ q hk => h.2 _ q (fr_gl hk)⟩
theorem fr_Kr {ta tb : List (ClassId × FieldType)} {U : State} (h : va_K D cl (ta ++ tb) U) : va_K D cl tb U := ⟨h.1, fun _ q hk => h.2 _ q (fr_gr hk)⟩
end TF
section TG
variable {p : Program} {l : Launch} {e : Env} {R : Room} {s : State} {m : MethodId} {args : Array Value} {below : List Frame} {meth : Method} {c : Code} {H : Heap} {locs : List Loc} {cells slots : Nat} {Q : State → Prop}
variable {cc : ByteArray} {pc : Nat} {ls : Array Slot} {rest : List Value} {D : va_G} {cl : List vw_C} {A : Nat → Prop} {tys : List (ClassId × FieldType)} {wa wb : va_W}
variable {y : MethodName} {ws ws' : List Cond} {bytes : ByteArray} {maxL nL n index mc ms : Nat} {ret : Option FieldType} {rm : Room} {Ts : List Cond} {own C : String} {b : Addr} {As st0 : List Value} {S : Type}
/-- a call that gets the left one of two worlds -/
theorem tl_calli {post : Int32 → S → Prop} {w1 : S → va_W} (hM : Met l y ws rm (va_Pc (.ref b :: As) (fun U => U.heap.size = H.size ∧ va_P D cl wa U.heap ∧ va_K D cl tys U ∧ va_D (fun _ => True) wa)) (va_Qi post (fun u t => va_P D cl (w1 u) t.heap ∧ va_K D cl tys t ∧ va_D (va_A wa H.size) (w1 u)) (va_A wa H.size)) mc ms (va_A wa H.size))
    (S0 : CallFix p m c cc nL s args Ts own) (cw : CallW R s args own C index y bytes maxL ret ws rm mc ms n) (hK : va_K D cl tys s) (hP : va_P D cl (wa ++ wb) H) (hD : va_D A (wa ++ wb)) (hS : va_S A s.heap H locs) (hA : ∀ q, s.heap.size ≤ q → A q)
    (ci : Nat) {T : u_T} {N : Nat} {fs : List Value} (hc : cl[ci]? = some (C, T, N)) (q0 : Nat) (he : wa[q0]? = some (b, .inr (ci, fs))) (hn : As.length = n) (hsize : ls.size = nL) (hstack : st0 = As.reverse ++ .ref b :: rest) (hW : (rest.map fun v => v.category).sum ≤ 8) (hdg : decode cc pc = .ok (.invokevirtual index, 3)) (hf : cells + mc ≤ R.cells ∧ slots + ms ≤ R.slots)
    (kk : ∀ (r : Int32) (u : S) (H1 : Heap) (locs1 : List Loc), post r u → va_P D cl (w1 u ++ wb) H1 → va_D A (w1 u ++ wb) → va_S A s.heap H1 locs1 → W p l e R s m args below meth c H1 locs1 (cells + mc) (slots + ms) Q (F0 m (pc + 3) ls (.int r :: rest))) : W p l e R s m args below meth c H locs cells slots Q (F0 m pc ls st0) := by
  have hFc := tb_own (fr_Dl hD) hS hA
  refine va_calli (va_runV (As := As) (rest := rest) S0 hM cw ⟨fun a U g mk q => by obtain ⟨q0, q1, qP, qK, qD⟩ := q; exact ⟨q0, q1, qP, va_K.moved (u := U) (U := U.calling g mk a) (Vm.Alike.refl U.vm) qK, qD⟩, va_recv hK (fr_Pl hP) (ci := ci) (q0 := q0) hc he, fun U hU hW => ⟨rfl, by rw [hU], by rw [hU]; exact fr_Pl hP, va_K.moved hW.alike hK, (fr_Dl hD).weaken (fun _ _ _ _ => trivial)⟩⟩ rfl hn hsize hstack (lv_room hW) hdg hf) hS (fun q _ h => hFc q h) hFc (fun r u t H1 locs1 ht hvm hw hB hz1 hk1 hS1 => ?_)
  obtain ⟨hP1, hK1, hD1⟩ := hB
  obtain ⟨hP2, hD2⟩ := fr_l hP hD hk1 hFc (by rw [← ht]; exact hP1) hD1
  exact kk r u H1 locs1 hw hP2 hD2 hS1
theorem tl_callv {post : S → Prop} {w1 : S → va_W} (hM : Met l y ws rm (va_Pc (.ref b :: As) (fun U => U.heap.size = H.size ∧ va_P D cl wa U.heap ∧ va_K D cl tys U ∧ va_D (fun _ => True) wa)) (va_Qv post (fun u t => va_P D cl (w1 u) t.heap ∧ va_K D cl tys t ∧ va_D (va_A wa H.size) (w1 u)) (va_A wa H.size)) mc ms (va_A wa H.size))
    (S0 : CallFix p m c cc nL s args Ts own) (cw : CallW R s args own C index y bytes maxL ret ws rm mc ms n) (hK : va_K D cl tys s) (hP : va_P D cl (wa ++ wb) H) (hD : va_D A (wa ++ wb)) (hS : va_S A s.heap H locs) (hA : ∀ q, s.heap.size ≤ q → A q)
    (ci : Nat) {T : u_T} {N : Nat} {fs : List Value} (hc : cl[ci]? = some (C, T, N)) (q0 : Nat) (he : wa[q0]? = some (b, .inr (ci, fs))) (hn : As.length = n) (hsize : ls.size = nL) (hstack : st0 = As.reverse ++ .ref b :: rest) (hW : (rest.map fun v => v.category).sum ≤ 8) (hdg : decode cc pc = .ok (.invokevirtual index, 3)) (hf : cells + mc ≤ R.cells ∧ slots + ms ≤ R.slots)
    (kk : ∀ (u : S) (H1 : Heap) (locs1 : List Loc), post u → va_P D cl (w1 u ++ wb) H1 → va_D A (w1 u ++ wb) → va_S A s.heap H1 locs1 → W p l e R s m args below meth c H1 locs1 (cells + mc) (slots + ms) Q (F0 m (pc + 3) ls rest)) : W p l e R s m args below meth c H locs cells slots Q (F0 m pc ls st0) := by
  have hFc := tb_own (fr_Dl hD) hS hA
  refine va_callv (va_runV (As := As) (rest := rest) S0 hM cw ⟨fun a U g mk q => by obtain ⟨q0, q1, qP, qK, qD⟩ := q; exact ⟨q0, q1, qP, va_K.moved (u := U) (U := U.calling g mk a) (Vm.Alike.refl U.vm) qK, qD⟩, va_recv hK (fr_Pl hP) (ci := ci) (q0 := q0) hc he, fun U hU hW => ⟨rfl, by rw [hU], by rw [hU]; exact fr_Pl hP, va_K.moved hW.alike hK, (fr_Dl hD).weaken (fun _ _ _ _ => trivial)⟩⟩ rfl hn hsize hstack (lv_room hW) hdg hf) hS (fun q _ h => hFc q h) hFc (fun u t H1 locs1 ht hvm hw hB hz1 hk1 hS1 => ?_)
  obtain ⟨hP1, hK1, hD1⟩ := hB
  obtain ⟨hP2, hD2⟩ := fr_l hP hD hk1 hFc (by rw [← ht]; exact hP1) hD1
  exact kk u H1 locs1 hw hP2 hD2 hS1
end TG
