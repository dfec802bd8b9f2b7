/-! The reference's object and its rows. -/
abbrev tys_M (C : Nat → ClassId) : List (ClassId × FieldType) := [(C 0, .byte), (C 1, .byte), (C 2, .int), (C 3, .int), (C 4, .int), (C 5, .int), (C 6, .boolean), (C 7, .byte)]
abbrev mm (P : Nat → Nat) (C : Nat → ClassId) (N : Nat) (tx lx nu ti : Nat → Int32) (si ro : Nat → Nat) (us : Nat → Bool) (bt : Nat → Int32) (w al now : Nat) (on : Bool) (tl ll : Nat) : va_W :=
  [(P 0, .inr (1, [.int (nI 0), .int (nI N), .int (nI now), .int (bI on), .int (nI al), .ref (P 1), .int (nI tl), .ref (P 2), .int (nI ll), .int (nI w), .ref (P 3), .ref (P 4), .ref (P 5), .ref (P 6), .ref (P 7), .ref (P 8)])),
   (P 1, .inl (C 0, 256, .inl tx)), (P 2, .inl (C 1, 256, .inl lx)), (P 3, .inl (C 2, 1024, .inl nu)), (P 4, .inl (C 3, 1024, .inl ti)), (P 5, .inl (C 4, 1024, .inl (fun j => nI (si j)))), (P 6, .inl (C 5, 1024, .inl (fun j => nI (ro j)))), (P 7, .inl (C 6, 1024, .inl (fun j => bI (us j)))), (P 8, .inl (C 7, 262144, .inl bt))]
section MGP
variable {p : Program} {l : Launch} {e : Env} {R : Room} {s : State} {m : MethodId} {args : Array Value} {below : List Frame} {meth : Method} {c : Code} {H : Heap} {locs : List Loc} {cells slots : Nat} {Q : State → Prop}
variable {cc : ByteArray} {pc : Nat} {ls : Array Slot} {rest : List Value} {D : va_G} {A : Nat → Prop} {tys : List (ClassId × FieldType)} {w0 : va_W} {H0 : Heap} {a idx : Nat} {fv : List Value} {v : Value} {cl : List vw_C}
theorem mg (hx : p.tables.exec = Jvm.exec) (hb : c.code = cc) (hts : ∀ w ∈ lw_g, w.before args s = true) (hown : s.vm.findClass R_TM = some m.cls) (hK : va_K D classes tys s) (hP : va_P D classes w0 H) (he : w0[0]? = some (a, .inr (1, fv))) (k : Nat) (hk : k < 16) (hr : (F_TM k).1 = R_TM) (hl : Cond.fieldLink R_TM idx R_TM (F_TM k).2.1 (F_TM k).2.2.1 ∈ lw_g) (hv : fv[k]? = some v) (hd : decode cc pc = .ok (.getfield idx, 3))
    (kk : W p l e R s m args below meth c H locs cells slots Q (F0 m (pc + 3) ls (v :: rest))) : W p l e R s m args below meth c H locs cells slots Q (F0 m pc ls (.ref a :: rest)) :=
  va_get (D := D) (ci := 1) (C := R_TM) (T := F_TM) (N := 16) hx hb hts i_TM hown hK hP 0 he rfl k hk (hts _ hl) (fun _ h => by rw [hr] at h; exact h) hv hd kk
theorem mp (hx : p.tables.exec = Jvm.exec) (hb : c.code = cc) (hts : ∀ w ∈ lw_g, w.before args s = true) (hown : s.vm.findClass R_TM = some m.cls) (hK : va_K D classes tys s) (hP : va_P D classes w0 H) (hD : va_D A w0) (hS : va_S A H0 H locs) (he : w0[0]? = some (a, .inr (1, fv))) (k : Nat) (hk : k < 16) (hr : (F_TM k).1 = R_TM) (hl : Cond.fieldLink R_TM idx R_TM (F_TM k).2.1 (F_TM k).2.2.1 ∈ lw_g) (hfin : (F_TM k).2.2.2 = false) {ty : FieldType} (hty : parseFieldDescriptor (F_TM k).2.2.1 = some ty) (hn : narrow ty v = v) (hf : fits ty v = true) (hlen : k < fv.length) (w1 : va_W) (hw : w0.set 0 (a, .inr (1, fv.set k v)) = w1) (hd : decode cc pc = .ok (.putfield idx, 3))
    (kk : ∀ (H1 : Heap) (locs1 : List Loc), va_P D classes w1 H1 → va_D A w1 → va_S A H0 H1 locs1 → W p l e R s m args below meth c H1 locs1 cells slots Q (F0 m (pc + 3) ls rest)) : W p l e R s m args below meth c H locs cells slots Q (F0 m pc ls (v :: .ref a :: rest)) := by
  subst hw
  exact va_put (D := D) (ci := 1) (C := R_TM) (T := F_TM) (N := 16) hx hb hts i_TM t_TM t_TM_ok n_TM hown hK hP hD hS 0 he rfl k hk (hts _ hl) (fun _ h => by rw [hr] at h; exact h) hfin hty hn hf hlen hd kk
theorem tb_zald (hx : p.tables.exec = Jvm.exec) (hb : c.code = cc) (hK : va_K D cl tys s) (hP : va_P D cl w0 H) (q0 t0 : Nat) {cA : ClassId} {n : Nat} {f : Nat → Int32} (ha : w0[q0]? = some (a, .inl (cA, n, .inl f))) (ht : tys[t0]? = some (cA, .boolean)) {i : Nat} (hi : i < n) (hn : n < 2 ^ 31) (hd : decode cc pc = .ok (.baload, 1))
    (kk : W p l e R s m args below meth c H locs cells slots Q (F0 m (pc + 1) ls (.int (f i) :: rest))) : W p l e R s m args below meth c H locs cells slots Q (F0 m pc ls (.int (nI i) :: .ref a :: rest)) := by
  refine va_zald hx hb hK hP q0 t0 ha ht (vp_in_nI hi hn) hd ?_
  rw [nI_clamp (Nat.lt_trans hi hn)]
  exact kk
theorem tb_zastB (hx : p.tables.exec = Jvm.exec) (hb : c.code = cc) (hK : va_K D cl tys s) (hP : va_P D cl w0 H) (hD : va_D A w0) (hS : va_S A H0 H locs) (q0 t0 : Nat) {cA : ClassId} {n : Nat} {g : Nat → Bool} (ha : w0[q0]? = some (a, .inl (cA, n, .inl (fun j => bI (g j))))) (ht : tys[t0]? = some (cA, .boolean)) {i : Nat} {x : Bool} (hi : i < n) (hn : n < 2 ^ 31) (w1 : va_W) (hw : w0.set q0 (a, .inl (cA, n, .inl (fun j => bI (va_up g i x j)))) = w1) (hd : decode cc pc = .ok (.bastore, 1))
    (kk : ∀ (H1 : Heap) (locs1 : List Loc), va_P D cl w1 H1 → va_D A w1 → va_S A H0 H1 locs1 → W p l e R s m args below meth c H1 locs1 cells slots Q (F0 m (pc + 1) ls rest)) : W p l e R s m args below meth c H locs cells slots Q (F0 m pc ls (.int (bI x) :: .int (nI i) :: .ref a :: rest)) := by
  refine va_zast hx hb hK hP hD hS q0 t0 ha ht (vp_in_nI hi hn) hd ?_
  rw [nI_clamp (Nat.lt_trans hi hn), upd_bI, hw]
  exact kk
end MGP
